section EvS7
theorem eM_ok' (k : Nat) (q : evM) (h : eM k = some q) : (¬ q.2.2.2.2.1 = 13 → Jvm.Cond.code q.1 q.2.1 q.2.2.1 q.2.2.2.1 ∈ eGW) ∧ plainName q.1.cls = true ∧ q.1.cls = eCn q.2.2.2.2.1 ∧ eOkB q.2.2.2.2.2.2.2.2 q.2.1 = true ∧ (eIni q = true → q.1.name = "<init>") ∧ q.2.2.1 ≤ 80 ∧ (q.1.cls ≠ "java/lang/invoke/MethodHandle" ∧ q.1.cls ≠ "java/lang/invoke/VarHandle") ∧ Jvm.Cond.initialized q.1.cls ∈ eGW := by
  obtain ⟨h1, ⟨h2, h3, h4⟩, h5, h6, h7⟩ := eM_ok k q h
  obtain ⟨c1, c2⟩ := eCls _ h3 h4
  have c3 := eClw _ h3
  rw [← h2] at c1 c2 c3
  exact ⟨h1, c1, h2, h5, h6, h7, c2, c3⟩
noncomputable def eWs (q : evM) : List Jvm.Cond := Jvm.Cond.code q.1 q.2.1 q.2.2.1 q.2.2.2.1 :: eGW
noncomputable def eRm (d : Nat) (q : evM) : Room := { frames := d + 1, cells := q.2.2.2.2.2.2.1, slots := q.2.2.2.2.2.2.2.1, locals := 100 * (d + 1) }
def ePc (D : va_G) (fo : evF) (tys : List (ClassId × FieldType)) (ws : va_W) (sz : Nat) (avs : List Value) : Array Value → State → Prop := va_Pc avs (fun U => U.heap.size = sz ∧ va_P D vwCl ws U.heap ∧ va_K D vwCl tys U ∧ va_D (fun _ => True) ws ∧ eFX (va_A ws sz) fo U U.heap)
def eQc (D : va_G) (fo : evF) (q : evM) (sg : List Int32) (ws : va_W) (sz : Nat) (k : evK) : Array Value → State → Outcome → State → Prop := fun _ st o t =>
  (∃ (v : Nat) (g' : evG) (sg' : List Int32) (tys' : List (ClassId × FieldType)) (ws' : va_W) (xo : Option Value), o = .returned xo ∧ k v g' = true ∧ ((q.2.2.2.1 = none ∧ xo = none) ∨ ∃ ty x, q.2.2.2.1 = some ty ∧ xo = some x ∧ eR (eAd ws') sg' fo v x) ∧ (∃ t, eAd ws' = eAd ws ++ t) ∧ (∃ t, sg' = sg ++ t) ∧ va_K D vwCl tys' t ∧ va_P D vwCl ws' t.heap ∧ va_D (va_A ws sz) ws' ∧ eHp fo sg' tys' g'.1 g'.2.1 ws' ∧ eE g'.2.2.1 sg') ∧ va_F (va_A ws sz) st t
/-- the arguments -/
def eLa (ad : List Nat) (sg : List Int32) (fo : evF) : List Nat → List Value → Prop
  | [], [] => True
  | v :: st, x :: xs => eR ad sg fo v x ∧ eLa ad sg fo st xs
  | _, _ => False
def eMt (l : Launch) (d : Nat) (q : evM) (vs : List Nat) (g : evG) (k : evK) : Prop := ∀ (D : va_G) (fo : evF) (sg : List Int32) (tys : List (ClassId × FieldType)) (ws : va_W) (sz : Nat) (avs : List Value), eLa (eAd ws) sg fo vs avs → eHp fo sg tys g.1 g.2.1 ws → eE g.2.2.1 sg → g.2.2.2 = (q.2.2.2.2.2.2.1, q.2.2.2.2.2.2.2.1) → eSum vs ≤ q.2.2.1 →
  Met l q.1 (eWs q) (eRm d q) (ePc D fo tys ws sz avs) (eQc D fo q sg ws sz k) q.2.2.2.2.2.2.1 q.2.2.2.2.2.2.2.1 (va_A ws sz)
def eCo (l : Launch) (dp : Nat) (cl : evC) : Prop := ∀ (mi : Nat) (q : evM) (vs : List Nat) (g : evG) (k : evK), eM mi = some q → ¬ q.2.2.2.2.1 = 13 → (∀ v g, eTg v = 7 → k v g = false) → cl mi vs g k = true → ∃ d, dp = d + 1 ∧ eMt l d q vs g k
def eRe (p : Program) (l : Launch) (e : Env) (R : Room) (s : State) (m : MethodId) (args : Array Value) (below : List Frame) (meth : Method) (c : Code) (Q : State → Prop) (D : va_G) (A : Nat → Prop) (fo : evF) (qm : evM) (k : evK) : Prop :=
  (∀ (v : Nat) (g : evG) (sg : List Int32) (tys : List (ClassId × FieldType)) (ws : va_W) (H : Heap) (locs : List Loc) (cells slots pc : Nat) (ls : Array Slot) (x : Int32) (ty : FieldType), eNow s D A fo g sg tys ws H locs → (∃ t, eAd ws = fo.2.1 ++ t) → (∃ t, sg = fo.2.2 ++ t) → cells + g.2.2.2.1 ≤ R.cells → slots + g.2.2.2.2 ≤ R.slots → k v g = true → eR (eAd ws) sg fo v (.int x) → qm.2.2.2.1 = some ty → narrow ty (.int x) = .int x → decode qm.2.1 pc = .ok (.ireturn, 1) → W p l e R s m args below meth c H locs cells slots Q (F0 m pc ls [.int x]))
  ∧ (∀ (g : evG) (sg : List Int32) (tys : List (ClassId × FieldType)) (ws : va_W) (H : Heap) (locs : List Loc) (cells slots pc : Nat) (ls : Array Slot), eNow s D A fo g sg tys ws H locs → (∃ t, eAd ws = fo.2.1 ++ t) → (∃ t, sg = fo.2.2 ++ t) → cells + g.2.2.2.1 ≤ R.cells → slots + g.2.2.2.2 ≤ R.slots → k 0 g = true → qm.2.2.2.1 = none → decode qm.2.1 pc = .ok (.return_, 1) → W p l e R s m args below meth c H locs cells slots Q (F0 m pc ls []))
  ∧ (∀ (L : Nat) (g : evG), k (Nat.add (Nat.mul 8 L) 7) g = true → ¬ L = 0 → qm.2.2.2.2.1 = 13 → eGo p l e R s m args below meth c Q D A fo qm 23 L [] g)
  ∧ ∀ (g : evG) (sg : List Int32) (tys : List (ClassId × FieldType)) (ws : va_W) (H : Heap) (locs : List Loc) (cells slots pc : Nat) (ls : Array Slot), eNow s D A fo g sg tys ws H locs → (∃ t, eAd ws = fo.2.1 ++ t) → (∃ t, sg = fo.2.2 ++ t) → ls.size = c.maxLocals → cells + g.2.2.2.1 ≤ R.cells → slots + g.2.2.2.2 ≤ R.slots → k 7 g = true → qm.2.2.2.2.1 = 11 → decode qm.2.1 pc = .ok (.new 152, 3) → decode qm.2.1 (pc + 3) = .ok (.dup, 1) → decode qm.2.1 (pc + 4) = .ok (.invokespecial 154, 3) → decode qm.2.1 (pc + 7) = .ok (.athrow, 1) → W p l e R s m args below meth c H locs cells slots Q (F0 m pc ls [])
theorem ePack_ok {ad : List Nat} {sg : List Int32} {fo : evF} : ∀ (vs : List Nat) (avs : List Value) (j L : Nat), eLa ad sg fo vs avs → ∀ i, eSl (ePack vs j L) i = eSl L i ∨ ∃ x, eR ad sg fo (eSl (ePack vs j L) i) x ∧ (i, x) ∈ lv_args j avs := by
  intro vs
  induction vs with
  | nil => intro avs j L h i; exact Or.inl rfl
  | cons v vs ih =>
    intro avs j L h i
    cases avs with
    | nil => exact h.elim
    | cons x avs =>
      obtain ⟨hv, ht⟩ := h
      have e : ePack (v :: vs) j L = ePack vs (Nat.add j (eCat v)) (eBl L j 1 v) := rfl
      have ec : (if x.category = 2 then j + 2 else j + 1) = Nat.add j (eCat v) := by
        have h1 := eR_cat hv
        rw [h1]
        unfold eCat
        cases Nat.beq (eTg v) 4
        · rfl
        · rfl
      rw [e]
      rcases ih avs (Nat.add j (eCat v)) (eBl L j 1 v) ht i with h1 | ⟨y, h1, h2⟩
      · rw [h1, eSl_set hv.1]
        by_cases hi : i = j
        · right
          subst hi
          rw [if_pos rfl]
          exact ⟨x, hv, List.mem_cons_self⟩
        · left
          rw [if_neg hi]
      · right
        refine ⟨y, h1, List.mem_cons_of_mem _ ?_⟩
        rw [ec]
        exact h2
theorem eLa_words {ad : List Nat} {sg : List Int32} {fo : evF} : ∀ (vs : List Nat) (avs : List Value), eLa ad sg fo vs avs → (lg_sl avs).length = eSum vs := by
  intro vs
  induction vs with
  | nil =>
    intro avs h
    cases avs with
    | nil => rfl
    | cons x avs => exact h.elim
  | cons v vs ih =>
    intro avs h
    cases avs with
    | nil => exact h.elim
    | cons x avs =>
      obtain ⟨hv, ht⟩ := h
      have hc := eR_cat hv
      have hi := ih avs ht
      have e : eSum (v :: vs) = eCat v + eSum vs := rfl
      rw [e, ← hi, ← hc]
      rcases lv_cat x with h1 | h1 <;> simp [lg_sl, h1] <;> omega
theorem eMt_of {l : Launch} {d mi : Nat} {q : evM} {vs : List Nat} {g : evG} {k : evK} (hq : eM mi = some q) (h13 : ¬ q.2.2.2.2.1 = 13) (hk7 : ∀ v g, eTg v = 7 → k v g = false)
    (hgo : ∀ (p : Program) (e : Env) (R : Room) (s : State) (m : MethodId) (args : Array Value) (below : List Frame) (meth : Method) (c : Code) (Q : State → Prop) (D : va_G) (A : Nat → Prop) (fo : evF), eFix p R s m args meth c A fo q d → eRe p l e R s m args below meth c Q D A fo q k → eGo p l e R s m args below meth c Q D A fo q 0 (ePack vs 0 0) [] g) : eMt l d q vs g k := by
  intro D fo sg tys ws sz avs ha hH hE hg hw
  obtain ⟨m1, m2, m3, m4, m5, m6, m7, m8⟩ := eM_ok' mi q hq
  refine Met.ofW (cc := q.2.1) (maxL := q.2.2.1) (ret := q.2.2.2.1) m2 rfl ?_
  intro p e s m args below meth c s₁ B hml hv
  obtain ⟨rfl, hsz, hP, hK, hD0, hX⟩ := hv
  have hts := atoms_spec (ws := eWs q) B.pre
  have hown : s.vm.findClass q.1.cls = some m.cls := findClass_of_methodNamed B.named
  have hin : meth.name = q.1.name := (name_of_methodNamed B.named B.method).1
  subst hsz
  have hD := hD0.self (sz := s.heap.size)
  have hA : ∀ z : Nat, s.heap.size ≤ z → va_A ws s.heap.size z := fun z h => Or.inr h
  have hF : eFix p (eRm d q) s m avs.toArray meth c (va_A ws s.heap.size) (fo.1, eAd ws, sg) q d := ⟨B.exec, B.bytes, hml, B.returns, by rw [← m3]; exact hown, fun w h => hts w (List.mem_cons_of_mem _ h), ⟨fun h => by rw [hin]; exact m5 h, fun h => absurd h h13⟩, B.notSynchronized, ⟨Nat.le_refl _, Nat.le_refl _⟩, hA, hX⟩
  have hl := lv_entry avs (n := q.2.2.1) (by rw [eLa_words vs avs ha]; exact hw)
  rw [lg_entry_eq]
  generalize (lg_sl avs ++ List.replicate (q.2.2.1 - (lg_sl avs).length) Slot.unset).toArray = ls at hl ⊢
  have hr1 : g.2.2.2.1 = q.2.2.2.2.2.2.1 := by rw [hg]
  have hr2 : g.2.2.2.2 = q.2.2.2.2.2.2.2.1 := by rw [hg]
  refine hgo p e (eRm d q) s m avs.toArray below meth c (MQ below (eQc D fo q sg ws s.heap.size k) avs.toArray s q.2.2.2.2.2.2.1 q.2.2.2.2.2.2.2.1 (va_A ws s.heap.size)) D (va_A ws s.heap.size) (fo.1, eAd ws, sg) hF ⟨?_, ?_, ?_, ?_⟩ sg tys ws s.heap [] 0 0 ls [] ⟨hK, hP, hD, va_S.rf, hH, hE⟩ ⟨_, hl, fun j hj => ?_⟩ ⟨⟨[], by simp⟩, ⟨[], by simp⟩⟩ (by show 0 + g.2.2.2.1 ≤ q.2.2.2.2.2.2.1; omega) (by show 0 + g.2.2.2.2 ≤ q.2.2.2.2.2.2.2.1; omega)
  · intro v g' sg' tys' ws' H locs cells slots pc ls' x ty hN h1 h2 h3 h4 h5 h6 h7 h8 h9
    have h3 : cells + g'.2.2.2.1 ≤ q.2.2.2.2.2.2.1 := h3
    have h4 : slots + g'.2.2.2.2 ≤ q.2.2.2.2.2.2.2.1 := h4
    refine W.widen (k := q.2.2.2.2.2.2.1) (n := q.2.2.2.2.2.2.2.1) (by omega) (by omega) ?_
    exact W.zret (ty := ty) B.exec B.bytes (by rw [B.returns]; exact h7) h8 (fun t ht hW => ⟨⟨v, g', sg', tys', ws', _, rfl, h5, Or.inr ⟨ty, _, h7, rfl, h6⟩, h1, h2, va_K.moved hW.alike hN.1, by rw [ht]; exact hN.2.1, hN.2.2.1, hN.2.2.2.2.1, hN.2.2.2.2.2⟩, hN.2.2.2.1.F ht⟩) hN.2.2.2.1.2.2 h9 B.notSynchronized
  · intro g' sg' tys' ws' H locs cells slots pc ls' hN h1 h2 h3 h4 h5 h7 h9
    have h3 : cells + g'.2.2.2.1 ≤ q.2.2.2.2.2.2.1 := h3
    have h4 : slots + g'.2.2.2.2 ≤ q.2.2.2.2.2.2.2.1 := h4
    refine W.widen (k := q.2.2.2.2.2.2.1) (n := q.2.2.2.2.2.2.2.1) (by omega) (by omega) ?_
    exact W.vret B.exec B.bytes (by rw [B.returns]; exact h7) (fun t ht hW => ⟨⟨0, g', sg', tys', ws', none, rfl, h5, Or.inl ⟨h7, rfl⟩, h1, h2, va_K.moved hW.alike hN.1, by rw [ht]; exact hN.2.1, hN.2.2.1, hN.2.2.2.2.1, hN.2.2.2.2.2⟩, hN.2.2.2.1.F ht⟩) hN.2.2.2.1.2.2 h9 B.notSynchronized
  · intro L g' h1
    rw [hk7 _ g' (e8 L 7 (by decide)).1] at h1
    cases h1
  · intro g' sg' tys' ws' H locs cells slots pc ls' hN h1 h2 h0 h3 h4 h5
    rw [hk7 7 g' rfl] at h5
    cases h5
  · rcases ePack_ok vs avs 0 0 ha j with h1 | h1
    · rw [h1] at hj
      have e0 : eSl 0 j = 0 := by show (0 >>> (72 * j)) % 4722366482869645213696 = 0; rw [Nat.zero_shiftRight]
      rw [e0] at hj
      exact absurd rfl hj
    · exact h1
end EvS7
