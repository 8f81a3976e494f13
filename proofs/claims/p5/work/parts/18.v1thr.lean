section EvS11
/-- words of the exception that no table keeps by itself -/
def eXw : List Jvm.Cond := [.declares ⟨"java/lang/RuntimeException", "<init>", "()V"⟩, .declares ⟨"java/lang/Exception", "<init>", "()V"⟩, .declares ⟨"java/lang/Throwable", "<init>", "()V"⟩, .castable "java/util/NoSuchElementException" "java/util/NoSuchElementException"]
abbrev eXL : List Jvm.Cond := vx_at0 "LeafVotes" 154 "java/util/NoSuchElementException" ["java/lang/RuntimeException", "java/lang/Exception"]
/-- what a throw asks of the world before -/
def eXz (A : Nat → Prop) (U : State) (H : Heap) : Prop := vx_Zq Bundle.tN "UNASSIGNED_STACK" Bundle.steD A U H ∧ vx_Zq Bundle.tN "SUPPRESSED_SENTINEL" Bundle.listD A U H ∧ ∀ w ∈ eXw, va_Nw w U
theorem eXz.kept {A : Nat → Prop} {U : State} {H H1 : Heap} (h : eXz A U H) (hq : ∀ a : Nat, a < H.size → ¬ A a → H1[a]? = H[a]?) : eXz A U H1 := ⟨h.1.kept hq, h.2.1.kept hq, h.2.2⟩
theorem eXz.narrow {A B : Nat → Prop} {U : State} {H : Heap} (h : eXz A U H) (hq : ∀ q, B q → A q) : eXz B U H := ⟨h.1.narrow hq, h.2.1.narrow hq, h.2.2⟩
theorem eXw_warm {s U : State} (hW : s.WarmedH U.vm) : ∀ w ∈ eXw, va_Nw w s → va_Nw w U := by
  intro w hw h
  simp only [eXw, List.mem_cons, List.not_mem_nil, or_false] at hw
  rcases hw with rfl | rfl | rfl | rfl
  · exact va_Nw.warmD hW h
  · exact va_Nw.warmD hW h
  · exact va_Nw.warmD hW h
  · exact va_Nw.warmC hW h
theorem eXw_tab : ∀ w ∈ eXw, w.onTables = true := by
  intro w hw
  simp only [eXw, List.mem_cons, List.not_mem_nil, or_false] at hw
  rcases hw with rfl | rfl | rfl | rfl <;> rfl
theorem eXz.moved {A : Nat → Prop} {s U : State} {H : Heap} (hW : s.WarmedH U.vm) (h : eXz A s H) : eXz A U H := ⟨h.1.moved hW.alike, h.2.1.moved hW.alike, fun w hw => eXw_warm hW w hw (h.2.2 w hw)⟩
theorem eXz.same {A : Nat → Prop} {u U : State} {H : Heap} (hv : U.vm = u.vm) (h : eXz A u H) : eXz A U H := by
  have ha : u.vm.Alike U.vm := by rw [hv]; exact Vm.Alike.refl u.vm
  exact ⟨h.1.moved ha, h.2.1.moved ha, fun w hw => va_Nw.same (eXw_tab w hw) hv.symm (h.2.2 w hw)⟩
set_option maxRecDepth 20000 in
theorem eXL_in : ∀ w ∈ eXL.filter goodWord, w ∈ lw_tbl := by decide +kernel
theorem eXL_g : ∀ w ∈ eXL.filter goodWord, w ∈ eGW := fun w h => List.mem_filter.mpr ⟨eXL_in w h, (List.mem_filter.mp h).2⟩
set_option maxRecDepth 20000 in
theorem eXL_b : ∀ w ∈ eXL.filter (fun w => !goodWord w), w ∈ eXw := by decide +kernel
set_option maxRecDepth 20000 in
theorem eXL_o : ∀ w ∈ Jvm.Cond.classLink "LeafVotes" 152 "java/util/NoSuchElementException" :: Jvm.Cond.initialized "java/util/NoSuchElementException" :: eXL, vx_ot w = true := by decide +kernel
set_option maxRecDepth 20000 in
theorem eXL_2 : Jvm.Cond.classLink "LeafVotes" 152 "java/util/NoSuchElementException" ∈ eGW ∧ Jvm.Cond.initialized "java/util/NoSuchElementException" ∈ eGW := ⟨List.mem_filter.mpr ⟨by decide +kernel, by decide +kernel⟩, List.mem_filter.mpr ⟨by decide +kernel, by decide +kernel⟩⟩
theorem eXat {args : Array Value} {s : State} (ht : ∀ w ∈ eGW, w.before args s = true) (hx : ∀ w ∈ eXw, va_Nw w s) : ∀ w ∈ eXL, w.before args s = true :=
  vx_hat (L := eXL) (B := eXw) (fun w h => ht w (eXL_g w h)) eXL_b (fun w h => va_Nw.use (eXw_tab w h) (hx w h))
def ePx (D : va_G) (fo : evF) (tys : List (ClassId × FieldType)) (ws : va_W) (sz : Nat) (avs : List Value) : Array Value → State → Prop := va_Pc avs (fun U => (U.heap.size = sz ∧ va_P D vwCl ws U.heap ∧ va_K D vwCl tys U ∧ va_D (fun _ => True) ws ∧ eFX (va_A ws sz) fo U U.heap) ∧ eXz (va_A ws sz) U U.heap)
theorem ePx_blind {D : va_G} {fo : evF} {tys : List (ClassId × FieldType)} {ws : va_W} {sz : Nat} {avs : List Value} : FrameBlind (ePx D fo tys ws sz avs) := by
  intro a U g mk h
  obtain ⟨h1, ⟨h2, h3, h4, h5, h6⟩, h7⟩ := h
  exact ⟨h1, ⟨h2, h3, va_K.moved (u := U) (U := U.calling g mk a) (Vm.Alike.refl U.vm) h4, h5, eFX.same (u := U) (U := U.calling g mk a) rfl h6⟩, eXz.same (u := U) (U := U.calling g mk a) rfl h7⟩
/-- where it threw -/
def eXc (D : va_G) (fo : evF) (sg : List Int32) (ws : va_W) (sz : Nat) (k : evK) : String → State → State → Prop := fun E st t =>
  E = "java/util/NoSuchElementException" ∧ (∃ (g' : evG) (sg' : List Int32) (tys' : List (ClassId × FieldType)) (ws' : va_W), k 7 g' = true ∧ (∃ t, eAd ws' = eAd ws ++ t) ∧ (∃ t, sg' = sg ++ t) ∧ va_K D vwCl tys' t ∧ va_P D vwCl ws' t.heap ∧ va_D (va_A ws sz) ws' ∧ eHp fo sg' tys' g'.1 g'.2.1 ws' ∧ eE g'.2.2.1 sg') ∧ va_F (va_A ws sz) st t
def eRx (d : Nat) : Room := { frames := d + 1, cells := 1, slots := 6, locals := 100 * (d + 1) }
theorem eMx_of {l : Launch} (hlt : l.stackTraces = false) {d mi : Nat} {q : evM} {vs : List Nat} {g : evG} {k : evK} (hq : eM mi = some q) (h11 : q.2.2.2.2.1 = 11) (h5 : 5 ≤ d) (hk7 : ∀ v g, eTg v = 7 → ¬ v = 7 → k v g = false) (hk1 : ∀ g : evG, k 7 g = true → 1 ≤ g.2.2.2.1 ∧ 6 ≤ g.2.2.2.2) (hg : g.2.2.2 = (1, 6))
    (hgo : ∀ (p : Program) (e : Env) (R : Room) (s : State) (m : MethodId) (args : Array Value) (below : List Frame) (meth : Method) (c : Code) (Q : State → Prop) (D : va_G) (A : Nat → Prop) (fo : evF), eFix p R s m args meth c A fo q d → eRe p l e R s m args below meth c Q D A fo q k → eGo p l e R s m args below meth c Q D A fo q 0 (ePack vs 0 0) [] g)
    (D : va_G) (fo : evF) (sg : List Int32) (tys : List (ClassId × FieldType)) (ws : va_W) (sz : Nat) (avs : List Value) (ha : eLa (eAd ws) sg fo vs avs) (hH : eHp fo sg tys g.1 g.2.1 ws) (hE : eE g.2.2.1 sg) (hw : eSum vs ≤ q.2.2.1) :
    vx_Met l q.1 (eWs q) (eRx d) (ePx D fo tys ws sz avs) (eQc D fo q sg ws sz k) (eXc D fo sg ws sz k) 1 6 (va_A ws sz) := by
  obtain ⟨m1, m2, m3, m4, m5, m6, m7, m8⟩ := eM_ok' mi q hq
  refine vx_ofW (cc := q.2.1) (maxL := q.2.2.1) (ret := q.2.2.2.1) m2 rfl ?_
  intro p e s m args below meth c s₁ B hml hxt hv
  obtain ⟨rfl, ⟨hsz, hP, hK, hD0, hX⟩, hZ⟩ := hv
  have hts := atoms_spec (ws := eWs q) B.pre
  have hown : s.vm.findClass q.1.cls = some m.cls := findClass_of_methodNamed B.named
  have hin : meth.name = q.1.name := (name_of_methodNamed B.named B.method).1
  subst hsz
  have hD := hD0.self (sz := s.heap.size)
  have hA : ∀ z : Nat, s.heap.size ≤ z → va_A ws s.heap.size z := fun z h => Or.inr h
  have hGW : ∀ w ∈ eGW, w.before avs.toArray s = true := fun w h => hts w (List.mem_cons_of_mem _ h)
  have hF : eFix p (eRx d) s m avs.toArray meth c (va_A ws s.heap.size) (fo.1, eAd ws, sg) q d := ⟨B.exec, B.bytes, hml, B.returns, by rw [← m3]; exact hown, hGW, ⟨fun h => by rw [hin]; exact m5 h, fun h => by rw [h11] at h; cases h⟩, B.notSynchronized, ⟨Nat.le_refl _, Nat.le_refl _⟩, hA, hX⟩
  have hl := lv_entry avs (n := q.2.2.1) (by rw [eLa_words vs avs ha]; exact hw)
  rw [lg_entry_eq]
  generalize (lg_sl avs ++ List.replicate (q.2.2.1 - (lg_sl avs).length) Slot.unset).toArray = ls at hl ⊢
  have hr1 : g.2.2.2.1 = 1 := by rw [hg]
  have hr2 : g.2.2.2.2 = 6 := by rw [hg]
  refine hgo p e (eRx d) s m avs.toArray below meth c (vx_MQ below (eQc D fo q sg ws s.heap.size k) (eXc D fo sg ws s.heap.size k) avs.toArray s 1 6 (va_A ws s.heap.size)) D (va_A ws s.heap.size) (fo.1, eAd ws, sg) hF ⟨?_, ?_, ?_, ?_⟩ sg tys ws s.heap [] 0 0 ls [] ⟨hK, hP, hD, va_S.rf, hH, hE⟩ ⟨_, hl, fun j hj => ?_⟩ ⟨⟨[], by simp⟩, ⟨[], by simp⟩⟩ (by show 0 + g.2.2.2.1 ≤ 1; omega) (by show 0 + g.2.2.2.2 ≤ 6; omega)
  · intro v g' sg' tys' ws' H locs cells slots pc ls' x ty hN h1 h2 h3 h4 h5 h6 h7 h8 h9
    have h3 : cells + g'.2.2.2.1 ≤ 1 := h3
    have h4 : slots + g'.2.2.2.2 ≤ 6 := h4
    refine vx_ret (W.widen (k := 1) (n := 6) (by omega) (by omega) ?_)
    exact W.zret (ty := ty) B.exec B.bytes (by rw [B.returns]; exact h7) h8 (fun t ht hW => ⟨⟨v, g', sg', tys', ws', _, rfl, h5, Or.inr ⟨ty, _, h7, rfl, h6⟩, h1, h2, va_K.moved hW.alike hN.1, by rw [ht]; exact hN.2.1, hN.2.2.1, hN.2.2.2.2.1, hN.2.2.2.2.2⟩, hN.2.2.2.1.F ht⟩) hN.2.2.2.1.2.2 h9 B.notSynchronized
  · intro g' sg' tys' ws' H locs cells slots pc ls' hN h1 h2 h3 h4 h5 h7 h9
    have h3 : cells + g'.2.2.2.1 ≤ 1 := h3
    have h4 : slots + g'.2.2.2.2 ≤ 6 := h4
    refine vx_ret (W.widen (k := 1) (n := 6) (by omega) (by omega) ?_)
    exact W.vret B.exec B.bytes (by rw [B.returns]; exact h7) (fun t ht hW => ⟨⟨0, g', sg', tys', ws', none, rfl, h5, Or.inl ⟨h7, rfl⟩, h1, h2, va_K.moved hW.alike hN.1, by rw [ht]; exact hN.2.1, hN.2.2.1, hN.2.2.2.2.1, hN.2.2.2.2.2⟩, hN.2.2.2.1.F ht⟩) hN.2.2.2.1.2.2 h9 B.notSynchronized
  · intro L g' h1 h2 _
    rw [hk7 _ g' (e8 L 7 (by decide)).1 (by show ¬ 8 * L + 7 = 7; omega)] at h1
    cases h1
  · intro g' sg' tys' ws' H locs cells slots pc ls' hN h1 h2 h0 h3 h4 h6 h7 d0 d3 d4 d7
    have h3 : cells + g'.2.2.2.1 ≤ 1 := h3
    have h4 : slots + g'.2.2.2.2 ≤ 6 := h4
    obtain ⟨n1, n2⟩ := hk1 g' h6
    refine vx_throw0 (own := "LeafVotes") (cls := "java/util/NoSuchElementException") (names := ["java/lang/RuntimeException", "java/lang/Exception"]) (ik := 152) (ic := 154) (A := va_A ws s.heap.size) B.exec B.bytes hlt (by rw [show "LeafVotes" = q.1.cls from by rw [m3, h11]; rfl]; exact hown) (by decide +kernel) (by decide +kernel) (hGW _ eXL_2.1) (hGW _ eXL_2.2) (eXat hGW hZ.2.2) eXL_o hZ.1 hZ.2.1 hN.2.2.2.1 h0 d0 d3 d4 d7 (fun x hx => (hxt x hx).elim) (by show 5 < d + 1; omega) (by show 0 + 81 ≤ 100 * (d + 1); omega) (by show cells + 1 ≤ 1; omega) (by show slots + 6 ≤ 6; omega) B.notSynchronized (fun t hal hgr hke => ⟨rfl, ⟨g', sg', tys', ws', h6, h1, h2, va_K.moved hal hN.1, hN.2.1.kept (fun k z hk => hke z.1 (vx_lt hN.2.1 hk)), hN.2.2.1, hN.2.2.2.2.1, hN.2.2.2.2.2⟩, Nat.le_trans hN.2.2.2.1.1 hgr, fun z z1 z2 => by rw [hke z (Nat.lt_of_lt_of_le z1 hN.2.2.2.1.1)]; exact hN.2.2.2.1.2.1 z z1 z2⟩) hN.2.2.2.1.2.2 (by omega) (by omega)
  · rcases ePack_ok vs avs 0 0 ha j with h1 | h1
    · rw [h1] at hj
      have e0 : eSl 0 j = 0 := by show (0 >>> (72 * j)) % 4722366482869645213696 = 0; rw [Nat.zero_shiftRight]
      rw [e0] at hj
      exact absurd rfl hj
    · exact h1
/-- a stretch without calls, to a place -/
noncomputable def eRunS (q : evM) (stop : Nat) (K : Nat → List Nat → evG → Bool) (kk : evK) (f : Nat) : Nat → Nat → List Nat → evG → Bool := @Nat.rec (fun _ => Nat → Nat → List Nat → evG → Bool) (fun _ _ _ _ => false) (fun _ ih pc L st g => cond (Nat.beq pc stop) (K L st g) (cond (Nat.beq (Lean.RArray.get q.2.2.2.2.2.2.2.2 pc).1 pc) (eI q.2.2.1 q.2.2.2.2.1 q.2.2.2.1 false (Lean.RArray.get q.2.2.2.2.2.2.2.2 pc).2.1 (Lean.RArray.get q.2.2.2.2.2.2.2.2 pc).2.2 (fun pc L st g => ih pc L st g) (fun _ _ _ _ => false) kk pc L st g) false)) f
variable {p : Program} {l : Launch} {e : Env} {R : Room} {s : State} {m : MethodId} {args : Array Value} {below : List Frame} {meth : Method} {c : Code} {Q : State → Prop} {D : va_G} {A : Nat → Prop} {fo : evF} {qm : evM} {dp : Nat}
theorem eRunS_ok (hB : eOkB qm.2.2.2.2.2.2.2.2 qm.2.1 = true) {stop : Nat} {K : Nat → List Nat → evG → Bool} {kk : evK} (hK : ∀ (L : Nat) (st : List Nat) (g : evG), K L st g = true → eGo p l e R s m args below meth c Q D A fo qm stop L st g) (hF : eFix p R s m args meth c A fo qm dp) (hre : eRe p l e R s m args below meth c Q D A fo qm kk) : ∀ (f pc L : Nat) (st : List Nat) (g : evG), eRunS qm stop K kk f pc L st g = true → eGo p l e R s m args below meth c Q D A fo qm pc L st g := by
  intro f
  induction f with
  | zero => intro pc L st g h; cases h
  | succ f ih =>
    intro pc L st g h
    have h : cond (Nat.beq pc stop) (K L st g) (cond (Nat.beq (Lean.RArray.get qm.2.2.2.2.2.2.2.2 pc).1 pc) (eI qm.2.2.1 qm.2.2.2.2.1 qm.2.2.2.1 false (Lean.RArray.get qm.2.2.2.2.2.2.2.2 pc).2.1 (Lean.RArray.get qm.2.2.2.2.2.2.2.2 pc).2.2 (fun pc L st g => eRunS qm stop K kk f pc L st g) (fun _ _ _ _ => false) kk pc L st g) false) = true := h
    cases h1 : Nat.beq pc stop
    · rw [h1] at h
      obtain ⟨h2, h3⟩ := eC_t h
      have h2 := Nat.eq_of_beq_eq_true h2
      have hd := eOkB_get hB pc
      rw [h2] at hd
      exact s_I (cl := fun _ _ _ _ => false) (ini := false) (fun q => by cases q) hF ih (fun mi' q' vs g' k' _ _ _ hk => by cases hk) hre hd h3
    · rw [h1] at h
      rw [Nat.eq_of_beq_eq_true h1]
      exact hK L st g h
/-- nothing is answered -/
theorem eRe_no : eRe p l e R s m args below meth c Q D A fo qm (fun _ _ => false) := ⟨fun v g sg tys ws H locs cells slots pc ls x ty _ _ _ _ _ h => (by cases h), fun g sg tys ws H locs cells slots pc ls _ _ _ _ _ h => (by cases h), fun L g h => (by cases h), fun g sg tys ws H locs cells slots pc ls _ _ _ _ _ _ h => (by cases h)⟩
end EvS11
