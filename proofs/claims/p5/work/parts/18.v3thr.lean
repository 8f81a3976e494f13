section CkThr13
/-- what is fixed of a static method of the law's that calls and catches -/
def eHlp (qh q : evM) (mi n pI idx j : Nat) : Prop := eM mi = some q ∧ q.2.2.2.2.1 = 11 ∧ q.2.2.2.1 = some .int ∧ eOkB qh.2.2.2.2.2.2.2.2 qh.2.1 = true ∧ qh.2.2.2.2.1 = 22 ∧ qh.1.cls = "LeafVotesLaw" ∧ qh.2.2.2.1 = some .int ∧ eIni qh = false ∧ j < qh.2.2.1 ∧ qh.2.2.1 ≤ 80 ∧
  Jvm.Cond.methodLink "LeafVotesLaw" idx q.1 ∈ eGW ∧ Jvm.Cond.instanceMethod q.1 ∈ eGW ∧ Jvm.Cond.selects q.1.cls q.1 q.1 ∈ eGW ∧ (parseMethodDescriptor q.1.desc).map (fun d => d.parameters.length + 1) = some n ∧ Jvm.Cond.classLink "LeafVotesLaw" 13 "java/util/NoSuchElementException" ∈ eGW ∧
  decode qh.2.1 pI = .ok (.invokevirtual idx, 3) ∧ decode qh.2.1 (pI + 8) = .ok (.astore j, 2)
noncomputable abbrev eHw (qh : evM) (pI : Nat) : List Jvm.Cond := Jvm.Cond.codeWith qh.1 qh.2.1 qh.2.2.1 qh.2.2.2.1 [(0, pI + 5, pI + 8, 13)] :: eGW
theorem eMh_of {l : Launch} (hlt : l.stackTraces = false) {d mi n pI idx j : Nat} {q qh : evM} {kh : evK} {vs : List Nat} {g : evG} (hh : eHlp qh q mi n pI idx j) (h5 : 5 ≤ d) (hk7 : ∀ v g, eTg v = 7 → kh v g = false) (hg : g.2.2.2 = (1, 6))
    (hgo : ∀ (p : Program) (e : Env) (R : Room) (s : State) (m : MethodId) (args : Array Value) (below : List Frame) (meth : Method) (c : Code) (Q : State → Prop) (D : va_G) (A : Nat → Prop) (fo : evF), eFix p R s m args meth c A fo qh 0 → eRe p l e R s m args below meth c Q D A fo qh kh → (∀ r : evR, (∀ pc L st g, r pc L st g = true → eGo p l e R s m args below meth c Q D A fo qh pc L st g) → ∀ (L : Nat) (st : List Nat) (g : evG), eKT l r d mi n q.2.2.1 pI L st g = true → eGo p l e R s m args below meth c Q D A fo qh pI L st g) → eGo p l e R s m args below meth c Q D A fo qh 0 (ePack vs 0 0) [] g)
    (D : va_G) (fo : evF) (sg : List Int32) (tys : List (ClassId × FieldType)) (ws : va_W) (sz : Nat) (avs : List Value) (ha : eLa (eAd ws) sg fo vs avs) (hH : eHp fo sg tys g.1 g.2.1 ws) (hE : eE g.2.2.1 sg) (hw : eSum vs ≤ qh.2.2.1) :
    Met l qh.1 (eHw qh pI) (eRx (d + 1)) (ePx D fo tys ws sz avs) (eQc D fo qh sg ws sz kh) 1 6 (va_A ws sz) := by
  obtain ⟨a1, a2, a3, a4, a5, a6, a7, a8, a9, a10, w1, w2, w4, w3, w5, d1, d2⟩ := hh
  have hcn : eCn qh.2.2.2.2.1 = "LeafVotesLaw" := by rw [a5]; rfl
  refine va_MetW (cc := qh.2.1) (maxL := qh.2.2.1) (ret := qh.2.2.2.1) (hh := [(0, pI + 5, pI + 8, 13)]) (by rw [a6]; decide +kernel) rfl ?_
  intro p e s m args below meth c s₁ B hml hv
  obtain ⟨rfl, ⟨hsz, hP, hK, hD0, hX⟩, hZ⟩ := hv
  have hts := atoms_spec (ws := eHw qh pI) B.pre
  have hown : s.vm.findClass qh.1.cls = some m.cls := findClass_of_methodNamed B.named
  subst hsz
  have hD := hD0.self (sz := s.heap.size)
  have hA : ∀ z : Nat, s.heap.size ≤ z → va_A ws s.heap.size z := fun z h => Or.inr h
  have hGW : ∀ w ∈ eGW, w.before avs.toArray s = true := fun w h => hts w (List.mem_cons_of_mem _ h)
  have hex : c.exceptionTable.toList = [⟨0, pI + 5, pI + 8, 13⟩] := vx_table (x := qh.1) B (hts _ List.mem_cons_self)
  have hF : eFix p (eRx (d + 1)) s m avs.toArray meth c (va_A ws s.heap.size) (fo.1, eAd ws, sg) qh 0 := ⟨B.exec, B.bytes, hml, B.returns, by rw [hcn, ← a6]; exact hown, hGW, ⟨fun h => (by rw [a8] at h; cases h), fun h => (by rw [a5] at h; cases h)⟩, B.notSynchronized, ⟨by show 0 + 1 ≤ d + 1 + 1; omega, by show 100 * (0 + 1) ≤ 100 * (d + 1 + 1); omega⟩, hA, hX⟩
  have hl := lv_entry avs (n := qh.2.2.1) (by rw [eLa_words vs avs ha]; exact hw)
  rw [lg_entry_eq]
  generalize (lg_sl avs ++ List.replicate (qh.2.2.1 - (lg_sl avs).length) Slot.unset).toArray = ls at hl ⊢
  have hr1 : g.2.2.2.1 = 1 := by rw [hg]
  have hr2 : g.2.2.2.2 = 6 := by rw [hg]
  have hre : eRe p l e (eRx (d + 1)) s m avs.toArray below meth c (MQ below (eQc D fo qh sg ws s.heap.size kh) avs.toArray s 1 6 (va_A ws s.heap.size)) D (va_A ws s.heap.size) (fo.1, eAd ws, sg) qh kh := by
    refine ⟨?_, ?_, ?_, ?_⟩
    · intro v g' sg' tys' ws' H locs cells slots pc ls' x ty hN h1 h2 h3 h4 h5 h6 h7 h8 h9
      have h3 : cells + g'.2.2.2.1 ≤ 1 := h3
      have h4 : slots + g'.2.2.2.2 ≤ 6 := h4
      refine W.widen (k := 1) (n := 6) (by omega) (by omega) ?_
      exact W.zret (ty := ty) B.exec B.bytes (by rw [B.returns]; exact h7) h8 (fun t ht hW => ⟨⟨v, g', sg', tys', ws', _, rfl, h5, Or.inr ⟨ty, _, h7, rfl, h6⟩, h1, h2, va_K.moved hW.alike hN.1, by rw [ht]; exact hN.2.1, hN.2.2.1, hN.2.2.2.2.1, hN.2.2.2.2.2⟩, hN.2.2.2.1.F ht⟩) hN.2.2.2.1.2.2 h9 B.notSynchronized
    · intro g' sg' tys' ws' H locs cells slots pc ls' hN h1 h2 h3 h4 h5 h7 h9
      rw [a7] at h7
      cases h7
    · intro L g' h1
      rw [hk7 _ g' (e8 L 7 (by decide)).1] at h1
      cases h1
    · intro g' sg' tys' ws' H locs cells slots pc ls' hN h1 h2 h0 h3 h4 h6 h7
      rw [a5] at h7
      cases h7
  refine hgo _ _ _ _ _ _ _ _ _ _ _ _ _ hF hre (fun r hr L st g' hk => s_callT hlt a1 a2 a3 h5 hcn a9 hex hF ⟨Nat.le_refl _, Nat.le_refl _⟩ hZ hr w1 w2 w4 w3 w5 d1 d2 hk) sg tys ws s.heap [] 0 0 ls [] ⟨hK, hP, hD, va_S.rf, hH, hE⟩ ⟨_, hl, fun j hj => ?_⟩ ⟨⟨[], by simp⟩, ⟨[], by simp⟩⟩ (by show 0 + g.2.2.2.1 ≤ 1; omega) (by show 0 + g.2.2.2.2 ≤ 6; omega)
  rcases ePack_ok vs avs 0 0 ha j with h1 | h1
  · rw [h1] at hj
    have e0 : eSl 0 j = 0 := by show (0 >>> (72 * j)) % 4722366482869645213696 = 0; rw [Nat.zero_shiftRight]
    rw [e0] at hj
    exact absurd rfl hj
  · exact h1
noncomputable def eKh (r : evR) (pc L : Nat) (rest : List Nat) (nc ns : Nat) : evK := fun w g' => cond (Nat.beq (eTg w) 7) false (r (Nat.add pc 3) L (w :: rest) (g'.1, g'.2.1, g'.2.2.1, nc, ns))
variable {p : Program} {l : Launch} {e : Env} {R : Room} {s : State} {m : MethodId} {args : Array Value} {below : List Frame} {meth : Method} {c : Code} {Q : State → Prop} {D : va_G} {A : Nat → Prop} {fo : evF} {qm : evM} {dp : Nat}
theorem s_callH (hlt : l.stackTraces = false) {r : evR} {d mi n pI idx j nh hix pc L : Nat} {q qh : evM} {us rest : List Nat} {g : evG} (hh : eHlp qh q mi n pI idx j) (h5 : 5 ≤ d) (hF : eFix p R s m args meth c A fo qm dp) (hRf : d + 3 ≤ R.frames ∧ 100 * (d + 3) ≤ R.locals) (hZ : eXz A s s.heap) (hr : ∀ pc L st g, r pc L st g = true → eGo p l e R s m args below meth c Q D A fo qm pc L st g)
    (w0 : Jvm.Cond.codeWith qh.1 qh.2.1 qh.2.2.1 qh.2.2.2.1 [(0, pI + 5, pI + 8, 13)] ∈ eGW) (w1 : Jvm.Cond.methodLink (eCn qm.2.2.2.2.1) hix qh.1 ∈ eGW) (w2 : Jvm.Cond.static qh.1 ∈ eGW) (w6 : Jvm.Cond.initialized qh.1.cls ∈ eGW) (w3 : (parseMethodDescriptor qh.1.desc).map (fun d => d.parameters.length) = some nh)
    (hd : decode qm.2.1 pc = .ok (.invokestatic hix, 3)) (hu : us.length = nh) (h1 : eSum rest ≤ 8) (h0 : eSum us.reverse ≤ qh.2.2.1) (h3 : 1 ≤ g.2.2.2.1) (h4 : 6 ≤ g.2.2.2.2)
    (hgo : ∀ (p : Program) (e : Env) (R : Room) (s : State) (m : MethodId) (args : Array Value) (below : List Frame) (meth : Method) (c : Code) (Q : State → Prop) (D : va_G) (A : Nat → Prop) (fo : evF), eFix p R s m args meth c A fo qh 0 → eRe p l e R s m args below meth c Q D A fo qh (eKh r pc L rest (Nat.sub g.2.2.2.1 1) (Nat.sub g.2.2.2.2 6)) → (∀ r : evR, (∀ pc L st g, r pc L st g = true → eGo p l e R s m args below meth c Q D A fo qh pc L st g) → ∀ (L : Nat) (st : List Nat) (g : evG), eKT l r d mi n q.2.2.1 pI L st g = true → eGo p l e R s m args below meth c Q D A fo qh pI L st g) → eGo p l e R s m args below meth c Q D A fo qh 0 (ePack us.reverse 0 0) [] (g.1, g.2.1, g.2.2.1, 1, 6)) : eGo p l e R s m args below meth c Q D A fo qm pc L (us ++ rest) g := by
  intro sg tys ws H locs cells slots ls stv hN hL hst hc hs
  obtain ⟨xs, ys, rfl, e1, e2, ht⟩ := eLs_split us rest stv hst
  have ha := eLa_rev e1 e2
  have hk7 : ∀ v g', eTg v = 7 → eKh r pc L rest (Nat.sub g.2.2.2.1 1) (Nat.sub g.2.2.2.2 6) v g' = false := fun v g' hv => by unfold eKh; rw [hv]; rfl
  have hM := eMh_of hlt hh h5 hk7 (g := (g.1, g.2.1, g.2.2.1, 1, 6)) rfl hgo D fo sg tys ws H.size xs.reverse ha hN.2.2.2.2.1 hN.2.2.2.2.2 h0
  obtain ⟨lv, hlv, -⟩ := id hL
  have hD1 : va_D (fun _ => True) ws := hN.2.2.1.weaken (fun _ _ _ _ => trivial)
  have hfree : ∀ z, va_A ws H.size z → A z := by
    intro z hz
    rcases hz with ⟨k, e', hk⟩ | hz
    · exact hN.2.2.1.2 k (z, e') hk
    · exact hF.2.2.2.2.2.2.2.2.2.1 z (Nat.le_trans hN.2.2.2.1.1 hz)
  have hFX : eFX (va_A ws H.size) fo s H := (hF.2.2.2.2.2.2.2.2.2.2.kept hN.2.2.2.1.2.1).narrow hfree
  have hZX : eXz (va_A ws H.size) s H := (hZ.kept hN.2.2.2.1.2.1).narrow hfree
  have hpre : ∀ U : State, U.heap = H → s.WarmedH U.vm → ePx D fo tys ws H.size xs.reverse xs.reverse.toArray U := fun U hU hW => ⟨rfl, ⟨by rw [hU], by rw [hU]; exact hN.2.1, va_K.moved hW.alike hN.1, hD1, by rw [hU]; exact hFX.moved hW⟩, by rw [hU]; exact hZX.moved hW⟩
  have hrun := vx_runSW (p := p) (e := e) (R := R) (m := m) (below := below) (meth := meth) (c := c) (locs := locs) (cells := cells) (slots := slots) (g := F0 m pc ls (xs.reverse.reverse ++ ys)) (cc := qm.2.1) (nL := qm.2.2.1) (Ts := eGW) (own := eCn qm.2.2.2.2.1) (As := xs.reverse) (rest := ys) (index := hix) (bytes := qh.2.1) (maxL := qh.2.2.1) (ret := qh.2.2.2.1) (hh := [(0, pI + 5, pI + 8, 13)]) (n := nh) ⟨hF.1, hF.2.1, hF.2.2.1, hF.2.2.2.2.1, hF.2.2.2.2.2.1⟩ hM
    (vx_cwSW nh hF.2.2.2.2.2.1 (fun w hw => by
      rcases List.mem_append.mp hw with hw | hw
      · simp only [List.mem_cons, List.not_mem_nil, or_false] at hw
        rcases hw with rfl | rfl | rfl
        · exact eGd w1
        · exact eGd w2
        · exact eGd w6
      · rcases List.mem_cons.mp hw with rfl | hw
        · exact eGd w0
        · exact eGd hw) rfl rfl rfl ⟨by rw [hh.2.2.2.2.2.1]; decide, by rw [hh.2.2.2.2.2.1]; decide, w3⟩ ⟨by show d + 1 + 1 + 1 ≤ _; omega, by have := hh.2.2.2.2.2.2.2.2.2.1; show 8 + (qh.2.2.1 + 11) + 100 * (d + 1 + 1) ≤ _; omega⟩) ⟨ePx_blind, hpre⟩ rfl (by rw [List.length_reverse, e1]; exact hu) hlv.1 rfl (lv_room (by rw [eSum_ok ht]; exact h1)) hd ⟨by omega, by omega⟩
  rw [List.reverse_reverse] at hrun
  intro T hT X
  obtain ⟨v, st₀, t, T', LL, q0, X', hLL, q1, q2, ⟨⟨v', g', sg', tys', ws', xo, hxo, hk, hval, p1, p2, k1, k2, k3, k4, k5⟩, hz, hzk⟩, stp⟩ := hrun T hT X
  cases hxo
  rw [q0] at hz hzk
  have hk : cond (Nat.beq (eTg v') 7) false (r (Nat.add pc 3) L (v' :: rest) (g'.1, g'.2.1, g'.2.2.1, Nat.sub g.2.2.2.1 1, Nat.sub g.2.2.2.2 6)) = true := hk
  obtain ⟨-, hk⟩ := eC_f hk
  have hS' : va_S A s.heap T'.heap (locs ++ LL) := ⟨Nat.le_trans hN.2.2.2.1.1 (by rw [q1]; exact hz), fun z z1 z2 => by rw [q1, hzk z (Nat.lt_of_lt_of_le z1 hN.2.2.2.1.1) (fun w => z2 (hfree z w))]; exact hN.2.2.2.1.2.1 z z1 z2, fun z hz' => by
    rcases List.mem_append.mp hz' with w | w
    · exact hN.2.2.2.1.2.2 z w
    · exact hfree _ (hLL z w)⟩
  have hN' : eNow s D A fo (g'.1, g'.2.1, g'.2.2.1, Nat.sub g.2.2.2.1 1, Nat.sub g.2.2.2.2 6) sg' tys' ws' T'.heap (locs ++ LL) := ⟨va_K.moved (by rw [← q2]; exact X'.warmed.alike.symm) k1, by rw [q1]; exact k2, k3.weaken (fun _ z _ w => hfree z.1 w), hS', k4, k5⟩
  have hst' : eLs (eAd ws') sg' fo (v' :: rest) (v.toList ++ ys) := by
    have ht' := eLs_mono p1 p2 ht
    rcases hval with ⟨z1, rfl⟩ | ⟨ty, x, z1, rfl, z2⟩
    · rw [hh.2.2.2.2.2.2.1] at z1; cases z1
    · exact ⟨z2, ht'⟩
  obtain ⟨t2, a1, b1⟩ := hr _ _ _ _ hk sg' tys' ws' T'.heap (locs ++ LL) (cells + 1) (slots + 6) ls _ hN' (eLr_mono hL p1 p2) hst' (by show cells + 1 + (g.2.2.2.1 - 1) ≤ R.cells; omega) (by show slots + 6 + (g.2.2.2.2 - 6) ≤ R.slots; omega) T' rfl X'
  exact ⟨t2, stp t2 a1, b1⟩
end CkThr13
