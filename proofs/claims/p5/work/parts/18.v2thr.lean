section CkThr12
theorem eR_no7 {ad : List Nat} {sg : List Int32} {fo : evF} {x : Value} : ¬ eR ad sg fo 7 x := by
  rintro ⟨-, ⟨h, -⟩ | ⟨h, -⟩ | ⟨h, -⟩ | ⟨h, -⟩ | ⟨h, -⟩ | ⟨h, -⟩⟩ <;> exact absurd h (by decide)
theorem eLs_bot {ad : List Nat} {sg : List Int32} {fo : evF} : ∀ {st : List Nat} {xs : List Value}, eLs ad sg fo st xs → (∃ t, ad = fo.2.1 ++ t) ∧ ∃ t, sg = fo.2.2 ++ t
  | [], [], h => h
  | _ :: _, _ :: _, h => eLs_bot h.2
  | [], _ :: _, h => h.elim
  | _ :: _, [], h => h.elim
theorem eTrans {T : Type} {a b c : List T} (h1 : ∃ t, b = a ++ t) (h2 : ∃ t, c = b ++ t) : ∃ t, c = a ++ t := by
  obtain ⟨t, rfl⟩ := h1
  obtain ⟨u, rfl⟩ := h2
  exact ⟨t ++ u, by rw [List.append_assoc]⟩
/-- behind the call that may throw: caught, or on -/
noncomputable def eKx (r : evR) (pI : Nat) (L : Nat) (rest : List Nat) : evK := fun v g' => cond (Nat.beq v 7) (cond (Nat.ble 1 g'.2.2.2.1) (cond (Nat.ble 6 g'.2.2.2.2) (r (Nat.add pI 10) 0 [] (g'.1, g'.2.1, g'.2.2.1, 0, 0)) false) false) (cond (Nat.beq (eTg v) 7) false (r (Nat.add pI 3) L (v :: rest) (g'.1, g'.2.1, g'.2.2.1, 0, 0)))
/-- the call that may throw -/
noncomputable def eKT (l : Launch) (r : evR) (d mi n nL pI : Nat) : Nat → List Nat → evG → Bool := fun L st g => eTake n st [] (fun vs rest =>
  cond (cond (Nat.ble (eSum rest) 8) (Nat.ble (eSum vs) nL) false) (cond (eRcv g 11 vs) (cond (cond (Nat.beq g.2.2.2.1 1) (Nat.beq g.2.2.2.2 6) false) (pB (pGo l d mi (eKx r pI L rest) 0 (ePack vs 0 0) [] (g.1, g.2.1, g.2.2.1, 1, 6))) false) false) false)
theorem eLr_0 {ad : List Nat} {sg : List Int32} {fo : evF} {nL : Nat} {ls : Array Slot} {lv : List (Nat × Value)} (h : lv_has ls nL lv) : eLr ad sg fo nL 0 ls := by
  refine ⟨lv, h, fun j hj => absurd ?_ hj⟩
  have e0 : eSl 0 j = 0 := by show (0 >>> (72 * j)) % 4722366482869645213696 = 0; rw [Nat.zero_shiftRight]
  rw [e0]
  rfl
theorem eKx_7 {r : evR} {pI : Nat} {L : Nat} {rest : List Nat} : (∀ v g, eTg v = 7 → ¬ v = 7 → eKx r pI L rest v g = false) ∧ ∀ g : evG, eKx r pI L rest 7 g = true → 1 ≤ g.2.2.2.1 ∧ 6 ≤ g.2.2.2.2 := by
  constructor
  · intro v g h1 h2
    have e : Nat.beq v 7 = false := by
      cases h : Nat.beq v 7
      · rfl
      · exact absurd (Nat.eq_of_beq_eq_true h) h2
    unfold eKx
    rw [e, h1]
    rfl
  · intro g h
    have h : cond (Nat.ble 1 g.2.2.2.1) (cond (Nat.ble 6 g.2.2.2.2) (r (Nat.add pI 10) 0 [] (g.1, g.2.1, g.2.2.1, 0, 0)) false) false = true := h
    obtain ⟨h1, h⟩ := eC_t h
    obtain ⟨h2, h⟩ := eC_t h
    exact ⟨Nat.le_of_ble_eq_true h1, Nat.le_of_ble_eq_true h2⟩
variable {p : Program} {l : Launch} {e : Env} {R : Room} {s : State} {m : MethodId} {args : Array Value} {below : List Frame} {meth : Method} {c : Code} {Q : State → Prop} {D : va_G} {A : Nat → Prop} {fo : evF} {qm : evM} {dp : Nat}
theorem s_callT (hlt : l.stackTraces = false) {r : evR} {d mi n pI idx j : Nat} {q : evM} {L : Nat} {st : List Nat} {g : evG} (hq : eM mi = some q) (h11 : q.2.2.2.2.1 = 11) (hret : q.2.2.2.1 = some .int) (h5 : 5 ≤ d) (hown : eCn qm.2.2.2.2.1 = "LeafVotesLaw") (hj : j < qm.2.2.1) (hex : c.exceptionTable.toList = [⟨0, pI + 5, pI + 8, 13⟩])
    (hF : eFix p R s m args meth c A fo qm dp) (hRf : d + 2 ≤ R.frames ∧ 100 * (d + 2) ≤ R.locals) (hZ : eXz A s s.heap) (hr : ∀ pc L st g, r pc L st g = true → eGo p l e R s m args below meth c Q D A fo qm pc L st g)
    (w1 : Jvm.Cond.methodLink "LeafVotesLaw" idx q.1 ∈ eGW) (w2 : Jvm.Cond.instanceMethod q.1 ∈ eGW) (w4 : Jvm.Cond.selects q.1.cls q.1 q.1 ∈ eGW) (w3 : (parseMethodDescriptor q.1.desc).map (fun d => d.parameters.length + 1) = some n) (w5 : Jvm.Cond.classLink "LeafVotesLaw" 13 "java/util/NoSuchElementException" ∈ eGW)
    (hd : decode qm.2.1 pI = .ok (.invokevirtual idx, 3)) (hda : decode qm.2.1 (pI + 8) = .ok (.astore j, 2)) (h : eKT l r d mi n q.2.2.1 pI L st g = true) : eGo p l e R s m args below meth c Q D A fo qm pI L st g := by
  intro sg tys ws H locs cells slots ls stv hN hL hst hc hs
  obtain ⟨m1, m2, m3, m4, m5, m6, m7, m8⟩ := eM_ok' mi q hq
  have m1 := m1 (by rw [h11]; decide)
  obtain ⟨us, rest, rfl, hu, h⟩ := eTake_ok _ _ _ h
  rw [List.append_nil] at h
  obtain ⟨hb1, h⟩ := eC_t h
  obtain ⟨hb1, hb0⟩ := eC_t hb1
  obtain ⟨h2, h⟩ := eC_t h
  obtain ⟨h3, h⟩ := eC_t h
  obtain ⟨h3, h4⟩ := eC_t h3
  have h0 := Nat.le_of_ble_eq_true hb0
  have hr8 := Nat.le_of_ble_eq_true hb1
  have h3 := Nat.eq_of_beq_eq_true h3
  have h4 := Nat.eq_of_beq_eq_true h4
  obtain ⟨xs, ys, rfl, e1, e2, ht⟩ := eLs_split us rest stv hst
  have ha := eLa_rev e1 e2
  obtain ⟨lv, hlv, -⟩ := id hL
  have hMx := eMx_of hlt hq h11 h5 eKx_7.1 eKx_7.2 rfl (fun p e R s m args below meth c Q D A fo hF hre => pB_p h q hq p e R s m args below meth c Q D A fo hF hre) D fo sg tys ws H.size xs.reverse ha hN.2.2.2.2.1 hN.2.2.2.2.2 h0
  have hD1 : va_D (fun _ => True) ws := hN.2.2.1.weaken (fun _ _ _ _ => trivial)
  have hfree : ∀ z, va_A ws H.size z → A z := by
    intro z hz
    rcases hz with ⟨k, e', hk⟩ | hz
    · exact hN.2.2.1.2 k (z, e') hk
    · exact hF.2.2.2.2.2.2.2.2.2.1 z (Nat.le_trans hN.2.2.2.1.1 hz)
  have hFX : eFX (va_A ws H.size) fo s H := (hF.2.2.2.2.2.2.2.2.2.2.kept hN.2.2.2.1.2.1).narrow hfree
  have hZX : eXz (va_A ws H.size) s H := (hZ.kept hN.2.2.2.1.2.1).narrow hfree
  have hpre : ∀ U : State, U.heap = H → s.WarmedH U.vm → ePx D fo tys ws H.size xs.reverse xs.reverse.toArray U := fun U hU hW => ⟨rfl, ⟨by rw [hU], by rw [hU]; exact hN.2.1, va_K.moved hW.alike hN.1, hD1, by rw [hU]; exact hFX.moved hW⟩, by rw [hU]; exact hZX.moved hW⟩
  have hnl : us.reverse.length = n := by rw [List.length_reverse]; exact hu
  have hnr : xs = xs.reverse.reverse := (List.reverse_reverse xs).symm
  rw [hnr]
  generalize us.reverse = vs at *
  generalize xs.reverse = avs at *
  obtain ⟨o, vs', rfl⟩ : ∃ o vs', vs = o :: vs' := by
    cases vs with
    | nil =>
      rw [← hnl] at w3
      cases hz : parseMethodDescriptor q.1.desc with
      | none => rw [hz] at w3; cases w3
      | some z => rw [hz] at w3; simp at w3
    | cons o vs' => exact ⟨o, vs', rfl⟩
  cases avs with
  | nil => exact ha.elim
  | cons x As =>
    obtain ⟨ho, ha'⟩ := id ha
    have h2 : cond (Nat.blt 11 13) (eAt g o 11 (fun _ _ => true)) (cond (Nat.beq 11 17) (Nat.beq o 6) (Nat.beq 11 64)) = true := h2
    have h2 : eAt g o 11 (fun _ _ => true) = true := h2
    obtain ⟨qq, h7, hp, hqq, hki, -⟩ := eAt_ok h2
    obtain ⟨b, e', rfl, hw, hce, -⟩ := eHp_at hN ho h7 hp
    have hcell : ∃ cellB : Cell, H[b]? = some cellB ∧ cellB.vm.isStatics = false ∧ s.vm.findClass q.1.cls = some cellB.cls := by
      rcases hce with ⟨fs, r0, h1, h2, h3, h4⟩ | ⟨cA, f, t, ty, h1, h2, h3, h4⟩ | ⟨cA, f, t, h1, h2, h3, h4⟩ | ⟨cA, f, t, h1, h2, h3, h4, h5⟩
      · subst h1
        obtain ⟨cell, c1, c2, c3⟩ := va_recv hN.1 hN.2.1 h2 hw
        refine ⟨cell, c1, c2, ?_⟩
        rw [eVw _ _ h2, hki, ← h11, ← m3] at c3
        exact c3
      · omega
      · omega
      · omega
    have hlen : As.length + 1 = n := by
      have := eLa_len (show eLa (eAd ws) sg fo (o :: vs') (.ref b :: As) from ⟨ho, ha'⟩)
      rw [List.length_cons] at this
      rw [this]; exact hnl
    have hown' : s.vm.findClass "LeafVotesLaw" = some m.cls := by rw [← hown]; exact hF.2.2.2.2.1
    have hrun := vx_runV (p := p) (e := e) (R := R) (m := m) (below := below) (meth := meth) (c := c) (locs := locs) (cells := cells) (slots := slots) (g := F0 m pI ls (As.reverse ++ .ref b :: ys)) (cc := qm.2.1) (nL := qm.2.2.1) (Ts := eGW) (own := "LeafVotesLaw") (C := q.1.cls) (b := b) (As := As) (rest := ys) (index := idx) (bytes := q.2.1) (maxL := q.2.2.1) (ret := q.2.2.2.1) (n := As.length) ⟨hF.1, hF.2.1, hF.2.2.1, hown', hF.2.2.2.2.2.1⟩ hMx
      (cwV As.length hF.2.2.2.2.2.1 (fun w hw => by
        rcases List.mem_append.mp hw with hw | hw
        · simp only [List.mem_cons, List.not_mem_nil, or_false] at hw
          rcases hw with rfl | rfl | rfl | rfl
          · exact eGd w1
          · exact eGd w2
          · exact eGd w4
          · exact eGd m8
        · exact eGoodS (own := "") (idx := 0) m1 w hw) rfl rfl rfl ⟨rfl, m7.1, m7.2, eArity w3 hlen⟩ ⟨by show d + 1 + 1 ≤ _; omega, by show 8 + (q.2.2.1 + 11) + 100 * (d + 1) ≤ _; omega⟩) ⟨ePx_blind, hcell, hpre⟩ rfl rfl hlv.1 rfl (lv_room (by rw [eSum_ok ht]; exact hr8)) hd ⟨by omega, by omega⟩
    have estk : ((Value.ref b :: As).reverse ++ ys) = As.reverse ++ Value.ref b :: ys := by simp
    rw [estk]
    intro T hT X
    rcases hrun T hT X with ⟨v, st₀, t, T', LL, q0, X', hLL, q1, q2, ⟨⟨v', g', sg', tys', ws', xo, hxo, hk, hval, p1, p2, k1, k2, k3, k4, k5⟩, hz, hzk⟩, stp⟩ | ⟨qa, st₀, t, T', LL, E, ce, q0, X', hLL, q1, q2, ⟨rfl, ⟨g', sg', tys', ws', hk, p1, p2, k1, k2, k3, k4, k5⟩, hz, hzk⟩, hce', hcv, hcl, stp⟩
    · cases hxo
      rw [q0] at hz hzk
      have hv7 : Nat.beq v' 7 = false := by
        rcases hval with ⟨z1, rfl⟩ | ⟨ty, x, z1, rfl, z2⟩
        · rw [hret] at z1; cases z1
        · cases hb7 : Nat.beq v' 7
          · rfl
          · have e7 := Nat.eq_of_beq_eq_true hb7
            subst e7
            exact absurd z2 eR_no7
      have hk : cond (Nat.beq v' 7) (cond (Nat.ble 1 g'.2.2.2.1) (cond (Nat.ble 6 g'.2.2.2.2) (r (Nat.add pI 10) 0 [] (g'.1, g'.2.1, g'.2.2.1, 0, 0)) false) false) (cond (Nat.beq (eTg v') 7) false (r (Nat.add pI 3) L (v' :: rest) (g'.1, g'.2.1, g'.2.2.1, 0, 0))) = true := hk
      rw [hv7] at hk
      obtain ⟨-, hk⟩ := eC_f hk
      have hS' : va_S A s.heap T'.heap (locs ++ LL) := ⟨Nat.le_trans hN.2.2.2.1.1 (by rw [q1]; exact hz), fun z z1 z2 => by rw [q1, hzk z (Nat.lt_of_lt_of_le z1 hN.2.2.2.1.1) (fun w => z2 (hfree z w))]; exact hN.2.2.2.1.2.1 z z1 z2, fun z hz' => by
        rcases List.mem_append.mp hz' with w | w
        · exact hN.2.2.2.1.2.2 z w
        · exact hfree _ (hLL z w)⟩
      have hN' : eNow s D A fo (g'.1, g'.2.1, g'.2.2.1, 0, 0) sg' tys' ws' T'.heap (locs ++ LL) := ⟨va_K.moved (by rw [← q2]; exact X'.warmed.alike.symm) k1, by rw [q1]; exact k2, k3.weaken (fun _ z _ w => hfree z.1 w), hS', k4, k5⟩
      have hst' : eLs (eAd ws') sg' fo (v' :: rest) (v.toList ++ ys) := by
        have ht' := eLs_mono p1 p2 ht
        rcases hval with ⟨z1, rfl⟩ | ⟨ty, x, z1, rfl, z2⟩
        · rw [hret] at z1; cases z1
        · exact ⟨z2, ht'⟩
      obtain ⟨t2, a1, b1⟩ := hr _ _ _ _ hk sg' tys' ws' T'.heap (locs ++ LL) (cells + 1) (slots + 6) ls _ hN' (eLr_mono hL p1 p2) hst' (by show cells + 1 + 0 ≤ R.cells; omega) (by show slots + 6 + 0 ≤ R.slots; omega) T' rfl X'
      exact ⟨t2, stp t2 a1, b1⟩
    · rw [q0] at hz hzk
      have hk : cond (Nat.ble 1 g'.2.2.2.1) (cond (Nat.ble 6 g'.2.2.2.2) (r (Nat.add pI 10) 0 [] (g'.1, g'.2.1, g'.2.2.1, 0, 0)) false) false = true := hk
      obtain ⟨-, hk⟩ := eC_t hk
      obtain ⟨-, hk⟩ := eC_t hk
      have hS' : va_S A s.heap T'.heap (locs ++ LL) := ⟨Nat.le_trans hN.2.2.2.1.1 (by rw [q1]; exact hz), fun z z1 z2 => by rw [q1, hzk z (Nat.lt_of_lt_of_le z1 hN.2.2.2.1.1) (fun w => z2 (hfree z w))]; exact hN.2.2.2.1.2.1 z z1 z2, fun z hz' => by
        rcases List.mem_append.mp hz' with w | w
        · exact hN.2.2.2.1.2.2 z w
        · exact hfree _ (hLL z w)⟩
      have hN' : eNow s D A fo (g'.1, g'.2.1, g'.2.2.1, 0, 0) sg' tys' ws' T'.heap (locs ++ LL) := ⟨va_K.moved (by rw [← q2]; exact X'.warmed.alike.symm) k1, by rw [q1]; exact k2, k3.weaken (fun _ z _ w => hfree z.1 w), hS', k4, k5⟩
      have hbot := eLs_bot ht
      obtain ⟨t2, a1, b1⟩ := vx_catch (Q := Q) (own := "LeafVotesLaw") (name := "java/util/NoSuchElementException") (E := "java/util/NoSuchElementException") (ce := ce) (q := qa) (pc := pI) (ls := ls) (rest := ys) (H := T'.heap) (locs := locs ++ LL) (cells := cells + 1) (slots := slots + 6) hown' [] ⟨0, pI + 5, pI + 8, 13⟩ [] hex (fun z hz => by cases hz) (by simp [covers]) (by show (13 : Nat) ≠ 0; decide) (hF.2.2.2.2.2.1 _ w5) (va_Nw.use rfl (hZ.2.2 _ (by simp [eXw]))) (by rw [q1]; exact hce') hcv hcl
        (lv_astore hF.1 hF.2.1 hda hlv hj rfl (fun ls' hl' => hr _ _ _ _ hk sg' tys' ws' T'.heap (locs ++ LL) (cells + 1) (slots + 6) ls' [] hN' (eLr_0 hl') ⟨eTrans hbot.1 p1, eTrans hbot.2 p2⟩ (by show cells + 1 + 0 ≤ R.cells; omega) (by show slots + 6 + 0 ≤ R.slots; omega))) T' rfl X'
      exact ⟨t2, stp.trans a1, b1⟩
end CkThr12
