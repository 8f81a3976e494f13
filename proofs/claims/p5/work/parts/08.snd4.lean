section EvS4
variable {p : Program} {l : Launch} {e : Env} {R : Room} {s : State} {m : MethodId} {args : Array Value} {below : List Frame} {meth : Method} {c : Code} {Q : State → Prop} {D : va_G} {A : Nat → Prop} {fo : evF} {qm : evM} {dp : Nat}
variable {r : evR} {cl : evC} {kk : evK} {pc L : Nat} {st : List Nat} {g : evG} {sg : List Int32} {tys : List (ClassId × FieldType)} {ws : va_W} {H : Heap} {locs : List Loc}
theorem eC_lt {v : Nat} (h : Nat.blt v 65536 = true) : v < 2 ^ 31 := by
  have := eB_l h
  omega
/-- a new array of numbers -/
theorem s_newa {ki d : Nat} {at0 : ArrayType} {ty : FieldType} (hF : eFix p R s m args meth c A fo qm dp) (hr : ∀ pc L st g, r pc L st g = true → eGo p l e R s m args below meth c Q D A fo qm pc L st g) (hty : newarray.typeOf at0 = ty) (hw : Jvm.Cond.arrayClass ty ∈ eGW) (hby : componentBytes ty ≤ 8) (hki : ki < 65536)
    (a0 : Nat → vp_A) (ha : ∀ (n : Nat) (cA : ClassId), vp_cell cA (a0 n) = arrV cA n (fun _ => defaultValue ty)) (hce : ∀ (ad : List Nat) (sg : List Int32) (tys : List (ClassId × FieldType)) (cA : ClassId) (n t c' : Nat), n < 65536 → eKi c' = ki → eLe c' = n → eDa c' = eRep n d → tys[t]? = some (cA, ty) → eCe ad sg fo tys c' (.inl (cA, a0 n)))
    (hd : decode qm.2.1 pc = .ok (.newarray at0, 2)) (h : hNewa ki d 2 r cl kk pc L st g = true) : eGo p l e R s m args below meth c Q D A fo qm pc L st g := by
  intro sg tys ws H locs cells slots ls stv hN hL hst hc hs
  cases st with
  | nil => cases h
  | cons n rest =>
    obtain ⟨x, xs, rfl, hn, ht⟩ := eLs_c hst
    obtain ⟨h1, h⟩ := eC_t h
    obtain ⟨h2, h⟩ := eC_t h
    obtain ⟨h3, h4, h5, h⟩ := eNew_ok h
    obtain ⟨-, rfl⟩ := eR_1 hn (Nat.eq_of_beq_eq_true h1)
    have h2' := eB_l h2
    have hz := eC_lt h2
    obtain ⟨e1, e2, e3⟩ := eMk_ki (d := eRep (ePl n) d) hki h2'
    refine va_newa (D := D) (N' := ePl n) (a0 := a0 (ePl n)) hF.1 hF.2.1 (by rw [hty]; exact hF.2.2.2.2.2.1 _ hw) hty hN.1 hN.2.1 hN.2.2.1 hN.2.2.2.1 hF.2.2.2.2.2.2.2.2.2.1 (ha _) (nI_pos hz) (nI_clamp hz) (Nat.le_trans (Nat.mul_le_mul (Nat.le_of_lt h2') hby) (by decide)) (by omega) (by omega) hd (fun q cA H1 hK hP hD hS => ?_)
    obtain ⟨n1, n2⟩ := eNow_push (c' := eMk ki (ePl n) (eRep (ePl n) d)) (nc := g.2.2.2.1 - 1) (ns := g.2.2.2.2 - ePl n) hN h3 (hce _ _ _ cA (ePl n) tys.length _ h2' e1 e2 e3 (by rw [List.getElem?_concat_length])) hK hP hD hS
    exact hr _ _ _ _ h sg _ _ H1 locs (cells + 1) (slots + ePl n) ls _ n1 (eLr_mono hL ⟨[q], eAd_push⟩ (eStay sg)) ⟨n2, eLs_mono ⟨[q], eAd_push⟩ (eStay sg) ht⟩ (by show cells + 1 + (g.2.2.2.1 - 1) ≤ _; omega) (by show slots + ePl n + (g.2.2.2.2 - ePl n) ≤ _; omega)
theorem eR_0 {ad : List Nat} {sg : List Int32} : eR ad sg fo 1 (.int 0) := eR_c (n := 0) (by decide)
theorem s_newarr {t : ArrayType} (hF : eFix p R s m args meth c A fo qm dp) (hr : ∀ pc L st g, r pc L st g = true → eGo p l e R s m args below meth c Q D A fo qm pc L st g) (hw : ∀ ty : FieldType, ty = .int ∨ ty = .long ∨ ty = .byte ∨ ty = .boolean → Jvm.Cond.arrayClass ty ∈ eGW) (hd : decode qm.2.1 pc = .ok (.newarray t, 2)) (h : hNewarr t r cl kk pc L st g = true) : eGo p l e R s m args below meth c Q D A fo qm pc L st g := by
  cases t
  case int =>
    refine s_newa (cl := cl) (kk := kk) (ki := 64) (d := 1) (at0 := .int) (ty := .int) hF hr rfl (hw _ (Or.inl rfl)) (by decide) (by decide) (fun n => (n, .inl (fun _ => 0))) (fun n cA => rfl) (fun ad sg tys cA n t c' hn e1 e2 e3 ht => ?_) hd h
    refine Or.inr (Or.inl ⟨cA, fun _ => 0, t, .int, by rw [e2], ht, Or.inl ⟨e1, rfl⟩, fun j hj => ?_⟩)
    rw [e3, eSl_rep (by decide) _ _ (by omega)]
    exact eR_0
  case long =>
    refine s_newa (cl := cl) (kk := kk) (ki := 65) (d := 4) (at0 := .long) (ty := .long) hF hr rfl (hw _ (Or.inr (Or.inl rfl))) (by decide) (by decide) (fun n => (n, .inr (.inl (fun _ => 0)))) (fun n cA => rfl) (fun ad sg tys cA n t c' hn e1 e2 e3 ht => ?_) hd h
    refine Or.inr (Or.inr (Or.inl ⟨cA, fun _ => 0, t, by rw [e2], ht, e1, fun j hj => ?_⟩))
    rw [e3, eSl_rep (by decide) _ _ (by omega)]
    exact eR_l (n := 0) (by decide)
  case byte =>
    refine s_newa (cl := cl) (kk := kk) (ki := 66) (d := 1) (at0 := .byte) (ty := .byte) hF hr rfl (hw _ (Or.inr (Or.inr (Or.inl rfl)))) (by decide) (by decide) (fun n => (n, .inl (fun _ => 0))) (fun n cA => rfl) (fun ad sg tys cA n t c' hn e1 e2 e3 ht => ?_) hd h
    refine Or.inr (Or.inl ⟨cA, fun _ => 0, t, .byte, by rw [e2], ht, Or.inr (Or.inl ⟨e1, rfl⟩), fun j hj => ?_⟩)
    rw [e3, eSl_rep (by decide) _ _ (by omega)]
    exact eR_0
  case boolean =>
    refine s_newa (cl := cl) (kk := kk) (ki := 67) (d := 1) (at0 := .boolean) (ty := .boolean) hF hr rfl (hw _ (Or.inr (Or.inr (Or.inr rfl)))) (by decide) (by decide) (fun n => (n, .inl (fun _ => 0))) (fun n cA => rfl) (fun ad sg tys cA n t c' hn e1 e2 e3 ht => ?_) hd h
    refine Or.inr (Or.inl ⟨cA, fun _ => 0, t, .boolean, by rw [e2], ht, Or.inr (Or.inr ⟨e1, rfl⟩), fun j hj => ?_⟩)
    rw [e3, eSl_rep (by decide) _ _ (by omega)]
    exact eR_0
  all_goals cases h
/-- a new array of objects -/
theorem s_newq {ci idx : Nat} (hF : eFix p R s m args meth c A fo qm dp) (hr : ∀ pc L st g, r pc L st g = true → eGo p l e R s m args below meth c Q D A fo qm pc L st g) (hci : ci < 13) (hw : Jvm.Cond.classLink (eCn qm.2.2.2.2.1) idx (eCn ci) ∈ eGW) (ho : va_AO (eCn ci) s)
    (hd : decode qm.2.1 pc = .ok (.anewarray idx, 3)) (h : hNewa (Nat.add 128 ci) 5 3 r cl kk pc L st g = true) : eGo p l e R s m args below meth c Q D A fo qm pc L st g := by
  intro sg tys ws H locs cells slots ls stv hN hL hst hc hs
  cases st with
  | nil => cases h
  | cons n rest =>
    obtain ⟨x, xs, rfl, hn, ht⟩ := eLs_c hst
    obtain ⟨h1, h⟩ := eC_t h
    obtain ⟨h2, h⟩ := eC_t h
    obtain ⟨h3, h4, h5, h⟩ := eNew_ok h
    obtain ⟨-, rfl⟩ := eR_1 hn (Nat.eq_of_beq_eq_true h1)
    have h2' := eB_l h2
    have hz := eC_lt h2
    obtain ⟨e1, e2, e3⟩ := eMk_ki (ki := Nat.add 128 ci) (d := eRep (ePl n) 5) (by show 128 + ci < _; omega) h2'
    refine va_newq (D := D) (N' := ePl n) (C := eCn ci) hF.1 hF.2.1 hF.2.2.2.2.1 (hF.2.2.2.2.2.1 _ hw) ho hN.1 hN.2.1 hN.2.2.1 hN.2.2.2.1 hF.2.2.2.2.2.2.2.2.2.1 (nI_pos hz) (nI_clamp hz) (Nat.le_trans (Nat.mul_le_mul (Nat.le_of_lt h2') (Nat.le_refl 4)) (by decide)) (by omega) (by omega) hd (fun q cA H1 hK hP hD hS => ?_)
    have e4 : Nat.add 128 ci - 128 = ci := by show 128 + ci - 128 = ci; omega
    obtain ⟨n1, n2⟩ := eNow_push (c' := eMk (Nat.add 128 ci) (ePl n) (eRep (ePl n) 5)) (nc := g.2.2.2.1 - 1) (ns := g.2.2.2.2 - ePl n) hN h3 (Or.inr (Or.inr (Or.inr ⟨cA, fun _ => none, tys.length, by rw [e2], by rw [List.getElem?_concat_length, e1, e4], by rw [e1]; show 128 ≤ 128 + ci; omega, by rw [e1]; show 128 + ci < 141; omega, fun j hj => by
      rw [e2] at hj
      rw [e3, eSl_rep (by decide) _ _ hj]
      exact eR_n⟩))) hK hP hD hS
    exact hr _ _ _ _ h sg _ _ H1 locs (cells + 1) (slots + ePl n) ls _ n1 (eLr_mono hL ⟨[q], eAd_push⟩ (eStay sg)) ⟨n2, eLs_mono ⟨[q], eAd_push⟩ (eStay sg) ht⟩ (by show cells + 1 + (g.2.2.2.1 - 1) ≤ _; omega) (by show slots + ePl n + (g.2.2.2.2 - ePl n) ≤ _; omega)
/-- an index that lies within -/
theorem eInR_ok {env : evEnv} (hE : eE env sg) {i n : Nat} {y : Int32} {k : Nat → Nat → Bool} (hi : eR (eAd ws) sg fo i (.int y)) (hn : n < 65536) (h : eInR env i n k = true) : ∃ j m0 z : Nat, k j m0 = true ∧ j ≤ z ∧ z ≤ j + m0 ∧ j + m0 < n ∧ y = nI z ∧ vp_in y n ∧ y.toNatClampNeg = z := by
  obtain ⟨a1, a2⟩ := eIv_ok hE hi
  obtain ⟨h1, h⟩ := eC_t h
  obtain ⟨h2, h⟩ := eC_t h
  obtain ⟨h3, h⟩ := eC_t h
  have h1 := Nat.le_of_ble_eq_true h1
  have h2 : (eIv env i).2 - 2147483648 < n := eB_l h2
  have h3 := Nat.le_of_ble_eq_true h3
  have hy := eX_back y
  have e : eBi (eX y) = eX y - 2147483648 := by
    have := eX_lt32 y
    show (eX y + 2147483648) % 4294967296 = _
    omega
  rw [e] at hy
  have hz : eX y - 2147483648 < n := Nat.lt_of_le_of_lt (Nat.sub_le_sub_right a2 _) h2
  refine ⟨_, _, eX y - 2147483648, h, ?_, ?_, ?_, hy, ?_, ?_⟩
  · show (eIv env i).1 - 2147483648 ≤ _
    omega
  · show _ ≤ (eIv env i).1 - 2147483648 + ((eIv env i).2 - (eIv env i).1)
    omega
  · show (eIv env i).1 - 2147483648 + ((eIv env i).2 - (eIv env i).1) < n
    omega
  · have q := vp_in_nI hz (Nat.lt_trans hn (by decide))
    rw [← hy] at q
    exact q
  · have q := nI_clamp (n := eX y - 2147483648) (Nat.lt_trans (Nat.lt_trans hz hn) (by decide))
    rw [← hy] at q
    exact q
theorem eAll_ok {B v : Nat} : ∀ (n j : Nat), eAll B j n v = true → ∀ i, j ≤ i → i < j + n → eSl B i = v := by
  intro n
  induction n with
  | zero => intro j _ i h1 h2; omega
  | succ n ih =>
    intro j h i h1 h2
    have h : cond (Nat.beq (eSl B j) v) (eAll B (Nat.add j 1) n v) false = true := h
    obtain ⟨q1, q2⟩ := eC_t h
    by_cases e : i = j
    · rw [e]; exact Nat.eq_of_beq_eq_true q1
    · exact ih (j + 1) q2 i (by omega) (by omega)
theorem eFill_ok {v : Nat} (hv : v < 2 ^ 72) : ∀ (n B j i : Nat), eSl (eFill B j n v) i = if j ≤ i ∧ i < j + n then v else eSl B i := by
  intro n
  induction n with
  | zero => intro B j i; rw [if_neg (by omega)]; rfl
  | succ n ih =>
    intro B j i
    have e : eFill B j (n + 1) v = eFill (eBl B j 1 v) (Nat.add j 1) n v := rfl
    rw [e, ih, eSl_set hv]
    show (if j + 1 ≤ i ∧ i < j + 1 + n then v else if i = j then v else eSl B i) = _
    by_cases h1 : j + 1 ≤ i ∧ i < j + 1 + n
    · rw [if_pos h1, if_pos (by omega)]
    · rw [if_neg h1]
      by_cases h2 : i = j
      · rw [if_pos h2, if_pos (by omega)]
      · rw [if_neg h2, if_neg (by omega)]
theorem eLe_lt (c' : Nat) : eLe c' < 65536 := Nat.mod_lt _ (by decide)
/-- reading an array: its kind decides the row -/
theorem s_ald {pp : Nat → Bool} (hF : eFix p R s m args meth c A fo qm dp) (hr : ∀ pc L st g, r pc L st g = true → eGo p l e R s m args below meth c Q D A fo qm pc L st g)
    (row : ∀ (sg : List Int32) (tys : List (ClassId × FieldType)) (ws : va_W) (H : Heap) (locs : List Loc) (cells slots : Nat) (ls : Array Slot) (rest : List Value) (q a c' z : Nat) (e' : va_E) (y : Int32), va_K D vwCl tys s → va_P D vwCl ws H → ws[q]? = some (a, e') → pp (eKi c') = true → eCe (eAd ws) sg fo tys c' e' → vp_in y (eLe c') → y.toNatClampNeg = z → z < eLe c' →
      (∀ x, eR (eAd ws) sg fo (eSl (eDa c') z) x → (eKi c' = 64 → ∃ w, x = .int w) → W p l e R s m args below meth c H locs cells slots Q (F0 m (pc + 1) ls (x :: rest))) → W p l e R s m args below meth c H locs cells slots Q (F0 m pc ls (.int y :: .ref a :: rest)))
    (h : hAld pp r cl kk pc L st g = true) : eGo p l e R s m args below meth c Q D A fo qm pc L st g := by
  intro sg tys ws H locs cells slots ls stv hN hL hst hc hs
  cases st with
  | nil => cases h
  | cons i st =>
    cases st with
    | nil => cases h
    | cons o rest =>
      obtain ⟨x, ys, rfl, hi, ht1⟩ := eLs_c hst
      obtain ⟨y, xs, rfl, ho, ht⟩ := eLs_c ht1
      obtain ⟨h1, h⟩ := eC_t h
      obtain ⟨x, rfl⟩ := eR_I hi h1
      obtain ⟨q, h5, hp, hq, hki, h⟩ := eAtP_ok h
      obtain ⟨a, e', rfl, hw, hce, hq2⟩ := eHp_at hN ho h5 hp
      obtain ⟨j, m0, z, h, b1, b2, b3, rfl, b4, b5⟩ := eInR_ok hN.2.2.2.2.2 hi (eLe_lt _) h
      refine row sg tys ws H locs cells slots ls xs q a _ z e' _ hN.1 hN.2.1 hw hki hce b4 b5 (by omega) (fun x hx hx2 => ?_)
      cases ha : eAll (eDa (Lean.RArray.get g.1 q)) (Nat.add j 1) m0 (eSl (eDa (Lean.RArray.get g.1 q)) j)
      · rw [ha] at h
        have h : cond (Nat.beq (eKi (Lean.RArray.get g.1 q)) 64) (r (Nat.add pc 1) L (3 :: rest) g) (eSpi i (fun j env => r (Nat.add pc 1) L (eNrm env (eSl (eDa (Lean.RArray.get g.1 q)) j) :: rest) (g.1, g.2.1, env, g.2.2.2)) m0 j g.2.2.1) = true := h
        cases h2 : Nat.beq (eKi (Lean.RArray.get g.1 q)) 64
        · rw [h2] at h
          have hl := eLe_lt (Lean.RArray.get g.1 q)
          have hxz : eX (nI z) = z + 2147483648 := by
            rw [eX_nI (by omega)]
            show (z + 2147483648) % 4294967296 = _
            omega
          obtain ⟨env', e1, e2⟩ := eSpi_ok hi hxz m0 j g.2.2.1 hN.2.2.2.2.2 h b1 b2
          exact hr _ _ _ _ e2 sg tys ws H locs cells slots ls _ (eNow_env hN e1) hL ⟨eNrm_ok e1 hx, ht⟩ hc hs
        · rw [h2] at h
          obtain ⟨w, rfl⟩ := hx2 (Nat.eq_of_beq_eq_true h2)
          exact hr _ _ _ _ h sg tys ws H locs cells slots ls _ hN hL ⟨eR_any _, ht⟩ hc hs
      · rw [ha] at h
        have e : eSl (eDa (Lean.RArray.get g.1 q)) z = eSl (eDa (Lean.RArray.get g.1 q)) j := by
          by_cases ez : z = j
          · rw [ez]
          · exact eAll_ok _ _ ha z (by show j + 1 ≤ z; omega) (by show z < j + 1 + m0; omega)
        rw [e] at hx
        exact hr _ _ _ _ h sg tys ws H locs cells slots ls _ hN hL ⟨eNrm_ok hN.2.2.2.2.2 hx, ht⟩ hc hs
theorem s_iald (hF : eFix p R s m args meth c A fo qm dp) (hr : ∀ pc L st g, r pc L st g = true → eGo p l e R s m args below meth c Q D A fo qm pc L st g) (hd : decode qm.2.1 pc = .ok (.iaload, 1)) (h : hAld (fun k => Nat.beq k 64) r cl kk pc L st g = true) : eGo p l e R s m args below meth c Q D A fo qm pc L st g := by
  refine s_ald hF hr (fun sg tys ws H locs cells slots ls rest q a c' z e' y hK hP hw hki hce hin hz hlt k => ?_) h
  have hki := Nat.eq_of_beq_eq_true hki
  rcases hce with ⟨fs, r0, h1, h2, h3, h4⟩ | ⟨cA, f, t, ty, h1, h2, h3, h4⟩ | ⟨cA, f, t, h1, h2, h3, h4⟩ | ⟨cA, f, t, h1, h2, h3, h4, h5⟩
  · have : eKi c' < 13 := (List.getElem?_eq_some_iff.mp h2).1
    omega
  · rcases h3 with ⟨-, rfl⟩ | ⟨q1, -⟩ | ⟨q1, -⟩
    · subst h1
      refine va_iald hF.1 hF.2.1 hK hP q t hw h2 hin hd ?_
      rw [hz]
      exact k _ (h4 z hlt) (fun _ => ⟨_, rfl⟩)
    · omega
    · omega
  · omega
  · omega
theorem s_lald (hF : eFix p R s m args meth c A fo qm dp) (hr : ∀ pc L st g, r pc L st g = true → eGo p l e R s m args below meth c Q D A fo qm pc L st g) (hd : decode qm.2.1 pc = .ok (.laload, 1)) (h : hAld (fun k => Nat.beq k 65) r cl kk pc L st g = true) : eGo p l e R s m args below meth c Q D A fo qm pc L st g := by
  refine s_ald hF hr (fun sg tys ws H locs cells slots ls rest q a c' z e' y hK hP hw hki hce hin hz hlt k => ?_) h
  have hki := Nat.eq_of_beq_eq_true hki
  rcases hce with ⟨fs, r0, h1, h2, h3, h4⟩ | ⟨cA, f, t, ty, h1, h2, h3, h4⟩ | ⟨cA, f, t, h1, h2, h3, h4⟩ | ⟨cA, f, t, h1, h2, h3, h4, h5⟩
  · have : eKi c' < 13 := (List.getElem?_eq_some_iff.mp h2).1
    omega
  · omega
  · subst h1
    refine va_lald hF.1 hF.2.1 hK hP q t hw h2 hin hd ?_
    rw [hz]
    exact k _ (h4 z hlt) (fun e => by omega)
  · omega
theorem s_bald (hF : eFix p R s m args meth c A fo qm dp) (hr : ∀ pc L st g, r pc L st g = true → eGo p l e R s m args below meth c Q D A fo qm pc L st g) (hd : decode qm.2.1 pc = .ok (.baload, 1)) (h : hAld (fun k => cond (Nat.beq k 66) true (Nat.beq k 67)) r cl kk pc L st g = true) : eGo p l e R s m args below meth c Q D A fo qm pc L st g := by
  refine s_ald hF hr (fun sg tys ws H locs cells slots ls rest q a c' z e' y hK hP hw hki hce hin hz hlt k => ?_) h
  have hki : eKi c' = 66 ∨ eKi c' = 67 := by
    cases hb : Nat.beq (eKi c') 66
    · have hki : cond (Nat.beq (eKi c') 66) true (Nat.beq (eKi c') 67) = true := hki
      rw [hb] at hki
      exact Or.inr (Nat.eq_of_beq_eq_true hki)
    · exact Or.inl (Nat.eq_of_beq_eq_true hb)
  rcases hce with ⟨fs, r0, h1, h2, h3, h4⟩ | ⟨cA, f, t, ty, h1, h2, h3, h4⟩ | ⟨cA, f, t, h1, h2, h3, h4⟩ | ⟨cA, f, t, h1, h2, h3, h4, h5⟩
  · have : eKi c' < 13 := (List.getElem?_eq_some_iff.mp h2).1
    omega
  · subst h1
    rcases h3 with ⟨q1, -⟩ | ⟨q1, rfl⟩ | ⟨q1, rfl⟩
    · omega
    · refine va_bald hF.1 hF.2.1 hK hP q t hw h2 hin hd ?_
      rw [hz]
      exact k _ (h4 z hlt) (fun _ => ⟨_, rfl⟩)
    · refine va_zald hF.1 hF.2.1 hK hP q t hw h2 hin hd ?_
      rw [hz]
      exact k _ (h4 z hlt) (fun _ => ⟨_, rfl⟩)
  · omega
  · omega
theorem s_aald (hF : eFix p R s m args meth c A fo qm dp) (hr : ∀ pc L st g, r pc L st g = true → eGo p l e R s m args below meth c Q D A fo qm pc L st g) (hd : decode qm.2.1 pc = .ok (.aaload, 1)) (h : hAld (fun k => Nat.ble 128 k) r cl kk pc L st g = true) : eGo p l e R s m args below meth c Q D A fo qm pc L st g := by
  refine s_ald hF hr (fun sg tys ws H locs cells slots ls rest q a c' z e' y hK hP hw hki hce hin hz hlt k => ?_) h
  have hki := Nat.le_of_ble_eq_true hki
  rcases hce with ⟨fs, r0, h1, h2, h3, h4⟩ | ⟨cA, f, t, ty, h1, h2, h3, h4⟩ | ⟨cA, f, t, h1, h2, h3, h4⟩ | ⟨cA, f, t, h1, h2, h3, h4, h5⟩
  · have : eKi c' < 13 := (List.getElem?_eq_some_iff.mp h2).1
    omega
  · omega
  · omega
  · subst h1
    refine va_aldq hF.1 hF.2.1 hK hP q t hw h2 hin hd ?_
    rw [hz]
    exact k _ (h5 z hlt) (fun e => by omega)
/-- the length of an array -/
theorem s_len (hF : eFix p R s m args meth c A fo qm dp) (hr : ∀ pc L st g, r pc L st g = true → eGo p l e R s m args below meth c Q D A fo qm pc L st g) (hd : decode qm.2.1 pc = .ok (.arraylength, 1)) (hfo : ∀ sg tys ws H locs cells slots ls rest, eNow s D A fo g sg tys ws H locs → W p l e R s m args below meth c H locs cells slots Q (F0 m (pc + 1) ls (.int 152 :: rest)) → W p l e R s m args below meth c H locs cells slots Q (F0 m pc ls (fo.1 1 :: rest))) (h : hLen r cl kk pc L st g = true) : eGo p l e R s m args below meth c Q D A fo qm pc L st g := by
  intro sg tys ws H locs cells slots ls stv hN hL hst hc hs
  cases st with
  | nil => cases h
  | cons o rest =>
    obtain ⟨x, xs, rfl, ho, ht⟩ := eLs_c hst
    cases h6 : Nat.beq o 14
    · have h : cond (Nat.beq o 14) (r (Nat.add pc 1) L (eCi 152 :: rest) g) (eAtP g o (fun k => Nat.ble 64 k) (fun _ c => r (Nat.add pc 1) L (eCi (eLe c) :: rest) g)) = true := h
      rw [h6] at h
      obtain ⟨q, h5, hp, hq, hki, h⟩ := eAtP_ok h
      obtain ⟨a, e', rfl, hw, hce, hq2⟩ := eHp_at hN ho h5 hp
      have hki := Nat.le_of_ble_eq_true hki
      have hl := eLe_lt (Lean.RArray.get g.1 q)
      have fin := hr _ _ _ _ h sg tys ws H locs cells slots ls (.int (nI (eLe (Lean.RArray.get g.1 q))) :: xs) hN hL ⟨eR_c (n := eLe (Lean.RArray.get g.1 q)) (by omega), ht⟩ hc hs
      rcases hce with ⟨fs, r0, h1, h2, h3, h4⟩ | ⟨cA, f, t, ty, h1, h2, h3, h4⟩ | ⟨cA, f, t, h1, h2, h3, h4⟩ | ⟨cA, f, t, h1, h2, h3, h4, h5⟩
      · have : eKi (Lean.RArray.get g.1 q) < 13 := (List.getElem?_eq_some_iff.mp h2).1
        omega
      · subst h1
        exact va_alen hF.1 hF.2.1 hN.1 hN.2.1 q t hw h2 rfl hd fin
      · subst h1
        exact va_alen hF.1 hF.2.1 hN.1 hN.2.1 q t hw h2 rfl hd fin
      · subst h1
        exact va_alen hF.1 hF.2.1 hN.1 hN.2.1 q t hw h2 rfl hd fin
    · have h : cond (Nat.beq o 14) (r (Nat.add pc 1) L (eCi 152 :: rest) g) (eAtP g o (fun k => Nat.ble 64 k) (fun _ c => r (Nat.add pc 1) L (eCi (eLe c) :: rest) g)) = true := h
      rw [h6] at h
      have e := Nat.eq_of_beq_eq_true h6
      subst e
      obtain ⟨-, ⟨h2, -⟩ | ⟨h2, -⟩ | ⟨h2, -⟩ | ⟨h2, -⟩ | ⟨h2, -⟩ | ⟨h2, rfl, -⟩⟩ := ho
      all_goals first | cases h2; done | skip
      exact hfo sg tys ws H locs cells slots ls xs hN (hr _ _ _ _ h sg tys ws H locs cells slots ls _ hN hL ⟨eR_c (n := 152) (by decide), ht⟩ hc hs)
end EvS4
