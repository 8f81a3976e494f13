section EvS6
variable {p : Program} {l : Launch} {e : Env} {R : Room} {s : State} {m : MethodId} {args : Array Value} {below : List Frame} {meth : Method} {c : Code} {Q : State → Prop} {D : va_G} {A : Nat → Prop} {fo : evF} {qm : evM} {dp : Nat}
variable {r : evR} {cl : evC} {kk : evK} {pc L : Nat} {st : List Nat} {g : evG} {sg : List Int32} {tys : List (ClassId × FieldType)} {ws : va_W} {H : Heap} {locs : List Loc}
theorem eSum_ok {ad : List Nat} {sg : List Int32} : ∀ {st : List Nat} {xs : List Value}, eLs ad sg fo st xs → (xs.map fun v => v.category).sum = eSum st
  | [], [], _ => rfl
  | v :: st, x :: xs, h => by
    have ih := eSum_ok h.2
    show (x.category :: xs.map fun v => v.category).sum = eCat v + eSum st
    rw [List.sum_cons, ih, eR_cat h.1]
  | [], _ :: _, h => h.elim
  | _ :: _, [], h => h.elim
theorem s_obj {idx : Nat} (hF : eFix p R s m args meth c A fo qm dp) (hr : ∀ pc L st g, r pc L st g = true → eGo p l e R s m args below meth c Q D A fo qm pc L st g) (hl : Jvm.Cond.methodLink (eCn qm.2.2.2.2.1) idx objectInit ∈ eGW) (hi : Jvm.Cond.instanceMethod objectInit ∈ eGW) (hc0 : Jvm.Cond.code objectInit ⟨#[0xb1]⟩ 1 none ∈ eGW)
    (hd : decode qm.2.1 pc = .ok (.invokespecial idx, 3)) (h : hObj r cl kk pc L st g = true) : eGo p l e R s m args below meth c Q D A fo qm pc L st g := by
  intro sg tys ws H locs cells slots ls stv hN hL hst hc hs
  cases st with
  | nil => cases h
  | cons o rest =>
    obtain ⟨x, xs, rfl, ho, ht⟩ := eLs_c hst
    obtain ⟨h1, h⟩ := eC_t h
    obtain ⟨h2, h⟩ := eC_t h
    obtain ⟨h3, h⟩ := eC_t h
    have h2 := eB_l h2
    have h3 := Nat.le_of_ble_eq_true h3
    obtain ⟨a, ha, rfl⟩ := eR_5 (k := ePl o - 1) ho (Nat.eq_of_beq_eq_true h1) (by omega)
    obtain ⟨lv, hlv, -⟩ := id hL
    have hsum := eSum_ok ht
    have hroom := hF.2.2.2.2.2.2.2.2.1
    exact W.objInit hF.1 hF.2.1 hF.2.2.2.2.1 (hF.2.2.2.2.2.1 _ hl) (hF.2.2.2.2.2.1 _ hi) (hF.2.2.2.2.2.1 _ hc0) rfl (by rw [hF.2.2.1]; exact hlv.1) rfl hd (by omega) (by show 2 * 0 + (xs.map fun v => v.category).sum + 12 ≤ R.locals; rw [hsum]; omega) (hr _ _ _ _ h sg tys ws H locs cells slots ls xs hN hL ht hc hs)
theorem eNfw : nativeFrameWords "java/lang/System" "arraycopy" 5 = 7 := by decide
theorem s_copy {idx : Nat} (hF : eFix p R s m args meth c A fo qm dp) (hr : ∀ pc L st g, r pc L st g = true → eGo p l e R s m args below meth c Q D A fo qm pc L st g) (hl : Jvm.Cond.methodLink (eCn qm.2.2.2.2.1) idx arraycopyName ∈ eGW) (hn0 : Jvm.Cond.native arraycopyName ∈ eGW) (hs0 : Jvm.Cond.static arraycopyName ∈ eGW) (hi0 : Jvm.Cond.initialized "java/lang/System" ∈ eGW)
    (hd : decode qm.2.1 pc = .ok (.invokestatic idx, 3)) (h : hCopy r cl kk pc L st g = true) : eGo p l e R s m args below meth c Q D A fo qm pc L st g := by
  intro sg tys ws H locs cells slots ls stv hN hL hst hc hs
  cases st with
  | nil => cases h
  | cons n st =>
    cases st with
    | nil => cases h
    | cons dp' st =>
      cases st with
      | nil => cases h
      | cons d st =>
        cases st with
        | nil => cases h
        | cons sp st =>
          cases st with
          | nil => cases h
          | cons s' rest =>
            obtain ⟨xn, x1, rfl, rn, t1⟩ := eLs_c hst
            obtain ⟨xdp, x2, rfl, rdp, t2⟩ := eLs_c t1
            obtain ⟨xd, x3, rfl, rd, t3⟩ := eLs_c t2
            obtain ⟨xsp, x4, rfl, rsp, t4⟩ := eLs_c t3
            obtain ⟨xs', xs, rfl, rs, ht⟩ := eLs_c t4
            obtain ⟨h1, h⟩ := eC_t h
            obtain ⟨h1, hsm⟩ := eC_t h1
            obtain ⟨h2, h⟩ := eC_t h
            obtain ⟨h3, h⟩ := eC_t h
            obtain ⟨qs, s5, sp', sq, ski, h⟩ := eAtP_ok h
            obtain ⟨qd, d5, dpp, dq, dki, h⟩ := eAt_ok h
            obtain ⟨h4, h⟩ := eC_t h
            obtain ⟨h5, h⟩ := eC_t h
            rw [eF_eq, eSetK_eq] at h
            have h4 : ePl sp + ePl n ≤ eLe (Lean.RArray.get g.1 qs) := Nat.le_of_ble_eq_true h4
            have h5 : ePl dp' + ePl n ≤ eLe (Lean.RArray.get g.1 qd) := Nat.le_of_ble_eq_true h5
            have hsm := Nat.le_of_ble_eq_true hsm
            obtain ⟨as, es, rfl, ws1, ces, -⟩ := eHp_at hN rs s5 sp'
            obtain ⟨ad', ed, rfl, wd1, ced, -⟩ := eHp_at hN rd d5 dpp
            obtain ⟨-, rfl⟩ := eR_1 rn (Nat.eq_of_beq_eq_true h1)
            obtain ⟨-, rfl⟩ := eR_1 rdp (Nat.eq_of_beq_eq_true h2)
            obtain ⟨-, rfl⟩ := eR_1 rsp (Nat.eq_of_beq_eq_true h3)
            have l1 := eLe_lt (Lean.RArray.get g.1 qs)
            have l2 := eLe_lt (Lean.RArray.get g.1 qd)
            have z1 : ePl n < 2 ^ 31 := by omega
            have z2 : ePl dp' < 2 ^ 31 := by omega
            have z3 : ePl sp < 2 ^ 31 := by omega
            obtain ⟨lv, hlv, -⟩ := id hL
            have hsum := eSum_ok ht
            have hroom := hF.2.2.2.2.2.2.2.2.1
            obtain ⟨e1, e2, e3⟩ := eSd_ki (Lean.RArray.get g.1 qd) (eBl (eDa (Lean.RArray.get g.1 qd)) (ePl dp') (ePl n) (Nat.shiftRight (eDa (Lean.RArray.get g.1 qs)) (Nat.mul 72 (ePl sp))))
            have hslot : ∀ j, eSl (eBl (eDa (Lean.RArray.get g.1 qd)) (ePl dp') (ePl n) (Nat.shiftRight (eDa (Lean.RArray.get g.1 qs)) (Nat.mul 72 (ePl sp)))) j = if ePl dp' ≤ j ∧ j < ePl dp' + ePl n then eSl (eDa (Lean.RArray.get g.1 qs)) (ePl sp + (j - ePl dp')) else eSl (eDa (Lean.RArray.get g.1 qd)) j := by
              intro j
              rw [eSl_bl]
              by_cases q1 : j < ePl dp'
              · rw [if_pos q1, if_neg (by omega)]
              · rw [if_neg q1]
                by_cases q2 : j < ePl dp' + ePl n
                · rw [if_pos q2, if_pos (by omega), eSl_sh]
                · rw [if_neg q2, if_neg (by omega)]
            have hml : c.maxLocals = ls.size := by rw [hF.2.2.1]; exact hlv.1.symm
            have hlo : (xs.map fun v => v.category).sum + (nativeFrameWords "java/lang/System" "arraycopy" 5 + 11) ≤ R.locals := by rw [hsum, eNfw]; omega
            have b1 : ¬ nI (ePl sp) < 0 := nI_pos z3
            have b2 : ¬ nI (ePl dp') < 0 := nI_pos z2
            have b3 : ¬ nI (ePl n) < 0 := nI_pos z1
            have c1 : (nI (ePl sp)).toNatClampNeg = ePl sp := nI_clamp z3
            have c2 : (nI (ePl dp')).toNatClampNeg = ePl dp' := nI_clamp z2
            have c3 : (nI (ePl n)).toNatClampNeg = ePl n := nI_clamp z1
            have fin : ∀ (e1' : va_E), eCe (eAd ws) sg fo tys (eSd (Lean.RArray.get g.1 qd) (eBl (eDa (Lean.RArray.get g.1 qd)) (ePl dp') (ePl n) (Nat.shiftRight (eDa (Lean.RArray.get g.1 qs)) (Nat.mul 72 (ePl sp))))) e1' → ∀ (H1 : Heap) (locs1 : List Loc), va_P D vwCl (ws.set qd (ad', e1')) H1 → va_D A (ws.set qd (ad', e1')) → va_S A s.heap H1 locs1 → W p l e R s m args below meth c H1 locs1 cells slots Q (F0 m (pc + 3) ls xs) := by
              intro e1' he H1 locs1 hP hD hS
              exact hr _ _ _ _ h sg tys _ H1 locs1 cells slots ls xs (eNow_set (hp := g.1) hN wd1 he hP hD hS) (by rw [eAd_set wd1]; exact hL) (by rw [eAd_set wd1]; exact ht) hc hs
            have ski2 : eKi (Lean.RArray.get g.1 qs) = 64 ∨ eKi (Lean.RArray.get g.1 qs) = 65 := by
              cases hb : Nat.beq (eKi (Lean.RArray.get g.1 qs)) 64
              · have ski : cond (Nat.beq (eKi (Lean.RArray.get g.1 qs)) 64) true (Nat.beq (eKi (Lean.RArray.get g.1 qs)) 65) = true := ski
                rw [hb] at ski
                exact Or.inr (Nat.eq_of_beq_eq_true ski)
              · exact Or.inl (Nat.eq_of_beq_eq_true hb)
            rcases ces with ⟨fs, r0, g1, g2, g3, g4⟩ | ⟨cA, f, t, ty, g1, g2, g3, g4⟩ | ⟨cA, f, t, g1, g2, g3, g4⟩ | ⟨cA, f, t, g1, g2, g3, g4, g5⟩
            · have : eKi (Lean.RArray.get g.1 qs) < 13 := (List.getElem?_eq_some_iff.mp g2).1
              omega
            · rcases ced with ⟨fs', r0', k1, k2, k3, k4⟩ | ⟨cA', f', t', ty', k1, k2, k3, k4⟩ | ⟨cA', f', t', k1, k2, k3, k4⟩ | ⟨cA', f', t', k1, k2, k3, k4, k5⟩
              · have : eKi (Lean.RArray.get g.1 qd) < 13 := (List.getElem?_eq_some_iff.mp k2).1
                omega
              · rcases g3 with ⟨u1, rfl⟩ | ⟨u1, -⟩ | ⟨u1, -⟩
                · rcases k3 with ⟨u2, rfl⟩ | ⟨u2, -⟩ | ⟨u2, -⟩
                  · subst g1
                    subst k1
                    refine va_copyi hF.1 hF.2.1 hml hF.2.2.2.2.1 (hF.2.2.2.2.2.1 _ hl) (hF.2.2.2.2.2.1 _ hn0) (hF.2.2.2.2.2.1 _ hs0) (hF.2.2.2.2.2.1 _ hi0) hN.1 hN.2.1 hN.2.2.1 hN.2.2.2.1 qs qd t t' ws1 wd1 g2 k2 rfl b1 b2 b3 (by rw [c1, c3]; exact h4) (by rw [c2, c3]; exact h5) (fun _ _ => rfl) (by omega) hlo hd (fin _ ?_)
                    refine Or.inr (Or.inl ⟨cA', _, t', .int, by rw [e2], k2, Or.inl ⟨by rw [e1]; exact u2, rfl⟩, fun j hj => ?_⟩)
                    rw [e2] at hj
                    rw [e3, hslot, c1, c2, c3]
                    unfold va_cpy
                    by_cases q1 : ePl dp' ≤ j ∧ j < ePl dp' + ePl n
                    · rw [if_pos q1, if_pos q1]
                      exact g4 _ (by omega)
                    · rw [if_neg q1, if_neg q1]
                      exact k4 j hj
                  · omega
                  · omega
                · omega
                · omega
              · omega
              · omega
            · rcases ced with ⟨fs', r0', k1, k2, k3, k4⟩ | ⟨cA', f', t', ty', k1, k2, k3, k4⟩ | ⟨cA', f', t', k1, k2, k3, k4⟩ | ⟨cA', f', t', k1, k2, k3, k4, k5⟩
              · have : eKi (Lean.RArray.get g.1 qd) < 13 := (List.getElem?_eq_some_iff.mp k2).1
                omega
              · omega
              · subst g1
                subst k1
                refine va_copyl hF.1 hF.2.1 hml hF.2.2.2.2.1 (hF.2.2.2.2.2.1 _ hl) (hF.2.2.2.2.2.1 _ hn0) (hF.2.2.2.2.2.1 _ hs0) (hF.2.2.2.2.2.1 _ hi0) hN.1 hN.2.1 hN.2.2.1 hN.2.2.2.1 qs qd t t' ws1 wd1 g2 k2 rfl b1 b2 b3 (by rw [c1, c3]; exact h4) (by rw [c2, c3]; exact h5) (fun _ _ => rfl) (by omega) hlo hd (fin _ ?_)
                refine Or.inr (Or.inr (Or.inl ⟨cA', _, t', by rw [e2], k2, by rw [e1]; exact k3, fun j hj => ?_⟩))
                rw [e2] at hj
                rw [e3, hslot, c1, c2, c3]
                unfold va_cpy
                by_cases q1 : ePl dp' ≤ j ∧ j < ePl dp' + ePl n
                · rw [if_pos q1, if_pos q1]
                  exact g4 _ (by omega)
                · rw [if_neg q1, if_neg q1]
                  exact k4 j hj
              · omega
            · omega
theorem lN_mod (n : Nat) : lN (n % 18446744073709551616) = lN n := by
  apply Int64.toBitVec_inj.mp
  apply BitVec.eq_of_toNat_eq
  show (n % 18446744073709551616) % 2 ^ 64 = n % 2 ^ 64
  omega
theorem lN_tn {n : Nat} (h : n < 18446744073709551616) : (lN n).toBitVec.toNat = n := Nat.mod_eq_of_lt h
theorem eI2l {p : Nat} (h : p < 4294967296) : (nI p).toInt64 = lN (cond (Nat.blt p 2147483648) p (Nat.add p 18446744069414584320)) := by
  apply Int64.toBitVec_inj.mp
  apply BitVec.eq_of_toNat_eq
  show ((nI p).toBitVec.signExtend 64).toNat = _
  rw [BitVec.toNat_signExtend, BitVec.toNat_setWidth, BitVec.msb_eq_decide, pk_tn h]
  cases hb : Nat.blt p 2147483648
  · have hb := eB_nl hb
    rw [if_pos (by simpa using hb)]
    show _ = (lN (p + 18446744069414584320)).toBitVec.toNat
    rw [lN_tn (by omega)]
    omega
  · have hb := eB_l hb
    rw [if_neg (by simpa using hb)]
    show _ = (lN p).toBitVec.toNat
    rw [lN_tn (by omega)]
    omega
theorem s_i2l (hF : eFix p R s m args meth c A fo qm dp) (hr : ∀ pc L st g, r pc L st g = true → eGo p l e R s m args below meth c Q D A fo qm pc L st g) (hd : decode qm.2.1 pc = .ok (.i2l, 1)) (h : hI2l r cl kk pc L st g = true) : eGo p l e R s m args below meth c Q D A fo qm pc L st g := by
  intro sg tys ws H locs cells slots ls stv hN hL hst hc hs
  cases st with
  | nil => cases h
  | cons a rest =>
    obtain ⟨x, xs, rfl, ha, ht⟩ := eLs_c hst
    obtain ⟨h1, h⟩ := eC_t h
    obtain ⟨hp, rfl⟩ := eR_1 ha (Nat.eq_of_beq_eq_true h1)
    refine lv_i2l hF.1 hF.2.1 hd (eI2l hp) (hr _ _ _ _ h sg tys ws H locs cells slots ls _ hN hL ⟨eR_l ?_, ht⟩ hc hs)
    cases hb : Nat.blt (ePl a) 2147483648
    · show ePl a + 18446744069414584320 < _
      omega
    · show ePl a < _
      omega
theorem s_l2 {f : Nat → Nat → Nat} {op : Int64 → Int64 → Int64} (hr : ∀ pc L st g, r pc L st g = true → eGo p l e R s m args below meth c Q D A fo qm pc L st g) (hf : ∀ a b, f a b < 18446744073709551616 ∧ lN (f a b) = op (lN a) (lN b))
    (row : ∀ H locs cells slots ls rest x y, W p l e R s m args below meth c H locs cells slots Q (F0 m (pc + 1) ls (.long (op x y) :: rest)) → W p l e R s m args below meth c H locs cells slots Q (F0 m pc ls (.long y :: .long x :: rest))) (h : hL2 f r cl kk pc L st g = true) : eGo p l e R s m args below meth c Q D A fo qm pc L st g := by
  intro sg tys ws H locs cells slots ls stv hN hL hst hc hs
  cases st with
  | nil => cases h
  | cons b st =>
    cases st with
    | nil => cases h
    | cons a rest =>
      obtain ⟨y, ys, rfl, hb, ht1⟩ := eLs_c hst
      obtain ⟨x, xs, rfl, ha, ht⟩ := eLs_c ht1
      obtain ⟨h1, h⟩ := eC_t h
      obtain ⟨h2, h⟩ := eC_t h
      obtain ⟨-, rfl⟩ := eR_L ha (Nat.eq_of_beq_eq_true h1)
      obtain ⟨-, rfl⟩ := eR_L hb (Nat.eq_of_beq_eq_true h2)
      refine row _ _ _ _ _ _ _ _ ?_
      rw [← (hf (ePl a) (ePl b)).2]
      exact hr _ _ _ _ h sg tys ws H locs cells slots ls _ hN hL ⟨eR_l (hf _ _).1, ht⟩ hc hs
theorem eLadd (a b : Nat) : fLadd a b < 18446744073709551616 ∧ lN (fLadd a b) = lN a + lN b := ⟨Nat.mod_lt _ (by decide), by rw [lN_add]; exact lN_mod _⟩
theorem eLmul (a b : Nat) : fLmul a b < 18446744073709551616 ∧ lN (fLmul a b) = lN a * lN b := ⟨Nat.mod_lt _ (by decide), by rw [lN_mul]; exact lN_mod _⟩
theorem lN_back (x : Int64) : lN x.toBitVec.toNat = x := by
  apply Int64.toBitVec_inj.mp
  apply BitVec.eq_of_toNat_eq
  exact lN_tn x.toBitVec.isLt
theorem eLor (a b : Nat) : fLor a b < 18446744073709551616 ∧ lN (fLor a b) = lN a ||| lN b := ⟨(lN a ||| lN b).toBitVec.isLt, lN_back _⟩
theorem s_lsh (hr : ∀ pc L st g, r pc L st g = true → eGo p l e R s m args below meth c Q D A fo qm pc L st g)
    (row : ∀ H locs cells slots ls rest x y, W p l e R s m args below meth c H locs cells slots Q (F0 m (pc + 1) ls (.long (x <<< (Int32.toInt64 y &&& 63)) :: rest)) → W p l e R s m args below meth c H locs cells slots Q (F0 m pc ls (.int y :: .long x :: rest))) (h : hLsh r cl kk pc L st g = true) : eGo p l e R s m args below meth c Q D A fo qm pc L st g := by
  intro sg tys ws H locs cells slots ls stv hN hL hst hc hs
  cases st with
  | nil => cases h
  | cons b st =>
    cases st with
    | nil => cases h
    | cons a rest =>
      obtain ⟨y, ys, rfl, hb, ht1⟩ := eLs_c hst
      obtain ⟨x, xs, rfl, ha, ht⟩ := eLs_c ht1
      obtain ⟨h1, h⟩ := eC_t h
      obtain ⟨h2, h⟩ := eC_t h
      obtain ⟨-, rfl⟩ := eR_L ha (Nat.eq_of_beq_eq_true h1)
      obtain ⟨-, rfl⟩ := eR_1 hb (Nat.eq_of_beq_eq_true h2)
      refine row _ _ _ _ _ _ _ _ ?_
      have e := eR_l (ad := eAd ws) (sg := sg) (fo := fo) (lN (ePl a) <<< (Int32.toInt64 (nI (ePl b)) &&& 63)).toBitVec.isLt
      rw [lN_back] at e
      exact hr _ _ _ _ h sg tys ws H locs cells slots ls _ hN hL ⟨e, ht⟩ hc hs
theorem eL_int {n : Nat} (h : n < 18446744073709551616) : ((eBl64 n : Nat) : Int) = (lN n).toInt + 9223372036854775808 := by
  have e : (lN n).toInt = if 2 * (lN n).toBitVec.toNat < 18446744073709551616 then ((lN n).toBitVec.toNat : Int) else ((lN n).toBitVec.toNat : Int) - 18446744073709551616 := BitVec.toInt_eq_toNat_cond (lN n).toBitVec
  rw [e, lN_tn h]
  show (((n + 9223372036854775808) % 18446744073709551616 : Nat) : Int) = _
  split <;> omega
theorem eLcmp (x y : Int64) : lg_cmp x y = if x < y then -1 else if x = y then 0 else 1 := by
  unfold lg_cmp
  have h1 : x < y ↔ x.toInt < y.toInt := Int64.lt_iff_toInt_lt
  have h2 : y < x ↔ y.toInt < x.toInt := Int64.lt_iff_toInt_lt
  have h3 : x = y ↔ x.toInt = y.toInt := Int64.toInt_inj.symm
  by_cases q1 : x < y
  · rw [if_pos q1, if_neg (fun z => by have := h1.mp q1; have := h2.mp z; omega), if_neg (fun z => by have := h1.mp q1; have := h3.mp z; omega)]
  · rw [if_neg q1]
    by_cases q2 : x = y
    · rw [if_pos q2, if_neg (fun z => by have := h2.mp z; have := h3.mp q2; omega), if_pos q2]
    · have q3 : x > y := h2.mpr (by have a : ¬ x.toInt < y.toInt := fun z => q1 (h1.mpr z); have b : ¬ x.toInt = y.toInt := fun z => q2 (h3.mpr z); omega)
      rw [if_pos q3, if_neg q2]
theorem s_lcmp (hF : eFix p R s m args meth c A fo qm dp) (hr : ∀ pc L st g, r pc L st g = true → eGo p l e R s m args below meth c Q D A fo qm pc L st g) (hd : decode qm.2.1 pc = .ok (.lcmp, 1)) (h : hLcmp r cl kk pc L st g = true) : eGo p l e R s m args below meth c Q D A fo qm pc L st g := by
  intro sg tys ws H locs cells slots ls stv hN hL hst hc hs
  cases st with
  | nil => cases h
  | cons b st =>
    cases st with
    | nil => cases h
    | cons a rest =>
      obtain ⟨y, ys, rfl, hb, ht1⟩ := eLs_c hst
      obtain ⟨x, xs, rfl, ha, ht⟩ := eLs_c ht1
      obtain ⟨h1, h⟩ := eC_t h
      obtain ⟨h2, h⟩ := eC_t h
      obtain ⟨p1, rfl⟩ := eR_L ha (Nat.eq_of_beq_eq_true h1)
      obtain ⟨p2, rfl⟩ := eR_L hb (Nat.eq_of_beq_eq_true h2)
      refine W.lcmp hF.1 hF.2.1 hd (hr _ _ _ _ h sg tys ws H locs cells slots ls _ hN hL ⟨?_, ht⟩ hc hs)
      have i1 := eL_int p1
      have i2 := eL_int p2
      have hlt : lN (ePl a) < lN (ePl b) ↔ (lN (ePl a)).toInt < (lN (ePl b)).toInt := Int64.lt_iff_toInt_lt
      rw [eLcmp]
      cases q1 : Nat.blt (eBl64 (ePl a)) (eBl64 (ePl b))
      · have q1 := eB_nl q1
        rw [if_neg (fun z => by have := hlt.mp z; omega)]
        cases q2 : Nat.beq (ePl a) (ePl b)
        · have q2 := eB_f q2
          rw [if_neg (fun e => q2 (by have := congrArg (fun z : Int64 => z.toBitVec.toNat) e; rwa [lN_tn p1, lN_tn p2] at this))]
          exact eR_c (n := 1) (by decide)
        · have q2 := Nat.eq_of_beq_eq_true q2
          rw [q2, if_pos rfl]
          exact eR_c (n := 0) (by decide)
      · have q1 := eB_l q1
        rw [if_pos (hlt.mpr (by omega))]
        exact eR_c (n := 4294967295) (by decide)
theorem s_i2b (hF : eFix p R s m args meth c A fo qm dp) (hr : ∀ pc L st g, r pc L st g = true → eGo p l e R s m args below meth c Q D A fo qm pc L st g) (hd : decode qm.2.1 pc = .ok (.i2b, 1)) (h : hI2b r cl kk pc L st g = true) : eGo p l e R s m args below meth c Q D A fo qm pc L st g := by
  intro sg tys ws H locs cells slots ls stv hN hL hst hc hs
  cases st with
  | nil => cases h
  | cons a rest =>
    obtain ⟨x, xs, rfl, ha, ht⟩ := eLs_c hst
    obtain ⟨h1, h⟩ := eC_t h
    obtain ⟨x, rfl⟩ := eR_I ha h1
    exact lv_i2b hF.1 hF.2.1 hd rfl (hr _ _ _ _ h sg tys ws H locs cells slots ls _ hN hL ⟨eByte_ok ha, ht⟩ hc hs)
theorem s_i2c (hF : eFix p R s m args meth c A fo qm dp) (hr : ∀ pc L st g, r pc L st g = true → eGo p l e R s m args below meth c Q D A fo qm pc L st g) (hd : decode qm.2.1 pc = .ok (.i2c, 1)) (h : hI2c r cl kk pc L st g = true) : eGo p l e R s m args below meth c Q D A fo qm pc L st g := by
  intro sg tys ws H locs cells slots ls stv hN hL hst hc hs
  cases st with
  | nil => cases h
  | cons a rest =>
    obtain ⟨x, xs, rfl, ha, ht⟩ := eLs_c hst
    obtain ⟨h1, h⟩ := eC_t h
    obtain ⟨h2, h⟩ := eC_t h
    have h2 := eB_l h2
    obtain ⟨hp, rfl⟩ := eR_1 ha (Nat.eq_of_beq_eq_true h1)
    refine lv_i2c hF.1 hF.2.1 hd (v := nI (ePl a)) (by rw [pk_char, pk_tn hp, Nat.mod_eq_of_lt h2]) (hr _ _ _ _ h sg tys ws H locs cells slots ls _ hN hL ⟨ha, ht⟩ hc hs)
theorem s_sw {d lo hi : Int} {offs : Array Int} {len : Nat} (hF : eFix p R s m args meth c A fo qm dp) (hr : ∀ pc L st g, r pc L st g = true → eGo p l e R s m args below meth c Q D A fo qm pc L st g) (hd : decode qm.2.1 pc = .ok (.tableswitch d lo hi offs, len)) (h : hSw d lo hi offs r cl kk pc L st g = true) : eGo p l e R s m args below meth c Q D A fo qm pc L st g := by
  intro sg tys ws H locs cells slots ls stv hN hL hst hc hs
  cases st with
  | nil => cases h
  | cons a rest =>
    obtain ⟨x, xs, rfl, ha, ht⟩ := eLs_c hst
    obtain ⟨h1, h⟩ := eC_t h
    obtain ⟨h2, h⟩ := eC_t h
    obtain ⟨x, rfl⟩ := eR_I ha h1
    obtain ⟨b1, b2, b3⟩ := of_decide_eq_true h2
    have hx := eX_int x
    have go : ∀ (rem don : List Int) (env : evEnv), offs.toList = don ++ rem → (∀ i, i < don.length → ¬ eX x = Int.toNat (lo + 2147483648) + i) → eE env sg → eSw r pc a d L rest g rem (Int.toNat (lo + 2147483648) + don.length) env = true → W p l e R s m args below meth c H locs cells slots Q (F0 m pc ls (.int x :: xs)) := by
      intro rem
      induction rem with
      | nil =>
        intro don env he hne hE h
        obtain ⟨t, q1, q2⟩ := eTo_ok (show eTo pc d (fun t => r t L rest (g.1, g.2.1, env, g.2.2.2)) = true from h)
        have hl : offs.toList.length = don.length := by rw [he]; simp
        refine lv_tableOut hF.1 hF.2.1 hd ?_ q1 (hr _ _ _ _ q2 sg tys ws H locs cells slots ls xs (eNow_env hN hE) hL ht hc hs)
        by_cases q3 : x.toInt < lo
        · exact Or.inl q3
        · by_cases q4 : hi < x.toInt
          · exact Or.inr q4
          · exact absurd (show eX x = Int.toNat (lo + 2147483648) + (eX x - Int.toNat (lo + 2147483648)) by omega) (hne _ (by omega))
      | cons o rem ih =>
        intro don env he hne hE h
        obtain ⟨k1, k2⟩ := eEqc_ok (kt := fun env => eTo pc o (fun t => r t L rest (g.1, g.2.1, env, g.2.2.2))) (kf := fun env => eSw r pc a d L rest g rem (Nat.add (Int.toNat (lo + 2147483648) + don.length) 1) env) hE ha h
        have hl : offs.toList.length = don.length + 1 + rem.length := by rw [he]; simp; omega
        by_cases q0 : eX x = Int.toNat (lo + 2147483648) + don.length
        · obtain ⟨env', hE', q2⟩ := k1 q0
          obtain ⟨t, q3, q4⟩ := eTo_ok q2
          refine lv_tableIn hF.1 hF.2.1 hd (by omega) (by omega) ?_ q3 (hr _ _ _ _ q4 sg tys ws H locs cells slots ls xs (eNow_env hN hE') hL ht hc hs)
          rw [show (x.toInt - lo).toNat = don.length from by omega, ← Array.getElem?_toList, he, List.getElem?_append_right (Nat.le_refl _), Nat.sub_self]
          rfl
        · obtain ⟨env', hE', q2⟩ := k2 q0
          refine ih (don ++ [o]) env' (by rw [he]; simp) (fun i hi => ?_) hE' ?_
          · rw [List.length_append] at hi
            by_cases e : i = don.length
            · rw [e]; exact q0
            · exact hne i (by simp at hi; omega)
          · rw [List.length_append]
            exact q2
    exact go offs.toList [] g.2.2.1 rfl (fun i hi => absurd hi (Nat.not_lt_zero i)) hN.2.2.2.2.2 h
/-- the text, and the two statics -/
theorem s_ldcS (hF : eFix p R s m args meth c A fo qm dp) (hr : ∀ pc L st g, r pc L st g = true → eGo p l e R s m args below meth c Q D A fo qm pc L st g) (hown : eCn qm.2.2.2.2.1 = "LeafVotes$Tokens") (hd : decode qm.2.1 pc = .ok (.ldc 19, 2)) (h : hPush 6 2 r cl kk pc L st g = true) : eGo p l e R s m args below meth c Q D A fo qm pc L st g := by
  obtain ⟨adK, adV, f0, f1, f2, f3, f4, f5, f6, f7⟩ := hF.2.2.2.2.2.2.2.2.2.2.1
  refine s_push (x := fo.1 0) hr (fun ad sg => ⟨by decide, Or.inr (Or.inr (Or.inr (Or.inr (Or.inr ⟨rfl, rfl, Or.inr ⟨_, f0⟩⟩))))⟩) (fun H locs cells slots ls rest k => ?_) h
  rw [f0] at k
  refine va_ldcS (own := "LeafVotes$Tokens") hF.1 hF.2.1 (by rw [← hown]; exact hF.2.2.2.2.1) f4 hd k
theorem eLs_sg {ad : List Nat} {sg : List Int32} : ∀ {st : List Nat} {xs : List Value}, eLs ad sg fo st xs → ∃ t, sg = fo.2.2 ++ t
  | [], [], h => h.2
  | _ :: _, _ :: _, h => eLs_sg h.2
  | [], _ :: _, h => h.elim
  | _ :: _, [], h => h.elim
theorem s_getsC {idx : Nat} (hF : eFix p R s m args meth c A fo qm dp) (hr : ∀ pc L st g, r pc L st g = true → eGo p l e R s m args below meth c Q D A fo qm pc L st g) (hl : Jvm.Cond.fieldLink (eCn qm.2.2.2.2.1) idx "java/lang/String" "COMPACT_STRINGS" "Z" ∈ eGW) (hd : decode qm.2.1 pc = .ok (.getstatic idx, 3)) (h : hPush 9 3 r cl kk pc L st g = true) : eGo p l e R s m args below meth c Q D A fo qm pc L st g := by
  obtain ⟨adK, adV, f0, f1, f2, f3, f4, f5, f6, f7⟩ := id hF.2.2.2.2.2.2.2.2.2.2.1
  intro sg tys ws H locs cells slots ls stv hN hL hst hc hs
  exact va_gets hF.1 hF.2.1 f5 hN.2.2.2.1 hF.2.2.2.2.1 (hF.2.2.2.2.2.1 _ hl) (fun _ h => h) hd (hr _ _ _ _ h sg tys ws H locs cells slots ls _ hN hL ⟨eR_c (n := 1) (by decide), hst⟩ hc hs)
theorem s_getsN {idx w : Nat} (hF : eFix p R s m args meth c A fo qm dp) (hr : ∀ pc L st g, r pc L st g = true → eGo p l e R s m args below meth c Q D A fo qm pc L st g) (hw : w < 2) (hl : Jvm.Cond.fieldLinkNest (eCn qm.2.2.2.2.1) idx "LeafVotes" (eSn w) "[I" "LeafVotes" ∈ eNg) (hd : decode qm.2.1 pc = .ok (.getstatic idx, 3)) (h : hPush (Nat.add (Nat.mul 8 (5 + w)) 6) 3 r cl kk pc L st g = true) : eGo p l e R s m args below meth c Q D A fo qm pc L st g := by
  obtain ⟨n1, n2⟩ := hF.2.2.2.2.2.2.2.2.2.2.2
  obtain ⟨b, xv, f1, f2, -⟩ := n2 w hw
  intro sg tys ws H locs cells slots ls stv hN hL hst hc hs
  have e := e8 (5 + w) 6 (by decide)
  refine va_getsN hF.1 hF.2.1 f2 hN.2.2.2.1 hF.2.2.2.2.1 (va_Nw.use rfl (n1 _ hl)) (fun _ h => h) hd (hr _ _ _ _ h sg tys ws H locs cells slots ls _ hN hL ⟨⟨?_, Or.inr (Or.inr (Or.inr (Or.inr (Or.inr ⟨e.1, by rw [e.2, f1], Or.inr ⟨b, rfl⟩⟩))))⟩, hst⟩ hc hs)
  show 8 * (5 + w) + 6 < 2 ^ 72
  omega
theorem s_getsF {idx : Nat} (hF : eFix p R s m args meth c A fo qm dp) (hr : ∀ pc L st g, r pc L st g = true → eGo p l e R s m args below meth c Q D A fo qm pc L st g) (hl : Jvm.Cond.fieldLink (eCn qm.2.2.2.2.1) idx "jdk/internal/util/Preconditions" "SIOOBE_FORMATTER" "Ljava/util/function/BiFunction;" ∈ eGW) (hd : decode qm.2.1 pc = .ok (.getstatic idx, 3)) (h : hPush 22 3 r cl kk pc L st g = true) : eGo p l e R s m args below meth c Q D A fo qm pc L st g := by
  obtain ⟨adK, adV, f0, f1, f2, f3, f4, f5, f6, f7⟩ := id hF.2.2.2.2.2.2.2.2.2.2.1
  intro sg tys ws H locs cells slots ls stv hN hL hst hc hs
  exact va_gets hF.1 hF.2.1 f6 hN.2.2.2.1 hF.2.2.2.2.1 (hF.2.2.2.2.2.1 _ hl) (fun _ h => h) hd (hr _ _ _ _ h sg tys ws H locs cells slots ls _ hN hL ⟨⟨by decide, Or.inr (Or.inr (Or.inr (Or.inr (Or.inr ⟨rfl, rfl, f2⟩))))⟩, hst⟩ hc hs)
theorem eR_6 {v : Nat} {x : Value} {ad : List Nat} (h : eR ad sg fo v x) (h6 : eTg v = 6) : x = fo.1 (ePl v) := by
  obtain ⟨-, ⟨h2, -⟩ | ⟨h2, -⟩ | ⟨h2, -⟩ | ⟨h2, -⟩ | ⟨h2, -⟩ | ⟨h2, h, -⟩⟩ := h <;> first | exact h | omega
theorem s_getT {idx v : Nat} (hF : eFix p R s m args meth c A fo qm dp) (hr : ∀ pc L st g, r pc L st g = true → eGo p l e R s m args below meth c Q D A fo qm pc L st g) (hl : (v = 14 ∧ Jvm.Cond.fieldLink (eCn qm.2.2.2.2.1) idx "java/lang/String" "value" "[B" ∈ eGW) ∨ (v = 1 ∧ Jvm.Cond.fieldLink (eCn qm.2.2.2.2.1) idx "java/lang/String" "coder" "B" ∈ eGW)) (hd : decode qm.2.1 pc = .ok (.getfield idx, 3)) (h : hGetT v r cl kk pc L st g = true) : eGo p l e R s m args below meth c Q D A fo qm pc L st g := by
  obtain ⟨adK, adV, f0, f1, f2, f3, f4, f5, f6, f7⟩ := id hF.2.2.2.2.2.2.2.2.2.2.1
  intro sg tys ws H locs cells slots ls stv hN hL hst hc hs
  cases st with
  | nil => cases h
  | cons o rest =>
    obtain ⟨x, xs, rfl, ho, ht⟩ := eLs_c hst
    obtain ⟨h1, h⟩ := eC_t h
    have e := Nat.eq_of_beq_eq_true h1
    subst e
    have hx : x = fo.1 0 := eR_6 ho rfl
    rw [f0] at hx
    subst hx
    obtain ⟨-, g2, g3, -⟩ := f3.1 0 (by decide)
    rcases hl with ⟨rfl, hl⟩ | ⟨rfl, hl⟩
    · refine vk_getf hF.1 hF.2.1 g3 hN.2.2.2.1 hF.2.2.2.2.1 (hF.2.2.2.2.2.1 _ hl) (fun _ h => h) hd (hr _ _ _ _ h sg tys ws H locs cells slots ls _ hN hL ⟨⟨by decide, Or.inr (Or.inr (Or.inr (Or.inr (Or.inr ⟨rfl, f1.symm, Or.inr ⟨_, rfl⟩⟩))))⟩, ht⟩ hc hs)
    · exact vk_getf hF.1 hF.2.1 g2 hN.2.2.2.1 hF.2.2.2.2.1 (hF.2.2.2.2.2.1 _ hl) (fun _ h => h) hd (hr _ _ _ _ h sg tys ws H locs cells slots ls _ hN hL ⟨eR_0, ht⟩ hc hs)
theorem s_lenX (hF : eFix p R s m args meth c A fo qm dp) (hr : ∀ pc L st g, r pc L st g = true → eGo p l e R s m args below meth c Q D A fo qm pc L st g) (hd : decode qm.2.1 pc = .ok (.arraylength, 1)) (h : hLen r cl kk pc L st g = true) : eGo p l e R s m args below meth c Q D A fo qm pc L st g := by
  obtain ⟨adK, adV, f0, f1, f2, f3, f4, f5, f6, f7⟩ := id hF.2.2.2.2.2.2.2.2.2.2.1
  refine s_len hF hr hd (fun sg tys ws H locs cells slots ls rest hN k => ?_) h
  rw [f1]
  obtain ⟨-, -, -, g4⟩ := f3.1 0 (by decide)
  exact va_tlen hF.1 hF.2.1 g4 hN.2.2.2.1 (by decide) hd k
theorem eTx_ok : ∀ i, i < 152 → eNth eTxN i < 4294967296 ∧ ((eTxB.getD 0 []).getD i 0) = nI (eNth eTxN i) := by decide +kernel
theorem s_baldX (hF : eFix p R s m args meth c A fo qm dp) (hr : ∀ pc L st g, r pc L st g = true → eGo p l e R s m args below meth c Q D A fo qm pc L st g) (hd : decode qm.2.1 pc = .ok (.baload, 1)) (h : hBald r cl kk pc L st g = true) : eGo p l e R s m args below meth c Q D A fo qm pc L st g := by
  obtain ⟨adK, adV, f0, f1, f2, f3, f4, f5, f6, f7⟩ := id hF.2.2.2.2.2.2.2.2.2.2.1
  cases st with
  | nil => cases h
  | cons i st =>
    cases st with
    | nil => cases h
    | cons o rest =>
      cases h6 : Nat.beq o 14
      · have h : cond (Nat.beq o 14) (cond (Nat.beq (eTg i) 1) (cond (Nat.blt (ePl i) 152) (r (Nat.add pc 1) L (eCi (eNth eTxN (ePl i)) :: rest) g) false) false) (hAld (fun k => cond (Nat.beq k 66) true (Nat.beq k 67)) r cl kk pc L (i :: o :: rest) g) = true := h
        rw [h6] at h
        exact s_bald (cl := cl) (kk := kk) hF hr hd h
      · have h : cond (Nat.beq o 14) (cond (Nat.beq (eTg i) 1) (cond (Nat.blt (ePl i) 152) (r (Nat.add pc 1) L (eCi (eNth eTxN (ePl i)) :: rest) g) false) false) (hAld (fun k => cond (Nat.beq k 66) true (Nat.beq k 67)) r cl kk pc L (i :: o :: rest) g) = true := h
        rw [h6] at h
        have e := Nat.eq_of_beq_eq_true h6
        subst e
        obtain ⟨h1, h⟩ := eC_t h
        obtain ⟨h2, h⟩ := eC_t h
        have h2 := eB_l h2
        intro sg tys ws H locs cells slots ls stv hN hL hst hc hs
        obtain ⟨y, ys, rfl, hi, ht1⟩ := eLs_c hst
        obtain ⟨x, xs, rfl, ho, ht⟩ := eLs_c ht1
        have hx : x = fo.1 1 := eR_6 ho rfl
        rw [f1] at hx
        subst hx
        obtain ⟨hp, rfl⟩ := eR_1 hi (Nat.eq_of_beq_eq_true h1)
        obtain ⟨-, -, -, g4⟩ := f3.1 0 (by decide)
        obtain ⟨t1, t2⟩ := eTx_ok _ h2
        refine va_tb hF.1 hF.2.1 g4 hN.2.2.2.1 (vp_in_nI h2 (by decide)) (v := .int (nI (eNth eTxN (ePl i)))) ?_ hd (hr _ _ _ _ h sg tys ws H locs cells slots ls _ hN hL ⟨eR_c t1, ht⟩ hc hs)
        show Value.int ((eTxB.getD 0 []).getD (nI (ePl i)).toNatClampNeg 0) = _
        rw [nI_clamp (Nat.lt_trans h2 (by decide)), t2]
theorem s_ialdX (hF : eFix p R s m args meth c A fo qm dp) (hr : ∀ pc L st g, r pc L st g = true → eGo p l e R s m args below meth c Q D A fo qm pc L st g) (hd : decode qm.2.1 pc = .ok (.iaload, 1)) (h : hIald qm.2.2.2.2.1 r cl kk pc L st g = true) : eGo p l e R s m args below meth c Q D A fo qm pc L st g := by
  cases st with
  | nil => cases h
  | cons i st =>
    cases st with
    | nil => cases h
    | cons o rest =>
      have h : cond (Nat.beq o 38) (cond (Nat.beq qm.2.2.2.2.1 13) (cond (Nat.beq (eTg i) 1) (cond (Nat.blt (ePl i) 6) (r (Nat.add pc 1) L (eNrm g.2.2.1 (Nat.add (Nat.mul 8 (ePl i)) 2) :: rest) g) false) false) false) (cond (cond (Nat.beq o 46) true (Nat.beq o 54)) (cond (Nat.beq (eTg i) 1) (cond (Nat.blt (ePl i) 5) (cond (r (Nat.add pc 1) L (eCi 4294967295 :: rest) g) (cond (r (Nat.add pc 1) L (eCi 0 :: rest) g) (r (Nat.add pc 1) L (eCi 1 :: rest) g) false) false) false) false) (hAld (fun k => Nat.beq k 64) r cl kk pc L (i :: o :: rest) g)) = true := h
      cases h6 : Nat.beq o 38
      · rw [h6] at h
        have h : cond (cond (Nat.beq o 46) true (Nat.beq o 54)) (cond (Nat.beq (eTg i) 1) (cond (Nat.blt (ePl i) 5) (cond (r (Nat.add pc 1) L (eCi 4294967295 :: rest) g) (cond (r (Nat.add pc 1) L (eCi 0 :: rest) g) (r (Nat.add pc 1) L (eCi 1 :: rest) g) false) false) false) false) (hAld (fun k => Nat.beq k 64) r cl kk pc L (i :: o :: rest) g) = true := h
        cases h7 : cond (Nat.beq o 46) true (Nat.beq o 54)
        · rw [h7] at h
          exact s_iald (cl := cl) (kk := kk) hF hr hd h
        · rw [h7] at h
          have ho2 : ∃ w : Nat, w < 2 ∧ eTg o = 6 ∧ ePl o = 5 + w := by
            cases h8 : Nat.beq o 46
            · rw [h8] at h7
              have h7 : Nat.beq o 54 = true := h7
              have e := Nat.eq_of_beq_eq_true h7
              subst e
              exact ⟨1, by decide, rfl, rfl⟩
            · have e := Nat.eq_of_beq_eq_true h8
              subst e
              exact ⟨0, by decide, rfl, rfl⟩
          obtain ⟨w, hw, ho6, ho7⟩ := ho2
          obtain ⟨h1, h⟩ := eC_t h
          obtain ⟨h2, h⟩ := eC_t h
          obtain ⟨k1, h⟩ := eC_t h
          obtain ⟨k2, k3⟩ := eC_t h
          have h2 := eB_l h2
          intro sg tys ws H locs cells slots ls stv hN hL hst hc hs
          obtain ⟨y, ys, rfl, hi, ht1⟩ := eLs_c hst
          obtain ⟨x, xs, rfl, ho, ht⟩ := eLs_c ht1
          have hx : x = fo.1 (5 + w) := by rw [← ho7]; exact eR_6 ho ho6
          obtain ⟨b, xv, f1, f2, f3, f4, f5, f6⟩ := hF.2.2.2.2.2.2.2.2.2.2.2.2 w hw
          rw [f1] at hx
          subst hx
          obtain ⟨hp, rfl⟩ := eR_1 hi (Nat.eq_of_beq_eq_true h1)
          refine va_ti (v := .int (xv (ePl i))) hF.1 hF.2.1 f3 hN.2.2.2.1 (vp_in_nI h2 (by decide)) (by show Value.int (xv _) = _; rw [nI_clamp (Nat.lt_trans h2 (by decide))]) hd ?_
          have hb := f6 _ h2
          have hv : xv (ePl i) = nI 4294967295 ∨ xv (ePl i) = nI 0 ∨ xv (ePl i) = nI 1 := by
            have e1 : (nI 4294967295).toInt = -1 := by decide
            have e2 : (nI 0).toInt = 0 := by decide
            have e3 : (nI 1).toInt = 1 := by decide
            by_cases q1 : (xv (ePl i)).toInt = -1
            · exact Or.inl (Int32.toInt_inj.mp (by rw [e1]; exact q1))
            · by_cases q2 : (xv (ePl i)).toInt = 0
              · exact Or.inr (Or.inl (Int32.toInt_inj.mp (by rw [e2]; exact q2)))
              · exact Or.inr (Or.inr (Int32.toInt_inj.mp (by rw [e3]; omega)))
          rcases hv with hv | hv | hv
          · rw [hv]
            exact hr _ _ _ _ k1 sg tys ws H locs cells slots ls _ hN hL ⟨eR_c (by decide), ht⟩ hc hs
          · rw [hv]
            exact hr _ _ _ _ k2 sg tys ws H locs cells slots ls _ hN hL ⟨eR_c (by decide), ht⟩ hc hs
          · rw [hv]
            exact hr _ _ _ _ k3 sg tys ws H locs cells slots ls _ hN hL ⟨eR_c (by decide), ht⟩ hc hs
      · rw [h6] at h
        have e := Nat.eq_of_beq_eq_true h6
        subst e
        obtain ⟨h0, h⟩ := eC_t h
        obtain ⟨h1, h⟩ := eC_t h
        obtain ⟨h2, h⟩ := eC_t h
        have h2 := eB_l h2
        have hscr := hF.2.2.2.2.2.2.1.2 (Nat.eq_of_beq_eq_true h0)
        intro sg tys ws H locs cells slots ls stv hN hL hst hc hs
        have hpre : ∃ t, sg = fo.2.2 ++ t := eLs_sg hst
        obtain ⟨y, ys, rfl, hi, ht1⟩ := eLs_c hst
        obtain ⟨x, xs, rfl, ho, ht⟩ := eLs_c ht1
        have hx : x = fo.1 4 := eR_6 ho rfl
        have hxr := eR_A ho rfl
        rcases hscr with hscr | ⟨b, f1, f2, f3, f4, f5⟩
        · rw [hscr] at hx
          subst hx
          rcases hxr with hxr | ⟨z, hxr⟩ <;> cases hxr
        rw [f1] at hx
        subst hx
        obtain ⟨hp, rfl⟩ := eR_1 hi (Nat.eq_of_beq_eq_true h1)
        obtain ⟨tt, hpre⟩ := hpre
        refine va_sld hF.1 hF.2.1 f4 f2 f3 hN.2.2.2.1 (vp_in_nI h2 (by decide)) hd ?_
        rw [nI_clamp (Nat.lt_trans h2 (by decide))]
        have hv : sg[ePl i]? = some ((fo.2.2).getD (ePl i) 0) := by
          rw [hpre, List.getElem?_append_left (Nat.lt_of_lt_of_le h2 f5), List.getD_eq_getElem?_getD, List.getElem?_eq_getElem (Nat.lt_of_lt_of_le h2 f5)]
          rfl
        have e8' := e8 (ePl i) 2 (by decide)
        exact hr _ _ _ _ h sg tys ws H locs cells slots ls _ hN hL ⟨eNrm_ok hN.2.2.2.2.2 ⟨by show 8 * ePl i + 2 < 2 ^ 72; omega, Or.inr (Or.inl ⟨e8'.1, _, by rw [e8'.2]; exact hv, rfl⟩)⟩, ht⟩ hc hs
end EvS6
