section CkStep2
theorem eAtP_cR {g : evG} {c : Nat} {p : Nat → Bool} (hc : c < g.2.1) (hpk : p (eKi (Lean.RArray.get g.1 c)) = true) (k : Nat → Nat → Bool) : eAtP g (cR c) p k = k c (Lean.RArray.get g.1 c) := by
  unfold eAtP
  rw [cR_tg, cR_pl]
  show cond (Nat.blt c g.2.1) (eF (Lean.RArray.get g.1 c) (fun q => cond (p (eKi q)) (k c q) false)) false = _
  rw [bltT hc, eF_eq]
  show cond (p (eKi (Lean.RArray.get g.1 c))) (k c (Lean.RArray.get g.1 c)) false = _
  rw [hpk]
  rfl
theorem eAt_cR {g : evG} {c ki : Nat} (hc : c < g.2.1) (hpk : eKi (Lean.RArray.get g.1 c) = ki) (k : Nat → Nat → Bool) : eAt g (cR c) ki k = k c (Lean.RArray.get g.1 c) := by
  refine eAtP_cR (p := fun z => Nat.beq z ki) hc ?_ k
  rw [hpk]
  exact Nat.beq_refl _
theorem eInR_cI {env : evEnv} {i n : Nat} (h : i < n) (hn : (i : Int) ≤ zMx) (k : Nat → Nat → Bool) : eInR env (cI (i : Int)) n k = k i 0 := by
  have h0 : zMn ≤ (i : Int) := by rw [zMn_eq]; omega
  unfold eInR
  rw [cI_iv env h0 hn]
  have e : Int.toNat ((i : Int) + 2147483648) = i + 2147483648 := by omega
  rw [e]
  show cond (Nat.ble 2147483648 (i + 2147483648)) (cond (Nat.blt (Nat.sub (i + 2147483648) 2147483648) n) (cond (Nat.ble (i + 2147483648) (i + 2147483648)) (k (Nat.sub (i + 2147483648) 2147483648) (Nat.sub (i + 2147483648) (i + 2147483648))) false) false) false = _
  have e1 : Nat.sub (i + 2147483648) 2147483648 = i := Nat.add_sub_cancel i 2147483648
  have e2 : Nat.sub (i + 2147483648) (i + 2147483648) = 0 := Nat.sub_self _
  rw [e1, e2, Nat.ble_eq_true_of_le (by omega), bltT h, Nat.ble_eq_true_of_le (Nat.le_refl _)]
  rfl
theorem cR_ne {c n : Nat} (h : ¬ n % 8 = 5) : Nat.beq (cR c) n = false := by
  apply beqF
  intro e
  apply h
  rw [← e]
  show (8 * (c + 1) + 5) % 8 = 5
  omega
variable {FS : sFS} {rc : List Int} {mu : Option sLn} {M : Int} {md : sMd} {hp0 : Lean.RArray Nat} {P : evP} {d mi : Nat} {k : evK} {hn : Nat} {env : evEnv} {nc ns : Nat} {ar : aR} {r : List Int} {pc : Nat} {N : sNm} {lo st : List sVl} {hs : sHs} {L : Nat} {stc : List Nat} {hp : Lean.RArray Nat}
/-- the cells of the law are there -/
theorem gKi (hhn : tNC ≤ hn) (hG : Gs FS rc mu M md hp0 r N lo st hs L stc hp) {c : Nat} (hc : c < tNC) : c < hn ∧ eKi (Lean.RArray.get hp c) = tKi (tRO c) ∧ eLe (Lean.RArray.get hp c) = tLe (tRO c) := ⟨Nat.lt_of_lt_of_le hc hhn, (hG.2.2.2.1.2 c hc).1, (hG.2.2.2.1.2 c hc).2.1⟩
noncomputable def aGet (ci f : Nat) : aH := fun ar pc N lo st hs => match st with
  | o :: rest => cond (tA o) (cond (Nat.beq (tKi (Nat.sub o.1 16)) ci) (aRd N hs (Nat.sub o.1 16) o.2 (Int.ofNat f, []) (fun v N hs => ar (Nat.add pc 3) N lo (v :: rest) hs)) false) false
  | _ => false
theorem i_get (hhn : tNC ≤ hn) (har : (∀ pc N lo st hs, ar pc N lo st hs = true → ∀ r L stc hp, Gs FS rc mu M md hp0 r N lo st hs L stc hp → P d mi k pc L stc (hp, hn, env, nc, ns))) (hG : Gs FS rc mu M md hp0 r N lo st hs L stc hp) {ci f : Nat} (h : aGet ci f ar pc N lo st hs = true) : hGet ci f (pR P d mi k) (pC P d) k pc L stc (hp, hn, env, nc, ns) = true := by
  cases st with
  | nil => cases h
  | cons o rest =>
    obtain ⟨w, ws, rfl, hw, hst⟩ := aSt_c hG.2.2.1
    obtain ⟨h1, h⟩ := eC_t h
    obtain ⟨h2, h⟩ := eC_t h
    obtain ⟨c, c1, c2, c3, rfl⟩ := vOk_R hw h1
    obtain ⟨g1, g2, g3⟩ := gKi hhn hG c2
    obtain ⟨i, i1, i2, t, v, N', hs', q1, q2, q3, q4⟩ := aRd_ok hG.1 hG.2.2.2.1 hG.2.2.2.2.1 c2 c3 c1 (sE_k r (Int.ofNat f)) h
    have i1 : f = i := Int.ofNat.inj i1
    subst i1
    show eAt (hp, hn, env, nc, ns) (cR c) ci (fun _ q => pR P d mi k (Nat.add pc 3) L (eNrm env (eSl (eDa q) f) :: ws) (hp, hn, env, nc, ns)) = true
    rw [eAt_cR (g := (hp, hn, env, nc, ns)) g1 (by show eKi (Lean.RArray.get hp c) = ci; rw [g2, c3]; exact Nat.eq_of_beq_eq_true h2)]
    show pR P d mi k (Nat.add pc 3) L (eNrm env (hv hp c f) :: ws) (hp, hn, env, nc, ns) = true
    rw [tNrm hG.2.2.2.1 c2 (by rw [c3]; exact i2) env]
    exact pR_t (har _ _ _ _ _ q4 (r ++ t) L _ hp (Gs_st (Gs_hs (Gs_ext hG q1) q2) ⟨q3, aSt_mono hst⟩))
theorem eAll_0 (A j v : Nat) : eAll A j 0 v = true := rfl
noncomputable def aAld (p : Nat → Bool) : aH := fun ar pc N lo st hs => match st with
  | i :: o :: rest => cond (tI i) (cond (tA o) (cond (p (tKi (Nat.sub o.1 16))) (aRd N hs (Nat.sub o.1 16) o.2 i.2 (fun v N hs => ar (Nat.add pc 1) N lo (v :: rest) hs)) false) false) false
  | _ => false
theorem i_ald0 (hhn : tNC ≤ hn) (har : (∀ pc N lo st hs, ar pc N lo st hs = true → ∀ r L stc hp, Gs FS rc mu M md hp0 r N lo st hs L stc hp → P d mi k pc L stc (hp, hn, env, nc, ns))) (hG : Gs FS rc mu M md hp0 r N lo st hs L stc hp) {p : Nat → Bool} (h : aAld p ar pc N lo st hs = true) : hAld p (pR P d mi k) (pC P d) k pc L stc (hp, hn, env, nc, ns) = true ∧ ∃ i c ws, stc = i :: cR c :: ws := by
  cases st with
  | nil => cases h
  | cons iv st =>
    cases st with
    | nil => cases h
    | cons o rest =>
      obtain ⟨wi, ws1, rfl, hi, hst1⟩ := aSt_c hG.2.2.1
      obtain ⟨w, ws, rfl, hw, hst⟩ := aSt_c hst1
      obtain ⟨h0, h⟩ := eC_t h
      obtain ⟨h1, h⟩ := eC_t h
      obtain ⟨h2, h⟩ := eC_t h
      obtain ⟨x, x1, x2, x3, rfl⟩ := vOk_I hi h0
      obtain ⟨c, c1, c2, c3, rfl⟩ := vOk_R hw h1
      obtain ⟨g1, g2, g3⟩ := gKi hhn hG c2
      obtain ⟨i, rfl, i2, t, v, N', hs', q1, q2, q3, q4⟩ := aRd_ok hG.1 hG.2.2.2.1 hG.2.2.2.2.1 c2 c3 c1 x1 h
      refine ⟨?_, _, c, ws, rfl⟩
      show cond (eIsI (cI (i : Int))) (eAtP (hp, hn, env, nc, ns) (cR c) p (fun _ q => eInR env (cI (i : Int)) (eLe q) (fun j n => cond (eAll (eDa q) (Nat.add j 1) n (eSl (eDa q) j)) (pR P d mi k (Nat.add pc 1) L (eNrm env (eSl (eDa q) j) :: ws) (hp, hn, env, nc, ns)) (cond (Nat.beq (eKi q) 64) (pR P d mi k (Nat.add pc 1) L (3 :: ws) (hp, hn, env, nc, ns)) (eSpi (cI (i : Int)) (fun j env => pR P d mi k (Nat.add pc 1) L (eNrm env (eSl (eDa q) j) :: ws) (hp, hn, env, nc, ns)) n j env))))) false = true
      rw [cI_isI]
      show eAtP (hp, hn, env, nc, ns) (cR c) p _ = true
      rw [eAtP_cR (g := (hp, hn, env, nc, ns)) g1 (by show p (eKi (Lean.RArray.get hp c)) = true; rw [g2, c3]; exact h2)]
      show eInR env (cI (i : Int)) (eLe (Lean.RArray.get hp c)) _ = true
      rw [eInR_cI (by rw [g3, c3]; exact i2) x3, eAll_0]
      show pR P d mi k (Nat.add pc 1) L (eNrm env (hv hp c i) :: ws) (hp, hn, env, nc, ns) = true
      rw [tNrm hG.2.2.2.1 c2 (by rw [c3]; exact i2) env]
      exact pR_t (har _ _ _ _ _ q4 (r ++ t) L _ hp (Gs_st (Gs_hs (Gs_ext hG q1) q2) ⟨q3, aSt_mono hst⟩))
noncomputable def aIald : aH := fun ar pc N lo st hs => match st with
  | i :: o :: rest => cond (Nat.beq o.1 6) (cond (tI i) (cond (sIn N i.2 (Int.ofNat 0) (Int.ofNat 4)) (sFr N (Int.negSucc 0) (Int.ofNat 1) (fun e N => ar (Nat.add pc 1) N lo ((1, e) :: rest) hs)) false) false) (aAld (fun k => Nat.beq k 64) ar pc N lo (i :: o :: rest) hs)
  | _ => false
theorem i_iald (hhn : tNC ≤ hn) (har : (∀ pc N lo st hs, ar pc N lo st hs = true → ∀ r L stc hp, Gs FS rc mu M md hp0 r N lo st hs L stc hp → P d mi k pc L stc (hp, hn, env, nc, ns))) (hG : Gs FS rc mu M md hp0 r N lo st hs L stc hp) {own : Nat} (h : aIald ar pc N lo st hs = true) : hIald own (pR P d mi k) (pC P d) k pc L stc (hp, hn, env, nc, ns) = true := by
  cases st with
  | nil => cases h
  | cons iv st =>
    cases st with
    | nil => cases h
    | cons o rest =>
      rcases sCh (show cond (Nat.beq o.1 6) (cond (tI iv) (cond (sIn N iv.2 (Int.ofNat 0) (Int.ofNat 4)) (sFr N (Int.negSucc 0) (Int.ofNat 1) (fun e N => ar (Nat.add pc 1) N lo ((1, e) :: rest) hs)) false) false) (aAld (fun k => Nat.beq k 64) ar pc N lo (iv :: o :: rest) hs) = true from h) with ⟨h1, h⟩ | ⟨-, h⟩
      · obtain ⟨wi, ws1, rfl, hi, hst1⟩ := aSt_c hG.2.2.1
        obtain ⟨w, ws, rfl, hw, hst⟩ := aSt_c hst1
        obtain ⟨h2, h⟩ := eC_t h
        obtain ⟨h3, h⟩ := eC_t h
        obtain ⟨x, x1, x2, x3, rfl⟩ := vOk_I hi h2
        obtain ⟨b1, b2⟩ := sIn_ok hG.1 x1 h3
        have o0 : (Int.ofNat 0 : Int) = 0 := rfl
        have o4 : (Int.ofNat 4 : Int) = 4 := rfl
        have on : (Int.negSucc 0 : Int) = -1 := rfl
        have o1 : (Int.ofNat 1 : Int) = 1 := rfl
        have hw6 := hw.2.2.2.1 (Nat.eq_of_beq_eq_true h1)
        have go : ∀ z : Int, -1 ≤ z → z ≤ 1 → pR P d mi k (Nat.add pc 1) L (cI z :: ws) (hp, hn, env, nc, ns) = true := by
          intro z z1 z2
          have z3 : zMn ≤ z := by rw [zMn_eq]; omega
          have z4 : z ≤ zMx := by rw [zMx_eq]; omega
          obtain ⟨e, N', q1, q2, q3⟩ := sFr_ok hG.1 (x := z) (by rw [on]; exact z1) (by rw [o1]; exact z2) z3 z4 h
          exact pR_t (har _ _ _ _ _ q3 (r ++ [z]) L _ hp (Gs_st (Gs_ext hG q1) ⟨vOk_i q2 z3 z4, aSt_mono hst⟩))
        have e1 : cI (-1) = eCi 4294967295 := by decide
        have e2 : cI 0 = eCi 0 := by decide
        have e3 : cI 1 = eCi 1 := by decide
        have g1 := go (-1) (by omega) (by omega)
        have g2 := go 0 (by omega) (by omega)
        have g3 := go 1 (by omega) (by omega)
        rw [e1] at g1
        rw [e2] at g2
        rw [e3] at g3
        have hp5 : Nat.blt (ePl (cI x)) 5 = true := bltT (by rw [cI_pl]; omega)
        have e38 : Nat.beq w 38 = false := by rcases hw6 with rfl | rfl <;> rfl
        have e46 : cond (Nat.beq w 46) true (Nat.beq w 54) = true := by rcases hw6 with rfl | rfl <;> rfl
        show cond (Nat.beq w 38) _ (cond (cond (Nat.beq w 46) true (Nat.beq w 54)) (cond (Nat.beq (eTg (cI x)) 1) (cond (Nat.blt (ePl (cI x)) 5) (cond (pR P d mi k (Nat.add pc 1) L (eCi 4294967295 :: ws) (hp, hn, env, nc, ns)) (cond (pR P d mi k (Nat.add pc 1) L (eCi 0 :: ws) (hp, hn, env, nc, ns)) (pR P d mi k (Nat.add pc 1) L (eCi 1 :: ws) (hp, hn, env, nc, ns)) false) false) false) false) _) = true
        rw [e38, e46, cI_tg, hp5, g1, g2, g3]
        rfl
      · obtain ⟨h2, i, c, ws, e⟩ := i_ald0 hhn har hG h
        subst e
        show cond (Nat.beq (cR c) 38) _ (cond (cond (Nat.beq (cR c) 46) true (Nat.beq (cR c) 54)) _ (hAld (fun k => Nat.beq k 64) (pR P d mi k) (pC P d) k pc L (i :: cR c :: ws) (hp, hn, env, nc, ns))) = true
        rw [cR_ne (by decide), cR_ne (by decide), cR_ne (by decide)]
        exact h2
theorem i_bald (hhn : tNC ≤ hn) (har : (∀ pc N lo st hs, ar pc N lo st hs = true → ∀ r L stc hp, Gs FS rc mu M md hp0 r N lo st hs L stc hp → P d mi k pc L stc (hp, hn, env, nc, ns))) (hG : Gs FS rc mu M md hp0 r N lo st hs L stc hp) (h : aAld (fun k => cond (Nat.beq k 66) true (Nat.beq k 67)) ar pc N lo st hs = true) : hBald (pR P d mi k) (pC P d) k pc L stc (hp, hn, env, nc, ns) = true := by
  obtain ⟨h2, i, c, ws, e⟩ := i_ald0 hhn har hG h
  subst e
  show cond (Nat.beq (cR c) 14) _ (hAld (fun k => cond (Nat.beq k 66) true (Nat.beq k 67)) (pR P d mi k) (pC P d) k pc L (i :: cR c :: ws) (hp, hn, env, nc, ns)) = true
  rw [cR_ne (by decide)]
  exact h2
/-- what a field takes -/
noncomputable def sFitF (N : sNm) (ty : Nat) (v : sVl) : Bool := match ty with
  | 0 => tI v
  | 1 => cond (tI v) (sIn N v.2 (Int.ofNat 0) (Int.ofNat 1)) false
  | 2 => tL v
  | _ => tA v
theorem sBool {r : List Int} {N : sNm} (hN : sNOk tSg r N) {v : sVl} {w : Nat} (hv' : vOk r v w) (h : cond (tI v) (sIn N v.2 (Int.ofNat 0) (Int.ofNat 1)) false = true) : cond (Nat.beq w 1) true (Nat.beq w 9) = true := by
  obtain ⟨h1, h2⟩ := eC_t h
  obtain ⟨x, x1, x2, x3, rfl⟩ := vOk_I hv' h1
  obtain ⟨b1, b2⟩ := sIn_ok hN x1 h2
  have o0 : (Int.ofNat 0 : Int) = 0 := rfl
  have o1 : (Int.ofNat 1 : Int) = 1 := rfl
  have : x = 0 ∨ x = 1 := by omega
  rcases this with rfl | rfl
  · rfl
  · rfl
theorem sFitF_ok (hG : Gs FS rc mu M md hp0 r N lo st hs L stc hp) {ty : Nat} {v : sVl} {w : Nat} (hv' : vOk r v w) (h : sFitF N ty v = true) : eFit ty w = true ∧ w < 2 ^ 72 := by
  match ty, h with
  | 0, h => obtain ⟨x, -, -, -, rfl⟩ := vOk_I hv' h; exact ⟨cI_isI x, cI_72 x⟩
  | 1, h =>
    refine ⟨sBool hG.1 hv' h, ?_⟩
    obtain ⟨h1, -⟩ := eC_t h
    obtain ⟨x, -, -, -, rfl⟩ := vOk_I hv' h1
    exact cI_72 x
  | 2, h =>
    obtain ⟨h1, h2⟩ := tL_w hv' h
    exact ⟨by show Nat.beq (eTg w) 4 = true; rw [h1]; rfl, h2⟩
  | n + 3, h =>
    obtain ⟨c, -, h2, -, rfl⟩ := vOk_R hv' h
    exact ⟨cR_isA c, cR_72 (Nat.lt_of_lt_of_le h2 tNC_le)⟩
theorem Gs_wr (hG : Gs FS rc mu M md hp0 r N lo st hs L stc hp) {hp' : Lean.RArray Nat} {hs' : sHs} (h1 : hOk hp') (h2 : hFr md hp hp') (h3 : hsOk FS r hp' hs') : Gs FS rc mu M md hp0 r N lo st hs' L stc hp' :=
  ⟨hG.1, hG.2.1, hG.2.2.1, h1, h3, hG.2.2.2.2.2.1, hG.2.2.2.2.2.2.1, hFr_trans hG.2.2.2.2.2.2.2 h2⟩
noncomputable def aPut (md : sMd) (ci f ty : Nat) : aH := fun ar pc N lo st hs => match st with
  | v :: o :: rest => cond (sFitF N ty v) (cond (tA o) (cond (Nat.beq (tKi (Nat.sub o.1 16)) ci) (aWr md N hs (Nat.sub o.1 16) o.2 (Int.ofNat f, []) v (fun hs => ar (Nat.add pc 3) N lo rest hs)) false) false) false
  | _ => false
theorem i_put (hFS : fsOk FS) (hhn : tNC ≤ hn) (har : (∀ pc N lo st hs, ar pc N lo st hs = true → ∀ r L stc hp, Gs FS rc mu M md hp0 r N lo st hs L stc hp → P d mi k pc L stc (hp, hn, env, nc, ns))) (hG : Gs FS rc mu M md hp0 r N lo st hs L stc hp) {ci f ty : Nat} (h : aPut md ci f ty ar pc N lo st hs = true) : hPut ci f ty (pR P d mi k) (pC P d) k pc L stc (hp, hn, env, nc, ns) = true := by
  cases st with
  | nil => cases h
  | cons v st =>
    cases st with
    | nil => cases h
    | cons o rest =>
      obtain ⟨wv, ws1, rfl, hv', hst1⟩ := aSt_c hG.2.2.1
      obtain ⟨w, ws, rfl, hw, hst⟩ := aSt_c hst1
      obtain ⟨h0, h⟩ := eC_t h
      obtain ⟨h1, h⟩ := eC_t h
      obtain ⟨h2, h⟩ := eC_t h
      obtain ⟨c, c1, c2, c3, rfl⟩ := vOk_R hw h1
      obtain ⟨f1, f2⟩ := sFitF_ok hG hv' h0
      obtain ⟨g1, g2, g3⟩ := gKi hhn hG c2
      obtain ⟨i, i1, i2, o1, o2, hs', o3, o4⟩ := aWr_ok hFS hG.1 hG.2.2.2.1 hG.2.2.2.2.1 c2 c3 c1 (sE_k r (Int.ofNat f)) hv' f2 h
      have i1 : f = i := Int.ofNat.inj i1
      subst i1
      show cond (eFit ty wv) (eAt (hp, hn, env, nc, ns) (cR c) ci (fun q cc => eF (eSd cc (eBl (eDa cc) f 1 wv)) (fun c' => eSetK hp q c' (fun hp => pR P d mi k (Nat.add pc 3) L ws (hp, hn, env, nc, ns))))) false = true
      rw [f1]
      show eAt (hp, hn, env, nc, ns) (cR c) ci _ = true
      rw [eAt_cR (g := (hp, hn, env, nc, ns)) g1 (by show eKi (Lean.RArray.get hp c) = ci; rw [g2, c3]; exact Nat.eq_of_beq_eq_true h2), eF_eq, eSetK_eq]
      exact pR_t (har _ _ _ _ _ o4 r L _ (hSt hp c f wv) (Gs_wr (Gs_st hG hst) o1 o2 o3))
theorem eBy_1 {n : Nat} (h : n < 128) : eByte (eCi n) = eCi n := by
  unfold eByte
  rw [(eCi_tg n).1, (eCi_tg n).2, show Nat.mod n 256 = n from Nat.mod_eq_of_lt (by omega), bltT h]
  rfl
theorem eBy_2 {n : Nat} (h : 4294967168 ≤ n) (h2 : n < 4294967296) : eByte (eCi n) = eCi n := by
  have e : Nat.add (Nat.mod n 256) 4294967040 = n := by
    have : n % 256 + 4294967040 = n := by omega
    exact this
  have e2 : Nat.blt (Nat.mod n 256) 128 = false := by
    rw [← Bool.not_eq_true]
    intro q
    have q : n % 256 < 128 := eB_l q
    omega
  unfold eByte
  rw [(eCi_tg n).1, (eCi_tg n).2, e2, e]
  rfl
theorem eByte_cI {x : Int} (h1 : -128 ≤ x) (h2 : x ≤ 127) : eByte (cI x) = cI x := by
  unfold cI
  by_cases h : 0 ≤ x
  · exact eBy_1 (by omega)
  · exact eBy_2 (by omega) (by omega)
noncomputable def sKpK (N : sNm) (ki : Nat) (v : sVl) : Bool := cond (Nat.beq ki 64) (tI v) (cond (Nat.beq ki 65) (tL v) (cond (Nat.beq ki 66) (cond (tI v) (sIn N v.2 (Int.negSucc 127) (Int.ofNat 127)) false) (cond (Nat.beq ki 67) (cond (tI v) (sIn N v.2 (Int.ofNat 0) (Int.ofNat 1)) false) (cond (Nat.ble 128 ki) (cond (tA v) (Nat.beq (tKi (Nat.sub v.1 16)) (Nat.sub ki 128)) false) false))))
theorem sKpK_ok (hhn : tNC ≤ hn) (hG : Gs FS rc mu M md hp0 r N lo st hs L stc hp) {ki : Nat} {v : sVl} {w : Nat} (hv' : vOk r v w) (h : sKpK N ki v = true) : eKeep (hp, hn, env, nc, ns) ki w = w ∧ w < 2 ^ 72 ∧ ¬ w = 0 := by
  have cI0 : ∀ x : Int, ¬ cI x = 0 := fun x e => by
    have : eTg (cI x) = 0 := by rw [e]; rfl
    rw [cI_tg] at this
    cases this
  rcases sCh h with ⟨h1, h⟩ | ⟨h1, h⟩
  · obtain ⟨x, -, -, -, rfl⟩ := vOk_I hv' h
    refine ⟨?_, cI_72 x, cI0 x⟩
    unfold eKeep
    rw [h1, cI_isI]
    rfl
  · rcases sCh h with ⟨h2, h⟩ | ⟨h2, h⟩
    · obtain ⟨e1, e2⟩ := tL_w hv' h
      refine ⟨?_, e2, fun e => by rw [e] at e1; cases e1⟩
      unfold eKeep
      rw [h1, h2, e1]
      rfl
    · rcases sCh h with ⟨h3, h⟩ | ⟨h3, h⟩
      · obtain ⟨h, h4⟩ := eC_t h
        obtain ⟨x, x1, -, -, rfl⟩ := vOk_I hv' h
        obtain ⟨b1, b2⟩ := sIn_ok hG.1 x1 h4
        have o0 : (Int.negSucc 127 : Int) = -128 := rfl
        have o1 : (Int.ofNat 127 : Int) = 127 := rfl
        refine ⟨?_, cI_72 x, cI0 x⟩
        unfold eKeep
        rw [h1, h2, h3, cI_isI]
        exact eByte_cI (by omega) (by omega)
      · rcases sCh h with ⟨h4, h⟩ | ⟨h4, h⟩
        · have e := sBool hG.1 hv' h
          obtain ⟨h, -⟩ := eC_t h
          obtain ⟨x, x1, -, -, rfl⟩ := vOk_I hv' h
          refine ⟨?_, cI_72 x, cI0 x⟩
          unfold eKeep
          rw [h1, h2, h3, h4, e]
          rfl
        · obtain ⟨h5, h⟩ := eC_t h
          obtain ⟨h, h6⟩ := eC_t h
          obtain ⟨c, c1, c2, c3, rfl⟩ := vOk_R hv' h
          obtain ⟨g1, g2, g3⟩ := gKi hhn hG c2
          refine ⟨?_, cR_72 (Nat.lt_of_lt_of_le c2 tNC_le), fun e => by
            have : eTg (cR c) = 0 := by rw [e]; rfl
            rw [cR_tg] at this
            cases this⟩
          unfold eKeep
          rw [h1, h2, h3, h4, h5, eAt_cR (g := (hp, hn, env, nc, ns)) g1 (by show eKi (Lean.RArray.get hp c) = _; rw [g2, c3]; exact Nat.eq_of_beq_eq_true h6)]
          rfl
noncomputable def aAst (md : sMd) (p : Nat → Bool) : aH := fun ar pc N lo st hs => match st with
  | v :: i :: o :: rest => cond (tI i) (cond (tA o) (cond (p (tKi (Nat.sub o.1 16))) (cond (sKpK N (tKi (Nat.sub o.1 16)) v) (aWr md N hs (Nat.sub o.1 16) o.2 i.2 v (fun hs => ar (Nat.add pc 1) N lo rest hs)) false) false) false) false
  | _ => false
theorem i_ast (hFS : fsOk FS) (hhn : tNC ≤ hn) (har : (∀ pc N lo st hs, ar pc N lo st hs = true → ∀ r L stc hp, Gs FS rc mu M md hp0 r N lo st hs L stc hp → P d mi k pc L stc (hp, hn, env, nc, ns))) (hG : Gs FS rc mu M md hp0 r N lo st hs L stc hp) {p : Nat → Bool} (h : aAst md p ar pc N lo st hs = true) : hAst p (pR P d mi k) (pC P d) k pc L stc (hp, hn, env, nc, ns) = true := by
  cases st with
  | nil => cases h
  | cons v st =>
    cases st with
    | nil => cases h
    | cons iv st =>
      cases st with
      | nil => cases h
      | cons o rest =>
        obtain ⟨wv, ws2, rfl, hv', hst2⟩ := aSt_c hG.2.2.1
        obtain ⟨wi, ws1, rfl, hi, hst1⟩ := aSt_c hst2
        obtain ⟨w, ws, rfl, hw, hst⟩ := aSt_c hst1
        obtain ⟨h0, h⟩ := eC_t h
        obtain ⟨h1, h⟩ := eC_t h
        obtain ⟨h2, h⟩ := eC_t h
        obtain ⟨h3, h⟩ := eC_t h
        obtain ⟨x, x1, x2, x3, rfl⟩ := vOk_I hi h0
        obtain ⟨c, c1, c2, c3, rfl⟩ := vOk_R hw h1
        obtain ⟨f1, f2, f3⟩ := sKpK_ok hhn hG hv' h3
        obtain ⟨g1, g2, g3⟩ := gKi hhn hG c2
        obtain ⟨i, rfl, i2, o1, o2, hs', o3, o4⟩ := aWr_ok hFS hG.1 hG.2.2.2.1 hG.2.2.2.2.1 c2 c3 c1 x1 hv' f2 h
        show cond (eIsI (cI (i : Int))) (eAtP (hp, hn, env, nc, ns) (cR c) p (fun q cc => eInR env (cI (i : Int)) (eLe cc) (fun j n => cond (Nat.beq (eKeep (hp, hn, env, nc, ns) (eKi cc) wv) 0) false (cond (cond (Nat.beq n 0) true (Nat.beq (eKi cc) 64)) (eF (eSd cc (cond (Nat.beq n 0) (eBl (eDa cc) j 1 (eKeep (hp, hn, env, nc, ns) (eKi cc) wv)) (eFill (eDa cc) j (Nat.add n 1) 3))) (fun c' => eSetK hp q c' (fun hp => pR P d mi k (Nat.add pc 1) L ws (hp, hn, env, nc, ns)))) false)))) false = true
        rw [cI_isI]
        show eAtP (hp, hn, env, nc, ns) (cR c) p _ = true
        rw [eAtP_cR (g := (hp, hn, env, nc, ns)) g1 (by show p (eKi (Lean.RArray.get hp c)) = true; rw [g2, c3]; exact h2)]
        show eInR env (cI (i : Int)) (eLe (Lean.RArray.get hp c)) _ = true
        rw [eInR_cI (by rw [g3, c3]; exact i2) x3]
        show cond (Nat.beq (eKeep (hp, hn, env, nc, ns) (eKi (Lean.RArray.get hp c)) wv) 0) false (eF (eSd (Lean.RArray.get hp c) (eBl (eDa (Lean.RArray.get hp c)) i 1 (eKeep (hp, hn, env, nc, ns) (eKi (Lean.RArray.get hp c)) wv))) (fun c' => eSetK hp c c' (fun hp => pR P d mi k (Nat.add pc 1) L ws (hp, hn, env, nc, ns)))) = true
        rw [g2, c3, f1, beqF f3, eF_eq, eSetK_eq]
        exact pR_t (har _ _ _ _ _ o4 r L _ (hSt hp c i wv) (Gs_wr (Gs_st hG hst) o1 o2 o3))
noncomputable def aLen : aH := fun ar pc N lo st hs => match st with
  | o :: rest => cond (tA o) (cond (Nat.ble 64 (tKi (Nat.sub o.1 16))) (eF (tLe (Nat.sub o.1 16)) (fun n => cond (Nat.blt n 2147483648) (ar (Nat.add pc 1) N lo ((1, Int.ofNat n, []) :: rest) hs) false)) false) false
  | _ => false
theorem i_len (hhn : tNC ≤ hn) (har : (∀ pc N lo st hs, ar pc N lo st hs = true → ∀ r L stc hp, Gs FS rc mu M md hp0 r N lo st hs L stc hp → P d mi k pc L stc (hp, hn, env, nc, ns))) (hG : Gs FS rc mu M md hp0 r N lo st hs L stc hp) (h : aLen ar pc N lo st hs = true) : hLen (pR P d mi k) (pC P d) k pc L stc (hp, hn, env, nc, ns) = true := by
  cases st with
  | nil => cases h
  | cons o rest =>
    obtain ⟨w, ws, rfl, hw, hst⟩ := aSt_c hG.2.2.1
    obtain ⟨h1, h⟩ := eC_t h
    obtain ⟨h2, h⟩ := eC_t h
    rw [eF_eq] at h
    obtain ⟨h3, h⟩ := eC_t h
    have h3 := eB_l h3
    obtain ⟨c, c1, c2, c3, rfl⟩ := vOk_R hw h1
    obtain ⟨g1, g2, g3⟩ := gKi hhn hG c2
    show cond (Nat.beq (cR c) 14) _ (eAtP (hp, hn, env, nc, ns) (cR c) (fun k => Nat.ble 64 k) (fun _ cc => pR P d mi k (Nat.add pc 1) L (eCi (eLe cc) :: ws) (hp, hn, env, nc, ns))) = true
    rw [cR_ne (by decide)]
    show eAtP (hp, hn, env, nc, ns) (cR c) (fun k => Nat.ble 64 k) _ = true
    rw [eAtP_cR (g := (hp, hn, env, nc, ns)) g1 (by show Nat.ble 64 (eKi (Lean.RArray.get hp c)) = true; rw [g2, c3]; exact h2)]
    show pR P d mi k (Nat.add pc 1) L (eCi (eLe (Lean.RArray.get hp c)) :: ws) (hp, hn, env, nc, ns) = true
    rw [g3, c3, cI_nat _ (by omega)]
    have o1 : (Int.ofNat (tLe (Nat.sub o.1 16)) : Int) = ((tLe (Nat.sub o.1 16) : Nat) : Int) := rfl
    exact pR_t (har _ _ _ _ _ h r L _ hp (Gs_st hG ⟨vOk_i (sE_k r _) (by rw [zMn_eq]; omega) (by rw [zMx_eq]; omega), hst⟩))
end CkStep2
