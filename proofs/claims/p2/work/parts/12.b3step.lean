section CkStep3
theorem vLong {r : List Int} {e : sLn} {n : Nat} (h : n < 18446744073709551616) : vOk r (4, e) (Nat.add (Nat.mul 8 n) 4) :=
  vOk_l (e8 n 4 (by decide)).1 (by show 8 * n + 4 < 2 ^ 72; omega)
variable {FS : sFS} {rc : List Int} {mu : Option sLn} {M : Int} {md : sMd} {hp0 : Lean.RArray Nat} {P : evP} {d mi : Nat} {k : evK} {hn : Nat} {env : evEnv} {nc ns : Nat} {ar : aR} {r : List Int} {pc : Nat} {N : sNm} {lo st : List sVl} {hs : sHs} {L : Nat} {stc : List Nat} {hp : Lean.RArray Nat}
noncomputable def aI2l : aH := fun ar pc N lo st hs => match st with
  | a :: rest => cond (tI a) (ar (Nat.add pc 1) N lo ((4, Int.ofNat 0, []) :: rest) hs) false
  | _ => false
theorem i_i2l (har : (∀ pc N lo st hs, ar pc N lo st hs = true → ∀ r L stc hp, Gs FS rc mu M md hp0 r N lo st hs L stc hp → P d mi k pc L stc (hp, hn, env, nc, ns))) (hG : Gs FS rc mu M md hp0 r N lo st hs L stc hp) (h : aI2l ar pc N lo st hs = true) : hI2l (pR P d mi k) (pC P d) k pc L stc (hp, hn, env, nc, ns) = true := by
  cases st with
  | nil => cases h
  | cons a rest =>
    obtain ⟨w, ws, rfl, hw, hst⟩ := aSt_c hG.2.2.1
    obtain ⟨h1, h⟩ := eC_t h
    obtain ⟨x, x1, x2, x3, rfl⟩ := vOk_I hw h1
    have hl := cI_lt x
    have hb : cond (Nat.blt (ePl (cI x)) 2147483648) (ePl (cI x)) (Nat.add (ePl (cI x)) 18446744069414584320) < 18446744073709551616 := by
      cases Nat.blt (ePl (cI x)) 2147483648
      · show ePl (cI x) + 18446744069414584320 < 18446744073709551616; omega
      · show ePl (cI x) < 18446744073709551616; omega
    show cond (Nat.beq (eTg (cI x)) 1) (pR P d mi k (Nat.add pc 1) L (Nat.add (Nat.mul 8 (cond (Nat.blt (ePl (cI x)) 2147483648) (ePl (cI x)) (Nat.add (ePl (cI x)) 18446744069414584320))) 4 :: ws) (hp, hn, env, nc, ns)) false = true
    rw [cI_tg]
    exact pR_t (har _ _ _ _ _ h r L _ hp (Gs_st hG ⟨vLong hb, hst⟩))
noncomputable def aL2 : aH := fun ar pc N lo st hs => match st with
  | b :: a :: rest => cond (tL a) (cond (tL b) (ar (Nat.add pc 1) N lo ((4, Int.ofNat 0, []) :: rest) hs) false) false
  | _ => false
theorem i_l2 (har : (∀ pc N lo st hs, ar pc N lo st hs = true → ∀ r L stc hp, Gs FS rc mu M md hp0 r N lo st hs L stc hp → P d mi k pc L stc (hp, hn, env, nc, ns))) (hG : Gs FS rc mu M md hp0 r N lo st hs L stc hp) {f : Nat → Nat → Nat} (hf : ∀ a b, f a b < 18446744073709551616) (h : aL2 ar pc N lo st hs = true) : hL2 f (pR P d mi k) (pC P d) k pc L stc (hp, hn, env, nc, ns) = true := by
  cases st with
  | nil => cases h
  | cons b st =>
    cases st with
    | nil => cases h
    | cons a rest =>
      obtain ⟨wb, ws1, rfl, hb, hst1⟩ := aSt_c hG.2.2.1
      obtain ⟨wa, ws, rfl, ha, hst⟩ := aSt_c hst1
      obtain ⟨h1, h⟩ := eC_t h
      obtain ⟨h2, h⟩ := eC_t h
      show cond (Nat.beq (eTg wa) 4) (cond (Nat.beq (eTg wb) 4) (pR P d mi k (Nat.add pc 1) L (Nat.add (Nat.mul 8 (f (ePl wa) (ePl wb))) 4 :: ws) (hp, hn, env, nc, ns)) false) false = true
      rw [(tL_ok (env := []) ha h1).1, (tL_ok (env := []) hb h2).1]
      exact pR_t (har _ _ _ _ _ h r L _ hp (Gs_st hG ⟨vLong (hf _ _), hst⟩))
noncomputable def aLsh : aH := fun ar pc N lo st hs => match st with
  | b :: a :: rest => cond (tL a) (cond (tI b) (ar (Nat.add pc 1) N lo ((4, Int.ofNat 0, []) :: rest) hs) false) false
  | _ => false
theorem i_lsh (har : (∀ pc N lo st hs, ar pc N lo st hs = true → ∀ r L stc hp, Gs FS rc mu M md hp0 r N lo st hs L stc hp → P d mi k pc L stc (hp, hn, env, nc, ns))) (hG : Gs FS rc mu M md hp0 r N lo st hs L stc hp) (h : aLsh ar pc N lo st hs = true) : hLsh (pR P d mi k) (pC P d) k pc L stc (hp, hn, env, nc, ns) = true := by
  cases st with
  | nil => cases h
  | cons b st =>
    cases st with
    | nil => cases h
    | cons a rest =>
      obtain ⟨wb, ws1, rfl, hb, hst1⟩ := aSt_c hG.2.2.1
      obtain ⟨wa, ws, rfl, ha, hst⟩ := aSt_c hst1
      obtain ⟨h1, h⟩ := eC_t h
      obtain ⟨h2, h⟩ := eC_t h
      obtain ⟨y, -, -, -, rfl⟩ := vOk_I hb h2
      show cond (Nat.beq (eTg wa) 4) (cond (Nat.beq (eTg (cI y)) 1) (pR P d mi k (Nat.add pc 1) L (Nat.add (Nat.mul 8 (lN (ePl wa) <<< ((nI (ePl (cI y))).toInt64 &&& 63)).toBitVec.toNat) 4 :: ws) (hp, hn, env, nc, ns)) false) false = true
      rw [(tL_ok (env := []) ha h1).1, cI_tg]
      exact pR_t (har _ _ _ _ _ h r L _ hp (Gs_st hG ⟨vLong (lN (ePl wa) <<< ((nI (ePl (cI y))).toInt64 &&& 63)).toBitVec.isLt, hst⟩))
theorem go1 (har : (∀ pc N lo st hs, ar pc N lo st hs = true → ∀ r L stc hp, Gs FS rc mu M md hp0 r N lo st hs L stc hp → P d mi k pc L stc (hp, hn, env, nc, ns))) {rest : List sVl} {ws : List Nat} (hG : Gs FS rc mu M md hp0 r N lo st hs L stc hp) (hst : aSt r rest ws) {a b z : Int} (h1 : a ≤ z) (h2 : z ≤ b) (h3 : zMn ≤ z) (h4 : z ≤ zMx) {pc' : Nat} (h : sFr N a b (fun e N => ar pc' N lo ((1, e) :: rest) hs) = true) : pR P d mi k pc' L (cI z :: ws) (hp, hn, env, nc, ns) = true := by
  obtain ⟨e, N', q1, q2, q3⟩ := sFr_ok hG.1 h1 h2 h3 h4 h
  exact pR_t (har _ _ _ _ _ q3 (r ++ [z]) L _ hp (Gs_st (Gs_ext hG q1) ⟨vOk_i q2 h3 h4, aSt_mono hst⟩))
noncomputable def aLcmp : aH := fun ar pc N lo st hs => match st with
  | b :: a :: rest => cond (tL a) (cond (tL b) (sFr N (Int.negSucc 0) (Int.ofNat 1) (fun e N => ar (Nat.add pc 1) N lo ((1, e) :: rest) hs)) false) false
  | _ => false
theorem i_lcmp (har : (∀ pc N lo st hs, ar pc N lo st hs = true → ∀ r L stc hp, Gs FS rc mu M md hp0 r N lo st hs L stc hp → P d mi k pc L stc (hp, hn, env, nc, ns))) (hG : Gs FS rc mu M md hp0 r N lo st hs L stc hp) (h : aLcmp ar pc N lo st hs = true) : hLcmp (pR P d mi k) (pC P d) k pc L stc (hp, hn, env, nc, ns) = true := by
  cases st with
  | nil => cases h
  | cons b st =>
    cases st with
    | nil => cases h
    | cons a rest =>
      obtain ⟨wb, ws1, rfl, hb, hst1⟩ := aSt_c hG.2.2.1
      obtain ⟨wa, ws, rfl, ha, hst⟩ := aSt_c hst1
      obtain ⟨h1, h⟩ := eC_t h
      obtain ⟨h2, h⟩ := eC_t h
      have on : (Int.negSucc 0 : Int) = -1 := rfl
      have o1 : (Int.ofNat 1 : Int) = 1 := rfl
      have go : ∀ z : Int, -1 ≤ z → z ≤ 1 → pR P d mi k (Nat.add pc 1) L (cI z :: ws) (hp, hn, env, nc, ns) = true := fun z z1 z2 => go1 har hG hst (by rw [on]; exact z1) (by rw [o1]; exact z2) (by rw [zMn_eq]; omega) (by rw [zMx_eq]; omega) h
      have g1 := go (-1) (by omega) (by omega)
      have g2 := go 0 (by omega) (by omega)
      have g3 := go 1 (by omega) (by omega)
      rw [show cI (-1) = eCi 4294967295 from by decide] at g1
      rw [show cI 0 = eCi 0 from by decide] at g2
      rw [show cI 1 = eCi 1 from by decide] at g3
      show cond (Nat.beq (eTg wa) 4) (cond (Nat.beq (eTg wb) 4) (pR P d mi k (Nat.add pc 1) L (cond (Nat.blt (eBl64 (ePl wa)) (eBl64 (ePl wb))) (eCi 4294967295) (cond (Nat.beq (ePl wa) (ePl wb)) (eCi 0) (eCi 1)) :: ws) (hp, hn, env, nc, ns)) false) false = true
      rw [(tL_ok (env := []) ha h1).1, (tL_ok (env := []) hb h2).1]
      show pR P d mi k (Nat.add pc 1) L (cond (Nat.blt (eBl64 (ePl wa)) (eBl64 (ePl wb))) (eCi 4294967295) (cond (Nat.beq (ePl wa) (ePl wb)) (eCi 0) (eCi 1)) :: ws) (hp, hn, env, nc, ns) = true
      cases Nat.blt (eBl64 (ePl wa)) (eBl64 (ePl wb))
      · cases Nat.beq (ePl wa) (ePl wb)
        · exact g3
        · exact g2
      · exact g1
theorem eBy_z (n : Nat) : ∃ z : Int, -128 ≤ z ∧ z ≤ 127 ∧ eByte (eCi n) = cI z := by
  have hm : n % 256 < 256 := Nat.mod_lt _ (by decide)
  unfold eByte
  rw [(eCi_tg n).1, (eCi_tg n).2]
  by_cases h : n % 256 < 128
  · refine ⟨((n % 256 : Nat) : Int), by omega, by omega, ?_⟩
    rw [show Nat.blt (Nat.mod n 256) 128 = true from bltT h]
    exact cI_nat _ (by show n % 256 < 4294967296; omega)
  · refine ⟨((n % 256 : Nat) : Int) - 256, by omega, by omega, ?_⟩
    rw [show Nat.blt (Nat.mod n 256) 128 = false from by
      rw [← Bool.not_eq_true]
      exact fun q => h (eB_l q)]
    have e : eCi (Nat.add (Nat.mod n 256) 4294967040) = cI (((n % 256 + 4294967040 : Nat)) : Int) := cI_nat _ (by show n % 256 + 4294967040 < 4294967296; omega)
    show eCi (Nat.add (Nat.mod n 256) 4294967040) = _
    rw [e]
    exact cI_con (by omega)
noncomputable def aI2b : aH := fun ar pc N lo st hs => match st with
  | a :: rest => cond (tI a) (sFr N (Int.negSucc 127) (Int.ofNat 127) (fun e N => ar (Nat.add pc 1) N lo ((1, e) :: rest) hs)) false
  | _ => false
theorem i_i2b (har : (∀ pc N lo st hs, ar pc N lo st hs = true → ∀ r L stc hp, Gs FS rc mu M md hp0 r N lo st hs L stc hp → P d mi k pc L stc (hp, hn, env, nc, ns))) (hG : Gs FS rc mu M md hp0 r N lo st hs L stc hp) (h : aI2b ar pc N lo st hs = true) : hI2b (pR P d mi k) (pC P d) k pc L stc (hp, hn, env, nc, ns) = true := by
  cases st with
  | nil => cases h
  | cons a rest =>
    obtain ⟨w, ws, rfl, hw, hst⟩ := aSt_c hG.2.2.1
    obtain ⟨h1, h⟩ := eC_t h
    obtain ⟨x, x1, x2, x3, rfl⟩ := vOk_I hw h1
    have on : (Int.negSucc 127 : Int) = -128 := rfl
    have o1 : (Int.ofNat 127 : Int) = 127 := rfl
    obtain ⟨z, z1, z2, z3⟩ := eBy_z (Int.toNat (x % 4294967296))
    have z3 : eByte (cI x) = cI z := z3
    show cond (eIsI (cI x)) (pR P d mi k (Nat.add pc 1) L (eByte (cI x) :: ws) (hp, hn, env, nc, ns)) false = true
    rw [cI_isI, z3]
    exact go1 har hG hst (by rw [on]; exact z1) (by rw [o1]; exact z2) (by rw [zMn_eq]; omega) (by rw [zMx_eq]; omega) h
noncomputable def sSgn (n : Nat) : Int := cond (Nat.blt n 2147483648) (Int.ofNat n) (Int.negSucc (Nat.sub 4294967295 n))
theorem sSgn_ok {n : Nat} (h : n < 4294967296) : zMn ≤ sSgn n ∧ sSgn n ≤ zMx ∧ eCi n = cI (sSgn n) := by
  unfold sSgn
  by_cases q : n < 2147483648
  · rw [bltT q, cond_true]
    have e : (Int.ofNat n : Int) = (n : Int) := rfl
    rw [zMn_eq, zMx_eq, e]
    exact ⟨by omega, by omega, cI_nat n h⟩
  · rw [show Nat.blt n 2147483648 = false from by rw [← Bool.not_eq_true]; exact fun z => q (eB_l z), cond_false]
    have e : (Int.negSucc (Nat.sub 4294967295 n) : Int) = (n : Int) - 4294967296 := by
      have : Nat.sub 4294967295 n = 4294967295 - n := rfl
      rw [this]
      omega
    rw [zMn_eq, zMx_eq, e]
    exact ⟨by omega, by omega, by rw [cI_nat n h]; exact cI_con (by omega)⟩
noncomputable def aConst (l : List (Nat × Nat)) (own idx len : Nat) : aH := fun ar pc N lo st hs => eF (eLook l (Nat.add (Nat.mul 65536 own) idx)) (fun v => cond (Nat.beq (eTg v) 1) (cond (Nat.blt (ePl v) 4294967296) (zF (sSgn (ePl v)) (fun z => ar (Nat.add pc len) N lo ((1, z, []) :: st) hs)) false) (cond (Nat.beq (eTg v) 4) (cond (Nat.blt (ePl v) 18446744073709551616) (ar (Nat.add pc len) N lo ((4, Int.ofNat 0, []) :: st) hs) false) false))
theorem i_const (har : (∀ pc N lo st hs, ar pc N lo st hs = true → ∀ r L stc hp, Gs FS rc mu M md hp0 r N lo st hs L stc hp → P d mi k pc L stc (hp, hn, env, nc, ns))) (hG : Gs FS rc mu M md hp0 r N lo st hs L stc hp) {l : List (Nat × Nat)} {own idx len : Nat} (h : aConst l own idx len ar pc N lo st hs = true) : hConst l own idx len (pR P d mi k) (pC P d) k pc L stc (hp, hn, env, nc, ns) = true := by
  unfold aConst at h
  rw [eF_eq] at h
  unfold hConst
  generalize eLook l (Nat.add (Nat.mul 65536 own) idx) = v at h ⊢
  have push : ∀ u : sVl, vOk r u v → ar (Nat.add pc len) N lo (u :: st) hs = true → pR P d mi k (Nat.add pc len) L (v :: stc) (hp, hn, env, nc, ns) = true := fun u hu hk => pR_t (har _ _ _ _ _ hk r L _ hp (Gs_st hG ⟨hu, hG.2.2.1⟩))
  have key : ¬ v = 0 ∧ pR P d mi k (Nat.add pc len) L (v :: stc) (hp, hn, env, nc, ns) = true := by
    rcases sCh h with ⟨h1, h⟩ | ⟨-, h⟩
    · obtain ⟨h2, h⟩ := eC_t h
      rw [zF_eq] at h
      have h1 := Nat.eq_of_beq_eq_true h1
      obtain ⟨s1, s2, s3⟩ := sSgn_ok (eB_l h2)
      have e : v = eCi (ePl v) := by
        show v = 8 * ePl v + 1
        have := eVal v
        omega
      refine ⟨fun z => (by rw [z] at h1; cases h1), push _ ?_ h⟩
      have q := vOk_i (sE_k r (sSgn (ePl v))) s1 s2
      rw [← s3, ← e] at q
      exact q
    · obtain ⟨h1, h⟩ := eC_t h
      obtain ⟨h2, h⟩ := eC_t h
      have h1 := Nat.eq_of_beq_eq_true h1
      have e : v = Nat.add (Nat.mul 8 (ePl v)) 4 := by
        show v = 8 * ePl v + 4
        have := eVal v
        omega
      refine ⟨fun z => (by rw [z] at h1; cases h1), push _ ?_ h⟩
      have q := vLong (r := r) (e := (Int.ofNat 0, [])) (eB_l h2)
      rw [← e] at q
      exact q
  cases v with
  | zero => exact absurd rfl key.1
  | succ v => exact key.2
/-- words of what lies on the stack -/
noncomputable def sSm (st : List sVl) : Nat → Bool := @List.rec sVl (fun _ => Nat → Bool) (fun _ => true) (fun v _ ih n => cond (cond (sNl v) true (Nat.beq v.1 6)) (@Nat.rec (fun _ => Bool) false (fun n _ => ih n) n) (@Nat.rec (fun _ => Bool) false (fun n _ => @Nat.rec (fun _ => Bool) false (fun n _ => ih n) n) n)) st
theorem sSm_ok {r : List Int} : ∀ {st : List sVl} {ws : List Nat} {n : Nat}, aSt r st ws → sSm st n = true → eSum ws ≤ n := by
  intro st
  induction st with
  | nil =>
    intro ws n h _
    rw [aSt_n h]
    exact Nat.zero_le _
  | cons v st ih =>
    intro ws n h hs
    obtain ⟨w, xs, rfl, hw, hx⟩ := aSt_c h
    have e : eSum (w :: xs) = eCat w + eSum xs := rfl
    rw [e]
    rcases sCh (show cond (cond (sNl v) true (Nat.beq v.1 6)) (@Nat.rec (fun _ => Bool) false (fun n _ => sSm st n) n) (@Nat.rec (fun _ => Bool) false (fun n _ => @Nat.rec (fun _ => Bool) false (fun n _ => sSm st n) n) n) = true from hs) with ⟨h1, h2⟩ | ⟨-, h2⟩
    · have h4 : ¬ eTg w = 4 := by
        rcases sCh h1 with ⟨h3, -⟩ | ⟨-, h3⟩
        · exact sNl_ok hw h3
        · rcases hw.2.2.2.1 (Nat.eq_of_beq_eq_true h3) with rfl | rfl <;> decide
      have h5 : eCat w = 1 := eCat_1 (beqF h4)
      cases n with
      | zero => cases h2
      | succ n =>
        have := ih hx (show sSm st n = true from h2)
        omega
    · have h5 : eCat w ≤ 2 := by
        unfold eCat
        cases Nat.beq (eTg w) 4
        · exact Nat.le_succ 1
        · exact Nat.le_refl 2
      cases n with
      | zero => cases h2
      | succ n =>
        cases n with
        | zero => cases h2
        | succ n =>
          have := ih hx (show sSm st n = true from h2)
          omega
noncomputable def aMin : aH := fun ar pc N lo st hs => match st with
  | y :: x :: rest => cond (tI x) (cond (tI y) (cond (sSm rest 8) (cond (sAsLe N (sAdk y.2 (Int.ofNat 1)) x.2 (fun N => ar (Nat.add pc 3) N lo (y :: rest) hs)) (sAsLe N x.2 y.2 (fun N => ar (Nat.add pc 3) N lo (x :: rest) hs)) false) false) false) false
  | _ => false
theorem i_min (har : (∀ pc N lo st hs, ar pc N lo st hs = true → ∀ r L stc hp, Gs FS rc mu M md hp0 r N lo st hs L stc hp → P d mi k pc L stc (hp, hn, env, nc, ns))) (hG : Gs FS rc mu M md hp0 r N lo st hs L stc hp) (h : aMin ar pc N lo st hs = true) : hMin (pR P d mi k) (pC P d) k pc L stc (hp, hn, env, nc, ns) = true := by
  cases st with
  | nil => cases h
  | cons b st =>
    cases st with
    | nil => cases h
    | cons a rest =>
      obtain ⟨wb, ws1, rfl, hb, hst1⟩ := aSt_c hG.2.2.1
      obtain ⟨wa, ws, rfl, ha, hst⟩ := aSt_c hst1
      obtain ⟨h1, h⟩ := eC_t h
      obtain ⟨h2, h⟩ := eC_t h
      obtain ⟨h3, h⟩ := eC_t h
      obtain ⟨k1, k2⟩ := eC_t h
      obtain ⟨x, x1, x2, x3, rfl⟩ := vOk_I ha h1
      obtain ⟨y, y1, y2, y3, rfl⟩ := vOk_I hb h2
      have o1 : (Int.ofNat 1 : Int) = 1 := rfl
      show cond (cond (eIsI (cI x)) (cond (eIsI (cI y)) (Nat.ble (eSum ws) 8) false) false) (eLt env (cI y) (cI x) (fun env => pR P d mi k (Nat.add pc 3) L (cI y :: ws) (hp, hn, env, nc, ns)) (fun env => pR P d mi k (Nat.add pc 3) L (cI x :: ws) (hp, hn, env, nc, ns))) false = true
      rw [cI_isI, cI_isI, Nat.ble_eq_true_of_le (sSm_ok hst h3)]
      simp only [cond_true]
      refine eLt_cI y2 y3 x2 x3 (fun q => ?_) (fun q => ?_)
      · obtain ⟨N', n1, n2⟩ := sAsLe_ok hG.1 (sAdk_ok (c := Int.ofNat 1) y1) x1 (by omega) k1
        exact pR_t (har _ _ _ _ _ n2 r L _ hp (Gs_N (Gs_st hG (show aSt r (b :: rest) (cI y :: ws) from ⟨hb, hst⟩)) n1))
      · obtain ⟨N', n1, n2⟩ := sAsLe_ok hG.1 x1 y1 (by omega) k2
        exact pR_t (har _ _ _ _ _ n2 r L _ hp (Gs_N (Gs_st hG (show aSt r (a :: rest) (cI x :: ws) from ⟨ha, hst⟩)) n1))
/-- a switch -/
noncomputable def aSwC (k : Int → sNm → Bool) (N : sNm) (a : sLn) (offs : List Int) : Int → Bool := @List.rec Int (fun _ => Int → Bool) (fun _ => true) (fun o _ ih c => zF c (fun c => cond (sAsEq N a (c, []) (fun N => k o N)) (ih (Int.add c (Int.ofNat 1))) false)) offs
noncomputable def aSw (dd lw hg : Int) (offs : Array Int) : aH := fun ar pc N lo st hs => match st with
  | a :: rest => cond (tI a) (cond (decide (lw + (offs.toList.length : Int) = hg + 1 ∧ -2147483648 ≤ lw ∧ hg < 2147483647)) (cond (aSwC (fun o N => eTo pc o (fun t => ar t N lo rest hs)) N a.2 offs.toList lw) (cond (sAsLe N (sAdk a.2 (Int.ofNat 1)) (lw, []) (fun N => eTo pc dd (fun t => ar t N lo rest hs))) (sAsLe N (Int.add hg (Int.ofNat 1), []) a.2 (fun N => eTo pc dd (fun t => ar t N lo rest hs))) false) false) false) false
  | _ => false
theorem i_sw0 {K : Int → evEnv → Bool} {kk : Int → sNm → Bool} {pc : Nat} {dd c0 : Int} {a : sLn} {x : Int} (hN : sNOk tSg r N) (ha : sE r a = some x) (h1 : zMn ≤ x) (h2 : x ≤ zMx) {rest : List Nat} (hK : ∀ o N', sNOk tSg r N' → kk o N' = true → eTo pc o (fun t => pR P d mi k t L rest (hp, hn, env, nc, ns)) = true)
    : ∀ (offs : List Int) (c : Int), c0 ≤ c → (c0 ≤ x → c ≤ x) → zMn ≤ c → c + offs.length ≤ zMx → (x < c0 ∨ c + offs.length ≤ x → eTo pc dd (fun t => pR P d mi k t L rest (hp, hn, env, nc, ns)) = true) → aSwC kk N a offs c = true → eSw (pR P d mi k) pc (cI x) dd L rest (hp, hn, env, nc, ns) offs (Int.toNat (c + 2147483648)) env = true := by
  intro offs
  induction offs with
  | nil =>
    intro c hc hx hl hh hd h
    refine hd ?_
    show x < c0 ∨ c + ((0 : Nat) : Int) ≤ x
    by_cases q : c0 ≤ x
    · have := hx q
      right; omega
    · left; omega
  | cons o offs ih =>
    intro c hc hx hl hh hd h
    have h : zF c (fun c => cond (sAsEq N a (c, []) (fun N => kk o N)) (aSwC kk N a offs (Int.add c (Int.ofNat 1))) false) = true := h
    rw [zF_eq] at h
    obtain ⟨h3, h4⟩ := eC_t h
    have hl2 : ((o :: offs).length : Int) = (offs.length : Int) + 1 := by simp
    rw [hl2] at hh hd
    show eEqc env (cI x) (Int.toNat (c + 2147483648)) (fun env => eTo pc o (fun t => pR P d mi k t L rest (hp, hn, env, nc, ns))) (fun env => eSw (pR P d mi k) pc (cI x) dd L rest (hp, hn, env, nc, ns) offs (Nat.add (Int.toNat (c + 2147483648)) 1) env) = true
    refine eEqc_cI h1 h2 hl (by rw [zMx_eq] at hh ⊢; omega) (fun q => ?_) (fun q => ?_)
    · obtain ⟨N', n1, n2⟩ := sAsEq_ok hN ha (by rw [q]; exact sE_k r c) h3
      exact hK o N' n1 n2
    · have e : Nat.add (Int.toNat (c + 2147483648)) 1 = Int.toNat (c + 1 + 2147483648) := by
        rw [zMn_eq] at hl
        show Int.toNat (c + 2147483648) + 1 = _
        omega
      rw [e]
      refine ih (c + 1) (by omega) (fun z => by have := hx z; omega) (by omega) (by omega) (fun z => hd ?_) h4
      rcases z with z | z
      · exact Or.inl z
      · right; omega
theorem i_sw (har : (∀ pc N lo st hs, ar pc N lo st hs = true → ∀ r L stc hp, Gs FS rc mu M md hp0 r N lo st hs L stc hp → P d mi k pc L stc (hp, hn, env, nc, ns))) (hG : Gs FS rc mu M md hp0 r N lo st hs L stc hp) {dd lw hg : Int} {offs : Array Int} (h : aSw dd lw hg offs ar pc N lo st hs = true) : hSw dd lw hg offs (pR P d mi k) (pC P d) k pc L stc (hp, hn, env, nc, ns) = true := by
  cases st with
  | nil => cases h
  | cons a rest =>
    obtain ⟨w, ws, rfl, hw, hst⟩ := aSt_c hG.2.2.1
    obtain ⟨h1, h⟩ := eC_t h
    obtain ⟨h2, h⟩ := eC_t h
    obtain ⟨h3, h⟩ := eC_t h
    obtain ⟨k1, k2⟩ := eC_t h
    obtain ⟨x, x1, x2, x3, rfl⟩ := vOk_I hw h1
    obtain ⟨d1, d2, d3⟩ := of_decide_eq_true h2
    have o1 : (Int.ofNat 1 : Int) = 1 := rfl
    have hK : ∀ o N', sNOk tSg r N' → eTo pc o (fun t => ar t N' lo rest hs) = true → eTo pc o (fun t => pR P d mi k t L ws (hp, hn, env, nc, ns)) = true := fun o N' n1 n2 => eTo_t n2 (fun t ht => pR_t (har _ _ _ _ _ ht r L _ hp (Gs_N (Gs_st hG hst) n1)))
    show cond (eIsI (cI x)) (cond (decide (lw + (offs.toList.length : Int) = hg + 1 ∧ -2147483648 ≤ lw ∧ hg < 2147483647)) (eSw (pR P d mi k) pc (cI x) dd L ws (hp, hn, env, nc, ns) offs.toList (Int.toNat (lw + 2147483648)) env) false) false = true
    rw [cI_isI, h2]
    refine i_sw0 (K := fun _ _ => true) (c0 := lw) hG.1 x1 x2 x3 hK offs.toList lw (Int.le_refl _) (fun z => z) (by rw [zMn_eq]; exact d2) (by rw [zMx_eq]; omega) (fun z => ?_) h3
    rcases z with z | z
    · obtain ⟨N', n1, n2⟩ := sAsLe_ok hG.1 (sAdk_ok (c := Int.ofNat 1) x1) (sE_k r lw) (by omega) k1
      exact hK dd N' n1 n2
    · obtain ⟨N', n1, n2⟩ := sAsLe_ok hG.1 (sE_k r (Int.add hg (Int.ofNat 1))) x1 (by show hg + 1 ≤ x; omega) k2
      exact hK dd N' n1 n2
end CkStep3
