section CkStep3
theorem vLong {r : List Int} {e : sLn} {n : Nat} (h : n < 18446744073709551616) : vOk r (4, e) (Nat.add (Nat.mul 8 n) 4) :=
  vOk_l (e8 n 4 (by decide)).1 (by show 8 * n + 4 < 2 ^ 67; omega)
variable {FS : sFS} {rc : List Int} {mu : Option sLn} {M : Int} {md : sMd} {hp0 : Lean.RArray Nat} {P : evP} {d mi : Nat} {k : evK} {hn : Nat} {env : evEnv} {nc ns : Nat} {ar : aR} {r : List Int} {pc : Nat} {N : sNm} {lo st : List sVl} {hs : sHs} {L : Nat} {stc : List Nat} {hp : Lean.RArray Nat}
noncomputable def aI2l : aH := fun ar pc N lo st hs => match st with
  | a :: rest => cond (tI a) (ar (Nat.add pc 1) N lo ((5, a.2) :: rest) hs) false
  | _ => false
theorem i2l_eq {x : Int} (h1 : zMn ≤ x) (h2 : x ≤ zMx) : Nat.add (Nat.mul 8 (cond (Nat.blt (ePl (cI x)) 2147483648) (ePl (cI x)) (Nat.add (ePl (cI x)) 18446744069414584320))) 4 = cL x := by
  rw [cI_pl]
  rw [zMn_eq] at h1
  rw [zMx_eq] at h2
  by_cases q : Int.toNat (x % 4294967296) < 2147483648
  · rw [bltT q, cond_true]
    show 8 * Int.toNat (x % 4294967296) + 4 = 8 * Int.toNat (x % 18446744073709551616) + 4
    omega
  · rw [show Nat.blt (Int.toNat (x % 4294967296)) 2147483648 = false from by rw [← Bool.not_eq_true]; exact fun z => q (eB_l z), cond_false]
    show 8 * (Int.toNat (x % 4294967296) + 18446744069414584320) + 4 = 8 * Int.toNat (x % 18446744073709551616) + 4
    omega
theorem i_i2l (har : (∀ pc N lo st hs, ar pc N lo st hs = true → ∀ r L stc hp, Gs FS rc mu M md hp0 r N lo st hs L stc hp → P d mi k pc L stc (hp, hn, env, nc, ns))) (hG : Gs FS rc mu M md hp0 r N lo st hs L stc hp) (h : aI2l ar pc N lo st hs = true) : hI2l (pR P d mi k) (pC P d) k pc L stc (hp, hn, env, nc, ns) = true := by
  cases st with
  | nil => cases h
  | cons a rest =>
    obtain ⟨w, ws, rfl, hw, hst⟩ := aSt_c hG.2.2.1
    obtain ⟨h1, h⟩ := eC_t h
    obtain ⟨x, x1, x2, x3, rfl⟩ := vOk_I hw h1
    show cond (Nat.beq (eTg (cI x)) 1) (pR P d mi k (Nat.add pc 1) L (Nat.add (Nat.mul 8 (cond (Nat.blt (ePl (cI x)) 2147483648) (ePl (cI x)) (Nat.add (ePl (cI x)) 18446744069414584320))) 4 :: ws) (hp, hn, env, nc, ns)) false = true
    rw [cI_tg, i2l_eq x2 x3]
    exact pR_t (har _ _ _ _ _ h r L _ hp (Gs_st hG ⟨vOk_w x1 (wz x2 x3).1 (wz x2 x3).2, hst⟩))
/-- a long of which nothing is known -/
noncomputable def aLany (ar : aR) (pc : Nat) (N : sNm) (lo rest : List sVl) (hs : sHs) : Bool := sFr N wMn wMx (fun e N => ar (Nat.add pc 1) N lo ((5, e) :: rest) hs)
theorem goL (har : (∀ pc N lo st hs, ar pc N lo st hs = true → ∀ r L stc hp, Gs FS rc mu M md hp0 r N lo st hs L stc hp → P d mi k pc L stc (hp, hn, env, nc, ns))) {rest : List sVl} {ws : List Nat} (hG : Gs FS rc mu M md hp0 r N lo st hs L stc hp) (hst : aSt r rest ws) {n : Nat} (hn' : n < 18446744073709551616) (h : aLany ar pc N lo rest hs = true) : pR P d mi k (Nat.add pc 1) L (Nat.add (Nat.mul 8 n) 4 :: ws) (hp, hn, env, nc, ns) = true := by
  obtain ⟨z, z1, z2, z3⟩ := cL_of (w := Nat.add (Nat.mul 8 n) 4) (e8 n 4 (by decide)).1 (by show 8 * n + 4 < 2 ^ 67; omega)
  obtain ⟨e, N', q1, q2, q3⟩ := sFrW_ok hG.1 z1 z2 z1 z2 h
  rw [z3]
  exact pR_t (har _ _ _ _ _ q3 (r ++ [z]) L _ hp (Gs_st (Gs_ext hG q1) ⟨vOk_w q2 z1 z2, aSt_mono hst⟩))
abbrev sLop : Type := sNm → sLn → sLn → (sLn → Bool) → Bool → Bool
/-- the long's own words of an operation -/
def lopOk (f : Nat → Nat → Nat) (F : sLop) : Prop := ∀ (r : List Int) (N : sNm) (a b : sLn) (x y : Int) (yes : sLn → Bool) (no : Bool), sNOk tSg r N → sE r a = some x → sE r b = some y → wMn ≤ x → x ≤ wMx → wMn ≤ y → y ≤ wMx → F N a b yes no = true → (∃ e z, sE r e = some z ∧ yes e = true ∧ f (ePl (cL x)) (ePl (cL y)) = Int.toNat (z % 18446744073709551616)) ∨ no = true
noncomputable def aL2 (F : sLop) : aH := fun ar pc N lo st hs => match st with
  | b :: a :: rest => cond (tL a) (cond (tL b) (cond (cond (Nat.beq a.1 5) (Nat.beq b.1 5) false) (F N a.2 b.2 (fun e => cond (sIn N e wMn wMx) (ar (Nat.add pc 1) N lo ((5, e) :: rest) hs) (aLany ar pc N lo rest hs)) (aLany ar pc N lo rest hs)) (aLany ar pc N lo rest hs)) false) false
  | _ => false
theorem i_l2 (har : (∀ pc N lo st hs, ar pc N lo st hs = true → ∀ r L stc hp, Gs FS rc mu M md hp0 r N lo st hs L stc hp → P d mi k pc L stc (hp, hn, env, nc, ns))) (hG : Gs FS rc mu M md hp0 r N lo st hs L stc hp) {f : Nat → Nat → Nat} {F : sLop} (hf : ∀ a b, f a b < 18446744073709551616) (hF : lopOk f F) (h : aL2 F ar pc N lo st hs = true) : hL2 f (pR P d mi k) (pC P d) k pc L stc (hp, hn, env, nc, ns) = true := by
  cases st with
  | nil => cases h
  | cons b st =>
    cases st with
    | nil => cases h
    | cons a rest =>
      obtain ⟨wb, ws1, rfl, hb, hst1⟩ := aSt_c hG.2.2.1
      obtain ⟨wa, ws, rfl, ha, hst⟩ := aSt_c hst1
      obtain ⟨h1, h⟩ := eC_t h
      obtain ⟨h2, h⟩ := eC_t h
      show cond (Nat.beq (eTg wa) 4) (cond (Nat.beq (eTg wb) 4) (pR P d mi k (Nat.add pc 1) L (Nat.add (Nat.mul 8 (f (ePl wa) (ePl wb))) 4 :: ws) (hp, hn, env, nc, ns)) false) false = true
      rw [(tL_ok (env := []) ha h1).1, (tL_ok (env := []) hb h2).1]
      show pR P d mi k (Nat.add pc 1) L (Nat.add (Nat.mul 8 (f (ePl wa) (ePl wb))) 4 :: ws) (hp, hn, env, nc, ns) = true
      rcases sCh h with ⟨h3, h⟩ | ⟨-, h⟩
      · obtain ⟨h3, h4⟩ := eC_t h3
        obtain ⟨x, x1, x2, x3, rfl⟩ := vOk_L ha h3
        obtain ⟨y, y1, y2, y3, rfl⟩ := vOk_L hb h4
        rcases hF r N _ _ x y _ _ hG.1 x1 y1 x2 x3 y2 y3 h with ⟨e, z, z1, z2, z3⟩ | h
        · rcases sCh z2 with ⟨z4, z2⟩ | ⟨-, z2⟩
          · obtain ⟨b1, b2⟩ := sIn_ok hG.1 z1 z4
            rw [z3]
            show pR P d mi k (Nat.add pc 1) L (cL z :: ws) (hp, hn, env, nc, ns) = true
            exact pR_t (har _ _ _ _ _ z2 r L _ hp (Gs_st hG ⟨vOk_w z1 b1 b2, hst⟩))
          · exact goL har hG hst (hf _ _) z2
        · exact goL har hG hst (hf _ _) h
      · exact goL har hG hst (hf _ _) h
noncomputable def sLadd : sLop := fun _ a b yes _ => sFl (sAdd a b) yes
theorem sLadd_ok : lopOk fLadd sLadd := by
  intro r N a b x y yes no _ ha hb h1 h2 h3 h4 h
  have h : sFl (sAdd a b) yes = true := h
  rw [sFl_eq] at h
  refine Or.inl ⟨_, x + y, sAdd_ok ha hb, h, ?_⟩
  rw [cL_pl, cL_pl]
  show (Int.toNat (x % 18446744073709551616) + Int.toNat (y % 18446744073709551616)) % 18446744073709551616 = _
  omega
noncomputable def sLmul : sLop := fun _ a b yes no => cond (sIsK b) (sFl (sMul b.1 a) yes) (cond (sIsK a) (sFl (sMul a.1 b) yes) no)
theorem mod64 (x y : Int) : (Int.toNat (x % 18446744073709551616) * Int.toNat (y % 18446744073709551616)) % 18446744073709551616 = Int.toNat ((x * y) % 18446744073709551616) := by
  have e : (x * y) % 18446744073709551616 = ((x % 18446744073709551616) * (y % 18446744073709551616)) % 18446744073709551616 := Int.mul_emod x y 18446744073709551616
  have hx : 0 ≤ x % 18446744073709551616 := by omega
  have hy : 0 ≤ y % 18446744073709551616 := by omega
  rw [e]
  generalize x % 18446744073709551616 = u at hx
  generalize y % 18446744073709551616 = v at hy
  obtain ⟨m, rfl⟩ := Int.eq_ofNat_of_zero_le hx
  obtain ⟨n, rfl⟩ := Int.eq_ofNat_of_zero_le hy
  show (m * n) % 18446744073709551616 = Int.toNat (((m * n : Nat) : Int) % 18446744073709551616)
  omega
theorem sLmul_ok : lopOk fLmul sLmul := by
  intro r N a b x y yes no _ ha hb h1 h2 h3 h4 h
  rcases sCh h with ⟨h5, h⟩ | ⟨-, h⟩
  · rw [sFl_eq] at h
    have e := sIsK_ok h5 hb
    refine Or.inl ⟨_, b.1 * x, sMul_ok ha, h, ?_⟩
    rw [cL_pl, cL_pl]
    show (Int.toNat (x % 18446744073709551616) * Int.toNat (y % 18446744073709551616)) % 18446744073709551616 = _
    rw [mod64, e, Int.mul_comm]
  · rcases sCh h with ⟨h5, h⟩ | ⟨-, h⟩
    · rw [sFl_eq] at h
      have e := sIsK_ok h5 ha
      refine Or.inl ⟨_, a.1 * y, sMul_ok hb, h, ?_⟩
      rw [cL_pl, cL_pl]
      show (Int.toNat (x % 18446744073709551616) * Int.toNat (y % 18446744073709551616)) % 18446744073709551616 = _
      rw [mod64, e]
    · exact Or.inr h
noncomputable def zM256 (a : Int) : Bool := Nat.beq (Nat.mod (Int.natAbs a) 256) 0
theorem zM256_ok {a : Int} (h : zM256 a = true) : ∃ t, a = 256 * t := by
  have h : Int.natAbs a % 256 = 0 := Nat.eq_of_beq_eq_true h
  exact ⟨a / 256, by omega⟩
noncomputable def sM256t (ts : List (Int × Nat)) : Bool := @List.rec (Int × Nat) (fun _ => Bool) true (fun q _ ih => cond (zM256 q.1) ih false) ts
theorem sM256t_ok {r : List Int} : ∀ {ts : List (Int × Nat)} {y : Int}, sM256t ts = true → sEt r ts = some y → ∃ t, y = 256 * t := by
  intro ts
  induction ts with
  | nil => intro y _ h; cases h; exact ⟨0, rfl⟩
  | cons q ts ih =>
    intro y h h1
    obtain ⟨a, s⟩ := q
    obtain ⟨h2, h3⟩ := eC_t (show cond (zM256 a) (sM256t ts) false = true from h)
    obtain ⟨x, y1, -, k2, rfl⟩ := sEt_cons h1
    obtain ⟨t, rfl⟩ := zM256_ok h2
    obtain ⟨u, rfl⟩ := ih h3 k2
    exact ⟨t * x + u, by rw [Int.mul_add, Int.mul_assoc]⟩
noncomputable def sM256 (e : sLn) : Bool := cond (zM256 e.1) (sM256t e.2) false
theorem sM256_ok {r : List Int} {e : sLn} {x : Int} (h : sM256 e = true) (hx : sE r e = some x) : ∃ t, x = 256 * t := by
  obtain ⟨h1, h2⟩ := eC_t h
  obtain ⟨y, y1, rfl⟩ := sE_iff.mp hx
  obtain ⟨t, ht⟩ := zM256_ok h1
  obtain ⟨u, hu⟩ := sM256t_ok h2 y1
  exact ⟨t + u, by rw [ht, hu, Int.mul_add]⟩
noncomputable def sLor : sLop := fun N a b yes no => cond (cond (sM256 a) (cond (zPs (sLo N a)) (sIn N b (Int.ofNat 0) (Int.ofNat 255)) false) false) (sFl (sAdd a b) yes) no
theorem fLor_add {m n : Nat} (h : 256 * m < 18446744073709551616) (h2 : n < 256) : fLor (256 * m) n = 256 * m + n := by
  show (lN (256 * m) ||| lN n).toBitVec.toNat = _
  rw [Int64.toBitVec_or, BitVec.toNat_or, lN_tn h, lN_tn (by omega)]
  exact (Nat.two_pow_add_eq_or_of_lt (i := 8) h2 m).symm
theorem sLor_ok : lopOk fLor sLor := by
  intro r N a b x y yes no hN ha hb h1 h2 h3 h4 h
  rcases sCh h with ⟨h5, h⟩ | ⟨-, h⟩
  · obtain ⟨h5, h6⟩ := eC_t h5
    obtain ⟨h6, h7⟩ := eC_t h6
    rw [sFl_eq] at h
    have h6 := zPs_iff.mp h6
    have b1 := sLo_ok hN ha
    obtain ⟨b2, b3⟩ := sIn_ok hN hb h7
    have o0 : (Int.ofNat 0 : Int) = 0 := rfl
    have o1 : (Int.ofNat 255 : Int) = 255 := rfl
    rw [o0] at b2
    rw [o1] at b3
    obtain ⟨t, rfl⟩ := sM256_ok h5 ha
    refine Or.inl ⟨_, 256 * t + y, sAdd_ok ha hb, h, ?_⟩
    rw [wMx_eq] at h2
    rw [cL_pl, cL_pl]
    obtain ⟨m, rfl⟩ := Int.eq_ofNat_of_zero_le (a := t) (by omega)
    obtain ⟨n, rfl⟩ := Int.eq_ofNat_of_zero_le b2
    rw [show Int.toNat ((256 * (m : Int)) % 18446744073709551616) = 256 * m from by omega, show Int.toNat ((n : Int) % 18446744073709551616) = n from by omega, fLor_add (by omega) (by omega)]
    omega
  · exact Or.inr h
noncomputable def aLsh : aH := fun ar pc N lo st hs => match st with
  | b :: a :: rest => cond (tL a) (cond (tI b) (cond (cond (Nat.beq a.1 5) (cond (sLeq b.2 (Int.ofNat 8, [])) (zPs (sLo N a.2)) false) false) (sFl (sMul (Int.ofNat 256) a.2) (fun e => cond (sIn N e wMn wMx) (ar (Nat.add pc 1) N lo ((5, e) :: rest) hs) (aLany ar pc N lo rest hs))) (aLany ar pc N lo rest hs)) false) false
  | _ => false
theorem lsh8 {n : Nat} (h : n < 18446744073709551616) : (lN n <<< ((nI 8).toInt64 &&& 63)).toBitVec.toNat = (256 * n) % 18446744073709551616 := by
  have e : (nI 8).toInt64 &&& 63 = (8 : Int64) := by decide
  rw [e, Int64.toBitVec_shiftLeft]
  have e2 : (8 : Int64).toBitVec.smod 64 = 8#64 := by decide
  rw [e2, BitVec.shiftLeft_eq', BitVec.toNat_shiftLeft, lN_tn h, Nat.shiftLeft_eq]
  show n * 2 ^ 8 % 2 ^ 64 = _
  omega
theorem i_lsh (har : (∀ pc N lo st hs, ar pc N lo st hs = true → ∀ r L stc hp, Gs FS rc mu M md hp0 r N lo st hs L stc hp → P d mi k pc L stc (hp, hn, env, nc, ns))) (hG : Gs FS rc mu M md hp0 r N lo st hs L stc hp) (h : aLsh ar pc N lo st hs = true) : hLsh (pR P d mi k) (pC P d) k pc L stc (hp, hn, env, nc, ns) = true := by
  cases st with
  | nil => cases h
  | cons b st =>
    cases st with
    | nil => cases h
    | cons a rest =>
      obtain ⟨wb, ws1, rfl, hb, hst1⟩ := aSt_c hG.2.2.1
      obtain ⟨wa, ws, rfl, ha, hst⟩ := aSt_c hst1
      obtain ⟨h1, h⟩ := eC_t h
      obtain ⟨h2, h⟩ := eC_t h
      obtain ⟨y, y1, -, -, rfl⟩ := vOk_I hb h2
      show cond (Nat.beq (eTg wa) 4) (cond (Nat.beq (eTg (cI y)) 1) (pR P d mi k (Nat.add pc 1) L (Nat.add (Nat.mul 8 (lN (ePl wa) <<< ((nI (ePl (cI y))).toInt64 &&& 63)).toBitVec.toNat) 4 :: ws) (hp, hn, env, nc, ns)) false) false = true
      rw [(tL_ok (env := []) ha h1).1, cI_tg]
      show pR P d mi k (Nat.add pc 1) L (Nat.add (Nat.mul 8 (lN (ePl wa) <<< ((nI (ePl (cI y))).toInt64 &&& 63)).toBitVec.toNat) 4 :: ws) (hp, hn, env, nc, ns) = true
      have anyL : aLany ar pc N lo rest hs = true → pR P d mi k (Nat.add pc 1) L (Nat.add (Nat.mul 8 (lN (ePl wa) <<< ((nI (ePl (cI y))).toInt64 &&& 63)).toBitVec.toNat) 4 :: ws) (hp, hn, env, nc, ns) = true := fun h => goL har hG hst (lN (ePl wa) <<< ((nI (ePl (cI y))).toInt64 &&& 63)).toBitVec.isLt h
      rcases sCh h with ⟨h3, h⟩ | ⟨-, h⟩
      · obtain ⟨h3, h4⟩ := eC_t h3
        obtain ⟨h4, h5⟩ := eC_t h4
        rw [sFl_eq] at h
        rcases sCh h with ⟨h6, h⟩ | ⟨-, h⟩
        · obtain ⟨x, x1, x2, x3, rfl⟩ := vOk_L ha h3
          rw [sLeq_ok h4, sE_k] at y1
          have ey : (Int.ofNat 8 : Int) = y := Option.some.inj y1
          subst ey
          have hx := sMul_ok (k := Int.ofNat 256) x1
          obtain ⟨b1, b2⟩ := sIn_ok hG.1 hx h6
          have h5 := zPs_iff.mp h5
          have b3 := sLo_ok hG.1 x1
          have e8 : ePl (cI (Int.ofNat 8)) = 8 := by rw [cI_pl]; rfl
          rw [e8, lsh8 (by rw [cL_pl]; omega)]
          have e9 : Nat.add (Nat.mul 8 ((256 * ePl (cL x)) % 18446744073709551616)) 4 = cL (Int.ofNat 256 * x) := by
            rw [cL_pl]
            show 8 * ((256 * Int.toNat (x % 18446744073709551616)) % 18446744073709551616) + 4 = 8 * Int.toNat ((256 * x) % 18446744073709551616) + 4
            omega
          rw [e9]
          exact pR_t (har _ _ _ _ _ h r L _ hp (Gs_st hG ⟨vOk_w hx b1 b2, hst⟩))
        · exact anyL h
      · exact anyL h
theorem go1 (har : (∀ pc N lo st hs, ar pc N lo st hs = true → ∀ r L stc hp, Gs FS rc mu M md hp0 r N lo st hs L stc hp → P d mi k pc L stc (hp, hn, env, nc, ns))) {rest : List sVl} {ws : List Nat} (hG : Gs FS rc mu M md hp0 r N lo st hs L stc hp) (hst : aSt r rest ws) {a b z : Int} (h1 : a ≤ z) (h2 : z ≤ b) (h3 : zMn ≤ z) (h4 : z ≤ zMx) {pc' : Nat} (h : sFr N a b (fun e N => ar pc' N lo ((1, e) :: rest) hs) = true) : pR P d mi k pc' L (cI z :: ws) (hp, hn, env, nc, ns) = true := by
  obtain ⟨e, N', q1, q2, q3⟩ := sFr_ok hG.1 h1 h2 h3 h4 h
  exact pR_t (har _ _ _ _ _ q3 (r ++ [z]) L _ hp (Gs_st (Gs_ext hG q1) ⟨vOk_i q2 h3 h4, aSt_mono hst⟩))
noncomputable def aLcmp : aH := fun ar pc N lo st hs => match st with
  | b :: a :: rest => cond (tL a) (cond (tL b) (cond (cond (Nat.beq a.1 5) (Nat.beq b.1 5) false)
      (cond (sAsLe N (sAdk a.2 (Int.ofNat 1)) b.2 (fun N => ar (Nat.add pc 1) N lo ((1, Int.negSucc 0, []) :: rest) hs)) (cond (sAsEq N a.2 b.2 (fun N => ar (Nat.add pc 1) N lo ((1, Int.ofNat 0, []) :: rest) hs)) (sAsLe N (sAdk b.2 (Int.ofNat 1)) a.2 (fun N => ar (Nat.add pc 1) N lo ((1, Int.ofNat 1, []) :: rest) hs)) false) false)
      (sFr N (Int.negSucc 0) (Int.ofNat 1) (fun e N => ar (Nat.add pc 1) N lo ((1, e) :: rest) hs))) false) false
  | _ => false
theorem eBl64_cL {x : Int} (h1 : wMn ≤ x) (h2 : x ≤ wMx) : eBl64 (ePl (cL x)) = Int.toNat (x + 9223372036854775808) := by
  rw [cL_pl]
  rw [wMn_eq] at h1
  rw [wMx_eq] at h2
  show (Int.toNat (x % 18446744073709551616) + 9223372036854775808) % 18446744073709551616 = _
  omega
theorem i_lcmp (har : (∀ pc N lo st hs, ar pc N lo st hs = true → ∀ r L stc hp, Gs FS rc mu M md hp0 r N lo st hs L stc hp → P d mi k pc L stc (hp, hn, env, nc, ns))) (hG : Gs FS rc mu M md hp0 r N lo st hs L stc hp) (h : aLcmp ar pc N lo st hs = true) : hLcmp (pR P d mi k) (pC P d) k pc L stc (hp, hn, env, nc, ns) = true := by
  cases st with
  | nil => cases h
  | cons b st =>
    cases st with
    | nil => cases h
    | cons a rest =>
      obtain ⟨wb, ws1, rfl, hb, hst1⟩ := aSt_c hG.2.2.1
      obtain ⟨wa, ws, rfl, ha, hst⟩ := aSt_c hst1
      obtain ⟨h1, h⟩ := eC_t h
      obtain ⟨h2, h⟩ := eC_t h
      have on : (Int.negSucc 0 : Int) = -1 := rfl
      have o1 : (Int.ofNat 1 : Int) = 1 := rfl
      show cond (Nat.beq (eTg wa) 4) (cond (Nat.beq (eTg wb) 4) (pR P d mi k (Nat.add pc 1) L (cond (Nat.blt (eBl64 (ePl wa)) (eBl64 (ePl wb))) (eCi 4294967295) (cond (Nat.beq (ePl wa) (ePl wb)) (eCi 0) (eCi 1)) :: ws) (hp, hn, env, nc, ns)) false) false = true
      rw [(tL_ok (env := []) ha h1).1, (tL_ok (env := []) hb h2).1]
      show pR P d mi k (Nat.add pc 1) L (cond (Nat.blt (eBl64 (ePl wa)) (eBl64 (ePl wb))) (eCi 4294967295) (cond (Nat.beq (ePl wa) (ePl wb)) (eCi 0) (eCi 1)) :: ws) (hp, hn, env, nc, ns) = true
      have c1 : cI (-1) = eCi 4294967295 := by decide
      have c2 : cI 0 = eCi 0 := by decide
      have c3 : cI 1 = eCi 1 := by decide
      rcases sCh h with ⟨h3, h⟩ | ⟨-, h⟩
      · obtain ⟨h3, h4⟩ := eC_t h3
        obtain ⟨x, x1, x2, x3, rfl⟩ := vOk_L ha h3
        obtain ⟨y, y1, y2, y3, rfl⟩ := vOk_L hb h4
        obtain ⟨k1, h⟩ := eC_t h
        obtain ⟨k2, k3⟩ := eC_t h
        rw [eBl64_cL x2 x3, eBl64_cL y2 y3]
        have go : ∀ (z : Int) (N' : sNm), zMn ≤ z → z ≤ zMx → sNOk tSg r N' → ar (Nat.add pc 1) N' lo ((1, z, []) :: rest) hs = true → pR P d mi k (Nat.add pc 1) L (cI z :: ws) (hp, hn, env, nc, ns) = true := fun z N' z1 z2 hN' hk => pR_t (har _ _ _ _ _ hk r L _ hp (Gs_N (Gs_st hG (show aSt r ((1, z, []) :: rest) (cI z :: ws) from ⟨vOk_i (sE_k r z) z1 z2, hst⟩)) hN'))
        have w1 := wMn_eq
        have w2 := wMx_eq
        by_cases q : x < y
        · rw [bltT (show Int.toNat (x + 9223372036854775808) < Int.toNat (y + 9223372036854775808) from by omega), cond_true, ← c1]
          obtain ⟨N', n1, n2⟩ := sAsLe_ok hG.1 (sAdk_ok (c := Int.ofNat 1) x1) y1 (by omega) k1
          exact go (-1) N' (by rw [zMn_eq]; decide) (by rw [zMx_eq]; decide) n1 n2
        · rw [show Nat.blt (Int.toNat (x + 9223372036854775808)) (Int.toNat (y + 9223372036854775808)) = false from by rw [← Bool.not_eq_true]; exact fun z => q (by have := eB_l z; omega), cond_false]
          by_cases q2 : x = y
          · subst q2
            rw [show Nat.beq (ePl (cL x)) (ePl (cL x)) = true from Nat.beq_refl _, cond_true, ← c2]
            obtain ⟨N', n1, n2⟩ := sAsEq_ok hG.1 x1 y1 k2
            exact go 0 N' (by rw [zMn_eq]; decide) (by rw [zMx_eq]; decide) n1 n2
          · rw [beqF (show ¬ ePl (cL x) = ePl (cL y) from by rw [cL_pl, cL_pl]; omega), cond_false, ← c3]
            obtain ⟨N', n1, n2⟩ := sAsLe_ok hG.1 (sAdk_ok (c := Int.ofNat 1) y1) x1 (by omega) k3
            exact go 1 N' (by rw [zMn_eq]; decide) (by rw [zMx_eq]; decide) n1 n2
      · have go : ∀ z : Int, -1 ≤ z → z ≤ 1 → pR P d mi k (Nat.add pc 1) L (cI z :: ws) (hp, hn, env, nc, ns) = true := fun z z1 z2 => go1 har hG hst (by rw [on]; exact z1) (by rw [o1]; exact z2) (by rw [zMn_eq]; omega) (by rw [zMx_eq]; omega) h
        have g1 := go (-1) (by omega) (by omega)
        have g2 := go 0 (by omega) (by omega)
        have g3 := go 1 (by omega) (by omega)
        rw [c1] at g1
        rw [c2] at g2
        rw [c3] at g3
        cases Nat.blt (eBl64 (ePl wa)) (eBl64 (ePl wb))
        · cases Nat.beq (ePl wa) (ePl wb)
          · exact g3
          · exact g2
        · exact g1
theorem eBy_z (n : Nat) : ∃ z : Int, -128 ≤ z ∧ z ≤ 127 ∧ eByte (eCi n) = cI z := by
  have hm : n % 256 < 256 := Nat.mod_lt _ (by decide)
  unfold eByte
  rw [(eCi_tg n).1, (eCi_tg n).2]
  by_cases h : n % 256 < 128
  · refine ⟨((n % 256 : Nat) : Int), by omega, by omega, ?_⟩
    rw [show Nat.blt (Nat.mod n 256) 128 = true from bltT h]
    exact cI_nat _ (by show n % 256 < 4294967296; omega)
  · refine ⟨((n % 256 : Nat) : Int) - 256, by omega, by omega, ?_⟩
    rw [show Nat.blt (Nat.mod n 256) 128 = false from by
      rw [← Bool.not_eq_true]
      exact fun q => h (eB_l q)]
    have e : eCi (Nat.add (Nat.mod n 256) 4294967040) = cI (((n % 256 + 4294967040 : Nat)) : Int) := cI_nat _ (by show n % 256 + 4294967040 < 4294967296; omega)
    show eCi (Nat.add (Nat.mod n 256) 4294967040) = _
    rw [e]
    exact cI_con (by omega)
noncomputable def aI2b (cl : List Nat) : aH := fun ar pc N lo st hs => match st with
  | a :: rest => cond (tI a) (sFr N (Int.negSucc 127) (Int.ofNat 127) (fun e N => ar (Nat.add pc 1) N lo ((1, e) :: rest) (match cl with | [] => hs | _ => (hs.1, (tOPb, [a.2, e]) :: hs.2)))) false
  | _ => false
theorem i_i2b (hOP : opOk FS) (har : (∀ pc N lo st hs, ar pc N lo st hs = true → ∀ r L stc hp, Gs FS rc mu M md hp0 r N lo st hs L stc hp → P d mi k pc L stc (hp, hn, env, nc, ns))) (hG : Gs FS rc mu M md hp0 r N lo st hs L stc hp) {cl : List Nat} (h : aI2b cl ar pc N lo st hs = true) : hI2b (pR P d mi k) (pC P d) k pc L stc (hp, hn, env, nc, ns) = true := by
  cases st with
  | nil => cases h
  | cons a rest =>
    obtain ⟨w, ws, rfl, hw, hst⟩ := aSt_c hG.2.2.1
    obtain ⟨h1, h⟩ := eC_t h
    obtain ⟨x, x1, x2, x3, rfl⟩ := vOk_I hw h1
    have on : (Int.negSucc 127 : Int) = -128 := rfl
    have o1 : (Int.ofNat 127 : Int) = 127 := rfl
    obtain ⟨z, z1, z2, z3⟩ := eBy_z (Int.toNat (x % 4294967296))
    have z3 : eByte (cI x) = cI z := z3
    show cond (eIsI (cI x)) (pR P d mi k (Nat.add pc 1) L (eByte (cI x) :: ws) (hp, hn, env, nc, ns)) false = true
    rw [cI_isI, z3]
    have z4 : zMn ≤ z := by rw [zMn_eq]; omega
    have z5 : z ≤ zMx := by rw [zMx_eq]; omega
    obtain ⟨e, N', q1, q2, q3⟩ := sFr_ok hG.1 (by rw [on]; exact z1) (by rw [o1]; exact z2) z4 z5 h
    have hG2 := Gs_st (Gs_ext hG q1) (show aSt (r ++ [z]) ((1, e) :: rest) (cI z :: ws) from ⟨vOk_i q2 z4 z5, aSt_mono hst⟩)
    cases cl with
    | nil => exact pR_t (har _ _ _ _ _ q3 (r ++ [z]) L _ hp hG2)
    | cons c cl => exact pR_t (har _ _ _ _ _ q3 (r ++ [z]) L _ hp (Gs_hs hG2 (hsOk_fc hG2.2.2.2.2.1 ⟨[x, z], ⟨sE_mono x1, q2, trivial⟩, hOP.2 x z hp x2 x3 z1 z2 z3⟩)))
noncomputable def sSgn (n : Nat) : Int := cond (Nat.blt n 2147483648) (Int.ofNat n) (Int.negSucc (Nat.sub 4294967295 n))
theorem sSgn_ok {n : Nat} (h : n < 4294967296) : zMn ≤ sSgn n ∧ sSgn n ≤ zMx ∧ eCi n = cI (sSgn n) := by
  unfold sSgn
  by_cases q : n < 2147483648
  · rw [bltT q, cond_true]
    have e : (Int.ofNat n : Int) = (n : Int) := rfl
    rw [zMn_eq, zMx_eq, e]
    exact ⟨by omega, by omega, cI_nat n h⟩
  · rw [show Nat.blt n 2147483648 = false from by rw [← Bool.not_eq_true]; exact fun z => q (eB_l z), cond_false]
    have e : (Int.negSucc (Nat.sub 4294967295 n) : Int) = (n : Int) - 4294967296 := by
      have : Nat.sub 4294967295 n = 4294967295 - n := rfl
      rw [this]
      omega
    rw [zMn_eq, zMx_eq, e]
    exact ⟨by omega, by omega, by rw [cI_nat n h]; exact cI_con (by omega)⟩
noncomputable def sSgw (n : Nat) : Int := cond (Nat.blt n 9223372036854775808) (Int.ofNat n) (Int.negSucc (Nat.sub 18446744073709551615 n))
theorem sSgw_ok {n : Nat} (h : n < 18446744073709551616) : wMn ≤ sSgw n ∧ sSgw n ≤ wMx ∧ Nat.add (Nat.mul 8 n) 4 = cL (sSgw n) := by
  unfold sSgw
  by_cases q : n < 9223372036854775808
  · rw [bltT q, cond_true]
    have e : (Int.ofNat n : Int) = (n : Int) := rfl
    rw [wMn_eq, wMx_eq, e]
    refine ⟨by omega, by omega, ?_⟩
    show 8 * n + 4 = 8 * Int.toNat ((n : Int) % 18446744073709551616) + 4
    omega
  · rw [show Nat.blt n 9223372036854775808 = false from by rw [← Bool.not_eq_true]; exact fun z => q (eB_l z), cond_false]
    have e : (Int.negSucc (Nat.sub 18446744073709551615 n) : Int) = (n : Int) - 18446744073709551616 := by
      have : Nat.sub 18446744073709551615 n = 18446744073709551615 - n := rfl
      rw [this]
      omega
    rw [wMn_eq, wMx_eq, e]
    refine ⟨by omega, by omega, ?_⟩
    show 8 * n + 4 = 8 * Int.toNat (((n : Int) - 18446744073709551616) % 18446744073709551616) + 4
    omega
noncomputable def aConst (l : List (Nat × Nat)) (own idx len : Nat) : aH := fun ar pc N lo st hs => eF (eLook l (Nat.add (Nat.mul 65536 own) idx)) (fun v => cond (Nat.beq (eTg v) 1) (cond (Nat.blt (ePl v) 4294967296) (zF (sSgn (ePl v)) (fun z => ar (Nat.add pc len) N lo ((1, z, []) :: st) hs)) false) (cond (Nat.beq (eTg v) 4) (cond (Nat.blt (ePl v) 18446744073709551616) (zF (sSgw (ePl v)) (fun z => ar (Nat.add pc len) N lo ((5, z, []) :: st) hs)) false) false))
theorem i_const (har : (∀ pc N lo st hs, ar pc N lo st hs = true → ∀ r L stc hp, Gs FS rc mu M md hp0 r N lo st hs L stc hp → P d mi k pc L stc (hp, hn, env, nc, ns))) (hG : Gs FS rc mu M md hp0 r N lo st hs L stc hp) {l : List (Nat × Nat)} {own idx len : Nat} (h : aConst l own idx len ar pc N lo st hs = true) : hConst l own idx len (pR P d mi k) (pC P d) k pc L stc (hp, hn, env, nc, ns) = true := by
  unfold aConst at h
  rw [eF_eq] at h
  unfold hConst
  generalize eLook l (Nat.add (Nat.mul 65536 own) idx) = v at h ⊢
  have push : ∀ u : sVl, vOk r u v → ar (Nat.add pc len) N lo (u :: st) hs = true → pR P d mi k (Nat.add pc len) L (v :: stc) (hp, hn, env, nc, ns) = true := fun u hu hk => pR_t (har _ _ _ _ _ hk r L _ hp (Gs_st hG ⟨hu, hG.2.2.1⟩))
  have key : ¬ v = 0 ∧ pR P d mi k (Nat.add pc len) L (v :: stc) (hp, hn, env, nc, ns) = true := by
    rcases sCh h with ⟨h1, h⟩ | ⟨-, h⟩
    · obtain ⟨h2, h⟩ := eC_t h
      rw [zF_eq] at h
      have h1 := Nat.eq_of_beq_eq_true h1
      obtain ⟨s1, s2, s3⟩ := sSgn_ok (eB_l h2)
      have e : v = eCi (ePl v) := by
        show v = 8 * ePl v + 1
        have := eVal v
        omega
      refine ⟨fun z => (by rw [z] at h1; cases h1), push _ ?_ h⟩
      have q := vOk_i (sE_k r (sSgn (ePl v))) s1 s2
      rw [← s3, ← e] at q
      exact q
    · obtain ⟨h1, h⟩ := eC_t h
      obtain ⟨h2, h⟩ := eC_t h
      have h1 := Nat.eq_of_beq_eq_true h1
      rw [zF_eq] at h
      have e : v = Nat.add (Nat.mul 8 (ePl v)) 4 := by
        show v = 8 * ePl v + 4
        have := eVal v
        omega
      refine ⟨fun z => (by rw [z] at h1; cases h1), push _ ?_ h⟩
      obtain ⟨s1, s2, s3⟩ := sSgw_ok (eB_l h2)
      have q := vOk_w (sE_k r (sSgw (ePl v))) s1 s2
      rw [← s3, ← e] at q
      exact q
  cases v with
  | zero => exact absurd rfl key.1
  | succ v => exact key.2
/-- words of what lies on the stack -/
noncomputable def sSm (st : List sVl) : Nat → Bool := @List.rec sVl (fun _ => Nat → Bool) (fun _ => true) (fun v _ ih n => cond (cond (sNl v) true (Nat.beq v.1 6)) (@Nat.rec (fun _ => Bool) false (fun n _ => ih n) n) (@Nat.rec (fun _ => Bool) false (fun n _ => @Nat.rec (fun _ => Bool) false (fun n _ => ih n) n) n)) st
theorem sSm_ok {r : List Int} : ∀ {st : List sVl} {ws : List Nat} {n : Nat}, aSt r st ws → sSm st n = true → eSum ws ≤ n := by
  intro st
  induction st with
  | nil =>
    intro ws n h _
    rw [aSt_n h]
    exact Nat.zero_le _
  | cons v st ih =>
    intro ws n h hs
    obtain ⟨w, xs, rfl, hw, hx⟩ := aSt_c h
    have e : eSum (w :: xs) = eCat w + eSum xs := rfl
    rw [e]
    rcases sCh (show cond (cond (sNl v) true (Nat.beq v.1 6)) (@Nat.rec (fun _ => Bool) false (fun n _ => sSm st n) n) (@Nat.rec (fun _ => Bool) false (fun n _ => @Nat.rec (fun _ => Bool) false (fun n _ => sSm st n) n) n) = true from hs) with ⟨h1, h2⟩ | ⟨-, h2⟩
    · have h4 : ¬ eTg w = 4 := by
        rcases sCh h1 with ⟨h3, -⟩ | ⟨-, h3⟩
        · exact sNl_ok hw h3
        · rcases hw.2.2.2.1 (Nat.eq_of_beq_eq_true h3) with rfl | rfl <;> decide
      have h5 : eCat w = 1 := eCat_1 (beqF h4)
      cases n with
      | zero => cases h2
      | succ n =>
        have := ih hx (show sSm st n = true from h2)
        omega
    · have h5 : eCat w ≤ 2 := by
        unfold eCat
        cases Nat.beq (eTg w) 4
        · exact Nat.le_succ 1
        · exact Nat.le_refl 2
      cases n with
      | zero => cases h2
      | succ n =>
        cases n with
        | zero => cases h2
        | succ n =>
          have := ih hx (show sSm st n = true from h2)
          omega
noncomputable def aMin : aH := fun ar pc N lo st hs => match st with
  | y :: x :: rest => cond (tI x) (cond (tI y) (cond (sSm rest 8) (cond (sAsLe N (sAdk y.2 (Int.ofNat 1)) x.2 (fun N => ar (Nat.add pc 3) N lo (y :: rest) hs)) (sAsLe N x.2 y.2 (fun N => ar (Nat.add pc 3) N lo (x :: rest) hs)) false) false) false) false
  | _ => false
theorem i_min (har : (∀ pc N lo st hs, ar pc N lo st hs = true → ∀ r L stc hp, Gs FS rc mu M md hp0 r N lo st hs L stc hp → P d mi k pc L stc (hp, hn, env, nc, ns))) (hG : Gs FS rc mu M md hp0 r N lo st hs L stc hp) (h : aMin ar pc N lo st hs = true) : hMin (pR P d mi k) (pC P d) k pc L stc (hp, hn, env, nc, ns) = true := by
  cases st with
  | nil => cases h
  | cons b st =>
    cases st with
    | nil => cases h
    | cons a rest =>
      obtain ⟨wb, ws1, rfl, hb, hst1⟩ := aSt_c hG.2.2.1
      obtain ⟨wa, ws, rfl, ha, hst⟩ := aSt_c hst1
      obtain ⟨h1, h⟩ := eC_t h
      obtain ⟨h2, h⟩ := eC_t h
      obtain ⟨h3, h⟩ := eC_t h
      obtain ⟨k1, k2⟩ := eC_t h
      obtain ⟨x, x1, x2, x3, rfl⟩ := vOk_I ha h1
      obtain ⟨y, y1, y2, y3, rfl⟩ := vOk_I hb h2
      have o1 : (Int.ofNat 1 : Int) = 1 := rfl
      show cond (cond (eIsI (cI x)) (cond (eIsI (cI y)) (Nat.ble (eSum ws) 8) false) false) (eLt env (cI y) (cI x) (fun env => pR P d mi k (Nat.add pc 3) L (cI y :: ws) (hp, hn, env, nc, ns)) (fun env => pR P d mi k (Nat.add pc 3) L (cI x :: ws) (hp, hn, env, nc, ns))) false = true
      rw [cI_isI, cI_isI, Nat.ble_eq_true_of_le (sSm_ok hst h3)]
      simp only [cond_true]
      refine eLt_cI y2 y3 x2 x3 (fun q => ?_) (fun q => ?_)
      · obtain ⟨N', n1, n2⟩ := sAsLe_ok hG.1 (sAdk_ok (c := Int.ofNat 1) y1) x1 (by omega) k1
        exact pR_t (har _ _ _ _ _ n2 r L _ hp (Gs_N (Gs_st hG (show aSt r (b :: rest) (cI y :: ws) from ⟨hb, hst⟩)) n1))
      · obtain ⟨N', n1, n2⟩ := sAsLe_ok hG.1 x1 y1 (by omega) k2
        exact pR_t (har _ _ _ _ _ n2 r L _ hp (Gs_N (Gs_st hG (show aSt r (a :: rest) (cI x :: ws) from ⟨ha, hst⟩)) n1))
/-- a switch -/
noncomputable def aSwC (k : Int → sNm → Bool) (N : sNm) (a : sLn) (offs : List Int) : Int → Bool := @List.rec Int (fun _ => Int → Bool) (fun _ => true) (fun o _ ih c => zF c (fun c => cond (sAsEq N a (c, []) (fun N => k o N)) (ih (Int.add c (Int.ofNat 1))) false)) offs
noncomputable def aSw (dd lw hg : Int) (offs : Array Int) : aH := fun ar pc N lo st hs => match st with
  | a :: rest => cond (tI a) (cond (decide (lw + (offs.toList.length : Int) = hg + 1 ∧ -2147483648 ≤ lw ∧ hg < 2147483647)) (cond (aSwC (fun o N => eTo pc o (fun t => ar t N lo rest hs)) N a.2 offs.toList lw) (cond (sAsLe N (sAdk a.2 (Int.ofNat 1)) (lw, []) (fun N => eTo pc dd (fun t => ar t N lo rest hs))) (sAsLe N (Int.add hg (Int.ofNat 1), []) a.2 (fun N => eTo pc dd (fun t => ar t N lo rest hs))) false) false) false) false
  | _ => false
theorem i_sw0 {K : Int → evEnv → Bool} {kk : Int → sNm → Bool} {pc : Nat} {dd c0 : Int} {a : sLn} {x : Int} (hN : sNOk tSg r N) (ha : sE r a = some x) (h1 : zMn ≤ x) (h2 : x ≤ zMx) {rest : List Nat} (hK : ∀ o N', sNOk tSg r N' → kk o N' = true → eTo pc o (fun t => pR P d mi k t L rest (hp, hn, env, nc, ns)) = true)
    : ∀ (offs : List Int) (c : Int), c0 ≤ c → (c0 ≤ x → c ≤ x) → zMn ≤ c → c + offs.length ≤ zMx → (x < c0 ∨ c + offs.length ≤ x → eTo pc dd (fun t => pR P d mi k t L rest (hp, hn, env, nc, ns)) = true) → aSwC kk N a offs c = true → eSw (pR P d mi k) pc (cI x) dd L rest (hp, hn, env, nc, ns) offs (Int.toNat (c + 2147483648)) env = true := by
  intro offs
  induction offs with
  | nil =>
    intro c hc hx hl hh hd h
    refine hd ?_
    show x < c0 ∨ c + ((0 : Nat) : Int) ≤ x
    by_cases q : c0 ≤ x
    · have := hx q
      right; omega
    · left; omega
  | cons o offs ih =>
    intro c hc hx hl hh hd h
    have h : zF c (fun c => cond (sAsEq N a (c, []) (fun N => kk o N)) (aSwC kk N a offs (Int.add c (Int.ofNat 1))) false) = true := h
    rw [zF_eq] at h
    obtain ⟨h3, h4⟩ := eC_t h
    have hl2 : ((o :: offs).length : Int) = (offs.length : Int) + 1 := by simp
    rw [hl2] at hh hd
    show eEqc env (cI x) (Int.toNat (c + 2147483648)) (fun env => eTo pc o (fun t => pR P d mi k t L rest (hp, hn, env, nc, ns))) (fun env => eSw (pR P d mi k) pc (cI x) dd L rest (hp, hn, env, nc, ns) offs (Nat.add (Int.toNat (c + 2147483648)) 1) env) = true
    refine eEqc_cI h1 h2 hl (by rw [zMx_eq] at hh ⊢; omega) (fun q => ?_) (fun q => ?_)
    · obtain ⟨N', n1, n2⟩ := sAsEq_ok hN ha (by rw [q]; exact sE_k r c) h3
      exact hK o N' n1 n2
    · have e : Nat.add (Int.toNat (c + 2147483648)) 1 = Int.toNat (c + 1 + 2147483648) := by
        rw [zMn_eq] at hl
        show Int.toNat (c + 2147483648) + 1 = _
        omega
      rw [e]
      refine ih (c + 1) (by omega) (fun z => by have := hx z; omega) (by omega) (by omega) (fun z => hd ?_) h4
      rcases z with z | z
      · exact Or.inl z
      · right; omega
theorem i_sw (har : (∀ pc N lo st hs, ar pc N lo st hs = true → ∀ r L stc hp, Gs FS rc mu M md hp0 r N lo st hs L stc hp → P d mi k pc L stc (hp, hn, env, nc, ns))) (hG : Gs FS rc mu M md hp0 r N lo st hs L stc hp) {dd lw hg : Int} {offs : Array Int} (h : aSw dd lw hg offs ar pc N lo st hs = true) : hSw dd lw hg offs (pR P d mi k) (pC P d) k pc L stc (hp, hn, env, nc, ns) = true := by
  cases st with
  | nil => cases h
  | cons a rest =>
    obtain ⟨w, ws, rfl, hw, hst⟩ := aSt_c hG.2.2.1
    obtain ⟨h1, h⟩ := eC_t h
    obtain ⟨h2, h⟩ := eC_t h
    obtain ⟨h3, h⟩ := eC_t h
    obtain ⟨k1, k2⟩ := eC_t h
    obtain ⟨x, x1, x2, x3, rfl⟩ := vOk_I hw h1
    obtain ⟨d1, d2, d3⟩ := of_decide_eq_true h2
    have o1 : (Int.ofNat 1 : Int) = 1 := rfl
    have hK : ∀ o N', sNOk tSg r N' → eTo pc o (fun t => ar t N' lo rest hs) = true → eTo pc o (fun t => pR P d mi k t L ws (hp, hn, env, nc, ns)) = true := fun o N' n1 n2 => eTo_t n2 (fun t ht => pR_t (har _ _ _ _ _ ht r L _ hp (Gs_N (Gs_st hG hst) n1)))
    show cond (eIsI (cI x)) (cond (decide (lw + (offs.toList.length : Int) = hg + 1 ∧ -2147483648 ≤ lw ∧ hg < 2147483647)) (eSw (pR P d mi k) pc (cI x) dd L ws (hp, hn, env, nc, ns) offs.toList (Int.toNat (lw + 2147483648)) env) false) false = true
    rw [cI_isI, h2]
    refine i_sw0 (K := fun _ _ => true) (c0 := lw) hG.1 x1 x2 x3 hK offs.toList lw (Int.le_refl _) (fun z => z) (by rw [zMn_eq]; exact d2) (by rw [zMx_eq]; omega) (fun z => ?_) h3
    rcases z with z | z
    · obtain ⟨N', n1, n2⟩ := sAsLe_ok hG.1 (sAdk_ok (c := Int.ofNat 1) x1) (sE_k r lw) (by omega) k1
      exact hK dd N' n1 n2
    · obtain ⟨N', n1, n2⟩ := sAsLe_ok hG.1 (sE_k r (Int.add hg (Int.ofNat 1))) x1 (by show hg + 1 ≤ x; omega) k2
      exact hK dd N' n1 n2
end CkStep3
