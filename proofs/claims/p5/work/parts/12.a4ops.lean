section CkOps
theorem sNil (r : List Int) : r ++ [] = r := List.append_nil r
/-- an operation on ints, and what is known of it -/
abbrev sOp : Type := sNm → sLn → sLn → (sLn → sNm → Bool) → Bool
def aOpOk (F : sOp) (f : evEnv → Nat → Nat → (Nat → evEnv → Bool) → Bool) : Prop :=
  ∀ (r : List Int) (N : sNm) (a b : sLn) (x y : Int) (k : sLn → sNm → Bool), sNOk tSg r N → sE r a = some x → sE r b = some y → zMn ≤ x → x ≤ zMx → zMn ≤ y → y ≤ zMx → F N a b k = true →
    ∃ (t : List Int) (e : sLn) (N' : sNm) (z : Int), sNOk tSg (r ++ t) N' ∧ sE (r ++ t) e = some z ∧ zMn ≤ z ∧ z ≤ zMx ∧ k e N' = true ∧ ∀ env K, f env (cI x) (cI y) K = K (cI z) env
/-- any int -/
noncomputable def sAny (N : sNm) (k : sLn → sNm → Bool) : Bool := sFr N zMn zMx k
theorem sAny_ok {r : List Int} {N : sNm} (hN : sNOk tSg r N) {z : Int} (h1 : zMn ≤ z) (h2 : z ≤ zMx) {k : sLn → sNm → Bool} (h : sAny N k = true) : ∃ (t : List Int) (e : sLn) (N' : sNm), sNOk tSg (r ++ t) N' ∧ sE (r ++ t) e = some z ∧ k e N' = true := by
  obtain ⟨e, N', a, b, c⟩ := sFr_ok hN h1 h2 h1 h2 h
  exact ⟨[z], e, N', a, b, c⟩
noncomputable def sFit (N : sNm) (e : sLn) (k : sLn → sNm → Bool) : Bool := sFl e (fun e => cond (sIn N e zMn zMx) (k e N) (sAny N k))
theorem sFit_ok {r : List Int} {N : sNm} (hN : sNOk tSg r N) {e : sLn} {x : Int} (he : sE r e = some x) {k : sLn → sNm → Bool} (h : sFit N e k = true) :
    ∃ (t : List Int) (e' : sLn) (N' : sNm) (z : Int), sNOk tSg (r ++ t) N' ∧ sE (r ++ t) e' = some z ∧ zMn ≤ z ∧ z ≤ zMx ∧ k e' N' = true ∧ cI x = cI z := by
  unfold sFit at h
  rw [sFl_eq] at h
  rcases sCh h with ⟨h1, h⟩ | ⟨-, h⟩
  · obtain ⟨a, b⟩ := sIn_ok hN he h1
    exact ⟨[], e, N, x, by rw [sNil]; exact hN, by rw [sNil]; exact he, a, b, h, rfl⟩
  · obtain ⟨z, a, b, c⟩ := cI_wrap x
    obtain ⟨t, e', N', q1, q2, q3⟩ := sAny_ok hN a b h
    exact ⟨t, e', N', z, q1, q2, a, b, q3, c⟩
theorem eBoth (x y : Int) : cond (Nat.beq (eTg (cI x)) 1) (Nat.beq (eTg (cI y)) 1) false = true := by rw [cI_tg, cI_tg]; rfl
theorem eAdd_cI (x y : Int) (env : evEnv) (K : Nat → evEnv → Bool) : eAdd env (cI x) (cI y) K = K (cI (x + y)) env := by
  unfold eAdd
  rw [eBoth]
  show K (eCi (eWrap (Nat.add (ePl (cI x)) (ePl (cI y))))) env = _
  congr 2
  rw [cI_pl, cI_pl]
  show (Int.toNat (x % 4294967296) + Int.toNat (y % 4294967296)) % 4294967296 = Int.toNat ((x + y) % 4294967296)
  omega
theorem eSub_cI (x y : Int) (env : evEnv) (K : Nat → evEnv → Bool) : eSub env (cI x) (cI y) K = K (cI (x - y)) env := by
  unfold eSub
  rw [eBoth]
  show K (eCi (eWrap (Nat.add (ePl (cI x)) (Nat.sub 4294967296 (ePl (cI y)))))) env = _
  congr 2
  rw [cI_pl, cI_pl]
  show (Int.toNat (x % 4294967296) + (4294967296 - Int.toNat (y % 4294967296))) % 4294967296 = Int.toNat ((x - y) % 4294967296)
  omega
theorem eMul_cI (x y : Int) (env : evEnv) (K : Nat → evEnv → Bool) : eMul env (cI x) (cI y) K = K (cI (x * y)) env := by
  unfold eMul
  rw [eBoth]
  show K (eCi (eWrap (Nat.mul (ePl (cI x)) (ePl (cI y))))) env = _
  congr 2
  rw [cI_pl, cI_pl]
  show (Int.toNat (x % 4294967296) * Int.toNat (y % 4294967296)) % 4294967296 = Int.toNat ((x * y) % 4294967296)
  rw [Int.mul_emod]
  have hx : 0 ≤ x % 4294967296 := by omega
  have hy : 0 ≤ y % 4294967296 := by omega
  obtain ⟨a, ha⟩ := Int.eq_ofNat_of_zero_le hx
  obtain ⟨b, hb⟩ := Int.eq_ofNat_of_zero_le hy
  rw [ha, hb]
  have e : ((a : Int) * (b : Int)) % 4294967296 = ((a * b % 4294967296 : Nat) : Int) := by
    rw [← Int.natCast_mul]
    exact (Int.natCast_emod (a * b) 4294967296).symm
  rw [e]
  rfl
noncomputable def aAdd : sOp := fun N a b k => sFit N (sAdd a b) k
theorem aAdd_ok : aOpOk aAdd eAdd := by
  intro r N a b x y k hN ha hb h1 h2 h3 h4 h
  obtain ⟨t, e, N', z, q1, q2, q3, q4, q5, q6⟩ := sFit_ok hN (sAdd_ok ha hb) h
  exact ⟨t, e, N', z, q1, q2, q3, q4, q5, fun env K => by rw [eAdd_cI, q6]⟩
noncomputable def aSub : sOp := fun N a b k => sFit N (sSub a b) k
theorem aSub_ok : aOpOk aSub eSub := by
  intro r N a b x y k hN ha hb h1 h2 h3 h4 h
  obtain ⟨t, e, N', z, q1, q2, q3, q4, q5, q6⟩ := sFit_ok hN (sSub_ok ha hb) h
  exact ⟨t, e, N', z, q1, q2, q3, q4, q5, fun env K => by rw [eSub_cI, q6]⟩
noncomputable def sIsK (e : sLn) : Bool := @List.rec (Int × Nat) (fun _ => Bool) true (fun _ _ _ => false) e.2
theorem sIsK_ok {e : sLn} (h : sIsK e = true) {r : List Int} {x : Int} (he : sE r e = some x) : x = e.1 := by
  obtain ⟨c, ts⟩ := e
  cases ts with
  | nil => rw [sE_k] at he; exact (Option.some.inj he).symm
  | cons q l => cases h
/-- an operation whose answer is some int -/
def eSome (f : evEnv → Nat → Nat → (Nat → evEnv → Bool) → Bool) : Prop := ∀ x y : Int, zMn ≤ x → x ≤ zMx → zMn ≤ y → y ≤ zMx → ∃ n : Nat, n < 4294967296 ∧ ∀ env K, f env (cI x) (cI y) K = K (eCi n) env
theorem some_ok {f : evEnv → Nat → Nat → (Nat → evEnv → Bool) → Bool} {r : List Int} {N : sNm} {x y : Int} {k : sLn → sNm → Bool} (hN : sNOk tSg r N) {n : Nat} (hn : n < 4294967296) (hf : ∀ env K, f env (cI x) (cI y) K = K (eCi n) env) (h : sAny N k = true) :
    ∃ (t : List Int) (e : sLn) (N' : sNm) (z : Int), sNOk tSg (r ++ t) N' ∧ sE (r ++ t) e = some z ∧ zMn ≤ z ∧ z ≤ zMx ∧ k e N' = true ∧ ∀ env K, f env (cI x) (cI y) K = K (cI z) env := by
  obtain ⟨z, a, b, c⟩ := cI_wrap (n : Int)
  obtain ⟨t, e', N', q1, q2, q3⟩ := sAny_ok hN a b h
  exact ⟨t, e', N', z, q1, q2, a, b, q3, fun env K => by rw [hf, cI_nat n hn, c]⟩
/-- .. that lies within bounds -/
theorem bnd_ok {f : evEnv → Nat → Nat → (Nat → evEnv → Bool) → Bool} {r : List Int} {N : sNm} {x y : Int} {k : sLn → sNm → Bool} (hN : sNOk tSg r N) {n : Nat} (hn : n < 2147483648) (hf : ∀ env K, f env (cI x) (cI y) K = K (eCi n) env) {lo hi : Int} (h1 : lo ≤ (n : Int)) (h2 : (n : Int) ≤ hi) (h : sFr N lo hi k = true) :
    ∃ (t : List Int) (e : sLn) (N' : sNm) (z : Int), sNOk tSg (r ++ t) N' ∧ sE (r ++ t) e = some z ∧ zMn ≤ z ∧ z ≤ zMx ∧ k e N' = true ∧ ∀ env K, f env (cI x) (cI y) K = K (cI z) env := by
  have a : zMn ≤ (n : Int) := by rw [zMn_eq]; omega
  have b : (n : Int) ≤ zMx := by rw [zMx_eq]; omega
  obtain ⟨e', N', q1, q2, q3⟩ := sFr_ok hN h1 h2 a b h
  exact ⟨[(n : Int)], e', N', n, q1, q2, a, b, q3, fun env K => by rw [hf, cI_nat n (by omega)]⟩
noncomputable def aAny : sOp := fun N _ _ k => sAny N k
theorem aAny_ok {f : evEnv → Nat → Nat → (Nat → evEnv → Bool) → Bool} (hf : eSome f) : aOpOk aAny f := by
  intro r N a b x y k hN ha hb h1 h2 h3 h4 h
  obtain ⟨n, hn, hf⟩ := hf x y h1 h2 h3 h4
  exact some_ok hN hn hf h
theorem eOp_cI (f : Nat → Nat → Nat) (x y : Int) (env : evEnv) (K : Nat → evEnv → Bool) : eOp f env (cI x) (cI y) K = K (eCi (f (ePl (cI x)) (ePl (cI y)))) env := by
  unfold eOp
  rw [eBoth]
  rfl
theorem eSome_op {f : Nat → Nat → Nat} (hf : ∀ a b, a < 4294967296 → b < 4294967296 → f a b < 4294967296) : eSome (eOp f) := by
  intro x y _ _ _ _
  exact ⟨f (ePl (cI x)) (ePl (cI y)), hf _ _ (cI_lt x) (cI_lt y), fun env K => eOp_cI f x y env K⟩
theorem eSome_or : eSome (eOp fOr) := eSome_op fun a b ha hb => Nat.or_lt_two_pow (n := 32) ha hb
theorem eSome_xor : eSome (eOp fXor) := eSome_op fun a b ha hb => Nat.xor_lt_two_pow (n := 32) ha hb
theorem eSome_fI (f : Int32 → Int32 → Int32) : eSome (eOp (fI f)) := eSome_op fun a b ha hb => (fI_ok f a b ha hb).1
theorem eSome_shl : eSome eShl := by
  intro x y h1 h2 h3 h4
  cases h : cond (Nat.beq (eTg (cI x)) 1) (cond (Nat.beq (eTg (cI y)) 1) (Nat.blt (ePl (cI y)) 32) false) false
  · obtain ⟨n, hn, hf⟩ := eSome_fI (fun x y => x <<< (y &&& 31)) x y h1 h2 h3 h4
    exact ⟨n, hn, fun env K => by unfold eShl; rw [h]; exact hf env K⟩
  · exact ⟨eWrap (Nat.mul (ePl (cI x)) (Nat.pow 2 (ePl (cI y)))), Nat.mod_lt _ (by decide), fun env K => by unfold eShl; rw [h]; rfl⟩
theorem eSome_shr : eSome eShr := by
  intro x y h1 h2 h3 h4
  cases h0 : Nat.beq (cI x) 1
  · cases h : cond (Nat.beq (eTg (cI x)) 1) (cond (Nat.beq (eTg (cI y)) 1) (cond (Nat.blt (ePl (cI y)) 32) (Nat.blt (ePl (cI x)) 2147483648) false) false) false
    · obtain ⟨n, hn, hf⟩ := eSome_fI (fun x y => x >>> (y &&& 31)) x y h1 h2 h3 h4
      exact ⟨n, hn, fun env K => by unfold eShr; rw [h0, h]; exact hf env K⟩
    · exact ⟨Nat.div (ePl (cI x)) (Nat.pow 2 (ePl (cI y))), Nat.lt_of_le_of_lt (Nat.div_le_self _ _) (cI_lt x), fun env K => by unfold eShr; rw [h0, h]; rfl⟩
  · exact ⟨0, by decide, fun env K => by unfold eShr; rw [h0]; rfl⟩
theorem eSome_ush : eSome eUsh := by
  intro x y h1 h2 h3 h4
  cases h : cond (Nat.beq (eTg (cI x)) 1) (cond (Nat.beq (eTg (cI y)) 1) (Nat.blt (ePl (cI y)) 32) false) false
  · obtain ⟨n, hn, hf⟩ := eSome_fI (fun x y => (x.toUInt32 >>> (y.toUInt32 &&& Int32.toUInt32 31)).toInt32) x y h1 h2 h3 h4
    exact ⟨n, hn, fun env K => by unfold eUsh; rw [h]; exact hf env K⟩
  · exact ⟨Nat.div (ePl (cI x)) (Nat.pow 2 (ePl (cI y))), Nat.lt_of_le_of_lt (Nat.div_le_self _ _) (cI_lt x), fun env K => by unfold eUsh; rw [h]; rfl⟩
/-- a product: by a known number, of two that aren't below 0, or any -/
noncomputable def aMul : sOp := fun N a b k => cond (sIsK b) (sFit N (sMul b.1 a) k) (cond (sIsK a) (sFit N (sMul a.1 b) k) (sAny N k))
theorem aMul_ok : aOpOk aMul eMul := by
  intro r N a b x y k hN ha hb h1 h2 h3 h4 h
  rcases sCh h with ⟨h0, h⟩ | ⟨-, h⟩
  · obtain ⟨t, e, N', z, q1, q2, q3, q4, q5, q6⟩ := sFit_ok hN (sMul_ok (k := b.1) ha) h
    exact ⟨t, e, N', z, q1, q2, q3, q4, q5, fun env K => by rw [eMul_cI, sIsK_ok h0 hb, Int.mul_comm, q6]⟩
  · rcases sCh h with ⟨h0, h⟩ | ⟨-, h⟩
    · obtain ⟨t, e, N', z, q1, q2, q3, q4, q5, q6⟩ := sFit_ok hN (sMul_ok (k := a.1) hb) h
      exact ⟨t, e, N', z, q1, q2, q3, q4, q5, fun env K => by rw [eMul_cI, sIsK_ok h0 ha, q6]⟩
    · obtain ⟨z, c1, c2, c3⟩ := cI_wrap (x * y)
      obtain ⟨t, e', N', q1, q2, q3⟩ := sAny_ok hN c1 c2 h
      exact ⟨t, e', N', z, q1, q2, c1, c2, q3, fun env K => by rw [eMul_cI, c3]⟩
theorem eAnd_cI (x y : Int) (env : evEnv) (K : Nat → evEnv → Bool) : eAnd env (cI x) (cI y) K = K (eCi (Nat.land (ePl (cI x)) (ePl (cI y)))) env := by
  unfold eAnd
  rw [eBoth]
  rfl
/-- and: with a known number that isn't below 0, or any -/
noncomputable def aAnd : sOp := fun N a b k => cond (cond (sIsK b) (zPs b.1) false) (sFr N (Int.ofNat 0) b.1 k) (cond (cond (sIsK a) (zPs a.1) false) (sFr N (Int.ofNat 0) a.1 k) (sAny N k))
theorem aAnd_ok : aOpOk aAnd eAnd := by
  intro r N a b x y k hN ha hb h1 h2 h3 h4 h
  have hz : (Int.ofNat 0 : Int) = 0 := rfl
  rcases sCh h with ⟨h0, h⟩ | ⟨-, h⟩
  · obtain ⟨h0, h5⟩ := eC_t h0
    have e := sIsK_ok h0 hb
    have h5 := zPs_iff.mp h5
    rw [← e] at h5 h
    have hl : Nat.land (ePl (cI x)) (ePl (cI y)) ≤ ePl (cI y) := Nat.and_le_right
    rw [zMx_eq] at h4
    have hp : ePl (cI y) = y.toNat := by rw [cI_pl]; omega
    exact bnd_ok hN (n := Nat.land (ePl (cI x)) (ePl (cI y))) (by omega) (fun env K => eAnd_cI x y env K) (by rw [hz]; omega) (by omega) h
  · rcases sCh h with ⟨h0, h⟩ | ⟨-, h⟩
    · obtain ⟨h0, h5⟩ := eC_t h0
      have e := sIsK_ok h0 ha
      have h5 := zPs_iff.mp h5
      rw [← e] at h5 h
      have hl : Nat.land (ePl (cI x)) (ePl (cI y)) ≤ ePl (cI x) := Nat.and_le_left
      rw [zMx_eq] at h2
      have hp : ePl (cI x) = x.toNat := by rw [cI_pl]; omega
      exact bnd_ok hN (n := Nat.land (ePl (cI x)) (ePl (cI y))) (by omega) (fun env K => eAnd_cI x y env K) (by rw [hz]; omega) (by omega) h
    · exact some_ok hN (n := Nat.land (ePl (cI x)) (ePl (cI y))) (Nat.and_lt_two_pow (n := 32) _ (cI_lt y)) (fun env K => eAnd_cI x y env K) h
/-- a shift to the right, without sign: by a known number, or any -/
noncomputable def aUsh : sOp := fun N _ b k => cond (cond (sIsK b) (cond (zLe (Int.ofNat 1) b.1) (zLe b.1 (Int.ofNat 31)) false) false) (sFr N (Int.ofNat 0) (Int.ofNat (Nat.sub (Nat.pow 2 (Nat.sub 32 (Int.toNat b.1))) 1)) k) (sAny N k)
theorem aUsh_ok : aOpOk aUsh eUsh := by
  intro r N a b x y k hN ha hb h1 h2 h3 h4 h
  have hz : (Int.ofNat 0 : Int) = 0 := rfl
  rcases sCh h with ⟨h0, h⟩ | ⟨-, h⟩
  · obtain ⟨h0, h5⟩ := eC_t h0
    obtain ⟨h5, h6⟩ := eC_t h5
    have e := sIsK_ok h0 hb
    have h5 := zLe_iff.mp h5
    have h6 := zLe_iff.mp h6
    rw [← e] at h5 h6 h
    have o1 : (Int.ofNat 1 : Int) = 1 := rfl
    have o31 : (Int.ofNat 31 : Int) = 31 := rfl
    have hp : ePl (cI y) = y.toNat := by rw [cI_pl]; omega
    have hx := cI_lt x
    obtain ⟨c, hc⟩ : ∃ c : Nat, y.toNat = c + 1 := ⟨y.toNat - 1, by omega⟩
    have hc31 : c < 31 := by omega
    have hdiv : ePl (cI x) / 2 ^ (c + 1) < 2 ^ (32 - (c + 1)) := by
      apply Nat.div_lt_of_lt_mul
      rw [← Nat.pow_add, show c + 1 + (32 - (c + 1)) = 32 from by omega]
      exact hx
    have hpw : 2 ^ (32 - (c + 1)) ≤ 2 ^ 31 := Nat.pow_le_pow_right (by decide) (by omega)
    refine bnd_ok hN (n := ePl (cI x) / 2 ^ (c + 1)) (by omega) (fun env K => ?_) (by rw [hz]; exact Int.natCast_nonneg _) ?_ h
    · unfold eUsh
      have hb32 : Nat.blt (ePl (cI y)) 32 = true := Nat.ble_eq_true_of_le (by rw [hp]; show y.toNat + 1 ≤ 32; omega)
      rw [cI_tg, cI_tg, hb32]
      show K (eCi (ePl (cI x) / 2 ^ (ePl (cI y)))) env = _
      rw [hp, hc]
    · rw [hc]
      show ((ePl (cI x) / 2 ^ (c + 1) : Nat) : Int) ≤ ((2 ^ (32 - (c + 1)) - 1 : Nat) : Int)
      omega
  · obtain ⟨n, hn, hf⟩ := eSome_ush x y h1 h2 h3 h4
    exact some_ok hN hn hf h
end CkOps
