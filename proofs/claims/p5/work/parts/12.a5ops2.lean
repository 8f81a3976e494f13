section CkOps2
noncomputable def zDv (a b : Int) : Int := Int.ofNat (Nat.div (Int.toNat a) (Int.toNat b))
theorem ePos_cI (f f2 : Nat → Nat → Nat) {x y : Int} (h2 : x ≤ zMx) (h3 : 1 ≤ y) (h4 : y ≤ zMx) (h5 : 0 ≤ x) (env : evEnv) (K : Nat → evEnv → Bool) : ePos f f2 env (cI x) (cI y) K = K (eCi (f x.toNat y.toNat)) env := by
  rw [zMx_eq] at h2 h4
  have px : ePl (cI x) = x.toNat := by rw [cI_pl]; omega
  have py : ePl (cI y) = y.toNat := by rw [cI_pl]; omega
  unfold ePos
  rw [cI_tg, cI_tg, px, py]
  have a1 : Nat.blt 0 y.toNat = true := Nat.ble_eq_true_of_le (by omega)
  have a2 : Nat.blt x.toNat 2147483648 = true := Nat.ble_eq_true_of_le (by omega)
  have a3 : Nat.blt y.toNat 2147483648 = true := Nat.ble_eq_true_of_le (by omega)
  rw [a1, a2, a3]
  rfl
theorem eSome_pos {f : Nat → Nat → Nat} {g : Int32 → Int32 → Int32} {x y : Int} (h1 : zMn ≤ x) (h2 : x ≤ zMx) (h3 : 1 ≤ y) (h4 : y ≤ zMx) (hf : ∀ a b : Nat, a < 4294967296 → 0 < b → f a b < 4294967296) : ∃ n : Nat, n < 4294967296 ∧ ∀ env K, ePos f (fI g) env (cI x) (cI y) K = K (eCi n) env := by
  rw [zMx_eq] at h2 h4
  have py : ePl (cI y) = y.toNat := by rw [cI_pl]; omega
  have a1 : Nat.blt 0 (ePl (cI y)) = true := Nat.ble_eq_true_of_le (by rw [py]; omega)
  cases h : cond (Nat.blt (ePl (cI x)) 2147483648) (Nat.blt (ePl (cI y)) 2147483648) false
  · exact ⟨_, (fI_ok g _ _ (cI_lt x) (cI_lt y)).1, fun env K => by unfold ePos; rw [cI_tg, cI_tg, a1, h]; rfl⟩
  · exact ⟨f (ePl (cI x)) (ePl (cI y)), hf _ _ (cI_lt x) (by rw [py]; omega), fun env K => by unfold ePos; rw [cI_tg, cI_tg, a1, h]; rfl⟩
noncomputable def aDiv : sOp := fun N a b k => cond (zLe (Int.ofNat 1) (sLo N b)) (cond (zPs (sLo N a)) (sFr N (zDv (sLo N a) (sHi N b)) (zDv (sHi N a) (sLo N b)) k) (sAny N k)) false
theorem aDiv_ok : aOpOk aDiv (ePos fDiv (fI (fun x y => x / y))) := by
  intro r N a b x y k hN ha hb h1 h2 h3 h4 h
  obtain ⟨h0, h⟩ := eC_t h
  have h0 := zLe_iff.mp h0
  have o1 : (Int.ofNat 1 : Int) = 1 := rfl
  have hy1 : 1 ≤ y := Int.le_trans h0 (sLo_ok hN hb)
  have b1 := sLo_ok hN ha
  have b2 := sHi_ok hN ha
  have b3 := sLo_ok hN hb
  have b4 := sHi_ok hN hb
  rcases sCh h with ⟨h5, h⟩ | ⟨-, h⟩
  · have h5 := zPs_iff.mp h5
    have hx0 : 0 ≤ x := by omega
    have hq : x.toNat / y.toNat ≤ x.toNat := Nat.div_le_self _ _
    rw [zMx_eq] at h2
    refine bnd_ok hN (n := fDiv x.toNat y.toNat) (by show x.toNat / y.toNat < _; omega) (fun env K => ePos_cI fDiv _ (by rw [zMx_eq]; exact h2) hy1 h4 hx0 env K) ?_ ?_ h
    · show ((Int.toNat (sLo N a) / Int.toNat (sHi N b) : Nat) : Int) ≤ ((x.toNat / y.toNat : Nat) : Int)
      exact Int.ofNat_le.mpr (Nat.div_le_div (by omega) (by omega) (by omega))
    · show ((x.toNat / y.toNat : Nat) : Int) ≤ ((Int.toNat (sHi N a) / Int.toNat (sLo N b) : Nat) : Int)
      exact Int.ofNat_le.mpr (Nat.div_le_div (by omega) (by omega) (by omega))
  · obtain ⟨n, hn, hf⟩ := eSome_pos (f := fDiv) (g := fun x y => x / y) h1 h2 hy1 h4 (fun a b ha _ => Nat.lt_of_le_of_lt (Nat.div_le_self _ _) ha)
    exact some_ok hN hn hf h
noncomputable def aRem : sOp := fun N a b k => cond (zLe (Int.ofNat 1) (sLo N b)) (cond (zPs (sLo N a)) (sFr N (Int.ofNat 0) (zMin (sHi N a) (Int.add (sHi N b) (Int.negSucc 0))) (fun e N => cond (sIsK b) (k e N) (sAsLe N (sAdk e (Int.ofNat 1)) b (fun N => k e N)))) (sAny N k)) false
theorem aRem_ok : aOpOk aRem (ePos fRem (fI (fun x y => x - x / y * y))) := by
  intro r N a b x y k hN ha hb h1 h2 h3 h4 h
  obtain ⟨h0, h⟩ := eC_t h
  have h0 := zLe_iff.mp h0
  have o1 : (Int.ofNat 1 : Int) = 1 := rfl
  have hy1 : 1 ≤ y := Int.le_trans h0 (sLo_ok hN hb)
  have b1 := sLo_ok hN ha
  have b2 := sHi_ok hN ha
  have b4 := sHi_ok hN hb
  rcases sCh h with ⟨h5, h⟩ | ⟨-, h⟩
  · have h5 := zPs_iff.mp h5
    have hx0 : 0 ≤ x := by omega
    have hq : x.toNat % y.toNat ≤ x.toNat := Nat.mod_le _ _
    have hq2 : x.toNat % y.toNat < y.toNat := Nat.mod_lt _ (by omega)
    rw [zMx_eq] at h2
    have o0 : (Int.ofNat 0 : Int) = 0 := rfl
    obtain ⟨t, e, N', z, q1, q2, q3, q4, q5, q6⟩ := bnd_ok hN (n := fRem x.toNat y.toNat) (by show x.toNat % y.toNat < _; omega) (fun env K => ePos_cI fRem (fI (fun x y => x - x / y * y)) (by rw [zMx_eq]; exact h2) hy1 h4 hx0 env K) (by rw [o0]; omega) (by
      show ((x.toNat % y.toNat : Nat) : Int) ≤ zMin (sHi N a) (sHi N b + -1)
      rw [zMin_ok]
      omega) h
    rcases sCh q5 with ⟨-, q5⟩ | ⟨-, q5⟩
    · exact ⟨t, e, N', z, q1, q2, q3, q4, q5, q6⟩
    · have hz : z = ((x.toNat % y.toNat : Nat) : Int) := by
        have e1 := q6 [] (fun v _ => Nat.beq v (cI z))
        rw [ePos_cI fRem _ (by rw [zMx_eq]; exact h2) hy1 h4 hx0] at e1
        have e2 : Nat.beq (eCi (fRem x.toNat y.toNat)) (cI z) = true := by rw [e1]; exact Nat.beq_refl _
        have e3 := Nat.eq_of_beq_eq_true e2
        rw [cI_nat _ (by show x.toNat % y.toNat < _; omega)] at e3
        exact (cI_inj (by rw [zMn_eq]; show (-2147483648 : Int) ≤ ((x.toNat % y.toNat : Nat) : Int); omega) (by rw [zMx_eq]; show ((x.toNat % y.toNat : Nat) : Int) ≤ 2147483647; omega) q3 q4 e3).symm
      obtain ⟨N2, n1, n2⟩ := sAsLe_ok q1 (sAdk_ok (c := Int.ofNat 1) q2) (sE_mono hb) (by rw [o1, hz]; omega) q5
      exact ⟨t, e, N2, z, n1, q2, q3, q4, n2, q6⟩
  · obtain ⟨n, hn, hf⟩ := eSome_pos (f := fRem) (g := fun x y => x - x / y * y) h1 h2 hy1 h4 (fun a b ha hb => Nat.lt_of_le_of_lt (Nat.mod_le _ _) ha)
    exact some_ok hN hn hf h
/-- comparisons of known ints -/
theorem eLt_cI {x y : Int} (h1 : zMn ≤ x) (h2 : x ≤ zMx) (h3 : zMn ≤ y) (h4 : y ≤ zMx) {env : evEnv} {kt kf : evEnv → Bool} (ht : x < y → kt env = true) (hf : ¬ x < y → kf env = true) : eLt env (cI x) (cI y) kt kf = true := by
  unfold eLt
  rw [cI_iv env h1 h2, cI_iv env h3 h4]
  rw [zMn_eq] at h1 h3
  by_cases h : x < y
  · have e : Nat.blt (Int.toNat (x + 2147483648)) (Int.toNat (y + 2147483648)) = true := Nat.ble_eq_true_of_le (by omega)
    simp only [e, cond_true]
    exact ht h
  · have e : Nat.blt (Int.toNat (x + 2147483648)) (Int.toNat (y + 2147483648)) = false := by
      rw [← Bool.not_eq_true]
      intro q
      have := eB_l q
      omega
    have e2 : Nat.ble (Int.toNat (y + 2147483648)) (Int.toNat (x + 2147483648)) = true := Nat.ble_eq_true_of_le (by omega)
    simp only [e, e2, cond_true, cond_false]
    exact hf h
theorem eEqc_cI {x y : Int} (h1 : zMn ≤ x) (h2 : x ≤ zMx) (h3 : zMn ≤ y) (_ : y ≤ zMx) {env : evEnv} {kt kf : evEnv → Bool} (ht : x = y → kt env = true) (hf : ¬ x = y → kf env = true) : eEqc env (cI x) (Int.toNat (y + 2147483648)) kt kf = true := by
  unfold eEqc
  rw [cI_iv env h1 h2]
  rw [zMn_eq] at h1 h3
  have nb : ∀ {a b : Nat}, b ≤ a → Nat.blt a b = false := fun h => by
    rw [← Bool.not_eq_true]
    intro q
    have := eB_l q
    omega
  by_cases h : x = y
  · subst h
    simp only [nb (Nat.le_refl _), Nat.beq_refl, cond_true, cond_false]
    exact ht rfl
  · by_cases h5 : x < y
    · have e : Nat.blt (Int.toNat (x + 2147483648)) (Int.toNat (y + 2147483648)) = true := Nat.ble_eq_true_of_le (by omega)
      simp only [e, cond_true]
      exact hf h
    · have e2 : Nat.blt (Int.toNat (y + 2147483648)) (Int.toNat (x + 2147483648)) = true := Nat.ble_eq_true_of_le (by omega)
      simp only [nb (a := Int.toNat (x + 2147483648)) (b := Int.toNat (y + 2147483648)) (by omega), e2, cond_true, cond_false]
      exact hf h
theorem eEq_cI {x y : Int} (h1 : zMn ≤ x) (h2 : x ≤ zMx) (h3 : zMn ≤ y) (h4 : y ≤ zMx) {env : evEnv} {kt kf : evEnv → Bool} (ht : x = y → kt env = true) (hf : ¬ x = y → kf env = true) : eEq env (cI x) (cI y) kt kf = true := by
  unfold eEq
  rw [cI_iv env h3 h4]
  simp only [Nat.beq_refl, cond_true]
  exact eEqc_cI h1 h2 h3 h4 ht hf
theorem eCmp_cI {o : ClassFile.Cond} {x y : Int} (h1 : zMn ≤ x) (h2 : x ≤ zMx) (h3 : zMn ≤ y) (h4 : y ≤ zMx) {env : evEnv} {kt kf : evEnv → Bool} (ht : sHolds o x y → kt env = true) (hf : ¬ sHolds o x y → kf env = true) : eCmp o env (cI x) (cI y) kt kf = true := by
  cases o
  · exact eEq_cI h1 h2 h3 h4 ht hf
  · exact eEq_cI h1 h2 h3 h4 (fun q => hf (fun z => z q)) (fun q => ht q)
  · exact eLt_cI h1 h2 h3 h4 ht hf
  · exact eLt_cI h1 h2 h3 h4 (fun q => hf (fun z => by have z : y ≤ x := z; omega)) (fun q => ht (show y ≤ x by omega))
  · exact eLt_cI h3 h4 h1 h2 ht hf
  · exact eLt_cI h3 h4 h1 h2 (fun q => hf (fun z => by have z : x ≤ y := z; omega)) (fun q => ht (show x ≤ y by omega))
end CkOps2
