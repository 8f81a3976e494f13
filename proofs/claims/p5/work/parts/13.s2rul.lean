section CkRul2
theorem rl160 : ruOk fFS gR160 := by
  intro r hp hO hN hH
  obtain ⟨s0, s1, s2, s3, s4, s5, rfl⟩ := len6 (show r.length = 6 from hN.1)
  have hR := hN.2.1.1
  have hIv : ∀ q ∈ ([(1, .negSucc 2147483647, .ofNat 2147483647), (2, .negSucc 2147483647, .ofNat 2147483647), (3, .negSucc 2147483647, .ofNat 2147483647), (4, .negSucc 2147483647, .ofNat 2147483647), (5, .negSucc 2147483647, .ofNat 2147483647)] : sIv), ∃ x, ([s0, s1, s2, s3, s4, s5] : List Int)[q.1]? = some x ∧ q.2.1 ≤ x ∧ x ≤ q.2.2 := hN.2.1.2
  have hCs : ∀ c ∈ ([(.ofNat 0, [(.negSucc 0, 3), (.ofNat 1, 4)])] : List sLn), ∃ x, sE [s0, s1, s2, s3, s4, s5] c = some x ∧ x ≤ 0 := hN.2.2.1
  have c0 : ((0 : Int) + ((-1 : Int) * s3 + ((1 : Int) * s4 + 0))) ≤ 0 := csX (hCs _ (.head _)) rfl
  have hRf : ∀ q ∈ ([((43, .ofNat 176, []), (.ofNat 2, []), 31, .ofNat 0, [(.ofNat 1, 0)]), ((15, .ofNat 0, [(.ofNat 1, 0)]), (.ofNat 1, []), 1, .ofNat 0, [(.ofNat 1, 4)])] : List sRf), rfOk [s0, s1, s2, s3, s4, s5] hp q := hH.1
  have g0 : s0 = ((hC hp 176 2 : Nat) : Int) := rfR0 (hRf _ (.head _)) (sE_k _ _) (sE_k _ _) (sE_V rfl)
  have h1 : hI hp (hC hp 176 2) 1 = s4 := rfI0 (hRf _ (.tail _ (.head _))) (sEv (sE_V rfl) g0.symm) (sE_k _ _) (sE_V rfl)
  have hFc : ∀ q ∈ ([(94, [(.ofNat 0, [(.ofNat 1, 3)]), (.ofNat 0, [(.ofNat 1, 5)]), (.ofNat 0, [(.ofNat 1, 1)]), (.ofNat 0, [(.ofNat 1, 2)])]), (72, [(.ofNat 0, [(.ofNat 1, 4)]), (.ofNat 0, [(.ofNat 1, 5)])])] : List sFc), fcOk fFS [s0, s1, s2, s3, s4, s5] hp q := hH.2
  have f0 : ∀ i : Nat, i < 14 → (i : Int) < s3 → ¬ (hI hp (rr hp 2 6) i = s1 ∧ hI hp (rr hp 2 7) i = s2) := fcX (ys := [s3, s5, s1, s2]) (hFc _ (.head _)) ⟨sE_V rfl, sE_V rfl, sE_V rfl, sE_V rfl, trivial⟩
  have f1 : dF (XT hp) s5 (fun D => s4 = (dTr D).length ∧ ∀ i : Nat, i < 14 → (i : Int) < s4 → (dTr D)[i]? = some (hI hp (rr hp 2 6) i, hI hp (rr hp 2 7) i)) := fcX (ys := [s4, s5]) (hFc _ (.tail _ (.head _))) ⟨sE_V rfl, sE_V rfl, trivial⟩
  exact poX (.head _) rfl hR (all_nil) (all_nil) (all_cons ⟨[s5, s1, s2, 0], ⟨sE_V rfl, sE_V rfl, sE_V rfl, sE_k _ _, trivial⟩, (show dF (XT hp) s5 (fun D => bP (0 : Int) ((s1, s2) ∈ dTr D)) from dF_mp (dF_I (XT_ok hO) f1) (fun D h => bP_i0 (lst_no h.2 f0 (by omega) (by have h1 := h.1.1.2.2.2.2.2.1; have h2 := h.2.1; omega)) rfl))⟩ (all_nil))
theorem rl161 : ruOk fFS gR161 := by
  intro r hp hO hN hH
  obtain ⟨s0, s1, s2, rfl⟩ := len3 (show r.length = 3 from hN.1)
  have hR := hN.2.1.1
  have hIv : ∀ q ∈ ([(0, .negSucc 2147483647, .ofNat 2147483647), (1, .negSucc 2147483647, .ofNat 2147483647), (2, .negSucc 2147483647, .ofNat 2147483647)] : sIv), ∃ x, ([s0, s1, s2] : List Int)[q.1]? = some x ∧ q.2.1 ≤ x ∧ x ≤ q.2.2 := hN.2.1.2
  have hFc : ∀ q ∈ ([(92, [(.ofNat 0, [(.ofNat 1, 2)]), (.ofNat 0, [(.ofNat 1, 0)]), (.ofNat 0, [(.ofNat 1, 1)]), (.ofNat 0, [])]), (93, [(.ofNat 0, [(.ofNat 1, 2)]), (.ofNat 0, [(.ofNat 1, 0)]), (.ofNat 0, [(.ofNat 1, 1)]), (.ofNat 0, [])])] : List sFc), fcOk fFS [s0, s1, s2] hp q := hH.2
  have f0 : dF (XT hp) s2 (fun D => bP (0 : Int) ((s0, s1) ∈ dWa D)) := fcX (ys := [s2, s0, s1, 0]) (hFc _ (.head _)) ⟨sE_V rfl, sE_V rfl, sE_V rfl, sE_k _ _, trivial⟩
  have f1 : dF (XT hp) s2 (fun D => bP (0 : Int) ((s0, s1) ∈ dTr D)) := fcX (ys := [s2, s0, s1, 0]) (hFc _ (.tail _ (.head _))) ⟨sE_V rfl, sE_V rfl, sE_V rfl, sE_k _ _, trivial⟩
  exact poX (.head _) rfl hR (all_nil) (all_nil) (all_cons ⟨[s2, s0, s1, 1], ⟨sE_V rfl, sE_V rfl, sE_V rfl, sE_k _ _, trivial⟩, (show dF (XT hp) s2 (fun D => bP (1 : Int) (fre D s0 s1)) from fr_1 (XT_ok hO) f0 f1 rfl rfl rfl)⟩ (all_nil))
theorem rl162 : ruOk fFS gR162 := by
  intro r hp hO hN hH
  obtain ⟨s0, s1, s2, rfl⟩ := len3 (show r.length = 3 from hN.1)
  have hR := hN.2.1.1
  have hIv : ∀ q ∈ ([(0, .negSucc 2147483647, .ofNat 2147483647), (1, .negSucc 2147483647, .ofNat 2147483647), (2, .negSucc 2147483647, .ofNat 2147483647)] : sIv), ∃ x, ([s0, s1, s2] : List Int)[q.1]? = some x ∧ q.2.1 ≤ x ∧ x ≤ q.2.2 := hN.2.1.2
  have hFc : ∀ q ∈ ([(92, [(.ofNat 0, [(.ofNat 1, 2)]), (.ofNat 0, [(.ofNat 1, 0)]), (.ofNat 0, [(.ofNat 1, 1)]), (.ofNat 1, [])])] : List sFc), fcOk fFS [s0, s1, s2] hp q := hH.2
  have f0 : dF (XT hp) s2 (fun D => bP (1 : Int) ((s0, s1) ∈ dWa D)) := fcX (ys := [s2, s0, s1, 1]) (hFc _ (.head _)) ⟨sE_V rfl, sE_V rfl, sE_V rfl, sE_k _ _, trivial⟩
  exact poX (.head _) rfl hR (all_nil) (all_nil) (all_cons ⟨[s2, s0, s1, 0], ⟨sE_V rfl, sE_V rfl, sE_V rfl, sE_k _ _, trivial⟩, (show dF (XT hp) s2 (fun D => bP (0 : Int) (fre D s0 s1)) from fr_0w f0 rfl rfl)⟩ (all_nil))
theorem rl163 : ruOk fFS gR163 := by
  intro r hp hO hN hH
  obtain ⟨s0, s1, s2, rfl⟩ := len3 (show r.length = 3 from hN.1)
  have hR := hN.2.1.1
  have hIv : ∀ q ∈ ([(0, .negSucc 2147483647, .ofNat 2147483647), (1, .negSucc 2147483647, .ofNat 2147483647), (2, .negSucc 2147483647, .ofNat 2147483647)] : sIv), ∃ x, ([s0, s1, s2] : List Int)[q.1]? = some x ∧ q.2.1 ≤ x ∧ x ≤ q.2.2 := hN.2.1.2
  have hFc : ∀ q ∈ ([(93, [(.ofNat 0, [(.ofNat 1, 2)]), (.ofNat 0, [(.ofNat 1, 0)]), (.ofNat 0, [(.ofNat 1, 1)]), (.ofNat 1, [])])] : List sFc), fcOk fFS [s0, s1, s2] hp q := hH.2
  have f0 : dF (XT hp) s2 (fun D => bP (1 : Int) ((s0, s1) ∈ dTr D)) := fcX (ys := [s2, s0, s1, 1]) (hFc _ (.head _)) ⟨sE_V rfl, sE_V rfl, sE_V rfl, sE_k _ _, trivial⟩
  exact poX (.head _) rfl hR (all_nil) (all_nil) (all_cons ⟨[s2, s0, s1, 0], ⟨sE_V rfl, sE_V rfl, sE_V rfl, sE_k _ _, trivial⟩, (show dF (XT hp) s2 (fun D => bP (0 : Int) (fre D s0 s1)) from fr_0t f0 rfl rfl)⟩ (all_nil))
theorem rl164 : ruOk fFS gR164 := by
  intro r hp hO hN hH
  obtain ⟨s0, s1, s2, s3, s4, s5, s6, s7, s8, s9, s10, s11, s12, rfl⟩ := len13 (show r.length = 13 from hN.1)
  have hR := hN.2.1.1
  have hIv : ∀ q ∈ ([(0, .negSucc 2147483647, .ofNat 2147483647), (1, .negSucc 2147483647, .ofNat 2147483647), (2, .negSucc 2147483647, .ofNat 2147483647), (3, .ofNat 22, .ofNat 22), (4, .negSucc 2147483647, .ofNat 2147483647), (5, .negSucc 2147483647, .ofNat 2147483647), (6, .negSucc 2147483647, .ofNat 2147483647), (7, .negSucc 2147483647, .ofNat 2147483647), (8, .negSucc 2147483647, .ofNat 2147483647), (9, .negSucc 2147483647, .ofNat 2147483647), (10, .ofNat 2, .ofNat 2), (11, .negSucc 2147483647, .ofNat 2147483647), (12, .negSucc 2147483647, .ofNat 2147483647)] : sIv), ∃ x, ([s0, s1, s2, s3, s4, s5, s6, s7, s8, s9, s10, s11, s12] : List Int)[q.1]? = some x ∧ q.2.1 ≤ x ∧ x ≤ q.2.2 := hN.2.1.2
  have b3 : (22 : Int) ≤ s3 ∧ s3 ≤ (22 : Int) := ivX (q := (3, .ofNat 22, .ofNat 22)) (y := s3) (hIv _ (.tail _ (.tail _ (.tail _ (.head _))))) rfl
  have b10 : (2 : Int) ≤ s10 ∧ s10 ≤ (2 : Int) := ivX (q := (10, .ofNat 2, .ofNat 2)) (y := s10) (hIv _ (.tail _ (.tail _ (.tail _ (.tail _ (.tail _ (.tail _ (.tail _ (.tail _ (.tail _ (.tail _ (.head _)))))))))))) rfl
  have hRf : ∀ q ∈ ([((40, .ofNat 173, []), (.ofNat 9, []), 1, .ofNat 0, [])] : List sRf), rfOk [s0, s1, s2, s3, s4, s5, s6, s7, s8, s9, s10, s11, s12] hp q := hH.1
  have h0 : hI hp 173 9 = 0 := rfI0 (hRf _ (.head _)) (sE_k _ _) (sE_k _ _) (sE_k _ _)
  have hFc : ∀ q ∈ ([(53, [(.ofNat 0, [(.ofNat 1, 2)]), (.ofNat 0, [(.ofNat 1, 3)]), (.ofNat 0, [(.ofNat 1, 4)]), (.ofNat 0, [(.ofNat 1, 5)]), (.ofNat 0, [(.ofNat 1, 0)]), (.ofNat 0, [(.ofNat 1, 6)]), (.ofNat 0, [(.ofNat 1, 7)]), (.ofNat 0, [(.ofNat 1, 8)]), (.ofNat 0, [(.ofNat 1, 9)]), (.ofNat 0, [(.ofNat 1, 10)]), (.ofNat 0, [(.ofNat 1, 11)]), (.ofNat 0, [(.ofNat 1, 12)]), (.ofNat 0, [(.ofNat 1, 1)])]), (79, [(.ofNat 0, [(.ofNat 1, 4)]), (.ofNat 0, [(.ofNat 1, 0)]), (.ofNat 0, [(.ofNat 1, 1)]), (.ofNat 0, [])]), (60, [(.ofNat 0, [(.ofNat 1, 2)])])] : List sFc), fcOk fFS [s0, s1, s2, s3, s4, s5, s6, s7, s8, s9, s10, s11, s12] hp q := hH.2
  have f0 : Hq (XT hp) s2 s3 s4 s5 s0 s6 s7 s8 s9 s10 s11 s12 s1 ∧ s10 ≠ 4 := fcX (ys := [s2, s3, s4, s5, s0, s6, s7, s8, s9, s10, s11, s12, s1]) (hFc _ (.head _)) ⟨sE_V rfl, sE_V rfl, sE_V rfl, sE_V rfl, sE_V rfl, sE_V rfl, sE_V rfl, sE_V rfl, sE_V rfl, sE_V rfl, sE_V rfl, sE_V rfl, sE_V rfl, trivial⟩
  have f1 : dF (XT hp) s4 (fun D => bP (0 : Int) (fre D s0 s1)) := fcX (ys := [s4, s0, s1, 0]) (hFc _ (.tail _ (.head _))) ⟨sE_V rfl, sE_V rfl, sE_V rfl, sE_k _ _, trivial⟩
  have f2 : NO (XT hp) s2 := fcX (ys := [s2]) (hFc _ (.tail _ (.tail _ (.head _)))) ⟨sE_V rfl, trivial⟩
  exact poX (.head _) rfl hR (all_nil) (all_nil) (all_cons ⟨[3, s11], ⟨sE_k _ _, sE_V rfl, trivial⟩, (show RS (XT hp) (3 : Int) s11 from hN22x (XT_ok hO) f0.1 (by omega) (by omega) f2 (d0' f1 rfl))⟩ (all_nil))
theorem rl165 : ruOk fFS gR165 := by
  intro r hp hO hN hH
  obtain ⟨s0, s1, s2, s3, s4, rfl⟩ := len5 (show r.length = 5 from hN.1)
  have hR := hN.2.1.1
  have hIv : ∀ q ∈ ([(1, .ofNat 0, .ofNat 9), (3, .negSucc 2147483647, .ofNat 2147483647), (4, .negSucc 2147483647, .ofNat 2147483647)] : sIv), ∃ x, ([s0, s1, s2, s3, s4] : List Int)[q.1]? = some x ∧ q.2.1 ≤ x ∧ x ≤ q.2.2 := hN.2.1.2
  have b0 : (0 : Int) ≤ s1 ∧ s1 ≤ (9 : Int) := ivX (q := (1, .ofNat 0, .ofNat 9)) (y := s1) (hIv _ (.head _)) rfl
  have hRf : ∀ q ∈ ([((43, .ofNat 176, []), (.ofNat 2, []), 31, .ofNat 0, [(.ofNat 1, 0)]), ((15, .ofNat 0, [(.ofNat 1, 0)]), (.ofNat 10, []), 37, .ofNat 0, [(.ofNat 1, 2)]), ((21, .ofNat 0, [(.ofNat 1, 2)]), (.ofNat 0, [(.ofNat 1, 1)]), 1, .ofNat 0, [(.ofNat 1, 3)])] : List sRf), rfOk [s0, s1, s2, s3, s4] hp q := hH.1
  have g0 : s0 = ((hC hp 176 2 : Nat) : Int) := rfR0 (hRf _ (.head _)) (sE_k _ _) (sE_k _ _) (sE_V rfl)
  have g1 : s2 = ((rr hp 2 10 : Nat) : Int) := rfR0 (hRf _ (.tail _ (.head _))) (sEv (sE_V rfl) g0.symm) (sE_k _ _) (sE_V rfl)
  obtain ⟨i2, e2, l2, h2⟩ := rfI (xv := s3) (iv := s1) (hRf _ (.tail _ (.tail _ (.head _)))) (sEv (sE_V rfl) g1.symm) (sE_V rfl) (sE_V rfl)
  have l2 : i2 < 10 := l2
  have h2 : hI hp (rr hp 2 10) i2 = s3 := h2
  have hFc : ∀ q ∈ ([(74, [(.ofNat 0, [(.ofNat 1, 4)])])] : List sFc), fcOk fFS [s0, s1, s2, s3, s4] hp q := hH.2
  have f0 : dF (XT hp) s4 (fun D => ∀ j : Nat, j < 10 → wR (hI hp (rr hp 2 10) j) D j) := fcX (ys := [s4]) (hFc _ (.head _)) ⟨sE_V rfl, trivial⟩
  exact poX (.head _) rfl hR (all_nil) (all_nil) (all_cons ⟨[s3, s1, s4], ⟨sE_V rfl, sE_V rfl, sE_V rfl, trivial⟩, (show dF (XT hp) s4 (fun D => wR s3 D s1) from dF_mp f0 (fun D h => by have u := h i2 (by omega); rw [h2, ← e2] at u; exact u))⟩ (all_cons ⟨[s1, s4], ⟨sE_V rfl, sE_V rfl, trivial⟩, (show dF (XT hp) s4 (fun D => ∀ j : Nat, j < 10 → (j : Int) < s1 → wR (hI hp (rr hp 2 10) j) D j) from dF_mp f0 (fun D h j hj _ => h j hj))⟩ (all_cons ⟨[(s1 + 1), s4], ⟨sEv (y' := ((1 : Int) + ((1 : Int) * s1 + 0))) rfl (by omega), sE_V rfl, trivial⟩, (show dF (XT hp) s4 (fun D => ∀ j : Nat, j < 10 → (s1 + 1) ≤ (j : Int) → wR (hI hp (rr hp 2 10) j) D j) from dF_mp f0 (fun D h j hj _ => h j hj))⟩ (all_nil))))
theorem rl166 : ruOk fFS gR166 := by
  intro r hp hO hN hH
  obtain ⟨s0, s1, s2, s3, s4, s5, s6, s7, rfl⟩ := len8 (show r.length = 8 from hN.1)
  have hR := hN.2.1.1
  have hIv : ∀ q ∈ ([(1, .ofNat 0, .ofNat 9), (2, .ofNat 0, .ofNat 9), (4, .negSucc 2147483647, .ofNat 2147483647), (5, .negSucc 2147483647, .ofNat 2147483647), (6, .negSucc 2147483647, .ofNat 2147483647), (7, .negSucc 2147483647, .ofNat 2147483647)] : sIv), ∃ x, ([s0, s1, s2, s3, s4, s5, s6, s7] : List Int)[q.1]? = some x ∧ q.2.1 ≤ x ∧ x ≤ q.2.2 := hN.2.1.2
  have b0 : (0 : Int) ≤ s1 ∧ s1 ≤ (9 : Int) := ivX (q := (1, .ofNat 0, .ofNat 9)) (y := s1) (hIv _ (.head _)) rfl
  have b1 : (0 : Int) ≤ s2 ∧ s2 ≤ (9 : Int) := ivX (q := (2, .ofNat 0, .ofNat 9)) (y := s2) (hIv _ (.tail _ (.head _))) rfl
  have hRf : ∀ q ∈ ([((43, .ofNat 176, []), (.ofNat 2, []), 31, .ofNat 0, [(.ofNat 1, 0)]), ((15, .ofNat 0, [(.ofNat 1, 0)]), (.ofNat 10, []), 37, .ofNat 0, [(.ofNat 1, 3)]), ((21, .ofNat 0, [(.ofNat 1, 3)]), (.ofNat 0, [(.ofNat 1, 2)]), 1, .ofNat 0, [(.ofNat 1, 4)])] : List sRf), rfOk [s0, s1, s2, s3, s4, s5, s6, s7] hp q := hH.1
  have g0 : s0 = ((hC hp 176 2 : Nat) : Int) := rfR0 (hRf _ (.head _)) (sE_k _ _) (sE_k _ _) (sE_V rfl)
  have g1 : s3 = ((rr hp 2 10 : Nat) : Int) := rfR0 (hRf _ (.tail _ (.head _))) (sEv (sE_V rfl) g0.symm) (sE_k _ _) (sE_V rfl)
  obtain ⟨i2, e2, l2, h2⟩ := rfI (xv := s4) (iv := s2) (hRf _ (.tail _ (.tail _ (.head _)))) (sEv (sE_V rfl) g1.symm) (sE_V rfl) (sE_V rfl)
  have l2 : i2 < 10 := l2
  have h2 : hI hp (rr hp 2 10) i2 = s4 := h2
  have hFc : ∀ q ∈ ([(91, [(.ofNat 0, [(.ofNat 1, 5)]), (.ofNat 0, [(.ofNat 1, 2)]), (.ofNat 0, [(.ofNat 1, 6)])]), (98, [(.ofNat 0, [(.ofNat 1, 2)]), (.ofNat 0, [(.ofNat 1, 6)])]), (99, [(.ofNat 1, [(.ofNat 1, 2)]), (.ofNat 0, [(.ofNat 1, 6)])]), (85, [(.ofNat 1, []), (.ofNat 0, [(.ofNat 1, 1)]), (.ofNat 0, [(.ofNat 1, 7)])]), (86, [(.ofNat 0, [(.ofNat 1, 5)]), (.ofNat 0, [(.ofNat 1, 7)]), (.ofNat 0, [(.ofNat 1, 4)])])] : List sFc), fcOk fFS [s0, s1, s2, s3, s4, s5, s6, s7] hp q := hH.2
  have f0 : dF (XT hp) s6 (fun D => wR s5 D s2) := fcX (ys := [s5, s2, s6]) (hFc _ (.head _)) ⟨sE_V rfl, sE_V rfl, sE_V rfl, trivial⟩
  have f1 : dF (XT hp) s6 (fun D => ∀ j : Nat, j < 10 → (j : Int) < s2 → wR (hI hp (rr hp 2 10) j) D j) := fcX (ys := [s2, s6]) (hFc _ (.tail _ (.head _))) ⟨sE_V rfl, sE_V rfl, trivial⟩
  have f2 : dF (XT hp) s6 (fun D => ∀ j : Nat, j < 10 → (s2 + 1) ≤ (j : Int) → wR (hI hp (rr hp 2 10) j) D j) := fcX (ys := [(s2 + 1), s6]) (hFc _ (.tail _ (.tail _ (.head _)))) ⟨sEv (y' := ((1 : Int) + ((1 : Int) * s2 + 0))) rfl (by omega), sE_V rfl, trivial⟩
  have f3 : (1 : Int) = 1 → 0 ≤ s1 → s1 ≤ 13 → s7 = 2 ^ s1.toNat := fcX (ys := [1, s1, s7]) (hFc _ (.tail _ (.tail _ (.tail _ (.head _))))) ⟨sE_k _ _, sE_V rfl, sE_V rfl, trivial⟩
  have f4 : ∀ i : Nat, i < 14 → (bt s4 i ↔ (bt s5 i ∨ bt s7 i)) := fcX (ys := [s5, s7, s4]) (hFc _ (.tail _ (.tail _ (.tail _ (.tail _ (.head _)))))) ⟨sE_V rfl, sE_V rfl, sE_V rfl, trivial⟩
  exact poX (.head _) rfl hR (all_nil) (all_nil) (all_cons ⟨[s6, s1, s2], ⟨sE_V rfl, sE_V rfl, sE_V rfl, trivial⟩, (show dF (XT hp) s6 (fun D => ∀ j : Nat, j < 10 → ∀ i : Nat, i < 10 → (bt (hI hp (rr hp 2 10) j) i ↔ (((i : Int), (j : Int)) ∈ dWa D ∨ ((i : Int) = s1 ∧ (j : Int) = s2)))) from wlb_x hO f0 f1 f2 h2 f3 f4 e2 (by omega) (by omega) ⟨by omega, by omega⟩)⟩ (all_nil))
theorem rl167 : ruOk fFS gR167 := by
  intro r hp hO hN hH
  obtain ⟨s0, s1, s2, s3, s4, s5, s6, s7, s8, s9, s10, s11, s12, s13, s14, s15, s16, s17, s18, s19, s20, s21, s22, rfl⟩ := len23 (show r.length = 23 from hN.1)
  have hR := hN.2.1.1
  have hIv : ∀ q ∈ ([(0, .negSucc 2147483647, .ofNat 2147483647), (1, .negSucc 2147483647, .ofNat 2147483647), (2, .negSucc 2147483647, .ofNat 2147483647), (3, .ofNat 22, .ofNat 22), (4, .negSucc 2147483647, .ofNat 2147483647), (5, .negSucc 2147483647, .ofNat 2147483647), (6, .negSucc 2147483647, .ofNat 2147483647), (7, .negSucc 2147483647, .ofNat 2147483647), (8, .negSucc 2147483647, .ofNat 2147483647), (9, .negSucc 2147483647, .ofNat 2147483647), (10, .ofNat 2, .ofNat 2), (11, .negSucc 2147483647, .ofNat 2147483647), (12, .negSucc 2147483647, .ofNat 2147483647), (13, .negSucc 2147483647, .ofNat 2147483647), (14, .negSucc 2147483647, .ofNat 2147483647), (15, .negSucc 2147483647, .ofNat 2147483647), (16, .negSucc 2147483647, .ofNat 2147483647), (17, .negSucc 2147483647, .ofNat 2147483647), (18, .negSucc 2147483647, .ofNat 2147483647), (19, .negSucc 2147483647, .ofNat 2147483647), (20, .negSucc 2147483647, .ofNat 2147483647), (21, .negSucc 2147483647, .ofNat 2147483647), (22, .negSucc 2147483647, .ofNat 2147483647)] : sIv), ∃ x, ([s0, s1, s2, s3, s4, s5, s6, s7, s8, s9, s10, s11, s12, s13, s14, s15, s16, s17, s18, s19, s20, s21, s22] : List Int)[q.1]? = some x ∧ q.2.1 ≤ x ∧ x ≤ q.2.2 := hN.2.1.2
  have b3 : (22 : Int) ≤ s3 ∧ s3 ≤ (22 : Int) := ivX (q := (3, .ofNat 22, .ofNat 22)) (y := s3) (hIv _ (.tail _ (.tail _ (.tail _ (.head _))))) rfl
  have b10 : (2 : Int) ≤ s10 ∧ s10 ≤ (2 : Int) := ivX (q := (10, .ofNat 2, .ofNat 2)) (y := s10) (hIv _ (.tail _ (.tail _ (.tail _ (.tail _ (.tail _ (.tail _ (.tail _ (.tail _ (.tail _ (.tail _ (.head _)))))))))))) rfl
  have hRf : ∀ q ∈ ([((40, .ofNat 173, []), (.ofNat 9, []), 1, .ofNat 0, [])] : List sRf), rfOk [s0, s1, s2, s3, s4, s5, s6, s7, s8, s9, s10, s11, s12, s13, s14, s15, s16, s17, s18, s19, s20, s21, s22] hp q := hH.1
  have h0 : hI hp 173 9 = 0 := rfI0 (hRf _ (.head _)) (sE_k _ _) (sE_k _ _) (sE_k _ _)
  have hFc : ∀ q ∈ ([(53, [(.ofNat 0, [(.ofNat 1, 2)]), (.ofNat 0, [(.ofNat 1, 3)]), (.ofNat 0, [(.ofNat 1, 4)]), (.ofNat 0, [(.ofNat 1, 5)]), (.ofNat 0, [(.ofNat 1, 0)]), (.ofNat 0, [(.ofNat 1, 6)]), (.ofNat 0, [(.ofNat 1, 7)]), (.ofNat 0, [(.ofNat 1, 8)]), (.ofNat 0, [(.ofNat 1, 9)]), (.ofNat 0, [(.ofNat 1, 10)]), (.ofNat 0, [(.ofNat 1, 11)]), (.ofNat 0, [(.ofNat 1, 12)]), (.ofNat 0, [(.ofNat 1, 1)])]), (59, [(.ofNat 0, [(.ofNat 1, 4)]), (.ofNat 0, [(.ofNat 1, 13)]), (.ofNat 0, [(.ofNat 1, 14)]), (.ofNat 0, [(.ofNat 1, 15)]), (.ofNat 0, [(.ofNat 1, 16)]), (.ofNat 0, [(.ofNat 1, 17)]), (.ofNat 0, [(.ofNat 1, 18)]), (.ofNat 0, [(.ofNat 1, 19)]), (.ofNat 0, [(.ofNat 1, 20)]), (.ofNat 0, [(.ofNat 1, 21)]), (.ofNat 0, [(.ofNat 1, 22)])]), (61, [(.ofNat 0, [(.ofNat 1, 4)])]), (68, [(.ofNat 0, [(.ofNat 1, 4)])]), (72, [(.ofNat 0, [(.ofNat 1, 17)]), (.ofNat 0, [(.ofNat 1, 4)])]), (75, [(.ofNat 0, [(.ofNat 1, 16)]), (.ofNat 0, [(.ofNat 1, 4)])]), (73, [(.ofNat 0, [(.ofNat 1, 17)])]), (79, [(.ofNat 0, [(.ofNat 1, 4)]), (.ofNat 0, [(.ofNat 1, 0)]), (.ofNat 0, [(.ofNat 1, 1)]), (.ofNat 1, [])]), (97, [(.ofNat 0, [(.ofNat 1, 4)]), (.ofNat 0, [(.ofNat 1, 0)]), (.ofNat 0, [(.ofNat 1, 1)])]), (60, [(.ofNat 0, [(.ofNat 1, 2)])])] : List sFc), fcOk fFS [s0, s1, s2, s3, s4, s5, s6, s7, s8, s9, s10, s11, s12, s13, s14, s15, s16, s17, s18, s19, s20, s21, s22] hp q := hH.2
  have f0 : Hq (XT hp) s2 s3 s4 s5 s0 s6 s7 s8 s9 s10 s11 s12 s1 ∧ s10 ≠ 4 := fcX (ys := [s2, s3, s4, s5, s0, s6, s7, s8, s9, s10, s11, s12, s1]) (hFc _ (.head _)) ⟨sE_V rfl, sE_V rfl, sE_V rfl, sE_V rfl, sE_V rfl, sE_V rfl, sE_V rfl, sE_V rfl, sE_V rfl, sE_V rfl, sE_V rfl, sE_V rfl, sE_V rfl, trivial⟩
  have f1 : CT (XT hp) s4 s13 s14 s15 s16 s17 s18 s19 s20 s21 s22 := fcX (ys := [s4, s13, s14, s15, s16, s17, s18, s19, s20, s21, s22]) (hFc _ (.tail _ (.head _))) ⟨sE_V rfl, sE_V rfl, sE_V rfl, sE_V rfl, sE_V rfl, sE_V rfl, sE_V rfl, sE_V rfl, sE_V rfl, sE_V rfl, sE_V rfl, trivial⟩
  have f2 : dF (XT hp) s4 (fun D => ∀ j : Nat, j < 12 → hL hp (rr hp 1 7) j = cd 32 96 (nm D j)) := fcX (ys := [s4]) (hFc _ (.tail _ (.tail _ (.head _)))) ⟨sE_V rfl, trivial⟩
  have f3 : dF (XT hp) s4 (fun D => ∀ p : Nat, p < 100 → (fX hp p ↔ ¬ tkI D p)) := fcX (ys := [s4]) (hFc _ (.tail _ (.tail _ (.tail _ (.head _))))) ⟨sE_V rfl, trivial⟩
  have f4 : dF (XT hp) s4 (fun D => s17 = (dTr D).length ∧ ∀ i : Nat, i < 14 → (i : Int) < s17 → (dTr D)[i]? = some (hI hp (rr hp 2 6) i, hI hp (rr hp 2 7) i)) := fcX (ys := [s17, s4]) (hFc _ (.tail _ (.tail _ (.tail _ (.tail _ (.head _)))))) ⟨sE_V rfl, sE_V rfl, trivial⟩
  have f5 : dF (XT hp) s4 (fun D => s16 = (dWi D).length ∧ ∀ i : Nat, i < 8 → (i : Int) < s16 → (dWi D)[i]? = some (hI hp (rr hp 1 16) i, hI hp (rr hp 1 17) i)) := fcX (ys := [s16, s4]) (hFc _ (.tail _ (.tail _ (.tail _ (.tail _ (.tail _ (.head _))))))) ⟨sE_V rfl, sE_V rfl, trivial⟩
  have f6 : ∀ i : Nat, i < 14 → (i : Int) < s17 → bt (hI hp (hC hp 176 2) 2) i := fcX (ys := [s17]) (hFc _ (.tail _ (.tail _ (.tail _ (.tail _ (.tail _ (.tail _ (.head _)))))))) ⟨sE_V rfl, trivial⟩
  have f7 : dF (XT hp) s4 (fun D => bP (1 : Int) (fre D s0 s1)) := fcX (ys := [s4, s0, s1, 1]) (hFc _ (.tail _ (.tail _ (.tail _ (.tail _ (.tail _ (.tail _ (.tail _ (.head _))))))))) ⟨sE_V rfl, sE_V rfl, sE_V rfl, sE_k _ _, trivial⟩
  have f8 : dF (XT hp) s4 (fun D => ∀ j : Nat, j < 10 → ∀ i : Nat, i < 10 → (bt (hI hp (rr hp 2 10) j) i ↔ (((i : Int), (j : Int)) ∈ dWa D ∨ ((i : Int) = s0 ∧ (j : Int) = s1)))) := fcX (ys := [s4, s0, s1]) (hFc _ (.tail _ (.tail _ (.tail _ (.tail _ (.tail _ (.tail _ (.tail _ (.tail _ (.head _)))))))))) ⟨sE_V rfl, sE_V rfl, sE_V rfl, trivial⟩
  have f9 : NO (XT hp) s2 := fcX (ys := [s2]) (hFc _ (.tail _ (.tail _ (.tail _ (.tail _ (.tail _ (.tail _ (.tail _ (.tail _ (.tail _ (.head _))))))))))) ⟨sE_V rfl, trivial⟩
  have u := hN22 (XT_ok hO) f0.1 (by omega) (by omega) f9 (d1 f7 rfl)
  have hd := u.2
  exact poX (.head _) rfl hR (all_nil) (all_nil) (all_cons ⟨[s12, 26, (s4 + 1), 0, 0, 0, 0, 0, 0], ⟨sE_V rfl, sE_k _ _, sEv (y' := ((1 : Int) + ((1 : Int) * s4 + 0))) rfl (by omega), sE_k _ _, sE_k _ _, sE_k _ _, sE_k _ _, sE_k _ _, sE_k _ _, trivial⟩, (show Gq (XT hp) s12 (26 : Int) (s4 + 1) (0 : Int) (0 : Int) (0 : Int) (0 : Int) (0 : Int) (0 : Int) from u.1)⟩ (all_cons ⟨[(s4 + 1), s13, s14, s15, s16, s17, (s18 + 1), s19, s20, s21, s22], ⟨sEv (y' := ((1 : Int) + ((1 : Int) * s4 + 0))) rfl (by omega), sE_V rfl, sE_V rfl, sE_V rfl, sE_V rfl, sE_V rfl, sEv (y' := ((1 : Int) + ((1 : Int) * s18 + 0))) rfl (by omega), sE_V rfl, sE_V rfl, sE_V rfl, sE_V rfl, trivial⟩, (show CT (XT hp) (s4 + 1) s13 s14 s15 s16 s17 (s18 + 1) s19 s20 s21 s22 from carry (XT_ok hO) hd f1 (fun D h => ct_aWa (by omega) h) (by omega))⟩ (all_cons ⟨[(s4 + 1)], ⟨sEv (y' := ((1 : Int) + ((1 : Int) * s4 + 0))) rfl (by omega), trivial⟩, (show dF (XT hp) (s4 + 1) (fun D => ∀ j : Nat, j < 12 → hL hp (rr hp 1 7) j = cd 32 96 (nm D j)) from carry (XT_ok hO) hd f2 (fun D h => h) (by omega))⟩ (all_cons ⟨[(s4 + 1)], ⟨sEv (y' := ((1 : Int) + ((1 : Int) * s4 + 0))) rfl (by omega), trivial⟩, (show dF (XT hp) (s4 + 1) (fun D => ∀ p : Nat, p < 100 → (fX hp p ↔ ¬ tkI D p)) from carry (XT_ok hO) hd f3 (fun D h => h) (by omega))⟩ (all_cons ⟨[s17, (s4 + 1)], ⟨sE_V rfl, sEv (y' := ((1 : Int) + ((1 : Int) * s4 + 0))) rfl (by omega), trivial⟩, (show dF (XT hp) (s4 + 1) (fun D => s17 = (dTr D).length ∧ ∀ i : Nat, i < 14 → (i : Int) < s17 → (dTr D)[i]? = some (hI hp (rr hp 2 6) i, hI hp (rr hp 2 7) i)) from carry (XT_ok hO) hd f4 (fun D h => h) (by omega))⟩ (all_cons ⟨[s16, (s4 + 1)], ⟨sE_V rfl, sEv (y' := ((1 : Int) + ((1 : Int) * s4 + 0))) rfl (by omega), trivial⟩, (show dF (XT hp) (s4 + 1) (fun D => s16 = (dWi D).length ∧ ∀ i : Nat, i < 8 → (i : Int) < s16 → (dWi D)[i]? = some (hI hp (rr hp 1 16) i, hI hp (rr hp 1 17) i)) from carry (XT_ok hO) hd f5 (fun D h => h) (by omega))⟩ (all_cons ⟨[s17], ⟨sE_V rfl, trivial⟩, (show ∀ i : Nat, i < 14 → (i : Int) < s17 → bt (hI hp (hC hp 176 2) 2) i from f6)⟩ (all_cons ⟨[(s4 + 1)], ⟨sEv (y' := ((1 : Int) + ((1 : Int) * s4 + 0))) rfl (by omega), trivial⟩, (show dF (XT hp) (s4 + 1) (fun D => ∀ j : Nat, j < 10 → wR (hI hp (rr hp 2 10) j) D j) from carry (XT_ok hO) hd f8 (fun D h => wl_wa h) (by omega))⟩ (all_nil)))))))))
theorem rl168 : ruOk fFS gR168 := by
  intro r hp hO hN hH
  obtain ⟨s0, s1, s2, s3, s4, s5, s6, s7, s8, s9, s10, s11, s12, s13, s14, s15, s16, s17, s18, s19, s20, s21, s22, rfl⟩ := len23 (show r.length = 23 from hN.1)
  have hR := hN.2.1.1
  have hIv : ∀ q ∈ ([(0, .negSucc 2147483647, .ofNat 2147483647), (1, .ofNat 0, .ofNat 0), (2, .negSucc 2147483647, .ofNat 2147483647), (3, .negSucc 2147483647, .ofNat 2147483647), (4, .negSucc 2147483647, .ofNat 2147483647), (5, .negSucc 2147483647, .ofNat 2147483647), (6, .negSucc 2147483647, .ofNat 2147483647), (7, .negSucc 2147483647, .ofNat 2147483647), (8, .negSucc 2147483647, .ofNat 2147483647), (9, .ofNat 1, .ofNat 1), (10, .negSucc 2147483647, .ofNat 2147483647), (11, .negSucc 2147483647, .ofNat 2147483647), (12, .ofNat 5, .ofNat 5), (13, .negSucc 2147483647, .ofNat 2147483647), (14, .negSucc 2147483647, .ofNat 2147483647), (15, .negSucc 2147483647, .ofNat 2147483647), (16, .negSucc 2147483647, .ofNat 2147483647), (17, .ofNat 14, .ofNat 14), (18, .negSucc 2147483647, .ofNat 2147483647), (19, .negSucc 2147483647, .ofNat 2147483647), (20, .negSucc 2147483647, .ofNat 2147483647), (21, .negSucc 2147483647, .ofNat 2147483647), (22, .negSucc 2147483647, .ofNat 2147483647)] : sIv), ∃ x, ([s0, s1, s2, s3, s4, s5, s6, s7, s8, s9, s10, s11, s12, s13, s14, s15, s16, s17, s18, s19, s20, s21, s22] : List Int)[q.1]? = some x ∧ q.2.1 ≤ x ∧ x ≤ q.2.2 := hN.2.1.2
  have b1 : (0 : Int) ≤ s1 ∧ s1 ≤ (0 : Int) := ivX (q := (1, .ofNat 0, .ofNat 0)) (y := s1) (hIv _ (.tail _ (.head _))) rfl
  have b9 : (1 : Int) ≤ s9 ∧ s9 ≤ (1 : Int) := ivX (q := (9, .ofNat 1, .ofNat 1)) (y := s9) (hIv _ (.tail _ (.tail _ (.tail _ (.tail _ (.tail _ (.tail _ (.tail _ (.tail _ (.tail _ (.head _))))))))))) rfl
  have b12 : (5 : Int) ≤ s12 ∧ s12 ≤ (5 : Int) := ivX (q := (12, .ofNat 5, .ofNat 5)) (y := s12) (hIv _ (.tail _ (.tail _ (.tail _ (.tail _ (.tail _ (.tail _ (.tail _ (.tail _ (.tail _ (.tail _ (.tail _ (.tail _ (.head _)))))))))))))) rfl
  have b17 : (14 : Int) ≤ s17 ∧ s17 ≤ (14 : Int) := ivX (q := (17, .ofNat 14, .ofNat 14)) (y := s17) (hIv _ (.tail _ (.tail _ (.tail _ (.tail _ (.tail _ (.tail _ (.tail _ (.tail _ (.tail _ (.tail _ (.tail _ (.tail _ (.tail _ (.tail _ (.tail _ (.tail _ (.tail _ (.head _))))))))))))))))))) rfl
  have hRf : ∀ q ∈ ([((40, .ofNat 173, []), (.ofNat 9, []), 1, .ofNat 0, [])] : List sRf), rfOk [s0, s1, s2, s3, s4, s5, s6, s7, s8, s9, s10, s11, s12, s13, s14, s15, s16, s17, s18, s19, s20, s21, s22] hp q := hH.1
  have h0 : hI hp 173 9 = 0 := rfI0 (hRf _ (.head _)) (sE_k _ _) (sE_k _ _) (sE_k _ _)
  have hFc : ∀ q ∈ ([(53, [(.ofNat 0, [(.ofNat 1, 0)]), (.ofNat 0, [(.ofNat 1, 1)]), (.ofNat 0, [(.ofNat 1, 2)]), (.ofNat 0, [(.ofNat 1, 3)]), (.ofNat 0, [(.ofNat 1, 4)]), (.ofNat 0, [(.ofNat 1, 5)]), (.ofNat 0, [(.ofNat 1, 6)]), (.ofNat 0, [(.ofNat 1, 7)]), (.ofNat 0, [(.ofNat 1, 8)]), (.ofNat 0, [(.ofNat 1, 9)]), (.ofNat 0, [(.ofNat 1, 10)]), (.ofNat 0, [(.ofNat 1, 11)]), (.ofNat 0, [(.ofNat 1, 12)])]), (59, [(.ofNat 0, [(.ofNat 1, 2)]), (.ofNat 0, [(.ofNat 1, 13)]), (.ofNat 0, [(.ofNat 1, 14)]), (.ofNat 0, [(.ofNat 1, 15)]), (.ofNat 0, [(.ofNat 1, 16)]), (.ofNat 0, [(.ofNat 1, 17)]), (.ofNat 0, [(.ofNat 1, 18)]), (.ofNat 0, [(.ofNat 1, 19)]), (.ofNat 0, [(.ofNat 1, 20)]), (.ofNat 0, [(.ofNat 1, 21)]), (.ofNat 0, [(.ofNat 1, 22)])])] : List sFc), fcOk fFS [s0, s1, s2, s3, s4, s5, s6, s7, s8, s9, s10, s11, s12, s13, s14, s15, s16, s17, s18, s19, s20, s21, s22] hp q := hH.2
  have f0 : Hq (XT hp) s0 s1 s2 s3 s4 s5 s6 s7 s8 s9 s10 s11 s12 ∧ s9 ≠ 4 := fcX (ys := [s0, s1, s2, s3, s4, s5, s6, s7, s8, s9, s10, s11, s12]) (hFc _ (.head _)) ⟨sE_V rfl, sE_V rfl, sE_V rfl, sE_V rfl, sE_V rfl, sE_V rfl, sE_V rfl, sE_V rfl, sE_V rfl, sE_V rfl, sE_V rfl, sE_V rfl, sE_V rfl, trivial⟩
  have f1 : CT (XT hp) s2 s13 s14 s15 s16 s17 s18 s19 s20 s21 s22 := fcX (ys := [s2, s13, s14, s15, s16, s17, s18, s19, s20, s21, s22]) (hFc _ (.tail _ (.head _))) ⟨sE_V rfl, sE_V rfl, sE_V rfl, sE_V rfl, sE_V rfl, sE_V rfl, sE_V rfl, sE_V rfl, sE_V rfl, sE_V rfl, sE_V rfl, trivial⟩
  exact poX (.head _) rfl hR (all_nil) (all_nil) (all_cons ⟨[4, s10], ⟨sE_k _ _, sE_V rfl, trivial⟩, (show RS (XT hp) (4 : Int) s10 from ln_f5 (XT_ok hO) f0.1 (dF_mp f1 (fun D h => by unfold ctP at h; omega)) (by omega) (by omega) (by omega))⟩ (all_nil))
theorem rl169 : ruOk fFS gR169 := by
  intro r hp hO hN hH
  obtain ⟨s0, s1, s2, s3, s4, s5, s6, s7, s8, s9, s10, s11, s12, s13, s14, s15, s16, s17, s18, s19, s20, s21, s22, rfl⟩ := len23 (show r.length = 23 from hN.1)
  have hR := hN.2.1.1
  have hIv : ∀ q ∈ ([(0, .negSucc 2147483647, .ofNat 2147483647), (1, .ofNat 0, .ofNat 0), (2, .negSucc 2147483647, .ofNat 2147483647), (3, .negSucc 2147483647, .ofNat 2147483647), (4, .negSucc 2147483647, .ofNat 2147483647), (5, .negSucc 2147483647, .ofNat 2147483647), (6, .negSucc 2147483647, .ofNat 2147483647), (7, .negSucc 2147483647, .ofNat 2147483647), (8, .negSucc 2147483647, .ofNat 2147483647), (9, .ofNat 1, .ofNat 1), (10, .negSucc 2147483647, .ofNat 2147483647), (11, .negSucc 2147483647, .ofNat 2147483647), (12, .ofNat 5, .ofNat 5), (13, .negSucc 2147483647, .ofNat 2147483647), (14, .negSucc 2147483647, .ofNat 2147483647), (15, .negSucc 2147483647, .ofNat 2147483647), (16, .negSucc 2147483647, .ofNat 2147483647), (17, .ofNat 0, .ofNat 13), (18, .negSucc 2147483647, .ofNat 2147483647), (19, .negSucc 2147483647, .ofNat 2147483647), (20, .negSucc 2147483647, .ofNat 2147483647), (21, .negSucc 2147483647, .ofNat 2147483647), (22, .negSucc 2147483647, .ofNat 2147483647)] : sIv), ∃ x, ([s0, s1, s2, s3, s4, s5, s6, s7, s8, s9, s10, s11, s12, s13, s14, s15, s16, s17, s18, s19, s20, s21, s22] : List Int)[q.1]? = some x ∧ q.2.1 ≤ x ∧ x ≤ q.2.2 := hN.2.1.2
  have b1 : (0 : Int) ≤ s1 ∧ s1 ≤ (0 : Int) := ivX (q := (1, .ofNat 0, .ofNat 0)) (y := s1) (hIv _ (.tail _ (.head _))) rfl
  have b9 : (1 : Int) ≤ s9 ∧ s9 ≤ (1 : Int) := ivX (q := (9, .ofNat 1, .ofNat 1)) (y := s9) (hIv _ (.tail _ (.tail _ (.tail _ (.tail _ (.tail _ (.tail _ (.tail _ (.tail _ (.tail _ (.head _))))))))))) rfl
  have b12 : (5 : Int) ≤ s12 ∧ s12 ≤ (5 : Int) := ivX (q := (12, .ofNat 5, .ofNat 5)) (y := s12) (hIv _ (.tail _ (.tail _ (.tail _ (.tail _ (.tail _ (.tail _ (.tail _ (.tail _ (.tail _ (.tail _ (.tail _ (.tail _ (.head _)))))))))))))) rfl
  have b17 : (0 : Int) ≤ s17 ∧ s17 ≤ (13 : Int) := ivX (q := (17, .ofNat 0, .ofNat 13)) (y := s17) (hIv _ (.tail _ (.tail _ (.tail _ (.tail _ (.tail _ (.tail _ (.tail _ (.tail _ (.tail _ (.tail _ (.tail _ (.tail _ (.tail _ (.tail _ (.tail _ (.tail _ (.tail _ (.head _))))))))))))))))))) rfl
  have hRf : ∀ q ∈ ([((40, .ofNat 173, []), (.ofNat 9, []), 1, .ofNat 0, [])] : List sRf), rfOk [s0, s1, s2, s3, s4, s5, s6, s7, s8, s9, s10, s11, s12, s13, s14, s15, s16, s17, s18, s19, s20, s21, s22] hp q := hH.1
  have h0 : hI hp 173 9 = 0 := rfI0 (hRf _ (.head _)) (sE_k _ _) (sE_k _ _) (sE_k _ _)
  have hFc : ∀ q ∈ ([(53, [(.ofNat 0, [(.ofNat 1, 0)]), (.ofNat 0, [(.ofNat 1, 1)]), (.ofNat 0, [(.ofNat 1, 2)]), (.ofNat 0, [(.ofNat 1, 3)]), (.ofNat 0, [(.ofNat 1, 4)]), (.ofNat 0, [(.ofNat 1, 5)]), (.ofNat 0, [(.ofNat 1, 6)]), (.ofNat 0, [(.ofNat 1, 7)]), (.ofNat 0, [(.ofNat 1, 8)]), (.ofNat 0, [(.ofNat 1, 9)]), (.ofNat 0, [(.ofNat 1, 10)]), (.ofNat 0, [(.ofNat 1, 11)]), (.ofNat 0, [(.ofNat 1, 12)])]), (59, [(.ofNat 0, [(.ofNat 1, 2)]), (.ofNat 0, [(.ofNat 1, 13)]), (.ofNat 0, [(.ofNat 1, 14)]), (.ofNat 0, [(.ofNat 1, 15)]), (.ofNat 0, [(.ofNat 1, 16)]), (.ofNat 0, [(.ofNat 1, 17)]), (.ofNat 0, [(.ofNat 1, 18)]), (.ofNat 0, [(.ofNat 1, 19)]), (.ofNat 0, [(.ofNat 1, 20)]), (.ofNat 0, [(.ofNat 1, 21)]), (.ofNat 0, [(.ofNat 1, 22)])])] : List sFc), fcOk fFS [s0, s1, s2, s3, s4, s5, s6, s7, s8, s9, s10, s11, s12, s13, s14, s15, s16, s17, s18, s19, s20, s21, s22] hp q := hH.2
  have f0 : Hq (XT hp) s0 s1 s2 s3 s4 s5 s6 s7 s8 s9 s10 s11 s12 ∧ s9 ≠ 4 := fcX (ys := [s0, s1, s2, s3, s4, s5, s6, s7, s8, s9, s10, s11, s12]) (hFc _ (.head _)) ⟨sE_V rfl, sE_V rfl, sE_V rfl, sE_V rfl, sE_V rfl, sE_V rfl, sE_V rfl, sE_V rfl, sE_V rfl, sE_V rfl, sE_V rfl, sE_V rfl, sE_V rfl, trivial⟩
  have f1 : CT (XT hp) s2 s13 s14 s15 s16 s17 s18 s19 s20 s21 s22 := fcX (ys := [s2, s13, s14, s15, s16, s17, s18, s19, s20, s21, s22]) (hFc _ (.tail _ (.head _))) ⟨sE_V rfl, sE_V rfl, sE_V rfl, sE_V rfl, sE_V rfl, sE_V rfl, sE_V rfl, sE_V rfl, sE_V rfl, sE_V rfl, sE_V rfl, trivial⟩
  obtain ⟨D, hG, hP⟩ := ln_g5 (P := ctP s13 s14 s15 s16 s17 s18 s19 s20 s21 s22) (XT_ok hO) f0.1 (dF_mp f1 (fun D h => ⟨by unfold ctP at h; omega, h⟩)) (by omega) (by omega) (by omega)
  exact poX (.head _) rfl hR (all_nil) (all_nil) (all_cons ⟨[s11, 18, s2, 0, 0, 0, 0, 0, 0], ⟨sE_V rfl, sE_k _ _, sE_V rfl, sE_k _ _, sE_k _ _, sE_k _ _, sE_k _ _, sE_k _ _, sE_k _ _, trivial⟩, (show Gq (XT hp) s11 (18 : Int) s2 (0 : Int) (0 : Int) (0 : Int) (0 : Int) (0 : Int) (0 : Int) from ⟨D, hG⟩)⟩ (all_cons ⟨[s11, 7, 5], ⟨sE_V rfl, sE_k _ _, sE_k _ _, trivial⟩, (show EO (XT hp) s11 (7 : Int) (5 : Int) from ex_mk hG (by omega) (by decide) (by decide))⟩ (all_nil)))
theorem rl170 : ruOk fFS gR170 := by
  intro r hp hO hN hH
  obtain ⟨s0, s1, s2, s3, s4, s5, s6, s7, s8, s9, s10, s11, s12, s13, s14, s15, s16, s17, s18, s19, s20, s21, s22, s23, rfl⟩ := len24 (show r.length = 24 from hN.1)
  have hR := hN.2.1.1
  have hIv : ∀ q ∈ ([(0, .ofNat 0, .ofNat 4), (1, .negSucc 2147483647, .ofNat 2147483647), (2, .ofNat 18, .ofNat 18), (3, .negSucc 2147483647, .ofNat 2147483647), (4, .negSucc 2147483647, .ofNat 2147483647), (5, .negSucc 2147483647, .ofNat 2147483647), (6, .negSucc 2147483647, .ofNat 2147483647), (7, .negSucc 2147483647, .ofNat 2147483647), (8, .negSucc 2147483647, .ofNat 2147483647), (9, .negSucc 2147483647, .ofNat 2147483647), (10, .ofNat 1, .ofNat 1), (11, .negSucc 2147483647, .ofNat 2147483647), (12, .negSucc 2147483647, .ofNat 2147483647), (13, .negSucc 0, .negSucc 0), (14, .negSucc 2147483647, .ofNat 2147483647), (15, .negSucc 2147483647, .ofNat 2147483647), (16, .negSucc 2147483647, .ofNat 2147483647), (17, .negSucc 2147483647, .ofNat 2147483647), (18, .negSucc 2147483647, .ofNat 2147483647), (19, .negSucc 2147483647, .ofNat 2147483647), (20, .negSucc 2147483647, .ofNat 2147483647), (21, .negSucc 2147483647, .ofNat 2147483647), (22, .negSucc 2147483647, .ofNat 2147483647), (23, .negSucc 2147483647, .ofNat 2147483647)] : sIv), ∃ x, ([s0, s1, s2, s3, s4, s5, s6, s7, s8, s9, s10, s11, s12, s13, s14, s15, s16, s17, s18, s19, s20, s21, s22, s23] : List Int)[q.1]? = some x ∧ q.2.1 ≤ x ∧ x ≤ q.2.2 := hN.2.1.2
  have b0 : (0 : Int) ≤ s0 ∧ s0 ≤ (4 : Int) := ivX (q := (0, .ofNat 0, .ofNat 4)) (y := s0) (hIv _ (.head _)) rfl
  have b2 : (18 : Int) ≤ s2 ∧ s2 ≤ (18 : Int) := ivX (q := (2, .ofNat 18, .ofNat 18)) (y := s2) (hIv _ (.tail _ (.tail _ (.head _)))) rfl
  have b10 : (1 : Int) ≤ s10 ∧ s10 ≤ (1 : Int) := ivX (q := (10, .ofNat 1, .ofNat 1)) (y := s10) (hIv _ (.tail _ (.tail _ (.tail _ (.tail _ (.tail _ (.tail _ (.tail _ (.tail _ (.tail _ (.tail _ (.head _)))))))))))) rfl
  have b13 : (-1 : Int) ≤ s13 ∧ s13 ≤ (-1 : Int) := ivX (q := (13, .negSucc 0, .negSucc 0)) (y := s13) (hIv _ (.tail _ (.tail _ (.tail _ (.tail _ (.tail _ (.tail _ (.tail _ (.tail _ (.tail _ (.tail _ (.tail _ (.tail _ (.tail _ (.head _))))))))))))))) rfl
  have hRf : ∀ q ∈ ([((40, .ofNat 173, []), (.ofNat 9, []), 1, .ofNat 0, [])] : List sRf), rfOk [s0, s1, s2, s3, s4, s5, s6, s7, s8, s9, s10, s11, s12, s13, s14, s15, s16, s17, s18, s19, s20, s21, s22, s23] hp q := hH.1
  have h0 : hI hp 173 9 = 0 := rfI0 (hRf _ (.head _)) (sE_k _ _) (sE_k _ _) (sE_k _ _)
  have hFc : ∀ q ∈ ([(53, [(.ofNat 0, [(.ofNat 1, 1)]), (.ofNat 0, [(.ofNat 1, 2)]), (.ofNat 0, [(.ofNat 1, 3)]), (.ofNat 0, [(.ofNat 1, 4)]), (.ofNat 0, [(.ofNat 1, 5)]), (.ofNat 0, [(.ofNat 1, 6)]), (.ofNat 0, [(.ofNat 1, 7)]), (.ofNat 0, [(.ofNat 1, 8)]), (.ofNat 0, [(.ofNat 1, 9)]), (.ofNat 0, [(.ofNat 1, 10)]), (.ofNat 0, [(.ofNat 1, 11)]), (.ofNat 0, [(.ofNat 1, 12)]), (.ofNat 0, [(.ofNat 1, 13)])]), (67, [(.ofNat 0, [(.ofNat 1, 3)]), (.ofNat 0, [(.ofNat 1, 11)]), (.ofNat 0, [(.ofNat 1, 12)]), (.ofNat 7, [(.ofNat 1, 0)])]), (59, [(.ofNat 0, [(.ofNat 1, 3)]), (.ofNat 0, [(.ofNat 1, 14)]), (.ofNat 0, [(.ofNat 1, 15)]), (.ofNat 0, [(.ofNat 1, 16)]), (.ofNat 0, [(.ofNat 1, 17)]), (.ofNat 0, [(.ofNat 1, 18)]), (.ofNat 0, [(.ofNat 1, 19)]), (.ofNat 0, [(.ofNat 1, 20)]), (.ofNat 0, [(.ofNat 1, 21)]), (.ofNat 0, [(.ofNat 1, 22)]), (.ofNat 0, [(.ofNat 1, 23)])])] : List sFc), fcOk fFS [s0, s1, s2, s3, s4, s5, s6, s7, s8, s9, s10, s11, s12, s13, s14, s15, s16, s17, s18, s19, s20, s21, s22, s23] hp q := hH.2
  have f0 : Hq (XT hp) s1 s2 s3 s4 s5 s6 s7 s8 s9 s10 s11 s12 s13 ∧ s10 ≠ 4 := fcX (ys := [s1, s2, s3, s4, s5, s6, s7, s8, s9, s10, s11, s12, s13]) (hFc _ (.head _)) ⟨sE_V rfl, sE_V rfl, sE_V rfl, sE_V rfl, sE_V rfl, sE_V rfl, sE_V rfl, sE_V rfl, sE_V rfl, sE_V rfl, sE_V rfl, sE_V rfl, sE_V rfl, trivial⟩
  have f1 : SL (XT hp) s3 s11 s12 (s0 + 7) := fcX (ys := [s3, s11, s12, (s0 + 7)]) (hFc _ (.tail _ (.head _))) ⟨sE_V rfl, sE_V rfl, sE_V rfl, sEv (y' := ((7 : Int) + ((1 : Int) * s0 + 0))) rfl (by omega), trivial⟩
  have f2 : CT (XT hp) s3 s14 s15 s16 s17 s18 s19 s20 s21 s22 s23 := fcX (ys := [s3, s14, s15, s16, s17, s18, s19, s20, s21, s22, s23]) (hFc _ (.tail _ (.tail _ (.head _)))) ⟨sE_V rfl, sE_V rfl, sE_V rfl, sE_V rfl, sE_V rfl, sE_V rfl, sE_V rfl, sE_V rfl, sE_V rfl, sE_V rfl, sE_V rfl, trivial⟩
  obtain ⟨D, hG⟩ := hO18 (x := s0) (XT_ok hO) f0.1 (by omega) (by omega) (by omega) f1 (by omega) (by omega) (by omega)
  have hP := dF_at (XT_ok hO) hG f2
  exact poX (.head _) rfl hR (all_nil) (all_nil) (all_cons ⟨[s12, 19, s3, s0, 0, 0, 0, 0, 0], ⟨sE_V rfl, sE_k _ _, sE_V rfl, sE_V rfl, sE_k _ _, sE_k _ _, sE_k _ _, sE_k _ _, sE_k _ _, trivial⟩, (show Gq (XT hp) s12 (19 : Int) s3 s0 (0 : Int) (0 : Int) (0 : Int) (0 : Int) (0 : Int) from ⟨D, hG⟩)⟩ (all_cons ⟨[s12, 0, (s22 - 1)], ⟨sE_V rfl, sE_k _ _, sEv (y' := ((-1 : Int) + ((1 : Int) * s22 + 0))) rfl (by omega), trivial⟩, (show EN (XT hp) s12 (0 : Int) (s22 - 1) from en_mk hG (nC19 (by omega) (by omega) (by have hx := hP.2.2.2.2.2.2.2.2.1; have hy := hP.2.2.2.2.2.2.2.2.2; clear hP; omega)))⟩ (all_nil)))
theorem rl171 : ruOk fFS gR171 := by
  intro r hp hO hN hH
  obtain ⟨s0, s1, s2, s3, s4, s5, s6, s7, s8, s9, s10, s11, s12, s13, s14, s15, s16, s17, s18, s19, s20, s21, s22, rfl⟩ := len23 (show r.length = 23 from hN.1)
  have hR := hN.2.1.1
  have hIv : ∀ q ∈ ([(0, .negSucc 2147483647, .ofNat 2147483647), (1, .negSucc 2147483647, .ofNat 2147483647), (2, .ofNat 19, .ofNat 19), (3, .negSucc 2147483647, .ofNat 2147483647), (4, .negSucc 2147483647, .ofNat 2147483647), (5, .negSucc 2147483647, .ofNat 2147483647), (6, .negSucc 2147483647, .ofNat 2147483647), (7, .negSucc 2147483647, .ofNat 2147483647), (8, .negSucc 2147483647, .ofNat 2147483647), (9, .negSucc 2147483647, .ofNat 2147483647), (10, .ofNat 2, .ofNat 2), (11, .negSucc 2147483647, .ofNat 2147483647), (12, .negSucc 2147483647, .ofNat 2147483647), (13, .negSucc 2147483647, .ofNat 2147483647), (14, .negSucc 2147483647, .ofNat 2147483647), (15, .negSucc 2147483647, .ofNat 2147483647), (16, .negSucc 2147483647, .ofNat 2147483647), (17, .negSucc 2147483647, .ofNat 2147483647), (18, .negSucc 2147483647, .ofNat 2147483647), (19, .negSucc 2147483647, .ofNat 2147483647), (20, .negSucc 2147483647, .ofNat 2147483647), (21, .negSucc 2147483647, .ofNat 2147483647), (22, .negSucc 2147483647, .ofNat 2147483647)] : sIv), ∃ x, ([s0, s1, s2, s3, s4, s5, s6, s7, s8, s9, s10, s11, s12, s13, s14, s15, s16, s17, s18, s19, s20, s21, s22] : List Int)[q.1]? = some x ∧ q.2.1 ≤ x ∧ x ≤ q.2.2 := hN.2.1.2
  have b2 : (19 : Int) ≤ s2 ∧ s2 ≤ (19 : Int) := ivX (q := (2, .ofNat 19, .ofNat 19)) (y := s2) (hIv _ (.tail _ (.tail _ (.head _)))) rfl
  have b10 : (2 : Int) ≤ s10 ∧ s10 ≤ (2 : Int) := ivX (q := (10, .ofNat 2, .ofNat 2)) (y := s10) (hIv _ (.tail _ (.tail _ (.tail _ (.tail _ (.tail _ (.tail _ (.tail _ (.tail _ (.tail _ (.tail _ (.head _)))))))))))) rfl
  have hRf : ∀ q ∈ ([((40, .ofNat 173, []), (.ofNat 9, []), 1, .ofNat 0, [])] : List sRf), rfOk [s0, s1, s2, s3, s4, s5, s6, s7, s8, s9, s10, s11, s12, s13, s14, s15, s16, s17, s18, s19, s20, s21, s22] hp q := hH.1
  have h0 : hI hp 173 9 = 0 := rfI0 (hRf _ (.head _)) (sE_k _ _) (sE_k _ _) (sE_k _ _)
  have hFc : ∀ q ∈ ([(53, [(.ofNat 0, [(.ofNat 1, 1)]), (.ofNat 0, [(.ofNat 1, 2)]), (.ofNat 0, [(.ofNat 1, 3)]), (.ofNat 0, [(.ofNat 1, 4)]), (.ofNat 0, [(.ofNat 1, 5)]), (.ofNat 0, [(.ofNat 1, 6)]), (.ofNat 0, [(.ofNat 1, 7)]), (.ofNat 0, [(.ofNat 1, 8)]), (.ofNat 0, [(.ofNat 1, 9)]), (.ofNat 0, [(.ofNat 1, 10)]), (.ofNat 0, [(.ofNat 1, 11)]), (.ofNat 0, [(.ofNat 1, 12)]), (.ofNat 0, [(.ofNat 1, 0)])]), (59, [(.ofNat 0, [(.ofNat 1, 3)]), (.ofNat 0, [(.ofNat 1, 13)]), (.ofNat 0, [(.ofNat 1, 14)]), (.ofNat 0, [(.ofNat 1, 15)]), (.ofNat 0, [(.ofNat 1, 16)]), (.ofNat 0, [(.ofNat 1, 17)]), (.ofNat 0, [(.ofNat 1, 18)]), (.ofNat 0, [(.ofNat 1, 19)]), (.ofNat 0, [(.ofNat 1, 20)]), (.ofNat 0, [(.ofNat 1, 21)]), (.ofNat 0, [(.ofNat 1, 22)])]), (60, [(.ofNat 0, [(.ofNat 1, 1)])])] : List sFc), fcOk fFS [s0, s1, s2, s3, s4, s5, s6, s7, s8, s9, s10, s11, s12, s13, s14, s15, s16, s17, s18, s19, s20, s21, s22] hp q := hH.2
  have f0 : Hq (XT hp) s1 s2 s3 s4 s5 s6 s7 s8 s9 s10 s11 s12 s0 ∧ s10 ≠ 4 := fcX (ys := [s1, s2, s3, s4, s5, s6, s7, s8, s9, s10, s11, s12, s0]) (hFc _ (.head _)) ⟨sE_V rfl, sE_V rfl, sE_V rfl, sE_V rfl, sE_V rfl, sE_V rfl, sE_V rfl, sE_V rfl, sE_V rfl, sE_V rfl, sE_V rfl, sE_V rfl, sE_V rfl, trivial⟩
  have f1 : CT (XT hp) s3 s13 s14 s15 s16 s17 s18 s19 s20 s21 s22 := fcX (ys := [s3, s13, s14, s15, s16, s17, s18, s19, s20, s21, s22]) (hFc _ (.tail _ (.head _))) ⟨sE_V rfl, sE_V rfl, sE_V rfl, sE_V rfl, sE_V rfl, sE_V rfl, sE_V rfl, sE_V rfl, sE_V rfl, sE_V rfl, sE_V rfl, trivial⟩
  have f2 : NO (XT hp) s1 := fcX (ys := [s1]) (hFc _ (.tail _ (.tail _ (.head _)))) ⟨sE_V rfl, trivial⟩
  obtain ⟨D, hG⟩ := hN19 (XT_ok hO) f0.1 (by omega) (by omega) f2
  have hP := dF_at (XT_ok hO) hG f1
  exact poX (.head _) rfl hR (all_nil) (all_nil) (all_cons ⟨[s12, 20, s3, s4, s0, 0, 0, 0, 0], ⟨sE_V rfl, sE_k _ _, sE_V rfl, sE_V rfl, sE_V rfl, sE_k _ _, sE_k _ _, sE_k _ _, sE_k _ _, trivial⟩, (show Gq (XT hp) s12 (20 : Int) s3 s4 s0 (0 : Int) (0 : Int) (0 : Int) (0 : Int) from ⟨D, hG⟩)⟩ (all_cons ⟨[s12, 0, (s22 - 1)], ⟨sE_V rfl, sE_k _ _, sEv (y' := ((-1 : Int) + ((1 : Int) * s22 + 0))) rfl (by omega), trivial⟩, (show EN (XT hp) s12 (0 : Int) (s22 - 1) from en_mk hG (nC20 (by omega) (by omega) (by have hx := hP.2.2.2.2.2.2.2.2.1; have hy := hP.2.2.2.2.2.2.2.2.2; clear hP; omega)))⟩ (all_nil)))
theorem rl172 : ruOk fFS gR172 := by
  intro r hp hO hN hH
  obtain ⟨s0, s1, s2, s3, s4, s5, s6, s7, s8, s9, s10, s11, s12, s13, s14, rfl⟩ := len15 (show r.length = 15 from hN.1)
  have hR := hN.2.1.1
  have hIv : ∀ q ∈ ([(0, .negSucc 2147483647, .ofNat 2147483647), (1, .negSucc 2147483647, .ofNat 2147483647), (2, .negSucc 2147483647, .ofNat 2147483647), (3, .negSucc 2147483647, .ofNat 2147483647), (4, .negSucc 2147483647, .ofNat 2147483647), (5, .negSucc 2147483647, .ofNat 2147483647), (6, .negSucc 2147483647, .ofNat 2147483647), (7, .negSucc 2147483647, .ofNat 2147483647), (8, .negSucc 2147483647, .ofNat 2147483647), (9, .ofNat 0, .ofNat 0), (10, .negSucc 2147483647, .ofNat 2147483647), (11, .negSucc 2147483647, .ofNat 2147483647), (12, .negSucc 2147483647, .ofNat 2147483647), (13, .negSucc 2147483647, .ofNat 2147483647), (14, .negSucc 2147483647, .ofNat 2147483647)] : sIv), ∃ x, ([s0, s1, s2, s3, s4, s5, s6, s7, s8, s9, s10, s11, s12, s13, s14] : List Int)[q.1]? = some x ∧ q.2.1 ≤ x ∧ x ≤ q.2.2 := hN.2.1.2
  have b9 : (0 : Int) ≤ s9 ∧ s9 ≤ (0 : Int) := ivX (q := (9, .ofNat 0, .ofNat 0)) (y := s9) (hIv _ (.tail _ (.tail _ (.tail _ (.tail _ (.tail _ (.tail _ (.tail _ (.tail _ (.tail _ (.head _))))))))))) rfl
  have hFc : ∀ q ∈ ([(53, [(.ofNat 0, [(.ofNat 1, 0)]), (.ofNat 0, [(.ofNat 1, 1)]), (.ofNat 0, [(.ofNat 1, 2)]), (.ofNat 0, [(.ofNat 1, 3)]), (.ofNat 0, [(.ofNat 1, 4)]), (.ofNat 0, [(.ofNat 1, 5)]), (.ofNat 0, [(.ofNat 1, 6)]), (.ofNat 0, [(.ofNat 1, 7)]), (.ofNat 0, [(.ofNat 1, 8)]), (.ofNat 0, [(.ofNat 1, 9)]), (.ofNat 0, [(.ofNat 1, 10)]), (.ofNat 0, [(.ofNat 1, 11)]), (.ofNat 0, [(.ofNat 1, 12)])]), (57, [(.ofNat 0, [(.ofNat 1, 0)]), (.ofNat 0, [(.ofNat 1, 13)]), (.ofNat 0, [(.ofNat 1, 14)])])] : List sFc), fcOk fFS [s0, s1, s2, s3, s4, s5, s6, s7, s8, s9, s10, s11, s12, s13, s14] hp q := hH.2
  have f0 : Hq (XT hp) s0 s1 s2 s3 s4 s5 s6 s7 s8 s9 s10 s11 s12 ∧ s9 ≠ 4 := fcX (ys := [s0, s1, s2, s3, s4, s5, s6, s7, s8, s9, s10, s11, s12]) (hFc _ (.head _)) ⟨sE_V rfl, sE_V rfl, sE_V rfl, sE_V rfl, sE_V rfl, sE_V rfl, sE_V rfl, sE_V rfl, sE_V rfl, sE_V rfl, sE_V rfl, sE_V rfl, sE_V rfl, trivial⟩
  have f1 : EO (XT hp) s0 s13 s14 := fcX (ys := [s0, s13, s14]) (hFc _ (.tail _ (.head _))) ⟨sE_V rfl, sE_V rfl, sE_V rfl, trivial⟩
  exact poX (.head _) rfl hR (all_nil) (all_nil) (all_cons ⟨[1, s10], ⟨sE_k _ _, sE_V rfl, trivial⟩, (show RS (XT hp) (1 : Int) s10 from eo_f1 (XT_ok hO) f0.1 f1 (by omega))⟩ (all_nil))
theorem rl173 : ruOk fFS gR173 := by
  intro r hp hO hN hH
  obtain ⟨s0, s1, s2, s3, s4, s5, s6, s7, rfl⟩ := len8 (show r.length = 8 from hN.1)
  have hR := hN.2.1.1
  have hIv : ∀ q ∈ ([(0, .negSucc 2147483647, .ofNat 2147483647), (1, .ofNat 1, .ofNat 3), (2, .negSucc 2147483647, .ofNat 2147483647), (3, .negSucc 2147483647, .ofNat 2147483647), (4, .ofNat 0, .ofNat 0), (5, .negSucc 2147483647, .ofNat 2147483647), (6, .negSucc 2147483647, .ofNat 2147483647), (7, .negSucc 2147483647, .ofNat 2147483647)] : sIv), ∃ x, ([s0, s1, s2, s3, s4, s5, s6, s7] : List Int)[q.1]? = some x ∧ q.2.1 ≤ x ∧ x ≤ q.2.2 := hN.2.1.2
  have b1 : (1 : Int) ≤ s1 ∧ s1 ≤ (3 : Int) := ivX (q := (1, .ofNat 1, .ofNat 3)) (y := s1) (hIv _ (.tail _ (.head _))) rfl
  have b4 : (0 : Int) ≤ s4 ∧ s4 ≤ (0 : Int) := ivX (q := (4, .ofNat 0, .ofNat 0)) (y := s4) (hIv _ (.tail _ (.tail _ (.tail _ (.tail _ (.head _)))))) rfl
  have hFc : ∀ q ∈ ([(192, [(.ofNat 0, [(.ofNat 1, 0)]), (.ofNat 0, [(.ofNat 1, 1)]), (.ofNat 0, [(.ofNat 1, 2)]), (.ofNat 0, [(.ofNat 1, 3)]), (.ofNat 0, [(.ofNat 1, 4)]), (.ofNat 0, [(.ofNat 1, 5)]), (.ofNat 0, [(.ofNat 1, 6)]), (.ofNat 0, [(.ofNat 1, 7)])])] : List sFc), fcOk fFS [s0, s1, s2, s3, s4, s5, s6, s7] hp q := hH.2
  have f0 : SHq (XT hp) (nmR hp (xnm hp)) s0 s1 s2 s3 s4 s5 s6 s7 ∧ s4 ≠ 4 := fcX (ys := [s0, s1, s2, s3, s4, s5, s6, s7]) (hFc _ (.head _)) ⟨sE_V rfl, sE_V rfl, sE_V rfl, sE_V rfl, sE_V rfl, sE_V rfl, sE_V rfl, sE_V rfl, trivial⟩
  exact poX (.head _) rfl hR (all_nil) (all_nil) (all_cons ⟨[1, s5], ⟨sE_k _ _, sE_V rfl, trivial⟩, (show SRS (XT hp) (nmR hp (xnm hp)) (1 : Int) s5 from sn_f1 f0.1 (by unfold sNc; omega) (by omega))⟩ (all_nil))
theorem rl174 : ruOk fFS gR174 := by
  intro r hp hO hN hH
  obtain ⟨s0, s1, s2, s3, s4, s5, s6, s7, rfl⟩ := len8 (show r.length = 8 from hN.1)
  have hR := hN.2.1.1
  have hIv : ∀ q ∈ ([(0, .negSucc 2147483647, .ofNat 2147483647), (1, .ofNat 1, .ofNat 3), (2, .negSucc 2147483647, .ofNat 2147483647), (3, .negSucc 2147483647, .ofNat 2147483647), (4, .ofNat 2, .ofNat 3), (5, .negSucc 2147483647, .ofNat 2147483647), (6, .negSucc 2147483647, .ofNat 2147483647), (7, .negSucc 2147483647, .ofNat 2147483647)] : sIv), ∃ x, ([s0, s1, s2, s3, s4, s5, s6, s7] : List Int)[q.1]? = some x ∧ q.2.1 ≤ x ∧ x ≤ q.2.2 := hN.2.1.2
  have b1 : (1 : Int) ≤ s1 ∧ s1 ≤ (3 : Int) := ivX (q := (1, .ofNat 1, .ofNat 3)) (y := s1) (hIv _ (.tail _ (.head _))) rfl
  have b4 : (2 : Int) ≤ s4 ∧ s4 ≤ (3 : Int) := ivX (q := (4, .ofNat 2, .ofNat 3)) (y := s4) (hIv _ (.tail _ (.tail _ (.tail _ (.tail _ (.head _)))))) rfl
  have hFc : ∀ q ∈ ([(192, [(.ofNat 0, [(.ofNat 1, 0)]), (.ofNat 0, [(.ofNat 1, 1)]), (.ofNat 0, [(.ofNat 1, 2)]), (.ofNat 0, [(.ofNat 1, 3)]), (.ofNat 0, [(.ofNat 1, 4)]), (.ofNat 0, [(.ofNat 1, 5)]), (.ofNat 0, [(.ofNat 1, 6)]), (.ofNat 0, [(.ofNat 1, 7)])])] : List sFc), fcOk fFS [s0, s1, s2, s3, s4, s5, s6, s7] hp q := hH.2
  have f0 : SHq (XT hp) (nmR hp (xnm hp)) s0 s1 s2 s3 s4 s5 s6 s7 ∧ s4 ≠ 4 := fcX (ys := [s0, s1, s2, s3, s4, s5, s6, s7]) (hFc _ (.head _)) ⟨sE_V rfl, sE_V rfl, sE_V rfl, sE_V rfl, sE_V rfl, sE_V rfl, sE_V rfl, sE_V rfl, trivial⟩
  exact poX (.head _) rfl hR (all_nil) (all_nil) (all_cons ⟨[1, s5], ⟨sE_k _ _, sE_V rfl, trivial⟩, (show SRS (XT hp) (nmR hp (xnm hp)) (1 : Int) s5 from sn_f1 f0.1 (by unfold sNc; omega) (by omega))⟩ (all_nil))
theorem rl175 : ruOk fFS gR175 := by
  intro r hp hO hN hH
  obtain ⟨s0, s1, s2, s3, s4, s5, s6, s7, rfl⟩ := len8 (show r.length = 8 from hN.1)
  have hR := hN.2.1.1
  have hIv : ∀ q ∈ ([(0, .negSucc 2147483647, .ofNat 2147483647), (1, .ofNat 1, .ofNat 3), (2, .negSucc 2147483647, .ofNat 2147483647), (3, .negSucc 2147483647, .ofNat 2147483647), (4, .ofNat 1, .ofNat 1), (5, .negSucc 2147483647, .ofNat 2147483647), (6, .negSucc 2147483647, .ofNat 2147483647), (7, .ofNat 0, .ofNat 29)] : sIv), ∃ x, ([s0, s1, s2, s3, s4, s5, s6, s7] : List Int)[q.1]? = some x ∧ q.2.1 ≤ x ∧ x ≤ q.2.2 := hN.2.1.2
  have b1 : (1 : Int) ≤ s1 ∧ s1 ≤ (3 : Int) := ivX (q := (1, .ofNat 1, .ofNat 3)) (y := s1) (hIv _ (.tail _ (.head _))) rfl
  have b4 : (1 : Int) ≤ s4 ∧ s4 ≤ (1 : Int) := ivX (q := (4, .ofNat 1, .ofNat 1)) (y := s4) (hIv _ (.tail _ (.tail _ (.tail _ (.tail _ (.head _)))))) rfl
  have b7 : (0 : Int) ≤ s7 ∧ s7 ≤ (29 : Int) := ivX (q := (7, .ofNat 0, .ofNat 29)) (y := s7) (hIv _ (.tail _ (.tail _ (.tail _ (.tail _ (.tail _ (.tail _ (.tail _ (.head _))))))))) rfl
  have hFc : ∀ q ∈ ([(192, [(.ofNat 0, [(.ofNat 1, 0)]), (.ofNat 0, [(.ofNat 1, 1)]), (.ofNat 0, [(.ofNat 1, 2)]), (.ofNat 0, [(.ofNat 1, 3)]), (.ofNat 0, [(.ofNat 1, 4)]), (.ofNat 0, [(.ofNat 1, 5)]), (.ofNat 0, [(.ofNat 1, 6)]), (.ofNat 0, [(.ofNat 1, 7)])])] : List sFc), fcOk fFS [s0, s1, s2, s3, s4, s5, s6, s7] hp q := hH.2
  have f0 : SHq (XT hp) (nmR hp (xnm hp)) s0 s1 s2 s3 s4 s5 s6 s7 ∧ s4 ≠ 4 := fcX (ys := [s0, s1, s2, s3, s4, s5, s6, s7]) (hFc _ (.head _)) ⟨sE_V rfl, sE_V rfl, sE_V rfl, sE_V rfl, sE_V rfl, sE_V rfl, sE_V rfl, sE_V rfl, trivial⟩
  exact poX (.head _) rfl hR (all_nil) (all_nil) (all_cons ⟨[1, s5], ⟨sE_k _ _, sE_V rfl, trivial⟩, (show SRS (XT hp) (nmR hp (xnm hp)) (1 : Int) s5 from sn_f1 f0.1 (by unfold sNc; omega) (by omega))⟩ (all_nil))
theorem rl176 : ruOk fFS gR176 := by
  intro r hp hO hN hH
  obtain ⟨s0, s1, s2, s3, s4, s5, s6, rfl⟩ := len7 (show r.length = 7 from hN.1)
  have hR := hN.2.1.1
  have hIv : ∀ q ∈ ([(0, .negSucc 2147483647, .ofNat 2147483647), (1, .ofNat 4, .ofNat 4), (2, .negSucc 2147483647, .ofNat 2147483647), (3, .ofNat 0, .ofNat 0), (4, .negSucc 2147483647, .ofNat 2147483647), (5, .negSucc 2147483647, .ofNat 2147483647), (6, .negSucc 2147483647, .ofNat 2147483647)] : sIv), ∃ x, ([s0, s1, s2, s3, s4, s5, s6] : List Int)[q.1]? = some x ∧ q.2.1 ≤ x ∧ x ≤ q.2.2 := hN.2.1.2
  have b1 : (4 : Int) ≤ s1 ∧ s1 ≤ (4 : Int) := ivX (q := (1, .ofNat 4, .ofNat 4)) (y := s1) (hIv _ (.tail _ (.head _))) rfl
  have b3 : (0 : Int) ≤ s3 ∧ s3 ≤ (0 : Int) := ivX (q := (3, .ofNat 0, .ofNat 0)) (y := s3) (hIv _ (.tail _ (.tail _ (.tail _ (.head _))))) rfl
  have hFc : ∀ q ∈ ([(241, [(.ofNat 0, [(.ofNat 1, 0)]), (.ofNat 0, [(.ofNat 1, 1)]), (.ofNat 0, [(.ofNat 1, 2)]), (.ofNat 0, [(.ofNat 1, 3)]), (.ofNat 0, [(.ofNat 1, 4)]), (.ofNat 0, [(.ofNat 1, 5)]), (.ofNat 0, [(.ofNat 1, 6)])])] : List sFc), fcOk fFS [s0, s1, s2, s3, s4, s5, s6] hp q := hH.2
  have f0 : roH (XT hp) (nmR hp (xnm hp)) (hI hp (hC hp 0 6) 0) (hI hp (hC hp 0 6) 1) s0 s1 s2 s3 s4 s5 s6 ∧ s3 ≠ 4 := fcX (ys := [s0, s1, s2, s3, s4, s5, s6]) (hFc _ (.head _)) ⟨sE_V rfl, sE_V rfl, sE_V rfl, sE_V rfl, sE_V rfl, sE_V rfl, sE_V rfl, trivial⟩
  exact poX (.head _) rfl hR (all_nil) (all_nil) (all_cons ⟨[1, s4], ⟨sE_k _ _, sE_V rfl, trivial⟩, (show roS (XT hp) (nmR hp (xnm hp)) (hI hp (hC hp 0 6) 0) (hI hp (hC hp 0 6) 1) (1 : Int) s4 from ro4_f1 f0.1 (by omega) (by omega))⟩ (all_nil))
theorem rl177 : ruOk fFS gR177 := by
  intro r hp hO hN hH
  obtain ⟨s0, s1, s2, s3, s4, s5, s6, rfl⟩ := len7 (show r.length = 7 from hN.1)
  have hR := hN.2.1.1
  have hIv : ∀ q ∈ ([(0, .negSucc 2147483647, .ofNat 2147483647), (1, .ofNat 4, .ofNat 4), (2, .negSucc 2147483647, .ofNat 2147483647), (3, .ofNat 2, .ofNat 3), (4, .negSucc 2147483647, .ofNat 2147483647), (5, .negSucc 2147483647, .ofNat 2147483647), (6, .negSucc 2147483647, .ofNat 2147483647)] : sIv), ∃ x, ([s0, s1, s2, s3, s4, s5, s6] : List Int)[q.1]? = some x ∧ q.2.1 ≤ x ∧ x ≤ q.2.2 := hN.2.1.2
  have b1 : (4 : Int) ≤ s1 ∧ s1 ≤ (4 : Int) := ivX (q := (1, .ofNat 4, .ofNat 4)) (y := s1) (hIv _ (.tail _ (.head _))) rfl
  have b3 : (2 : Int) ≤ s3 ∧ s3 ≤ (3 : Int) := ivX (q := (3, .ofNat 2, .ofNat 3)) (y := s3) (hIv _ (.tail _ (.tail _ (.tail _ (.head _))))) rfl
  have hFc : ∀ q ∈ ([(241, [(.ofNat 0, [(.ofNat 1, 0)]), (.ofNat 0, [(.ofNat 1, 1)]), (.ofNat 0, [(.ofNat 1, 2)]), (.ofNat 0, [(.ofNat 1, 3)]), (.ofNat 0, [(.ofNat 1, 4)]), (.ofNat 0, [(.ofNat 1, 5)]), (.ofNat 0, [(.ofNat 1, 6)])])] : List sFc), fcOk fFS [s0, s1, s2, s3, s4, s5, s6] hp q := hH.2
  have f0 : roH (XT hp) (nmR hp (xnm hp)) (hI hp (hC hp 0 6) 0) (hI hp (hC hp 0 6) 1) s0 s1 s2 s3 s4 s5 s6 ∧ s3 ≠ 4 := fcX (ys := [s0, s1, s2, s3, s4, s5, s6]) (hFc _ (.head _)) ⟨sE_V rfl, sE_V rfl, sE_V rfl, sE_V rfl, sE_V rfl, sE_V rfl, sE_V rfl, trivial⟩
  exact poX (.head _) rfl hR (all_nil) (all_nil) (all_cons ⟨[1, s4], ⟨sE_k _ _, sE_V rfl, trivial⟩, (show roS (XT hp) (nmR hp (xnm hp)) (hI hp (hC hp 0 6) 0) (hI hp (hC hp 0 6) 1) (1 : Int) s4 from ro4_f1 f0.1 (by omega) (by omega))⟩ (all_nil))
theorem rl178 : ruOk fFS gR178 := by
  intro r hp hO hN hH
  obtain ⟨s0, s1, s2, s3, s4, s5, s6, rfl⟩ := len7 (show r.length = 7 from hN.1)
  have hR := hN.2.1.1
  have hIv : ∀ q ∈ ([(0, .negSucc 2147483647, .ofNat 2147483647), (1, .ofNat 4, .ofNat 4), (2, .negSucc 2147483647, .ofNat 2147483647), (3, .ofNat 1, .ofNat 1), (4, .negSucc 2147483647, .ofNat 2147483647), (5, .negSucc 2147483647, .ofNat 2147483647), (6, .ofNat 0, .ofNat 29)] : sIv), ∃ x, ([s0, s1, s2, s3, s4, s5, s6] : List Int)[q.1]? = some x ∧ q.2.1 ≤ x ∧ x ≤ q.2.2 := hN.2.1.2
  have b1 : (4 : Int) ≤ s1 ∧ s1 ≤ (4 : Int) := ivX (q := (1, .ofNat 4, .ofNat 4)) (y := s1) (hIv _ (.tail _ (.head _))) rfl
  have b3 : (1 : Int) ≤ s3 ∧ s3 ≤ (1 : Int) := ivX (q := (3, .ofNat 1, .ofNat 1)) (y := s3) (hIv _ (.tail _ (.tail _ (.tail _ (.head _))))) rfl
  have b6 : (0 : Int) ≤ s6 ∧ s6 ≤ (29 : Int) := ivX (q := (6, .ofNat 0, .ofNat 29)) (y := s6) (hIv _ (.tail _ (.tail _ (.tail _ (.tail _ (.tail _ (.tail _ (.head _)))))))) rfl
  have hFc : ∀ q ∈ ([(241, [(.ofNat 0, [(.ofNat 1, 0)]), (.ofNat 0, [(.ofNat 1, 1)]), (.ofNat 0, [(.ofNat 1, 2)]), (.ofNat 0, [(.ofNat 1, 3)]), (.ofNat 0, [(.ofNat 1, 4)]), (.ofNat 0, [(.ofNat 1, 5)]), (.ofNat 0, [(.ofNat 1, 6)])])] : List sFc), fcOk fFS [s0, s1, s2, s3, s4, s5, s6] hp q := hH.2
  have f0 : roH (XT hp) (nmR hp (xnm hp)) (hI hp (hC hp 0 6) 0) (hI hp (hC hp 0 6) 1) s0 s1 s2 s3 s4 s5 s6 ∧ s3 ≠ 4 := fcX (ys := [s0, s1, s2, s3, s4, s5, s6]) (hFc _ (.head _)) ⟨sE_V rfl, sE_V rfl, sE_V rfl, sE_V rfl, sE_V rfl, sE_V rfl, sE_V rfl, trivial⟩
  exact poX (.head _) rfl hR (all_nil) (all_nil) (all_cons ⟨[1, s4], ⟨sE_k _ _, sE_V rfl, trivial⟩, (show roS (XT hp) (nmR hp (xnm hp)) (hI hp (hC hp 0 6) 0) (hI hp (hC hp 0 6) 1) (1 : Int) s4 from ro4_f1 f0.1 (by omega) (by omega))⟩ (all_nil))
theorem rl179 : ruOk fFS gR179 := by
  intro r hp hO hN hH
  obtain ⟨s0, s1, s2, s3, s4, s5, s6, s7, s8, s9, s10, s11, s12, s13, s14, rfl⟩ := len15 (show r.length = 15 from hN.1)
  have hR := hN.2.1.1
  have hIv : ∀ q ∈ ([(0, .negSucc 2147483647, .ofNat 2147483647), (1, .negSucc 2147483647, .ofNat 2147483647), (2, .negSucc 2147483647, .ofNat 2147483647), (3, .negSucc 2147483647, .ofNat 2147483647), (4, .negSucc 2147483647, .ofNat 2147483647), (5, .negSucc 2147483647, .ofNat 2147483647), (6, .negSucc 2147483647, .ofNat 2147483647), (7, .negSucc 2147483647, .ofNat 2147483647), (8, .negSucc 2147483647, .ofNat 2147483647), (9, .ofNat 2, .ofNat 3), (10, .negSucc 2147483647, .ofNat 2147483647), (11, .negSucc 2147483647, .ofNat 2147483647), (12, .negSucc 2147483647, .ofNat 2147483647), (13, .negSucc 2147483647, .ofNat 2147483647), (14, .negSucc 2147483647, .ofNat 2147483647)] : sIv), ∃ x, ([s0, s1, s2, s3, s4, s5, s6, s7, s8, s9, s10, s11, s12, s13, s14] : List Int)[q.1]? = some x ∧ q.2.1 ≤ x ∧ x ≤ q.2.2 := hN.2.1.2
  have b9 : (2 : Int) ≤ s9 ∧ s9 ≤ (3 : Int) := ivX (q := (9, .ofNat 2, .ofNat 3)) (y := s9) (hIv _ (.tail _ (.tail _ (.tail _ (.tail _ (.tail _ (.tail _ (.tail _ (.tail _ (.tail _ (.head _))))))))))) rfl
  have hFc : ∀ q ∈ ([(53, [(.ofNat 0, [(.ofNat 1, 0)]), (.ofNat 0, [(.ofNat 1, 1)]), (.ofNat 0, [(.ofNat 1, 2)]), (.ofNat 0, [(.ofNat 1, 3)]), (.ofNat 0, [(.ofNat 1, 4)]), (.ofNat 0, [(.ofNat 1, 5)]), (.ofNat 0, [(.ofNat 1, 6)]), (.ofNat 0, [(.ofNat 1, 7)]), (.ofNat 0, [(.ofNat 1, 8)]), (.ofNat 0, [(.ofNat 1, 9)]), (.ofNat 0, [(.ofNat 1, 10)]), (.ofNat 0, [(.ofNat 1, 11)]), (.ofNat 0, [(.ofNat 1, 12)])]), (57, [(.ofNat 0, [(.ofNat 1, 0)]), (.ofNat 0, [(.ofNat 1, 13)]), (.ofNat 0, [(.ofNat 1, 14)])])] : List sFc), fcOk fFS [s0, s1, s2, s3, s4, s5, s6, s7, s8, s9, s10, s11, s12, s13, s14] hp q := hH.2
  have f0 : Hq (XT hp) s0 s1 s2 s3 s4 s5 s6 s7 s8 s9 s10 s11 s12 ∧ s9 ≠ 4 := fcX (ys := [s0, s1, s2, s3, s4, s5, s6, s7, s8, s9, s10, s11, s12]) (hFc _ (.head _)) ⟨sE_V rfl, sE_V rfl, sE_V rfl, sE_V rfl, sE_V rfl, sE_V rfl, sE_V rfl, sE_V rfl, sE_V rfl, sE_V rfl, sE_V rfl, sE_V rfl, sE_V rfl, trivial⟩
  have f1 : EO (XT hp) s0 s13 s14 := fcX (ys := [s0, s13, s14]) (hFc _ (.tail _ (.head _))) ⟨sE_V rfl, sE_V rfl, sE_V rfl, trivial⟩
  exact poX (.head _) rfl hR (all_nil) (all_nil) (all_cons ⟨[1, s10], ⟨sE_k _ _, sE_V rfl, trivial⟩, (show RS (XT hp) (1 : Int) s10 from eo_f1 (XT_ok hO) f0.1 f1 (by omega))⟩ (all_nil))
theorem rl180 : ruOk fFS gR180 := by
  intro r hp hO hN hH
  obtain ⟨s0, s1, s2, s3, s4, s5, s6, s7, s8, s9, s10, s11, s12, s13, s14, rfl⟩ := len15 (show r.length = 15 from hN.1)
  have hR := hN.2.1.1
  have hIv : ∀ q ∈ ([(0, .negSucc 2147483647, .ofNat 2147483647), (1, .negSucc 2147483647, .ofNat 2147483647), (2, .negSucc 2147483647, .ofNat 2147483647), (3, .negSucc 2147483647, .ofNat 2147483647), (4, .negSucc 2147483647, .ofNat 2147483647), (5, .negSucc 2147483647, .ofNat 2147483647), (6, .negSucc 2147483647, .ofNat 2147483647), (7, .negSucc 2147483647, .ofNat 2147483647), (8, .negSucc 2147483647, .ofNat 2147483647), (9, .ofNat 1, .ofNat 1), (10, .negSucc 2147483647, .ofNat 2147483647), (11, .negSucc 2147483647, .ofNat 2147483647), (12, .ofNat 0, .ofNat 29), (13, .negSucc 2147483647, .ofNat 2147483647), (14, .negSucc 2147483647, .ofNat 2147483647)] : sIv), ∃ x, ([s0, s1, s2, s3, s4, s5, s6, s7, s8, s9, s10, s11, s12, s13, s14] : List Int)[q.1]? = some x ∧ q.2.1 ≤ x ∧ x ≤ q.2.2 := hN.2.1.2
  have b9 : (1 : Int) ≤ s9 ∧ s9 ≤ (1 : Int) := ivX (q := (9, .ofNat 1, .ofNat 1)) (y := s9) (hIv _ (.tail _ (.tail _ (.tail _ (.tail _ (.tail _ (.tail _ (.tail _ (.tail _ (.tail _ (.head _))))))))))) rfl
  have b12 : (0 : Int) ≤ s12 ∧ s12 ≤ (29 : Int) := ivX (q := (12, .ofNat 0, .ofNat 29)) (y := s12) (hIv _ (.tail _ (.tail _ (.tail _ (.tail _ (.tail _ (.tail _ (.tail _ (.tail _ (.tail _ (.tail _ (.tail _ (.tail _ (.head _)))))))))))))) rfl
  have hFc : ∀ q ∈ ([(53, [(.ofNat 0, [(.ofNat 1, 0)]), (.ofNat 0, [(.ofNat 1, 1)]), (.ofNat 0, [(.ofNat 1, 2)]), (.ofNat 0, [(.ofNat 1, 3)]), (.ofNat 0, [(.ofNat 1, 4)]), (.ofNat 0, [(.ofNat 1, 5)]), (.ofNat 0, [(.ofNat 1, 6)]), (.ofNat 0, [(.ofNat 1, 7)]), (.ofNat 0, [(.ofNat 1, 8)]), (.ofNat 0, [(.ofNat 1, 9)]), (.ofNat 0, [(.ofNat 1, 10)]), (.ofNat 0, [(.ofNat 1, 11)]), (.ofNat 0, [(.ofNat 1, 12)])]), (57, [(.ofNat 0, [(.ofNat 1, 0)]), (.ofNat 0, [(.ofNat 1, 13)]), (.ofNat 0, [(.ofNat 1, 14)])])] : List sFc), fcOk fFS [s0, s1, s2, s3, s4, s5, s6, s7, s8, s9, s10, s11, s12, s13, s14] hp q := hH.2
  have f0 : Hq (XT hp) s0 s1 s2 s3 s4 s5 s6 s7 s8 s9 s10 s11 s12 ∧ s9 ≠ 4 := fcX (ys := [s0, s1, s2, s3, s4, s5, s6, s7, s8, s9, s10, s11, s12]) (hFc _ (.head _)) ⟨sE_V rfl, sE_V rfl, sE_V rfl, sE_V rfl, sE_V rfl, sE_V rfl, sE_V rfl, sE_V rfl, sE_V rfl, sE_V rfl, sE_V rfl, sE_V rfl, sE_V rfl, trivial⟩
  have f1 : EO (XT hp) s0 s13 s14 := fcX (ys := [s0, s13, s14]) (hFc _ (.tail _ (.head _))) ⟨sE_V rfl, sE_V rfl, sE_V rfl, trivial⟩
  exact poX (.head _) rfl hR (all_nil) (all_nil) (all_cons ⟨[1, s10], ⟨sE_k _ _, sE_V rfl, trivial⟩, (show RS (XT hp) (1 : Int) s10 from eo_f1 (XT_ok hO) f0.1 f1 (by omega))⟩ (all_nil))
theorem rl181 : ruOk fFS gR181 := by
  intro r hp hO hN hH
  obtain ⟨s0, s1, s2, s3, s4, s5, s6, s7, rfl⟩ := len8 (show r.length = 8 from hN.1)
  have hR := hN.2.1.1
  have hIv : ∀ q ∈ ([(0, .negSucc 2147483647, .ofNat 2147483647), (1, .negSucc 2147483647, .ofNat 2147483647), (2, .negSucc 2147483647, .ofNat 2147483647), (3, .negSucc 2147483647, .ofNat 2147483647), (4, .negSucc 2147483647, .ofNat 2147483647), (5, .negSucc 2147483647, .ofNat 2147483647), (6, .negSucc 2147483647, .ofNat 2147483647), (7, .negSucc 2147483647, .ofNat 2147483647)] : sIv), ∃ x, ([s0, s1, s2, s3, s4, s5, s6, s7] : List Int)[q.1]? = some x ∧ q.2.1 ≤ x ∧ x ≤ q.2.2 := hN.2.1.2
  have hFc : ∀ q ∈ ([(192, [(.ofNat 0, [(.ofNat 1, 0)]), (.ofNat 0, [(.ofNat 1, 1)]), (.ofNat 0, [(.ofNat 1, 2)]), (.ofNat 0, [(.ofNat 1, 3)]), (.ofNat 0, [(.ofNat 1, 4)]), (.ofNat 0, [(.ofNat 1, 5)]), (.ofNat 0, [(.ofNat 1, 6)]), (.ofNat 0, [(.ofNat 1, 7)])])] : List sFc), fcOk fFS [s0, s1, s2, s3, s4, s5, s6, s7] hp q := hH.2
  have f0 : SHq (XT hp) (nmR hp (xnm hp)) s0 s1 s2 s3 s4 s5 s6 s7 ∧ s4 ≠ 4 := fcX (ys := [s0, s1, s2, s3, s4, s5, s6, s7]) (hFc _ (.head _)) ⟨sE_V rfl, sE_V rfl, sE_V rfl, sE_V rfl, sE_V rfl, sE_V rfl, sE_V rfl, sE_V rfl, trivial⟩
  exact poX (.head _) rfl hR (all_nil) (all_nil) (all_cons ⟨[], trivial, (show True from trivial)⟩ (all_nil))
theorem rl182 : ruOk fFS gR182 := by
  intro r hp hO hN hH
  obtain ⟨s0, s1, s2, s3, s4, s5, s6, rfl⟩ := len7 (show r.length = 7 from hN.1)
  have hR := hN.2.1.1
  have hIv : ∀ q ∈ ([(0, .negSucc 2147483647, .ofNat 2147483647), (1, .negSucc 2147483647, .ofNat 2147483647), (2, .negSucc 2147483647, .ofNat 2147483647), (3, .negSucc 2147483647, .ofNat 2147483647), (4, .negSucc 2147483647, .ofNat 2147483647), (5, .negSucc 2147483647, .ofNat 2147483647), (6, .negSucc 2147483647, .ofNat 2147483647)] : sIv), ∃ x, ([s0, s1, s2, s3, s4, s5, s6] : List Int)[q.1]? = some x ∧ q.2.1 ≤ x ∧ x ≤ q.2.2 := hN.2.1.2
  have hFc : ∀ q ∈ ([(241, [(.ofNat 0, [(.ofNat 1, 0)]), (.ofNat 0, [(.ofNat 1, 1)]), (.ofNat 0, [(.ofNat 1, 2)]), (.ofNat 0, [(.ofNat 1, 3)]), (.ofNat 0, [(.ofNat 1, 4)]), (.ofNat 0, [(.ofNat 1, 5)]), (.ofNat 0, [(.ofNat 1, 6)])])] : List sFc), fcOk fFS [s0, s1, s2, s3, s4, s5, s6] hp q := hH.2
  have f0 : roH (XT hp) (nmR hp (xnm hp)) (hI hp (hC hp 0 6) 0) (hI hp (hC hp 0 6) 1) s0 s1 s2 s3 s4 s5 s6 ∧ s3 ≠ 4 := fcX (ys := [s0, s1, s2, s3, s4, s5, s6]) (hFc _ (.head _)) ⟨sE_V rfl, sE_V rfl, sE_V rfl, sE_V rfl, sE_V rfl, sE_V rfl, sE_V rfl, trivial⟩
  exact poX (.head _) rfl hR (all_nil) (all_nil) (all_cons ⟨[], trivial, (show True from trivial)⟩ (all_nil))
theorem rl183 : ruOk fFS gR183 := by
  intro r hp hO hN hH
  obtain ⟨s0, s1, rfl⟩ := len2 (show r.length = 2 from hN.1)
  have hR := hN.2.1.1
  have hIv : ∀ q ∈ ([(1, .negSucc 2147483647, .ofNat 2147483647)] : sIv), ∃ x, ([s0, s1] : List Int)[q.1]? = some x ∧ q.2.1 ≤ x ∧ x ≤ q.2.2 := hN.2.1.2
  have hFc : ∀ q ∈ ([(61, [(.ofNat 0, [(.ofNat 1, 1)])])] : List sFc), fcOk fFS [s0, s1] hp q := hH.2
  have f0 : dF (XT hp) s1 (fun D => ∀ j : Nat, j < 12 → hL hp (rr hp 1 7) j = cd 32 96 (nm D j)) := fcX (ys := [s1]) (hFc _ (.head _)) ⟨sE_V rfl, trivial⟩
  exact poX (.head _) rfl hR (all_nil) (all_nil) (all_cons ⟨[0, s0], ⟨sE_k _ _, sE_V rfl, trivial⟩, (show ∀ j : Nat, j < 12 → (j : Int) < (0 : Int) → hL hp (rr hp 1 7) j ≠ s0 from fun j _ w => absurd w (by omega))⟩ (all_nil))
theorem rl184 : ruOk fFS gR184 := by
  intro r hp hO hN hH
  obtain ⟨s0, rfl⟩ := len1 (show r.length = 1 from hN.1)
  have hR := hN.2.1.1
  have hFc : ∀ q ∈ ([(203, [])] : List sFc), fcOk fFS [s0] hp q := hH.2
  have f0 : True := fcX (ys := []) (hFc _ (.head _)) trivial
  exact poX (.head _) rfl hR (all_nil) (all_nil) (all_cons ⟨[0, s0], ⟨sE_k _ _, sE_V rfl, trivial⟩, (show ∀ j : Nat, j < 12 → (j : Int) < (0 : Int) → hL hp (xnm hp) j ≠ s0 from fun j _ w => absurd w (by omega))⟩ (all_nil))
theorem rl185 : ruOk fFS gR185 := by
  intro r hp hO hN hH
  obtain ⟨s0, s1, s2, rfl⟩ := len3 (show r.length = 3 from hN.1)
  have hR := hN.2.1.1
  have hIv : ∀ q ∈ ([(1, .ofNat 0, .ofNat 11)] : sIv), ∃ x, ([s0, s1, s2] : List Int)[q.1]? = some x ∧ q.2.1 ≤ x ∧ x ≤ q.2.2 := hN.2.1.2
  have b0 : (0 : Int) ≤ s1 ∧ s1 ≤ (11 : Int) := ivX (q := (1, .ofNat 0, .ofNat 11)) (y := s1) (hIv _ (.head _)) rfl
  have hCs : ∀ c ∈ ([(.ofNat 1, [(.ofNat 1, 0), (.negSucc 0, 2)])] : List sLn), ∃ x, sE [s0, s1, s2] c = some x ∧ x ≤ 0 := hN.2.2.1
  have c0 : ((1 : Int) + ((1 : Int) * s0 + ((-1 : Int) * s2 + 0))) ≤ 0 := csX (hCs _ (.head _)) rfl
  have hRf : ∀ q ∈ ([((43, .ofNat 176, []), (.ofNat 1, []), 114, .ofNat 15, []), ((98, .ofNat 15, []), (.ofNat 7, []), 115, .ofNat 16, []), ((99, .ofNat 16, []), (.ofNat 0, [(.ofNat 1, 1)]), 5, .ofNat 0, [(.ofNat 1, 2)])] : List sRf), rfOk [s0, s1, s2] hp q := hH.1
  have g0 : hC hp 176 1 = 15 := by
    have u := rfR0 (xv := (15 : Int)) (c0 := 176) (i0 := 1) (hRf _ (.head _)) (sE_k _ _) (sE_k _ _) (sE_k _ _)
    show hC hp (176) 1 = 15
    omega
  have g1 : rr hp 1 7 = 16 := by
    have u := rfR0 (xv := (16 : Int)) (c0 := hC hp 176 1) (i0 := 7) (hRf _ (.tail _ (.head _))) (by rw [g0]; exact sE_k _ _) (sE_k _ _) (sE_k _ _)
    show hC hp (hC hp 176 1) 7 = 16
    omega
  obtain ⟨i2, e2, l2, h2⟩ := rfL (c0 := rr hp 1 7) (iv := s1) (hRf _ (.tail _ (.tail _ (.head _)))) (by rw [g1]; exact sE_k _ _) (sE_V rfl) (sE_V rfl)
  have l2 : i2 < 12 := l2
  have h2 : hL hp (rr hp 1 7) i2 = s2 := h2
  have hFc : ∀ q ∈ ([(65, [(.ofNat 0, [(.ofNat 1, 1)]), (.ofNat 0, [(.ofNat 1, 0)])])] : List sFc), fcOk fFS [s0, s1, s2] hp q := hH.2
  have f0 : ∀ j : Nat, j < 12 → (j : Int) < s1 → hL hp (rr hp 1 7) j ≠ s0 := fcX (ys := [s1, s0]) (hFc _ (.head _)) ⟨sE_V rfl, sE_V rfl, trivial⟩
  exact poX (.head _) rfl hR (all_nil) (all_nil) (all_cons ⟨[(s1 + 1), s0], ⟨sEv (y' := ((1 : Int) + ((1 : Int) * s1 + 0))) rfl (by omega), sE_V rfl, trivial⟩, (show ∀ j : Nat, j < 12 → (j : Int) < (s1 + 1) → hL hp (rr hp 1 7) j ≠ s0 from sw_s f0 h2 (by omega) (by omega) (by omega))⟩ (all_nil))
theorem rl186 : ruOk fFS gR186 := by
  intro r hp hO hN hH
  obtain ⟨s0, s1, s2, rfl⟩ := len3 (show r.length = 3 from hN.1)
  have hR := hN.2.1.1
  have hIv : ∀ q ∈ ([(1, .ofNat 0, .ofNat 11)] : sIv), ∃ x, ([s0, s1, s2] : List Int)[q.1]? = some x ∧ q.2.1 ≤ x ∧ x ≤ q.2.2 := hN.2.1.2
  have b0 : (0 : Int) ≤ s1 ∧ s1 ≤ (11 : Int) := ivX (q := (1, .ofNat 0, .ofNat 11)) (y := s1) (hIv _ (.head _)) rfl
  have hCs : ∀ c ∈ ([(.ofNat 1, [(.ofNat 1, 0), (.negSucc 0, 2)])] : List sLn), ∃ x, sE [s0, s1, s2] c = some x ∧ x ≤ 0 := hN.2.2.1
  have c0 : ((1 : Int) + ((1 : Int) * s0 + ((-1 : Int) * s2 + 0))) ≤ 0 := csX (hCs _ (.head _)) rfl
  have hRf : ∀ q ∈ ([((0, .ofNat 0, []), (.ofNat 6, []), 114, .ofNat 15, []), ((98, .ofNat 15, []), (.ofNat 7, []), 115, .ofNat 16, []), ((99, .ofNat 16, []), (.ofNat 0, [(.ofNat 1, 1)]), 5, .ofNat 0, [(.ofNat 1, 2)])] : List sRf), rfOk [s0, s1, s2] hp q := hH.1
  have g0 : hC hp 0 6 = 15 := by
    have u := rfR0 (xv := (15 : Int)) (c0 := 0) (i0 := 6) (hRf _ (.head _)) (sE_k _ _) (sE_k _ _) (sE_k _ _)
    show hC hp (0) 6 = 15
    omega
  have g1 : hC hp (hC hp 0 6) 7 = 16 := by
    have u := rfR0 (xv := (16 : Int)) (c0 := hC hp 0 6) (i0 := 7) (hRf _ (.tail _ (.head _))) (by rw [g0]; exact sE_k _ _) (sE_k _ _) (sE_k _ _)
    show hC hp (hC hp 0 6) 7 = 16
    omega
  obtain ⟨i2, e2, l2, h2⟩ := rfL (c0 := hC hp (hC hp 0 6) 7) (iv := s1) (hRf _ (.tail _ (.tail _ (.head _)))) (by rw [g1]; exact sE_k _ _) (sE_V rfl) (sE_V rfl)
  have l2 : i2 < 12 := l2
  have h2 : hL hp (hC hp (hC hp 0 6) 7) i2 = s2 := h2
  have hFc : ∀ q ∈ ([(198, [(.ofNat 0, [(.ofNat 1, 1)]), (.ofNat 0, [(.ofNat 1, 0)])])] : List sFc), fcOk fFS [s0, s1, s2] hp q := hH.2
  have f0 : ∀ j : Nat, j < 12 → (j : Int) < s1 → hL hp (xnm hp) j ≠ s0 := fcX (ys := [s1, s0]) (hFc _ (.head _)) ⟨sE_V rfl, sE_V rfl, trivial⟩
  exact poX (.head _) rfl hR (all_nil) (all_nil) (all_cons ⟨[(s1 + 1), s0], ⟨sEv (y' := ((1 : Int) + ((1 : Int) * s1 + 0))) rfl (by omega), sE_V rfl, trivial⟩, (show ∀ j : Nat, j < 12 → (j : Int) < (s1 + 1) → hL hp (xnm hp) j ≠ s0 from scv_s f0 h2 (by omega) (by omega) (by omega))⟩ (all_nil))
theorem rl187 : ruOk fFS gR187 := by
  intro r hp hO hN hH
  obtain ⟨s0, s1, s2, rfl⟩ := len3 (show r.length = 3 from hN.1)
  have hR := hN.2.1.1
  have hIv : ∀ q ∈ ([(1, .ofNat 0, .ofNat 11)] : sIv), ∃ x, ([s0, s1, s2] : List Int)[q.1]? = some x ∧ q.2.1 ≤ x ∧ x ≤ q.2.2 := hN.2.1.2
  have b0 : (0 : Int) ≤ s1 ∧ s1 ≤ (11 : Int) := ivX (q := (1, .ofNat 0, .ofNat 11)) (y := s1) (hIv _ (.head _)) rfl
  have hCs : ∀ c ∈ ([(.ofNat 1, [(.negSucc 0, 0), (.ofNat 1, 2)])] : List sLn), ∃ x, sE [s0, s1, s2] c = some x ∧ x ≤ 0 := hN.2.2.1
  have c0 : ((1 : Int) + ((-1 : Int) * s0 + ((1 : Int) * s2 + 0))) ≤ 0 := csX (hCs _ (.head _)) rfl
  have hRf : ∀ q ∈ ([((0, .ofNat 0, []), (.ofNat 6, []), 114, .ofNat 15, []), ((98, .ofNat 15, []), (.ofNat 7, []), 115, .ofNat 16, []), ((99, .ofNat 16, []), (.ofNat 0, [(.ofNat 1, 1)]), 5, .ofNat 0, [(.ofNat 1, 2)])] : List sRf), rfOk [s0, s1, s2] hp q := hH.1
  have g0 : hC hp 0 6 = 15 := by
    have u := rfR0 (xv := (15 : Int)) (c0 := 0) (i0 := 6) (hRf _ (.head _)) (sE_k _ _) (sE_k _ _) (sE_k _ _)
    show hC hp (0) 6 = 15
    omega
  have g1 : hC hp (hC hp 0 6) 7 = 16 := by
    have u := rfR0 (xv := (16 : Int)) (c0 := hC hp 0 6) (i0 := 7) (hRf _ (.tail _ (.head _))) (by rw [g0]; exact sE_k _ _) (sE_k _ _) (sE_k _ _)
    show hC hp (hC hp 0 6) 7 = 16
    omega
  obtain ⟨i2, e2, l2, h2⟩ := rfL (c0 := hC hp (hC hp 0 6) 7) (iv := s1) (hRf _ (.tail _ (.tail _ (.head _)))) (by rw [g1]; exact sE_k _ _) (sE_V rfl) (sE_V rfl)
  have l2 : i2 < 12 := l2
  have h2 : hL hp (hC hp (hC hp 0 6) 7) i2 = s2 := h2
  have hFc : ∀ q ∈ ([(198, [(.ofNat 0, [(.ofNat 1, 1)]), (.ofNat 0, [(.ofNat 1, 0)])])] : List sFc), fcOk fFS [s0, s1, s2] hp q := hH.2
  have f0 : ∀ j : Nat, j < 12 → (j : Int) < s1 → hL hp (xnm hp) j ≠ s0 := fcX (ys := [s1, s0]) (hFc _ (.head _)) ⟨sE_V rfl, sE_V rfl, trivial⟩
  exact poX (.head _) rfl hR (all_nil) (all_nil) (all_cons ⟨[(s1 + 1), s0], ⟨sEv (y' := ((1 : Int) + ((1 : Int) * s1 + 0))) rfl (by omega), sE_V rfl, trivial⟩, (show ∀ j : Nat, j < 12 → (j : Int) < (s1 + 1) → hL hp (xnm hp) j ≠ s0 from scv_s f0 h2 (by omega) (by omega) (by omega))⟩ (all_nil))
theorem rl188 : ruOk fFS gR188 := by
  intro r hp hO hN hH
  obtain ⟨s0, s1, s2, s3, rfl⟩ := len4 (show r.length = 4 from hN.1)
  have hR := hN.2.1.1
  have hIv : ∀ q ∈ ([(1, .ofNat 0, .ofNat 11), (3, .negSucc 2147483647, .ofNat 2147483647)] : sIv), ∃ x, ([s0, s1, s2, s3] : List Int)[q.1]? = some x ∧ q.2.1 ≤ x ∧ x ≤ q.2.2 := hN.2.1.2
  have b0 : (0 : Int) ≤ s1 ∧ s1 ≤ (11 : Int) := ivX (q := (1, .ofNat 0, .ofNat 11)) (y := s1) (hIv _ (.head _)) rfl
  have hCs : ∀ c ∈ ([(.ofNat 0, [(.ofNat 1, 0), (.negSucc 0, 2)]), (.ofNat 0, [(.negSucc 0, 0), (.ofNat 1, 2)])] : List sLn), ∃ x, sE [s0, s1, s2, s3] c = some x ∧ x ≤ 0 := hN.2.2.1
  have c0 : ((0 : Int) + ((1 : Int) * s0 + ((-1 : Int) * s2 + 0))) ≤ 0 := csX (hCs _ (.head _)) rfl
  have c1 : ((0 : Int) + ((-1 : Int) * s0 + ((1 : Int) * s2 + 0))) ≤ 0 := csX (hCs _ (.tail _ (.head _))) rfl
  have hRf : ∀ q ∈ ([((43, .ofNat 176, []), (.ofNat 1, []), 114, .ofNat 15, []), ((98, .ofNat 15, []), (.ofNat 7, []), 115, .ofNat 16, []), ((99, .ofNat 16, []), (.ofNat 0, [(.ofNat 1, 1)]), 5, .ofNat 0, [(.ofNat 1, 2)])] : List sRf), rfOk [s0, s1, s2, s3] hp q := hH.1
  have g0 : hC hp 176 1 = 15 := by
    have u := rfR0 (xv := (15 : Int)) (c0 := 176) (i0 := 1) (hRf _ (.head _)) (sE_k _ _) (sE_k _ _) (sE_k _ _)
    show hC hp (176) 1 = 15
    omega
  have g1 : rr hp 1 7 = 16 := by
    have u := rfR0 (xv := (16 : Int)) (c0 := hC hp 176 1) (i0 := 7) (hRf _ (.tail _ (.head _))) (by rw [g0]; exact sE_k _ _) (sE_k _ _) (sE_k _ _)
    show hC hp (hC hp 176 1) 7 = 16
    omega
  obtain ⟨i2, e2, l2, h2⟩ := rfL (c0 := rr hp 1 7) (iv := s1) (hRf _ (.tail _ (.tail _ (.head _)))) (by rw [g1]; exact sE_k _ _) (sE_V rfl) (sE_V rfl)
  have l2 : i2 < 12 := l2
  have h2 : hL hp (rr hp 1 7) i2 = s2 := h2
  have hFc : ∀ q ∈ ([(65, [(.ofNat 0, [(.ofNat 1, 1)]), (.ofNat 0, [(.ofNat 1, 0)])]), (61, [(.ofNat 0, [(.ofNat 1, 3)])])] : List sFc), fcOk fFS [s0, s1, s2, s3] hp q := hH.2
  have f0 : ∀ j : Nat, j < 12 → (j : Int) < s1 → hL hp (rr hp 1 7) j ≠ s0 := fcX (ys := [s1, s0]) (hFc _ (.head _)) ⟨sE_V rfl, sE_V rfl, trivial⟩
  have f1 : dF (XT hp) s3 (fun D => ∀ j : Nat, j < 12 → hL hp (rr hp 1 7) j = cd 32 96 (nm D j)) := fcX (ys := [s3]) (hFc _ (.tail _ (.head _))) ⟨sE_V rfl, trivial⟩
  exact poX (.head _) rfl hR (all_nil) (all_nil) (all_cons ⟨[s3, s0, s1], ⟨sE_V rfl, sE_V rfl, sE_V rfl, trivial⟩, (show dF (XT hp) s3 (fun D => scP D s0 s1) from sc_f f1 h2 l2 e2 (by omega))⟩ (all_nil))
theorem rl189 : ruOk fFS gR189 := by
  intro r hp hO hN hH
  obtain ⟨s0, s1, s2, rfl⟩ := len3 (show r.length = 3 from hN.1)
  have hR := hN.2.1.1
  have hIv : ∀ q ∈ ([(1, .ofNat 0, .ofNat 11)] : sIv), ∃ x, ([s0, s1, s2] : List Int)[q.1]? = some x ∧ q.2.1 ≤ x ∧ x ≤ q.2.2 := hN.2.1.2
  have b0 : (0 : Int) ≤ s1 ∧ s1 ≤ (11 : Int) := ivX (q := (1, .ofNat 0, .ofNat 11)) (y := s1) (hIv _ (.head _)) rfl
  have hCs : ∀ c ∈ ([(.ofNat 0, [(.ofNat 1, 0), (.negSucc 0, 2)]), (.ofNat 0, [(.negSucc 0, 0), (.ofNat 1, 2)])] : List sLn), ∃ x, sE [s0, s1, s2] c = some x ∧ x ≤ 0 := hN.2.2.1
  have c0 : ((0 : Int) + ((1 : Int) * s0 + ((-1 : Int) * s2 + 0))) ≤ 0 := csX (hCs _ (.head _)) rfl
  have c1 : ((0 : Int) + ((-1 : Int) * s0 + ((1 : Int) * s2 + 0))) ≤ 0 := csX (hCs _ (.tail _ (.head _))) rfl
  have hRf : ∀ q ∈ ([((0, .ofNat 0, []), (.ofNat 6, []), 114, .ofNat 15, []), ((98, .ofNat 15, []), (.ofNat 7, []), 115, .ofNat 16, []), ((99, .ofNat 16, []), (.ofNat 0, [(.ofNat 1, 1)]), 5, .ofNat 0, [(.ofNat 1, 2)])] : List sRf), rfOk [s0, s1, s2] hp q := hH.1
  have g0 : hC hp 0 6 = 15 := by
    have u := rfR0 (xv := (15 : Int)) (c0 := 0) (i0 := 6) (hRf _ (.head _)) (sE_k _ _) (sE_k _ _) (sE_k _ _)
    show hC hp (0) 6 = 15
    omega
  have g1 : hC hp (hC hp 0 6) 7 = 16 := by
    have u := rfR0 (xv := (16 : Int)) (c0 := hC hp 0 6) (i0 := 7) (hRf _ (.tail _ (.head _))) (by rw [g0]; exact sE_k _ _) (sE_k _ _) (sE_k _ _)
    show hC hp (hC hp 0 6) 7 = 16
    omega
  obtain ⟨i2, e2, l2, h2⟩ := rfL (c0 := hC hp (hC hp 0 6) 7) (iv := s1) (hRf _ (.tail _ (.tail _ (.head _)))) (by rw [g1]; exact sE_k _ _) (sE_V rfl) (sE_V rfl)
  have l2 : i2 < 12 := l2
  have h2 : hL hp (hC hp (hC hp 0 6) 7) i2 = s2 := h2
  have hFc : ∀ q ∈ ([(198, [(.ofNat 0, [(.ofNat 1, 1)]), (.ofNat 0, [(.ofNat 1, 0)])])] : List sFc), fcOk fFS [s0, s1, s2] hp q := hH.2
  have f0 : ∀ j : Nat, j < 12 → (j : Int) < s1 → hL hp (xnm hp) j ≠ s0 := fcX (ys := [s1, s0]) (hFc _ (.head _)) ⟨sE_V rfl, sE_V rfl, trivial⟩
  exact poX (.head _) rfl hR (all_nil) (all_nil) (all_cons ⟨[s0, s1], ⟨sE_V rfl, sE_V rfl, trivial⟩, (show scW (fun j => hL hp (xnm hp) j) s0 s1 from scv_f f0 h2 l2 e2 (by omega))⟩ (all_nil))
theorem rl190 : ruOk fFS gR190 := by
  intro r hp hO hN hH
  obtain ⟨s0, s1, s2, rfl⟩ := len3 (show r.length = 3 from hN.1)
  have hR := hN.2.1.1
  have hIv : ∀ q ∈ ([(1, .ofNat 0, .ofNat 11)] : sIv), ∃ x, ([s0, s1, s2] : List Int)[q.1]? = some x ∧ q.2.1 ≤ x ∧ x ≤ q.2.2 := hN.2.1.2
  have b0 : (0 : Int) ≤ s1 ∧ s1 ≤ (11 : Int) := ivX (q := (1, .ofNat 0, .ofNat 11)) (y := s1) (hIv _ (.head _)) rfl
  have hCs : ∀ c ∈ ([(.ofNat 1, [(.negSucc 0, 0), (.ofNat 1, 2)])] : List sLn), ∃ x, sE [s0, s1, s2] c = some x ∧ x ≤ 0 := hN.2.2.1
  have c0 : ((1 : Int) + ((-1 : Int) * s0 + ((1 : Int) * s2 + 0))) ≤ 0 := csX (hCs _ (.head _)) rfl
  have hRf : ∀ q ∈ ([((43, .ofNat 176, []), (.ofNat 1, []), 114, .ofNat 15, []), ((98, .ofNat 15, []), (.ofNat 7, []), 115, .ofNat 16, []), ((99, .ofNat 16, []), (.ofNat 0, [(.ofNat 1, 1)]), 5, .ofNat 0, [(.ofNat 1, 2)])] : List sRf), rfOk [s0, s1, s2] hp q := hH.1
  have g0 : hC hp 176 1 = 15 := by
    have u := rfR0 (xv := (15 : Int)) (c0 := 176) (i0 := 1) (hRf _ (.head _)) (sE_k _ _) (sE_k _ _) (sE_k _ _)
    show hC hp (176) 1 = 15
    omega
  have g1 : rr hp 1 7 = 16 := by
    have u := rfR0 (xv := (16 : Int)) (c0 := hC hp 176 1) (i0 := 7) (hRf _ (.tail _ (.head _))) (by rw [g0]; exact sE_k _ _) (sE_k _ _) (sE_k _ _)
    show hC hp (hC hp 176 1) 7 = 16
    omega
  obtain ⟨i2, e2, l2, h2⟩ := rfL (c0 := rr hp 1 7) (iv := s1) (hRf _ (.tail _ (.tail _ (.head _)))) (by rw [g1]; exact sE_k _ _) (sE_V rfl) (sE_V rfl)
  have l2 : i2 < 12 := l2
  have h2 : hL hp (rr hp 1 7) i2 = s2 := h2
  have hFc : ∀ q ∈ ([(65, [(.ofNat 0, [(.ofNat 1, 1)]), (.ofNat 0, [(.ofNat 1, 0)])])] : List sFc), fcOk fFS [s0, s1, s2] hp q := hH.2
  have f0 : ∀ j : Nat, j < 12 → (j : Int) < s1 → hL hp (rr hp 1 7) j ≠ s0 := fcX (ys := [s1, s0]) (hFc _ (.head _)) ⟨sE_V rfl, sE_V rfl, trivial⟩
  exact poX (.head _) rfl hR (all_nil) (all_nil) (all_cons ⟨[(s1 + 1), s0], ⟨sEv (y' := ((1 : Int) + ((1 : Int) * s1 + 0))) rfl (by omega), sE_V rfl, trivial⟩, (show ∀ j : Nat, j < 12 → (j : Int) < (s1 + 1) → hL hp (rr hp 1 7) j ≠ s0 from sw_s f0 h2 (by omega) (by omega) (by omega))⟩ (all_nil))
theorem rl191 : ruOk fFS gR191 := by
  intro r hp hO hN hH
  obtain ⟨s0, s1, s2, rfl⟩ := len3 (show r.length = 3 from hN.1)
  have hR := hN.2.1.1
  have hIv : ∀ q ∈ ([(1, .ofNat 12, .ofNat 12), (2, .negSucc 2147483647, .ofNat 2147483647)] : sIv), ∃ x, ([s0, s1, s2] : List Int)[q.1]? = some x ∧ q.2.1 ≤ x ∧ x ≤ q.2.2 := hN.2.1.2
  have b0 : (12 : Int) ≤ s1 ∧ s1 ≤ (12 : Int) := ivX (q := (1, .ofNat 12, .ofNat 12)) (y := s1) (hIv _ (.head _)) rfl
  have hFc : ∀ q ∈ ([(65, [(.ofNat 0, [(.ofNat 1, 1)]), (.ofNat 0, [(.ofNat 1, 0)])]), (61, [(.ofNat 0, [(.ofNat 1, 2)])])] : List sFc), fcOk fFS [s0, s1, s2] hp q := hH.2
  have f0 : ∀ j : Nat, j < 12 → (j : Int) < s1 → hL hp (rr hp 1 7) j ≠ s0 := fcX (ys := [s1, s0]) (hFc _ (.head _)) ⟨sE_V rfl, sE_V rfl, trivial⟩
  have f1 : dF (XT hp) s2 (fun D => ∀ j : Nat, j < 12 → hL hp (rr hp 1 7) j = cd 32 96 (nm D j)) := fcX (ys := [s2]) (hFc _ (.tail _ (.head _))) ⟨sE_V rfl, trivial⟩
  exact poX (.head _) rfl hR (all_nil) (all_nil) (all_cons ⟨[s2, s0, (-1)], ⟨sE_V rfl, sE_V rfl, sE_k _ _, trivial⟩, (show dF (XT hp) s2 (fun D => scP D s0 (-1 : Int)) from sc_n f1 f0 (by omega))⟩ (all_nil))
theorem rl192 : ruOk fFS gR192 := by
  intro r hp hO hN hH
  obtain ⟨s0, s1, rfl⟩ := len2 (show r.length = 2 from hN.1)
  have hR := hN.2.1.1
  have hIv : ∀ q ∈ ([(1, .ofNat 12, .ofNat 12)] : sIv), ∃ x, ([s0, s1] : List Int)[q.1]? = some x ∧ q.2.1 ≤ x ∧ x ≤ q.2.2 := hN.2.1.2
  have b0 : (12 : Int) ≤ s1 ∧ s1 ≤ (12 : Int) := ivX (q := (1, .ofNat 12, .ofNat 12)) (y := s1) (hIv _ (.head _)) rfl
  have hFc : ∀ q ∈ ([(198, [(.ofNat 0, [(.ofNat 1, 1)]), (.ofNat 0, [(.ofNat 1, 0)])])] : List sFc), fcOk fFS [s0, s1] hp q := hH.2
  have f0 : ∀ j : Nat, j < 12 → (j : Int) < s1 → hL hp (xnm hp) j ≠ s0 := fcX (ys := [s1, s0]) (hFc _ (.head _)) ⟨sE_V rfl, sE_V rfl, trivial⟩
  exact poX (.head _) rfl hR (all_nil) (all_nil) (all_cons ⟨[s0, (-1)], ⟨sE_V rfl, sE_k _ _, trivial⟩, (show scW (fun j => hL hp (xnm hp) j) s0 (-1 : Int) from scv_n f0 (by omega))⟩ (all_nil))
theorem rl193 : ruOk fFS gR193 := by
  intro r hp hO hN hH
  obtain ⟨s0, s1, s2, s3, s4, s5, s6, s7, s8, s9, s10, s11, s12, s13, s14, rfl⟩ := len15 (show r.length = 15 from hN.1)
  have hR := hN.2.1.1
  have hIv : ∀ q ∈ ([(1, .negSucc 2147483647, .ofNat 2147483647), (2, .negSucc 2147483647, .ofNat 2147483647), (3, .negSucc 2147483647, .ofNat 2147483647), (4, .negSucc 2147483647, .ofNat 2147483647), (5, .negSucc 2147483647, .ofNat 2147483647), (6, .negSucc 2147483647, .ofNat 2147483647), (7, .negSucc 2147483647, .ofNat 2147483647), (8, .negSucc 2147483647, .ofNat 2147483647), (9, .negSucc 2147483647, .ofNat 2147483647), (10, .negSucc 2147483647, .ofNat 2147483647), (11, .negSucc 2147483647, .ofNat 2147483647), (12, .negSucc 2147483647, .ofNat 2147483647), (13, .negSucc 2147483647, .ofNat 2147483647), (14, .negSucc 2147483647, .ofNat 2147483647)] : sIv), ∃ x, ([s0, s1, s2, s3, s4, s5, s6, s7, s8, s9, s10, s11, s12, s13, s14] : List Int)[q.1]? = some x ∧ q.2.1 ≤ x ∧ x ≤ q.2.2 := hN.2.1.2
  have hRf : ∀ q ∈ ([((40, .ofNat 173, []), (.ofNat 8, []), 5, .ofNat 0, [(.ofNat 1, 0)])] : List sRf), rfOk [s0, s1, s2, s3, s4, s5, s6, s7, s8, s9, s10, s11, s12, s13, s14] hp q := hH.1
  have h0 : hL hp 173 8 = s0 := rfL0 (hRf _ (.head _)) (sE_k _ _) (sE_k _ _) (sE_V rfl)
  have hFc : ∀ q ∈ ([(53, [(.ofNat 0, [(.ofNat 1, 1)]), (.ofNat 0, [(.ofNat 1, 2)]), (.ofNat 0, [(.ofNat 1, 3)]), (.ofNat 0, [(.ofNat 1, 4)]), (.ofNat 0, [(.ofNat 1, 5)]), (.ofNat 0, [(.ofNat 1, 6)]), (.ofNat 0, [(.ofNat 1, 7)]), (.ofNat 0, [(.ofNat 1, 8)]), (.ofNat 0, [(.ofNat 1, 9)]), (.ofNat 0, [(.ofNat 1, 10)]), (.ofNat 0, [(.ofNat 1, 11)]), (.ofNat 0, [(.ofNat 1, 12)]), (.ofNat 0, [(.ofNat 1, 13)])]), (66, [(.ofNat 0, [(.ofNat 1, 3)]), (.ofNat 0, [(.ofNat 1, 0)]), (.ofNat 0, [(.ofNat 1, 14)])]), (48, [(.ofNat 0, [(.ofNat 1, 11)]), (.ofNat 0, [(.ofNat 1, 12)])])] : List sFc), fcOk fFS [s0, s1, s2, s3, s4, s5, s6, s7, s8, s9, s10, s11, s12, s13, s14] hp q := hH.2
  have f0 : Hq (XT hp) s1 s2 s3 s4 s5 s6 s7 s8 s9 s10 s11 s12 s13 ∧ s10 ≠ 4 := fcX (ys := [s1, s2, s3, s4, s5, s6, s7, s8, s9, s10, s11, s12, s13]) (hFc _ (.head _)) ⟨sE_V rfl, sE_V rfl, sE_V rfl, sE_V rfl, sE_V rfl, sE_V rfl, sE_V rfl, sE_V rfl, sE_V rfl, sE_V rfl, sE_V rfl, sE_V rfl, sE_V rfl, trivial⟩
  have f1 : dF (XT hp) s3 (fun D => scP D s0 s14) := fcX (ys := [s3, s0, s14]) (hFc _ (.tail _ (.head _))) ⟨sE_V rfl, sE_V rfl, sE_V rfl, trivial⟩
  have f2 : isW (bs (XB hp) s11 s12) ∧ hL hp 173 8 = cd 32 96 (bs (XB hp) s11 s12) := fcX (ys := [s11, s12]) (hFc _ (.tail _ (.tail _ (.head _)))) ⟨sE_V rfl, sE_V rfl, trivial⟩
  exact poX (.head _) rfl hR (all_nil) (all_nil) (all_cons ⟨[s3, s11, s12, s14], ⟨sE_V rfl, sE_V rfl, sE_V rfl, sE_V rfl, trivial⟩, (show SL (XT hp) s3 s11 s12 s14 from sl_x hO f0 f1 f2 h0)⟩ (all_nil))
theorem rl194 : ruOk fFS gR194 := by
  intro r hp hO hN hH
  obtain ⟨s0, s1, s2, s3, s4, s5, s6, s7, s8, s9, rfl⟩ := len10 (show r.length = 10 from hN.1)
  have hR := hN.2.1.1
  have hIv : ∀ q ∈ ([(1, .negSucc 2147483647, .ofNat 2147483647), (2, .negSucc 2147483647, .ofNat 2147483647), (3, .negSucc 2147483647, .ofNat 2147483647), (4, .negSucc 2147483647, .ofNat 2147483647), (5, .negSucc 2147483647, .ofNat 2147483647), (6, .negSucc 2147483647, .ofNat 2147483647), (7, .negSucc 2147483647, .ofNat 2147483647), (8, .negSucc 2147483647, .ofNat 2147483647), (9, .negSucc 2147483647, .ofNat 2147483647)] : sIv), ∃ x, ([s0, s1, s2, s3, s4, s5, s6, s7, s8, s9] : List Int)[q.1]? = some x ∧ q.2.1 ≤ x ∧ x ≤ q.2.2 := hN.2.1.2
  have hRf : ∀ q ∈ ([((40, .ofNat 173, []), (.ofNat 8, []), 5, .ofNat 0, [(.ofNat 1, 0)])] : List sRf), rfOk [s0, s1, s2, s3, s4, s5, s6, s7, s8, s9] hp q := hH.1
  have h0 : hL hp 173 8 = s0 := rfL0 (hRf _ (.head _)) (sE_k _ _) (sE_k _ _) (sE_V rfl)
  have hFc : ∀ q ∈ ([(192, [(.ofNat 0, [(.ofNat 1, 1)]), (.ofNat 0, [(.ofNat 1, 2)]), (.ofNat 0, [(.ofNat 1, 3)]), (.ofNat 0, [(.ofNat 1, 4)]), (.ofNat 0, [(.ofNat 1, 5)]), (.ofNat 0, [(.ofNat 1, 6)]), (.ofNat 0, [(.ofNat 1, 7)]), (.ofNat 0, [(.ofNat 1, 8)])]), (195, [(.ofNat 0, [(.ofNat 1, 0)]), (.ofNat 0, [(.ofNat 1, 9)])]), (48, [(.ofNat 0, [(.ofNat 1, 6)]), (.ofNat 0, [(.ofNat 1, 7)])])] : List sFc), fcOk fFS [s0, s1, s2, s3, s4, s5, s6, s7, s8, s9] hp q := hH.2
  have f0 : SHq (XT hp) (nmR hp (xnm hp)) s1 s2 s3 s4 s5 s6 s7 s8 ∧ s5 ≠ 4 := fcX (ys := [s1, s2, s3, s4, s5, s6, s7, s8]) (hFc _ (.head _)) ⟨sE_V rfl, sE_V rfl, sE_V rfl, sE_V rfl, sE_V rfl, sE_V rfl, sE_V rfl, sE_V rfl, trivial⟩
  have f1 : scW (fun j => hL hp (xnm hp) j) s0 s9 := fcX (ys := [s0, s9]) (hFc _ (.tail _ (.head _))) ⟨sE_V rfl, sE_V rfl, trivial⟩
  have f2 : isW (bs (XB hp) s6 s7) ∧ hL hp 173 8 = cd 32 96 (bs (XB hp) s6 s7) := fcX (ys := [s6, s7]) (hFc _ (.tail _ (.tail _ (.head _)))) ⟨sE_V rfl, sE_V rfl, trivial⟩
  exact poX (.head _) rfl hR (all_nil) (all_nil) (all_cons ⟨[s6, s7, s9], ⟨sE_V rfl, sE_V rfl, sE_V rfl, trivial⟩, (show scW (fun j => hL hp (xnm hp) j) (cd 32 96 (bs (XT hp).1 s6 s7)) s9 from slv_x hO f0 f1 f2 h0)⟩ (all_nil))
theorem rl195 : ruOk fFS gR195 := by
  intro r hp hO hN hH
  obtain ⟨s0, s1, s2, s3, s4, s5, s6, s7, s8, rfl⟩ := len9 (show r.length = 9 from hN.1)
  have hR := hN.2.1.1
  have hIv : ∀ q ∈ ([(1, .negSucc 2147483647, .ofNat 2147483647), (2, .negSucc 2147483647, .ofNat 2147483647), (3, .negSucc 2147483647, .ofNat 2147483647), (4, .negSucc 2147483647, .ofNat 2147483647), (5, .negSucc 2147483647, .ofNat 2147483647), (6, .negSucc 2147483647, .ofNat 2147483647), (7, .negSucc 2147483647, .ofNat 2147483647), (8, .negSucc 2147483647, .ofNat 2147483647)] : sIv), ∃ x, ([s0, s1, s2, s3, s4, s5, s6, s7, s8] : List Int)[q.1]? = some x ∧ q.2.1 ≤ x ∧ x ≤ q.2.2 := hN.2.1.2
  have hRf : ∀ q ∈ ([((40, .ofNat 173, []), (.ofNat 8, []), 5, .ofNat 0, [(.ofNat 1, 0)])] : List sRf), rfOk [s0, s1, s2, s3, s4, s5, s6, s7, s8] hp q := hH.1
  have h0 : hL hp 173 8 = s0 := rfL0 (hRf _ (.head _)) (sE_k _ _) (sE_k _ _) (sE_V rfl)
  have hFc : ∀ q ∈ ([(241, [(.ofNat 0, [(.ofNat 1, 1)]), (.ofNat 0, [(.ofNat 1, 2)]), (.ofNat 0, [(.ofNat 1, 3)]), (.ofNat 0, [(.ofNat 1, 4)]), (.ofNat 0, [(.ofNat 1, 5)]), (.ofNat 0, [(.ofNat 1, 6)]), (.ofNat 0, [(.ofNat 1, 7)])]), (195, [(.ofNat 0, [(.ofNat 1, 0)]), (.ofNat 0, [(.ofNat 1, 8)])]), (48, [(.ofNat 0, [(.ofNat 1, 5)]), (.ofNat 0, [(.ofNat 1, 6)])])] : List sFc), fcOk fFS [s0, s1, s2, s3, s4, s5, s6, s7, s8] hp q := hH.2
  have f0 : roH (XT hp) (nmR hp (xnm hp)) (hI hp (hC hp 0 6) 0) (hI hp (hC hp 0 6) 1) s1 s2 s3 s4 s5 s6 s7 ∧ s4 ≠ 4 := fcX (ys := [s1, s2, s3, s4, s5, s6, s7]) (hFc _ (.head _)) ⟨sE_V rfl, sE_V rfl, sE_V rfl, sE_V rfl, sE_V rfl, sE_V rfl, sE_V rfl, trivial⟩
  have f1 : scW (fun j => hL hp (xnm hp) j) s0 s8 := fcX (ys := [s0, s8]) (hFc _ (.tail _ (.head _))) ⟨sE_V rfl, sE_V rfl, trivial⟩
  have f2 : isW (bs (XB hp) s5 s6) ∧ hL hp 173 8 = cd 32 96 (bs (XB hp) s5 s6) := fcX (ys := [s5, s6]) (hFc _ (.tail _ (.tail _ (.head _)))) ⟨sE_V rfl, sE_V rfl, trivial⟩
  exact poX (.head _) rfl hR (all_nil) (all_nil) (all_cons ⟨[s5, s6, s8], ⟨sE_V rfl, sE_V rfl, sE_V rfl, trivial⟩, (show scW (fun j => hL hp (xnm hp) j) (cd 32 96 (bs (XT hp).1 s5 s6)) s8 from slv_xR hO f0 f1 f2 h0)⟩ (all_nil))
theorem rl196 : ruOk fFS gR196 := by
  intro r hp hO hN hH
  obtain ⟨s0, s1, s2, s3, s4, s5, s6, s7, s8, s9, s10, s11, s12, s13, s14, s15, rfl⟩ := len16 (show r.length = 16 from hN.1)
  have hR := hN.2.1.1
  have hIv : ∀ q ∈ ([(0, .negSucc 2147483647, .ofNat 2147483647), (1, .negSucc 2147483647, .ofNat 2147483647), (2, .negSucc 2147483647, .ofNat 2147483647), (3, .negSucc 2147483647, .ofNat 2147483647), (4, .negSucc 2147483647, .ofNat 2147483647), (5, .negSucc 2147483647, .ofNat 2147483647), (6, .negSucc 2147483647, .ofNat 2147483647), (7, .negSucc 2147483647, .ofNat 2147483647), (8, .negSucc 2147483647, .ofNat 2147483647), (9, .negSucc 2147483647, .ofNat 2147483647), (10, .ofNat 1, .ofNat 1), (11, .negSucc 2147483647, .ofNat 2147483647), (12, .negSucc 2147483647, .ofNat 2147483647), (13, .negSucc 0, .negSucc 0), (14, .negSucc 2147483647, .ofNat 2147483647), (15, .negSucc 2147483647, .ofNat 2147483647)] : sIv), ∃ x, ([s0, s1, s2, s3, s4, s5, s6, s7, s8, s9, s10, s11, s12, s13, s14, s15] : List Int)[q.1]? = some x ∧ q.2.1 ≤ x ∧ x ≤ q.2.2 := hN.2.1.2
  have b10 : (1 : Int) ≤ s10 ∧ s10 ≤ (1 : Int) := ivX (q := (10, .ofNat 1, .ofNat 1)) (y := s10) (hIv _ (.tail _ (.tail _ (.tail _ (.tail _ (.tail _ (.tail _ (.tail _ (.tail _ (.tail _ (.tail _ (.head _)))))))))))) rfl
  have b13 : (-1 : Int) ≤ s13 ∧ s13 ≤ (-1 : Int) := ivX (q := (13, .negSucc 0, .negSucc 0)) (y := s13) (hIv _ (.tail _ (.tail _ (.tail _ (.tail _ (.tail _ (.tail _ (.tail _ (.tail _ (.tail _ (.tail _ (.tail _ (.tail _ (.tail _ (.head _))))))))))))))) rfl
  have hCs : ∀ c ∈ ([(.ofNat 1, [(.ofNat 1, 0)])] : List sLn), ∃ x, sE [s0, s1, s2, s3, s4, s5, s6, s7, s8, s9, s10, s11, s12, s13, s14, s15] c = some x ∧ x ≤ 0 := hN.2.2.1
  have c0 : ((1 : Int) + ((1 : Int) * s0 + 0)) ≤ 0 := csX (hCs _ (.head _)) rfl
  have hFc : ∀ q ∈ ([(53, [(.ofNat 0, [(.ofNat 1, 1)]), (.ofNat 0, [(.ofNat 1, 2)]), (.ofNat 0, [(.ofNat 1, 3)]), (.ofNat 0, [(.ofNat 1, 4)]), (.ofNat 0, [(.ofNat 1, 5)]), (.ofNat 0, [(.ofNat 1, 6)]), (.ofNat 0, [(.ofNat 1, 7)]), (.ofNat 0, [(.ofNat 1, 8)]), (.ofNat 0, [(.ofNat 1, 9)]), (.ofNat 0, [(.ofNat 1, 10)]), (.ofNat 0, [(.ofNat 1, 11)]), (.ofNat 0, [(.ofNat 1, 12)]), (.ofNat 0, [(.ofNat 1, 13)])]), (57, [(.ofNat 0, [(.ofNat 1, 1)]), (.ofNat 0, [(.ofNat 1, 14)]), (.ofNat 0, [(.ofNat 1, 15)])]), (67, [(.ofNat 0, [(.ofNat 1, 3)]), (.ofNat 0, [(.ofNat 1, 11)]), (.ofNat 0, [(.ofNat 1, 12)]), (.ofNat 0, [(.ofNat 1, 0), (.ofNat 1, 14)])])] : List sFc), fcOk fFS [s0, s1, s2, s3, s4, s5, s6, s7, s8, s9, s10, s11, s12, s13, s14, s15] hp q := hH.2
  have f0 : Hq (XT hp) s1 s2 s3 s4 s5 s6 s7 s8 s9 s10 s11 s12 s13 ∧ s10 ≠ 4 := fcX (ys := [s1, s2, s3, s4, s5, s6, s7, s8, s9, s10, s11, s12, s13]) (hFc _ (.head _)) ⟨sE_V rfl, sE_V rfl, sE_V rfl, sE_V rfl, sE_V rfl, sE_V rfl, sE_V rfl, sE_V rfl, sE_V rfl, sE_V rfl, sE_V rfl, sE_V rfl, sE_V rfl, trivial⟩
  have f1 : EO (XT hp) s1 s14 s15 := fcX (ys := [s1, s14, s15]) (hFc _ (.tail _ (.head _))) ⟨sE_V rfl, sE_V rfl, sE_V rfl, trivial⟩
  have f2 : SL (XT hp) s3 s11 s12 (s0 + s14) := fcX (ys := [s3, s11, s12, (s0 + s14)]) (hFc _ (.tail _ (.tail _ (.head _)))) ⟨sE_V rfl, sE_V rfl, sE_V rfl, sEv (y' := ((0 : Int) + ((1 : Int) * s0 + ((1 : Int) * s14 + 0)))) rfl (by omega), trivial⟩
  exact poX (.head _) rfl hR (all_nil) (all_nil) (all_cons ⟨[3, s11], ⟨sE_k _ _, sE_V rfl, trivial⟩, (show RS (XT hp) (3 : Int) s11 from eo_f3 (XT_ok hO) f0.1 f1 f2 (by omega) (by omega) (by omega))⟩ (all_nil))
theorem rl197 : ruOk fFS gR197 := by
  intro r hp hO hN hH
  obtain ⟨s0, s1, s2, s3, s4, s5, s6, s7, s8, rfl⟩ := len9 (show r.length = 9 from hN.1)
  have hR := hN.2.1.1
  have hIv : ∀ q ∈ ([(0, .negSucc 2147483647, .ofNat 2147483647), (1, .negSucc 2147483647, .ofNat 2147483647), (2, .ofNat 1, .ofNat 1), (3, .negSucc 2147483647, .ofNat 2147483647), (4, .negSucc 2147483647, .ofNat 2147483647), (5, .ofNat 1, .ofNat 1), (6, .negSucc 2147483647, .ofNat 2147483647), (7, .negSucc 2147483647, .ofNat 2147483647), (8, .negSucc 0, .negSucc 0)] : sIv), ∃ x, ([s0, s1, s2, s3, s4, s5, s6, s7, s8] : List Int)[q.1]? = some x ∧ q.2.1 ≤ x ∧ x ≤ q.2.2 := hN.2.1.2
  have b2 : (1 : Int) ≤ s2 ∧ s2 ≤ (1 : Int) := ivX (q := (2, .ofNat 1, .ofNat 1)) (y := s2) (hIv _ (.tail _ (.tail _ (.head _)))) rfl
  have b5 : (1 : Int) ≤ s5 ∧ s5 ≤ (1 : Int) := ivX (q := (5, .ofNat 1, .ofNat 1)) (y := s5) (hIv _ (.tail _ (.tail _ (.tail _ (.tail _ (.tail _ (.head _))))))) rfl
  have b8 : (-1 : Int) ≤ s8 ∧ s8 ≤ (-1 : Int) := ivX (q := (8, .negSucc 0, .negSucc 0)) (y := s8) (hIv _ (.tail _ (.tail _ (.tail _ (.tail _ (.tail _ (.tail _ (.tail _ (.tail _ (.head _)))))))))) rfl
  have hCs : ∀ c ∈ ([(.ofNat 1, [(.ofNat 1, 0)])] : List sLn), ∃ x, sE [s0, s1, s2, s3, s4, s5, s6, s7, s8] c = some x ∧ x ≤ 0 := hN.2.2.1
  have c0 : ((1 : Int) + ((1 : Int) * s0 + 0)) ≤ 0 := csX (hCs _ (.head _)) rfl
  have hFc : ∀ q ∈ ([(192, [(.ofNat 0, [(.ofNat 1, 1)]), (.ofNat 0, [(.ofNat 1, 2)]), (.ofNat 0, [(.ofNat 1, 3)]), (.ofNat 0, [(.ofNat 1, 4)]), (.ofNat 0, [(.ofNat 1, 5)]), (.ofNat 0, [(.ofNat 1, 6)]), (.ofNat 0, [(.ofNat 1, 7)]), (.ofNat 0, [(.ofNat 1, 8)])]), (194, [(.ofNat 0, [(.ofNat 1, 6)]), (.ofNat 0, [(.ofNat 1, 7)]), (.ofNat 7, [(.ofNat 1, 0)])])] : List sFc), fcOk fFS [s0, s1, s2, s3, s4, s5, s6, s7, s8] hp q := hH.2
  have f0 : SHq (XT hp) (nmR hp (xnm hp)) s1 s2 s3 s4 s5 s6 s7 s8 ∧ s5 ≠ 4 := fcX (ys := [s1, s2, s3, s4, s5, s6, s7, s8]) (hFc _ (.head _)) ⟨sE_V rfl, sE_V rfl, sE_V rfl, sE_V rfl, sE_V rfl, sE_V rfl, sE_V rfl, sE_V rfl, trivial⟩
  have f1 : scW (fun j => hL hp (xnm hp) j) (cd 32 96 (bs (XT hp).1 s6 s7)) (s0 + 7) := fcX (ys := [s6, s7, (s0 + 7)]) (hFc _ (.tail _ (.head _))) ⟨sE_V rfl, sE_V rfl, sEv (y' := ((7 : Int) + ((1 : Int) * s0 + 0))) rfl (by omega), trivial⟩
  exact poX (.head _) rfl hR (all_nil) (all_nil) (all_cons ⟨[3, s6], ⟨sE_k _ _, sE_V rfl, trivial⟩, (show SRS (XT hp) (nmR hp (xnm hp)) (3 : Int) s6 from sn_f3 f0.1 (by unfold sNc; omega) (by omega) (by omega) (nmX_no f1 (by unfold sRg; omega)))⟩ (all_nil))
theorem rl198 : ruOk fFS gR198 := by
  intro r hp hO hN hH
  obtain ⟨s0, s1, s2, s3, s4, s5, s6, s7, s8, rfl⟩ := len9 (show r.length = 9 from hN.1)
  have hR := hN.2.1.1
  have hIv : ∀ q ∈ ([(0, .negSucc 2147483647, .ofNat 2147483647), (1, .negSucc 2147483647, .ofNat 2147483647), (2, .ofNat 1, .ofNat 1), (3, .negSucc 2147483647, .ofNat 2147483647), (4, .negSucc 2147483647, .ofNat 2147483647), (5, .ofNat 1, .ofNat 1), (6, .negSucc 2147483647, .ofNat 2147483647), (7, .negSucc 2147483647, .ofNat 2147483647), (8, .negSucc 0, .negSucc 0)] : sIv), ∃ x, ([s0, s1, s2, s3, s4, s5, s6, s7, s8] : List Int)[q.1]? = some x ∧ q.2.1 ≤ x ∧ x ≤ q.2.2 := hN.2.1.2
  have b2 : (1 : Int) ≤ s2 ∧ s2 ≤ (1 : Int) := ivX (q := (2, .ofNat 1, .ofNat 1)) (y := s2) (hIv _ (.tail _ (.tail _ (.head _)))) rfl
  have b5 : (1 : Int) ≤ s5 ∧ s5 ≤ (1 : Int) := ivX (q := (5, .ofNat 1, .ofNat 1)) (y := s5) (hIv _ (.tail _ (.tail _ (.tail _ (.tail _ (.tail _ (.head _))))))) rfl
  have b8 : (-1 : Int) ≤ s8 ∧ s8 ≤ (-1 : Int) := ivX (q := (8, .negSucc 0, .negSucc 0)) (y := s8) (hIv _ (.tail _ (.tail _ (.tail _ (.tail _ (.tail _ (.tail _ (.tail _ (.tail _ (.head _)))))))))) rfl
  have hCs : ∀ c ∈ ([(.ofNat 5, [(.negSucc 0, 0)])] : List sLn), ∃ x, sE [s0, s1, s2, s3, s4, s5, s6, s7, s8] c = some x ∧ x ≤ 0 := hN.2.2.1
  have c0 : ((5 : Int) + ((-1 : Int) * s0 + 0)) ≤ 0 := csX (hCs _ (.head _)) rfl
  have hFc : ∀ q ∈ ([(192, [(.ofNat 0, [(.ofNat 1, 1)]), (.ofNat 0, [(.ofNat 1, 2)]), (.ofNat 0, [(.ofNat 1, 3)]), (.ofNat 0, [(.ofNat 1, 4)]), (.ofNat 0, [(.ofNat 1, 5)]), (.ofNat 0, [(.ofNat 1, 6)]), (.ofNat 0, [(.ofNat 1, 7)]), (.ofNat 0, [(.ofNat 1, 8)])]), (194, [(.ofNat 0, [(.ofNat 1, 6)]), (.ofNat 0, [(.ofNat 1, 7)]), (.ofNat 7, [(.ofNat 1, 0)])])] : List sFc), fcOk fFS [s0, s1, s2, s3, s4, s5, s6, s7, s8] hp q := hH.2
  have f0 : SHq (XT hp) (nmR hp (xnm hp)) s1 s2 s3 s4 s5 s6 s7 s8 ∧ s5 ≠ 4 := fcX (ys := [s1, s2, s3, s4, s5, s6, s7, s8]) (hFc _ (.head _)) ⟨sE_V rfl, sE_V rfl, sE_V rfl, sE_V rfl, sE_V rfl, sE_V rfl, sE_V rfl, sE_V rfl, trivial⟩
  have f1 : scW (fun j => hL hp (xnm hp) j) (cd 32 96 (bs (XT hp).1 s6 s7)) (s0 + 7) := fcX (ys := [s6, s7, (s0 + 7)]) (hFc _ (.tail _ (.head _))) ⟨sE_V rfl, sE_V rfl, sEv (y' := ((7 : Int) + ((1 : Int) * s0 + 0))) rfl (by omega), trivial⟩
  exact poX (.head _) rfl hR (all_nil) (all_nil) (all_cons ⟨[3, s6], ⟨sE_k _ _, sE_V rfl, trivial⟩, (show SRS (XT hp) (nmR hp (xnm hp)) (3 : Int) s6 from sn_f3 f0.1 (by unfold sNc; omega) (by omega) (by omega) (nmX_no f1 (by unfold sRg; omega)))⟩ (all_nil))
theorem rl199 : ruOk fFS gR199 := by
  intro r hp hO hN hH
  obtain ⟨s0, s1, s2, s3, s4, s5, s6, s7, s8, rfl⟩ := len9 (show r.length = 9 from hN.1)
  have hR := hN.2.1.1
  have hIv : ∀ q ∈ ([(0, .negSucc 2147483647, .ofNat 2147483647), (1, .negSucc 2147483647, .ofNat 2147483647), (2, .ofNat 2, .ofNat 2), (3, .negSucc 2147483647, .ofNat 2147483647), (4, .negSucc 2147483647, .ofNat 2147483647), (5, .ofNat 1, .ofNat 1), (6, .negSucc 2147483647, .ofNat 2147483647), (7, .negSucc 2147483647, .ofNat 2147483647), (8, .negSucc 0, .negSucc 0)] : sIv), ∃ x, ([s0, s1, s2, s3, s4, s5, s6, s7, s8] : List Int)[q.1]? = some x ∧ q.2.1 ≤ x ∧ x ≤ q.2.2 := hN.2.1.2
  have b2 : (2 : Int) ≤ s2 ∧ s2 ≤ (2 : Int) := ivX (q := (2, .ofNat 2, .ofNat 2)) (y := s2) (hIv _ (.tail _ (.tail _ (.head _)))) rfl
  have b5 : (1 : Int) ≤ s5 ∧ s5 ≤ (1 : Int) := ivX (q := (5, .ofNat 1, .ofNat 1)) (y := s5) (hIv _ (.tail _ (.tail _ (.tail _ (.tail _ (.tail _ (.head _))))))) rfl
  have b8 : (-1 : Int) ≤ s8 ∧ s8 ≤ (-1 : Int) := ivX (q := (8, .negSucc 0, .negSucc 0)) (y := s8) (hIv _ (.tail _ (.tail _ (.tail _ (.tail _ (.tail _ (.tail _ (.tail _ (.tail _ (.head _)))))))))) rfl
  have hCs : ∀ c ∈ ([(.ofNat 1, [(.ofNat 1, 0)])] : List sLn), ∃ x, sE [s0, s1, s2, s3, s4, s5, s6, s7, s8] c = some x ∧ x ≤ 0 := hN.2.2.1
  have c0 : ((1 : Int) + ((1 : Int) * s0 + 0)) ≤ 0 := csX (hCs _ (.head _)) rfl
  have hFc : ∀ q ∈ ([(192, [(.ofNat 0, [(.ofNat 1, 1)]), (.ofNat 0, [(.ofNat 1, 2)]), (.ofNat 0, [(.ofNat 1, 3)]), (.ofNat 0, [(.ofNat 1, 4)]), (.ofNat 0, [(.ofNat 1, 5)]), (.ofNat 0, [(.ofNat 1, 6)]), (.ofNat 0, [(.ofNat 1, 7)]), (.ofNat 0, [(.ofNat 1, 8)])]), (194, [(.ofNat 0, [(.ofNat 1, 6)]), (.ofNat 0, [(.ofNat 1, 7)]), (.ofNat 0, [(.ofNat 1, 0)])])] : List sFc), fcOk fFS [s0, s1, s2, s3, s4, s5, s6, s7, s8] hp q := hH.2
  have f0 : SHq (XT hp) (nmR hp (xnm hp)) s1 s2 s3 s4 s5 s6 s7 s8 ∧ s5 ≠ 4 := fcX (ys := [s1, s2, s3, s4, s5, s6, s7, s8]) (hFc _ (.head _)) ⟨sE_V rfl, sE_V rfl, sE_V rfl, sE_V rfl, sE_V rfl, sE_V rfl, sE_V rfl, sE_V rfl, trivial⟩
  have f1 : scW (fun j => hL hp (xnm hp) j) (cd 32 96 (bs (XT hp).1 s6 s7)) s0 := fcX (ys := [s6, s7, s0]) (hFc _ (.tail _ (.head _))) ⟨sE_V rfl, sE_V rfl, sE_V rfl, trivial⟩
  exact poX (.head _) rfl hR (all_nil) (all_nil) (all_cons ⟨[3, s6], ⟨sE_k _ _, sE_V rfl, trivial⟩, (show SRS (XT hp) (nmR hp (xnm hp)) (3 : Int) s6 from sn_f3 f0.1 (by unfold sNc; omega) (by omega) (by omega) (nmX_no f1 (by unfold sRg; omega)))⟩ (all_nil))
theorem rl200 : ruOk fFS gR200 := by
  intro r hp hO hN hH
  obtain ⟨s0, s1, s2, s3, s4, s5, s6, s7, s8, rfl⟩ := len9 (show r.length = 9 from hN.1)
  have hR := hN.2.1.1
  have hIv : ∀ q ∈ ([(0, .negSucc 2147483647, .ofNat 2147483647), (1, .negSucc 2147483647, .ofNat 2147483647), (2, .ofNat 2, .ofNat 2), (3, .negSucc 2147483647, .ofNat 2147483647), (4, .negSucc 2147483647, .ofNat 2147483647), (5, .ofNat 1, .ofNat 1), (6, .negSucc 2147483647, .ofNat 2147483647), (7, .negSucc 2147483647, .ofNat 2147483647), (8, .negSucc 0, .negSucc 0)] : sIv), ∃ x, ([s0, s1, s2, s3, s4, s5, s6, s7, s8] : List Int)[q.1]? = some x ∧ q.2.1 ≤ x ∧ x ≤ q.2.2 := hN.2.1.2
  have b2 : (2 : Int) ≤ s2 ∧ s2 ≤ (2 : Int) := ivX (q := (2, .ofNat 2, .ofNat 2)) (y := s2) (hIv _ (.tail _ (.tail _ (.head _)))) rfl
  have b5 : (1 : Int) ≤ s5 ∧ s5 ≤ (1 : Int) := ivX (q := (5, .ofNat 1, .ofNat 1)) (y := s5) (hIv _ (.tail _ (.tail _ (.tail _ (.tail _ (.tail _ (.head _))))))) rfl
  have b8 : (-1 : Int) ≤ s8 ∧ s8 ≤ (-1 : Int) := ivX (q := (8, .negSucc 0, .negSucc 0)) (y := s8) (hIv _ (.tail _ (.tail _ (.tail _ (.tail _ (.tail _ (.tail _ (.tail _ (.tail _ (.head _)))))))))) rfl
  have hCs : ∀ c ∈ ([(.ofNat 4, [(.negSucc 0, 0)])] : List sLn), ∃ x, sE [s0, s1, s2, s3, s4, s5, s6, s7, s8] c = some x ∧ x ≤ 0 := hN.2.2.1
  have c0 : ((4 : Int) + ((-1 : Int) * s0 + 0)) ≤ 0 := csX (hCs _ (.head _)) rfl
  have hFc : ∀ q ∈ ([(192, [(.ofNat 0, [(.ofNat 1, 1)]), (.ofNat 0, [(.ofNat 1, 2)]), (.ofNat 0, [(.ofNat 1, 3)]), (.ofNat 0, [(.ofNat 1, 4)]), (.ofNat 0, [(.ofNat 1, 5)]), (.ofNat 0, [(.ofNat 1, 6)]), (.ofNat 0, [(.ofNat 1, 7)]), (.ofNat 0, [(.ofNat 1, 8)])]), (194, [(.ofNat 0, [(.ofNat 1, 6)]), (.ofNat 0, [(.ofNat 1, 7)]), (.ofNat 0, [(.ofNat 1, 0)])])] : List sFc), fcOk fFS [s0, s1, s2, s3, s4, s5, s6, s7, s8] hp q := hH.2
  have f0 : SHq (XT hp) (nmR hp (xnm hp)) s1 s2 s3 s4 s5 s6 s7 s8 ∧ s5 ≠ 4 := fcX (ys := [s1, s2, s3, s4, s5, s6, s7, s8]) (hFc _ (.head _)) ⟨sE_V rfl, sE_V rfl, sE_V rfl, sE_V rfl, sE_V rfl, sE_V rfl, sE_V rfl, sE_V rfl, trivial⟩
  have f1 : scW (fun j => hL hp (xnm hp) j) (cd 32 96 (bs (XT hp).1 s6 s7)) s0 := fcX (ys := [s6, s7, s0]) (hFc _ (.tail _ (.head _))) ⟨sE_V rfl, sE_V rfl, sE_V rfl, trivial⟩
  exact poX (.head _) rfl hR (all_nil) (all_nil) (all_cons ⟨[3, s6], ⟨sE_k _ _, sE_V rfl, trivial⟩, (show SRS (XT hp) (nmR hp (xnm hp)) (3 : Int) s6 from sn_f3 f0.1 (by unfold sNc; omega) (by omega) (by omega) (nmX_no f1 (by unfold sRg; omega)))⟩ (all_nil))
theorem rl201 : ruOk fFS gR201 := by
  intro r hp hO hN hH
  obtain ⟨s0, s1, s2, s3, s4, s5, s6, s7, s8, rfl⟩ := len9 (show r.length = 9 from hN.1)
  have hR := hN.2.1.1
  have hIv : ∀ q ∈ ([(0, .negSucc 2147483647, .ofNat 2147483647), (1, .negSucc 2147483647, .ofNat 2147483647), (2, .ofNat 3, .ofNat 3), (3, .negSucc 2147483647, .ofNat 2147483647), (4, .negSucc 2147483647, .ofNat 2147483647), (5, .ofNat 1, .ofNat 1), (6, .negSucc 2147483647, .ofNat 2147483647), (7, .negSucc 2147483647, .ofNat 2147483647), (8, .negSucc 0, .negSucc 0)] : sIv), ∃ x, ([s0, s1, s2, s3, s4, s5, s6, s7, s8] : List Int)[q.1]? = some x ∧ q.2.1 ≤ x ∧ x ≤ q.2.2 := hN.2.1.2
  have b2 : (3 : Int) ≤ s2 ∧ s2 ≤ (3 : Int) := ivX (q := (2, .ofNat 3, .ofNat 3)) (y := s2) (hIv _ (.tail _ (.tail _ (.head _)))) rfl
  have b5 : (1 : Int) ≤ s5 ∧ s5 ≤ (1 : Int) := ivX (q := (5, .ofNat 1, .ofNat 1)) (y := s5) (hIv _ (.tail _ (.tail _ (.tail _ (.tail _ (.tail _ (.head _))))))) rfl
  have b8 : (-1 : Int) ≤ s8 ∧ s8 ≤ (-1 : Int) := ivX (q := (8, .negSucc 0, .negSucc 0)) (y := s8) (hIv _ (.tail _ (.tail _ (.tail _ (.tail _ (.tail _ (.tail _ (.tail _ (.tail _ (.head _)))))))))) rfl
  have hCs : ∀ c ∈ ([(.ofNat 1, [(.ofNat 1, 0)])] : List sLn), ∃ x, sE [s0, s1, s2, s3, s4, s5, s6, s7, s8] c = some x ∧ x ≤ 0 := hN.2.2.1
  have c0 : ((1 : Int) + ((1 : Int) * s0 + 0)) ≤ 0 := csX (hCs _ (.head _)) rfl
  have hFc : ∀ q ∈ ([(192, [(.ofNat 0, [(.ofNat 1, 1)]), (.ofNat 0, [(.ofNat 1, 2)]), (.ofNat 0, [(.ofNat 1, 3)]), (.ofNat 0, [(.ofNat 1, 4)]), (.ofNat 0, [(.ofNat 1, 5)]), (.ofNat 0, [(.ofNat 1, 6)]), (.ofNat 0, [(.ofNat 1, 7)]), (.ofNat 0, [(.ofNat 1, 8)])]), (194, [(.ofNat 0, [(.ofNat 1, 6)]), (.ofNat 0, [(.ofNat 1, 7)]), (.ofNat 4, [(.ofNat 1, 0)])])] : List sFc), fcOk fFS [s0, s1, s2, s3, s4, s5, s6, s7, s8] hp q := hH.2
  have f0 : SHq (XT hp) (nmR hp (xnm hp)) s1 s2 s3 s4 s5 s6 s7 s8 ∧ s5 ≠ 4 := fcX (ys := [s1, s2, s3, s4, s5, s6, s7, s8]) (hFc _ (.head _)) ⟨sE_V rfl, sE_V rfl, sE_V rfl, sE_V rfl, sE_V rfl, sE_V rfl, sE_V rfl, sE_V rfl, trivial⟩
  have f1 : scW (fun j => hL hp (xnm hp) j) (cd 32 96 (bs (XT hp).1 s6 s7)) (s0 + 4) := fcX (ys := [s6, s7, (s0 + 4)]) (hFc _ (.tail _ (.head _))) ⟨sE_V rfl, sE_V rfl, sEv (y' := ((4 : Int) + ((1 : Int) * s0 + 0))) rfl (by omega), trivial⟩
  exact poX (.head _) rfl hR (all_nil) (all_nil) (all_cons ⟨[3, s6], ⟨sE_k _ _, sE_V rfl, trivial⟩, (show SRS (XT hp) (nmR hp (xnm hp)) (3 : Int) s6 from sn_f3 f0.1 (by unfold sNc; omega) (by omega) (by omega) (nmX_no f1 (by unfold sRg; omega)))⟩ (all_nil))
theorem rl202 : ruOk fFS gR202 := by
  intro r hp hO hN hH
  obtain ⟨s0, s1, s2, s3, s4, s5, s6, s7, s8, rfl⟩ := len9 (show r.length = 9 from hN.1)
  have hR := hN.2.1.1
  have hIv : ∀ q ∈ ([(0, .negSucc 2147483647, .ofNat 2147483647), (1, .negSucc 2147483647, .ofNat 2147483647), (2, .ofNat 3, .ofNat 3), (3, .negSucc 2147483647, .ofNat 2147483647), (4, .negSucc 2147483647, .ofNat 2147483647), (5, .ofNat 1, .ofNat 1), (6, .negSucc 2147483647, .ofNat 2147483647), (7, .negSucc 2147483647, .ofNat 2147483647), (8, .negSucc 0, .negSucc 0)] : sIv), ∃ x, ([s0, s1, s2, s3, s4, s5, s6, s7, s8] : List Int)[q.1]? = some x ∧ q.2.1 ≤ x ∧ x ≤ q.2.2 := hN.2.1.2
  have b2 : (3 : Int) ≤ s2 ∧ s2 ≤ (3 : Int) := ivX (q := (2, .ofNat 3, .ofNat 3)) (y := s2) (hIv _ (.tail _ (.tail _ (.head _)))) rfl
  have b5 : (1 : Int) ≤ s5 ∧ s5 ≤ (1 : Int) := ivX (q := (5, .ofNat 1, .ofNat 1)) (y := s5) (hIv _ (.tail _ (.tail _ (.tail _ (.tail _ (.tail _ (.head _))))))) rfl
  have b8 : (-1 : Int) ≤ s8 ∧ s8 ≤ (-1 : Int) := ivX (q := (8, .negSucc 0, .negSucc 0)) (y := s8) (hIv _ (.tail _ (.tail _ (.tail _ (.tail _ (.tail _ (.tail _ (.tail _ (.tail _ (.head _)))))))))) rfl
  have hCs : ∀ c ∈ ([(.ofNat 3, [(.negSucc 0, 0)])] : List sLn), ∃ x, sE [s0, s1, s2, s3, s4, s5, s6, s7, s8] c = some x ∧ x ≤ 0 := hN.2.2.1
  have c0 : ((3 : Int) + ((-1 : Int) * s0 + 0)) ≤ 0 := csX (hCs _ (.head _)) rfl
  have hFc : ∀ q ∈ ([(192, [(.ofNat 0, [(.ofNat 1, 1)]), (.ofNat 0, [(.ofNat 1, 2)]), (.ofNat 0, [(.ofNat 1, 3)]), (.ofNat 0, [(.ofNat 1, 4)]), (.ofNat 0, [(.ofNat 1, 5)]), (.ofNat 0, [(.ofNat 1, 6)]), (.ofNat 0, [(.ofNat 1, 7)]), (.ofNat 0, [(.ofNat 1, 8)])]), (194, [(.ofNat 0, [(.ofNat 1, 6)]), (.ofNat 0, [(.ofNat 1, 7)]), (.ofNat 4, [(.ofNat 1, 0)])])] : List sFc), fcOk fFS [s0, s1, s2, s3, s4, s5, s6, s7, s8] hp q := hH.2
  have f0 : SHq (XT hp) (nmR hp (xnm hp)) s1 s2 s3 s4 s5 s6 s7 s8 ∧ s5 ≠ 4 := fcX (ys := [s1, s2, s3, s4, s5, s6, s7, s8]) (hFc _ (.head _)) ⟨sE_V rfl, sE_V rfl, sE_V rfl, sE_V rfl, sE_V rfl, sE_V rfl, sE_V rfl, sE_V rfl, trivial⟩
  have f1 : scW (fun j => hL hp (xnm hp) j) (cd 32 96 (bs (XT hp).1 s6 s7)) (s0 + 4) := fcX (ys := [s6, s7, (s0 + 4)]) (hFc _ (.tail _ (.head _))) ⟨sE_V rfl, sE_V rfl, sEv (y' := ((4 : Int) + ((1 : Int) * s0 + 0))) rfl (by omega), trivial⟩
  exact poX (.head _) rfl hR (all_nil) (all_nil) (all_cons ⟨[3, s6], ⟨sE_k _ _, sE_V rfl, trivial⟩, (show SRS (XT hp) (nmR hp (xnm hp)) (3 : Int) s6 from sn_f3 f0.1 (by unfold sNc; omega) (by omega) (by omega) (nmX_no f1 (by unfold sRg; omega)))⟩ (all_nil))
theorem rl203 : ruOk fFS gR203 := by
  intro r hp hO hN hH
  obtain ⟨s0, s1, s2, s3, s4, s5, s6, s7, rfl⟩ := len8 (show r.length = 8 from hN.1)
  have hR := hN.2.1.1
  have hIv : ∀ q ∈ ([(0, .negSucc 2147483647, .ofNat 2147483647), (1, .negSucc 2147483647, .ofNat 2147483647), (2, .ofNat 4, .ofNat 4), (3, .negSucc 2147483647, .ofNat 2147483647), (4, .ofNat 1, .ofNat 1), (5, .negSucc 2147483647, .ofNat 2147483647), (6, .negSucc 2147483647, .ofNat 2147483647), (7, .negSucc 0, .negSucc 0)] : sIv), ∃ x, ([s0, s1, s2, s3, s4, s5, s6, s7] : List Int)[q.1]? = some x ∧ q.2.1 ≤ x ∧ x ≤ q.2.2 := hN.2.1.2
  have b2 : (4 : Int) ≤ s2 ∧ s2 ≤ (4 : Int) := ivX (q := (2, .ofNat 4, .ofNat 4)) (y := s2) (hIv _ (.tail _ (.tail _ (.head _)))) rfl
  have b4 : (1 : Int) ≤ s4 ∧ s4 ≤ (1 : Int) := ivX (q := (4, .ofNat 1, .ofNat 1)) (y := s4) (hIv _ (.tail _ (.tail _ (.tail _ (.tail _ (.head _)))))) rfl
  have b7 : (-1 : Int) ≤ s7 ∧ s7 ≤ (-1 : Int) := ivX (q := (7, .negSucc 0, .negSucc 0)) (y := s7) (hIv _ (.tail _ (.tail _ (.tail _ (.tail _ (.tail _ (.tail _ (.tail _ (.head _))))))))) rfl
  have hCs : ∀ c ∈ ([(.ofNat 1, [(.ofNat 1, 0)])] : List sLn), ∃ x, sE [s0, s1, s2, s3, s4, s5, s6, s7] c = some x ∧ x ≤ 0 := hN.2.2.1
  have c0 : ((1 : Int) + ((1 : Int) * s0 + 0)) ≤ 0 := csX (hCs _ (.head _)) rfl
  have hFc : ∀ q ∈ ([(241, [(.ofNat 0, [(.ofNat 1, 1)]), (.ofNat 0, [(.ofNat 1, 2)]), (.ofNat 0, [(.ofNat 1, 3)]), (.ofNat 0, [(.ofNat 1, 4)]), (.ofNat 0, [(.ofNat 1, 5)]), (.ofNat 0, [(.ofNat 1, 6)]), (.ofNat 0, [(.ofNat 1, 7)])]), (194, [(.ofNat 0, [(.ofNat 1, 5)]), (.ofNat 0, [(.ofNat 1, 6)]), (.ofNat 7, [(.ofNat 1, 0)])])] : List sFc), fcOk fFS [s0, s1, s2, s3, s4, s5, s6, s7] hp q := hH.2
  have f0 : roH (XT hp) (nmR hp (xnm hp)) (hI hp (hC hp 0 6) 0) (hI hp (hC hp 0 6) 1) s1 s2 s3 s4 s5 s6 s7 ∧ s4 ≠ 4 := fcX (ys := [s1, s2, s3, s4, s5, s6, s7]) (hFc _ (.head _)) ⟨sE_V rfl, sE_V rfl, sE_V rfl, sE_V rfl, sE_V rfl, sE_V rfl, sE_V rfl, trivial⟩
  have f1 : scW (fun j => hL hp (xnm hp) j) (cd 32 96 (bs (XT hp).1 s5 s6)) (s0 + 7) := fcX (ys := [s5, s6, (s0 + 7)]) (hFc _ (.tail _ (.head _))) ⟨sE_V rfl, sE_V rfl, sEv (y' := ((7 : Int) + ((1 : Int) * s0 + 0))) rfl (by omega), trivial⟩
  exact poX (.head _) rfl hR (all_nil) (all_nil) (all_cons ⟨[3, s5], ⟨sE_k _ _, sE_V rfl, trivial⟩, (show roS (XT hp) (nmR hp (xnm hp)) (hI hp (hC hp 0 6) 0) (hI hp (hC hp 0 6) 1) (3 : Int) s5 from ro4_f3 f0.1 (by omega) (by omega) (nmX_no f1 (by unfold sRg; omega)))⟩ (all_nil))
theorem rl204 : ruOk fFS gR204 := by
  intro r hp hO hN hH
  obtain ⟨s0, s1, s2, s3, s4, s5, s6, s7, rfl⟩ := len8 (show r.length = 8 from hN.1)
  have hR := hN.2.1.1
  have hIv : ∀ q ∈ ([(0, .negSucc 2147483647, .ofNat 2147483647), (1, .negSucc 2147483647, .ofNat 2147483647), (2, .ofNat 4, .ofNat 4), (3, .negSucc 2147483647, .ofNat 2147483647), (4, .ofNat 1, .ofNat 1), (5, .negSucc 2147483647, .ofNat 2147483647), (6, .negSucc 2147483647, .ofNat 2147483647), (7, .negSucc 0, .negSucc 0)] : sIv), ∃ x, ([s0, s1, s2, s3, s4, s5, s6, s7] : List Int)[q.1]? = some x ∧ q.2.1 ≤ x ∧ x ≤ q.2.2 := hN.2.1.2
  have b2 : (4 : Int) ≤ s2 ∧ s2 ≤ (4 : Int) := ivX (q := (2, .ofNat 4, .ofNat 4)) (y := s2) (hIv _ (.tail _ (.tail _ (.head _)))) rfl
  have b4 : (1 : Int) ≤ s4 ∧ s4 ≤ (1 : Int) := ivX (q := (4, .ofNat 1, .ofNat 1)) (y := s4) (hIv _ (.tail _ (.tail _ (.tail _ (.tail _ (.head _)))))) rfl
  have b7 : (-1 : Int) ≤ s7 ∧ s7 ≤ (-1 : Int) := ivX (q := (7, .negSucc 0, .negSucc 0)) (y := s7) (hIv _ (.tail _ (.tail _ (.tail _ (.tail _ (.tail _ (.tail _ (.tail _ (.head _))))))))) rfl
  have hCs : ∀ c ∈ ([(.ofNat 5, [(.negSucc 0, 0)])] : List sLn), ∃ x, sE [s0, s1, s2, s3, s4, s5, s6, s7] c = some x ∧ x ≤ 0 := hN.2.2.1
  have c0 : ((5 : Int) + ((-1 : Int) * s0 + 0)) ≤ 0 := csX (hCs _ (.head _)) rfl
  have hFc : ∀ q ∈ ([(241, [(.ofNat 0, [(.ofNat 1, 1)]), (.ofNat 0, [(.ofNat 1, 2)]), (.ofNat 0, [(.ofNat 1, 3)]), (.ofNat 0, [(.ofNat 1, 4)]), (.ofNat 0, [(.ofNat 1, 5)]), (.ofNat 0, [(.ofNat 1, 6)]), (.ofNat 0, [(.ofNat 1, 7)])]), (194, [(.ofNat 0, [(.ofNat 1, 5)]), (.ofNat 0, [(.ofNat 1, 6)]), (.ofNat 7, [(.ofNat 1, 0)])])] : List sFc), fcOk fFS [s0, s1, s2, s3, s4, s5, s6, s7] hp q := hH.2
  have f0 : roH (XT hp) (nmR hp (xnm hp)) (hI hp (hC hp 0 6) 0) (hI hp (hC hp 0 6) 1) s1 s2 s3 s4 s5 s6 s7 ∧ s4 ≠ 4 := fcX (ys := [s1, s2, s3, s4, s5, s6, s7]) (hFc _ (.head _)) ⟨sE_V rfl, sE_V rfl, sE_V rfl, sE_V rfl, sE_V rfl, sE_V rfl, sE_V rfl, trivial⟩
  have f1 : scW (fun j => hL hp (xnm hp) j) (cd 32 96 (bs (XT hp).1 s5 s6)) (s0 + 7) := fcX (ys := [s5, s6, (s0 + 7)]) (hFc _ (.tail _ (.head _))) ⟨sE_V rfl, sE_V rfl, sEv (y' := ((7 : Int) + ((1 : Int) * s0 + 0))) rfl (by omega), trivial⟩
  exact poX (.head _) rfl hR (all_nil) (all_nil) (all_cons ⟨[3, s5], ⟨sE_k _ _, sE_V rfl, trivial⟩, (show roS (XT hp) (nmR hp (xnm hp)) (hI hp (hC hp 0 6) 0) (hI hp (hC hp 0 6) 1) (3 : Int) s5 from ro4_f3 f0.1 (by omega) (by omega) (nmX_no f1 (by unfold sRg; omega)))⟩ (all_nil))
theorem rl205 : ruOk fFS gR205 := by
  intro r hp hO hN hH
  obtain ⟨s0, s1, s2, s3, s4, s5, s6, s7, s8, s9, s10, s11, s12, s13, s14, s15, rfl⟩ := len16 (show r.length = 16 from hN.1)
  have hR := hN.2.1.1
  have hIv : ∀ q ∈ ([(0, .negSucc 2147483647, .ofNat 2147483647), (1, .negSucc 2147483647, .ofNat 2147483647), (2, .negSucc 2147483647, .ofNat 2147483647), (3, .negSucc 2147483647, .ofNat 2147483647), (4, .negSucc 2147483647, .ofNat 2147483647), (5, .negSucc 2147483647, .ofNat 2147483647), (6, .negSucc 2147483647, .ofNat 2147483647), (7, .negSucc 2147483647, .ofNat 2147483647), (8, .negSucc 2147483647, .ofNat 2147483647), (9, .negSucc 2147483647, .ofNat 2147483647), (10, .ofNat 1, .ofNat 1), (11, .negSucc 2147483647, .ofNat 2147483647), (12, .negSucc 2147483647, .ofNat 2147483647), (13, .negSucc 0, .negSucc 0), (14, .negSucc 2147483647, .ofNat 2147483647), (15, .negSucc 2147483647, .ofNat 2147483647)] : sIv), ∃ x, ([s0, s1, s2, s3, s4, s5, s6, s7, s8, s9, s10, s11, s12, s13, s14, s15] : List Int)[q.1]? = some x ∧ q.2.1 ≤ x ∧ x ≤ q.2.2 := hN.2.1.2
  have b10 : (1 : Int) ≤ s10 ∧ s10 ≤ (1 : Int) := ivX (q := (10, .ofNat 1, .ofNat 1)) (y := s10) (hIv _ (.tail _ (.tail _ (.tail _ (.tail _ (.tail _ (.tail _ (.tail _ (.tail _ (.tail _ (.tail _ (.head _)))))))))))) rfl
  have b13 : (-1 : Int) ≤ s13 ∧ s13 ≤ (-1 : Int) := ivX (q := (13, .negSucc 0, .negSucc 0)) (y := s13) (hIv _ (.tail _ (.tail _ (.tail _ (.tail _ (.tail _ (.tail _ (.tail _ (.tail _ (.tail _ (.tail _ (.tail _ (.tail _ (.tail _ (.head _))))))))))))))) rfl
  have hCs : ∀ c ∈ ([(.ofNat 0, [(.negSucc 0, 0), (.ofNat 1, 15)])] : List sLn), ∃ x, sE [s0, s1, s2, s3, s4, s5, s6, s7, s8, s9, s10, s11, s12, s13, s14, s15] c = some x ∧ x ≤ 0 := hN.2.2.1
  have c0 : ((0 : Int) + ((-1 : Int) * s0 + ((1 : Int) * s15 + 0))) ≤ 0 := csX (hCs _ (.head _)) rfl
  have hFc : ∀ q ∈ ([(53, [(.ofNat 0, [(.ofNat 1, 1)]), (.ofNat 0, [(.ofNat 1, 2)]), (.ofNat 0, [(.ofNat 1, 3)]), (.ofNat 0, [(.ofNat 1, 4)]), (.ofNat 0, [(.ofNat 1, 5)]), (.ofNat 0, [(.ofNat 1, 6)]), (.ofNat 0, [(.ofNat 1, 7)]), (.ofNat 0, [(.ofNat 1, 8)]), (.ofNat 0, [(.ofNat 1, 9)]), (.ofNat 0, [(.ofNat 1, 10)]), (.ofNat 0, [(.ofNat 1, 11)]), (.ofNat 0, [(.ofNat 1, 12)]), (.ofNat 0, [(.ofNat 1, 13)])]), (57, [(.ofNat 0, [(.ofNat 1, 1)]), (.ofNat 0, [(.ofNat 1, 14)]), (.ofNat 0, [(.ofNat 1, 15)])]), (67, [(.ofNat 0, [(.ofNat 1, 3)]), (.ofNat 0, [(.ofNat 1, 11)]), (.ofNat 0, [(.ofNat 1, 12)]), (.ofNat 0, [(.ofNat 1, 0), (.ofNat 1, 14)])])] : List sFc), fcOk fFS [s0, s1, s2, s3, s4, s5, s6, s7, s8, s9, s10, s11, s12, s13, s14, s15] hp q := hH.2
  have f0 : Hq (XT hp) s1 s2 s3 s4 s5 s6 s7 s8 s9 s10 s11 s12 s13 ∧ s10 ≠ 4 := fcX (ys := [s1, s2, s3, s4, s5, s6, s7, s8, s9, s10, s11, s12, s13]) (hFc _ (.head _)) ⟨sE_V rfl, sE_V rfl, sE_V rfl, sE_V rfl, sE_V rfl, sE_V rfl, sE_V rfl, sE_V rfl, sE_V rfl, sE_V rfl, sE_V rfl, sE_V rfl, sE_V rfl, trivial⟩
  have f1 : EO (XT hp) s1 s14 s15 := fcX (ys := [s1, s14, s15]) (hFc _ (.tail _ (.head _))) ⟨sE_V rfl, sE_V rfl, sE_V rfl, trivial⟩
  have f2 : SL (XT hp) s3 s11 s12 (s0 + s14) := fcX (ys := [s3, s11, s12, (s0 + s14)]) (hFc _ (.tail _ (.tail _ (.head _)))) ⟨sE_V rfl, sE_V rfl, sE_V rfl, sEv (y' := ((0 : Int) + ((1 : Int) * s0 + ((1 : Int) * s14 + 0)))) rfl (by omega), trivial⟩
  exact poX (.head _) rfl hR (all_nil) (all_nil) (all_cons ⟨[3, s11], ⟨sE_k _ _, sE_V rfl, trivial⟩, (show RS (XT hp) (3 : Int) s11 from eo_f3 (XT_ok hO) f0.1 f1 f2 (by omega) (by omega) (by omega))⟩ (all_nil))
theorem rl206 : ruOk fFS gR206 := by
  intro r hp hO hN hH
  obtain ⟨s0, s1, s2, s3, s4, s5, s6, s7, s8, s9, s10, s11, s12, rfl⟩ := len13 (show r.length = 13 from hN.1)
  have hR := hN.2.1.1
  have hIv : ∀ q ∈ ([(0, .negSucc 2147483647, .ofNat 2147483647), (1, .negSucc 2147483647, .ofNat 2147483647), (2, .negSucc 2147483647, .ofNat 2147483647), (3, .ofNat 20, .ofNat 20), (4, .negSucc 2147483647, .ofNat 2147483647), (5, .negSucc 2147483647, .ofNat 2147483647), (6, .negSucc 2147483647, .ofNat 2147483647), (7, .negSucc 2147483647, .ofNat 2147483647), (8, .negSucc 2147483647, .ofNat 2147483647), (9, .negSucc 2147483647, .ofNat 2147483647), (10, .ofNat 2, .ofNat 2), (11, .negSucc 2147483647, .ofNat 2147483647), (12, .negSucc 2147483647, .ofNat 2147483647)] : sIv), ∃ x, ([s0, s1, s2, s3, s4, s5, s6, s7, s8, s9, s10, s11, s12] : List Int)[q.1]? = some x ∧ q.2.1 ≤ x ∧ x ≤ q.2.2 := hN.2.1.2
  have b3 : (20 : Int) ≤ s3 ∧ s3 ≤ (20 : Int) := ivX (q := (3, .ofNat 20, .ofNat 20)) (y := s3) (hIv _ (.tail _ (.tail _ (.tail _ (.head _))))) rfl
  have b10 : (2 : Int) ≤ s10 ∧ s10 ≤ (2 : Int) := ivX (q := (10, .ofNat 2, .ofNat 2)) (y := s10) (hIv _ (.tail _ (.tail _ (.tail _ (.tail _ (.tail _ (.tail _ (.tail _ (.tail _ (.tail _ (.tail _ (.head _)))))))))))) rfl
  have hRf : ∀ q ∈ ([((40, .ofNat 173, []), (.ofNat 9, []), 1, .ofNat 0, [])] : List sRf), rfOk [s0, s1, s2, s3, s4, s5, s6, s7, s8, s9, s10, s11, s12] hp q := hH.1
  have h0 : hI hp 173 9 = 0 := rfI0 (hRf _ (.head _)) (sE_k _ _) (sE_k _ _) (sE_k _ _)
  have hFc : ∀ q ∈ ([(53, [(.ofNat 0, [(.ofNat 1, 2)]), (.ofNat 0, [(.ofNat 1, 3)]), (.ofNat 0, [(.ofNat 1, 4)]), (.ofNat 0, [(.ofNat 1, 5)]), (.ofNat 0, [(.ofNat 1, 0)]), (.ofNat 0, [(.ofNat 1, 6)]), (.ofNat 0, [(.ofNat 1, 7)]), (.ofNat 0, [(.ofNat 1, 8)]), (.ofNat 0, [(.ofNat 1, 9)]), (.ofNat 0, [(.ofNat 1, 10)]), (.ofNat 0, [(.ofNat 1, 11)]), (.ofNat 0, [(.ofNat 1, 12)]), (.ofNat 0, [(.ofNat 1, 1)])]), (79, [(.ofNat 0, [(.ofNat 1, 4)]), (.ofNat 0, [(.ofNat 1, 0)]), (.ofNat 0, [(.ofNat 1, 1)]), (.ofNat 0, [])]), (60, [(.ofNat 0, [(.ofNat 1, 2)])])] : List sFc), fcOk fFS [s0, s1, s2, s3, s4, s5, s6, s7, s8, s9, s10, s11, s12] hp q := hH.2
  have f0 : Hq (XT hp) s2 s3 s4 s5 s0 s6 s7 s8 s9 s10 s11 s12 s1 ∧ s10 ≠ 4 := fcX (ys := [s2, s3, s4, s5, s0, s6, s7, s8, s9, s10, s11, s12, s1]) (hFc _ (.head _)) ⟨sE_V rfl, sE_V rfl, sE_V rfl, sE_V rfl, sE_V rfl, sE_V rfl, sE_V rfl, sE_V rfl, sE_V rfl, sE_V rfl, sE_V rfl, sE_V rfl, sE_V rfl, trivial⟩
  have f1 : dF (XT hp) s4 (fun D => bP (0 : Int) (fre D s0 s1)) := fcX (ys := [s4, s0, s1, 0]) (hFc _ (.tail _ (.head _))) ⟨sE_V rfl, sE_V rfl, sE_V rfl, sE_k _ _, trivial⟩
  have f2 : NO (XT hp) s2 := fcX (ys := [s2]) (hFc _ (.tail _ (.tail _ (.head _)))) ⟨sE_V rfl, trivial⟩
  exact poX (.head _) rfl hR (all_nil) (all_nil) (all_cons ⟨[3, s11], ⟨sE_k _ _, sE_V rfl, trivial⟩, (show RS (XT hp) (3 : Int) s11 from hN20x (XT_ok hO) f0.1 (by omega) (by omega) f2 (d0' f1 rfl))⟩ (all_nil))
theorem rl207 : ruOk fFS gR207 := by
  intro r hp hO hN hH
  obtain ⟨s0, s1, s2, rfl⟩ := len3 (show r.length = 3 from hN.1)
  have hR := hN.2.1.1
  have hIv : ∀ q ∈ ([(1, .negSucc 2147483647, .ofNat 2147483647), (2, .negSucc 2147483647, .ofNat 2147483647)] : sIv), ∃ x, ([s0, s1, s2] : List Int)[q.1]? = some x ∧ q.2.1 ≤ x ∧ x ≤ q.2.2 := hN.2.1.2
  have hRf : ∀ q ∈ ([((43, .ofNat 176, []), (.ofNat 2, []), 31, .ofNat 0, [(.ofNat 1, 0)]), ((15, .ofNat 0, [(.ofNat 1, 0)]), (.ofNat 2, []), 1, .ofNat 0, [(.ofNat 1, 1)])] : List sRf), rfOk [s0, s1, s2] hp q := hH.1
  have g0 : s0 = ((hC hp 176 2 : Nat) : Int) := rfR0 (hRf _ (.head _)) (sE_k _ _) (sE_k _ _) (sE_V rfl)
  have h1 : hI hp (hC hp 176 2) 2 = s1 := rfI0 (hRf _ (.tail _ (.head _))) (sEv (sE_V rfl) g0.symm) (sE_k _ _) (sE_V rfl)
  have hFc : ∀ q ∈ ([(73, [(.ofNat 0, [(.ofNat 1, 2)])])] : List sFc), fcOk fFS [s0, s1, s2] hp q := hH.2
  have f0 : ∀ i : Nat, i < 14 → (i : Int) < s2 → bt (hI hp (hC hp 176 2) 2) i := fcX (ys := [s2]) (hFc _ (.head _)) ⟨sE_V rfl, trivial⟩
  exact poX (.head _) rfl hR (all_nil) (all_nil) (all_cons ⟨[s1, s2], ⟨sE_V rfl, sE_V rfl, trivial⟩, (show ∀ i : Nat, i < 14 → (i : Int) < s2 → bt s1 i from fun i hi hs => by have u := f0 i hi hs; rw [h1] at u; exact u)⟩ (all_nil))
theorem rl208 : ruOk fFS gR208 := by
  intro r hp hO hN hH
  obtain ⟨s0, s1, s2, s3, s4, s5, s6, s7, s8, rfl⟩ := len9 (show r.length = 9 from hN.1)
  have hR := hN.2.1.1
  have hIv : ∀ q ∈ ([(1, .negSucc 2147483647, .ofNat 2147483647), (2, .negSucc 2147483647, .ofNat 2147483647), (5, .ofNat 0, .ofNat 13), (6, .negSucc 2147483647, .ofNat 2147483647), (7, .negSucc 2147483647, .ofNat 2147483647), (8, .negSucc 2147483647, .ofNat 2147483647)] : sIv), ∃ x, ([s0, s1, s2, s3, s4, s5, s6, s7, s8] : List Int)[q.1]? = some x ∧ q.2.1 ≤ x ∧ x ≤ q.2.2 := hN.2.1.2
  have b2 : (0 : Int) ≤ s5 ∧ s5 ≤ (13 : Int) := ivX (q := (5, .ofNat 0, .ofNat 13)) (y := s5) (hIv _ (.tail _ (.tail _ (.head _)))) rfl
  have hCs : ∀ c ∈ ([(.ofNat 0, [(.negSucc 0, 1), (.ofNat 1, 6)]), (.ofNat 0, [(.ofNat 1, 1), (.negSucc 0, 6)]), (.ofNat 0, [(.negSucc 0, 2), (.ofNat 1, 7)]), (.ofNat 0, [(.ofNat 1, 2), (.negSucc 0, 7)])] : List sLn), ∃ x, sE [s0, s1, s2, s3, s4, s5, s6, s7, s8] c = some x ∧ x ≤ 0 := hN.2.2.1
  have c0 : ((0 : Int) + ((-1 : Int) * s1 + ((1 : Int) * s6 + 0))) ≤ 0 := csX (hCs _ (.head _)) rfl
  have c1 : ((0 : Int) + ((1 : Int) * s1 + ((-1 : Int) * s6 + 0))) ≤ 0 := csX (hCs _ (.tail _ (.head _))) rfl
  have c2 : ((0 : Int) + ((-1 : Int) * s2 + ((1 : Int) * s7 + 0))) ≤ 0 := csX (hCs _ (.tail _ (.tail _ (.head _)))) rfl
  have c3 : ((0 : Int) + ((1 : Int) * s2 + ((-1 : Int) * s7 + 0))) ≤ 0 := csX (hCs _ (.tail _ (.tail _ (.tail _ (.head _))))) rfl
  have hRf : ∀ q ∈ ([((43, .ofNat 176, []), (.ofNat 2, []), 31, .ofNat 0, [(.ofNat 1, 0)]), ((15, .ofNat 0, [(.ofNat 1, 0)]), (.ofNat 6, []), 33, .ofNat 0, [(.ofNat 1, 3)]), ((15, .ofNat 0, [(.ofNat 1, 0)]), (.ofNat 7, []), 34, .ofNat 0, [(.ofNat 1, 4)]), ((15, .ofNat 0, [(.ofNat 1, 0)]), (.ofNat 1, []), 1, .ofNat 0, [(.ofNat 1, 5)]), ((17, .ofNat 0, [(.ofNat 1, 3)]), (.ofNat 0, [(.ofNat 1, 5)]), 1, .ofNat 0, [(.ofNat 1, 6)]), ((18, .ofNat 0, [(.ofNat 1, 4)]), (.ofNat 0, [(.ofNat 1, 5)]), 1, .ofNat 0, [(.ofNat 1, 7)])] : List sRf), rfOk [s0, s1, s2, s3, s4, s5, s6, s7, s8] hp q := hH.1
  have g0 : s0 = ((hC hp 176 2 : Nat) : Int) := rfR0 (hRf _ (.head _)) (sE_k _ _) (sE_k _ _) (sE_V rfl)
  have g1 : s3 = ((rr hp 2 6 : Nat) : Int) := rfR0 (hRf _ (.tail _ (.head _))) (sEv (sE_V rfl) g0.symm) (sE_k _ _) (sE_V rfl)
  have g2 : s4 = ((rr hp 2 7 : Nat) : Int) := rfR0 (hRf _ (.tail _ (.tail _ (.head _)))) (sEv (sE_V rfl) g0.symm) (sE_k _ _) (sE_V rfl)
  have h3 : hI hp (hC hp 176 2) 1 = s5 := rfI0 (hRf _ (.tail _ (.tail _ (.tail _ (.head _))))) (sEv (sE_V rfl) g0.symm) (sE_k _ _) (sE_V rfl)
  obtain ⟨i4, e4, l4, h4⟩ := rfI (xv := s6) (iv := s5) (hRf _ (.tail _ (.tail _ (.tail _ (.tail _ (.head _)))))) (sEv (sE_V rfl) g1.symm) (sE_V rfl) (sE_V rfl)
  have l4 : i4 < 14 := l4
  have h4 : hI hp (rr hp 2 6) i4 = s6 := h4
  obtain ⟨i5, e5, l5, h5⟩ := rfI (xv := s7) (iv := s5) (hRf _ (.tail _ (.tail _ (.tail _ (.tail _ (.tail _ (.head _))))))) (sEv (sE_V rfl) g2.symm) (sE_V rfl) (sE_V rfl)
  have l5 : i5 < 14 := l5
  have h5 : hI hp (rr hp 2 7) i5 = s7 := h5
  have hFc : ∀ q ∈ ([(72, [(.ofNat 0, [(.ofNat 1, 5)]), (.ofNat 0, [(.ofNat 1, 8)])])] : List sFc), fcOk fFS [s0, s1, s2, s3, s4, s5, s6, s7, s8] hp q := hH.2
  have f0 : dF (XT hp) s8 (fun D => s5 = (dTr D).length ∧ ∀ i : Nat, i < 14 → (i : Int) < s5 → (dTr D)[i]? = some (hI hp (rr hp 2 6) i, hI hp (rr hp 2 7) i)) := fcX (ys := [s5, s8]) (hFc _ (.head _)) ⟨sE_V rfl, sE_V rfl, trivial⟩
  exact poX (.head _) rfl hR (all_nil) (all_nil) (all_cons ⟨[s5, s1, s2], ⟨sE_V rfl, sE_V rfl, sE_V rfl, trivial⟩, (show ∃ i : Nat, i < 14 ∧ s5 = (i : Int) ∧ hI hp (rr hp 2 6) i = s1 ∧ hI hp (rr hp 2 7) i = s2 from ⟨i4, by omega, by omega, by rw [h4]; omega, by rw [show i4 = i5 by omega, h5]; omega⟩)⟩ (all_nil))
theorem rl209 : ruOk fFS gR209 := by
  intro r hp hO hN hH
  obtain ⟨s0, s1, s2, s3, s4, rfl⟩ := len5 (show r.length = 5 from hN.1)
  have hR := hN.2.1.1
  have hIv : ∀ q ∈ ([(1, .negSucc 2147483647, .ofNat 2147483647), (2, .ofNat 0, .ofNat 13), (3, .negSucc 2147483647, .ofNat 2147483647), (4, .negSucc 2147483647, .ofNat 2147483647)] : sIv), ∃ x, ([s0, s1, s2, s3, s4] : List Int)[q.1]? = some x ∧ q.2.1 ≤ x ∧ x ≤ q.2.2 := hN.2.1.2
  have b1 : (0 : Int) ≤ s2 ∧ s2 ≤ (13 : Int) := ivX (q := (2, .ofNat 0, .ofNat 13)) (y := s2) (hIv _ (.tail _ (.head _))) rfl
  have hRf : ∀ q ∈ ([((43, .ofNat 176, []), (.ofNat 2, []), 31, .ofNat 0, [(.ofNat 1, 0)]), ((15, .ofNat 0, [(.ofNat 1, 0)]), (.ofNat 2, []), 1, .ofNat 0, [(.ofNat 1, 1)]), ((15, .ofNat 0, [(.ofNat 1, 0)]), (.ofNat 1, []), 1, .ofNat 0, [(.ofNat 1, 2)])] : List sRf), rfOk [s0, s1, s2, s3, s4] hp q := hH.1
  have g0 : s0 = ((hC hp 176 2 : Nat) : Int) := rfR0 (hRf _ (.head _)) (sE_k _ _) (sE_k _ _) (sE_V rfl)
  have h1 : hI hp (hC hp 176 2) 2 = s1 := rfI0 (hRf _ (.tail _ (.head _))) (sEv (sE_V rfl) g0.symm) (sE_k _ _) (sE_V rfl)
  have h2 : hI hp (hC hp 176 2) 1 = s2 := rfI0 (hRf _ (.tail _ (.tail _ (.head _)))) (sEv (sE_V rfl) g0.symm) (sE_k _ _) (sE_V rfl)
  have hFc : ∀ q ∈ ([(90, [(.ofNat 0, [(.ofNat 1, 3)]), (.ofNat 0, [(.ofNat 1, 2)])]), (85, [(.ofNat 1, []), (.ofNat 0, [(.ofNat 1, 2)]), (.ofNat 0, [(.ofNat 1, 4)])]), (86, [(.ofNat 0, [(.ofNat 1, 3)]), (.ofNat 0, [(.ofNat 1, 4)]), (.ofNat 0, [(.ofNat 1, 1)])])] : List sFc), fcOk fFS [s0, s1, s2, s3, s4] hp q := hH.2
  have f0 : ∀ i : Nat, i < 14 → (i : Int) < s2 → bt s3 i := fcX (ys := [s3, s2]) (hFc _ (.head _)) ⟨sE_V rfl, sE_V rfl, trivial⟩
  have f1 : (1 : Int) = 1 → 0 ≤ s2 → s2 ≤ 13 → s4 = 2 ^ s2.toNat := fcX (ys := [1, s2, s4]) (hFc _ (.tail _ (.head _))) ⟨sE_k _ _, sE_V rfl, sE_V rfl, trivial⟩
  have f2 : ∀ i : Nat, i < 14 → (bt s1 i ↔ (bt s3 i ∨ bt s4 i)) := fcX (ys := [s3, s4, s1]) (hFc _ (.tail _ (.tail _ (.head _)))) ⟨sE_V rfl, sE_V rfl, sE_V rfl, trivial⟩
  exact poX (.head _) rfl hR (all_nil) (all_nil) (all_cons ⟨[(s2 + 1)], ⟨sEv (y' := ((1 : Int) + ((1 : Int) * s2 + 0))) rfl (by omega), trivial⟩, (show ∀ i : Nat, i < 14 → (i : Int) < (s2 + 1) → bt (hI hp (hC hp 176 2) 2) i from al_add f0 h1 f1 f2 ⟨by omega, by omega⟩ (by omega))⟩ (all_nil))
theorem rl210 : ruOk fFS gR210 := by
  intro r hp hO hN hH
  obtain ⟨s0, s1, s2, s3, s4, s5, s6, s7, s8, s9, s10, s11, s12, s13, s14, s15, s16, s17, s18, s19, s20, s21, s22, rfl⟩ := len23 (show r.length = 23 from hN.1)
  have hR := hN.2.1.1
  have hIv : ∀ q ∈ ([(0, .negSucc 2147483647, .ofNat 2147483647), (1, .negSucc 2147483647, .ofNat 2147483647), (2, .negSucc 2147483647, .ofNat 2147483647), (3, .ofNat 20, .ofNat 20), (4, .negSucc 2147483647, .ofNat 2147483647), (5, .negSucc 2147483647, .ofNat 2147483647), (6, .negSucc 2147483647, .ofNat 2147483647), (7, .negSucc 2147483647, .ofNat 2147483647), (8, .negSucc 2147483647, .ofNat 2147483647), (9, .negSucc 2147483647, .ofNat 2147483647), (10, .ofNat 2, .ofNat 2), (11, .negSucc 2147483647, .ofNat 2147483647), (12, .negSucc 2147483647, .ofNat 2147483647), (13, .negSucc 2147483647, .ofNat 2147483647), (14, .negSucc 2147483647, .ofNat 2147483647), (15, .negSucc 2147483647, .ofNat 2147483647), (16, .negSucc 2147483647, .ofNat 2147483647), (17, .ofNat 0, .ofNat 13), (18, .negSucc 2147483647, .ofNat 2147483647), (19, .negSucc 2147483647, .ofNat 2147483647), (20, .negSucc 2147483647, .ofNat 2147483647), (21, .negSucc 2147483647, .ofNat 2147483647), (22, .negSucc 2147483647, .ofNat 2147483647)] : sIv), ∃ x, ([s0, s1, s2, s3, s4, s5, s6, s7, s8, s9, s10, s11, s12, s13, s14, s15, s16, s17, s18, s19, s20, s21, s22] : List Int)[q.1]? = some x ∧ q.2.1 ≤ x ∧ x ≤ q.2.2 := hN.2.1.2
  have b3 : (20 : Int) ≤ s3 ∧ s3 ≤ (20 : Int) := ivX (q := (3, .ofNat 20, .ofNat 20)) (y := s3) (hIv _ (.tail _ (.tail _ (.tail _ (.head _))))) rfl
  have b10 : (2 : Int) ≤ s10 ∧ s10 ≤ (2 : Int) := ivX (q := (10, .ofNat 2, .ofNat 2)) (y := s10) (hIv _ (.tail _ (.tail _ (.tail _ (.tail _ (.tail _ (.tail _ (.tail _ (.tail _ (.tail _ (.tail _ (.head _)))))))))))) rfl
  have b17 : (0 : Int) ≤ s17 ∧ s17 ≤ (13 : Int) := ivX (q := (17, .ofNat 0, .ofNat 13)) (y := s17) (hIv _ (.tail _ (.tail _ (.tail _ (.tail _ (.tail _ (.tail _ (.tail _ (.tail _ (.tail _ (.tail _ (.tail _ (.tail _ (.tail _ (.tail _ (.tail _ (.tail _ (.tail _ (.head _))))))))))))))))))) rfl
  have hRf : ∀ q ∈ ([((40, .ofNat 173, []), (.ofNat 9, []), 1, .ofNat 0, [])] : List sRf), rfOk [s0, s1, s2, s3, s4, s5, s6, s7, s8, s9, s10, s11, s12, s13, s14, s15, s16, s17, s18, s19, s20, s21, s22] hp q := hH.1
  have h0 : hI hp 173 9 = 0 := rfI0 (hRf _ (.head _)) (sE_k _ _) (sE_k _ _) (sE_k _ _)
  have hFc : ∀ q ∈ ([(53, [(.ofNat 0, [(.ofNat 1, 2)]), (.ofNat 0, [(.ofNat 1, 3)]), (.ofNat 0, [(.ofNat 1, 4)]), (.ofNat 0, [(.ofNat 1, 5)]), (.ofNat 0, [(.ofNat 1, 0)]), (.ofNat 0, [(.ofNat 1, 6)]), (.ofNat 0, [(.ofNat 1, 7)]), (.ofNat 0, [(.ofNat 1, 8)]), (.ofNat 0, [(.ofNat 1, 9)]), (.ofNat 0, [(.ofNat 1, 10)]), (.ofNat 0, [(.ofNat 1, 11)]), (.ofNat 0, [(.ofNat 1, 12)]), (.ofNat 0, [(.ofNat 1, 1)])]), (59, [(.ofNat 0, [(.ofNat 1, 4)]), (.ofNat 0, [(.ofNat 1, 13)]), (.ofNat 0, [(.ofNat 1, 14)]), (.ofNat 0, [(.ofNat 1, 15)]), (.ofNat 0, [(.ofNat 1, 16)]), (.ofNat 0, [(.ofNat 1, 17)]), (.ofNat 0, [(.ofNat 1, 18)]), (.ofNat 0, [(.ofNat 1, 19)]), (.ofNat 0, [(.ofNat 1, 20)]), (.ofNat 0, [(.ofNat 1, 21)]), (.ofNat 0, [(.ofNat 1, 22)])]), (61, [(.ofNat 0, [(.ofNat 1, 4)])]), (68, [(.ofNat 0, [(.ofNat 1, 4)])]), (74, [(.ofNat 0, [(.ofNat 1, 4)])]), (75, [(.ofNat 0, [(.ofNat 1, 16)]), (.ofNat 0, [(.ofNat 1, 4)])]), (79, [(.ofNat 0, [(.ofNat 1, 4)]), (.ofNat 0, [(.ofNat 1, 0)]), (.ofNat 0, [(.ofNat 1, 1)]), (.ofNat 1, [])]), (72, [(.ofNat 0, [(.ofNat 1, 17)]), (.ofNat 0, [(.ofNat 1, 4)])]), (96, [(.ofNat 0, [(.ofNat 1, 17)]), (.ofNat 0, [(.ofNat 1, 0)]), (.ofNat 0, [(.ofNat 1, 1)])]), (73, [(.ofNat 1, [(.ofNat 1, 17)])]), (60, [(.ofNat 0, [(.ofNat 1, 2)])])] : List sFc), fcOk fFS [s0, s1, s2, s3, s4, s5, s6, s7, s8, s9, s10, s11, s12, s13, s14, s15, s16, s17, s18, s19, s20, s21, s22] hp q := hH.2
  have f0 : Hq (XT hp) s2 s3 s4 s5 s0 s6 s7 s8 s9 s10 s11 s12 s1 ∧ s10 ≠ 4 := fcX (ys := [s2, s3, s4, s5, s0, s6, s7, s8, s9, s10, s11, s12, s1]) (hFc _ (.head _)) ⟨sE_V rfl, sE_V rfl, sE_V rfl, sE_V rfl, sE_V rfl, sE_V rfl, sE_V rfl, sE_V rfl, sE_V rfl, sE_V rfl, sE_V rfl, sE_V rfl, sE_V rfl, trivial⟩
  have f1 : CT (XT hp) s4 s13 s14 s15 s16 s17 s18 s19 s20 s21 s22 := fcX (ys := [s4, s13, s14, s15, s16, s17, s18, s19, s20, s21, s22]) (hFc _ (.tail _ (.head _))) ⟨sE_V rfl, sE_V rfl, sE_V rfl, sE_V rfl, sE_V rfl, sE_V rfl, sE_V rfl, sE_V rfl, sE_V rfl, sE_V rfl, sE_V rfl, trivial⟩
  have f2 : dF (XT hp) s4 (fun D => ∀ j : Nat, j < 12 → hL hp (rr hp 1 7) j = cd 32 96 (nm D j)) := fcX (ys := [s4]) (hFc _ (.tail _ (.tail _ (.head _)))) ⟨sE_V rfl, trivial⟩
  have f3 : dF (XT hp) s4 (fun D => ∀ p : Nat, p < 100 → (fX hp p ↔ ¬ tkI D p)) := fcX (ys := [s4]) (hFc _ (.tail _ (.tail _ (.tail _ (.head _))))) ⟨sE_V rfl, trivial⟩
  have f4 : dF (XT hp) s4 (fun D => ∀ j : Nat, j < 10 → wR (hI hp (rr hp 2 10) j) D j) := fcX (ys := [s4]) (hFc _ (.tail _ (.tail _ (.tail _ (.tail _ (.head _)))))) ⟨sE_V rfl, trivial⟩
  have f5 : dF (XT hp) s4 (fun D => s16 = (dWi D).length ∧ ∀ i : Nat, i < 8 → (i : Int) < s16 → (dWi D)[i]? = some (hI hp (rr hp 1 16) i, hI hp (rr hp 1 17) i)) := fcX (ys := [s16, s4]) (hFc _ (.tail _ (.tail _ (.tail _ (.tail _ (.tail _ (.head _))))))) ⟨sE_V rfl, sE_V rfl, trivial⟩
  have f6 : dF (XT hp) s4 (fun D => bP (1 : Int) (fre D s0 s1)) := fcX (ys := [s4, s0, s1, 1]) (hFc _ (.tail _ (.tail _ (.tail _ (.tail _ (.tail _ (.tail _ (.head _)))))))) ⟨sE_V rfl, sE_V rfl, sE_V rfl, sE_k _ _, trivial⟩
  have f7 : dF (XT hp) s4 (fun D => s17 = (dTr D).length ∧ ∀ i : Nat, i < 14 → (i : Int) < s17 → (dTr D)[i]? = some (hI hp (rr hp 2 6) i, hI hp (rr hp 2 7) i)) := fcX (ys := [s17, s4]) (hFc _ (.tail _ (.tail _ (.tail _ (.tail _ (.tail _ (.tail _ (.tail _ (.head _))))))))) ⟨sE_V rfl, sE_V rfl, trivial⟩
  have f8 : ∃ i : Nat, i < 14 ∧ s17 = (i : Int) ∧ hI hp (rr hp 2 6) i = s0 ∧ hI hp (rr hp 2 7) i = s1 := fcX (ys := [s17, s0, s1]) (hFc _ (.tail _ (.tail _ (.tail _ (.tail _ (.tail _ (.tail _ (.tail _ (.tail _ (.head _)))))))))) ⟨sE_V rfl, sE_V rfl, sE_V rfl, trivial⟩
  have f9 : ∀ i : Nat, i < 14 → (i : Int) < (s17 + 1) → bt (hI hp (hC hp 176 2) 2) i := fcX (ys := [(s17 + 1)]) (hFc _ (.tail _ (.tail _ (.tail _ (.tail _ (.tail _ (.tail _ (.tail _ (.tail _ (.tail _ (.head _))))))))))) ⟨sEv (y' := ((1 : Int) + ((1 : Int) * s17 + 0))) rfl (by omega), trivial⟩
  have f10 : NO (XT hp) s2 := fcX (ys := [s2]) (hFc _ (.tail _ (.tail _ (.tail _ (.tail _ (.tail _ (.tail _ (.tail _ (.tail _ (.tail _ (.tail _ (.head _)))))))))))) ⟨sE_V rfl, trivial⟩
  have u := hN20 (XT_ok hO) f0.1 (by omega) (by omega) f10 (d1 f6 rfl)
  have hd := u.2
  obtain ⟨it, it1, it2, itx, ity⟩ := f8
  exact poX (.head _) rfl hR (all_nil) (all_nil) (all_cons ⟨[s12, 26, (s4 + 1), 0, 0, 0, 0, 0, 0], ⟨sE_V rfl, sE_k _ _, sEv (y' := ((1 : Int) + ((1 : Int) * s4 + 0))) rfl (by omega), sE_k _ _, sE_k _ _, sE_k _ _, sE_k _ _, sE_k _ _, sE_k _ _, trivial⟩, (show Gq (XT hp) s12 (26 : Int) (s4 + 1) (0 : Int) (0 : Int) (0 : Int) (0 : Int) (0 : Int) (0 : Int) from u.1)⟩ (all_cons ⟨[(s4 + 1), s13, s14, s15, s16, (s17 + 1), s18, s19, s20, s21, s22], ⟨sEv (y' := ((1 : Int) + ((1 : Int) * s4 + 0))) rfl (by omega), sE_V rfl, sE_V rfl, sE_V rfl, sE_V rfl, sEv (y' := ((1 : Int) + ((1 : Int) * s17 + 0))) rfl (by omega), sE_V rfl, sE_V rfl, sE_V rfl, sE_V rfl, sE_V rfl, trivial⟩, (show CT (XT hp) (s4 + 1) s13 s14 s15 s16 (s17 + 1) s18 s19 s20 s21 s22 from carry (XT_ok hO) hd f1 (fun D h => ct_aTr (by omega) h) (by omega))⟩ (all_cons ⟨[(s4 + 1)], ⟨sEv (y' := ((1 : Int) + ((1 : Int) * s4 + 0))) rfl (by omega), trivial⟩, (show dF (XT hp) (s4 + 1) (fun D => ∀ j : Nat, j < 12 → hL hp (rr hp 1 7) j = cd 32 96 (nm D j)) from carry (XT_ok hO) hd f2 (fun D h => h) (by omega))⟩ (all_cons ⟨[(s4 + 1)], ⟨sEv (y' := ((1 : Int) + ((1 : Int) * s4 + 0))) rfl (by omega), trivial⟩, (show dF (XT hp) (s4 + 1) (fun D => ∀ p : Nat, p < 100 → (fX hp p ↔ ¬ tkI D p)) from carry (XT_ok hO) hd f3 (fun D h => h) (by omega))⟩ (all_cons ⟨[(s4 + 1)], ⟨sEv (y' := ((1 : Int) + ((1 : Int) * s4 + 0))) rfl (by omega), trivial⟩, (show dF (XT hp) (s4 + 1) (fun D => ∀ j : Nat, j < 10 → wR (hI hp (rr hp 2 10) j) D j) from carry (XT_ok hO) hd f4 (fun D h => h) (by omega))⟩ (all_cons ⟨[s16, (s4 + 1)], ⟨sE_V rfl, sEv (y' := ((1 : Int) + ((1 : Int) * s4 + 0))) rfl (by omega), trivial⟩, (show dF (XT hp) (s4 + 1) (fun D => s16 = (dWi D).length ∧ ∀ i : Nat, i < 8 → (i : Int) < s16 → (dWi D)[i]? = some (hI hp (rr hp 1 16) i, hI hp (rr hp 1 17) i)) from carry (XT_ok hO) hd f5 (fun D h => h) (by omega))⟩ (all_cons ⟨[(s17 + 1), (s4 + 1)], ⟨sEv (y' := ((1 : Int) + ((1 : Int) * s17 + 0))) rfl (by omega), sEv (y' := ((1 : Int) + ((1 : Int) * s4 + 0))) rfl (by omega), trivial⟩, (show dF (XT hp) (s4 + 1) (fun D => (s17 + 1) = (dTr D).length ∧ ∀ i : Nat, i < 14 → (i : Int) < (s17 + 1) → (dTr D)[i]? = some (hI hp (rr hp 2 6) i, hI hp (rr hp 2 7) i)) from carry (XT_ok hO) hd f7 (fun D h => lst_add (i0 := it) (i1 := it) h itx ity (by omega) (by omega) (by omega)) (by omega))⟩ (all_cons ⟨[(s17 + 1)], ⟨sEv (y' := ((1 : Int) + ((1 : Int) * s17 + 0))) rfl (by omega), trivial⟩, (show ∀ i : Nat, i < 14 → (i : Int) < (s17 + 1) → bt (hI hp (hC hp 176 2) 2) i from f9)⟩ (all_nil)))))))))
theorem rl211 : ruOk fFS gR211 := by
  intro r hp hO hN hH
  obtain ⟨s0, s1, s2, s3, s4, s5, s6, s7, s8, s9, s10, s11, s12, s13, s14, s15, s16, s17, s18, s19, s20, s21, s22, rfl⟩ := len23 (show r.length = 23 from hN.1)
  have hR := hN.2.1.1
  have hIv : ∀ q ∈ ([(0, .negSucc 2147483647, .ofNat 2147483647), (1, .ofNat 0, .ofNat 0), (2, .negSucc 2147483647, .ofNat 2147483647), (3, .negSucc 2147483647, .ofNat 2147483647), (4, .negSucc 2147483647, .ofNat 2147483647), (5, .negSucc 2147483647, .ofNat 2147483647), (6, .negSucc 2147483647, .ofNat 2147483647), (7, .negSucc 2147483647, .ofNat 2147483647), (8, .negSucc 2147483647, .ofNat 2147483647), (9, .ofNat 1, .ofNat 1), (10, .negSucc 2147483647, .ofNat 2147483647), (11, .negSucc 2147483647, .ofNat 2147483647), (12, .ofNat 4, .ofNat 4), (13, .negSucc 2147483647, .ofNat 2147483647), (14, .negSucc 2147483647, .ofNat 2147483647), (15, .ofNat 5, .ofNat 5), (16, .negSucc 2147483647, .ofNat 2147483647), (17, .negSucc 2147483647, .ofNat 2147483647), (18, .negSucc 2147483647, .ofNat 2147483647), (19, .negSucc 2147483647, .ofNat 2147483647), (20, .negSucc 2147483647, .ofNat 2147483647), (21, .negSucc 2147483647, .ofNat 2147483647), (22, .negSucc 2147483647, .ofNat 2147483647)] : sIv), ∃ x, ([s0, s1, s2, s3, s4, s5, s6, s7, s8, s9, s10, s11, s12, s13, s14, s15, s16, s17, s18, s19, s20, s21, s22] : List Int)[q.1]? = some x ∧ q.2.1 ≤ x ∧ x ≤ q.2.2 := hN.2.1.2
  have b1 : (0 : Int) ≤ s1 ∧ s1 ≤ (0 : Int) := ivX (q := (1, .ofNat 0, .ofNat 0)) (y := s1) (hIv _ (.tail _ (.head _))) rfl
  have b9 : (1 : Int) ≤ s9 ∧ s9 ≤ (1 : Int) := ivX (q := (9, .ofNat 1, .ofNat 1)) (y := s9) (hIv _ (.tail _ (.tail _ (.tail _ (.tail _ (.tail _ (.tail _ (.tail _ (.tail _ (.tail _ (.head _))))))))))) rfl
  have b12 : (4 : Int) ≤ s12 ∧ s12 ≤ (4 : Int) := ivX (q := (12, .ofNat 4, .ofNat 4)) (y := s12) (hIv _ (.tail _ (.tail _ (.tail _ (.tail _ (.tail _ (.tail _ (.tail _ (.tail _ (.tail _ (.tail _ (.tail _ (.tail _ (.head _)))))))))))))) rfl
  have b15 : (5 : Int) ≤ s15 ∧ s15 ≤ (5 : Int) := ivX (q := (15, .ofNat 5, .ofNat 5)) (y := s15) (hIv _ (.tail _ (.tail _ (.tail _ (.tail _ (.tail _ (.tail _ (.tail _ (.tail _ (.tail _ (.tail _ (.tail _ (.tail _ (.tail _ (.tail _ (.tail _ (.head _))))))))))))))))) rfl
  have hRf : ∀ q ∈ ([((40, .ofNat 173, []), (.ofNat 9, []), 1, .ofNat 0, [])] : List sRf), rfOk [s0, s1, s2, s3, s4, s5, s6, s7, s8, s9, s10, s11, s12, s13, s14, s15, s16, s17, s18, s19, s20, s21, s22] hp q := hH.1
  have h0 : hI hp 173 9 = 0 := rfI0 (hRf _ (.head _)) (sE_k _ _) (sE_k _ _) (sE_k _ _)
  have hFc : ∀ q ∈ ([(53, [(.ofNat 0, [(.ofNat 1, 0)]), (.ofNat 0, [(.ofNat 1, 1)]), (.ofNat 0, [(.ofNat 1, 2)]), (.ofNat 0, [(.ofNat 1, 3)]), (.ofNat 0, [(.ofNat 1, 4)]), (.ofNat 0, [(.ofNat 1, 5)]), (.ofNat 0, [(.ofNat 1, 6)]), (.ofNat 0, [(.ofNat 1, 7)]), (.ofNat 0, [(.ofNat 1, 8)]), (.ofNat 0, [(.ofNat 1, 9)]), (.ofNat 0, [(.ofNat 1, 10)]), (.ofNat 0, [(.ofNat 1, 11)]), (.ofNat 0, [(.ofNat 1, 12)])]), (59, [(.ofNat 0, [(.ofNat 1, 2)]), (.ofNat 0, [(.ofNat 1, 13)]), (.ofNat 0, [(.ofNat 1, 14)]), (.ofNat 0, [(.ofNat 1, 15)]), (.ofNat 0, [(.ofNat 1, 16)]), (.ofNat 0, [(.ofNat 1, 17)]), (.ofNat 0, [(.ofNat 1, 18)]), (.ofNat 0, [(.ofNat 1, 19)]), (.ofNat 0, [(.ofNat 1, 20)]), (.ofNat 0, [(.ofNat 1, 21)]), (.ofNat 0, [(.ofNat 1, 22)])])] : List sFc), fcOk fFS [s0, s1, s2, s3, s4, s5, s6, s7, s8, s9, s10, s11, s12, s13, s14, s15, s16, s17, s18, s19, s20, s21, s22] hp q := hH.2
  have f0 : Hq (XT hp) s0 s1 s2 s3 s4 s5 s6 s7 s8 s9 s10 s11 s12 ∧ s9 ≠ 4 := fcX (ys := [s0, s1, s2, s3, s4, s5, s6, s7, s8, s9, s10, s11, s12]) (hFc _ (.head _)) ⟨sE_V rfl, sE_V rfl, sE_V rfl, sE_V rfl, sE_V rfl, sE_V rfl, sE_V rfl, sE_V rfl, sE_V rfl, sE_V rfl, sE_V rfl, sE_V rfl, sE_V rfl, trivial⟩
  have f1 : CT (XT hp) s2 s13 s14 s15 s16 s17 s18 s19 s20 s21 s22 := fcX (ys := [s2, s13, s14, s15, s16, s17, s18, s19, s20, s21, s22]) (hFc _ (.tail _ (.head _))) ⟨sE_V rfl, sE_V rfl, sE_V rfl, sE_V rfl, sE_V rfl, sE_V rfl, sE_V rfl, sE_V rfl, sE_V rfl, sE_V rfl, sE_V rfl, trivial⟩
  exact poX (.head _) rfl hR (all_nil) (all_nil) (all_cons ⟨[4, s10], ⟨sE_k _ _, sE_V rfl, trivial⟩, (show RS (XT hp) (4 : Int) s10 from ln_f4 (XT_ok hO) f0.1 (dF_mp f1 (fun D h => by unfold ctP at h; omega)) (by omega) (by omega) (by omega))⟩ (all_nil))
theorem rl212 : ruOk fFS gR212 := by
  intro r hp hO hN hH
  obtain ⟨s0, s1, s2, s3, s4, s5, s6, s7, s8, s9, s10, s11, s12, s13, s14, s15, s16, s17, s18, s19, s20, s21, s22, rfl⟩ := len23 (show r.length = 23 from hN.1)
  have hR := hN.2.1.1
  have hIv : ∀ q ∈ ([(0, .negSucc 2147483647, .ofNat 2147483647), (1, .ofNat 0, .ofNat 0), (2, .negSucc 2147483647, .ofNat 2147483647), (3, .negSucc 2147483647, .ofNat 2147483647), (4, .negSucc 2147483647, .ofNat 2147483647), (5, .negSucc 2147483647, .ofNat 2147483647), (6, .negSucc 2147483647, .ofNat 2147483647), (7, .negSucc 2147483647, .ofNat 2147483647), (8, .negSucc 2147483647, .ofNat 2147483647), (9, .ofNat 1, .ofNat 1), (10, .negSucc 2147483647, .ofNat 2147483647), (11, .negSucc 2147483647, .ofNat 2147483647), (12, .ofNat 4, .ofNat 4), (13, .negSucc 2147483647, .ofNat 2147483647), (14, .negSucc 2147483647, .ofNat 2147483647), (15, .ofNat 0, .ofNat 4), (16, .negSucc 2147483647, .ofNat 2147483647), (17, .negSucc 2147483647, .ofNat 2147483647), (18, .negSucc 2147483647, .ofNat 2147483647), (19, .negSucc 2147483647, .ofNat 2147483647), (20, .negSucc 2147483647, .ofNat 2147483647), (21, .negSucc 2147483647, .ofNat 2147483647), (22, .negSucc 2147483647, .ofNat 2147483647)] : sIv), ∃ x, ([s0, s1, s2, s3, s4, s5, s6, s7, s8, s9, s10, s11, s12, s13, s14, s15, s16, s17, s18, s19, s20, s21, s22] : List Int)[q.1]? = some x ∧ q.2.1 ≤ x ∧ x ≤ q.2.2 := hN.2.1.2
  have b1 : (0 : Int) ≤ s1 ∧ s1 ≤ (0 : Int) := ivX (q := (1, .ofNat 0, .ofNat 0)) (y := s1) (hIv _ (.tail _ (.head _))) rfl
  have b9 : (1 : Int) ≤ s9 ∧ s9 ≤ (1 : Int) := ivX (q := (9, .ofNat 1, .ofNat 1)) (y := s9) (hIv _ (.tail _ (.tail _ (.tail _ (.tail _ (.tail _ (.tail _ (.tail _ (.tail _ (.tail _ (.head _))))))))))) rfl
  have b12 : (4 : Int) ≤ s12 ∧ s12 ≤ (4 : Int) := ivX (q := (12, .ofNat 4, .ofNat 4)) (y := s12) (hIv _ (.tail _ (.tail _ (.tail _ (.tail _ (.tail _ (.tail _ (.tail _ (.tail _ (.tail _ (.tail _ (.tail _ (.tail _ (.head _)))))))))))))) rfl
  have b15 : (0 : Int) ≤ s15 ∧ s15 ≤ (4 : Int) := ivX (q := (15, .ofNat 0, .ofNat 4)) (y := s15) (hIv _ (.tail _ (.tail _ (.tail _ (.tail _ (.tail _ (.tail _ (.tail _ (.tail _ (.tail _ (.tail _ (.tail _ (.tail _ (.tail _ (.tail _ (.tail _ (.head _))))))))))))))))) rfl
  have hRf : ∀ q ∈ ([((40, .ofNat 173, []), (.ofNat 9, []), 1, .ofNat 0, [])] : List sRf), rfOk [s0, s1, s2, s3, s4, s5, s6, s7, s8, s9, s10, s11, s12, s13, s14, s15, s16, s17, s18, s19, s20, s21, s22] hp q := hH.1
  have h0 : hI hp 173 9 = 0 := rfI0 (hRf _ (.head _)) (sE_k _ _) (sE_k _ _) (sE_k _ _)
  have hFc : ∀ q ∈ ([(53, [(.ofNat 0, [(.ofNat 1, 0)]), (.ofNat 0, [(.ofNat 1, 1)]), (.ofNat 0, [(.ofNat 1, 2)]), (.ofNat 0, [(.ofNat 1, 3)]), (.ofNat 0, [(.ofNat 1, 4)]), (.ofNat 0, [(.ofNat 1, 5)]), (.ofNat 0, [(.ofNat 1, 6)]), (.ofNat 0, [(.ofNat 1, 7)]), (.ofNat 0, [(.ofNat 1, 8)]), (.ofNat 0, [(.ofNat 1, 9)]), (.ofNat 0, [(.ofNat 1, 10)]), (.ofNat 0, [(.ofNat 1, 11)]), (.ofNat 0, [(.ofNat 1, 12)])]), (59, [(.ofNat 0, [(.ofNat 1, 2)]), (.ofNat 0, [(.ofNat 1, 13)]), (.ofNat 0, [(.ofNat 1, 14)]), (.ofNat 0, [(.ofNat 1, 15)]), (.ofNat 0, [(.ofNat 1, 16)]), (.ofNat 0, [(.ofNat 1, 17)]), (.ofNat 0, [(.ofNat 1, 18)]), (.ofNat 0, [(.ofNat 1, 19)]), (.ofNat 0, [(.ofNat 1, 20)]), (.ofNat 0, [(.ofNat 1, 21)]), (.ofNat 0, [(.ofNat 1, 22)])])] : List sFc), fcOk fFS [s0, s1, s2, s3, s4, s5, s6, s7, s8, s9, s10, s11, s12, s13, s14, s15, s16, s17, s18, s19, s20, s21, s22] hp q := hH.2
  have f0 : Hq (XT hp) s0 s1 s2 s3 s4 s5 s6 s7 s8 s9 s10 s11 s12 ∧ s9 ≠ 4 := fcX (ys := [s0, s1, s2, s3, s4, s5, s6, s7, s8, s9, s10, s11, s12]) (hFc _ (.head _)) ⟨sE_V rfl, sE_V rfl, sE_V rfl, sE_V rfl, sE_V rfl, sE_V rfl, sE_V rfl, sE_V rfl, sE_V rfl, sE_V rfl, sE_V rfl, sE_V rfl, sE_V rfl, trivial⟩
  have f1 : CT (XT hp) s2 s13 s14 s15 s16 s17 s18 s19 s20 s21 s22 := fcX (ys := [s2, s13, s14, s15, s16, s17, s18, s19, s20, s21, s22]) (hFc _ (.tail _ (.head _))) ⟨sE_V rfl, sE_V rfl, sE_V rfl, sE_V rfl, sE_V rfl, sE_V rfl, sE_V rfl, sE_V rfl, sE_V rfl, sE_V rfl, sE_V rfl, trivial⟩
  obtain ⟨D, hG, hP⟩ := ln_g4 (P := ctP s13 s14 s15 s16 s17 s18 s19 s20 s21 s22) (XT_ok hO) f0.1 (dF_mp f1 (fun D h => ⟨by unfold ctP at h; omega, h⟩)) (by omega) (by omega) (by omega)
  exact poX (.head _) rfl hR (all_nil) (all_nil) (all_cons ⟨[s11, 14, s2, 0, 0, 0, 0, 0, 0], ⟨sE_V rfl, sE_k _ _, sE_V rfl, sE_k _ _, sE_k _ _, sE_k _ _, sE_k _ _, sE_k _ _, sE_k _ _, trivial⟩, (show Gq (XT hp) s11 (14 : Int) s2 (0 : Int) (0 : Int) (0 : Int) (0 : Int) (0 : Int) (0 : Int) from ⟨D, hG⟩)⟩ (all_cons ⟨[s11], ⟨sE_V rfl, trivial⟩, (show EF (XT hp) s11 from ex_mk hG (by decide) (by decide) (by decide))⟩ (all_nil)))
theorem rl213 : ruOk fFS gR213 := by
  intro r hp hO hN hH
  obtain ⟨s0, s1, s2, s3, s4, s5, s6, s7, s8, s9, s10, s11, s12, rfl⟩ := len13 (show r.length = 13 from hN.1)
  have hR := hN.2.1.1
  have hIv : ∀ q ∈ ([(0, .negSucc 2147483647, .ofNat 2147483647), (1, .ofNat 14, .ofNat 14), (2, .negSucc 2147483647, .ofNat 2147483647), (3, .negSucc 2147483647, .ofNat 2147483647), (4, .negSucc 2147483647, .ofNat 2147483647), (5, .negSucc 2147483647, .ofNat 2147483647), (6, .negSucc 2147483647, .ofNat 2147483647), (7, .negSucc 2147483647, .ofNat 2147483647), (8, .negSucc 2147483647, .ofNat 2147483647), (9, .ofNat 1, .ofNat 1), (10, .negSucc 2147483647, .ofNat 2147483647), (11, .negSucc 2147483647, .ofNat 2147483647), (12, .negSucc 0, .negSucc 0)] : sIv), ∃ x, ([s0, s1, s2, s3, s4, s5, s6, s7, s8, s9, s10, s11, s12] : List Int)[q.1]? = some x ∧ q.2.1 ≤ x ∧ x ≤ q.2.2 := hN.2.1.2
  have b1 : (14 : Int) ≤ s1 ∧ s1 ≤ (14 : Int) := ivX (q := (1, .ofNat 14, .ofNat 14)) (y := s1) (hIv _ (.tail _ (.head _))) rfl
  have b9 : (1 : Int) ≤ s9 ∧ s9 ≤ (1 : Int) := ivX (q := (9, .ofNat 1, .ofNat 1)) (y := s9) (hIv _ (.tail _ (.tail _ (.tail _ (.tail _ (.tail _ (.tail _ (.tail _ (.tail _ (.tail _ (.head _))))))))))) rfl
  have b12 : (-1 : Int) ≤ s12 ∧ s12 ≤ (-1 : Int) := ivX (q := (12, .negSucc 0, .negSucc 0)) (y := s12) (hIv _ (.tail _ (.tail _ (.tail _ (.tail _ (.tail _ (.tail _ (.tail _ (.tail _ (.tail _ (.tail _ (.tail _ (.tail _ (.head _)))))))))))))) rfl
  have hRf : ∀ q ∈ ([((40, .ofNat 173, []), (.ofNat 9, []), 1, .ofNat 0, [])] : List sRf), rfOk [s0, s1, s2, s3, s4, s5, s6, s7, s8, s9, s10, s11, s12] hp q := hH.1
  have h0 : hI hp 173 9 = 0 := rfI0 (hRf _ (.head _)) (sE_k _ _) (sE_k _ _) (sE_k _ _)
  have hFc : ∀ q ∈ ([(53, [(.ofNat 0, [(.ofNat 1, 0)]), (.ofNat 0, [(.ofNat 1, 1)]), (.ofNat 0, [(.ofNat 1, 2)]), (.ofNat 0, [(.ofNat 1, 3)]), (.ofNat 0, [(.ofNat 1, 4)]), (.ofNat 0, [(.ofNat 1, 5)]), (.ofNat 0, [(.ofNat 1, 6)]), (.ofNat 0, [(.ofNat 1, 7)]), (.ofNat 0, [(.ofNat 1, 8)]), (.ofNat 0, [(.ofNat 1, 9)]), (.ofNat 0, [(.ofNat 1, 10)]), (.ofNat 0, [(.ofNat 1, 11)]), (.ofNat 0, [(.ofNat 1, 12)])]), (67, [(.ofNat 0, [(.ofNat 1, 2)]), (.ofNat 0, [(.ofNat 1, 10)]), (.ofNat 0, [(.ofNat 1, 11)]), (.negSucc 0, [])])] : List sFc), fcOk fFS [s0, s1, s2, s3, s4, s5, s6, s7, s8, s9, s10, s11, s12] hp q := hH.2
  have f0 : Hq (XT hp) s0 s1 s2 s3 s4 s5 s6 s7 s8 s9 s10 s11 s12 ∧ s9 ≠ 4 := fcX (ys := [s0, s1, s2, s3, s4, s5, s6, s7, s8, s9, s10, s11, s12]) (hFc _ (.head _)) ⟨sE_V rfl, sE_V rfl, sE_V rfl, sE_V rfl, sE_V rfl, sE_V rfl, sE_V rfl, sE_V rfl, sE_V rfl, sE_V rfl, sE_V rfl, sE_V rfl, sE_V rfl, trivial⟩
  have f1 : SL (XT hp) s2 s10 s11 (-1 : Int) := fcX (ys := [s2, s10, s11, (-1)]) (hFc _ (.tail _ (.head _))) ⟨sE_V rfl, sE_V rfl, sE_V rfl, sE_k _ _, trivial⟩
  obtain ⟨D, hG⟩ := hF14 (XT_ok hO) f0.1 (by omega) (by omega) (by omega) f1 (by omega)
  exact poX (.head _) rfl hR (all_nil) (all_nil) (all_cons ⟨[s11, 15, s2, 0, 0, 0, 0, s10, s11], ⟨sE_V rfl, sE_k _ _, sE_V rfl, sE_k _ _, sE_k _ _, sE_k _ _, sE_k _ _, sE_V rfl, sE_V rfl, trivial⟩, (show Gq (XT hp) s11 (15 : Int) s2 (0 : Int) (0 : Int) (0 : Int) (0 : Int) s10 s11 from ⟨D, hG⟩)⟩ (all_cons ⟨[s11, 1, 12], ⟨sE_V rfl, sE_k _ _, sE_k _ _, trivial⟩, (show EN (XT hp) s11 (1 : Int) (12 : Int) from en_mk hG (nC15 (by omega) (by omega) (by omega)))⟩ (all_nil)))
theorem rl214 : ruOk fFS gR214 := by
  intro r hp hO hN hH
  obtain ⟨s0, s1, s2, s3, s4, s5, s6, s7, s8, s9, s10, s11, s12, rfl⟩ := len13 (show r.length = 13 from hN.1)
  have hR := hN.2.1.1
  have hIv : ∀ q ∈ ([(0, .negSucc 2147483647, .ofNat 2147483647), (1, .ofNat 15, .ofNat 15), (2, .negSucc 2147483647, .ofNat 2147483647), (3, .negSucc 2147483647, .ofNat 2147483647), (4, .negSucc 2147483647, .ofNat 2147483647), (5, .negSucc 2147483647, .ofNat 2147483647), (6, .negSucc 2147483647, .ofNat 2147483647), (7, .negSucc 2147483647, .ofNat 2147483647), (8, .negSucc 2147483647, .ofNat 2147483647), (9, .ofNat 2, .ofNat 2), (10, .negSucc 2147483647, .ofNat 2147483647), (11, .negSucc 2147483647, .ofNat 2147483647), (12, .negSucc 2147483647, .ofNat 2147483647)] : sIv), ∃ x, ([s0, s1, s2, s3, s4, s5, s6, s7, s8, s9, s10, s11, s12] : List Int)[q.1]? = some x ∧ q.2.1 ≤ x ∧ x ≤ q.2.2 := hN.2.1.2
  have b1 : (15 : Int) ≤ s1 ∧ s1 ≤ (15 : Int) := ivX (q := (1, .ofNat 15, .ofNat 15)) (y := s1) (hIv _ (.tail _ (.head _))) rfl
  have b9 : (2 : Int) ≤ s9 ∧ s9 ≤ (2 : Int) := ivX (q := (9, .ofNat 2, .ofNat 2)) (y := s9) (hIv _ (.tail _ (.tail _ (.tail _ (.tail _ (.tail _ (.tail _ (.tail _ (.tail _ (.tail _ (.head _))))))))))) rfl
  have hRf : ∀ q ∈ ([((40, .ofNat 173, []), (.ofNat 9, []), 1, .ofNat 0, [])] : List sRf), rfOk [s0, s1, s2, s3, s4, s5, s6, s7, s8, s9, s10, s11, s12] hp q := hH.1
  have h0 : hI hp 173 9 = 0 := rfI0 (hRf _ (.head _)) (sE_k _ _) (sE_k _ _) (sE_k _ _)
  have hFc : ∀ q ∈ ([(53, [(.ofNat 0, [(.ofNat 1, 0)]), (.ofNat 0, [(.ofNat 1, 1)]), (.ofNat 0, [(.ofNat 1, 2)]), (.ofNat 0, [(.ofNat 1, 3)]), (.ofNat 0, [(.ofNat 1, 4)]), (.ofNat 0, [(.ofNat 1, 5)]), (.ofNat 0, [(.ofNat 1, 6)]), (.ofNat 0, [(.ofNat 1, 7)]), (.ofNat 0, [(.ofNat 1, 8)]), (.ofNat 0, [(.ofNat 1, 9)]), (.ofNat 0, [(.ofNat 1, 10)]), (.ofNat 0, [(.ofNat 1, 11)]), (.ofNat 0, [(.ofNat 1, 12)])]), (60, [(.ofNat 0, [(.ofNat 1, 0)])])] : List sFc), fcOk fFS [s0, s1, s2, s3, s4, s5, s6, s7, s8, s9, s10, s11, s12] hp q := hH.2
  have f0 : Hq (XT hp) s0 s1 s2 s3 s4 s5 s6 s7 s8 s9 s10 s11 s12 ∧ s9 ≠ 4 := fcX (ys := [s0, s1, s2, s3, s4, s5, s6, s7, s8, s9, s10, s11, s12]) (hFc _ (.head _)) ⟨sE_V rfl, sE_V rfl, sE_V rfl, sE_V rfl, sE_V rfl, sE_V rfl, sE_V rfl, sE_V rfl, sE_V rfl, sE_V rfl, sE_V rfl, sE_V rfl, sE_V rfl, trivial⟩
  have f1 : NO (XT hp) s0 := fcX (ys := [s0]) (hFc _ (.tail _ (.head _))) ⟨sE_V rfl, trivial⟩
  obtain ⟨D, hG⟩ := hN15 (XT_ok hO) f0.1 (by omega) (by omega) f1
  exact poX (.head _) rfl hR (all_nil) (all_nil) (all_cons ⟨[s11, 16, s2, 0, 0, 0, 0, s7, s8], ⟨sE_V rfl, sE_k _ _, sE_V rfl, sE_k _ _, sE_k _ _, sE_k _ _, sE_k _ _, sE_V rfl, sE_V rfl, trivial⟩, (show Gq (XT hp) s11 (16 : Int) s2 (0 : Int) (0 : Int) (0 : Int) (0 : Int) s7 s8 from ⟨D, hG⟩)⟩ (all_cons ⟨[s11, 1, 9], ⟨sE_V rfl, sE_k _ _, sE_k _ _, trivial⟩, (show EN (XT hp) s11 (1 : Int) (9 : Int) from en_mk hG (nC16 (by omega) (by omega) (by omega)))⟩ (all_nil)))
theorem rl215 : ruOk fFS gR215 := by
  intro r hp hO hN hH
  obtain ⟨s0, s1, s2, s3, s4, s5, s6, s7, s8, s9, s10, s11, s12, rfl⟩ := len13 (show r.length = 13 from hN.1)
  have hR := hN.2.1.1
  have hIv : ∀ q ∈ ([(0, .negSucc 2147483647, .ofNat 2147483647), (1, .negSucc 2147483647, .ofNat 2147483647), (2, .negSucc 2147483647, .ofNat 2147483647), (3, .negSucc 2147483647, .ofNat 2147483647), (4, .negSucc 2147483647, .ofNat 2147483647), (5, .negSucc 2147483647, .ofNat 2147483647), (6, .negSucc 2147483647, .ofNat 2147483647), (7, .negSucc 2147483647, .ofNat 2147483647), (8, .negSucc 2147483647, .ofNat 2147483647), (9, .ofNat 0, .ofNat 0), (10, .negSucc 2147483647, .ofNat 2147483647), (11, .negSucc 2147483647, .ofNat 2147483647), (12, .negSucc 2147483647, .ofNat 2147483647)] : sIv), ∃ x, ([s0, s1, s2, s3, s4, s5, s6, s7, s8, s9, s10, s11, s12] : List Int)[q.1]? = some x ∧ q.2.1 ≤ x ∧ x ≤ q.2.2 := hN.2.1.2
  have b9 : (0 : Int) ≤ s9 ∧ s9 ≤ (0 : Int) := ivX (q := (9, .ofNat 0, .ofNat 0)) (y := s9) (hIv _ (.tail _ (.tail _ (.tail _ (.tail _ (.tail _ (.tail _ (.tail _ (.tail _ (.tail _ (.head _))))))))))) rfl
  have hFc : ∀ q ∈ ([(53, [(.ofNat 0, [(.ofNat 1, 0)]), (.ofNat 0, [(.ofNat 1, 1)]), (.ofNat 0, [(.ofNat 1, 2)]), (.ofNat 0, [(.ofNat 1, 3)]), (.ofNat 0, [(.ofNat 1, 4)]), (.ofNat 0, [(.ofNat 1, 5)]), (.ofNat 0, [(.ofNat 1, 6)]), (.ofNat 0, [(.ofNat 1, 7)]), (.ofNat 0, [(.ofNat 1, 8)]), (.ofNat 0, [(.ofNat 1, 9)]), (.ofNat 0, [(.ofNat 1, 10)]), (.ofNat 0, [(.ofNat 1, 11)]), (.ofNat 0, [(.ofNat 1, 12)])]), (58, [(.ofNat 0, [(.ofNat 1, 0)])])] : List sFc), fcOk fFS [s0, s1, s2, s3, s4, s5, s6, s7, s8, s9, s10, s11, s12] hp q := hH.2
  have f0 : Hq (XT hp) s0 s1 s2 s3 s4 s5 s6 s7 s8 s9 s10 s11 s12 ∧ s9 ≠ 4 := fcX (ys := [s0, s1, s2, s3, s4, s5, s6, s7, s8, s9, s10, s11, s12]) (hFc _ (.head _)) ⟨sE_V rfl, sE_V rfl, sE_V rfl, sE_V rfl, sE_V rfl, sE_V rfl, sE_V rfl, sE_V rfl, sE_V rfl, sE_V rfl, sE_V rfl, sE_V rfl, sE_V rfl, trivial⟩
  have f1 : EF (XT hp) s0 := fcX (ys := [s0]) (hFc _ (.tail _ (.head _))) ⟨sE_V rfl, trivial⟩
  exact poX (.head _) rfl hR (all_nil) (all_nil) (all_cons ⟨[1, s10], ⟨sE_k _ _, sE_V rfl, trivial⟩, (show RS (XT hp) (1 : Int) s10 from ef_f1 (XT_ok hO) f0.1 f1 (by omega))⟩ (all_nil))
theorem rl216 : ruOk fFS gR216 := by
  intro r hp hO hN hH
  obtain ⟨s0, s1, s2, s3, s4, s5, s6, s7, s8, s9, s10, s11, s12, s13, s14, rfl⟩ := len15 (show r.length = 15 from hN.1)
  have hR := hN.2.1.1
  have hIv : ∀ q ∈ ([(0, .ofNat 0, .ofNat 11), (2, .negSucc 2147483647, .ofNat 2147483647), (3, .negSucc 2147483647, .ofNat 2147483647), (4, .negSucc 2147483647, .ofNat 2147483647), (5, .negSucc 2147483647, .ofNat 2147483647), (6, .negSucc 2147483647, .ofNat 2147483647), (7, .negSucc 2147483647, .ofNat 2147483647), (8, .negSucc 2147483647, .ofNat 2147483647), (9, .negSucc 2147483647, .ofNat 2147483647), (10, .negSucc 2147483647, .ofNat 2147483647), (11, .negSucc 2147483647, .ofNat 2147483647), (12, .negSucc 2147483647, .ofNat 2147483647), (13, .negSucc 2147483647, .ofNat 2147483647), (14, .negSucc 2147483647, .ofNat 2147483647)] : sIv), ∃ x, ([s0, s1, s2, s3, s4, s5, s6, s7, s8, s9, s10, s11, s12, s13, s14] : List Int)[q.1]? = some x ∧ q.2.1 ≤ x ∧ x ≤ q.2.2 := hN.2.1.2
  have b0 : (0 : Int) ≤ s0 ∧ s0 ≤ (11 : Int) := ivX (q := (0, .ofNat 0, .ofNat 11)) (y := s0) (hIv _ (.head _)) rfl
  have hRf : ∀ q ∈ ([((43, .ofNat 176, []), (.ofNat 1, []), 114, .ofNat 15, []), ((98, .ofNat 15, []), (.ofNat 7, []), 19, .ofNat 3, []), ((3, .ofNat 3, []), (.ofNat 0, [(.ofNat 1, 0)]), 5, .ofNat 0, [(.ofNat 1, 1)]), ((40, .ofNat 173, []), (.ofNat 8, []), 5, .ofNat 0, [(.ofNat 1, 1)])] : List sRf), rfOk [s0, s1, s2, s3, s4, s5, s6, s7, s8, s9, s10, s11, s12, s13, s14] hp q := hH.1
  have g0 : hC hp 176 1 = 15 := by
    have u := rfR0 (xv := (15 : Int)) (c0 := 176) (i0 := 1) (hRf _ (.head _)) (sE_k _ _) (sE_k _ _) (sE_k _ _)
    show hC hp (176) 1 = 15
    omega
  have g1 : rr hp 1 7 = 3 := by
    have u := rfR0 (xv := (3 : Int)) (c0 := hC hp 176 1) (i0 := 7) (hRf _ (.tail _ (.head _))) (by rw [g0]; exact sE_k _ _) (sE_k _ _) (sE_k _ _)
    show hC hp (hC hp 176 1) 7 = 3
    omega
  obtain ⟨i2, e2, l2, h2⟩ := rfL (c0 := rr hp 1 7) (iv := s0) (hRf _ (.tail _ (.tail _ (.head _)))) (by rw [g1]; exact sE_k _ _) (sE_V rfl) (sE_V rfl)
  have l2 : i2 < 12 := l2
  have h2 : hL hp (rr hp 1 7) i2 = s1 := h2
  have h3 : hL hp 173 8 = s1 := rfL0 (hRf _ (.tail _ (.tail _ (.tail _ (.head _))))) (sE_k _ _) (sE_k _ _) (sE_V rfl)
  have hFc : ∀ q ∈ ([(62, [(.ofNat 0, [(.ofNat 1, 0)]), (.ofNat 0, [(.ofNat 1, 2)])]), (63, [(.ofNat 1, [(.ofNat 1, 0)]), (.ofNat 0, [(.ofNat 1, 2)])]), (53, [(.ofNat 0, [(.ofNat 1, 3)]), (.ofNat 0, [(.ofNat 1, 4)]), (.ofNat 0, [(.ofNat 1, 2)]), (.ofNat 0, [(.ofNat 1, 5)]), (.ofNat 0, [(.ofNat 1, 6)]), (.ofNat 0, [(.ofNat 1, 7)]), (.ofNat 0, [(.ofNat 1, 8)]), (.ofNat 0, [(.ofNat 1, 9)]), (.ofNat 0, [(.ofNat 1, 10)]), (.ofNat 0, [(.ofNat 1, 11)]), (.ofNat 0, [(.ofNat 1, 12)]), (.ofNat 0, [(.ofNat 1, 13)]), (.ofNat 0, [(.ofNat 1, 14)])]), (48, [(.ofNat 0, [(.ofNat 1, 12)]), (.ofNat 0, [(.ofNat 1, 13)])])] : List sFc), fcOk fFS [s0, s1, s2, s3, s4, s5, s6, s7, s8, s9, s10, s11, s12, s13, s14] hp q := hH.2
  have f0 : dF (XT hp) s2 (fun D => ∀ j : Nat, j < 12 → (j : Int) < s0 → hL hp (rr hp 1 7) j = cd 32 96 (nm D j)) := fcX (ys := [s0, s2]) (hFc _ (.head _)) ⟨sE_V rfl, sE_V rfl, trivial⟩
  have f1 : dF (XT hp) s2 (fun D => ∀ j : Nat, j < 12 → (s0 + 1) ≤ (j : Int) → hL hp (rr hp 1 7) j = cd 32 96 (nm D j)) := fcX (ys := [(s0 + 1), s2]) (hFc _ (.tail _ (.head _))) ⟨sEv (y' := ((1 : Int) + ((1 : Int) * s0 + 0))) rfl (by omega), sE_V rfl, trivial⟩
  have f2 : Hq (XT hp) s3 s4 s2 s5 s6 s7 s8 s9 s10 s11 s12 s13 s14 ∧ s11 ≠ 4 := fcX (ys := [s3, s4, s2, s5, s6, s7, s8, s9, s10, s11, s12, s13, s14]) (hFc _ (.tail _ (.tail _ (.head _)))) ⟨sE_V rfl, sE_V rfl, sE_V rfl, sE_V rfl, sE_V rfl, sE_V rfl, sE_V rfl, sE_V rfl, sE_V rfl, sE_V rfl, sE_V rfl, sE_V rfl, sE_V rfl, trivial⟩
  have f3 : isW (bs (XB hp) s12 s13) ∧ hL hp 173 8 = cd 32 96 (bs (XB hp) s12 s13) := fcX (ys := [s12, s13]) (hFc _ (.tail _ (.tail _ (.tail _ (.head _))))) ⟨sE_V rfl, sE_V rfl, trivial⟩
  exact poX (.head _) rfl hR (all_nil) (all_nil) (all_cons ⟨[s0, s2, s12, s13], ⟨sE_V rfl, sE_V rfl, sE_V rfl, sE_V rfl, trivial⟩, (show dF (XT hp) s2 (fun D => ∀ j : Nat, j < 12 → hL hp (rr hp 1 7) j = if (j : Int) = s0 then cd 32 96 (bs (XT hp).1 s12 s13) else cd 32 96 (nm D j)) from nb_x hO f0 f1 h2 h3 f2 f3 (by omega) (by omega))⟩ (all_nil))
theorem rl217 : ruOk fFS gR217 := by
  intro r hp hO hN hH
  obtain ⟨s0, s1, s2, s3, s4, s5, s6, s7, s8, s9, s10, s11, s12, rfl⟩ := len13 (show r.length = 13 from hN.1)
  have hR := hN.2.1.1
  have hIv : ∀ q ∈ ([(0, .negSucc 2147483647, .ofNat 2147483647), (1, .negSucc 2147483647, .ofNat 2147483647), (2, .negSucc 2147483647, .ofNat 2147483647), (3, .negSucc 2147483647, .ofNat 2147483647), (4, .negSucc 2147483647, .ofNat 2147483647), (5, .negSucc 2147483647, .ofNat 2147483647), (6, .negSucc 2147483647, .ofNat 2147483647), (7, .negSucc 2147483647, .ofNat 2147483647), (8, .negSucc 2147483647, .ofNat 2147483647), (9, .ofNat 2, .ofNat 3), (10, .negSucc 2147483647, .ofNat 2147483647), (11, .negSucc 2147483647, .ofNat 2147483647), (12, .negSucc 2147483647, .ofNat 2147483647)] : sIv), ∃ x, ([s0, s1, s2, s3, s4, s5, s6, s7, s8, s9, s10, s11, s12] : List Int)[q.1]? = some x ∧ q.2.1 ≤ x ∧ x ≤ q.2.2 := hN.2.1.2
  have b9 : (2 : Int) ≤ s9 ∧ s9 ≤ (3 : Int) := ivX (q := (9, .ofNat 2, .ofNat 3)) (y := s9) (hIv _ (.tail _ (.tail _ (.tail _ (.tail _ (.tail _ (.tail _ (.tail _ (.tail _ (.tail _ (.head _))))))))))) rfl
  have hFc : ∀ q ∈ ([(53, [(.ofNat 0, [(.ofNat 1, 0)]), (.ofNat 0, [(.ofNat 1, 1)]), (.ofNat 0, [(.ofNat 1, 2)]), (.ofNat 0, [(.ofNat 1, 3)]), (.ofNat 0, [(.ofNat 1, 4)]), (.ofNat 0, [(.ofNat 1, 5)]), (.ofNat 0, [(.ofNat 1, 6)]), (.ofNat 0, [(.ofNat 1, 7)]), (.ofNat 0, [(.ofNat 1, 8)]), (.ofNat 0, [(.ofNat 1, 9)]), (.ofNat 0, [(.ofNat 1, 10)]), (.ofNat 0, [(.ofNat 1, 11)]), (.ofNat 0, [(.ofNat 1, 12)])]), (58, [(.ofNat 0, [(.ofNat 1, 0)])])] : List sFc), fcOk fFS [s0, s1, s2, s3, s4, s5, s6, s7, s8, s9, s10, s11, s12] hp q := hH.2
  have f0 : Hq (XT hp) s0 s1 s2 s3 s4 s5 s6 s7 s8 s9 s10 s11 s12 ∧ s9 ≠ 4 := fcX (ys := [s0, s1, s2, s3, s4, s5, s6, s7, s8, s9, s10, s11, s12]) (hFc _ (.head _)) ⟨sE_V rfl, sE_V rfl, sE_V rfl, sE_V rfl, sE_V rfl, sE_V rfl, sE_V rfl, sE_V rfl, sE_V rfl, sE_V rfl, sE_V rfl, sE_V rfl, sE_V rfl, trivial⟩
  have f1 : EF (XT hp) s0 := fcX (ys := [s0]) (hFc _ (.tail _ (.head _))) ⟨sE_V rfl, trivial⟩
  exact poX (.head _) rfl hR (all_nil) (all_nil) (all_cons ⟨[1, s10], ⟨sE_k _ _, sE_V rfl, trivial⟩, (show RS (XT hp) (1 : Int) s10 from ef_f1 (XT_ok hO) f0.1 f1 (by omega))⟩ (all_nil))
theorem rl218 : ruOk fFS gR218 := by
  intro r hp hO hN hH
  obtain ⟨s0, s1, s2, s3, s4, s5, s6, s7, s8, s9, s10, s11, s12, rfl⟩ := len13 (show r.length = 13 from hN.1)
  have hR := hN.2.1.1
  have hIv : ∀ q ∈ ([(0, .negSucc 2147483647, .ofNat 2147483647), (1, .negSucc 2147483647, .ofNat 2147483647), (2, .negSucc 2147483647, .ofNat 2147483647), (3, .negSucc 2147483647, .ofNat 2147483647), (4, .negSucc 2147483647, .ofNat 2147483647), (5, .negSucc 2147483647, .ofNat 2147483647), (6, .negSucc 2147483647, .ofNat 2147483647), (7, .negSucc 2147483647, .ofNat 2147483647), (8, .negSucc 2147483647, .ofNat 2147483647), (9, .ofNat 1, .ofNat 1), (10, .negSucc 2147483647, .ofNat 2147483647), (11, .negSucc 2147483647, .ofNat 2147483647), (12, .ofNat 0, .ofNat 29)] : sIv), ∃ x, ([s0, s1, s2, s3, s4, s5, s6, s7, s8, s9, s10, s11, s12] : List Int)[q.1]? = some x ∧ q.2.1 ≤ x ∧ x ≤ q.2.2 := hN.2.1.2
  have b9 : (1 : Int) ≤ s9 ∧ s9 ≤ (1 : Int) := ivX (q := (9, .ofNat 1, .ofNat 1)) (y := s9) (hIv _ (.tail _ (.tail _ (.tail _ (.tail _ (.tail _ (.tail _ (.tail _ (.tail _ (.tail _ (.head _))))))))))) rfl
  have b12 : (0 : Int) ≤ s12 ∧ s12 ≤ (29 : Int) := ivX (q := (12, .ofNat 0, .ofNat 29)) (y := s12) (hIv _ (.tail _ (.tail _ (.tail _ (.tail _ (.tail _ (.tail _ (.tail _ (.tail _ (.tail _ (.tail _ (.tail _ (.tail _ (.head _)))))))))))))) rfl
  have hFc : ∀ q ∈ ([(53, [(.ofNat 0, [(.ofNat 1, 0)]), (.ofNat 0, [(.ofNat 1, 1)]), (.ofNat 0, [(.ofNat 1, 2)]), (.ofNat 0, [(.ofNat 1, 3)]), (.ofNat 0, [(.ofNat 1, 4)]), (.ofNat 0, [(.ofNat 1, 5)]), (.ofNat 0, [(.ofNat 1, 6)]), (.ofNat 0, [(.ofNat 1, 7)]), (.ofNat 0, [(.ofNat 1, 8)]), (.ofNat 0, [(.ofNat 1, 9)]), (.ofNat 0, [(.ofNat 1, 10)]), (.ofNat 0, [(.ofNat 1, 11)]), (.ofNat 0, [(.ofNat 1, 12)])]), (58, [(.ofNat 0, [(.ofNat 1, 0)])])] : List sFc), fcOk fFS [s0, s1, s2, s3, s4, s5, s6, s7, s8, s9, s10, s11, s12] hp q := hH.2
  have f0 : Hq (XT hp) s0 s1 s2 s3 s4 s5 s6 s7 s8 s9 s10 s11 s12 ∧ s9 ≠ 4 := fcX (ys := [s0, s1, s2, s3, s4, s5, s6, s7, s8, s9, s10, s11, s12]) (hFc _ (.head _)) ⟨sE_V rfl, sE_V rfl, sE_V rfl, sE_V rfl, sE_V rfl, sE_V rfl, sE_V rfl, sE_V rfl, sE_V rfl, sE_V rfl, sE_V rfl, sE_V rfl, sE_V rfl, trivial⟩
  have f1 : EF (XT hp) s0 := fcX (ys := [s0]) (hFc _ (.tail _ (.head _))) ⟨sE_V rfl, trivial⟩
  exact poX (.head _) rfl hR (all_nil) (all_nil) (all_cons ⟨[1, s10], ⟨sE_k _ _, sE_V rfl, trivial⟩, (show RS (XT hp) (1 : Int) s10 from ef_f1 (XT_ok hO) f0.1 f1 (by omega))⟩ (all_nil))
theorem rl219 : ruOk fFS gR219 := by
  intro r hp hO hN hH
  obtain ⟨s0, s1, s2, s3, s4, s5, s6, s7, s8, s9, s10, s11, s12, s13, s14, rfl⟩ := len15 (show r.length = 15 from hN.1)
  have hR := hN.2.1.1
  have hIv : ∀ q ∈ ([(1, .negSucc 2147483647, .ofNat 2147483647), (2, .negSucc 2147483647, .ofNat 2147483647), (3, .negSucc 2147483647, .ofNat 2147483647), (4, .negSucc 2147483647, .ofNat 2147483647), (5, .negSucc 2147483647, .ofNat 2147483647), (6, .negSucc 2147483647, .ofNat 2147483647), (7, .negSucc 2147483647, .ofNat 2147483647), (8, .negSucc 2147483647, .ofNat 2147483647), (9, .negSucc 2147483647, .ofNat 2147483647), (10, .negSucc 2147483647, .ofNat 2147483647), (11, .negSucc 2147483647, .ofNat 2147483647), (12, .negSucc 2147483647, .ofNat 2147483647), (13, .negSucc 2147483647, .ofNat 2147483647), (14, .negSucc 2147483647, .ofNat 2147483647)] : sIv), ∃ x, ([s0, s1, s2, s3, s4, s5, s6, s7, s8, s9, s10, s11, s12, s13, s14] : List Int)[q.1]? = some x ∧ q.2.1 ≤ x ∧ x ≤ q.2.2 := hN.2.1.2
  have hRf : ∀ q ∈ ([((40, .ofNat 173, []), (.ofNat 8, []), 5, .ofNat 0, [(.ofNat 1, 0)])] : List sRf), rfOk [s0, s1, s2, s3, s4, s5, s6, s7, s8, s9, s10, s11, s12, s13, s14] hp q := hH.1
  have h0 : hL hp 173 8 = s0 := rfL0 (hRf _ (.head _)) (sE_k _ _) (sE_k _ _) (sE_V rfl)
  have hFc : ∀ q ∈ ([(53, [(.ofNat 0, [(.ofNat 1, 1)]), (.ofNat 0, [(.ofNat 1, 2)]), (.ofNat 0, [(.ofNat 1, 3)]), (.ofNat 0, [(.ofNat 1, 4)]), (.ofNat 0, [(.ofNat 1, 5)]), (.ofNat 0, [(.ofNat 1, 6)]), (.ofNat 0, [(.ofNat 1, 7)]), (.ofNat 0, [(.ofNat 1, 8)]), (.ofNat 0, [(.ofNat 1, 9)]), (.ofNat 0, [(.ofNat 1, 10)]), (.ofNat 0, [(.ofNat 1, 11)]), (.ofNat 0, [(.ofNat 1, 12)]), (.ofNat 0, [(.ofNat 1, 13)])]), (66, [(.ofNat 0, [(.ofNat 1, 3)]), (.ofNat 0, [(.ofNat 1, 0)]), (.ofNat 0, [(.ofNat 1, 14)])]), (48, [(.ofNat 0, [(.ofNat 1, 11)]), (.ofNat 0, [(.ofNat 1, 12)])])] : List sFc), fcOk fFS [s0, s1, s2, s3, s4, s5, s6, s7, s8, s9, s10, s11, s12, s13, s14] hp q := hH.2
  have f0 : Hq (XT hp) s1 s2 s3 s4 s5 s6 s7 s8 s9 s10 s11 s12 s13 ∧ s10 ≠ 4 := fcX (ys := [s1, s2, s3, s4, s5, s6, s7, s8, s9, s10, s11, s12, s13]) (hFc _ (.head _)) ⟨sE_V rfl, sE_V rfl, sE_V rfl, sE_V rfl, sE_V rfl, sE_V rfl, sE_V rfl, sE_V rfl, sE_V rfl, sE_V rfl, sE_V rfl, sE_V rfl, sE_V rfl, trivial⟩
  have f1 : dF (XT hp) s3 (fun D => scP D s0 s14) := fcX (ys := [s3, s0, s14]) (hFc _ (.tail _ (.head _))) ⟨sE_V rfl, sE_V rfl, sE_V rfl, trivial⟩
  have f2 : isW (bs (XB hp) s11 s12) ∧ hL hp 173 8 = cd 32 96 (bs (XB hp) s11 s12) := fcX (ys := [s11, s12]) (hFc _ (.tail _ (.tail _ (.head _)))) ⟨sE_V rfl, sE_V rfl, trivial⟩
  exact poX (.head _) rfl hR (all_nil) (all_nil) (all_cons ⟨[s3, s11, s12, s14], ⟨sE_V rfl, sE_V rfl, sE_V rfl, sE_V rfl, trivial⟩, (show SL (XT hp) s3 s11 s12 s14 from sl_x hO f0 f1 f2 h0)⟩ (all_nil))
theorem rl220 : ruOk fFS gR220 := by
  intro r hp hO hN hH
  obtain ⟨s0, s1, rfl⟩ := len2 (show r.length = 2 from hN.1)
  have hR := hN.2.1.1
  have hIv : ∀ q ∈ ([(0, .ofNat 0, .ofNat 11), (1, .negSucc 2147483647, .ofNat 2147483647)] : sIv), ∃ x, ([s0, s1] : List Int)[q.1]? = some x ∧ q.2.1 ≤ x ∧ x ≤ q.2.2 := hN.2.1.2
  have b0 : (0 : Int) ≤ s0 ∧ s0 ≤ (11 : Int) := ivX (q := (0, .ofNat 0, .ofNat 11)) (y := s0) (hIv _ (.head _)) rfl
  have hFc : ∀ q ∈ ([(61, [(.ofNat 0, [(.ofNat 1, 1)])])] : List sFc), fcOk fFS [s0, s1] hp q := hH.2
  have f0 : dF (XT hp) s1 (fun D => ∀ j : Nat, j < 12 → hL hp (rr hp 1 7) j = cd 32 96 (nm D j)) := fcX (ys := [s1]) (hFc _ (.head _)) ⟨sE_V rfl, trivial⟩
  exact poX (.head _) rfl hR (all_nil) (all_nil) (all_cons ⟨[s0, s1], ⟨sE_V rfl, sE_V rfl, trivial⟩, (show dF (XT hp) s1 (fun D => ∀ j : Nat, j < 12 → (j : Int) < s0 → hL hp (rr hp 1 7) j = cd 32 96 (nm D j)) from dF_mp f0 (fun D h j hj _ => h j hj))⟩ (all_cons ⟨[(s0 + 1), s1], ⟨sEv (y' := ((1 : Int) + ((1 : Int) * s0 + 0))) rfl (by omega), sE_V rfl, trivial⟩, (show dF (XT hp) s1 (fun D => ∀ j : Nat, j < 12 → (s0 + 1) ≤ (j : Int) → hL hp (rr hp 1 7) j = cd 32 96 (nm D j)) from dF_mp f0 (fun D h j hj _ => h j hj))⟩ (all_nil)))
theorem rl221 : ruOk fFS gR221 := by
  intro r hp hO hN hH
  obtain ⟨s0, s1, s2, s3, s4, s5, s6, s7, s8, s9, s10, s11, s12, s13, s14, rfl⟩ := len15 (show r.length = 15 from hN.1)
  have hR := hN.2.1.1
  have hIv : ∀ q ∈ ([(0, .ofNat 0, .ofNat 11), (2, .negSucc 2147483647, .ofNat 2147483647), (3, .negSucc 2147483647, .ofNat 2147483647), (4, .negSucc 2147483647, .ofNat 2147483647), (5, .negSucc 2147483647, .ofNat 2147483647), (6, .negSucc 2147483647, .ofNat 2147483647), (7, .negSucc 2147483647, .ofNat 2147483647), (8, .negSucc 2147483647, .ofNat 2147483647), (9, .negSucc 2147483647, .ofNat 2147483647), (10, .negSucc 2147483647, .ofNat 2147483647), (11, .negSucc 2147483647, .ofNat 2147483647), (12, .negSucc 2147483647, .ofNat 2147483647), (13, .negSucc 2147483647, .ofNat 2147483647), (14, .negSucc 2147483647, .ofNat 2147483647)] : sIv), ∃ x, ([s0, s1, s2, s3, s4, s5, s6, s7, s8, s9, s10, s11, s12, s13, s14] : List Int)[q.1]? = some x ∧ q.2.1 ≤ x ∧ x ≤ q.2.2 := hN.2.1.2
  have b0 : (0 : Int) ≤ s0 ∧ s0 ≤ (11 : Int) := ivX (q := (0, .ofNat 0, .ofNat 11)) (y := s0) (hIv _ (.head _)) rfl
  have hRf : ∀ q ∈ ([((43, .ofNat 176, []), (.ofNat 1, []), 114, .ofNat 15, []), ((98, .ofNat 15, []), (.ofNat 7, []), 115, .ofNat 16, []), ((99, .ofNat 16, []), (.ofNat 0, [(.ofNat 1, 0)]), 5, .ofNat 0, [(.ofNat 1, 1)]), ((40, .ofNat 173, []), (.ofNat 8, []), 5, .ofNat 0, [(.ofNat 1, 1)])] : List sRf), rfOk [s0, s1, s2, s3, s4, s5, s6, s7, s8, s9, s10, s11, s12, s13, s14] hp q := hH.1
  have g0 : hC hp 176 1 = 15 := by
    have u := rfR0 (xv := (15 : Int)) (c0 := 176) (i0 := 1) (hRf _ (.head _)) (sE_k _ _) (sE_k _ _) (sE_k _ _)
    show hC hp (176) 1 = 15
    omega
  have g1 : rr hp 1 7 = 16 := by
    have u := rfR0 (xv := (16 : Int)) (c0 := hC hp 176 1) (i0 := 7) (hRf _ (.tail _ (.head _))) (by rw [g0]; exact sE_k _ _) (sE_k _ _) (sE_k _ _)
    show hC hp (hC hp 176 1) 7 = 16
    omega
  obtain ⟨i2, e2, l2, h2⟩ := rfL (c0 := rr hp 1 7) (iv := s0) (hRf _ (.tail _ (.tail _ (.head _)))) (by rw [g1]; exact sE_k _ _) (sE_V rfl) (sE_V rfl)
  have l2 : i2 < 12 := l2
  have h2 : hL hp (rr hp 1 7) i2 = s1 := h2
  have h3 : hL hp 173 8 = s1 := rfL0 (hRf _ (.tail _ (.tail _ (.tail _ (.head _))))) (sE_k _ _) (sE_k _ _) (sE_V rfl)
  have hFc : ∀ q ∈ ([(62, [(.ofNat 0, [(.ofNat 1, 0)]), (.ofNat 0, [(.ofNat 1, 2)])]), (63, [(.ofNat 1, [(.ofNat 1, 0)]), (.ofNat 0, [(.ofNat 1, 2)])]), (53, [(.ofNat 0, [(.ofNat 1, 3)]), (.ofNat 0, [(.ofNat 1, 4)]), (.ofNat 0, [(.ofNat 1, 2)]), (.ofNat 0, [(.ofNat 1, 5)]), (.ofNat 0, [(.ofNat 1, 6)]), (.ofNat 0, [(.ofNat 1, 7)]), (.ofNat 0, [(.ofNat 1, 8)]), (.ofNat 0, [(.ofNat 1, 9)]), (.ofNat 0, [(.ofNat 1, 10)]), (.ofNat 0, [(.ofNat 1, 11)]), (.ofNat 0, [(.ofNat 1, 12)]), (.ofNat 0, [(.ofNat 1, 13)]), (.ofNat 0, [(.ofNat 1, 14)])]), (48, [(.ofNat 0, [(.ofNat 1, 12)]), (.ofNat 0, [(.ofNat 1, 13)])])] : List sFc), fcOk fFS [s0, s1, s2, s3, s4, s5, s6, s7, s8, s9, s10, s11, s12, s13, s14] hp q := hH.2
  have f0 : dF (XT hp) s2 (fun D => ∀ j : Nat, j < 12 → (j : Int) < s0 → hL hp (rr hp 1 7) j = cd 32 96 (nm D j)) := fcX (ys := [s0, s2]) (hFc _ (.head _)) ⟨sE_V rfl, sE_V rfl, trivial⟩
  have f1 : dF (XT hp) s2 (fun D => ∀ j : Nat, j < 12 → (s0 + 1) ≤ (j : Int) → hL hp (rr hp 1 7) j = cd 32 96 (nm D j)) := fcX (ys := [(s0 + 1), s2]) (hFc _ (.tail _ (.head _))) ⟨sEv (y' := ((1 : Int) + ((1 : Int) * s0 + 0))) rfl (by omega), sE_V rfl, trivial⟩
  have f2 : Hq (XT hp) s3 s4 s2 s5 s6 s7 s8 s9 s10 s11 s12 s13 s14 ∧ s11 ≠ 4 := fcX (ys := [s3, s4, s2, s5, s6, s7, s8, s9, s10, s11, s12, s13, s14]) (hFc _ (.tail _ (.tail _ (.head _)))) ⟨sE_V rfl, sE_V rfl, sE_V rfl, sE_V rfl, sE_V rfl, sE_V rfl, sE_V rfl, sE_V rfl, sE_V rfl, sE_V rfl, sE_V rfl, sE_V rfl, sE_V rfl, trivial⟩
  have f3 : isW (bs (XB hp) s12 s13) ∧ hL hp 173 8 = cd 32 96 (bs (XB hp) s12 s13) := fcX (ys := [s12, s13]) (hFc _ (.tail _ (.tail _ (.tail _ (.head _))))) ⟨sE_V rfl, sE_V rfl, trivial⟩
  exact poX (.head _) rfl hR (all_nil) (all_nil) (all_cons ⟨[s0, s2, s12, s13], ⟨sE_V rfl, sE_V rfl, sE_V rfl, sE_V rfl, trivial⟩, (show dF (XT hp) s2 (fun D => ∀ j : Nat, j < 12 → hL hp (rr hp 1 7) j = if (j : Int) = s0 then cd 32 96 (bs (XT hp).1 s12 s13) else cd 32 96 (nm D j)) from nb_x hO f0 f1 h2 h3 f2 f3 (by omega) (by omega))⟩ (all_nil))
theorem rl222 : ruOk fFS gR222 := by
  intro r hp hO hN hH
  obtain ⟨s0, s1, s2, s3, s4, s5, s6, s7, s8, s9, s10, s11, s12, s13, rfl⟩ := len14 (show r.length = 14 from hN.1)
  have hR := hN.2.1.1
  have hIv : ∀ q ∈ ([(0, .negSucc 2147483647, .ofNat 2147483647), (1, .negSucc 2147483647, .ofNat 2147483647), (2, .negSucc 2147483647, .ofNat 2147483647), (3, .negSucc 2147483647, .ofNat 2147483647), (4, .negSucc 2147483647, .ofNat 2147483647), (5, .negSucc 2147483647, .ofNat 2147483647), (6, .negSucc 2147483647, .ofNat 2147483647), (7, .negSucc 2147483647, .ofNat 2147483647), (8, .negSucc 2147483647, .ofNat 2147483647), (9, .ofNat 1, .ofNat 1), (10, .negSucc 2147483647, .ofNat 2147483647), (11, .negSucc 2147483647, .ofNat 2147483647), (12, .negSucc 0, .negSucc 0), (13, .ofNat 0, .ofNat 11)] : sIv), ∃ x, ([s0, s1, s2, s3, s4, s5, s6, s7, s8, s9, s10, s11, s12, s13] : List Int)[q.1]? = some x ∧ q.2.1 ≤ x ∧ x ≤ q.2.2 := hN.2.1.2
  have b9 : (1 : Int) ≤ s9 ∧ s9 ≤ (1 : Int) := ivX (q := (9, .ofNat 1, .ofNat 1)) (y := s9) (hIv _ (.tail _ (.tail _ (.tail _ (.tail _ (.tail _ (.tail _ (.tail _ (.tail _ (.tail _ (.head _))))))))))) rfl
  have b12 : (-1 : Int) ≤ s12 ∧ s12 ≤ (-1 : Int) := ivX (q := (12, .negSucc 0, .negSucc 0)) (y := s12) (hIv _ (.tail _ (.tail _ (.tail _ (.tail _ (.tail _ (.tail _ (.tail _ (.tail _ (.tail _ (.tail _ (.tail _ (.tail _ (.head _)))))))))))))) rfl
  have b13 : (0 : Int) ≤ s13 ∧ s13 ≤ (11 : Int) := ivX (q := (13, .ofNat 0, .ofNat 11)) (y := s13) (hIv _ (.tail _ (.tail _ (.tail _ (.tail _ (.tail _ (.tail _ (.tail _ (.tail _ (.tail _ (.tail _ (.tail _ (.tail _ (.tail _ (.head _))))))))))))))) rfl
  have hFc : ∀ q ∈ ([(53, [(.ofNat 0, [(.ofNat 1, 0)]), (.ofNat 0, [(.ofNat 1, 1)]), (.ofNat 0, [(.ofNat 1, 2)]), (.ofNat 0, [(.ofNat 1, 3)]), (.ofNat 0, [(.ofNat 1, 4)]), (.ofNat 0, [(.ofNat 1, 5)]), (.ofNat 0, [(.ofNat 1, 6)]), (.ofNat 0, [(.ofNat 1, 7)]), (.ofNat 0, [(.ofNat 1, 8)]), (.ofNat 0, [(.ofNat 1, 9)]), (.ofNat 0, [(.ofNat 1, 10)]), (.ofNat 0, [(.ofNat 1, 11)]), (.ofNat 0, [(.ofNat 1, 12)])]), (58, [(.ofNat 0, [(.ofNat 1, 0)])]), (67, [(.ofNat 0, [(.ofNat 1, 2)]), (.ofNat 0, [(.ofNat 1, 10)]), (.ofNat 0, [(.ofNat 1, 11)]), (.ofNat 0, [(.ofNat 1, 13)])])] : List sFc), fcOk fFS [s0, s1, s2, s3, s4, s5, s6, s7, s8, s9, s10, s11, s12, s13] hp q := hH.2
  have f0 : Hq (XT hp) s0 s1 s2 s3 s4 s5 s6 s7 s8 s9 s10 s11 s12 ∧ s9 ≠ 4 := fcX (ys := [s0, s1, s2, s3, s4, s5, s6, s7, s8, s9, s10, s11, s12]) (hFc _ (.head _)) ⟨sE_V rfl, sE_V rfl, sE_V rfl, sE_V rfl, sE_V rfl, sE_V rfl, sE_V rfl, sE_V rfl, sE_V rfl, sE_V rfl, sE_V rfl, sE_V rfl, sE_V rfl, trivial⟩
  have f1 : EF (XT hp) s0 := fcX (ys := [s0]) (hFc _ (.tail _ (.head _))) ⟨sE_V rfl, trivial⟩
  have f2 : SL (XT hp) s2 s10 s11 s13 := fcX (ys := [s2, s10, s11, s13]) (hFc _ (.tail _ (.tail _ (.head _)))) ⟨sE_V rfl, sE_V rfl, sE_V rfl, sE_V rfl, trivial⟩
  exact poX (.head _) rfl hR (all_nil) (all_nil) (all_cons ⟨[3, s10], ⟨sE_k _ _, sE_V rfl, trivial⟩, (show RS (XT hp) (3 : Int) s10 from ef_f3 (XT_ok hO) f0.1 f1 f2 (by omega) (by omega) (by omega))⟩ (all_nil))
theorem rl223 : ruOk fFS gR223 := by
  intro r hp hO hN hH
  obtain ⟨s0, s1, s2, s3, s4, s5, s6, s7, s8, s9, s10, s11, s12, s13, s14, s15, s16, s17, s18, s19, s20, s21, s22, rfl⟩ := len23 (show r.length = 23 from hN.1)
  have hR := hN.2.1.1
  have hIv : ∀ q ∈ ([(0, .negSucc 2147483647, .ofNat 2147483647), (1, .ofNat 16, .ofNat 16), (2, .negSucc 2147483647, .ofNat 2147483647), (3, .negSucc 2147483647, .ofNat 2147483647), (4, .negSucc 2147483647, .ofNat 2147483647), (5, .negSucc 2147483647, .ofNat 2147483647), (6, .negSucc 2147483647, .ofNat 2147483647), (7, .negSucc 2147483647, .ofNat 2147483647), (8, .negSucc 2147483647, .ofNat 2147483647), (9, .ofNat 2, .ofNat 2), (10, .negSucc 2147483647, .ofNat 2147483647), (11, .negSucc 2147483647, .ofNat 2147483647), (12, .negSucc 2147483647, .ofNat 2147483647), (13, .negSucc 2147483647, .ofNat 2147483647), (14, .negSucc 2147483647, .ofNat 2147483647), (15, .ofNat 0, .ofNat 4), (16, .negSucc 2147483647, .ofNat 2147483647), (17, .negSucc 2147483647, .ofNat 2147483647), (18, .negSucc 2147483647, .ofNat 2147483647), (19, .negSucc 2147483647, .ofNat 2147483647), (20, .negSucc 2147483647, .ofNat 2147483647), (21, .negSucc 2147483647, .ofNat 2147483647), (22, .negSucc 2147483647, .ofNat 2147483647)] : sIv), ∃ x, ([s0, s1, s2, s3, s4, s5, s6, s7, s8, s9, s10, s11, s12, s13, s14, s15, s16, s17, s18, s19, s20, s21, s22] : List Int)[q.1]? = some x ∧ q.2.1 ≤ x ∧ x ≤ q.2.2 := hN.2.1.2
  have b1 : (16 : Int) ≤ s1 ∧ s1 ≤ (16 : Int) := ivX (q := (1, .ofNat 16, .ofNat 16)) (y := s1) (hIv _ (.tail _ (.head _))) rfl
  have b9 : (2 : Int) ≤ s9 ∧ s9 ≤ (2 : Int) := ivX (q := (9, .ofNat 2, .ofNat 2)) (y := s9) (hIv _ (.tail _ (.tail _ (.tail _ (.tail _ (.tail _ (.tail _ (.tail _ (.tail _ (.tail _ (.head _))))))))))) rfl
  have b15 : (0 : Int) ≤ s15 ∧ s15 ≤ (4 : Int) := ivX (q := (15, .ofNat 0, .ofNat 4)) (y := s15) (hIv _ (.tail _ (.tail _ (.tail _ (.tail _ (.tail _ (.tail _ (.tail _ (.tail _ (.tail _ (.tail _ (.tail _ (.tail _ (.tail _ (.tail _ (.tail _ (.head _))))))))))))))))) rfl
  have hRf : ∀ q ∈ ([((40, .ofNat 173, []), (.ofNat 9, []), 1, .ofNat 0, [])] : List sRf), rfOk [s0, s1, s2, s3, s4, s5, s6, s7, s8, s9, s10, s11, s12, s13, s14, s15, s16, s17, s18, s19, s20, s21, s22] hp q := hH.1
  have h0 : hI hp 173 9 = 0 := rfI0 (hRf _ (.head _)) (sE_k _ _) (sE_k _ _) (sE_k _ _)
  have hFc : ∀ q ∈ ([(53, [(.ofNat 0, [(.ofNat 1, 0)]), (.ofNat 0, [(.ofNat 1, 1)]), (.ofNat 0, [(.ofNat 1, 2)]), (.ofNat 0, [(.ofNat 1, 3)]), (.ofNat 0, [(.ofNat 1, 4)]), (.ofNat 0, [(.ofNat 1, 5)]), (.ofNat 0, [(.ofNat 1, 6)]), (.ofNat 0, [(.ofNat 1, 7)]), (.ofNat 0, [(.ofNat 1, 8)]), (.ofNat 0, [(.ofNat 1, 9)]), (.ofNat 0, [(.ofNat 1, 10)]), (.ofNat 0, [(.ofNat 1, 11)]), (.ofNat 0, [(.ofNat 1, 12)])]), (59, [(.ofNat 0, [(.ofNat 1, 2)]), (.ofNat 0, [(.ofNat 1, 13)]), (.ofNat 0, [(.ofNat 1, 14)]), (.ofNat 0, [(.ofNat 1, 15)]), (.ofNat 0, [(.ofNat 1, 16)]), (.ofNat 0, [(.ofNat 1, 17)]), (.ofNat 0, [(.ofNat 1, 18)]), (.ofNat 0, [(.ofNat 1, 19)]), (.ofNat 0, [(.ofNat 1, 20)]), (.ofNat 0, [(.ofNat 1, 21)]), (.ofNat 0, [(.ofNat 1, 22)])]), (68, [(.ofNat 0, [(.ofNat 1, 2)])]), (72, [(.ofNat 0, [(.ofNat 1, 17)]), (.ofNat 0, [(.ofNat 1, 2)])]), (74, [(.ofNat 0, [(.ofNat 1, 2)])]), (75, [(.ofNat 0, [(.ofNat 1, 16)]), (.ofNat 0, [(.ofNat 1, 2)])]), (73, [(.ofNat 0, [(.ofNat 1, 17)])]), (64, [(.ofNat 7, [(.ofNat 1, 15)]), (.ofNat 0, [(.ofNat 1, 2)]), (.ofNat 0, [(.ofNat 1, 7)]), (.ofNat 0, [(.ofNat 1, 8)])]), (60, [(.ofNat 0, [(.ofNat 1, 0)])])] : List sFc), fcOk fFS [s0, s1, s2, s3, s4, s5, s6, s7, s8, s9, s10, s11, s12, s13, s14, s15, s16, s17, s18, s19, s20, s21, s22] hp q := hH.2
  have f0 : Hq (XT hp) s0 s1 s2 s3 s4 s5 s6 s7 s8 s9 s10 s11 s12 ∧ s9 ≠ 4 := fcX (ys := [s0, s1, s2, s3, s4, s5, s6, s7, s8, s9, s10, s11, s12]) (hFc _ (.head _)) ⟨sE_V rfl, sE_V rfl, sE_V rfl, sE_V rfl, sE_V rfl, sE_V rfl, sE_V rfl, sE_V rfl, sE_V rfl, sE_V rfl, sE_V rfl, sE_V rfl, sE_V rfl, trivial⟩
  have f1 : CT (XT hp) s2 s13 s14 s15 s16 s17 s18 s19 s20 s21 s22 := fcX (ys := [s2, s13, s14, s15, s16, s17, s18, s19, s20, s21, s22]) (hFc _ (.tail _ (.head _))) ⟨sE_V rfl, sE_V rfl, sE_V rfl, sE_V rfl, sE_V rfl, sE_V rfl, sE_V rfl, sE_V rfl, sE_V rfl, sE_V rfl, sE_V rfl, trivial⟩
  have f2 : dF (XT hp) s2 (fun D => ∀ p : Nat, p < 100 → (fX hp p ↔ ¬ tkI D p)) := fcX (ys := [s2]) (hFc _ (.tail _ (.tail _ (.head _)))) ⟨sE_V rfl, trivial⟩
  have f3 : dF (XT hp) s2 (fun D => s17 = (dTr D).length ∧ ∀ i : Nat, i < 14 → (i : Int) < s17 → (dTr D)[i]? = some (hI hp (rr hp 2 6) i, hI hp (rr hp 2 7) i)) := fcX (ys := [s17, s2]) (hFc _ (.tail _ (.tail _ (.tail _ (.head _))))) ⟨sE_V rfl, sE_V rfl, trivial⟩
  have f4 : dF (XT hp) s2 (fun D => ∀ j : Nat, j < 10 → wR (hI hp (rr hp 2 10) j) D j) := fcX (ys := [s2]) (hFc _ (.tail _ (.tail _ (.tail _ (.tail _ (.head _)))))) ⟨sE_V rfl, trivial⟩
  have f5 : dF (XT hp) s2 (fun D => s16 = (dWi D).length ∧ ∀ i : Nat, i < 8 → (i : Int) < s16 → (dWi D)[i]? = some (hI hp (rr hp 1 16) i, hI hp (rr hp 1 17) i)) := fcX (ys := [s16, s2]) (hFc _ (.tail _ (.tail _ (.tail _ (.tail _ (.tail _ (.head _))))))) ⟨sE_V rfl, sE_V rfl, trivial⟩
  have f6 : ∀ i : Nat, i < 14 → (i : Int) < s17 → bt (hI hp (hC hp 176 2) 2) i := fcX (ys := [s17]) (hFc _ (.tail _ (.tail _ (.tail _ (.tail _ (.tail _ (.tail _ (.head _)))))))) ⟨sE_V rfl, trivial⟩
  have f7 : dF (XT hp) s2 (fun D => ∀ j : Nat, j < 12 → hL hp (rr hp 1 7) j = if (j : Int) = (s15 + 7) then cd 32 96 (bs (XT hp).1 s7 s8) else cd 32 96 (nm D j)) := fcX (ys := [(s15 + 7), s2, s7, s8]) (hFc _ (.tail _ (.tail _ (.tail _ (.tail _ (.tail _ (.tail _ (.tail _ (.head _))))))))) ⟨sEv (y' := ((7 : Int) + ((1 : Int) * s15 + 0))) rfl (by omega), sE_V rfl, sE_V rfl, sE_V rfl, trivial⟩
  have f8 : NO (XT hp) s0 := fcX (ys := [s0]) (hFc _ (.tail _ (.tail _ (.tail _ (.tail _ (.tail _ (.tail _ (.tail _ (.tail _ (.head _)))))))))) ⟨sE_V rfl, trivial⟩
  have u := hN16 (XT_ok hO) f0.1 (by omega) (by omega) f8
  have hd := u.2
  exact poX (.head _) rfl hR (all_nil) (all_nil) (all_cons ⟨[s11, 17, (s2 + 1), 0, 0, 0, 0, 0, 0], ⟨sE_V rfl, sE_k _ _, sEv (y' := ((1 : Int) + ((1 : Int) * s2 + 0))) rfl (by omega), sE_k _ _, sE_k _ _, sE_k _ _, sE_k _ _, sE_k _ _, sE_k _ _, trivial⟩, (show Gq (XT hp) s11 (17 : Int) (s2 + 1) (0 : Int) (0 : Int) (0 : Int) (0 : Int) (0 : Int) (0 : Int) from u.1)⟩ (all_cons ⟨[(s2 + 1), s13, s14, (s15 + 1), s16, s17, s18, s19, s20, s21, s22], ⟨sEv (y' := ((1 : Int) + ((1 : Int) * s2 + 0))) rfl (by omega), sE_V rfl, sE_V rfl, sEv (y' := ((1 : Int) + ((1 : Int) * s15 + 0))) rfl (by omega), sE_V rfl, sE_V rfl, sE_V rfl, sE_V rfl, sE_V rfl, sE_V rfl, sE_V rfl, trivial⟩, (show CT (XT hp) (s2 + 1) s13 s14 (s15 + 1) s16 s17 s18 s19 s20 s21 s22 from carry (XT_ok hO) hd f1 (fun D h => ct_aKn (by omega) h) (by omega))⟩ (all_cons ⟨[(s2 + 1)], ⟨sEv (y' := ((1 : Int) + ((1 : Int) * s2 + 0))) rfl (by omega), trivial⟩, (show dF (XT hp) (s2 + 1) (fun D => ∀ p : Nat, p < 100 → (fX hp p ↔ ¬ tkI D p)) from carry (XT_ok hO) hd f2 (fun D h => h) (by omega))⟩ (all_cons ⟨[s17, (s2 + 1)], ⟨sE_V rfl, sEv (y' := ((1 : Int) + ((1 : Int) * s2 + 0))) rfl (by omega), trivial⟩, (show dF (XT hp) (s2 + 1) (fun D => s17 = (dTr D).length ∧ ∀ i : Nat, i < 14 → (i : Int) < s17 → (dTr D)[i]? = some (hI hp (rr hp 2 6) i, hI hp (rr hp 2 7) i)) from carry (XT_ok hO) hd f3 (fun D h => h) (by omega))⟩ (all_cons ⟨[(s2 + 1)], ⟨sEv (y' := ((1 : Int) + ((1 : Int) * s2 + 0))) rfl (by omega), trivial⟩, (show dF (XT hp) (s2 + 1) (fun D => ∀ j : Nat, j < 10 → wR (hI hp (rr hp 2 10) j) D j) from carry (XT_ok hO) hd f4 (fun D h => h) (by omega))⟩ (all_cons ⟨[s16, (s2 + 1)], ⟨sE_V rfl, sEv (y' := ((1 : Int) + ((1 : Int) * s2 + 0))) rfl (by omega), trivial⟩, (show dF (XT hp) (s2 + 1) (fun D => s16 = (dWi D).length ∧ ∀ i : Nat, i < 8 → (i : Int) < s16 → (dWi D)[i]? = some (hI hp (rr hp 1 16) i, hI hp (rr hp 1 17) i)) from carry (XT_ok hO) hd f5 (fun D h => h) (by omega))⟩ (all_cons ⟨[s17], ⟨sE_V rfl, trivial⟩, (show ∀ i : Nat, i < 14 → (i : Int) < s17 → bt (hI hp (hC hp 176 2) 2) i from f6)⟩ (all_cons ⟨[(s2 + 1)], ⟨sEv (y' := ((1 : Int) + ((1 : Int) * s2 + 0))) rfl (by omega), trivial⟩, (show dF (XT hp) (s2 + 1) (fun D => ∀ j : Nat, j < 12 → hL hp (rr hp 1 7) j = cd 32 96 (nm D j)) from carry (XT_ok hO) hd (dF_2 (XT_ok hO) f7 f1) (fun D h => na_knd (s := (s15 + 7)) (o := s15) h.2.2.2.1 (by omega) h.1) (by omega))⟩ (all_nil)))))))))
theorem rl224 : ruOk fFS gR224 := by
  intro r hp hO hN hH
  obtain ⟨s0, s1, s2, s3, s4, s5, s6, s7, s8, s9, s10, s11, s12, rfl⟩ := len13 (show r.length = 13 from hN.1)
  have hR := hN.2.1.1
  have hIv : ∀ q ∈ ([(0, .negSucc 2147483647, .ofNat 2147483647), (1, .negSucc 2147483647, .ofNat 2147483647), (2, .negSucc 2147483647, .ofNat 2147483647), (3, .negSucc 2147483647, .ofNat 2147483647), (4, .negSucc 2147483647, .ofNat 2147483647), (5, .negSucc 2147483647, .ofNat 2147483647), (6, .negSucc 2147483647, .ofNat 2147483647), (7, .negSucc 2147483647, .ofNat 2147483647), (8, .negSucc 2147483647, .ofNat 2147483647), (9, .ofNat 0, .ofNat 3), (10, .negSucc 2147483647, .ofNat 2147483647), (11, .negSucc 2147483647, .ofNat 2147483647), (12, .negSucc 2147483647, .ofNat 2147483647)] : sIv), ∃ x, ([s0, s1, s2, s3, s4, s5, s6, s7, s8, s9, s10, s11, s12] : List Int)[q.1]? = some x ∧ q.2.1 ≤ x ∧ x ≤ q.2.2 := hN.2.1.2
  have b9 : (0 : Int) ≤ s9 ∧ s9 ≤ (3 : Int) := ivX (q := (9, .ofNat 0, .ofNat 3)) (y := s9) (hIv _ (.tail _ (.tail _ (.tail _ (.tail _ (.tail _ (.tail _ (.tail _ (.tail _ (.tail _ (.head _))))))))))) rfl
  have hRf : ∀ q ∈ ([((40, .ofNat 173, []), (.ofNat 9, []), 1, .ofNat 0, [])] : List sRf), rfOk [s0, s1, s2, s3, s4, s5, s6, s7, s8, s9, s10, s11, s12] hp q := hH.1
  have h0 : hI hp 173 9 = 0 := rfI0 (hRf _ (.head _)) (sE_k _ _) (sE_k _ _) (sE_k _ _)
  have hFc : ∀ q ∈ ([(53, [(.ofNat 0, [(.ofNat 1, 0)]), (.ofNat 0, [(.ofNat 1, 1)]), (.ofNat 0, [(.ofNat 1, 2)]), (.ofNat 0, [(.ofNat 1, 3)]), (.ofNat 0, [(.ofNat 1, 4)]), (.ofNat 0, [(.ofNat 1, 5)]), (.ofNat 0, [(.ofNat 1, 6)]), (.ofNat 0, [(.ofNat 1, 7)]), (.ofNat 0, [(.ofNat 1, 8)]), (.ofNat 0, [(.ofNat 1, 9)]), (.ofNat 0, [(.ofNat 1, 10)]), (.ofNat 0, [(.ofNat 1, 11)]), (.ofNat 0, [(.ofNat 1, 12)])])] : List sFc), fcOk fFS [s0, s1, s2, s3, s4, s5, s6, s7, s8, s9, s10, s11, s12] hp q := hH.2
  have f0 : Hq (XT hp) s0 s1 s2 s3 s4 s5 s6 s7 s8 s9 s10 s11 s12 ∧ s9 ≠ 4 := fcX (ys := [s0, s1, s2, s3, s4, s5, s6, s7, s8, s9, s10, s11, s12]) (hFc _ (.head _)) ⟨sE_V rfl, sE_V rfl, sE_V rfl, sE_V rfl, sE_V rfl, sE_V rfl, sE_V rfl, sE_V rfl, sE_V rfl, sE_V rfl, sE_V rfl, sE_V rfl, sE_V rfl, trivial⟩
  have u := h_bd (XT_ok hO) f0.1
  have y : (((0 : Int) ≤ s9 ∧ s9 ≤ (0 : Int))) ∨ (((1 : Int) ≤ s9 ∧ s9 ≤ (1 : Int))) ∨ (((2 : Int) ≤ s9 ∧ s9 ≤ (2 : Int))) ∨ (((3 : Int) ≤ s9 ∧ s9 ≤ (3 : Int))) := by omega
  rcases y with y | y | y | y
  · exact poX (.head _) rfl hR (all_cons (ivO (y := s9) rfl (show (0 : Int) ≤ s9 by omega) (show s9 ≤ (0 : Int) by omega)) (all_nil)) (all_nil) (all_nil)
  · exact poX (.tail _ (.head _)) rfl hR (all_cons (ivO (y := s9) rfl (show (1 : Int) ≤ s9 by omega) (show s9 ≤ (1 : Int) by omega)) (all_nil)) (all_nil) (all_nil)
  · exact poX (.tail _ (.tail _ (.head _))) rfl hR (all_cons (ivO (y := s9) rfl (show (2 : Int) ≤ s9 by omega) (show s9 ≤ (2 : Int) by omega)) (all_nil)) (all_nil) (all_nil)
  · exact poX (.tail _ (.tail _ (.tail _ (.head _)))) rfl hR (all_cons (ivO (y := s9) rfl (show (3 : Int) ≤ s9 by omega) (show s9 ≤ (3 : Int) by omega)) (all_nil)) (all_nil) (all_nil)
theorem rl225 : ruOk fFS gR225 := by
  intro r hp hO hN hH
  obtain ⟨s0, s1, s2, s3, s4, s5, s6, s7, s8, s9, s10, s11, s12, rfl⟩ := len13 (show r.length = 13 from hN.1)
  have hR := hN.2.1.1
  have hIv : ∀ q ∈ ([(0, .negSucc 2147483647, .ofNat 2147483647), (1, .negSucc 2147483647, .ofNat 2147483647), (2, .negSucc 2147483647, .ofNat 2147483647), (3, .negSucc 2147483647, .ofNat 2147483647), (4, .negSucc 2147483647, .ofNat 2147483647), (5, .negSucc 2147483647, .ofNat 2147483647), (6, .negSucc 2147483647, .ofNat 2147483647), (7, .negSucc 2147483647, .ofNat 2147483647), (8, .negSucc 2147483647, .ofNat 2147483647), (9, .ofNat 1, .ofNat 1), (10, .negSucc 2147483647, .ofNat 2147483647), (11, .negSucc 2147483647, .ofNat 2147483647), (12, .negSucc 0, .ofNat 29)] : sIv), ∃ x, ([s0, s1, s2, s3, s4, s5, s6, s7, s8, s9, s10, s11, s12] : List Int)[q.1]? = some x ∧ q.2.1 ≤ x ∧ x ≤ q.2.2 := hN.2.1.2
  have b9 : (1 : Int) ≤ s9 ∧ s9 ≤ (1 : Int) := ivX (q := (9, .ofNat 1, .ofNat 1)) (y := s9) (hIv _ (.tail _ (.tail _ (.tail _ (.tail _ (.tail _ (.tail _ (.tail _ (.tail _ (.tail _ (.head _))))))))))) rfl
  have b12 : (-1 : Int) ≤ s12 ∧ s12 ≤ (29 : Int) := ivX (q := (12, .negSucc 0, .ofNat 29)) (y := s12) (hIv _ (.tail _ (.tail _ (.tail _ (.tail _ (.tail _ (.tail _ (.tail _ (.tail _ (.tail _ (.tail _ (.tail _ (.tail _ (.head _)))))))))))))) rfl
  have hRf : ∀ q ∈ ([((40, .ofNat 173, []), (.ofNat 9, []), 1, .ofNat 0, [])] : List sRf), rfOk [s0, s1, s2, s3, s4, s5, s6, s7, s8, s9, s10, s11, s12] hp q := hH.1
  have h0 : hI hp 173 9 = 0 := rfI0 (hRf _ (.head _)) (sE_k _ _) (sE_k _ _) (sE_k _ _)
  have hFc : ∀ q ∈ ([(53, [(.ofNat 0, [(.ofNat 1, 0)]), (.ofNat 0, [(.ofNat 1, 1)]), (.ofNat 0, [(.ofNat 1, 2)]), (.ofNat 0, [(.ofNat 1, 3)]), (.ofNat 0, [(.ofNat 1, 4)]), (.ofNat 0, [(.ofNat 1, 5)]), (.ofNat 0, [(.ofNat 1, 6)]), (.ofNat 0, [(.ofNat 1, 7)]), (.ofNat 0, [(.ofNat 1, 8)]), (.ofNat 0, [(.ofNat 1, 9)]), (.ofNat 0, [(.ofNat 1, 10)]), (.ofNat 0, [(.ofNat 1, 11)]), (.ofNat 0, [(.ofNat 1, 12)])])] : List sFc), fcOk fFS [s0, s1, s2, s3, s4, s5, s6, s7, s8, s9, s10, s11, s12] hp q := hH.2
  have f0 : Hq (XT hp) s0 s1 s2 s3 s4 s5 s6 s7 s8 s9 s10 s11 s12 ∧ s9 ≠ 4 := fcX (ys := [s0, s1, s2, s3, s4, s5, s6, s7, s8, s9, s10, s11, s12]) (hFc _ (.head _)) ⟨sE_V rfl, sE_V rfl, sE_V rfl, sE_V rfl, sE_V rfl, sE_V rfl, sE_V rfl, sE_V rfl, sE_V rfl, sE_V rfl, sE_V rfl, sE_V rfl, sE_V rfl, trivial⟩
  have u := h_bd (XT_ok hO) f0.1
  have u3 := h_k1 (XT_ok hO) f0.1 (by omega)
  have y : (((-1 : Int) ≤ s12 ∧ s12 ≤ (12 : Int))) ∨ (((13 : Int) ≤ s12 ∧ s12 ≤ (13 : Int))) ∨ (((14 : Int) ≤ s12 ∧ s12 ≤ (29 : Int))) := by omega
  rcases y with y | y | y
  · exact poX (.head _) rfl hR (all_cons (ivO (y := s12) rfl (show (-1 : Int) ≤ s12 by omega) (show s12 ≤ (12 : Int) by omega)) (all_nil)) (all_nil) (all_nil)
  · exact poX (.tail _ (.head _)) rfl hR (all_cons (ivO (y := s12) rfl (show (13 : Int) ≤ s12 by omega) (show s12 ≤ (13 : Int) by omega)) (all_nil)) (all_nil) (all_nil)
  · exact poX (.tail _ (.tail _ (.head _))) rfl hR (all_cons (ivO (y := s12) rfl (show (14 : Int) ≤ s12 by omega) (show s12 ≤ (29 : Int) by omega)) (all_nil)) (all_nil) (all_nil)
theorem rl226 : ruOk fFS gR226 := by
  intro r hp hO hN hH
  obtain ⟨s0, s1, s2, s3, s4, s5, s6, s7, s8, s9, s10, s11, s12, rfl⟩ := len13 (show r.length = 13 from hN.1)
  have hR := hN.2.1.1
  have hIv : ∀ q ∈ ([(0, .negSucc 2147483647, .ofNat 2147483647), (1, .ofNat 17, .ofNat 17), (2, .negSucc 2147483647, .ofNat 2147483647), (3, .negSucc 2147483647, .ofNat 2147483647), (4, .negSucc 2147483647, .ofNat 2147483647), (5, .negSucc 2147483647, .ofNat 2147483647), (6, .negSucc 2147483647, .ofNat 2147483647), (7, .negSucc 2147483647, .ofNat 2147483647), (8, .negSucc 2147483647, .ofNat 2147483647), (9, .ofNat 0, .ofNat 0), (10, .negSucc 2147483647, .ofNat 2147483647), (11, .negSucc 2147483647, .ofNat 2147483647), (12, .negSucc 2147483647, .ofNat 2147483647)] : sIv), ∃ x, ([s0, s1, s2, s3, s4, s5, s6, s7, s8, s9, s10, s11, s12] : List Int)[q.1]? = some x ∧ q.2.1 ≤ x ∧ x ≤ q.2.2 := hN.2.1.2
  have b1 : (17 : Int) ≤ s1 ∧ s1 ≤ (17 : Int) := ivX (q := (1, .ofNat 17, .ofNat 17)) (y := s1) (hIv _ (.tail _ (.head _))) rfl
  have b9 : (0 : Int) ≤ s9 ∧ s9 ≤ (0 : Int) := ivX (q := (9, .ofNat 0, .ofNat 0)) (y := s9) (hIv _ (.tail _ (.tail _ (.tail _ (.tail _ (.tail _ (.tail _ (.tail _ (.tail _ (.tail _ (.head _))))))))))) rfl
  have hRf : ∀ q ∈ ([((40, .ofNat 173, []), (.ofNat 9, []), 1, .ofNat 0, [])] : List sRf), rfOk [s0, s1, s2, s3, s4, s5, s6, s7, s8, s9, s10, s11, s12] hp q := hH.1
  have h0 : hI hp 173 9 = 0 := rfI0 (hRf _ (.head _)) (sE_k _ _) (sE_k _ _) (sE_k _ _)
  have hFc : ∀ q ∈ ([(53, [(.ofNat 0, [(.ofNat 1, 0)]), (.ofNat 0, [(.ofNat 1, 1)]), (.ofNat 0, [(.ofNat 1, 2)]), (.ofNat 0, [(.ofNat 1, 3)]), (.ofNat 0, [(.ofNat 1, 4)]), (.ofNat 0, [(.ofNat 1, 5)]), (.ofNat 0, [(.ofNat 1, 6)]), (.ofNat 0, [(.ofNat 1, 7)]), (.ofNat 0, [(.ofNat 1, 8)]), (.ofNat 0, [(.ofNat 1, 9)]), (.ofNat 0, [(.ofNat 1, 10)]), (.ofNat 0, [(.ofNat 1, 11)]), (.ofNat 0, [(.ofNat 1, 12)])])] : List sFc), fcOk fFS [s0, s1, s2, s3, s4, s5, s6, s7, s8, s9, s10, s11, s12] hp q := hH.2
  have f0 : Hq (XT hp) s0 s1 s2 s3 s4 s5 s6 s7 s8 s9 s10 s11 s12 ∧ s9 ≠ 4 := fcX (ys := [s0, s1, s2, s3, s4, s5, s6, s7, s8, s9, s10, s11, s12]) (hFc _ (.head _)) ⟨sE_V rfl, sE_V rfl, sE_V rfl, sE_V rfl, sE_V rfl, sE_V rfl, sE_V rfl, sE_V rfl, sE_V rfl, sE_V rfl, sE_V rfl, sE_V rfl, sE_V rfl, trivial⟩
  exact poX (.head _) rfl hR (all_nil) (all_nil) (all_cons ⟨[s0, 26, s2, s3, s4, s5, s6, s7, s8, s9, s10, s11, s12], ⟨sE_V rfl, sE_k _ _, sE_V rfl, sE_V rfl, sE_V rfl, sE_V rfl, sE_V rfl, sE_V rfl, sE_V rfl, sE_V rfl, sE_V rfl, sE_V rfl, sE_V rfl, trivial⟩, (show Hq (XT hp) s0 (26 : Int) s2 s3 s4 s5 s6 s7 s8 s9 s10 s11 s12 ∧ s9 ≠ 4 from ⟨h17_26 f0.1 (by omega) (by omega), f0.2⟩)⟩ (all_nil))
theorem rl227 : ruOk fFS gR227 := by
  intro r hp hO hN hH
  obtain ⟨s0, s1, s2, s3, s4, s5, s6, s7, s8, s9, s10, s11, s12, rfl⟩ := len13 (show r.length = 13 from hN.1)
  have hR := hN.2.1.1
  have hIv : ∀ q ∈ ([(0, .negSucc 2147483647, .ofNat 2147483647), (1, .ofNat 17, .ofNat 17), (2, .negSucc 2147483647, .ofNat 2147483647), (3, .negSucc 2147483647, .ofNat 2147483647), (4, .negSucc 2147483647, .ofNat 2147483647), (5, .negSucc 2147483647, .ofNat 2147483647), (6, .negSucc 2147483647, .ofNat 2147483647), (7, .negSucc 2147483647, .ofNat 2147483647), (8, .negSucc 2147483647, .ofNat 2147483647), (9, .ofNat 2, .ofNat 2), (10, .negSucc 2147483647, .ofNat 2147483647), (11, .negSucc 2147483647, .ofNat 2147483647), (12, .negSucc 2147483647, .ofNat 2147483647)] : sIv), ∃ x, ([s0, s1, s2, s3, s4, s5, s6, s7, s8, s9, s10, s11, s12] : List Int)[q.1]? = some x ∧ q.2.1 ≤ x ∧ x ≤ q.2.2 := hN.2.1.2
  have b1 : (17 : Int) ≤ s1 ∧ s1 ≤ (17 : Int) := ivX (q := (1, .ofNat 17, .ofNat 17)) (y := s1) (hIv _ (.tail _ (.head _))) rfl
  have b9 : (2 : Int) ≤ s9 ∧ s9 ≤ (2 : Int) := ivX (q := (9, .ofNat 2, .ofNat 2)) (y := s9) (hIv _ (.tail _ (.tail _ (.tail _ (.tail _ (.tail _ (.tail _ (.tail _ (.tail _ (.tail _ (.head _))))))))))) rfl
  have hRf : ∀ q ∈ ([((40, .ofNat 173, []), (.ofNat 9, []), 1, .ofNat 0, [])] : List sRf), rfOk [s0, s1, s2, s3, s4, s5, s6, s7, s8, s9, s10, s11, s12] hp q := hH.1
  have h0 : hI hp 173 9 = 0 := rfI0 (hRf _ (.head _)) (sE_k _ _) (sE_k _ _) (sE_k _ _)
  have hFc : ∀ q ∈ ([(53, [(.ofNat 0, [(.ofNat 1, 0)]), (.ofNat 0, [(.ofNat 1, 1)]), (.ofNat 0, [(.ofNat 1, 2)]), (.ofNat 0, [(.ofNat 1, 3)]), (.ofNat 0, [(.ofNat 1, 4)]), (.ofNat 0, [(.ofNat 1, 5)]), (.ofNat 0, [(.ofNat 1, 6)]), (.ofNat 0, [(.ofNat 1, 7)]), (.ofNat 0, [(.ofNat 1, 8)]), (.ofNat 0, [(.ofNat 1, 9)]), (.ofNat 0, [(.ofNat 1, 10)]), (.ofNat 0, [(.ofNat 1, 11)]), (.ofNat 0, [(.ofNat 1, 12)])])] : List sFc), fcOk fFS [s0, s1, s2, s3, s4, s5, s6, s7, s8, s9, s10, s11, s12] hp q := hH.2
  have f0 : Hq (XT hp) s0 s1 s2 s3 s4 s5 s6 s7 s8 s9 s10 s11 s12 ∧ s9 ≠ 4 := fcX (ys := [s0, s1, s2, s3, s4, s5, s6, s7, s8, s9, s10, s11, s12]) (hFc _ (.head _)) ⟨sE_V rfl, sE_V rfl, sE_V rfl, sE_V rfl, sE_V rfl, sE_V rfl, sE_V rfl, sE_V rfl, sE_V rfl, sE_V rfl, sE_V rfl, sE_V rfl, sE_V rfl, trivial⟩
  exact poX (.head _) rfl hR (all_nil) (all_nil) (all_cons ⟨[s0, 26, s2, s3, s4, s5, s6, s7, s8, s9, s10, s11, s12], ⟨sE_V rfl, sE_k _ _, sE_V rfl, sE_V rfl, sE_V rfl, sE_V rfl, sE_V rfl, sE_V rfl, sE_V rfl, sE_V rfl, sE_V rfl, sE_V rfl, sE_V rfl, trivial⟩, (show Hq (XT hp) s0 (26 : Int) s2 s3 s4 s5 s6 s7 s8 s9 s10 s11 s12 ∧ s9 ≠ 4 from ⟨h17_26 f0.1 (by omega) (by omega), f0.2⟩)⟩ (all_nil))
theorem rl228 : ruOk fFS gR228 := by
  intro r hp hO hN hH
  obtain ⟨s0, s1, s2, s3, s4, s5, s6, s7, s8, s9, s10, s11, s12, rfl⟩ := len13 (show r.length = 13 from hN.1)
  have hR := hN.2.1.1
  have hIv : ∀ q ∈ ([(0, .negSucc 2147483647, .ofNat 2147483647), (1, .ofNat 17, .ofNat 17), (2, .negSucc 2147483647, .ofNat 2147483647), (3, .negSucc 2147483647, .ofNat 2147483647), (4, .negSucc 2147483647, .ofNat 2147483647), (5, .negSucc 2147483647, .ofNat 2147483647), (6, .negSucc 2147483647, .ofNat 2147483647), (7, .negSucc 2147483647, .ofNat 2147483647), (8, .negSucc 2147483647, .ofNat 2147483647), (9, .ofNat 3, .ofNat 3), (10, .negSucc 2147483647, .ofNat 2147483647), (11, .negSucc 2147483647, .ofNat 2147483647), (12, .negSucc 2147483647, .ofNat 2147483647)] : sIv), ∃ x, ([s0, s1, s2, s3, s4, s5, s6, s7, s8, s9, s10, s11, s12] : List Int)[q.1]? = some x ∧ q.2.1 ≤ x ∧ x ≤ q.2.2 := hN.2.1.2
  have b1 : (17 : Int) ≤ s1 ∧ s1 ≤ (17 : Int) := ivX (q := (1, .ofNat 17, .ofNat 17)) (y := s1) (hIv _ (.tail _ (.head _))) rfl
  have b9 : (3 : Int) ≤ s9 ∧ s9 ≤ (3 : Int) := ivX (q := (9, .ofNat 3, .ofNat 3)) (y := s9) (hIv _ (.tail _ (.tail _ (.tail _ (.tail _ (.tail _ (.tail _ (.tail _ (.tail _ (.tail _ (.head _))))))))))) rfl
  have hRf : ∀ q ∈ ([((40, .ofNat 173, []), (.ofNat 9, []), 1, .ofNat 0, [])] : List sRf), rfOk [s0, s1, s2, s3, s4, s5, s6, s7, s8, s9, s10, s11, s12] hp q := hH.1
  have h0 : hI hp 173 9 = 0 := rfI0 (hRf _ (.head _)) (sE_k _ _) (sE_k _ _) (sE_k _ _)
  have hFc : ∀ q ∈ ([(53, [(.ofNat 0, [(.ofNat 1, 0)]), (.ofNat 0, [(.ofNat 1, 1)]), (.ofNat 0, [(.ofNat 1, 2)]), (.ofNat 0, [(.ofNat 1, 3)]), (.ofNat 0, [(.ofNat 1, 4)]), (.ofNat 0, [(.ofNat 1, 5)]), (.ofNat 0, [(.ofNat 1, 6)]), (.ofNat 0, [(.ofNat 1, 7)]), (.ofNat 0, [(.ofNat 1, 8)]), (.ofNat 0, [(.ofNat 1, 9)]), (.ofNat 0, [(.ofNat 1, 10)]), (.ofNat 0, [(.ofNat 1, 11)]), (.ofNat 0, [(.ofNat 1, 12)])])] : List sFc), fcOk fFS [s0, s1, s2, s3, s4, s5, s6, s7, s8, s9, s10, s11, s12] hp q := hH.2
  have f0 : Hq (XT hp) s0 s1 s2 s3 s4 s5 s6 s7 s8 s9 s10 s11 s12 ∧ s9 ≠ 4 := fcX (ys := [s0, s1, s2, s3, s4, s5, s6, s7, s8, s9, s10, s11, s12]) (hFc _ (.head _)) ⟨sE_V rfl, sE_V rfl, sE_V rfl, sE_V rfl, sE_V rfl, sE_V rfl, sE_V rfl, sE_V rfl, sE_V rfl, sE_V rfl, sE_V rfl, sE_V rfl, sE_V rfl, trivial⟩
  exact poX (.head _) rfl hR (all_nil) (all_nil) (all_cons ⟨[s0, 26, s2, s3, s4, s5, s6, s7, s8, s9, s10, s11, s12], ⟨sE_V rfl, sE_k _ _, sE_V rfl, sE_V rfl, sE_V rfl, sE_V rfl, sE_V rfl, sE_V rfl, sE_V rfl, sE_V rfl, sE_V rfl, sE_V rfl, sE_V rfl, trivial⟩, (show Hq (XT hp) s0 (26 : Int) s2 s3 s4 s5 s6 s7 s8 s9 s10 s11 s12 ∧ s9 ≠ 4 from ⟨h17_26 f0.1 (by omega) (by omega), f0.2⟩)⟩ (all_nil))
theorem rl229 : ruOk fFS gR229 := by
  intro r hp hO hN hH
  obtain ⟨s0, s1, s2, s3, s4, s5, s6, s7, s8, s9, s10, s11, s12, rfl⟩ := len13 (show r.length = 13 from hN.1)
  have hR := hN.2.1.1
  have hIv : ∀ q ∈ ([(0, .negSucc 2147483647, .ofNat 2147483647), (1, .ofNat 17, .ofNat 17), (2, .negSucc 2147483647, .ofNat 2147483647), (3, .negSucc 2147483647, .ofNat 2147483647), (4, .negSucc 2147483647, .ofNat 2147483647), (5, .negSucc 2147483647, .ofNat 2147483647), (6, .negSucc 2147483647, .ofNat 2147483647), (7, .negSucc 2147483647, .ofNat 2147483647), (8, .negSucc 2147483647, .ofNat 2147483647), (9, .ofNat 1, .ofNat 1), (10, .negSucc 2147483647, .ofNat 2147483647), (11, .negSucc 2147483647, .ofNat 2147483647), (12, .negSucc 0, .ofNat 12)] : sIv), ∃ x, ([s0, s1, s2, s3, s4, s5, s6, s7, s8, s9, s10, s11, s12] : List Int)[q.1]? = some x ∧ q.2.1 ≤ x ∧ x ≤ q.2.2 := hN.2.1.2
  have b1 : (17 : Int) ≤ s1 ∧ s1 ≤ (17 : Int) := ivX (q := (1, .ofNat 17, .ofNat 17)) (y := s1) (hIv _ (.tail _ (.head _))) rfl
  have b9 : (1 : Int) ≤ s9 ∧ s9 ≤ (1 : Int) := ivX (q := (9, .ofNat 1, .ofNat 1)) (y := s9) (hIv _ (.tail _ (.tail _ (.tail _ (.tail _ (.tail _ (.tail _ (.tail _ (.tail _ (.tail _ (.head _))))))))))) rfl
  have b12 : (-1 : Int) ≤ s12 ∧ s12 ≤ (12 : Int) := ivX (q := (12, .negSucc 0, .ofNat 12)) (y := s12) (hIv _ (.tail _ (.tail _ (.tail _ (.tail _ (.tail _ (.tail _ (.tail _ (.tail _ (.tail _ (.tail _ (.tail _ (.tail _ (.head _)))))))))))))) rfl
  have hRf : ∀ q ∈ ([((40, .ofNat 173, []), (.ofNat 9, []), 1, .ofNat 0, [])] : List sRf), rfOk [s0, s1, s2, s3, s4, s5, s6, s7, s8, s9, s10, s11, s12] hp q := hH.1
  have h0 : hI hp 173 9 = 0 := rfI0 (hRf _ (.head _)) (sE_k _ _) (sE_k _ _) (sE_k _ _)
  have hFc : ∀ q ∈ ([(53, [(.ofNat 0, [(.ofNat 1, 0)]), (.ofNat 0, [(.ofNat 1, 1)]), (.ofNat 0, [(.ofNat 1, 2)]), (.ofNat 0, [(.ofNat 1, 3)]), (.ofNat 0, [(.ofNat 1, 4)]), (.ofNat 0, [(.ofNat 1, 5)]), (.ofNat 0, [(.ofNat 1, 6)]), (.ofNat 0, [(.ofNat 1, 7)]), (.ofNat 0, [(.ofNat 1, 8)]), (.ofNat 0, [(.ofNat 1, 9)]), (.ofNat 0, [(.ofNat 1, 10)]), (.ofNat 0, [(.ofNat 1, 11)]), (.ofNat 0, [(.ofNat 1, 12)])])] : List sFc), fcOk fFS [s0, s1, s2, s3, s4, s5, s6, s7, s8, s9, s10, s11, s12] hp q := hH.2
  have f0 : Hq (XT hp) s0 s1 s2 s3 s4 s5 s6 s7 s8 s9 s10 s11 s12 ∧ s9 ≠ 4 := fcX (ys := [s0, s1, s2, s3, s4, s5, s6, s7, s8, s9, s10, s11, s12]) (hFc _ (.head _)) ⟨sE_V rfl, sE_V rfl, sE_V rfl, sE_V rfl, sE_V rfl, sE_V rfl, sE_V rfl, sE_V rfl, sE_V rfl, sE_V rfl, sE_V rfl, sE_V rfl, sE_V rfl, trivial⟩
  exact poX (.head _) rfl hR (all_nil) (all_nil) (all_cons ⟨[s0, 26, s2, s3, s4, s5, s6, s7, s8, s9, s10, s11, s12], ⟨sE_V rfl, sE_k _ _, sE_V rfl, sE_V rfl, sE_V rfl, sE_V rfl, sE_V rfl, sE_V rfl, sE_V rfl, sE_V rfl, sE_V rfl, sE_V rfl, sE_V rfl, trivial⟩, (show Hq (XT hp) s0 (26 : Int) s2 s3 s4 s5 s6 s7 s8 s9 s10 s11 s12 ∧ s9 ≠ 4 from ⟨h17_26 f0.1 (by omega) (by omega), f0.2⟩)⟩ (all_nil))
theorem rl230 : ruOk fFS gR230 := by
  intro r hp hO hN hH
  obtain ⟨s0, s1, s2, s3, s4, s5, s6, s7, s8, s9, s10, s11, s12, rfl⟩ := len13 (show r.length = 13 from hN.1)
  have hR := hN.2.1.1
  have hIv : ∀ q ∈ ([(0, .negSucc 2147483647, .ofNat 2147483647), (1, .ofNat 17, .ofNat 17), (2, .negSucc 2147483647, .ofNat 2147483647), (3, .negSucc 2147483647, .ofNat 2147483647), (4, .negSucc 2147483647, .ofNat 2147483647), (5, .negSucc 2147483647, .ofNat 2147483647), (6, .negSucc 2147483647, .ofNat 2147483647), (7, .negSucc 2147483647, .ofNat 2147483647), (8, .negSucc 2147483647, .ofNat 2147483647), (9, .ofNat 1, .ofNat 1), (10, .negSucc 2147483647, .ofNat 2147483647), (11, .negSucc 2147483647, .ofNat 2147483647), (12, .ofNat 14, .ofNat 29)] : sIv), ∃ x, ([s0, s1, s2, s3, s4, s5, s6, s7, s8, s9, s10, s11, s12] : List Int)[q.1]? = some x ∧ q.2.1 ≤ x ∧ x ≤ q.2.2 := hN.2.1.2
  have b1 : (17 : Int) ≤ s1 ∧ s1 ≤ (17 : Int) := ivX (q := (1, .ofNat 17, .ofNat 17)) (y := s1) (hIv _ (.tail _ (.head _))) rfl
  have b9 : (1 : Int) ≤ s9 ∧ s9 ≤ (1 : Int) := ivX (q := (9, .ofNat 1, .ofNat 1)) (y := s9) (hIv _ (.tail _ (.tail _ (.tail _ (.tail _ (.tail _ (.tail _ (.tail _ (.tail _ (.tail _ (.head _))))))))))) rfl
  have b12 : (14 : Int) ≤ s12 ∧ s12 ≤ (29 : Int) := ivX (q := (12, .ofNat 14, .ofNat 29)) (y := s12) (hIv _ (.tail _ (.tail _ (.tail _ (.tail _ (.tail _ (.tail _ (.tail _ (.tail _ (.tail _ (.tail _ (.tail _ (.tail _ (.head _)))))))))))))) rfl
  have hRf : ∀ q ∈ ([((40, .ofNat 173, []), (.ofNat 9, []), 1, .ofNat 0, [])] : List sRf), rfOk [s0, s1, s2, s3, s4, s5, s6, s7, s8, s9, s10, s11, s12] hp q := hH.1
  have h0 : hI hp 173 9 = 0 := rfI0 (hRf _ (.head _)) (sE_k _ _) (sE_k _ _) (sE_k _ _)
  have hFc : ∀ q ∈ ([(53, [(.ofNat 0, [(.ofNat 1, 0)]), (.ofNat 0, [(.ofNat 1, 1)]), (.ofNat 0, [(.ofNat 1, 2)]), (.ofNat 0, [(.ofNat 1, 3)]), (.ofNat 0, [(.ofNat 1, 4)]), (.ofNat 0, [(.ofNat 1, 5)]), (.ofNat 0, [(.ofNat 1, 6)]), (.ofNat 0, [(.ofNat 1, 7)]), (.ofNat 0, [(.ofNat 1, 8)]), (.ofNat 0, [(.ofNat 1, 9)]), (.ofNat 0, [(.ofNat 1, 10)]), (.ofNat 0, [(.ofNat 1, 11)]), (.ofNat 0, [(.ofNat 1, 12)])])] : List sFc), fcOk fFS [s0, s1, s2, s3, s4, s5, s6, s7, s8, s9, s10, s11, s12] hp q := hH.2
  have f0 : Hq (XT hp) s0 s1 s2 s3 s4 s5 s6 s7 s8 s9 s10 s11 s12 ∧ s9 ≠ 4 := fcX (ys := [s0, s1, s2, s3, s4, s5, s6, s7, s8, s9, s10, s11, s12]) (hFc _ (.head _)) ⟨sE_V rfl, sE_V rfl, sE_V rfl, sE_V rfl, sE_V rfl, sE_V rfl, sE_V rfl, sE_V rfl, sE_V rfl, sE_V rfl, sE_V rfl, sE_V rfl, sE_V rfl, trivial⟩
  exact poX (.head _) rfl hR (all_nil) (all_nil) (all_cons ⟨[s0, 26, s2, s3, s4, s5, s6, s7, s8, s9, s10, s11, s12], ⟨sE_V rfl, sE_k _ _, sE_V rfl, sE_V rfl, sE_V rfl, sE_V rfl, sE_V rfl, sE_V rfl, sE_V rfl, sE_V rfl, sE_V rfl, sE_V rfl, sE_V rfl, trivial⟩, (show Hq (XT hp) s0 (26 : Int) s2 s3 s4 s5 s6 s7 s8 s9 s10 s11 s12 ∧ s9 ≠ 4 from ⟨h17_26 f0.1 (by omega) (by omega), f0.2⟩)⟩ (all_nil))
theorem rl231 : ruOk fFS gR231 := by
  intro r hp hO hN hH
  obtain ⟨s0, s1, s2, s3, s4, s5, s6, s7, s8, s9, s10, s11, s12, rfl⟩ := len13 (show r.length = 13 from hN.1)
  have hR := hN.2.1.1
  have hIv : ∀ q ∈ ([(0, .negSucc 2147483647, .ofNat 2147483647), (1, .ofNat 17, .ofNat 17), (2, .negSucc 2147483647, .ofNat 2147483647), (3, .negSucc 2147483647, .ofNat 2147483647), (4, .negSucc 2147483647, .ofNat 2147483647), (5, .negSucc 2147483647, .ofNat 2147483647), (6, .negSucc 2147483647, .ofNat 2147483647), (7, .negSucc 2147483647, .ofNat 2147483647), (8, .negSucc 2147483647, .ofNat 2147483647), (9, .ofNat 1, .ofNat 1), (10, .negSucc 2147483647, .ofNat 2147483647), (11, .negSucc 2147483647, .ofNat 2147483647), (12, .ofNat 13, .ofNat 13)] : sIv), ∃ x, ([s0, s1, s2, s3, s4, s5, s6, s7, s8, s9, s10, s11, s12] : List Int)[q.1]? = some x ∧ q.2.1 ≤ x ∧ x ≤ q.2.2 := hN.2.1.2
  have b1 : (17 : Int) ≤ s1 ∧ s1 ≤ (17 : Int) := ivX (q := (1, .ofNat 17, .ofNat 17)) (y := s1) (hIv _ (.tail _ (.head _))) rfl
  have b9 : (1 : Int) ≤ s9 ∧ s9 ≤ (1 : Int) := ivX (q := (9, .ofNat 1, .ofNat 1)) (y := s9) (hIv _ (.tail _ (.tail _ (.tail _ (.tail _ (.tail _ (.tail _ (.tail _ (.tail _ (.tail _ (.head _))))))))))) rfl
  have b12 : (13 : Int) ≤ s12 ∧ s12 ≤ (13 : Int) := ivX (q := (12, .ofNat 13, .ofNat 13)) (y := s12) (hIv _ (.tail _ (.tail _ (.tail _ (.tail _ (.tail _ (.tail _ (.tail _ (.tail _ (.tail _ (.tail _ (.tail _ (.tail _ (.head _)))))))))))))) rfl
  have hRf : ∀ q ∈ ([((40, .ofNat 173, []), (.ofNat 9, []), 1, .ofNat 0, [])] : List sRf), rfOk [s0, s1, s2, s3, s4, s5, s6, s7, s8, s9, s10, s11, s12] hp q := hH.1
  have h0 : hI hp 173 9 = 0 := rfI0 (hRf _ (.head _)) (sE_k _ _) (sE_k _ _) (sE_k _ _)
  have hFc : ∀ q ∈ ([(53, [(.ofNat 0, [(.ofNat 1, 0)]), (.ofNat 0, [(.ofNat 1, 1)]), (.ofNat 0, [(.ofNat 1, 2)]), (.ofNat 0, [(.ofNat 1, 3)]), (.ofNat 0, [(.ofNat 1, 4)]), (.ofNat 0, [(.ofNat 1, 5)]), (.ofNat 0, [(.ofNat 1, 6)]), (.ofNat 0, [(.ofNat 1, 7)]), (.ofNat 0, [(.ofNat 1, 8)]), (.ofNat 0, [(.ofNat 1, 9)]), (.ofNat 0, [(.ofNat 1, 10)]), (.ofNat 0, [(.ofNat 1, 11)]), (.ofNat 0, [(.ofNat 1, 12)])])] : List sFc), fcOk fFS [s0, s1, s2, s3, s4, s5, s6, s7, s8, s9, s10, s11, s12] hp q := hH.2
  have f0 : Hq (XT hp) s0 s1 s2 s3 s4 s5 s6 s7 s8 s9 s10 s11 s12 ∧ s9 ≠ 4 := fcX (ys := [s0, s1, s2, s3, s4, s5, s6, s7, s8, s9, s10, s11, s12]) (hFc _ (.head _)) ⟨sE_V rfl, sE_V rfl, sE_V rfl, sE_V rfl, sE_V rfl, sE_V rfl, sE_V rfl, sE_V rfl, sE_V rfl, sE_V rfl, sE_V rfl, sE_V rfl, sE_V rfl, trivial⟩
  exact poX (.head _) rfl hR (all_nil) (all_nil) (all_cons ⟨[s11, 26, s2, 0, 0, 0, 0, 0, 0], ⟨sE_V rfl, sE_k _ _, sE_V rfl, sE_k _ _, sE_k _ _, sE_k _ _, sE_k _ _, sE_k _ _, sE_k _ _, trivial⟩, (show Gq (XT hp) s11 (26 : Int) s2 (0 : Int) (0 : Int) (0 : Int) (0 : Int) (0 : Int) (0 : Int) from h17_go f0.1 (by omega) (by omega) (by omega))⟩ (all_nil))
theorem rl232 : ruOk fFS gR232 := by
  intro r hp hO hN hH
  obtain ⟨s0, s1, s2, s3, rfl⟩ := len4 (show r.length = 4 from hN.1)
  have hR := hN.2.1.1
  have hIv : ∀ q ∈ ([(0, .negSucc 2147483647, .ofNat 2147483647), (1, .negSucc 2147483647, .ofNat 2147483647), (2, .negSucc 2147483647, .ofNat 2147483647), (3, .negSucc 2147483647, .ofNat 2147483647)] : sIv), ∃ x, ([s0, s1, s2, s3] : List Int)[q.1]? = some x ∧ q.2.1 ≤ x ∧ x ≤ q.2.2 := hN.2.1.2
  have hCs : ∀ c ∈ ([(.ofNat 0, [(.negSucc 0, 0), (.ofNat 1, 1)]), (.ofNat 1, [(.ofNat 1, 0), (.negSucc 0, 2)])] : List sLn), ∃ x, sE [s0, s1, s2, s3] c = some x ∧ x ≤ 0 := hN.2.2.1
  have c0 : ((0 : Int) + ((-1 : Int) * s0 + ((1 : Int) * s1 + 0))) ≤ 0 := csX (hCs _ (.head _)) rfl
  have c1 : ((1 : Int) + ((1 : Int) * s0 + ((-1 : Int) * s2 + 0))) ≤ 0 := csX (hCs _ (.tail _ (.head _))) rfl
  have hRf : ∀ q ∈ ([((40, .ofNat 173, []), (.ofNat 4, []), 1, .ofNat 0, [(.ofNat 1, 0)]), ((40, .ofNat 173, []), (.ofNat 2, []), 1, .ofNat 0, [(.ofNat 1, 1)]), ((40, .ofNat 173, []), (.ofNat 3, []), 1, .ofNat 0, [(.ofNat 1, 2)])] : List sRf), rfOk [s0, s1, s2, s3] hp q := hH.1
  have h0 : hI hp 173 4 = s0 := rfI0 (hRf _ (.head _)) (sE_k _ _) (sE_k _ _) (sE_V rfl)
  have y0 : (0 : Int) ≤ s0 ∧ s0 ≤ (940 : Int) := by rw [← h0]; exact hI_ty hO (by decide) rfl
  have h1 : hI hp 173 2 = s1 := rfI0 (hRf _ (.tail _ (.head _))) (sE_k _ _) (sE_k _ _) (sE_V rfl)
  have y1 : (0 : Int) ≤ s1 ∧ s1 ≤ (940 : Int) := by rw [← h1]; exact hI_ty hO (by decide) rfl
  have tnx : (XT hp).2.1 = s1 := h1
  have h2 : hI hp 173 3 = s2 := rfI0 (hRf _ (.tail _ (.tail _ (.head _)))) (sE_k _ _) (sE_k _ _) (sE_V rfl)
  have y2 : (0 : Int) ≤ s2 ∧ s2 ≤ (940 : Int) := by rw [← h2]; exact hI_ty hO (by decide) rfl
  have tmx : (XT hp).2.2 = s2 := h2
  have hFc : ∀ q ∈ ([(41, [(.ofNat 0, [(.ofNat 1, 3)]), (.ofNat 0, [(.ofNat 1, 0)])])] : List sFc), fcOk fFS [s0, s1, s2, s3] hp q := hH.2
  have f0 : P1q (XT hp).1 (XT hp).2.1 s3 s0 := fcX (ys := [s3, s0]) (hFc _ (.head _)) ⟨sE_V rfl, sE_V rfl, trivial⟩
  exact poX (.head _) rfl hR (all_nil) (all_nil) (all_cons ⟨[s3, 0, s0, s0, (-1)], ⟨sE_V rfl, sE_k _ _, sE_V rfl, sE_V rfl, sE_k _ _, trivial⟩, (show TKB (XT hp) s3 (0 : Int) s0 s0 (-1 : Int) from tk_end f0 (by omega) (by omega) (by omega))⟩ (all_nil))
theorem rl233 : ruOk fFS gR233 := by
  intro r hp hO hN hH
  obtain ⟨s0, s1, s2, s3, s4, s5, s6, s7, s8, s9, s10, s11, s12, s13, s14, s15, s16, s17, s18, s19, s20, s21, s22, rfl⟩ := len23 (show r.length = 23 from hN.1)
  have hR := hN.2.1.1
  have hIv : ∀ q ∈ ([(0, .negSucc 2147483647, .ofNat 2147483647), (1, .ofNat 0, .ofNat 0), (2, .negSucc 2147483647, .ofNat 2147483647), (3, .negSucc 2147483647, .ofNat 2147483647), (4, .negSucc 2147483647, .ofNat 2147483647), (5, .negSucc 2147483647, .ofNat 2147483647), (6, .negSucc 2147483647, .ofNat 2147483647), (7, .negSucc 2147483647, .ofNat 2147483647), (8, .negSucc 2147483647, .ofNat 2147483647), (9, .ofNat 1, .ofNat 1), (10, .negSucc 2147483647, .ofNat 2147483647), (11, .negSucc 2147483647, .ofNat 2147483647), (12, .ofNat 3, .ofNat 3), (13, .negSucc 2147483647, .ofNat 2147483647), (14, .ofNat 3, .ofNat 3), (15, .negSucc 2147483647, .ofNat 2147483647), (16, .negSucc 2147483647, .ofNat 2147483647), (17, .negSucc 2147483647, .ofNat 2147483647), (18, .negSucc 2147483647, .ofNat 2147483647), (19, .negSucc 2147483647, .ofNat 2147483647), (20, .negSucc 2147483647, .ofNat 2147483647), (21, .negSucc 2147483647, .ofNat 2147483647), (22, .negSucc 2147483647, .ofNat 2147483647)] : sIv), ∃ x, ([s0, s1, s2, s3, s4, s5, s6, s7, s8, s9, s10, s11, s12, s13, s14, s15, s16, s17, s18, s19, s20, s21, s22] : List Int)[q.1]? = some x ∧ q.2.1 ≤ x ∧ x ≤ q.2.2 := hN.2.1.2
  have b1 : (0 : Int) ≤ s1 ∧ s1 ≤ (0 : Int) := ivX (q := (1, .ofNat 0, .ofNat 0)) (y := s1) (hIv _ (.tail _ (.head _))) rfl
  have b9 : (1 : Int) ≤ s9 ∧ s9 ≤ (1 : Int) := ivX (q := (9, .ofNat 1, .ofNat 1)) (y := s9) (hIv _ (.tail _ (.tail _ (.tail _ (.tail _ (.tail _ (.tail _ (.tail _ (.tail _ (.tail _ (.head _))))))))))) rfl
  have b12 : (3 : Int) ≤ s12 ∧ s12 ≤ (3 : Int) := ivX (q := (12, .ofNat 3, .ofNat 3)) (y := s12) (hIv _ (.tail _ (.tail _ (.tail _ (.tail _ (.tail _ (.tail _ (.tail _ (.tail _ (.tail _ (.tail _ (.tail _ (.tail _ (.head _)))))))))))))) rfl
  have b14 : (3 : Int) ≤ s14 ∧ s14 ≤ (3 : Int) := ivX (q := (14, .ofNat 3, .ofNat 3)) (y := s14) (hIv _ (.tail _ (.tail _ (.tail _ (.tail _ (.tail _ (.tail _ (.tail _ (.tail _ (.tail _ (.tail _ (.tail _ (.tail _ (.tail _ (.tail _ (.head _)))))))))))))))) rfl
  have hRf : ∀ q ∈ ([((40, .ofNat 173, []), (.ofNat 9, []), 1, .ofNat 0, [])] : List sRf), rfOk [s0, s1, s2, s3, s4, s5, s6, s7, s8, s9, s10, s11, s12, s13, s14, s15, s16, s17, s18, s19, s20, s21, s22] hp q := hH.1
  have h0 : hI hp 173 9 = 0 := rfI0 (hRf _ (.head _)) (sE_k _ _) (sE_k _ _) (sE_k _ _)
  have hFc : ∀ q ∈ ([(53, [(.ofNat 0, [(.ofNat 1, 0)]), (.ofNat 0, [(.ofNat 1, 1)]), (.ofNat 0, [(.ofNat 1, 2)]), (.ofNat 0, [(.ofNat 1, 3)]), (.ofNat 0, [(.ofNat 1, 4)]), (.ofNat 0, [(.ofNat 1, 5)]), (.ofNat 0, [(.ofNat 1, 6)]), (.ofNat 0, [(.ofNat 1, 7)]), (.ofNat 0, [(.ofNat 1, 8)]), (.ofNat 0, [(.ofNat 1, 9)]), (.ofNat 0, [(.ofNat 1, 10)]), (.ofNat 0, [(.ofNat 1, 11)]), (.ofNat 0, [(.ofNat 1, 12)])]), (59, [(.ofNat 0, [(.ofNat 1, 2)]), (.ofNat 0, [(.ofNat 1, 13)]), (.ofNat 0, [(.ofNat 1, 14)]), (.ofNat 0, [(.ofNat 1, 15)]), (.ofNat 0, [(.ofNat 1, 16)]), (.ofNat 0, [(.ofNat 1, 17)]), (.ofNat 0, [(.ofNat 1, 18)]), (.ofNat 0, [(.ofNat 1, 19)]), (.ofNat 0, [(.ofNat 1, 20)]), (.ofNat 0, [(.ofNat 1, 21)]), (.ofNat 0, [(.ofNat 1, 22)])])] : List sFc), fcOk fFS [s0, s1, s2, s3, s4, s5, s6, s7, s8, s9, s10, s11, s12, s13, s14, s15, s16, s17, s18, s19, s20, s21, s22] hp q := hH.2
  have f0 : Hq (XT hp) s0 s1 s2 s3 s4 s5 s6 s7 s8 s9 s10 s11 s12 ∧ s9 ≠ 4 := fcX (ys := [s0, s1, s2, s3, s4, s5, s6, s7, s8, s9, s10, s11, s12]) (hFc _ (.head _)) ⟨sE_V rfl, sE_V rfl, sE_V rfl, sE_V rfl, sE_V rfl, sE_V rfl, sE_V rfl, sE_V rfl, sE_V rfl, sE_V rfl, sE_V rfl, sE_V rfl, sE_V rfl, trivial⟩
  have f1 : CT (XT hp) s2 s13 s14 s15 s16 s17 s18 s19 s20 s21 s22 := fcX (ys := [s2, s13, s14, s15, s16, s17, s18, s19, s20, s21, s22]) (hFc _ (.tail _ (.head _))) ⟨sE_V rfl, sE_V rfl, sE_V rfl, sE_V rfl, sE_V rfl, sE_V rfl, sE_V rfl, sE_V rfl, sE_V rfl, sE_V rfl, sE_V rfl, trivial⟩
  exact poX (.head _) rfl hR (all_nil) (all_nil) (all_cons ⟨[4, s10], ⟨sE_k _ _, sE_V rfl, trivial⟩, (show RS (XT hp) (4 : Int) s10 from ln_f3 (XT_ok hO) f0.1 (dF_mp f1 (fun D h => by unfold ctP at h; omega)) (by omega) (by omega) (by omega))⟩ (all_nil))
theorem rl234 : ruOk fFS gR234 := by
  intro r hp hO hN hH
  obtain ⟨s0, s1, s2, s3, s4, s5, s6, s7, s8, s9, s10, s11, s12, s13, s14, s15, s16, s17, s18, s19, s20, s21, s22, rfl⟩ := len23 (show r.length = 23 from hN.1)
  have hR := hN.2.1.1
  have hIv : ∀ q ∈ ([(0, .negSucc 2147483647, .ofNat 2147483647), (1, .ofNat 0, .ofNat 0), (2, .negSucc 2147483647, .ofNat 2147483647), (3, .negSucc 2147483647, .ofNat 2147483647), (4, .negSucc 2147483647, .ofNat 2147483647), (5, .negSucc 2147483647, .ofNat 2147483647), (6, .negSucc 2147483647, .ofNat 2147483647), (7, .negSucc 2147483647, .ofNat 2147483647), (8, .negSucc 2147483647, .ofNat 2147483647), (9, .ofNat 1, .ofNat 1), (10, .negSucc 2147483647, .ofNat 2147483647), (11, .negSucc 2147483647, .ofNat 2147483647), (12, .ofNat 3, .ofNat 3), (13, .negSucc 2147483647, .ofNat 2147483647), (14, .ofNat 0, .ofNat 2), (15, .negSucc 2147483647, .ofNat 2147483647), (16, .negSucc 2147483647, .ofNat 2147483647), (17, .negSucc 2147483647, .ofNat 2147483647), (18, .negSucc 2147483647, .ofNat 2147483647), (19, .negSucc 2147483647, .ofNat 2147483647), (20, .negSucc 2147483647, .ofNat 2147483647), (21, .negSucc 2147483647, .ofNat 2147483647), (22, .negSucc 2147483647, .ofNat 2147483647)] : sIv), ∃ x, ([s0, s1, s2, s3, s4, s5, s6, s7, s8, s9, s10, s11, s12, s13, s14, s15, s16, s17, s18, s19, s20, s21, s22] : List Int)[q.1]? = some x ∧ q.2.1 ≤ x ∧ x ≤ q.2.2 := hN.2.1.2
  have b1 : (0 : Int) ≤ s1 ∧ s1 ≤ (0 : Int) := ivX (q := (1, .ofNat 0, .ofNat 0)) (y := s1) (hIv _ (.tail _ (.head _))) rfl
  have b9 : (1 : Int) ≤ s9 ∧ s9 ≤ (1 : Int) := ivX (q := (9, .ofNat 1, .ofNat 1)) (y := s9) (hIv _ (.tail _ (.tail _ (.tail _ (.tail _ (.tail _ (.tail _ (.tail _ (.tail _ (.tail _ (.head _))))))))))) rfl
  have b12 : (3 : Int) ≤ s12 ∧ s12 ≤ (3 : Int) := ivX (q := (12, .ofNat 3, .ofNat 3)) (y := s12) (hIv _ (.tail _ (.tail _ (.tail _ (.tail _ (.tail _ (.tail _ (.tail _ (.tail _ (.tail _ (.tail _ (.tail _ (.tail _ (.head _)))))))))))))) rfl
  have b14 : (0 : Int) ≤ s14 ∧ s14 ≤ (2 : Int) := ivX (q := (14, .ofNat 0, .ofNat 2)) (y := s14) (hIv _ (.tail _ (.tail _ (.tail _ (.tail _ (.tail _ (.tail _ (.tail _ (.tail _ (.tail _ (.tail _ (.tail _ (.tail _ (.tail _ (.tail _ (.head _)))))))))))))))) rfl
  have hRf : ∀ q ∈ ([((40, .ofNat 173, []), (.ofNat 9, []), 1, .ofNat 0, [])] : List sRf), rfOk [s0, s1, s2, s3, s4, s5, s6, s7, s8, s9, s10, s11, s12, s13, s14, s15, s16, s17, s18, s19, s20, s21, s22] hp q := hH.1
  have h0 : hI hp 173 9 = 0 := rfI0 (hRf _ (.head _)) (sE_k _ _) (sE_k _ _) (sE_k _ _)
  have hFc : ∀ q ∈ ([(53, [(.ofNat 0, [(.ofNat 1, 0)]), (.ofNat 0, [(.ofNat 1, 1)]), (.ofNat 0, [(.ofNat 1, 2)]), (.ofNat 0, [(.ofNat 1, 3)]), (.ofNat 0, [(.ofNat 1, 4)]), (.ofNat 0, [(.ofNat 1, 5)]), (.ofNat 0, [(.ofNat 1, 6)]), (.ofNat 0, [(.ofNat 1, 7)]), (.ofNat 0, [(.ofNat 1, 8)]), (.ofNat 0, [(.ofNat 1, 9)]), (.ofNat 0, [(.ofNat 1, 10)]), (.ofNat 0, [(.ofNat 1, 11)]), (.ofNat 0, [(.ofNat 1, 12)])]), (59, [(.ofNat 0, [(.ofNat 1, 2)]), (.ofNat 0, [(.ofNat 1, 13)]), (.ofNat 0, [(.ofNat 1, 14)]), (.ofNat 0, [(.ofNat 1, 15)]), (.ofNat 0, [(.ofNat 1, 16)]), (.ofNat 0, [(.ofNat 1, 17)]), (.ofNat 0, [(.ofNat 1, 18)]), (.ofNat 0, [(.ofNat 1, 19)]), (.ofNat 0, [(.ofNat 1, 20)]), (.ofNat 0, [(.ofNat 1, 21)]), (.ofNat 0, [(.ofNat 1, 22)])])] : List sFc), fcOk fFS [s0, s1, s2, s3, s4, s5, s6, s7, s8, s9, s10, s11, s12, s13, s14, s15, s16, s17, s18, s19, s20, s21, s22] hp q := hH.2
  have f0 : Hq (XT hp) s0 s1 s2 s3 s4 s5 s6 s7 s8 s9 s10 s11 s12 ∧ s9 ≠ 4 := fcX (ys := [s0, s1, s2, s3, s4, s5, s6, s7, s8, s9, s10, s11, s12]) (hFc _ (.head _)) ⟨sE_V rfl, sE_V rfl, sE_V rfl, sE_V rfl, sE_V rfl, sE_V rfl, sE_V rfl, sE_V rfl, sE_V rfl, sE_V rfl, sE_V rfl, sE_V rfl, sE_V rfl, trivial⟩
  have f1 : CT (XT hp) s2 s13 s14 s15 s16 s17 s18 s19 s20 s21 s22 := fcX (ys := [s2, s13, s14, s15, s16, s17, s18, s19, s20, s21, s22]) (hFc _ (.tail _ (.head _))) ⟨sE_V rfl, sE_V rfl, sE_V rfl, sE_V rfl, sE_V rfl, sE_V rfl, sE_V rfl, sE_V rfl, sE_V rfl, sE_V rfl, sE_V rfl, trivial⟩
  obtain ⟨D, hG, hP⟩ := ln_g3 (P := ctP s13 s14 s15 s16 s17 s18 s19 s20 s21 s22) (XT_ok hO) f0.1 (dF_mp f1 (fun D h => ⟨by unfold ctP at h; omega, h⟩)) (by omega) (by omega) (by omega)
  exact poX (.head _) rfl hR (all_nil) (all_nil) (all_cons ⟨[s11, 9, s2, 0, 0, 0, 0, 0, 0], ⟨sE_V rfl, sE_k _ _, sE_V rfl, sE_k _ _, sE_k _ _, sE_k _ _, sE_k _ _, sE_k _ _, sE_k _ _, trivial⟩, (show Gq (XT hp) s11 (9 : Int) s2 (0 : Int) (0 : Int) (0 : Int) (0 : Int) (0 : Int) (0 : Int) from ⟨D, hG⟩)⟩ (all_cons ⟨[s11], ⟨sE_V rfl, trivial⟩, (show EF (XT hp) s11 from ex_mk hG (by decide) (by decide) (by decide))⟩ (all_nil)))
theorem rl235 : ruOk fFS gR235 := by
  intro r hp hO hN hH
  obtain ⟨s0, s1, s2, s3, s4, s5, s6, s7, s8, s9, s10, s11, s12, rfl⟩ := len13 (show r.length = 13 from hN.1)
  have hR := hN.2.1.1
  have hIv : ∀ q ∈ ([(0, .negSucc 2147483647, .ofNat 2147483647), (1, .ofNat 9, .ofNat 9), (2, .negSucc 2147483647, .ofNat 2147483647), (3, .negSucc 2147483647, .ofNat 2147483647), (4, .negSucc 2147483647, .ofNat 2147483647), (5, .negSucc 2147483647, .ofNat 2147483647), (6, .negSucc 2147483647, .ofNat 2147483647), (7, .negSucc 2147483647, .ofNat 2147483647), (8, .negSucc 2147483647, .ofNat 2147483647), (9, .ofNat 1, .ofNat 1), (10, .negSucc 2147483647, .ofNat 2147483647), (11, .negSucc 2147483647, .ofNat 2147483647), (12, .negSucc 0, .negSucc 0)] : sIv), ∃ x, ([s0, s1, s2, s3, s4, s5, s6, s7, s8, s9, s10, s11, s12] : List Int)[q.1]? = some x ∧ q.2.1 ≤ x ∧ x ≤ q.2.2 := hN.2.1.2
  have b1 : (9 : Int) ≤ s1 ∧ s1 ≤ (9 : Int) := ivX (q := (1, .ofNat 9, .ofNat 9)) (y := s1) (hIv _ (.tail _ (.head _))) rfl
  have b9 : (1 : Int) ≤ s9 ∧ s9 ≤ (1 : Int) := ivX (q := (9, .ofNat 1, .ofNat 1)) (y := s9) (hIv _ (.tail _ (.tail _ (.tail _ (.tail _ (.tail _ (.tail _ (.tail _ (.tail _ (.tail _ (.head _))))))))))) rfl
  have b12 : (-1 : Int) ≤ s12 ∧ s12 ≤ (-1 : Int) := ivX (q := (12, .negSucc 0, .negSucc 0)) (y := s12) (hIv _ (.tail _ (.tail _ (.tail _ (.tail _ (.tail _ (.tail _ (.tail _ (.tail _ (.tail _ (.tail _ (.tail _ (.tail _ (.head _)))))))))))))) rfl
  have hRf : ∀ q ∈ ([((40, .ofNat 173, []), (.ofNat 9, []), 1, .ofNat 0, [])] : List sRf), rfOk [s0, s1, s2, s3, s4, s5, s6, s7, s8, s9, s10, s11, s12] hp q := hH.1
  have h0 : hI hp 173 9 = 0 := rfI0 (hRf _ (.head _)) (sE_k _ _) (sE_k _ _) (sE_k _ _)
  have hFc : ∀ q ∈ ([(53, [(.ofNat 0, [(.ofNat 1, 0)]), (.ofNat 0, [(.ofNat 1, 1)]), (.ofNat 0, [(.ofNat 1, 2)]), (.ofNat 0, [(.ofNat 1, 3)]), (.ofNat 0, [(.ofNat 1, 4)]), (.ofNat 0, [(.ofNat 1, 5)]), (.ofNat 0, [(.ofNat 1, 6)]), (.ofNat 0, [(.ofNat 1, 7)]), (.ofNat 0, [(.ofNat 1, 8)]), (.ofNat 0, [(.ofNat 1, 9)]), (.ofNat 0, [(.ofNat 1, 10)]), (.ofNat 0, [(.ofNat 1, 11)]), (.ofNat 0, [(.ofNat 1, 12)])]), (67, [(.ofNat 0, [(.ofNat 1, 2)]), (.ofNat 0, [(.ofNat 1, 10)]), (.ofNat 0, [(.ofNat 1, 11)]), (.negSucc 0, [])])] : List sFc), fcOk fFS [s0, s1, s2, s3, s4, s5, s6, s7, s8, s9, s10, s11, s12] hp q := hH.2
  have f0 : Hq (XT hp) s0 s1 s2 s3 s4 s5 s6 s7 s8 s9 s10 s11 s12 ∧ s9 ≠ 4 := fcX (ys := [s0, s1, s2, s3, s4, s5, s6, s7, s8, s9, s10, s11, s12]) (hFc _ (.head _)) ⟨sE_V rfl, sE_V rfl, sE_V rfl, sE_V rfl, sE_V rfl, sE_V rfl, sE_V rfl, sE_V rfl, sE_V rfl, sE_V rfl, sE_V rfl, sE_V rfl, sE_V rfl, trivial⟩
  have f1 : SL (XT hp) s2 s10 s11 (-1 : Int) := fcX (ys := [s2, s10, s11, (-1)]) (hFc _ (.tail _ (.head _))) ⟨sE_V rfl, sE_V rfl, sE_V rfl, sE_k _ _, trivial⟩
  obtain ⟨D, hG⟩ := hF9 (XT_ok hO) f0.1 (by omega) (by omega) (by omega) f1 (by omega)
  exact poX (.head _) rfl hR (all_nil) (all_nil) (all_cons ⟨[s11, 5, s2, (-1), 0, 0, 0, s10, s11], ⟨sE_V rfl, sE_k _ _, sE_V rfl, sE_k _ _, sE_k _ _, sE_k _ _, sE_k _ _, sE_V rfl, sE_V rfl, trivial⟩, (show Gq (XT hp) s11 (5 : Int) s2 (-1 : Int) (0 : Int) (0 : Int) (0 : Int) s10 s11 from ⟨D, hG⟩)⟩ (all_nil))
theorem rl236 : ruOk fFS gR236 := by
  intro r hp hO hN hH
  obtain ⟨s0, s1, s2, s3, s4, s5, s6, s7, s8, s9, s10, s11, s12, s13, s14, s15, s16, s17, s18, rfl⟩ := len19 (show r.length = 19 from hN.1)
  have hR := hN.2.1.1
  have hIv : ∀ q ∈ ([(0, .negSucc 2147483647, .ofNat 2147483647), (1, .ofNat 5, .ofNat 5), (2, .negSucc 2147483647, .ofNat 2147483647), (3, .negSucc 2147483647, .ofNat 2147483647), (4, .negSucc 2147483647, .ofNat 2147483647), (5, .negSucc 2147483647, .ofNat 2147483647), (6, .negSucc 2147483647, .ofNat 2147483647), (7, .negSucc 2147483647, .ofNat 2147483647), (8, .negSucc 2147483647, .ofNat 2147483647), (9, .negSucc 2147483647, .ofNat 2147483647), (10, .negSucc 2147483647, .ofNat 2147483647), (11, .negSucc 2147483647, .ofNat 2147483647), (12, .negSucc 2147483647, .ofNat 2147483647), (13, .negSucc 2147483647, .ofNat 2147483647), (14, .negSucc 2147483647, .ofNat 2147483647), (15, .negSucc 2147483647, .ofNat 2147483647), (16, .negSucc 2147483647, .ofNat 2147483647), (17, .negSucc 2147483647, .ofNat 2147483647), (18, .negSucc 2147483647, .ofNat 2147483647)] : sIv), ∃ x, ([s0, s1, s2, s3, s4, s5, s6, s7, s8, s9, s10, s11, s12, s13, s14, s15, s16, s17, s18] : List Int)[q.1]? = some x ∧ q.2.1 ≤ x ∧ x ≤ q.2.2 := hN.2.1.2
  have b1 : (5 : Int) ≤ s1 ∧ s1 ≤ (5 : Int) := ivX (q := (1, .ofNat 5, .ofNat 5)) (y := s1) (hIv _ (.tail _ (.head _))) rfl
  have hRf : ∀ q ∈ ([((40, .ofNat 173, []), (.ofNat 9, []), 1, .ofNat 0, [])] : List sRf), rfOk [s0, s1, s2, s3, s4, s5, s6, s7, s8, s9, s10, s11, s12, s13, s14, s15, s16, s17, s18] hp q := hH.1
  have h0 : hI hp 173 9 = 0 := rfI0 (hRf _ (.head _)) (sE_k _ _) (sE_k _ _) (sE_k _ _)
  have hFc : ∀ q ∈ ([(52, [(.ofNat 0, [(.ofNat 1, 0)]), (.ofNat 0, [(.ofNat 1, 1)]), (.ofNat 0, [(.ofNat 1, 2)]), (.ofNat 0, [(.ofNat 1, 3)]), (.ofNat 0, [(.ofNat 1, 4)]), (.ofNat 0, [(.ofNat 1, 5)]), (.ofNat 0, [(.ofNat 1, 6)]), (.ofNat 0, [(.ofNat 1, 7)]), (.ofNat 0, [(.ofNat 1, 8)])]), (59, [(.ofNat 0, [(.ofNat 1, 2)]), (.ofNat 0, [(.ofNat 1, 9)]), (.ofNat 0, [(.ofNat 1, 10)]), (.ofNat 0, [(.ofNat 1, 11)]), (.ofNat 0, [(.ofNat 1, 12)]), (.ofNat 0, [(.ofNat 1, 13)]), (.ofNat 0, [(.ofNat 1, 14)]), (.ofNat 0, [(.ofNat 1, 15)]), (.ofNat 0, [(.ofNat 1, 16)]), (.ofNat 0, [(.ofNat 1, 17)]), (.ofNat 0, [(.ofNat 1, 18)])])] : List sFc), fcOk fFS [s0, s1, s2, s3, s4, s5, s6, s7, s8, s9, s10, s11, s12, s13, s14, s15, s16, s17, s18] hp q := hH.2
  have f0 : Gq (XT hp) s0 s1 s2 s3 s4 s5 s6 s7 s8 := fcX (ys := [s0, s1, s2, s3, s4, s5, s6, s7, s8]) (hFc _ (.head _)) ⟨sE_V rfl, sE_V rfl, sE_V rfl, sE_V rfl, sE_V rfl, sE_V rfl, sE_V rfl, sE_V rfl, sE_V rfl, trivial⟩
  have f1 : CT (XT hp) s2 s9 s10 s11 s12 s13 s14 s15 s16 s17 s18 := fcX (ys := [s2, s9, s10, s11, s12, s13, s14, s15, s16, s17, s18]) (hFc _ (.tail _ (.head _))) ⟨sE_V rfl, sE_V rfl, sE_V rfl, sE_V rfl, sE_V rfl, sE_V rfl, sE_V rfl, sE_V rfl, sE_V rfl, sE_V rfl, sE_V rfl, trivial⟩
  obtain ⟨D, hG⟩ := f0
  have hP := dF_at (XT_ok hO) hG f1
  exact poX (.head _) rfl hR (all_nil) (all_nil) (all_cons ⟨[s0, 0, (s17 - 1)], ⟨sE_V rfl, sE_k _ _, sEv (y' := ((-1 : Int) + ((1 : Int) * s17 + 0))) rfl (by omega), trivial⟩, (show EN (XT hp) s0 (0 : Int) (s17 - 1) from en_mk hG (nC5 (by omega) (by omega) (by have hx := hP.2.2.2.2.2.2.2.2.1; have hy := hP.2.2.2.2.2.2.2.2.2; clear hP; omega)))⟩ (all_nil))
theorem rl237 : ruOk fFS gR237 := by
  intro r hp hO hN hH
  obtain ⟨s0, s1, s2, s3, s4, s5, s6, s7, s8, s9, s10, s11, s12, s13, s14, s15, s16, s17, s18, s19, s20, s21, s22, rfl⟩ := len23 (show r.length = 23 from hN.1)
  have hR := hN.2.1.1
  have hIv : ∀ q ∈ ([(0, .negSucc 2147483647, .ofNat 2147483647), (1, .negSucc 2147483647, .ofNat 2147483647), (2, .ofNat 5, .ofNat 5), (3, .negSucc 2147483647, .ofNat 2147483647), (4, .negSucc 2147483647, .ofNat 2147483647), (5, .negSucc 2147483647, .ofNat 2147483647), (6, .negSucc 2147483647, .ofNat 2147483647), (7, .negSucc 2147483647, .ofNat 2147483647), (8, .negSucc 2147483647, .ofNat 2147483647), (9, .negSucc 2147483647, .ofNat 2147483647), (10, .ofNat 2, .ofNat 2), (11, .negSucc 2147483647, .ofNat 2147483647), (12, .negSucc 2147483647, .ofNat 2147483647), (13, .negSucc 2147483647, .ofNat 2147483647), (14, .negSucc 2147483647, .ofNat 2147483647), (15, .negSucc 2147483647, .ofNat 2147483647), (16, .negSucc 2147483647, .ofNat 2147483647), (17, .negSucc 2147483647, .ofNat 2147483647), (18, .negSucc 2147483647, .ofNat 2147483647), (19, .negSucc 2147483647, .ofNat 2147483647), (20, .negSucc 2147483647, .ofNat 2147483647), (21, .negSucc 2147483647, .ofNat 2147483647), (22, .negSucc 2147483647, .ofNat 2147483647)] : sIv), ∃ x, ([s0, s1, s2, s3, s4, s5, s6, s7, s8, s9, s10, s11, s12, s13, s14, s15, s16, s17, s18, s19, s20, s21, s22] : List Int)[q.1]? = some x ∧ q.2.1 ≤ x ∧ x ≤ q.2.2 := hN.2.1.2
  have b2 : (5 : Int) ≤ s2 ∧ s2 ≤ (5 : Int) := ivX (q := (2, .ofNat 5, .ofNat 5)) (y := s2) (hIv _ (.tail _ (.tail _ (.head _)))) rfl
  have b10 : (2 : Int) ≤ s10 ∧ s10 ≤ (2 : Int) := ivX (q := (10, .ofNat 2, .ofNat 2)) (y := s10) (hIv _ (.tail _ (.tail _ (.tail _ (.tail _ (.tail _ (.tail _ (.tail _ (.tail _ (.tail _ (.tail _ (.head _)))))))))))) rfl
  have hRf : ∀ q ∈ ([((40, .ofNat 173, []), (.ofNat 9, []), 1, .ofNat 0, [])] : List sRf), rfOk [s0, s1, s2, s3, s4, s5, s6, s7, s8, s9, s10, s11, s12, s13, s14, s15, s16, s17, s18, s19, s20, s21, s22] hp q := hH.1
  have h0 : hI hp 173 9 = 0 := rfI0 (hRf _ (.head _)) (sE_k _ _) (sE_k _ _) (sE_k _ _)
  have hFc : ∀ q ∈ ([(53, [(.ofNat 0, [(.ofNat 1, 1)]), (.ofNat 0, [(.ofNat 1, 2)]), (.ofNat 0, [(.ofNat 1, 3)]), (.ofNat 0, [(.ofNat 1, 4)]), (.ofNat 0, [(.ofNat 1, 5)]), (.ofNat 0, [(.ofNat 1, 6)]), (.ofNat 0, [(.ofNat 1, 7)]), (.ofNat 0, [(.ofNat 1, 8)]), (.ofNat 0, [(.ofNat 1, 9)]), (.ofNat 0, [(.ofNat 1, 10)]), (.ofNat 0, [(.ofNat 1, 11)]), (.ofNat 0, [(.ofNat 1, 12)]), (.ofNat 0, [(.ofNat 1, 0)])]), (59, [(.ofNat 0, [(.ofNat 1, 3)]), (.ofNat 0, [(.ofNat 1, 13)]), (.ofNat 0, [(.ofNat 1, 14)]), (.ofNat 0, [(.ofNat 1, 15)]), (.ofNat 0, [(.ofNat 1, 16)]), (.ofNat 0, [(.ofNat 1, 17)]), (.ofNat 0, [(.ofNat 1, 18)]), (.ofNat 0, [(.ofNat 1, 19)]), (.ofNat 0, [(.ofNat 1, 20)]), (.ofNat 0, [(.ofNat 1, 21)]), (.ofNat 0, [(.ofNat 1, 22)])]), (60, [(.ofNat 0, [(.ofNat 1, 1)])])] : List sFc), fcOk fFS [s0, s1, s2, s3, s4, s5, s6, s7, s8, s9, s10, s11, s12, s13, s14, s15, s16, s17, s18, s19, s20, s21, s22] hp q := hH.2
  have f0 : Hq (XT hp) s1 s2 s3 s4 s5 s6 s7 s8 s9 s10 s11 s12 s0 ∧ s10 ≠ 4 := fcX (ys := [s1, s2, s3, s4, s5, s6, s7, s8, s9, s10, s11, s12, s0]) (hFc _ (.head _)) ⟨sE_V rfl, sE_V rfl, sE_V rfl, sE_V rfl, sE_V rfl, sE_V rfl, sE_V rfl, sE_V rfl, sE_V rfl, sE_V rfl, sE_V rfl, sE_V rfl, sE_V rfl, trivial⟩
  have f1 : CT (XT hp) s3 s13 s14 s15 s16 s17 s18 s19 s20 s21 s22 := fcX (ys := [s3, s13, s14, s15, s16, s17, s18, s19, s20, s21, s22]) (hFc _ (.tail _ (.head _))) ⟨sE_V rfl, sE_V rfl, sE_V rfl, sE_V rfl, sE_V rfl, sE_V rfl, sE_V rfl, sE_V rfl, sE_V rfl, sE_V rfl, sE_V rfl, trivial⟩
  have f2 : NO (XT hp) s1 := fcX (ys := [s1]) (hFc _ (.tail _ (.tail _ (.head _)))) ⟨sE_V rfl, trivial⟩
  obtain ⟨D, hG⟩ := hN5 (XT_ok hO) f0.1 (by omega) (by omega) f2
  have hP := dF_at (XT_ok hO) hG f1
  exact poX (.head _) rfl hR (all_nil) (all_nil) (all_cons ⟨[s12, 6, s3, s4, s0, 0, 0, s8, s9], ⟨sE_V rfl, sE_k _ _, sE_V rfl, sE_V rfl, sE_V rfl, sE_k _ _, sE_k _ _, sE_V rfl, sE_V rfl, trivial⟩, (show Gq (XT hp) s12 (6 : Int) s3 s4 s0 (0 : Int) (0 : Int) s8 s9 from ⟨D, hG⟩)⟩ (all_cons ⟨[s12, 0, (s22 - 1)], ⟨sE_V rfl, sE_k _ _, sEv (y' := ((-1 : Int) + ((1 : Int) * s22 + 0))) rfl (by omega), trivial⟩, (show EN (XT hp) s12 (0 : Int) (s22 - 1) from en_mk hG (nC6 (by omega) (by omega) (by have hx := hP.2.2.2.2.2.2.2.2.1; have hy := hP.2.2.2.2.2.2.2.2.2; clear hP; omega)))⟩ (all_nil)))
theorem rl238 : ruOk fFS gR238 := by
  intro r hp hO hN hH
  obtain ⟨s0, s1, s2, s3, s4, s5, s6, s7, s8, s9, s10, s11, s12, s13, s14, s15, s16, s17, s18, s19, s20, s21, s22, rfl⟩ := len23 (show r.length = 23 from hN.1)
  have hR := hN.2.1.1
  have hIv : ∀ q ∈ ([(0, .negSucc 2147483647, .ofNat 2147483647), (1, .negSucc 2147483647, .ofNat 2147483647), (2, .ofNat 6, .ofNat 6), (3, .negSucc 2147483647, .ofNat 2147483647), (4, .negSucc 2147483647, .ofNat 2147483647), (5, .negSucc 2147483647, .ofNat 2147483647), (6, .negSucc 2147483647, .ofNat 2147483647), (7, .negSucc 2147483647, .ofNat 2147483647), (8, .negSucc 2147483647, .ofNat 2147483647), (9, .negSucc 2147483647, .ofNat 2147483647), (10, .ofNat 2, .ofNat 2), (11, .negSucc 2147483647, .ofNat 2147483647), (12, .negSucc 2147483647, .ofNat 2147483647), (13, .negSucc 2147483647, .ofNat 2147483647), (14, .negSucc 2147483647, .ofNat 2147483647), (15, .negSucc 2147483647, .ofNat 2147483647), (16, .negSucc 2147483647, .ofNat 2147483647), (17, .negSucc 2147483647, .ofNat 2147483647), (18, .negSucc 2147483647, .ofNat 2147483647), (19, .negSucc 2147483647, .ofNat 2147483647), (20, .negSucc 2147483647, .ofNat 2147483647), (21, .negSucc 2147483647, .ofNat 2147483647), (22, .negSucc 2147483647, .ofNat 2147483647)] : sIv), ∃ x, ([s0, s1, s2, s3, s4, s5, s6, s7, s8, s9, s10, s11, s12, s13, s14, s15, s16, s17, s18, s19, s20, s21, s22] : List Int)[q.1]? = some x ∧ q.2.1 ≤ x ∧ x ≤ q.2.2 := hN.2.1.2
  have b2 : (6 : Int) ≤ s2 ∧ s2 ≤ (6 : Int) := ivX (q := (2, .ofNat 6, .ofNat 6)) (y := s2) (hIv _ (.tail _ (.tail _ (.head _)))) rfl
  have b10 : (2 : Int) ≤ s10 ∧ s10 ≤ (2 : Int) := ivX (q := (10, .ofNat 2, .ofNat 2)) (y := s10) (hIv _ (.tail _ (.tail _ (.tail _ (.tail _ (.tail _ (.tail _ (.tail _ (.tail _ (.tail _ (.tail _ (.head _)))))))))))) rfl
  have hRf : ∀ q ∈ ([((40, .ofNat 173, []), (.ofNat 9, []), 1, .ofNat 0, [])] : List sRf), rfOk [s0, s1, s2, s3, s4, s5, s6, s7, s8, s9, s10, s11, s12, s13, s14, s15, s16, s17, s18, s19, s20, s21, s22] hp q := hH.1
  have h0 : hI hp 173 9 = 0 := rfI0 (hRf _ (.head _)) (sE_k _ _) (sE_k _ _) (sE_k _ _)
  have hFc : ∀ q ∈ ([(53, [(.ofNat 0, [(.ofNat 1, 1)]), (.ofNat 0, [(.ofNat 1, 2)]), (.ofNat 0, [(.ofNat 1, 3)]), (.ofNat 0, [(.ofNat 1, 4)]), (.ofNat 0, [(.ofNat 1, 5)]), (.ofNat 0, [(.ofNat 1, 6)]), (.ofNat 0, [(.ofNat 1, 7)]), (.ofNat 0, [(.ofNat 1, 8)]), (.ofNat 0, [(.ofNat 1, 9)]), (.ofNat 0, [(.ofNat 1, 10)]), (.ofNat 0, [(.ofNat 1, 11)]), (.ofNat 0, [(.ofNat 1, 12)]), (.ofNat 0, [(.ofNat 1, 0)])]), (59, [(.ofNat 0, [(.ofNat 1, 3)]), (.ofNat 0, [(.ofNat 1, 13)]), (.ofNat 0, [(.ofNat 1, 14)]), (.ofNat 0, [(.ofNat 1, 15)]), (.ofNat 0, [(.ofNat 1, 16)]), (.ofNat 0, [(.ofNat 1, 17)]), (.ofNat 0, [(.ofNat 1, 18)]), (.ofNat 0, [(.ofNat 1, 19)]), (.ofNat 0, [(.ofNat 1, 20)]), (.ofNat 0, [(.ofNat 1, 21)]), (.ofNat 0, [(.ofNat 1, 22)])]), (60, [(.ofNat 0, [(.ofNat 1, 1)])])] : List sFc), fcOk fFS [s0, s1, s2, s3, s4, s5, s6, s7, s8, s9, s10, s11, s12, s13, s14, s15, s16, s17, s18, s19, s20, s21, s22] hp q := hH.2
  have f0 : Hq (XT hp) s1 s2 s3 s4 s5 s6 s7 s8 s9 s10 s11 s12 s0 ∧ s10 ≠ 4 := fcX (ys := [s1, s2, s3, s4, s5, s6, s7, s8, s9, s10, s11, s12, s0]) (hFc _ (.head _)) ⟨sE_V rfl, sE_V rfl, sE_V rfl, sE_V rfl, sE_V rfl, sE_V rfl, sE_V rfl, sE_V rfl, sE_V rfl, sE_V rfl, sE_V rfl, sE_V rfl, sE_V rfl, trivial⟩
  have f1 : CT (XT hp) s3 s13 s14 s15 s16 s17 s18 s19 s20 s21 s22 := fcX (ys := [s3, s13, s14, s15, s16, s17, s18, s19, s20, s21, s22]) (hFc _ (.tail _ (.head _))) ⟨sE_V rfl, sE_V rfl, sE_V rfl, sE_V rfl, sE_V rfl, sE_V rfl, sE_V rfl, sE_V rfl, sE_V rfl, sE_V rfl, sE_V rfl, trivial⟩
  have f2 : NO (XT hp) s1 := fcX (ys := [s1]) (hFc _ (.tail _ (.tail _ (.head _)))) ⟨sE_V rfl, trivial⟩
  obtain ⟨D, hG⟩ := hN6 (XT_ok hO) f0.1 (by omega) (by omega) f2
  have hP := dF_at (XT_ok hO) hG f1
  exact poX (.head _) rfl hR (all_nil) (all_nil) (all_cons ⟨[s12, 7, s3, s4, s5, s0, 0, s8, s9], ⟨sE_V rfl, sE_k _ _, sE_V rfl, sE_V rfl, sE_V rfl, sE_V rfl, sE_k _ _, sE_V rfl, sE_V rfl, trivial⟩, (show Gq (XT hp) s12 (7 : Int) s3 s4 s5 s0 (0 : Int) s8 s9 from ⟨D, hG⟩)⟩ (all_cons ⟨[s12, 1, (-s5 + s21)], ⟨sE_V rfl, sE_k _ _, sEv (y' := ((0 : Int) + ((-1 : Int) * s5 + ((1 : Int) * s21 + 0)))) rfl (by omega), trivial⟩, (show EN (XT hp) s12 (1 : Int) (-s5 + s21) from en_mk hG (nC7 (by omega) (by omega) (by have hx := hP.2.2.2.2.2.2.2.2.1; have hy := hP.2.2.2.2.2.2.2.2.2; clear hP; omega)))⟩ (all_nil)))
theorem rl239 : ruOk fFS gR239 := by
  intro r hp hO hN hH
  obtain ⟨s0, s1, s2, s3, s4, s5, s6, s7, s8, s9, s10, s11, s12, s13, s14, s15, s16, s17, s18, s19, s20, s21, s22, rfl⟩ := len23 (show r.length = 23 from hN.1)
  have hR := hN.2.1.1
  have hIv : ∀ q ∈ ([(0, .negSucc 2147483647, .ofNat 2147483647), (1, .negSucc 2147483647, .ofNat 2147483647), (2, .ofNat 7, .ofNat 7), (3, .negSucc 2147483647, .ofNat 2147483647), (4, .negSucc 2147483647, .ofNat 2147483647), (5, .negSucc 2147483647, .ofNat 2147483647), (6, .negSucc 2147483647, .ofNat 2147483647), (7, .negSucc 2147483647, .ofNat 2147483647), (8, .negSucc 2147483647, .ofNat 2147483647), (9, .negSucc 2147483647, .ofNat 2147483647), (10, .ofNat 2, .ofNat 2), (11, .negSucc 2147483647, .ofNat 2147483647), (12, .negSucc 2147483647, .ofNat 2147483647), (13, .negSucc 2147483647, .ofNat 2147483647), (14, .negSucc 2147483647, .ofNat 2147483647), (15, .negSucc 2147483647, .ofNat 2147483647), (16, .negSucc 2147483647, .ofNat 2147483647), (17, .negSucc 2147483647, .ofNat 2147483647), (18, .negSucc 2147483647, .ofNat 2147483647), (19, .negSucc 2147483647, .ofNat 2147483647), (20, .negSucc 2147483647, .ofNat 2147483647), (21, .negSucc 2147483647, .ofNat 2147483647), (22, .negSucc 2147483647, .ofNat 2147483647)] : sIv), ∃ x, ([s0, s1, s2, s3, s4, s5, s6, s7, s8, s9, s10, s11, s12, s13, s14, s15, s16, s17, s18, s19, s20, s21, s22] : List Int)[q.1]? = some x ∧ q.2.1 ≤ x ∧ x ≤ q.2.2 := hN.2.1.2
  have b2 : (7 : Int) ≤ s2 ∧ s2 ≤ (7 : Int) := ivX (q := (2, .ofNat 7, .ofNat 7)) (y := s2) (hIv _ (.tail _ (.tail _ (.head _)))) rfl
  have b10 : (2 : Int) ≤ s10 ∧ s10 ≤ (2 : Int) := ivX (q := (10, .ofNat 2, .ofNat 2)) (y := s10) (hIv _ (.tail _ (.tail _ (.tail _ (.tail _ (.tail _ (.tail _ (.tail _ (.tail _ (.tail _ (.tail _ (.head _)))))))))))) rfl
  have hRf : ∀ q ∈ ([((40, .ofNat 173, []), (.ofNat 9, []), 1, .ofNat 0, [])] : List sRf), rfOk [s0, s1, s2, s3, s4, s5, s6, s7, s8, s9, s10, s11, s12, s13, s14, s15, s16, s17, s18, s19, s20, s21, s22] hp q := hH.1
  have h0 : hI hp 173 9 = 0 := rfI0 (hRf _ (.head _)) (sE_k _ _) (sE_k _ _) (sE_k _ _)
  have hFc : ∀ q ∈ ([(53, [(.ofNat 0, [(.ofNat 1, 1)]), (.ofNat 0, [(.ofNat 1, 2)]), (.ofNat 0, [(.ofNat 1, 3)]), (.ofNat 0, [(.ofNat 1, 4)]), (.ofNat 0, [(.ofNat 1, 5)]), (.ofNat 0, [(.ofNat 1, 6)]), (.ofNat 0, [(.ofNat 1, 7)]), (.ofNat 0, [(.ofNat 1, 8)]), (.ofNat 0, [(.ofNat 1, 9)]), (.ofNat 0, [(.ofNat 1, 10)]), (.ofNat 0, [(.ofNat 1, 11)]), (.ofNat 0, [(.ofNat 1, 12)]), (.ofNat 0, [(.ofNat 1, 0)])]), (59, [(.ofNat 0, [(.ofNat 1, 3)]), (.ofNat 0, [(.ofNat 1, 13)]), (.ofNat 0, [(.ofNat 1, 14)]), (.ofNat 0, [(.ofNat 1, 15)]), (.ofNat 0, [(.ofNat 1, 16)]), (.ofNat 0, [(.ofNat 1, 17)]), (.ofNat 0, [(.ofNat 1, 18)]), (.ofNat 0, [(.ofNat 1, 19)]), (.ofNat 0, [(.ofNat 1, 20)]), (.ofNat 0, [(.ofNat 1, 21)]), (.ofNat 0, [(.ofNat 1, 22)])]), (60, [(.ofNat 0, [(.ofNat 1, 1)])])] : List sFc), fcOk fFS [s0, s1, s2, s3, s4, s5, s6, s7, s8, s9, s10, s11, s12, s13, s14, s15, s16, s17, s18, s19, s20, s21, s22] hp q := hH.2
  have f0 : Hq (XT hp) s1 s2 s3 s4 s5 s6 s7 s8 s9 s10 s11 s12 s0 ∧ s10 ≠ 4 := fcX (ys := [s1, s2, s3, s4, s5, s6, s7, s8, s9, s10, s11, s12, s0]) (hFc _ (.head _)) ⟨sE_V rfl, sE_V rfl, sE_V rfl, sE_V rfl, sE_V rfl, sE_V rfl, sE_V rfl, sE_V rfl, sE_V rfl, sE_V rfl, sE_V rfl, sE_V rfl, sE_V rfl, trivial⟩
  have f1 : CT (XT hp) s3 s13 s14 s15 s16 s17 s18 s19 s20 s21 s22 := fcX (ys := [s3, s13, s14, s15, s16, s17, s18, s19, s20, s21, s22]) (hFc _ (.tail _ (.head _))) ⟨sE_V rfl, sE_V rfl, sE_V rfl, sE_V rfl, sE_V rfl, sE_V rfl, sE_V rfl, sE_V rfl, sE_V rfl, sE_V rfl, sE_V rfl, trivial⟩
  have f2 : NO (XT hp) s1 := fcX (ys := [s1]) (hFc _ (.tail _ (.tail _ (.head _)))) ⟨sE_V rfl, trivial⟩
  obtain ⟨D, hG⟩ := hN7 (XT_ok hO) f0.1 (by omega) (by omega) f2
  have hP := dF_at (XT_ok hO) hG f1
  exact poX (.head _) rfl hR (all_nil) (all_nil) (all_cons ⟨[s12, 8, s3, s4, s5, s6, s0, s8, s9], ⟨sE_V rfl, sE_k _ _, sE_V rfl, sE_V rfl, sE_V rfl, sE_V rfl, sE_V rfl, sE_V rfl, sE_V rfl, trivial⟩, (show Gq (XT hp) s12 (8 : Int) s3 s4 s5 s6 s0 s8 s9 from ⟨D, hG⟩)⟩ (all_cons ⟨[s12, 1, (-s6 + s22)], ⟨sE_V rfl, sE_k _ _, sEv (y' := ((0 : Int) + ((-1 : Int) * s6 + ((1 : Int) * s22 + 0)))) rfl (by omega), trivial⟩, (show EN (XT hp) s12 (1 : Int) (-s6 + s22) from en_mk hG (nC8 (by omega) (by omega) (by have hx := hP.2.2.2.2.2.2.2.2.1; have hy := hP.2.2.2.2.2.2.2.2.2; clear hP; omega)))⟩ (all_nil)))
end CkRul2
