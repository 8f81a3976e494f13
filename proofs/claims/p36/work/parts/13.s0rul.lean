section CkRul0
theorem rl12 : ruOk fFS gR12 := by
  intro r hp hO hN hH
  have hr0 := len0 (show r.length = 0 from hN.1)
  subst hr0
  have hR := hN.2.1.1
  have hRf : ∀ q ∈ ([((43, .ofNat 176, []), (.ofNat 1, []), 114, .ofNat 15, []), ((98, .ofNat 15, []), (.ofNat 7, []), 115, .ofNat 16, [])] : List sRf), rfOk [] hp q := hH.1
  have g0 : hC hp 176 1 = 15 := by
    have u := rfR0 (xv := (15 : Int)) (c0 := 176) (i0 := 1) (hRf _ (.head _)) (sE_k _ _) (sE_k _ _) (sE_k _ _)
    show hC hp (176) 1 = 15
    omega
  have g1 : rr hp 1 7 = 16 := by
    have u := rfR0 (xv := (16 : Int)) (c0 := hC hp 176 1) (i0 := 7) (hRf _ (.tail _ (.head _))) (by rw [g0]; exact sE_k _ _) (sE_k _ _) (sE_k _ _)
    show hC hp (hC hp 176 1) 7 = 16
    omega
  have hFc : ∀ q ∈ ([(100, [])] : List sFc), fcOk fFS [] hp q := hH.2
  have f0 : True := fcX (ys := []) (hFc _ (.head _)) trivial
  exact poX (.head _) rfl hR (all_nil) (all_nil) (all_cons ⟨[0], ⟨sE_k _ _, trivial⟩, (show ∀ j : Nat, j < 12 → (j : Int) < (0 : Int) → hL hp (rr hp 1 7) j = 0 from fun j _ w => absurd w (by omega))⟩ (all_nil))
theorem rl13 : ruOk fFS gR13 := by
  intro r hp hO hN hH
  obtain ⟨s0, s1, rfl⟩ := len2 (show r.length = 2 from hN.1)
  have hR := hN.2.1.1
  have hIv : ∀ q ∈ ([(0, .ofNat 0, .ofNat 11), (1, .ofNat 0, .ofNat 0)] : sIv), ∃ x, ([s0, s1] : List Int)[q.1]? = some x ∧ q.2.1 ≤ x ∧ x ≤ q.2.2 := hN.2.1.2
  have b0 : (0 : Int) ≤ s0 ∧ s0 ≤ (11 : Int) := ivX (q := (0, .ofNat 0, .ofNat 11)) (y := s0) (hIv _ (.head _)) rfl
  have b1 : (0 : Int) ≤ s1 ∧ s1 ≤ (0 : Int) := ivX (q := (1, .ofNat 0, .ofNat 0)) (y := s1) (hIv _ (.tail _ (.head _))) rfl
  have hRf : ∀ q ∈ ([((43, .ofNat 176, []), (.ofNat 1, []), 114, .ofNat 15, []), ((98, .ofNat 15, []), (.ofNat 7, []), 115, .ofNat 16, []), ((99, .ofNat 16, []), (.ofNat 0, [(.ofNat 1, 0)]), 5, .ofNat 0, [(.ofNat 1, 1)])] : List sRf), rfOk [s0, s1] hp q := hH.1
  have g0 : hC hp 176 1 = 15 := by
    have u := rfR0 (xv := (15 : Int)) (c0 := 176) (i0 := 1) (hRf _ (.head _)) (sE_k _ _) (sE_k _ _) (sE_k _ _)
    show hC hp (176) 1 = 15
    omega
  have g1 : rr hp 1 7 = 16 := by
    have u := rfR0 (xv := (16 : Int)) (c0 := hC hp 176 1) (i0 := 7) (hRf _ (.tail _ (.head _))) (by rw [g0]; exact sE_k _ _) (sE_k _ _) (sE_k _ _)
    show hC hp (hC hp 176 1) 7 = 16
    omega
  obtain ⟨i2, e2, l2, h2⟩ := rfL (c0 := rr hp 1 7) (iv := s0) (hRf _ (.tail _ (.tail _ (.head _)))) (by rw [g1]; exact sE_k _ _) (sE_V rfl) (sE_V rfl)
  have l2 : i2 < 12 := l2
  have h2 : hL hp (rr hp 1 7) i2 = s1 := h2
  have hFc : ∀ q ∈ ([(101, [(.ofNat 0, [(.ofNat 1, 0)])])] : List sFc), fcOk fFS [s0, s1] hp q := hH.2
  have f0 : ∀ j : Nat, j < 12 → (j : Int) < s0 → hL hp (rr hp 1 7) j = 0 := fcX (ys := [s0]) (hFc _ (.head _)) ⟨sE_V rfl, trivial⟩
  exact poX (.head _) rfl hR (all_nil) (all_nil) (all_cons ⟨[(s0 + 1)], ⟨sEv (y' := ((1 : Int) + ((1 : Int) * s0 + 0))) rfl (by omega), trivial⟩, (show ∀ j : Nat, j < 12 → (j : Int) < (s0 + 1) → hL hp (rr hp 1 7) j = 0 from fl_s f0 h2 (by omega) (by omega) (by omega))⟩ (all_nil))
theorem rl14 : ruOk fFS gR14 := by
  intro r hp hO hN hH
  obtain ⟨s0, rfl⟩ := len1 (show r.length = 1 from hN.1)
  have hR := hN.2.1.1
  have hIv : ∀ q ∈ ([(0, .ofNat 12, .ofNat 12)] : sIv), ∃ x, ([s0] : List Int)[q.1]? = some x ∧ q.2.1 ≤ x ∧ x ≤ q.2.2 := hN.2.1.2
  have b0 : (12 : Int) ≤ s0 ∧ s0 ≤ (12 : Int) := ivX (q := (0, .ofNat 12, .ofNat 12)) (y := s0) (hIv _ (.head _)) rfl
  have hRf : ∀ q ∈ ([((43, .ofNat 176, []), (.ofNat 1, []), 114, .ofNat 15, []), ((98, .ofNat 15, []), (.ofNat 7, []), 115, .ofNat 16, [])] : List sRf), rfOk [s0] hp q := hH.1
  have g0 : hC hp 176 1 = 15 := by
    have u := rfR0 (xv := (15 : Int)) (c0 := 176) (i0 := 1) (hRf _ (.head _)) (sE_k _ _) (sE_k _ _) (sE_k _ _)
    show hC hp (176) 1 = 15
    omega
  have g1 : rr hp 1 7 = 16 := by
    have u := rfR0 (xv := (16 : Int)) (c0 := hC hp 176 1) (i0 := 7) (hRf _ (.tail _ (.head _))) (by rw [g0]; exact sE_k _ _) (sE_k _ _) (sE_k _ _)
    show hC hp (hC hp 176 1) 7 = 16
    omega
  have hFc : ∀ q ∈ ([(101, [(.ofNat 0, [(.ofNat 1, 0)])])] : List sFc), fcOk fFS [s0] hp q := hH.2
  have f0 : ∀ j : Nat, j < 12 → (j : Int) < s0 → hL hp (rr hp 1 7) j = 0 := fcX (ys := [s0]) (hFc _ (.head _)) ⟨sE_V rfl, trivial⟩
  exact poX (.head _) rfl hR (all_nil) (all_nil) (all_cons ⟨[], trivial, (show ∀ j : Nat, j < 12 → hL hp (rr hp 1 7) j = 0 from fun j hj => f0 j hj (by omega))⟩ (all_nil))
theorem rl15 : ruOk fFS gR15 := by
  intro r hp hO hN hH
  obtain ⟨s0, rfl⟩ := len1 (show r.length = 1 from hN.1)
  have hR := hN.2.1.1
  have hRf : ∀ q ∈ ([((43, .ofNat 176, []), (.ofNat 1, []), 114, .ofNat 15, []), ((98, .ofNat 15, []), (.ofNat 8, []), 20, .ofNat 0, [(.ofNat 1, 0)])] : List sRf), rfOk [s0] hp q := hH.1
  have g0 : hC hp 176 1 = 15 := by
    have u := rfR0 (xv := (15 : Int)) (c0 := 176) (i0 := 1) (hRf _ (.head _)) (sE_k _ _) (sE_k _ _) (sE_k _ _)
    show hC hp (176) 1 = 15
    omega
  have g1 : s0 = ((rr hp 1 8 : Nat) : Int) := rfR0 (c0 := hC hp 176 1) (hRf _ (.tail _ (.head _))) (by rw [g0]; exact sE_k _ _) (sE_k _ _) (sE_V rfl)
  have hFc : ∀ q ∈ ([(100, [])] : List sFc), fcOk fFS [s0] hp q := hH.2
  have f0 : True := fcX (ys := []) (hFc _ (.head _)) trivial
  exact poX (.head _) rfl hR (all_nil) (all_nil) (all_cons ⟨[0], ⟨sE_k _ _, trivial⟩, (show ∀ j : Nat, j < 100 → (j : Int) < (0 : Int) → hI hp (rr hp 1 8) j = -1 from fun j _ w => absurd w (by omega))⟩ (all_nil))
theorem rl16 : ruOk fFS gR16 := by
  intro r hp hO hN hH
  obtain ⟨s0, s1, s2, rfl⟩ := len3 (show r.length = 3 from hN.1)
  have hR := hN.2.1.1
  have hIv : ∀ q ∈ ([(1, .ofNat 0, .ofNat 99), (2, .negSucc 0, .negSucc 0)] : sIv), ∃ x, ([s0, s1, s2] : List Int)[q.1]? = some x ∧ q.2.1 ≤ x ∧ x ≤ q.2.2 := hN.2.1.2
  have b0 : (0 : Int) ≤ s1 ∧ s1 ≤ (99 : Int) := ivX (q := (1, .ofNat 0, .ofNat 99)) (y := s1) (hIv _ (.head _)) rfl
  have b1 : (-1 : Int) ≤ s2 ∧ s2 ≤ (-1 : Int) := ivX (q := (2, .negSucc 0, .negSucc 0)) (y := s2) (hIv _ (.tail _ (.head _))) rfl
  have hRf : ∀ q ∈ ([((43, .ofNat 176, []), (.ofNat 1, []), 114, .ofNat 15, []), ((98, .ofNat 15, []), (.ofNat 8, []), 20, .ofNat 0, [(.ofNat 1, 0)]), ((4, .ofNat 0, [(.ofNat 1, 0)]), (.ofNat 0, [(.ofNat 1, 1)]), 1, .ofNat 0, [(.ofNat 1, 2)])] : List sRf), rfOk [s0, s1, s2] hp q := hH.1
  have g0 : hC hp 176 1 = 15 := by
    have u := rfR0 (xv := (15 : Int)) (c0 := 176) (i0 := 1) (hRf _ (.head _)) (sE_k _ _) (sE_k _ _) (sE_k _ _)
    show hC hp (176) 1 = 15
    omega
  have g1 : s0 = ((rr hp 1 8 : Nat) : Int) := rfR0 (c0 := hC hp 176 1) (hRf _ (.tail _ (.head _))) (by rw [g0]; exact sE_k _ _) (sE_k _ _) (sE_V rfl)
  obtain ⟨i2, e2, l2, h2⟩ := rfI (xv := s2) (iv := s1) (hRf _ (.tail _ (.tail _ (.head _)))) (sEv (sE_V rfl) g1.symm) (sE_V rfl) (sE_V rfl)
  have l2 : i2 < 100 := l2
  have h2 : hI hp (rr hp 1 8) i2 = s2 := h2
  have hFc : ∀ q ∈ ([(103, [(.ofNat 0, [(.ofNat 1, 1)])])] : List sFc), fcOk fFS [s0, s1, s2] hp q := hH.2
  have f0 : ∀ j : Nat, j < 100 → (j : Int) < s1 → hI hp (rr hp 1 8) j = -1 := fcX (ys := [s1]) (hFc _ (.head _)) ⟨sE_V rfl, trivial⟩
  exact poX (.head _) rfl hR (all_nil) (all_nil) (all_cons ⟨[(s1 + 1)], ⟨sEv (y' := ((1 : Int) + ((1 : Int) * s1 + 0))) rfl (by omega), trivial⟩, (show ∀ j : Nat, j < 100 → (j : Int) < (s1 + 1) → hI hp (rr hp 1 8) j = -1 from fl_s f0 h2 (by omega) (by omega) (by omega))⟩ (all_nil))
theorem rl17 : ruOk fFS gR17 := by
  intro r hp hO hN hH
  obtain ⟨s0, s1, rfl⟩ := len2 (show r.length = 2 from hN.1)
  have hR := hN.2.1.1
  have hIv : ∀ q ∈ ([(1, .ofNat 100, .ofNat 100)] : sIv), ∃ x, ([s0, s1] : List Int)[q.1]? = some x ∧ q.2.1 ≤ x ∧ x ≤ q.2.2 := hN.2.1.2
  have b0 : (100 : Int) ≤ s1 ∧ s1 ≤ (100 : Int) := ivX (q := (1, .ofNat 100, .ofNat 100)) (y := s1) (hIv _ (.head _)) rfl
  have hRf : ∀ q ∈ ([((43, .ofNat 176, []), (.ofNat 1, []), 114, .ofNat 15, []), ((98, .ofNat 15, []), (.ofNat 8, []), 20, .ofNat 0, [(.ofNat 1, 0)])] : List sRf), rfOk [s0, s1] hp q := hH.1
  have g0 : hC hp 176 1 = 15 := by
    have u := rfR0 (xv := (15 : Int)) (c0 := 176) (i0 := 1) (hRf _ (.head _)) (sE_k _ _) (sE_k _ _) (sE_k _ _)
    show hC hp (176) 1 = 15
    omega
  have g1 : s0 = ((rr hp 1 8 : Nat) : Int) := rfR0 (c0 := hC hp 176 1) (hRf _ (.tail _ (.head _))) (by rw [g0]; exact sE_k _ _) (sE_k _ _) (sE_V rfl)
  have hFc : ∀ q ∈ ([(103, [(.ofNat 0, [(.ofNat 1, 1)])])] : List sFc), fcOk fFS [s0, s1] hp q := hH.2
  have f0 : ∀ j : Nat, j < 100 → (j : Int) < s1 → hI hp (rr hp 1 8) j = -1 := fcX (ys := [s1]) (hFc _ (.head _)) ⟨sE_V rfl, trivial⟩
  exact poX (.head _) rfl hR (all_nil) (all_nil) (all_cons ⟨[], trivial, (show ∀ j : Nat, j < 100 → hI hp (rr hp 1 8) j = -1 from fun j hj => f0 j hj (by omega))⟩ (all_nil))
theorem rl18 : ruOk fFS gR18 := by
  intro r hp hO hN hH
  obtain ⟨s0, rfl⟩ := len1 (show r.length = 1 from hN.1)
  have hR := hN.2.1.1
  have hRf : ∀ q ∈ ([((43, .ofNat 176, []), (.ofNat 1, []), 114, .ofNat 15, []), ((98, .ofNat 15, []), (.ofNat 9, []), 21, .ofNat 0, [(.ofNat 1, 0)])] : List sRf), rfOk [s0] hp q := hH.1
  have g0 : hC hp 176 1 = 15 := by
    have u := rfR0 (xv := (15 : Int)) (c0 := 176) (i0 := 1) (hRf _ (.head _)) (sE_k _ _) (sE_k _ _) (sE_k _ _)
    show hC hp (176) 1 = 15
    omega
  have g1 : s0 = ((rr hp 1 9 : Nat) : Int) := rfR0 (c0 := hC hp 176 1) (hRf _ (.tail _ (.head _))) (by rw [g0]; exact sE_k _ _) (sE_k _ _) (sE_V rfl)
  have hFc : ∀ q ∈ ([(100, [])] : List sFc), fcOk fFS [s0] hp q := hH.2
  have f0 : True := fcX (ys := []) (hFc _ (.head _)) trivial
  exact poX (.head _) rfl hR (all_nil) (all_nil) (all_cons ⟨[0], ⟨sE_k _ _, trivial⟩, (show ∀ j : Nat, j < 100 → (j : Int) < (0 : Int) → hI hp (rr hp 1 9) j = -1 from fun j _ w => absurd w (by omega))⟩ (all_nil))
theorem rl19 : ruOk fFS gR19 := by
  intro r hp hO hN hH
  obtain ⟨s0, s1, s2, rfl⟩ := len3 (show r.length = 3 from hN.1)
  have hR := hN.2.1.1
  have hIv : ∀ q ∈ ([(1, .ofNat 0, .ofNat 99), (2, .negSucc 0, .negSucc 0)] : sIv), ∃ x, ([s0, s1, s2] : List Int)[q.1]? = some x ∧ q.2.1 ≤ x ∧ x ≤ q.2.2 := hN.2.1.2
  have b0 : (0 : Int) ≤ s1 ∧ s1 ≤ (99 : Int) := ivX (q := (1, .ofNat 0, .ofNat 99)) (y := s1) (hIv _ (.head _)) rfl
  have b1 : (-1 : Int) ≤ s2 ∧ s2 ≤ (-1 : Int) := ivX (q := (2, .negSucc 0, .negSucc 0)) (y := s2) (hIv _ (.tail _ (.head _))) rfl
  have hRf : ∀ q ∈ ([((43, .ofNat 176, []), (.ofNat 1, []), 114, .ofNat 15, []), ((98, .ofNat 15, []), (.ofNat 9, []), 21, .ofNat 0, [(.ofNat 1, 0)]), ((5, .ofNat 0, [(.ofNat 1, 0)]), (.ofNat 0, [(.ofNat 1, 1)]), 1, .ofNat 0, [(.ofNat 1, 2)])] : List sRf), rfOk [s0, s1, s2] hp q := hH.1
  have g0 : hC hp 176 1 = 15 := by
    have u := rfR0 (xv := (15 : Int)) (c0 := 176) (i0 := 1) (hRf _ (.head _)) (sE_k _ _) (sE_k _ _) (sE_k _ _)
    show hC hp (176) 1 = 15
    omega
  have g1 : s0 = ((rr hp 1 9 : Nat) : Int) := rfR0 (c0 := hC hp 176 1) (hRf _ (.tail _ (.head _))) (by rw [g0]; exact sE_k _ _) (sE_k _ _) (sE_V rfl)
  obtain ⟨i2, e2, l2, h2⟩ := rfI (xv := s2) (iv := s1) (hRf _ (.tail _ (.tail _ (.head _)))) (sEv (sE_V rfl) g1.symm) (sE_V rfl) (sE_V rfl)
  have l2 : i2 < 100 := l2
  have h2 : hI hp (rr hp 1 9) i2 = s2 := h2
  have hFc : ∀ q ∈ ([(105, [(.ofNat 0, [(.ofNat 1, 1)])])] : List sFc), fcOk fFS [s0, s1, s2] hp q := hH.2
  have f0 : ∀ j : Nat, j < 100 → (j : Int) < s1 → hI hp (rr hp 1 9) j = -1 := fcX (ys := [s1]) (hFc _ (.head _)) ⟨sE_V rfl, trivial⟩
  exact poX (.head _) rfl hR (all_nil) (all_nil) (all_cons ⟨[(s1 + 1)], ⟨sEv (y' := ((1 : Int) + ((1 : Int) * s1 + 0))) rfl (by omega), trivial⟩, (show ∀ j : Nat, j < 100 → (j : Int) < (s1 + 1) → hI hp (rr hp 1 9) j = -1 from fl_s f0 h2 (by omega) (by omega) (by omega))⟩ (all_nil))
theorem rl20 : ruOk fFS gR20 := by
  intro r hp hO hN hH
  obtain ⟨s0, s1, rfl⟩ := len2 (show r.length = 2 from hN.1)
  have hR := hN.2.1.1
  have hIv : ∀ q ∈ ([(1, .ofNat 100, .ofNat 100)] : sIv), ∃ x, ([s0, s1] : List Int)[q.1]? = some x ∧ q.2.1 ≤ x ∧ x ≤ q.2.2 := hN.2.1.2
  have b0 : (100 : Int) ≤ s1 ∧ s1 ≤ (100 : Int) := ivX (q := (1, .ofNat 100, .ofNat 100)) (y := s1) (hIv _ (.head _)) rfl
  have hRf : ∀ q ∈ ([((43, .ofNat 176, []), (.ofNat 1, []), 114, .ofNat 15, []), ((98, .ofNat 15, []), (.ofNat 9, []), 21, .ofNat 0, [(.ofNat 1, 0)])] : List sRf), rfOk [s0, s1] hp q := hH.1
  have g0 : hC hp 176 1 = 15 := by
    have u := rfR0 (xv := (15 : Int)) (c0 := 176) (i0 := 1) (hRf _ (.head _)) (sE_k _ _) (sE_k _ _) (sE_k _ _)
    show hC hp (176) 1 = 15
    omega
  have g1 : s0 = ((rr hp 1 9 : Nat) : Int) := rfR0 (c0 := hC hp 176 1) (hRf _ (.tail _ (.head _))) (by rw [g0]; exact sE_k _ _) (sE_k _ _) (sE_V rfl)
  have hFc : ∀ q ∈ ([(105, [(.ofNat 0, [(.ofNat 1, 1)])])] : List sFc), fcOk fFS [s0, s1] hp q := hH.2
  have f0 : ∀ j : Nat, j < 100 → (j : Int) < s1 → hI hp (rr hp 1 9) j = -1 := fcX (ys := [s1]) (hFc _ (.head _)) ⟨sE_V rfl, trivial⟩
  exact poX (.head _) rfl hR (all_nil) (all_nil) (all_cons ⟨[], trivial, (show ∀ j : Nat, j < 100 → hI hp (rr hp 1 9) j = -1 from fun j hj => f0 j hj (by omega))⟩ (all_nil))
theorem rl33 : ruOk fFS gR33 := by
  intro r hp hO hN hH
  obtain ⟨s0, s1, s2, s3, s4, s5, s6, rfl⟩ := len7 (show r.length = 7 from hN.1)
  have hR := hN.2.1.1
  have hIv : ∀ q ∈ ([(0, .negSucc 2147483647, .ofNat 2147483647), (1, .negSucc 2147483647, .ofNat 2147483647), (2, .negSucc 2147483647, .ofNat 2147483647), (3, .negSucc 2147483647, .ofNat 2147483647), (4, .negSucc 2147483647, .ofNat 2147483647), (5, .negSucc 2147483647, .ofNat 2147483647), (6, .negSucc 2147483647, .ofNat 2147483647)] : sIv), ∃ x, ([s0, s1, s2, s3, s4, s5, s6] : List Int)[q.1]? = some x ∧ q.2.1 ≤ x ∧ x ≤ q.2.2 := hN.2.1.2
  have hFc : ∀ q ∈ ([(191, [(.ofNat 0, [(.ofNat 1, 0)]), (.ofNat 0, [(.ofNat 1, 1)]), (.ofNat 0, [(.ofNat 1, 2)]), (.ofNat 0, [(.ofNat 1, 3)])]), (46, [(.ofNat 0, [(.ofNat 1, 0)]), (.ofNat 4, []), (.ofNat 0, [(.ofNat 1, 4)]), (.ofNat 0, [(.ofNat 1, 5)]), (.ofNat 0, [(.ofNat 1, 6)])])] : List sFc), fcOk fFS [s0, s1, s2, s3, s4, s5, s6] hp q := hH.2
  have f0 : SG (XT hp) (nmR hp (xnm hp)) s0 s1 s2 s3 := fcX (ys := [s0, s1, s2, s3]) (hFc _ (.head _)) ⟨sE_V rfl, sE_V rfl, sE_V rfl, sE_V rfl, trivial⟩
  have f1 : TKB (XT hp) s0 (4 : Int) s4 s5 s6 := fcX (ys := [s0, 4, s4, s5, s6]) (hFc _ (.tail _ (.head _))) ⟨sE_V rfl, sE_k _ _, sE_V rfl, sE_V rfl, sE_V rfl, trivial⟩
  exact poX (.head _) rfl hR (all_nil) (all_nil) (all_cons ⟨[1, s4], ⟨sE_k _ _, sE_V rfl, trivial⟩, (show SRS (XT hp) (nmR hp (xnm hp)) (1 : Int) s4 from s_f4 f0 f1)⟩ (all_nil))
theorem rl36 : ruOk fFS gR36 := by
  intro r hp hO hN hH
  obtain ⟨s0, s1, s2, s3, s4, s5, s6, s7, rfl⟩ := len8 (show r.length = 8 from hN.1)
  have hR := hN.2.1.1
  have hIv : ∀ q ∈ ([(0, .negSucc 2147483647, .ofNat 2147483647), (1, .negSucc 2147483647, .ofNat 2147483647), (2, .negSucc 2147483647, .ofNat 2147483647), (3, .negSucc 2147483647, .ofNat 2147483647), (4, .ofNat 0, .ofNat 3), (5, .negSucc 2147483647, .ofNat 2147483647), (6, .negSucc 2147483647, .ofNat 2147483647), (7, .negSucc 2147483647, .ofNat 2147483647)] : sIv), ∃ x, ([s0, s1, s2, s3, s4, s5, s6, s7] : List Int)[q.1]? = some x ∧ q.2.1 ≤ x ∧ x ≤ q.2.2 := hN.2.1.2
  have b4 : (0 : Int) ≤ s4 ∧ s4 ≤ (3 : Int) := ivX (q := (4, .ofNat 0, .ofNat 3)) (y := s4) (hIv _ (.tail _ (.tail _ (.tail _ (.tail _ (.head _)))))) rfl
  have hFc : ∀ q ∈ ([(191, [(.ofNat 0, [(.ofNat 1, 0)]), (.ofNat 0, [(.ofNat 1, 1)]), (.ofNat 0, [(.ofNat 1, 2)]), (.ofNat 0, [(.ofNat 1, 3)])]), (46, [(.ofNat 0, [(.ofNat 1, 0)]), (.ofNat 0, [(.ofNat 1, 4)]), (.ofNat 0, [(.ofNat 1, 5)]), (.ofNat 0, [(.ofNat 1, 6)]), (.ofNat 0, [(.ofNat 1, 7)])])] : List sFc), fcOk fFS [s0, s1, s2, s3, s4, s5, s6, s7] hp q := hH.2
  have f0 : SG (XT hp) (nmR hp (xnm hp)) s0 s1 s2 s3 := fcX (ys := [s0, s1, s2, s3]) (hFc _ (.head _)) ⟨sE_V rfl, sE_V rfl, sE_V rfl, sE_V rfl, trivial⟩
  have f1 : TKB (XT hp) s0 s4 s5 s6 s7 := fcX (ys := [s0, s4, s5, s6, s7]) (hFc _ (.tail _ (.head _))) ⟨sE_V rfl, sE_V rfl, sE_V rfl, sE_V rfl, sE_V rfl, trivial⟩
  exact poX (.head _) rfl hR (all_nil) (all_nil) (all_cons ⟨[s0, s1, s2, s3, s4, s5, s6, s7], ⟨sE_V rfl, sE_V rfl, sE_V rfl, sE_V rfl, sE_V rfl, sE_V rfl, sE_V rfl, sE_V rfl, trivial⟩, (show SHq (XT hp) (nmR hp (xnm hp)) s0 s1 s2 s3 s4 s5 s6 s7 ∧ s4 ≠ 4 from ⟨⟨f0, f1⟩, by omega⟩)⟩ (all_nil))
theorem rl109 : ruOk fFS gR109 := by
  intro r hp hO hN hH
  obtain ⟨s0, s1, s2, s3, s4, s5, s6, s7, rfl⟩ := len8 (show r.length = 8 from hN.1)
  have hR := hN.2.1.1
  have hIv : ∀ q ∈ ([(0, .negSucc 2147483647, .ofNat 2147483647), (1, .ofNat 5, .ofNat 5), (2, .negSucc 2147483647, .ofNat 2147483647), (3, .negSucc 2147483647, .ofNat 2147483647), (4, .ofNat 0, .ofNat 1), (5, .negSucc 2147483647, .ofNat 2147483647), (6, .negSucc 2147483647, .ofNat 2147483647), (7, .negSucc 2147483647, .ofNat 2147483647)] : sIv), ∃ x, ([s0, s1, s2, s3, s4, s5, s6, s7] : List Int)[q.1]? = some x ∧ q.2.1 ≤ x ∧ x ≤ q.2.2 := hN.2.1.2
  have b1 : (5 : Int) ≤ s1 ∧ s1 ≤ (5 : Int) := ivX (q := (1, .ofNat 5, .ofNat 5)) (y := s1) (hIv _ (.tail _ (.head _))) rfl
  have b4 : (0 : Int) ≤ s4 ∧ s4 ≤ (1 : Int) := ivX (q := (4, .ofNat 0, .ofNat 1)) (y := s4) (hIv _ (.tail _ (.tail _ (.tail _ (.tail _ (.head _)))))) rfl
  have hFc : ∀ q ∈ ([(192, [(.ofNat 0, [(.ofNat 1, 0)]), (.ofNat 0, [(.ofNat 1, 1)]), (.ofNat 0, [(.ofNat 1, 2)]), (.ofNat 0, [(.ofNat 1, 3)]), (.ofNat 0, [(.ofNat 1, 4)]), (.ofNat 0, [(.ofNat 1, 5)]), (.ofNat 0, [(.ofNat 1, 6)]), (.ofNat 0, [(.ofNat 1, 7)])])] : List sFc), fcOk fFS [s0, s1, s2, s3, s4, s5, s6, s7] hp q := hH.2
  have f0 : SHq (XT hp) (nmR hp (xnm hp)) s0 s1 s2 s3 s4 s5 s6 s7 ∧ s4 ≠ 4 := fcX (ys := [s0, s1, s2, s3, s4, s5, s6, s7]) (hFc _ (.head _)) ⟨sE_V rfl, sE_V rfl, sE_V rfl, sE_V rfl, sE_V rfl, sE_V rfl, sE_V rfl, sE_V rfl, trivial⟩
  exact poX (.head _) rfl hR (all_nil) (all_nil) (all_cons ⟨[1, s5], ⟨sE_k _ _, sE_V rfl, trivial⟩, (show SRS (XT hp) (nmR hp (xnm hp)) (1 : Int) s5 from s5_f1 f0.1 (by omega) (by omega))⟩ (all_nil))
theorem rl110 : ruOk fFS gR110 := by
  intro r hp hO hN hH
  obtain ⟨s0, s1, s2, s3, s4, s5, s6, s7, rfl⟩ := len8 (show r.length = 8 from hN.1)
  have hR := hN.2.1.1
  have hIv : ∀ q ∈ ([(0, .negSucc 2147483647, .ofNat 2147483647), (1, .ofNat 5, .ofNat 5), (2, .negSucc 2147483647, .ofNat 2147483647), (3, .negSucc 2147483647, .ofNat 2147483647), (4, .ofNat 3, .ofNat 3), (5, .negSucc 2147483647, .ofNat 2147483647), (6, .negSucc 2147483647, .ofNat 2147483647), (7, .negSucc 2147483647, .ofNat 2147483647)] : sIv), ∃ x, ([s0, s1, s2, s3, s4, s5, s6, s7] : List Int)[q.1]? = some x ∧ q.2.1 ≤ x ∧ x ≤ q.2.2 := hN.2.1.2
  have b1 : (5 : Int) ≤ s1 ∧ s1 ≤ (5 : Int) := ivX (q := (1, .ofNat 5, .ofNat 5)) (y := s1) (hIv _ (.tail _ (.head _))) rfl
  have b4 : (3 : Int) ≤ s4 ∧ s4 ≤ (3 : Int) := ivX (q := (4, .ofNat 3, .ofNat 3)) (y := s4) (hIv _ (.tail _ (.tail _ (.tail _ (.tail _ (.head _)))))) rfl
  have hFc : ∀ q ∈ ([(192, [(.ofNat 0, [(.ofNat 1, 0)]), (.ofNat 0, [(.ofNat 1, 1)]), (.ofNat 0, [(.ofNat 1, 2)]), (.ofNat 0, [(.ofNat 1, 3)]), (.ofNat 0, [(.ofNat 1, 4)]), (.ofNat 0, [(.ofNat 1, 5)]), (.ofNat 0, [(.ofNat 1, 6)]), (.ofNat 0, [(.ofNat 1, 7)])])] : List sFc), fcOk fFS [s0, s1, s2, s3, s4, s5, s6, s7] hp q := hH.2
  have f0 : SHq (XT hp) (nmR hp (xnm hp)) s0 s1 s2 s3 s4 s5 s6 s7 ∧ s4 ≠ 4 := fcX (ys := [s0, s1, s2, s3, s4, s5, s6, s7]) (hFc _ (.head _)) ⟨sE_V rfl, sE_V rfl, sE_V rfl, sE_V rfl, sE_V rfl, sE_V rfl, sE_V rfl, sE_V rfl, trivial⟩
  exact poX (.head _) rfl hR (all_nil) (all_nil) (all_cons ⟨[1, s5], ⟨sE_k _ _, sE_V rfl, trivial⟩, (show SRS (XT hp) (nmR hp (xnm hp)) (1 : Int) s5 from s5_f1 f0.1 (by omega) (by omega))⟩ (all_nil))
theorem rl111 : ruOk fFS gR111 := by
  intro r hp hO hN hH
  obtain ⟨s0, s1, s2, s3, s4, s5, s6, s7, s8, s9, rfl⟩ := len10 (show r.length = 10 from hN.1)
  have hR := hN.2.1.1
  have hIv : ∀ q ∈ ([(0, .negSucc 2147483647, .ofNat 2147483647), (1, .negSucc 2147483647, .ofNat 2147483647), (2, .negSucc 2147483647, .ofNat 2147483647), (3, .negSucc 2147483647, .ofNat 2147483647), (4, .ofNat 2, .ofNat 2), (5, .negSucc 2147483647, .ofNat 2147483647), (6, .negSucc 2147483647, .ofNat 2147483647), (7, .negSucc 2147483647, .ofNat 2147483647), (8, .negSucc 2147483647, .ofNat 2147483647), (9, .negSucc 2147483647, .ofNat 2147483647)] : sIv), ∃ x, ([s0, s1, s2, s3, s4, s5, s6, s7, s8, s9] : List Int)[q.1]? = some x ∧ q.2.1 ≤ x ∧ x ≤ q.2.2 := hN.2.1.2
  have b4 : (2 : Int) ≤ s4 ∧ s4 ≤ (2 : Int) := ivX (q := (4, .ofNat 2, .ofNat 2)) (y := s4) (hIv _ (.tail _ (.tail _ (.tail _ (.tail _ (.head _)))))) rfl
  have b7 : (-2147483648 : Int) ≤ s7 ∧ s7 ≤ (2147483647 : Int) := ivX (q := (7, .negSucc 2147483647, .ofNat 2147483647)) (y := s7) (hIv _ (.tail _ (.tail _ (.tail _ (.tail _ (.tail _ (.tail _ (.tail _ (.head _))))))))) rfl
  have hFc : ∀ q ∈ ([(192, [(.ofNat 0, [(.ofNat 1, 0)]), (.ofNat 0, [(.ofNat 1, 1)]), (.ofNat 0, [(.ofNat 1, 2)]), (.ofNat 0, [(.ofNat 1, 3)]), (.ofNat 0, [(.ofNat 1, 4)]), (.ofNat 0, [(.ofNat 1, 5)]), (.ofNat 0, [(.ofNat 1, 6)]), (.ofNat 0, [(.ofNat 1, 7)])]), (202, [(.ofNat 0, [(.ofNat 1, 8)]), (.ofNat 0, [(.ofNat 1, 9)])])] : List sFc), fcOk fFS [s0, s1, s2, s3, s4, s5, s6, s7, s8, s9] hp q := hH.2
  have f0 : SHq (XT hp) (nmR hp (xnm hp)) s0 s1 s2 s3 s4 s5 s6 s7 ∧ s4 ≠ 4 := fcX (ys := [s0, s1, s2, s3, s4, s5, s6, s7]) (hFc _ (.head _)) ⟨sE_V rfl, sE_V rfl, sE_V rfl, sE_V rfl, sE_V rfl, sE_V rfl, sE_V rfl, sE_V rfl, trivial⟩
  have f1 : s8 ≤ 0 ∧ 99 ≤ s9 := fcX (ys := [s8, s9]) (hFc _ (.tail _ (.head _))) ⟨sE_V rfl, sE_V rfl, trivial⟩
  have u := sh_v2 (XT_ok hO) f0.1 (by omega)
  have u2 := f1
  exact poX (.head _) rfl hR (all_cons (ivO (y := s7) rfl (show (0 : Int) ≤ s7 by omega) (show s7 ≤ (99 : Int) by omega)) (all_nil)) (all_cons ⟨((0 : Int) + ((1 : Int) * s8 + 0)), rfl, (show ((0 : Int) + ((1 : Int) * s8 + 0)) ≤ 0 by omega)⟩ (all_cons ⟨((99 : Int) + ((-1 : Int) * s9 + 0)), rfl, (show ((99 : Int) + ((-1 : Int) * s9 + 0)) ≤ 0 by omega)⟩ (all_nil))) (all_nil)
theorem rl117 : ruOk fFS gR117 := by
  intro r hp hO hN hH
  obtain ⟨s0, s1, s2, s3, rfl⟩ := len4 (show r.length = 4 from hN.1)
  have hR := hN.2.1.1
  have hIv : ∀ q ∈ ([(0, .negSucc 2147483647, .ofNat 2147483647), (1, .ofNat 0, .ofNat 7), (3, .negSucc 2147483647, .ofNat 2147483647)] : sIv), ∃ x, ([s0, s1, s2, s3] : List Int)[q.1]? = some x ∧ q.2.1 ≤ x ∧ x ≤ q.2.2 := hN.2.1.2
  have b1 : (0 : Int) ≤ s1 ∧ s1 ≤ (7 : Int) := ivX (q := (1, .ofNat 0, .ofNat 7)) (y := s1) (hIv _ (.tail _ (.head _))) rfl
  have hRf : ∀ q ∈ ([((43, .ofNat 176, []), (.ofNat 1, []), 114, .ofNat 15, []), ((98, .ofNat 15, []), (.ofNat 16, []), 28, .ofNat 0, [(.ofNat 1, 2)]), ((12, .ofNat 0, [(.ofNat 1, 2)]), (.ofNat 0, [(.ofNat 1, 1)]), 1, .ofNat 0, [(.ofNat 1, 3)])] : List sRf), rfOk [s0, s1, s2, s3] hp q := hH.1
  have g0 : hC hp 176 1 = 15 := by
    have u := rfR0 (xv := (15 : Int)) (c0 := 176) (i0 := 1) (hRf _ (.head _)) (sE_k _ _) (sE_k _ _) (sE_k _ _)
    show hC hp (176) 1 = 15
    omega
  have g1 : s2 = ((rr hp 1 16 : Nat) : Int) := rfR0 (c0 := hC hp 176 1) (hRf _ (.tail _ (.head _))) (by rw [g0]; exact sE_k _ _) (sE_k _ _) (sE_V rfl)
  obtain ⟨i2, e2, l2, h2⟩ := rfI (xv := s3) (iv := s1) (hRf _ (.tail _ (.tail _ (.head _)))) (sEv (sE_V rfl) g1.symm) (sE_V rfl) (sE_V rfl)
  have l2 : i2 < 8 := l2
  have h2 : hI hp (rr hp 1 16) i2 = s3 := h2
  have y : (((1 : Int) + ((-1 : Int) * s0 + ((1 : Int) * s3 + 0))) ≤ 0) ∨ (((0 : Int) + ((-1 : Int) * s0 + ((1 : Int) * s3 + 0))) ≤ 0 ∧ ((0 : Int) + ((1 : Int) * s0 + ((-1 : Int) * s3 + 0))) ≤ 0) ∨ (((1 : Int) + ((1 : Int) * s0 + ((-1 : Int) * s3 + 0))) ≤ 0) := by omega
  rcases y with y | y | y
  · exact poX (.head _) rfl hR (all_nil) (all_cons ⟨((1 : Int) + ((-1 : Int) * s0 + ((1 : Int) * s3 + 0))), rfl, (show ((1 : Int) + ((-1 : Int) * s0 + ((1 : Int) * s3 + 0))) ≤ 0 by omega)⟩ (all_nil)) (all_nil)
  · exact poX (.tail _ (.head _)) rfl hR (all_nil) (all_cons ⟨((0 : Int) + ((-1 : Int) * s0 + ((1 : Int) * s3 + 0))), rfl, (show ((0 : Int) + ((-1 : Int) * s0 + ((1 : Int) * s3 + 0))) ≤ 0 by omega)⟩ (all_cons ⟨((0 : Int) + ((1 : Int) * s0 + ((-1 : Int) * s3 + 0))), rfl, (show ((0 : Int) + ((1 : Int) * s0 + ((-1 : Int) * s3 + 0))) ≤ 0 by omega)⟩ (all_nil))) (all_nil)
  · exact poX (.tail _ (.tail _ (.head _))) rfl hR (all_nil) (all_cons ⟨((1 : Int) + ((1 : Int) * s0 + ((-1 : Int) * s3 + 0))), rfl, (show ((1 : Int) + ((1 : Int) * s0 + ((-1 : Int) * s3 + 0))) ≤ 0 by omega)⟩ (all_nil)) (all_nil)
theorem rl118 : ruOk fFS gR118 := by
  intro r hp hO hN hH
  obtain ⟨s0, s1, s2, s3, rfl⟩ := len4 (show r.length = 4 from hN.1)
  have hR := hN.2.1.1
  have hIv : ∀ q ∈ ([(0, .negSucc 2147483647, .ofNat 2147483647), (1, .ofNat 0, .ofNat 7), (3, .negSucc 2147483647, .ofNat 2147483647)] : sIv), ∃ x, ([s0, s1, s2, s3] : List Int)[q.1]? = some x ∧ q.2.1 ≤ x ∧ x ≤ q.2.2 := hN.2.1.2
  have b1 : (0 : Int) ≤ s1 ∧ s1 ≤ (7 : Int) := ivX (q := (1, .ofNat 0, .ofNat 7)) (y := s1) (hIv _ (.tail _ (.head _))) rfl
  have hRf : ∀ q ∈ ([((43, .ofNat 176, []), (.ofNat 1, []), 114, .ofNat 15, []), ((98, .ofNat 15, []), (.ofNat 17, []), 29, .ofNat 0, [(.ofNat 1, 2)]), ((13, .ofNat 0, [(.ofNat 1, 2)]), (.ofNat 0, [(.ofNat 1, 1)]), 1, .ofNat 0, [(.ofNat 1, 3)])] : List sRf), rfOk [s0, s1, s2, s3] hp q := hH.1
  have g0 : hC hp 176 1 = 15 := by
    have u := rfR0 (xv := (15 : Int)) (c0 := 176) (i0 := 1) (hRf _ (.head _)) (sE_k _ _) (sE_k _ _) (sE_k _ _)
    show hC hp (176) 1 = 15
    omega
  have g1 : s2 = ((rr hp 1 17 : Nat) : Int) := rfR0 (c0 := hC hp 176 1) (hRf _ (.tail _ (.head _))) (by rw [g0]; exact sE_k _ _) (sE_k _ _) (sE_V rfl)
  obtain ⟨i2, e2, l2, h2⟩ := rfI (xv := s3) (iv := s1) (hRf _ (.tail _ (.tail _ (.head _)))) (sEv (sE_V rfl) g1.symm) (sE_V rfl) (sE_V rfl)
  have l2 : i2 < 8 := l2
  have h2 : hI hp (rr hp 1 17) i2 = s3 := h2
  have y : (((1 : Int) + ((-1 : Int) * s0 + ((1 : Int) * s3 + 0))) ≤ 0) ∨ (((0 : Int) + ((-1 : Int) * s0 + ((1 : Int) * s3 + 0))) ≤ 0 ∧ ((0 : Int) + ((1 : Int) * s0 + ((-1 : Int) * s3 + 0))) ≤ 0) ∨ (((1 : Int) + ((1 : Int) * s0 + ((-1 : Int) * s3 + 0))) ≤ 0) := by omega
  rcases y with y | y | y
  · exact poX (.head _) rfl hR (all_nil) (all_cons ⟨((1 : Int) + ((-1 : Int) * s0 + ((1 : Int) * s3 + 0))), rfl, (show ((1 : Int) + ((-1 : Int) * s0 + ((1 : Int) * s3 + 0))) ≤ 0 by omega)⟩ (all_nil)) (all_nil)
  · exact poX (.tail _ (.head _)) rfl hR (all_nil) (all_cons ⟨((0 : Int) + ((-1 : Int) * s0 + ((1 : Int) * s3 + 0))), rfl, (show ((0 : Int) + ((-1 : Int) * s0 + ((1 : Int) * s3 + 0))) ≤ 0 by omega)⟩ (all_cons ⟨((0 : Int) + ((1 : Int) * s0 + ((-1 : Int) * s3 + 0))), rfl, (show ((0 : Int) + ((1 : Int) * s0 + ((-1 : Int) * s3 + 0))) ≤ 0 by omega)⟩ (all_nil))) (all_nil)
  · exact poX (.tail _ (.tail _ (.head _))) rfl hR (all_nil) (all_cons ⟨((1 : Int) + ((1 : Int) * s0 + ((-1 : Int) * s3 + 0))), rfl, (show ((1 : Int) + ((1 : Int) * s0 + ((-1 : Int) * s3 + 0))) ≤ 0 by omega)⟩ (all_nil)) (all_nil)
theorem rl119 : ruOk fFS gR119 := by
  intro r hp hO hN hH
  obtain ⟨s0, s1, s2, s3, s4, s5, s6, s7, s8, rfl⟩ := len9 (show r.length = 9 from hN.1)
  have hR := hN.2.1.1
  have hIv : ∀ q ∈ ([(0, .negSucc 2147483647, .ofNat 2147483647), (1, .negSucc 2147483647, .ofNat 2147483647), (2, .ofNat 0, .ofNat 7), (5, .negSucc 2147483647, .ofNat 2147483647), (6, .negSucc 2147483647, .ofNat 2147483647), (7, .negSucc 2147483647, .ofNat 2147483647), (8, .negSucc 2147483647, .ofNat 2147483647)] : sIv), ∃ x, ([s0, s1, s2, s3, s4, s5, s6, s7, s8] : List Int)[q.1]? = some x ∧ q.2.1 ≤ x ∧ x ≤ q.2.2 := hN.2.1.2
  have b2 : (0 : Int) ≤ s2 ∧ s2 ≤ (7 : Int) := ivX (q := (2, .ofNat 0, .ofNat 7)) (y := s2) (hIv _ (.tail _ (.tail _ (.head _)))) rfl
  have hCs : ∀ c ∈ ([(.ofNat 1, [(.negSucc 0, 0), (.ofNat 1, 5)])] : List sLn), ∃ x, sE [s0, s1, s2, s3, s4, s5, s6, s7, s8] c = some x ∧ x ≤ 0 := hN.2.2.1
  have c0 : ((1 : Int) + ((-1 : Int) * s0 + ((1 : Int) * s5 + 0))) ≤ 0 := csX (hCs _ (.head _)) rfl
  have hRf : ∀ q ∈ ([((43, .ofNat 176, []), (.ofNat 1, []), 114, .ofNat 15, []), ((98, .ofNat 15, []), (.ofNat 16, []), 28, .ofNat 0, [(.ofNat 1, 3)]), ((98, .ofNat 15, []), (.ofNat 17, []), 29, .ofNat 0, [(.ofNat 1, 4)]), ((12, .ofNat 0, [(.ofNat 1, 3)]), (.ofNat 0, [(.ofNat 1, 2)]), 1, .ofNat 0, [(.ofNat 1, 5)]), ((13, .ofNat 0, [(.ofNat 1, 4)]), (.ofNat 0, [(.ofNat 1, 2)]), 1, .ofNat 0, [(.ofNat 1, 6)]), ((98, .ofNat 15, []), (.ofNat 5, []), 1, .ofNat 0, [(.ofNat 1, 7)])] : List sRf), rfOk [s0, s1, s2, s3, s4, s5, s6, s7, s8] hp q := hH.1
  have g0 : hC hp 176 1 = 15 := by
    have u := rfR0 (xv := (15 : Int)) (c0 := 176) (i0 := 1) (hRf _ (.head _)) (sE_k _ _) (sE_k _ _) (sE_k _ _)
    show hC hp (176) 1 = 15
    omega
  have g1 : s3 = ((rr hp 1 16 : Nat) : Int) := rfR0 (c0 := hC hp 176 1) (hRf _ (.tail _ (.head _))) (by rw [g0]; exact sE_k _ _) (sE_k _ _) (sE_V rfl)
  have g2 : s4 = ((rr hp 1 17 : Nat) : Int) := rfR0 (c0 := hC hp 176 1) (hRf _ (.tail _ (.tail _ (.head _)))) (by rw [g0]; exact sE_k _ _) (sE_k _ _) (sE_V rfl)
  obtain ⟨i3, e3, l3, h3⟩ := rfI (xv := s5) (iv := s2) (hRf _ (.tail _ (.tail _ (.tail _ (.head _))))) (sEv (sE_V rfl) g1.symm) (sE_V rfl) (sE_V rfl)
  have l3 : i3 < 8 := l3
  have h3 : hI hp (rr hp 1 16) i3 = s5 := h3
  obtain ⟨i4, e4, l4, h4⟩ := rfI (xv := s6) (iv := s2) (hRf _ (.tail _ (.tail _ (.tail _ (.tail _ (.head _)))))) (sEv (sE_V rfl) g2.symm) (sE_V rfl) (sE_V rfl)
  have l4 : i4 < 8 := l4
  have h4 : hI hp (rr hp 1 17) i4 = s6 := h4
  have h5 : hI hp (hC hp 176 1) 5 = s7 := rfI0 (c0 := hC hp 176 1) (hRf _ (.tail _ (.tail _ (.tail _ (.tail _ (.tail _ (.head _))))))) (by rw [g0]; exact sE_k _ _) (sE_k _ _) (sE_V rfl)
  have hFc : ∀ q ∈ ([(95, [(.ofNat 0, [(.ofNat 1, 2)]), (.ofNat 0, [(.ofNat 1, 8)]), (.ofNat 0, [(.ofNat 1, 0)]), (.ofNat 0, [(.ofNat 1, 1)])])] : List sFc), fcOk fFS [s0, s1, s2, s3, s4, s5, s6, s7, s8] hp q := hH.2
  have f0 : ∀ i : Nat, i < 8 → (i : Int) < s2 → ¬ (hI hp (rr hp 1 16) i = s0 ∧ hI hp (rr hp 1 17) i = s1) := fcX (ys := [s2, s8, s0, s1]) (hFc _ (.head _)) ⟨sE_V rfl, sE_V rfl, sE_V rfl, sE_V rfl, trivial⟩
  exact poX (.head _) rfl hR (all_nil) (all_nil) (all_cons ⟨[(s2 + 1), s8, s0, s1], ⟨sEv (y' := ((1 : Int) + ((1 : Int) * s2 + 0))) rfl (by omega), sE_V rfl, sE_V rfl, sE_V rfl, trivial⟩, (show ∀ i : Nat, i < 8 → (i : Int) < (s2 + 1) → ¬ (hI hp (rr hp 1 16) i = s0 ∧ hI hp (rr hp 1 17) i = s1) from nn_s f0 h3 h4 (by omega) (by omega) (by omega) (by omega))⟩ (all_nil))
theorem rl120 : ruOk fFS gR120 := by
  intro r hp hO hN hH
  obtain ⟨s0, s1, s2, s3, s4, s5, s6, s7, s8, rfl⟩ := len9 (show r.length = 9 from hN.1)
  have hR := hN.2.1.1
  have hIv : ∀ q ∈ ([(0, .negSucc 2147483647, .ofNat 2147483647), (1, .negSucc 2147483647, .ofNat 2147483647), (2, .ofNat 0, .ofNat 7), (5, .negSucc 2147483647, .ofNat 2147483647), (6, .negSucc 2147483647, .ofNat 2147483647), (7, .negSucc 2147483647, .ofNat 2147483647), (8, .negSucc 2147483647, .ofNat 2147483647)] : sIv), ∃ x, ([s0, s1, s2, s3, s4, s5, s6, s7, s8] : List Int)[q.1]? = some x ∧ q.2.1 ≤ x ∧ x ≤ q.2.2 := hN.2.1.2
  have b2 : (0 : Int) ≤ s2 ∧ s2 ≤ (7 : Int) := ivX (q := (2, .ofNat 0, .ofNat 7)) (y := s2) (hIv _ (.tail _ (.tail _ (.head _)))) rfl
  have hCs : ∀ c ∈ ([(.ofNat 1, [(.ofNat 1, 0), (.negSucc 0, 5)])] : List sLn), ∃ x, sE [s0, s1, s2, s3, s4, s5, s6, s7, s8] c = some x ∧ x ≤ 0 := hN.2.2.1
  have c0 : ((1 : Int) + ((1 : Int) * s0 + ((-1 : Int) * s5 + 0))) ≤ 0 := csX (hCs _ (.head _)) rfl
  have hRf : ∀ q ∈ ([((43, .ofNat 176, []), (.ofNat 1, []), 114, .ofNat 15, []), ((98, .ofNat 15, []), (.ofNat 16, []), 28, .ofNat 0, [(.ofNat 1, 3)]), ((98, .ofNat 15, []), (.ofNat 17, []), 29, .ofNat 0, [(.ofNat 1, 4)]), ((12, .ofNat 0, [(.ofNat 1, 3)]), (.ofNat 0, [(.ofNat 1, 2)]), 1, .ofNat 0, [(.ofNat 1, 5)]), ((13, .ofNat 0, [(.ofNat 1, 4)]), (.ofNat 0, [(.ofNat 1, 2)]), 1, .ofNat 0, [(.ofNat 1, 6)]), ((98, .ofNat 15, []), (.ofNat 5, []), 1, .ofNat 0, [(.ofNat 1, 7)])] : List sRf), rfOk [s0, s1, s2, s3, s4, s5, s6, s7, s8] hp q := hH.1
  have g0 : hC hp 176 1 = 15 := by
    have u := rfR0 (xv := (15 : Int)) (c0 := 176) (i0 := 1) (hRf _ (.head _)) (sE_k _ _) (sE_k _ _) (sE_k _ _)
    show hC hp (176) 1 = 15
    omega
  have g1 : s3 = ((rr hp 1 16 : Nat) : Int) := rfR0 (c0 := hC hp 176 1) (hRf _ (.tail _ (.head _))) (by rw [g0]; exact sE_k _ _) (sE_k _ _) (sE_V rfl)
  have g2 : s4 = ((rr hp 1 17 : Nat) : Int) := rfR0 (c0 := hC hp 176 1) (hRf _ (.tail _ (.tail _ (.head _)))) (by rw [g0]; exact sE_k _ _) (sE_k _ _) (sE_V rfl)
  obtain ⟨i3, e3, l3, h3⟩ := rfI (xv := s5) (iv := s2) (hRf _ (.tail _ (.tail _ (.tail _ (.head _))))) (sEv (sE_V rfl) g1.symm) (sE_V rfl) (sE_V rfl)
  have l3 : i3 < 8 := l3
  have h3 : hI hp (rr hp 1 16) i3 = s5 := h3
  obtain ⟨i4, e4, l4, h4⟩ := rfI (xv := s6) (iv := s2) (hRf _ (.tail _ (.tail _ (.tail _ (.tail _ (.head _)))))) (sEv (sE_V rfl) g2.symm) (sE_V rfl) (sE_V rfl)
  have l4 : i4 < 8 := l4
  have h4 : hI hp (rr hp 1 17) i4 = s6 := h4
  have h5 : hI hp (hC hp 176 1) 5 = s7 := rfI0 (c0 := hC hp 176 1) (hRf _ (.tail _ (.tail _ (.tail _ (.tail _ (.tail _ (.head _))))))) (by rw [g0]; exact sE_k _ _) (sE_k _ _) (sE_V rfl)
  have hFc : ∀ q ∈ ([(95, [(.ofNat 0, [(.ofNat 1, 2)]), (.ofNat 0, [(.ofNat 1, 8)]), (.ofNat 0, [(.ofNat 1, 0)]), (.ofNat 0, [(.ofNat 1, 1)])])] : List sFc), fcOk fFS [s0, s1, s2, s3, s4, s5, s6, s7, s8] hp q := hH.2
  have f0 : ∀ i : Nat, i < 8 → (i : Int) < s2 → ¬ (hI hp (rr hp 1 16) i = s0 ∧ hI hp (rr hp 1 17) i = s1) := fcX (ys := [s2, s8, s0, s1]) (hFc _ (.head _)) ⟨sE_V rfl, sE_V rfl, sE_V rfl, sE_V rfl, trivial⟩
  exact poX (.head _) rfl hR (all_nil) (all_nil) (all_cons ⟨[(s2 + 1), s8, s0, s1], ⟨sEv (y' := ((1 : Int) + ((1 : Int) * s2 + 0))) rfl (by omega), sE_V rfl, sE_V rfl, sE_V rfl, trivial⟩, (show ∀ i : Nat, i < 8 → (i : Int) < (s2 + 1) → ¬ (hI hp (rr hp 1 16) i = s0 ∧ hI hp (rr hp 1 17) i = s1) from nn_s f0 h3 h4 (by omega) (by omega) (by omega) (by omega))⟩ (all_nil))
theorem rl121 : ruOk fFS gR121 := by
  intro r hp hO hN hH
  obtain ⟨s0, s1, s2, s3, s4, s5, s6, s7, s8, rfl⟩ := len9 (show r.length = 9 from hN.1)
  have hR := hN.2.1.1
  have hIv : ∀ q ∈ ([(0, .negSucc 2147483647, .ofNat 2147483647), (1, .negSucc 2147483647, .ofNat 2147483647), (2, .ofNat 0, .ofNat 7), (5, .negSucc 2147483647, .ofNat 2147483647), (6, .negSucc 2147483647, .ofNat 2147483647), (7, .negSucc 2147483647, .ofNat 2147483647), (8, .negSucc 2147483647, .ofNat 2147483647)] : sIv), ∃ x, ([s0, s1, s2, s3, s4, s5, s6, s7, s8] : List Int)[q.1]? = some x ∧ q.2.1 ≤ x ∧ x ≤ q.2.2 := hN.2.1.2
  have b2 : (0 : Int) ≤ s2 ∧ s2 ≤ (7 : Int) := ivX (q := (2, .ofNat 0, .ofNat 7)) (y := s2) (hIv _ (.tail _ (.tail _ (.head _)))) rfl
  have hCs : ∀ c ∈ ([(.ofNat 1, [(.negSucc 0, 1), (.ofNat 1, 6)])] : List sLn), ∃ x, sE [s0, s1, s2, s3, s4, s5, s6, s7, s8] c = some x ∧ x ≤ 0 := hN.2.2.1
  have c0 : ((1 : Int) + ((-1 : Int) * s1 + ((1 : Int) * s6 + 0))) ≤ 0 := csX (hCs _ (.head _)) rfl
  have hRf : ∀ q ∈ ([((43, .ofNat 176, []), (.ofNat 1, []), 114, .ofNat 15, []), ((98, .ofNat 15, []), (.ofNat 16, []), 28, .ofNat 0, [(.ofNat 1, 3)]), ((98, .ofNat 15, []), (.ofNat 17, []), 29, .ofNat 0, [(.ofNat 1, 4)]), ((12, .ofNat 0, [(.ofNat 1, 3)]), (.ofNat 0, [(.ofNat 1, 2)]), 1, .ofNat 0, [(.ofNat 1, 5)]), ((13, .ofNat 0, [(.ofNat 1, 4)]), (.ofNat 0, [(.ofNat 1, 2)]), 1, .ofNat 0, [(.ofNat 1, 6)]), ((98, .ofNat 15, []), (.ofNat 5, []), 1, .ofNat 0, [(.ofNat 1, 7)])] : List sRf), rfOk [s0, s1, s2, s3, s4, s5, s6, s7, s8] hp q := hH.1
  have g0 : hC hp 176 1 = 15 := by
    have u := rfR0 (xv := (15 : Int)) (c0 := 176) (i0 := 1) (hRf _ (.head _)) (sE_k _ _) (sE_k _ _) (sE_k _ _)
    show hC hp (176) 1 = 15
    omega
  have g1 : s3 = ((rr hp 1 16 : Nat) : Int) := rfR0 (c0 := hC hp 176 1) (hRf _ (.tail _ (.head _))) (by rw [g0]; exact sE_k _ _) (sE_k _ _) (sE_V rfl)
  have g2 : s4 = ((rr hp 1 17 : Nat) : Int) := rfR0 (c0 := hC hp 176 1) (hRf _ (.tail _ (.tail _ (.head _)))) (by rw [g0]; exact sE_k _ _) (sE_k _ _) (sE_V rfl)
  obtain ⟨i3, e3, l3, h3⟩ := rfI (xv := s5) (iv := s2) (hRf _ (.tail _ (.tail _ (.tail _ (.head _))))) (sEv (sE_V rfl) g1.symm) (sE_V rfl) (sE_V rfl)
  have l3 : i3 < 8 := l3
  have h3 : hI hp (rr hp 1 16) i3 = s5 := h3
  obtain ⟨i4, e4, l4, h4⟩ := rfI (xv := s6) (iv := s2) (hRf _ (.tail _ (.tail _ (.tail _ (.tail _ (.head _)))))) (sEv (sE_V rfl) g2.symm) (sE_V rfl) (sE_V rfl)
  have l4 : i4 < 8 := l4
  have h4 : hI hp (rr hp 1 17) i4 = s6 := h4
  have h5 : hI hp (hC hp 176 1) 5 = s7 := rfI0 (c0 := hC hp 176 1) (hRf _ (.tail _ (.tail _ (.tail _ (.tail _ (.tail _ (.head _))))))) (by rw [g0]; exact sE_k _ _) (sE_k _ _) (sE_V rfl)
  have hFc : ∀ q ∈ ([(95, [(.ofNat 0, [(.ofNat 1, 2)]), (.ofNat 0, [(.ofNat 1, 8)]), (.ofNat 0, [(.ofNat 1, 0)]), (.ofNat 0, [(.ofNat 1, 1)])])] : List sFc), fcOk fFS [s0, s1, s2, s3, s4, s5, s6, s7, s8] hp q := hH.2
  have f0 : ∀ i : Nat, i < 8 → (i : Int) < s2 → ¬ (hI hp (rr hp 1 16) i = s0 ∧ hI hp (rr hp 1 17) i = s1) := fcX (ys := [s2, s8, s0, s1]) (hFc _ (.head _)) ⟨sE_V rfl, sE_V rfl, sE_V rfl, sE_V rfl, trivial⟩
  exact poX (.head _) rfl hR (all_nil) (all_nil) (all_cons ⟨[(s2 + 1), s8, s0, s1], ⟨sEv (y' := ((1 : Int) + ((1 : Int) * s2 + 0))) rfl (by omega), sE_V rfl, sE_V rfl, sE_V rfl, trivial⟩, (show ∀ i : Nat, i < 8 → (i : Int) < (s2 + 1) → ¬ (hI hp (rr hp 1 16) i = s0 ∧ hI hp (rr hp 1 17) i = s1) from nn_s f0 h3 h4 (by omega) (by omega) (by omega) (by omega))⟩ (all_nil))
theorem rl122 : ruOk fFS gR122 := by
  intro r hp hO hN hH
  obtain ⟨s0, s1, s2, s3, s4, s5, s6, s7, s8, rfl⟩ := len9 (show r.length = 9 from hN.1)
  have hR := hN.2.1.1
  have hIv : ∀ q ∈ ([(0, .negSucc 2147483647, .ofNat 2147483647), (1, .negSucc 2147483647, .ofNat 2147483647), (2, .ofNat 0, .ofNat 7), (5, .negSucc 2147483647, .ofNat 2147483647), (6, .negSucc 2147483647, .ofNat 2147483647), (7, .negSucc 2147483647, .ofNat 2147483647), (8, .negSucc 2147483647, .ofNat 2147483647)] : sIv), ∃ x, ([s0, s1, s2, s3, s4, s5, s6, s7, s8] : List Int)[q.1]? = some x ∧ q.2.1 ≤ x ∧ x ≤ q.2.2 := hN.2.1.2
  have b2 : (0 : Int) ≤ s2 ∧ s2 ≤ (7 : Int) := ivX (q := (2, .ofNat 0, .ofNat 7)) (y := s2) (hIv _ (.tail _ (.tail _ (.head _)))) rfl
  have hCs : ∀ c ∈ ([(.ofNat 1, [(.ofNat 1, 1), (.negSucc 0, 6)])] : List sLn), ∃ x, sE [s0, s1, s2, s3, s4, s5, s6, s7, s8] c = some x ∧ x ≤ 0 := hN.2.2.1
  have c0 : ((1 : Int) + ((1 : Int) * s1 + ((-1 : Int) * s6 + 0))) ≤ 0 := csX (hCs _ (.head _)) rfl
  have hRf : ∀ q ∈ ([((43, .ofNat 176, []), (.ofNat 1, []), 114, .ofNat 15, []), ((98, .ofNat 15, []), (.ofNat 16, []), 28, .ofNat 0, [(.ofNat 1, 3)]), ((98, .ofNat 15, []), (.ofNat 17, []), 29, .ofNat 0, [(.ofNat 1, 4)]), ((12, .ofNat 0, [(.ofNat 1, 3)]), (.ofNat 0, [(.ofNat 1, 2)]), 1, .ofNat 0, [(.ofNat 1, 5)]), ((13, .ofNat 0, [(.ofNat 1, 4)]), (.ofNat 0, [(.ofNat 1, 2)]), 1, .ofNat 0, [(.ofNat 1, 6)]), ((98, .ofNat 15, []), (.ofNat 5, []), 1, .ofNat 0, [(.ofNat 1, 7)])] : List sRf), rfOk [s0, s1, s2, s3, s4, s5, s6, s7, s8] hp q := hH.1
  have g0 : hC hp 176 1 = 15 := by
    have u := rfR0 (xv := (15 : Int)) (c0 := 176) (i0 := 1) (hRf _ (.head _)) (sE_k _ _) (sE_k _ _) (sE_k _ _)
    show hC hp (176) 1 = 15
    omega
  have g1 : s3 = ((rr hp 1 16 : Nat) : Int) := rfR0 (c0 := hC hp 176 1) (hRf _ (.tail _ (.head _))) (by rw [g0]; exact sE_k _ _) (sE_k _ _) (sE_V rfl)
  have g2 : s4 = ((rr hp 1 17 : Nat) : Int) := rfR0 (c0 := hC hp 176 1) (hRf _ (.tail _ (.tail _ (.head _)))) (by rw [g0]; exact sE_k _ _) (sE_k _ _) (sE_V rfl)
  obtain ⟨i3, e3, l3, h3⟩ := rfI (xv := s5) (iv := s2) (hRf _ (.tail _ (.tail _ (.tail _ (.head _))))) (sEv (sE_V rfl) g1.symm) (sE_V rfl) (sE_V rfl)
  have l3 : i3 < 8 := l3
  have h3 : hI hp (rr hp 1 16) i3 = s5 := h3
  obtain ⟨i4, e4, l4, h4⟩ := rfI (xv := s6) (iv := s2) (hRf _ (.tail _ (.tail _ (.tail _ (.tail _ (.head _)))))) (sEv (sE_V rfl) g2.symm) (sE_V rfl) (sE_V rfl)
  have l4 : i4 < 8 := l4
  have h4 : hI hp (rr hp 1 17) i4 = s6 := h4
  have h5 : hI hp (hC hp 176 1) 5 = s7 := rfI0 (c0 := hC hp 176 1) (hRf _ (.tail _ (.tail _ (.tail _ (.tail _ (.tail _ (.head _))))))) (by rw [g0]; exact sE_k _ _) (sE_k _ _) (sE_V rfl)
  have hFc : ∀ q ∈ ([(95, [(.ofNat 0, [(.ofNat 1, 2)]), (.ofNat 0, [(.ofNat 1, 8)]), (.ofNat 0, [(.ofNat 1, 0)]), (.ofNat 0, [(.ofNat 1, 1)])])] : List sFc), fcOk fFS [s0, s1, s2, s3, s4, s5, s6, s7, s8] hp q := hH.2
  have f0 : ∀ i : Nat, i < 8 → (i : Int) < s2 → ¬ (hI hp (rr hp 1 16) i = s0 ∧ hI hp (rr hp 1 17) i = s1) := fcX (ys := [s2, s8, s0, s1]) (hFc _ (.head _)) ⟨sE_V rfl, sE_V rfl, sE_V rfl, sE_V rfl, trivial⟩
  exact poX (.head _) rfl hR (all_nil) (all_nil) (all_cons ⟨[(s2 + 1), s8, s0, s1], ⟨sEv (y' := ((1 : Int) + ((1 : Int) * s2 + 0))) rfl (by omega), sE_V rfl, sE_V rfl, sE_V rfl, trivial⟩, (show ∀ i : Nat, i < 8 → (i : Int) < (s2 + 1) → ¬ (hI hp (rr hp 1 16) i = s0 ∧ hI hp (rr hp 1 17) i = s1) from nn_s f0 h3 h4 (by omega) (by omega) (by omega) (by omega))⟩ (all_nil))
theorem rl123 : ruOk fFS gR123 := by
  intro r hp hO hN hH
  obtain ⟨s0, s1, s2, s3, s4, s5, s6, s7, s8, rfl⟩ := len9 (show r.length = 9 from hN.1)
  have hR := hN.2.1.1
  have hIv : ∀ q ∈ ([(0, .negSucc 2147483647, .ofNat 2147483647), (1, .negSucc 2147483647, .ofNat 2147483647), (2, .ofNat 0, .ofNat 7), (5, .negSucc 2147483647, .ofNat 2147483647), (6, .negSucc 2147483647, .ofNat 2147483647), (7, .negSucc 2147483647, .ofNat 2147483647), (8, .negSucc 2147483647, .ofNat 2147483647)] : sIv), ∃ x, ([s0, s1, s2, s3, s4, s5, s6, s7, s8] : List Int)[q.1]? = some x ∧ q.2.1 ≤ x ∧ x ≤ q.2.2 := hN.2.1.2
  have b2 : (0 : Int) ≤ s2 ∧ s2 ≤ (7 : Int) := ivX (q := (2, .ofNat 0, .ofNat 7)) (y := s2) (hIv _ (.tail _ (.tail _ (.head _)))) rfl
  have hCs : ∀ c ∈ ([(.ofNat 1, [(.ofNat 1, 2), (.negSucc 0, 7)]), (.ofNat 0, [(.negSucc 0, 0), (.ofNat 1, 5)]), (.ofNat 0, [(.ofNat 1, 0), (.negSucc 0, 5)]), (.ofNat 0, [(.negSucc 0, 1), (.ofNat 1, 6)]), (.ofNat 0, [(.ofNat 1, 1), (.negSucc 0, 6)])] : List sLn), ∃ x, sE [s0, s1, s2, s3, s4, s5, s6, s7, s8] c = some x ∧ x ≤ 0 := hN.2.2.1
  have c0 : ((1 : Int) + ((1 : Int) * s2 + ((-1 : Int) * s7 + 0))) ≤ 0 := csX (hCs _ (.head _)) rfl
  have c1 : ((0 : Int) + ((-1 : Int) * s0 + ((1 : Int) * s5 + 0))) ≤ 0 := csX (hCs _ (.tail _ (.head _))) rfl
  have c2 : ((0 : Int) + ((1 : Int) * s0 + ((-1 : Int) * s5 + 0))) ≤ 0 := csX (hCs _ (.tail _ (.tail _ (.head _)))) rfl
  have c3 : ((0 : Int) + ((-1 : Int) * s1 + ((1 : Int) * s6 + 0))) ≤ 0 := csX (hCs _ (.tail _ (.tail _ (.tail _ (.head _))))) rfl
  have c4 : ((0 : Int) + ((1 : Int) * s1 + ((-1 : Int) * s6 + 0))) ≤ 0 := csX (hCs _ (.tail _ (.tail _ (.tail _ (.tail _ (.head _)))))) rfl
  have hRf : ∀ q ∈ ([((43, .ofNat 176, []), (.ofNat 1, []), 114, .ofNat 15, []), ((98, .ofNat 15, []), (.ofNat 16, []), 28, .ofNat 0, [(.ofNat 1, 3)]), ((98, .ofNat 15, []), (.ofNat 17, []), 29, .ofNat 0, [(.ofNat 1, 4)]), ((12, .ofNat 0, [(.ofNat 1, 3)]), (.ofNat 0, [(.ofNat 1, 2)]), 1, .ofNat 0, [(.ofNat 1, 5)]), ((13, .ofNat 0, [(.ofNat 1, 4)]), (.ofNat 0, [(.ofNat 1, 2)]), 1, .ofNat 0, [(.ofNat 1, 6)]), ((98, .ofNat 15, []), (.ofNat 5, []), 1, .ofNat 0, [(.ofNat 1, 7)])] : List sRf), rfOk [s0, s1, s2, s3, s4, s5, s6, s7, s8] hp q := hH.1
  have g0 : hC hp 176 1 = 15 := by
    have u := rfR0 (xv := (15 : Int)) (c0 := 176) (i0 := 1) (hRf _ (.head _)) (sE_k _ _) (sE_k _ _) (sE_k _ _)
    show hC hp (176) 1 = 15
    omega
  have g1 : s3 = ((rr hp 1 16 : Nat) : Int) := rfR0 (c0 := hC hp 176 1) (hRf _ (.tail _ (.head _))) (by rw [g0]; exact sE_k _ _) (sE_k _ _) (sE_V rfl)
  have g2 : s4 = ((rr hp 1 17 : Nat) : Int) := rfR0 (c0 := hC hp 176 1) (hRf _ (.tail _ (.tail _ (.head _)))) (by rw [g0]; exact sE_k _ _) (sE_k _ _) (sE_V rfl)
  obtain ⟨i3, e3, l3, h3⟩ := rfI (xv := s5) (iv := s2) (hRf _ (.tail _ (.tail _ (.tail _ (.head _))))) (sEv (sE_V rfl) g1.symm) (sE_V rfl) (sE_V rfl)
  have l3 : i3 < 8 := l3
  have h3 : hI hp (rr hp 1 16) i3 = s5 := h3
  obtain ⟨i4, e4, l4, h4⟩ := rfI (xv := s6) (iv := s2) (hRf _ (.tail _ (.tail _ (.tail _ (.tail _ (.head _)))))) (sEv (sE_V rfl) g2.symm) (sE_V rfl) (sE_V rfl)
  have l4 : i4 < 8 := l4
  have h4 : hI hp (rr hp 1 17) i4 = s6 := h4
  have h5 : hI hp (hC hp 176 1) 5 = s7 := rfI0 (c0 := hC hp 176 1) (hRf _ (.tail _ (.tail _ (.tail _ (.tail _ (.tail _ (.head _))))))) (by rw [g0]; exact sE_k _ _) (sE_k _ _) (sE_V rfl)
  have hFc : ∀ q ∈ ([(75, [(.ofNat 0, [(.ofNat 1, 7)]), (.ofNat 0, [(.ofNat 1, 8)])])] : List sFc), fcOk fFS [s0, s1, s2, s3, s4, s5, s6, s7, s8] hp q := hH.2
  have f0 : dF (XT hp) s8 (fun D => s7 = (dWi D).length ∧ ∀ i : Nat, i < 8 → (i : Int) < s7 → (dWi D)[i]? = some (hI hp (rr hp 1 16) i, hI hp (rr hp 1 17) i)) := fcX (ys := [s7, s8]) (hFc _ (.head _)) ⟨sE_V rfl, sE_V rfl, trivial⟩
  exact poX (.head _) rfl hR (all_nil) (all_nil) (all_cons ⟨[s8, s0, s1, 1], ⟨sE_V rfl, sE_V rfl, sE_V rfl, sE_k _ _, trivial⟩, (show dF (XT hp) s8 (fun D => bP (1 : Int) ((s0, s1) ∈ dWi D)) from dF_mp f0 (fun D h => bP_i1 (lst_mem h (by rw [h3]; omega) (by rw [h4]; omega) (by omega) (by omega) (by omega)) rfl))⟩ (all_nil))
theorem rl124 : ruOk fFS gR124 := by
  intro r hp hO hN hH
  obtain ⟨s0, s1, s2, s3, s4, rfl⟩ := len5 (show r.length = 5 from hN.1)
  have hR := hN.2.1.1
  have hIv : ∀ q ∈ ([(0, .negSucc 2147483647, .ofNat 2147483647), (1, .negSucc 2147483647, .ofNat 2147483647), (2, .negSucc 2147483647, .ofNat 2147483647), (3, .negSucc 2147483647, .ofNat 2147483647), (4, .negSucc 2147483647, .ofNat 2147483647)] : sIv), ∃ x, ([s0, s1, s2, s3, s4] : List Int)[q.1]? = some x ∧ q.2.1 ≤ x ∧ x ≤ q.2.2 := hN.2.1.2
  have hCs : ∀ c ∈ ([(.ofNat 0, [(.negSucc 0, 2), (.ofNat 1, 3)])] : List sLn), ∃ x, sE [s0, s1, s2, s3, s4] c = some x ∧ x ≤ 0 := hN.2.2.1
  have c0 : ((0 : Int) + ((-1 : Int) * s2 + ((1 : Int) * s3 + 0))) ≤ 0 := csX (hCs _ (.head _)) rfl
  have hRf : ∀ q ∈ ([((43, .ofNat 176, []), (.ofNat 1, []), 114, .ofNat 15, []), ((98, .ofNat 15, []), (.ofNat 5, []), 1, .ofNat 0, [(.ofNat 1, 3)])] : List sRf), rfOk [s0, s1, s2, s3, s4] hp q := hH.1
  have g0 : hC hp 176 1 = 15 := by
    have u := rfR0 (xv := (15 : Int)) (c0 := 176) (i0 := 1) (hRf _ (.head _)) (sE_k _ _) (sE_k _ _) (sE_k _ _)
    show hC hp (176) 1 = 15
    omega
  have h1 : hI hp (hC hp 176 1) 5 = s3 := rfI0 (c0 := hC hp 176 1) (hRf _ (.tail _ (.head _))) (by rw [g0]; exact sE_k _ _) (sE_k _ _) (sE_V rfl)
  have hFc : ∀ q ∈ ([(95, [(.ofNat 0, [(.ofNat 1, 2)]), (.ofNat 0, [(.ofNat 1, 4)]), (.ofNat 0, [(.ofNat 1, 0)]), (.ofNat 0, [(.ofNat 1, 1)])]), (75, [(.ofNat 0, [(.ofNat 1, 3)]), (.ofNat 0, [(.ofNat 1, 4)])])] : List sFc), fcOk fFS [s0, s1, s2, s3, s4] hp q := hH.2
  have f0 : ∀ i : Nat, i < 8 → (i : Int) < s2 → ¬ (hI hp (rr hp 1 16) i = s0 ∧ hI hp (rr hp 1 17) i = s1) := fcX (ys := [s2, s4, s0, s1]) (hFc _ (.head _)) ⟨sE_V rfl, sE_V rfl, sE_V rfl, sE_V rfl, trivial⟩
  have f1 : dF (XT hp) s4 (fun D => s3 = (dWi D).length ∧ ∀ i : Nat, i < 8 → (i : Int) < s3 → (dWi D)[i]? = some (hI hp (rr hp 1 16) i, hI hp (rr hp 1 17) i)) := fcX (ys := [s3, s4]) (hFc _ (.tail _ (.head _))) ⟨sE_V rfl, sE_V rfl, trivial⟩
  exact poX (.head _) rfl hR (all_nil) (all_nil) (all_cons ⟨[s4, s0, s1, 0], ⟨sE_V rfl, sE_V rfl, sE_V rfl, sE_k _ _, trivial⟩, (show dF (XT hp) s4 (fun D => bP (0 : Int) ((s0, s1) ∈ dWi D)) from dF_mp (dF_I (XT_ok hO) f1) (fun D h => bP_i0 (lst_no h.2 f0 (by omega) (by have h1 := h.1.1.2.2.2.2.2.2.2; have h2 := h.2.1; omega)) rfl))⟩ (all_nil))
theorem rl125 : ruOk fFS gR125 := by
  intro r hp hO hN hH
  obtain ⟨s0, s1, s2, s3, s4, s5, s6, s7, s8, s9, s10, s11, s12, s13, s14, s15, s16, s17, s18, s19, s20, s21, s22, s23, s24, s25, s26, rfl⟩ := len27 (show r.length = 27 from hN.1)
  have hR := hN.2.1.1
  have hIv : ∀ q ∈ ([(0, .negSucc 2147483647, .ofNat 2147483647), (1, .negSucc 2147483647, .ofNat 2147483647), (4, .ofNat 0, .ofNat 7), (5, .negSucc 2147483647, .ofNat 2147483647), (6, .negSucc 2147483647, .ofNat 2147483647), (7, .negSucc 2147483647, .ofNat 2147483647), (8, .ofNat 25, .ofNat 25), (9, .negSucc 2147483647, .ofNat 2147483647), (10, .negSucc 2147483647, .ofNat 2147483647), (11, .negSucc 2147483647, .ofNat 2147483647), (12, .negSucc 2147483647, .ofNat 2147483647), (13, .negSucc 2147483647, .ofNat 2147483647), (14, .ofNat 2, .ofNat 2), (15, .negSucc 2147483647, .ofNat 2147483647), (16, .negSucc 2147483647, .ofNat 2147483647), (17, .negSucc 2147483647, .ofNat 2147483647), (18, .negSucc 2147483647, .ofNat 2147483647), (19, .negSucc 2147483647, .ofNat 2147483647), (20, .negSucc 2147483647, .ofNat 2147483647), (21, .negSucc 2147483647, .ofNat 2147483647), (22, .negSucc 2147483647, .ofNat 2147483647), (23, .negSucc 2147483647, .ofNat 2147483647), (24, .negSucc 2147483647, .ofNat 2147483647), (25, .negSucc 2147483647, .ofNat 2147483647), (26, .negSucc 2147483647, .ofNat 2147483647)] : sIv), ∃ x, ([s0, s1, s2, s3, s4, s5, s6, s7, s8, s9, s10, s11, s12, s13, s14, s15, s16, s17, s18, s19, s20, s21, s22, s23, s24, s25, s26] : List Int)[q.1]? = some x ∧ q.2.1 ≤ x ∧ x ≤ q.2.2 := hN.2.1.2
  have b2 : (0 : Int) ≤ s4 ∧ s4 ≤ (7 : Int) := ivX (q := (4, .ofNat 0, .ofNat 7)) (y := s4) (hIv _ (.tail _ (.tail _ (.head _)))) rfl
  have b6 : (25 : Int) ≤ s8 ∧ s8 ≤ (25 : Int) := ivX (q := (8, .ofNat 25, .ofNat 25)) (y := s8) (hIv _ (.tail _ (.tail _ (.tail _ (.tail _ (.tail _ (.tail _ (.head _)))))))) rfl
  have b12 : (2 : Int) ≤ s14 ∧ s14 ≤ (2 : Int) := ivX (q := (14, .ofNat 2, .ofNat 2)) (y := s14) (hIv _ (.tail _ (.tail _ (.tail _ (.tail _ (.tail _ (.tail _ (.tail _ (.tail _ (.tail _ (.tail _ (.tail _ (.tail _ (.head _)))))))))))))) rfl
  have hCs : ∀ c ∈ ([(.ofNat 0, [(.negSucc 0, 0), (.ofNat 1, 5)]), (.ofNat 0, [(.ofNat 1, 0), (.negSucc 0, 5)]), (.ofNat 0, [(.negSucc 0, 1), (.ofNat 1, 6)]), (.ofNat 0, [(.ofNat 1, 1), (.negSucc 0, 6)])] : List sLn), ∃ x, sE [s0, s1, s2, s3, s4, s5, s6, s7, s8, s9, s10, s11, s12, s13, s14, s15, s16, s17, s18, s19, s20, s21, s22, s23, s24, s25, s26] c = some x ∧ x ≤ 0 := hN.2.2.1
  have c0 : ((0 : Int) + ((-1 : Int) * s0 + ((1 : Int) * s5 + 0))) ≤ 0 := csX (hCs _ (.head _)) rfl
  have c1 : ((0 : Int) + ((1 : Int) * s0 + ((-1 : Int) * s5 + 0))) ≤ 0 := csX (hCs _ (.tail _ (.head _))) rfl
  have c2 : ((0 : Int) + ((-1 : Int) * s1 + ((1 : Int) * s6 + 0))) ≤ 0 := csX (hCs _ (.tail _ (.tail _ (.head _)))) rfl
  have c3 : ((0 : Int) + ((1 : Int) * s1 + ((-1 : Int) * s6 + 0))) ≤ 0 := csX (hCs _ (.tail _ (.tail _ (.tail _ (.head _))))) rfl
  have hRf : ∀ q ∈ ([((40, .ofNat 173, []), (.ofNat 9, []), 1, .ofNat 0, []), ((43, .ofNat 176, []), (.ofNat 1, []), 114, .ofNat 15, []), ((98, .ofNat 15, []), (.ofNat 16, []), 28, .ofNat 0, [(.ofNat 1, 2)]), ((98, .ofNat 15, []), (.ofNat 17, []), 29, .ofNat 0, [(.ofNat 1, 3)]), ((98, .ofNat 15, []), (.ofNat 5, []), 1, .ofNat 0, [(.ofNat 1, 4)]), ((12, .ofNat 0, [(.ofNat 1, 2)]), (.ofNat 0, [(.ofNat 1, 4)]), 1, .ofNat 0, [(.ofNat 1, 5)]), ((13, .ofNat 0, [(.ofNat 1, 3)]), (.ofNat 0, [(.ofNat 1, 4)]), 1, .ofNat 0, [(.ofNat 1, 6)])] : List sRf), rfOk [s0, s1, s2, s3, s4, s5, s6, s7, s8, s9, s10, s11, s12, s13, s14, s15, s16, s17, s18, s19, s20, s21, s22, s23, s24, s25, s26] hp q := hH.1
  have h0 : hI hp 173 9 = 0 := rfI0 (hRf _ (.head _)) (sE_k _ _) (sE_k _ _) (sE_k _ _)
  have g1 : hC hp 176 1 = 15 := by
    have u := rfR0 (xv := (15 : Int)) (c0 := 176) (i0 := 1) (hRf _ (.tail _ (.head _))) (sE_k _ _) (sE_k _ _) (sE_k _ _)
    show hC hp (176) 1 = 15
    omega
  have g2 : s2 = ((rr hp 1 16 : Nat) : Int) := rfR0 (c0 := hC hp 176 1) (hRf _ (.tail _ (.tail _ (.head _)))) (by rw [g1]; exact sE_k _ _) (sE_k _ _) (sE_V rfl)
  have g3 : s3 = ((rr hp 1 17 : Nat) : Int) := rfR0 (c0 := hC hp 176 1) (hRf _ (.tail _ (.tail _ (.tail _ (.head _))))) (by rw [g1]; exact sE_k _ _) (sE_k _ _) (sE_V rfl)
  have h4 : hI hp (hC hp 176 1) 5 = s4 := rfI0 (c0 := hC hp 176 1) (hRf _ (.tail _ (.tail _ (.tail _ (.tail _ (.head _)))))) (by rw [g1]; exact sE_k _ _) (sE_k _ _) (sE_V rfl)
  obtain ⟨i5, e5, l5, h5⟩ := rfI (xv := s5) (iv := s4) (hRf _ (.tail _ (.tail _ (.tail _ (.tail _ (.tail _ (.head _))))))) (sEv (sE_V rfl) g2.symm) (sE_V rfl) (sE_V rfl)
  have l5 : i5 < 8 := l5
  have h5 : hI hp (rr hp 1 16) i5 = s5 := h5
  obtain ⟨i6, e6, l6, h6⟩ := rfI (xv := s6) (iv := s4) (hRf _ (.tail _ (.tail _ (.tail _ (.tail _ (.tail _ (.tail _ (.head _)))))))) (sEv (sE_V rfl) g3.symm) (sE_V rfl) (sE_V rfl)
  have l6 : i6 < 8 := l6
  have h6 : hI hp (rr hp 1 17) i6 = s6 := h6
  have hFc : ∀ q ∈ ([(53, [(.ofNat 0, [(.ofNat 1, 7)]), (.ofNat 0, [(.ofNat 1, 8)]), (.ofNat 0, [(.ofNat 1, 9)]), (.ofNat 0, [(.ofNat 1, 0)]), (.ofNat 0, [(.ofNat 1, 1)]), (.ofNat 0, [(.ofNat 1, 10)]), (.ofNat 0, [(.ofNat 1, 11)]), (.ofNat 0, [(.ofNat 1, 12)]), (.ofNat 0, [(.ofNat 1, 13)]), (.ofNat 0, [(.ofNat 1, 14)]), (.ofNat 0, [(.ofNat 1, 15)]), (.ofNat 0, [(.ofNat 1, 16)]), (.ofNat 0, [(.ofNat 1, 17)])]), (59, [(.ofNat 0, [(.ofNat 1, 9)]), (.ofNat 0, [(.ofNat 1, 18)]), (.ofNat 0, [(.ofNat 1, 19)]), (.ofNat 0, [(.ofNat 1, 20)]), (.ofNat 0, [(.ofNat 1, 4)]), (.ofNat 0, [(.ofNat 1, 21)]), (.ofNat 0, [(.ofNat 1, 22)]), (.ofNat 0, [(.ofNat 1, 23)]), (.ofNat 0, [(.ofNat 1, 24)]), (.ofNat 0, [(.ofNat 1, 25)]), (.ofNat 0, [(.ofNat 1, 26)])]), (61, [(.ofNat 0, [(.ofNat 1, 9)])]), (68, [(.ofNat 0, [(.ofNat 1, 9)])]), (72, [(.ofNat 0, [(.ofNat 1, 21)]), (.ofNat 0, [(.ofNat 1, 9)])]), (74, [(.ofNat 0, [(.ofNat 1, 9)])]), (73, [(.ofNat 0, [(.ofNat 1, 21)])]), (75, [(.ofNat 0, [(.ofNat 1, 4)]), (.ofNat 0, [(.ofNat 1, 9)])]), (60, [(.ofNat 0, [(.ofNat 1, 7)])])] : List sFc), fcOk fFS [s0, s1, s2, s3, s4, s5, s6, s7, s8, s9, s10, s11, s12, s13, s14, s15, s16, s17, s18, s19, s20, s21, s22, s23, s24, s25, s26] hp q := hH.2
  have f0 : Hq (XT hp) s7 s8 s9 s0 s1 s10 s11 s12 s13 s14 s15 s16 s17 ∧ s14 ≠ 4 := fcX (ys := [s7, s8, s9, s0, s1, s10, s11, s12, s13, s14, s15, s16, s17]) (hFc _ (.head _)) ⟨sE_V rfl, sE_V rfl, sE_V rfl, sE_V rfl, sE_V rfl, sE_V rfl, sE_V rfl, sE_V rfl, sE_V rfl, sE_V rfl, sE_V rfl, sE_V rfl, sE_V rfl, trivial⟩
  have f1 : CT (XT hp) s9 s18 s19 s20 s4 s21 s22 s23 s24 s25 s26 := fcX (ys := [s9, s18, s19, s20, s4, s21, s22, s23, s24, s25, s26]) (hFc _ (.tail _ (.head _))) ⟨sE_V rfl, sE_V rfl, sE_V rfl, sE_V rfl, sE_V rfl, sE_V rfl, sE_V rfl, sE_V rfl, sE_V rfl, sE_V rfl, sE_V rfl, trivial⟩
  have f2 : dF (XT hp) s9 (fun D => ∀ j : Nat, j < 12 → hL hp (rr hp 1 7) j = cd 32 96 (nm D j)) := fcX (ys := [s9]) (hFc _ (.tail _ (.tail _ (.head _)))) ⟨sE_V rfl, trivial⟩
  have f3 : dF (XT hp) s9 (fun D => ∀ p : Nat, p < 100 → (fX hp p ↔ ¬ tkI D p)) := fcX (ys := [s9]) (hFc _ (.tail _ (.tail _ (.tail _ (.head _))))) ⟨sE_V rfl, trivial⟩
  have f4 : dF (XT hp) s9 (fun D => s21 = (dTr D).length ∧ ∀ i : Nat, i < 14 → (i : Int) < s21 → (dTr D)[i]? = some (hI hp (rr hp 2 6) i, hI hp (rr hp 2 7) i)) := fcX (ys := [s21, s9]) (hFc _ (.tail _ (.tail _ (.tail _ (.tail _ (.head _)))))) ⟨sE_V rfl, sE_V rfl, trivial⟩
  have f5 : dF (XT hp) s9 (fun D => ∀ j : Nat, j < 10 → wR (hI hp (rr hp 2 10) j) D j) := fcX (ys := [s9]) (hFc _ (.tail _ (.tail _ (.tail _ (.tail _ (.tail _ (.head _))))))) ⟨sE_V rfl, trivial⟩
  have f6 : ∀ i : Nat, i < 14 → (i : Int) < s21 → bt (hI hp (hC hp 176 2) 2) i := fcX (ys := [s21]) (hFc _ (.tail _ (.tail _ (.tail _ (.tail _ (.tail _ (.tail _ (.head _)))))))) ⟨sE_V rfl, trivial⟩
  have f7 : dF (XT hp) s9 (fun D => s4 = (dWi D).length ∧ ∀ i : Nat, i < 8 → (i : Int) < s4 → (dWi D)[i]? = some (hI hp (rr hp 1 16) i, hI hp (rr hp 1 17) i)) := fcX (ys := [s4, s9]) (hFc _ (.tail _ (.tail _ (.tail _ (.tail _ (.tail _ (.tail _ (.tail _ (.head _))))))))) ⟨sE_V rfl, sE_V rfl, trivial⟩
  have f8 : NO (XT hp) s7 := fcX (ys := [s7]) (hFc _ (.tail _ (.tail _ (.tail _ (.tail _ (.tail _ (.tail _ (.tail _ (.tail _ (.head _)))))))))) ⟨sE_V rfl, trivial⟩
  have u := hN25 (XT_ok hO) f0.1 (by omega) (by omega) f8
  have hd := u.2
  have hw1 : hI hp (rr hp 1 16) i5 = s0 := by rw [h5]; omega
  have hw2 : hI hp (rr hp 1 17) i6 = s1 := by rw [h6]; omega
  exact poX (.head _) rfl hR (all_nil) (all_nil) (all_cons ⟨[s16, 26, (s9 + 1), 0, 0, 0, 0, 0, 0], ⟨sE_V rfl, sE_k _ _, sEv (y' := ((1 : Int) + ((1 : Int) * s9 + 0))) rfl (by omega), sE_k _ _, sE_k _ _, sE_k _ _, sE_k _ _, sE_k _ _, sE_k _ _, trivial⟩, (show Gq (XT hp) s16 (26 : Int) (s9 + 1) (0 : Int) (0 : Int) (0 : Int) (0 : Int) (0 : Int) (0 : Int) from u.1)⟩ (all_cons ⟨[(s9 + 1), s18, s19, s20, (s4 + 1), s21, s22, s23, s24, s25, s26], ⟨sEv (y' := ((1 : Int) + ((1 : Int) * s9 + 0))) rfl (by omega), sE_V rfl, sE_V rfl, sE_V rfl, sEv (y' := ((1 : Int) + ((1 : Int) * s4 + 0))) rfl (by omega), sE_V rfl, sE_V rfl, sE_V rfl, sE_V rfl, sE_V rfl, sE_V rfl, trivial⟩, (show CT (XT hp) (s9 + 1) s18 s19 s20 (s4 + 1) s21 s22 s23 s24 s25 s26 from carry (XT_ok hO) hd f1 (fun D h => ct_aWi (by omega) h) (by omega))⟩ (all_cons ⟨[(s9 + 1)], ⟨sEv (y' := ((1 : Int) + ((1 : Int) * s9 + 0))) rfl (by omega), trivial⟩, (show dF (XT hp) (s9 + 1) (fun D => ∀ j : Nat, j < 12 → hL hp (rr hp 1 7) j = cd 32 96 (nm D j)) from carry (XT_ok hO) hd f2 (fun D h => h) (by omega))⟩ (all_cons ⟨[(s9 + 1)], ⟨sEv (y' := ((1 : Int) + ((1 : Int) * s9 + 0))) rfl (by omega), trivial⟩, (show dF (XT hp) (s9 + 1) (fun D => ∀ p : Nat, p < 100 → (fX hp p ↔ ¬ tkI D p)) from carry (XT_ok hO) hd f3 (fun D h => h) (by omega))⟩ (all_cons ⟨[s21, (s9 + 1)], ⟨sE_V rfl, sEv (y' := ((1 : Int) + ((1 : Int) * s9 + 0))) rfl (by omega), trivial⟩, (show dF (XT hp) (s9 + 1) (fun D => s21 = (dTr D).length ∧ ∀ i : Nat, i < 14 → (i : Int) < s21 → (dTr D)[i]? = some (hI hp (rr hp 2 6) i, hI hp (rr hp 2 7) i)) from carry (XT_ok hO) hd f4 (fun D h => h) (by omega))⟩ (all_cons ⟨[(s9 + 1)], ⟨sEv (y' := ((1 : Int) + ((1 : Int) * s9 + 0))) rfl (by omega), trivial⟩, (show dF (XT hp) (s9 + 1) (fun D => ∀ j : Nat, j < 10 → wR (hI hp (rr hp 2 10) j) D j) from carry (XT_ok hO) hd f5 (fun D h => h) (by omega))⟩ (all_cons ⟨[s21], ⟨sE_V rfl, trivial⟩, (show ∀ i : Nat, i < 14 → (i : Int) < s21 → bt (hI hp (hC hp 176 2) 2) i from f6)⟩ (all_cons ⟨[(s4 + 1), (s9 + 1)], ⟨sEv (y' := ((1 : Int) + ((1 : Int) * s4 + 0))) rfl (by omega), sEv (y' := ((1 : Int) + ((1 : Int) * s9 + 0))) rfl (by omega), trivial⟩, (show dF (XT hp) (s9 + 1) (fun D => (s4 + 1) = (dWi D).length ∧ ∀ i : Nat, i < 8 → (i : Int) < (s4 + 1) → (dWi D)[i]? = some (hI hp (rr hp 1 16) i, hI hp (rr hp 1 17) i)) from carry (XT_ok hO) hd f7 (fun D h => lst_add h hw1 hw2 (by omega) (by omega) (by omega)) (by omega))⟩ (all_nil)))))))))
theorem rl155 : ruOk fFS gR155 := by
  intro r hp hO hN hH
  obtain ⟨s0, s1, s2, s3, s4, s5, s6, s7, rfl⟩ := len8 (show r.length = 8 from hN.1)
  have hR := hN.2.1.1
  have hIv : ∀ q ∈ ([(0, .negSucc 2147483647, .ofNat 2147483647), (1, .ofNat 1, .ofNat 3), (2, .negSucc 2147483647, .ofNat 2147483647), (3, .negSucc 2147483647, .ofNat 2147483647), (4, .ofNat 0, .ofNat 0), (5, .negSucc 2147483647, .ofNat 2147483647), (6, .negSucc 2147483647, .ofNat 2147483647), (7, .negSucc 2147483647, .ofNat 2147483647)] : sIv), ∃ x, ([s0, s1, s2, s3, s4, s5, s6, s7] : List Int)[q.1]? = some x ∧ q.2.1 ≤ x ∧ x ≤ q.2.2 := hN.2.1.2
  have b1 : (1 : Int) ≤ s1 ∧ s1 ≤ (3 : Int) := ivX (q := (1, .ofNat 1, .ofNat 3)) (y := s1) (hIv _ (.tail _ (.head _))) rfl
  have b4 : (0 : Int) ≤ s4 ∧ s4 ≤ (0 : Int) := ivX (q := (4, .ofNat 0, .ofNat 0)) (y := s4) (hIv _ (.tail _ (.tail _ (.tail _ (.tail _ (.head _)))))) rfl
  have hFc : ∀ q ∈ ([(192, [(.ofNat 0, [(.ofNat 1, 0)]), (.ofNat 0, [(.ofNat 1, 1)]), (.ofNat 0, [(.ofNat 1, 2)]), (.ofNat 0, [(.ofNat 1, 3)]), (.ofNat 0, [(.ofNat 1, 4)]), (.ofNat 0, [(.ofNat 1, 5)]), (.ofNat 0, [(.ofNat 1, 6)]), (.ofNat 0, [(.ofNat 1, 7)])])] : List sFc), fcOk fFS [s0, s1, s2, s3, s4, s5, s6, s7] hp q := hH.2
  have f0 : SHq (XT hp) (nmR hp (xnm hp)) s0 s1 s2 s3 s4 s5 s6 s7 ∧ s4 ≠ 4 := fcX (ys := [s0, s1, s2, s3, s4, s5, s6, s7]) (hFc _ (.head _)) ⟨sE_V rfl, sE_V rfl, sE_V rfl, sE_V rfl, sE_V rfl, sE_V rfl, sE_V rfl, sE_V rfl, trivial⟩
  exact poX (.head _) rfl hR (all_nil) (all_nil) (all_cons ⟨[1, s5], ⟨sE_k _ _, sE_V rfl, trivial⟩, (show SRS (XT hp) (nmR hp (xnm hp)) (1 : Int) s5 from sn_f1 f0.1 (by unfold sNc; omega) (by omega))⟩ (all_nil))
theorem rl156 : ruOk fFS gR156 := by
  intro r hp hO hN hH
  obtain ⟨s0, s1, s2, s3, s4, s5, s6, s7, rfl⟩ := len8 (show r.length = 8 from hN.1)
  have hR := hN.2.1.1
  have hIv : ∀ q ∈ ([(0, .negSucc 2147483647, .ofNat 2147483647), (1, .ofNat 1, .ofNat 3), (2, .negSucc 2147483647, .ofNat 2147483647), (3, .negSucc 2147483647, .ofNat 2147483647), (4, .ofNat 2, .ofNat 3), (5, .negSucc 2147483647, .ofNat 2147483647), (6, .negSucc 2147483647, .ofNat 2147483647), (7, .negSucc 2147483647, .ofNat 2147483647)] : sIv), ∃ x, ([s0, s1, s2, s3, s4, s5, s6, s7] : List Int)[q.1]? = some x ∧ q.2.1 ≤ x ∧ x ≤ q.2.2 := hN.2.1.2
  have b1 : (1 : Int) ≤ s1 ∧ s1 ≤ (3 : Int) := ivX (q := (1, .ofNat 1, .ofNat 3)) (y := s1) (hIv _ (.tail _ (.head _))) rfl
  have b4 : (2 : Int) ≤ s4 ∧ s4 ≤ (3 : Int) := ivX (q := (4, .ofNat 2, .ofNat 3)) (y := s4) (hIv _ (.tail _ (.tail _ (.tail _ (.tail _ (.head _)))))) rfl
  have hFc : ∀ q ∈ ([(192, [(.ofNat 0, [(.ofNat 1, 0)]), (.ofNat 0, [(.ofNat 1, 1)]), (.ofNat 0, [(.ofNat 1, 2)]), (.ofNat 0, [(.ofNat 1, 3)]), (.ofNat 0, [(.ofNat 1, 4)]), (.ofNat 0, [(.ofNat 1, 5)]), (.ofNat 0, [(.ofNat 1, 6)]), (.ofNat 0, [(.ofNat 1, 7)])])] : List sFc), fcOk fFS [s0, s1, s2, s3, s4, s5, s6, s7] hp q := hH.2
  have f0 : SHq (XT hp) (nmR hp (xnm hp)) s0 s1 s2 s3 s4 s5 s6 s7 ∧ s4 ≠ 4 := fcX (ys := [s0, s1, s2, s3, s4, s5, s6, s7]) (hFc _ (.head _)) ⟨sE_V rfl, sE_V rfl, sE_V rfl, sE_V rfl, sE_V rfl, sE_V rfl, sE_V rfl, sE_V rfl, trivial⟩
  exact poX (.head _) rfl hR (all_nil) (all_nil) (all_cons ⟨[1, s5], ⟨sE_k _ _, sE_V rfl, trivial⟩, (show SRS (XT hp) (nmR hp (xnm hp)) (1 : Int) s5 from sn_f1 f0.1 (by unfold sNc; omega) (by omega))⟩ (all_nil))
theorem rl157 : ruOk fFS gR157 := by
  intro r hp hO hN hH
  obtain ⟨s0, s1, s2, s3, s4, s5, s6, s7, rfl⟩ := len8 (show r.length = 8 from hN.1)
  have hR := hN.2.1.1
  have hIv : ∀ q ∈ ([(0, .negSucc 2147483647, .ofNat 2147483647), (1, .ofNat 1, .ofNat 3), (2, .negSucc 2147483647, .ofNat 2147483647), (3, .negSucc 2147483647, .ofNat 2147483647), (4, .ofNat 1, .ofNat 1), (5, .negSucc 2147483647, .ofNat 2147483647), (6, .negSucc 2147483647, .ofNat 2147483647), (7, .ofNat 0, .ofNat 29)] : sIv), ∃ x, ([s0, s1, s2, s3, s4, s5, s6, s7] : List Int)[q.1]? = some x ∧ q.2.1 ≤ x ∧ x ≤ q.2.2 := hN.2.1.2
  have b1 : (1 : Int) ≤ s1 ∧ s1 ≤ (3 : Int) := ivX (q := (1, .ofNat 1, .ofNat 3)) (y := s1) (hIv _ (.tail _ (.head _))) rfl
  have b4 : (1 : Int) ≤ s4 ∧ s4 ≤ (1 : Int) := ivX (q := (4, .ofNat 1, .ofNat 1)) (y := s4) (hIv _ (.tail _ (.tail _ (.tail _ (.tail _ (.head _)))))) rfl
  have b7 : (0 : Int) ≤ s7 ∧ s7 ≤ (29 : Int) := ivX (q := (7, .ofNat 0, .ofNat 29)) (y := s7) (hIv _ (.tail _ (.tail _ (.tail _ (.tail _ (.tail _ (.tail _ (.tail _ (.head _))))))))) rfl
  have hFc : ∀ q ∈ ([(192, [(.ofNat 0, [(.ofNat 1, 0)]), (.ofNat 0, [(.ofNat 1, 1)]), (.ofNat 0, [(.ofNat 1, 2)]), (.ofNat 0, [(.ofNat 1, 3)]), (.ofNat 0, [(.ofNat 1, 4)]), (.ofNat 0, [(.ofNat 1, 5)]), (.ofNat 0, [(.ofNat 1, 6)]), (.ofNat 0, [(.ofNat 1, 7)])])] : List sFc), fcOk fFS [s0, s1, s2, s3, s4, s5, s6, s7] hp q := hH.2
  have f0 : SHq (XT hp) (nmR hp (xnm hp)) s0 s1 s2 s3 s4 s5 s6 s7 ∧ s4 ≠ 4 := fcX (ys := [s0, s1, s2, s3, s4, s5, s6, s7]) (hFc _ (.head _)) ⟨sE_V rfl, sE_V rfl, sE_V rfl, sE_V rfl, sE_V rfl, sE_V rfl, sE_V rfl, sE_V rfl, trivial⟩
  exact poX (.head _) rfl hR (all_nil) (all_nil) (all_cons ⟨[1, s5], ⟨sE_k _ _, sE_V rfl, trivial⟩, (show SRS (XT hp) (nmR hp (xnm hp)) (1 : Int) s5 from sn_f1 f0.1 (by unfold sNc; omega) (by omega))⟩ (all_nil))
theorem rl160 : ruOk fFS gR160 := by
  intro r hp hO hN hH
  obtain ⟨s0, s1, s2, s3, s4, s5, s6, s7, rfl⟩ := len8 (show r.length = 8 from hN.1)
  have hR := hN.2.1.1
  have hIv : ∀ q ∈ ([(0, .negSucc 2147483647, .ofNat 2147483647), (1, .negSucc 2147483647, .ofNat 2147483647), (2, .negSucc 2147483647, .ofNat 2147483647), (3, .negSucc 2147483647, .ofNat 2147483647), (4, .negSucc 2147483647, .ofNat 2147483647), (5, .negSucc 2147483647, .ofNat 2147483647), (6, .negSucc 2147483647, .ofNat 2147483647), (7, .negSucc 2147483647, .ofNat 2147483647)] : sIv), ∃ x, ([s0, s1, s2, s3, s4, s5, s6, s7] : List Int)[q.1]? = some x ∧ q.2.1 ≤ x ∧ x ≤ q.2.2 := hN.2.1.2
  have hFc : ∀ q ∈ ([(192, [(.ofNat 0, [(.ofNat 1, 0)]), (.ofNat 0, [(.ofNat 1, 1)]), (.ofNat 0, [(.ofNat 1, 2)]), (.ofNat 0, [(.ofNat 1, 3)]), (.ofNat 0, [(.ofNat 1, 4)]), (.ofNat 0, [(.ofNat 1, 5)]), (.ofNat 0, [(.ofNat 1, 6)]), (.ofNat 0, [(.ofNat 1, 7)])])] : List sFc), fcOk fFS [s0, s1, s2, s3, s4, s5, s6, s7] hp q := hH.2
  have f0 : SHq (XT hp) (nmR hp (xnm hp)) s0 s1 s2 s3 s4 s5 s6 s7 ∧ s4 ≠ 4 := fcX (ys := [s0, s1, s2, s3, s4, s5, s6, s7]) (hFc _ (.head _)) ⟨sE_V rfl, sE_V rfl, sE_V rfl, sE_V rfl, sE_V rfl, sE_V rfl, sE_V rfl, sE_V rfl, trivial⟩
  exact poX (.head _) rfl hR (all_nil) (all_nil) (all_cons ⟨[], trivial, (show True from trivial)⟩ (all_nil))
theorem rl162 : ruOk fFS gR162 := by
  intro r hp hO hN hH
  obtain ⟨s0, rfl⟩ := len1 (show r.length = 1 from hN.1)
  have hR := hN.2.1.1
  have hFc : ∀ q ∈ ([(203, [])] : List sFc), fcOk fFS [s0] hp q := hH.2
  have f0 : True := fcX (ys := []) (hFc _ (.head _)) trivial
  exact poX (.head _) rfl hR (all_nil) (all_nil) (all_cons ⟨[0, s0], ⟨sE_k _ _, sE_V rfl, trivial⟩, (show ∀ j : Nat, j < 12 → (j : Int) < (0 : Int) → hL hp (xnm hp) j ≠ s0 from fun j _ w => absurd w (by omega))⟩ (all_nil))
theorem rl163 : ruOk fFS gR163 := by
  intro r hp hO hN hH
  obtain ⟨s0, s1, s2, rfl⟩ := len3 (show r.length = 3 from hN.1)
  have hR := hN.2.1.1
  have hIv : ∀ q ∈ ([(1, .ofNat 0, .ofNat 11)] : sIv), ∃ x, ([s0, s1, s2] : List Int)[q.1]? = some x ∧ q.2.1 ≤ x ∧ x ≤ q.2.2 := hN.2.1.2
  have b0 : (0 : Int) ≤ s1 ∧ s1 ≤ (11 : Int) := ivX (q := (1, .ofNat 0, .ofNat 11)) (y := s1) (hIv _ (.head _)) rfl
  have hCs : ∀ c ∈ ([(.ofNat 1, [(.ofNat 1, 0), (.negSucc 0, 2)])] : List sLn), ∃ x, sE [s0, s1, s2] c = some x ∧ x ≤ 0 := hN.2.2.1
  have c0 : ((1 : Int) + ((1 : Int) * s0 + ((-1 : Int) * s2 + 0))) ≤ 0 := csX (hCs _ (.head _)) rfl
  have hRf : ∀ q ∈ ([((43, .ofNat 176, []), (.ofNat 1, []), 114, .ofNat 15, []), ((98, .ofNat 15, []), (.ofNat 7, []), 115, .ofNat 16, []), ((99, .ofNat 16, []), (.ofNat 0, [(.ofNat 1, 1)]), 5, .ofNat 0, [(.ofNat 1, 2)])] : List sRf), rfOk [s0, s1, s2] hp q := hH.1
  have g0 : hC hp 176 1 = 15 := by
    have u := rfR0 (xv := (15 : Int)) (c0 := 176) (i0 := 1) (hRf _ (.head _)) (sE_k _ _) (sE_k _ _) (sE_k _ _)
    show hC hp (176) 1 = 15
    omega
  have g1 : rr hp 1 7 = 16 := by
    have u := rfR0 (xv := (16 : Int)) (c0 := hC hp 176 1) (i0 := 7) (hRf _ (.tail _ (.head _))) (by rw [g0]; exact sE_k _ _) (sE_k _ _) (sE_k _ _)
    show hC hp (hC hp 176 1) 7 = 16
    omega
  obtain ⟨i2, e2, l2, h2⟩ := rfL (c0 := rr hp 1 7) (iv := s1) (hRf _ (.tail _ (.tail _ (.head _)))) (by rw [g1]; exact sE_k _ _) (sE_V rfl) (sE_V rfl)
  have l2 : i2 < 12 := l2
  have h2 : hL hp (rr hp 1 7) i2 = s2 := h2
  have hFc : ∀ q ∈ ([(65, [(.ofNat 0, [(.ofNat 1, 1)]), (.ofNat 0, [(.ofNat 1, 0)])])] : List sFc), fcOk fFS [s0, s1, s2] hp q := hH.2
  have f0 : ∀ j : Nat, j < 12 → (j : Int) < s1 → hL hp (rr hp 1 7) j ≠ s0 := fcX (ys := [s1, s0]) (hFc _ (.head _)) ⟨sE_V rfl, sE_V rfl, trivial⟩
  exact poX (.head _) rfl hR (all_nil) (all_nil) (all_cons ⟨[(s1 + 1), s0], ⟨sEv (y' := ((1 : Int) + ((1 : Int) * s1 + 0))) rfl (by omega), sE_V rfl, trivial⟩, (show ∀ j : Nat, j < 12 → (j : Int) < (s1 + 1) → hL hp (rr hp 1 7) j ≠ s0 from sw_s f0 h2 (by omega) (by omega) (by omega))⟩ (all_nil))
theorem rl164 : ruOk fFS gR164 := by
  intro r hp hO hN hH
  obtain ⟨s0, s1, s2, rfl⟩ := len3 (show r.length = 3 from hN.1)
  have hR := hN.2.1.1
  have hIv : ∀ q ∈ ([(1, .ofNat 0, .ofNat 11)] : sIv), ∃ x, ([s0, s1, s2] : List Int)[q.1]? = some x ∧ q.2.1 ≤ x ∧ x ≤ q.2.2 := hN.2.1.2
  have b0 : (0 : Int) ≤ s1 ∧ s1 ≤ (11 : Int) := ivX (q := (1, .ofNat 0, .ofNat 11)) (y := s1) (hIv _ (.head _)) rfl
  have hCs : ∀ c ∈ ([(.ofNat 1, [(.ofNat 1, 0), (.negSucc 0, 2)])] : List sLn), ∃ x, sE [s0, s1, s2] c = some x ∧ x ≤ 0 := hN.2.2.1
  have c0 : ((1 : Int) + ((1 : Int) * s0 + ((-1 : Int) * s2 + 0))) ≤ 0 := csX (hCs _ (.head _)) rfl
  have hRf : ∀ q ∈ ([((0, .ofNat 0, []), (.ofNat 6, []), 114, .ofNat 15, []), ((98, .ofNat 15, []), (.ofNat 7, []), 115, .ofNat 16, []), ((99, .ofNat 16, []), (.ofNat 0, [(.ofNat 1, 1)]), 5, .ofNat 0, [(.ofNat 1, 2)])] : List sRf), rfOk [s0, s1, s2] hp q := hH.1
  have g0 : hC hp 0 6 = 15 := by
    have u := rfR0 (xv := (15 : Int)) (c0 := 0) (i0 := 6) (hRf _ (.head _)) (sE_k _ _) (sE_k _ _) (sE_k _ _)
    show hC hp (0) 6 = 15
    omega
  have g1 : hC hp (hC hp 0 6) 7 = 16 := by
    have u := rfR0 (xv := (16 : Int)) (c0 := hC hp 0 6) (i0 := 7) (hRf _ (.tail _ (.head _))) (by rw [g0]; exact sE_k _ _) (sE_k _ _) (sE_k _ _)
    show hC hp (hC hp 0 6) 7 = 16
    omega
  obtain ⟨i2, e2, l2, h2⟩ := rfL (c0 := hC hp (hC hp 0 6) 7) (iv := s1) (hRf _ (.tail _ (.tail _ (.head _)))) (by rw [g1]; exact sE_k _ _) (sE_V rfl) (sE_V rfl)
  have l2 : i2 < 12 := l2
  have h2 : hL hp (hC hp (hC hp 0 6) 7) i2 = s2 := h2
  have hFc : ∀ q ∈ ([(198, [(.ofNat 0, [(.ofNat 1, 1)]), (.ofNat 0, [(.ofNat 1, 0)])])] : List sFc), fcOk fFS [s0, s1, s2] hp q := hH.2
  have f0 : ∀ j : Nat, j < 12 → (j : Int) < s1 → hL hp (xnm hp) j ≠ s0 := fcX (ys := [s1, s0]) (hFc _ (.head _)) ⟨sE_V rfl, sE_V rfl, trivial⟩
  exact poX (.head _) rfl hR (all_nil) (all_nil) (all_cons ⟨[(s1 + 1), s0], ⟨sEv (y' := ((1 : Int) + ((1 : Int) * s1 + 0))) rfl (by omega), sE_V rfl, trivial⟩, (show ∀ j : Nat, j < 12 → (j : Int) < (s1 + 1) → hL hp (xnm hp) j ≠ s0 from scv_s f0 h2 (by omega) (by omega) (by omega))⟩ (all_nil))
theorem rl165 : ruOk fFS gR165 := by
  intro r hp hO hN hH
  obtain ⟨s0, s1, s2, rfl⟩ := len3 (show r.length = 3 from hN.1)
  have hR := hN.2.1.1
  have hIv : ∀ q ∈ ([(1, .ofNat 0, .ofNat 11)] : sIv), ∃ x, ([s0, s1, s2] : List Int)[q.1]? = some x ∧ q.2.1 ≤ x ∧ x ≤ q.2.2 := hN.2.1.2
  have b0 : (0 : Int) ≤ s1 ∧ s1 ≤ (11 : Int) := ivX (q := (1, .ofNat 0, .ofNat 11)) (y := s1) (hIv _ (.head _)) rfl
  have hCs : ∀ c ∈ ([(.ofNat 1, [(.negSucc 0, 0), (.ofNat 1, 2)])] : List sLn), ∃ x, sE [s0, s1, s2] c = some x ∧ x ≤ 0 := hN.2.2.1
  have c0 : ((1 : Int) + ((-1 : Int) * s0 + ((1 : Int) * s2 + 0))) ≤ 0 := csX (hCs _ (.head _)) rfl
  have hRf : ∀ q ∈ ([((0, .ofNat 0, []), (.ofNat 6, []), 114, .ofNat 15, []), ((98, .ofNat 15, []), (.ofNat 7, []), 115, .ofNat 16, []), ((99, .ofNat 16, []), (.ofNat 0, [(.ofNat 1, 1)]), 5, .ofNat 0, [(.ofNat 1, 2)])] : List sRf), rfOk [s0, s1, s2] hp q := hH.1
  have g0 : hC hp 0 6 = 15 := by
    have u := rfR0 (xv := (15 : Int)) (c0 := 0) (i0 := 6) (hRf _ (.head _)) (sE_k _ _) (sE_k _ _) (sE_k _ _)
    show hC hp (0) 6 = 15
    omega
  have g1 : hC hp (hC hp 0 6) 7 = 16 := by
    have u := rfR0 (xv := (16 : Int)) (c0 := hC hp 0 6) (i0 := 7) (hRf _ (.tail _ (.head _))) (by rw [g0]; exact sE_k _ _) (sE_k _ _) (sE_k _ _)
    show hC hp (hC hp 0 6) 7 = 16
    omega
  obtain ⟨i2, e2, l2, h2⟩ := rfL (c0 := hC hp (hC hp 0 6) 7) (iv := s1) (hRf _ (.tail _ (.tail _ (.head _)))) (by rw [g1]; exact sE_k _ _) (sE_V rfl) (sE_V rfl)
  have l2 : i2 < 12 := l2
  have h2 : hL hp (hC hp (hC hp 0 6) 7) i2 = s2 := h2
  have hFc : ∀ q ∈ ([(198, [(.ofNat 0, [(.ofNat 1, 1)]), (.ofNat 0, [(.ofNat 1, 0)])])] : List sFc), fcOk fFS [s0, s1, s2] hp q := hH.2
  have f0 : ∀ j : Nat, j < 12 → (j : Int) < s1 → hL hp (xnm hp) j ≠ s0 := fcX (ys := [s1, s0]) (hFc _ (.head _)) ⟨sE_V rfl, sE_V rfl, trivial⟩
  exact poX (.head _) rfl hR (all_nil) (all_nil) (all_cons ⟨[(s1 + 1), s0], ⟨sEv (y' := ((1 : Int) + ((1 : Int) * s1 + 0))) rfl (by omega), sE_V rfl, trivial⟩, (show ∀ j : Nat, j < 12 → (j : Int) < (s1 + 1) → hL hp (xnm hp) j ≠ s0 from scv_s f0 h2 (by omega) (by omega) (by omega))⟩ (all_nil))
theorem rl166 : ruOk fFS gR166 := by
  intro r hp hO hN hH
  obtain ⟨s0, s1, s2, s3, rfl⟩ := len4 (show r.length = 4 from hN.1)
  have hR := hN.2.1.1
  have hIv : ∀ q ∈ ([(1, .ofNat 0, .ofNat 11), (3, .negSucc 2147483647, .ofNat 2147483647)] : sIv), ∃ x, ([s0, s1, s2, s3] : List Int)[q.1]? = some x ∧ q.2.1 ≤ x ∧ x ≤ q.2.2 := hN.2.1.2
  have b0 : (0 : Int) ≤ s1 ∧ s1 ≤ (11 : Int) := ivX (q := (1, .ofNat 0, .ofNat 11)) (y := s1) (hIv _ (.head _)) rfl
  have hCs : ∀ c ∈ ([(.ofNat 0, [(.ofNat 1, 0), (.negSucc 0, 2)]), (.ofNat 0, [(.negSucc 0, 0), (.ofNat 1, 2)])] : List sLn), ∃ x, sE [s0, s1, s2, s3] c = some x ∧ x ≤ 0 := hN.2.2.1
  have c0 : ((0 : Int) + ((1 : Int) * s0 + ((-1 : Int) * s2 + 0))) ≤ 0 := csX (hCs _ (.head _)) rfl
  have c1 : ((0 : Int) + ((-1 : Int) * s0 + ((1 : Int) * s2 + 0))) ≤ 0 := csX (hCs _ (.tail _ (.head _))) rfl
  have hRf : ∀ q ∈ ([((43, .ofNat 176, []), (.ofNat 1, []), 114, .ofNat 15, []), ((98, .ofNat 15, []), (.ofNat 7, []), 115, .ofNat 16, []), ((99, .ofNat 16, []), (.ofNat 0, [(.ofNat 1, 1)]), 5, .ofNat 0, [(.ofNat 1, 2)])] : List sRf), rfOk [s0, s1, s2, s3] hp q := hH.1
  have g0 : hC hp 176 1 = 15 := by
    have u := rfR0 (xv := (15 : Int)) (c0 := 176) (i0 := 1) (hRf _ (.head _)) (sE_k _ _) (sE_k _ _) (sE_k _ _)
    show hC hp (176) 1 = 15
    omega
  have g1 : rr hp 1 7 = 16 := by
    have u := rfR0 (xv := (16 : Int)) (c0 := hC hp 176 1) (i0 := 7) (hRf _ (.tail _ (.head _))) (by rw [g0]; exact sE_k _ _) (sE_k _ _) (sE_k _ _)
    show hC hp (hC hp 176 1) 7 = 16
    omega
  obtain ⟨i2, e2, l2, h2⟩ := rfL (c0 := rr hp 1 7) (iv := s1) (hRf _ (.tail _ (.tail _ (.head _)))) (by rw [g1]; exact sE_k _ _) (sE_V rfl) (sE_V rfl)
  have l2 : i2 < 12 := l2
  have h2 : hL hp (rr hp 1 7) i2 = s2 := h2
  have hFc : ∀ q ∈ ([(65, [(.ofNat 0, [(.ofNat 1, 1)]), (.ofNat 0, [(.ofNat 1, 0)])]), (61, [(.ofNat 0, [(.ofNat 1, 3)])])] : List sFc), fcOk fFS [s0, s1, s2, s3] hp q := hH.2
  have f0 : ∀ j : Nat, j < 12 → (j : Int) < s1 → hL hp (rr hp 1 7) j ≠ s0 := fcX (ys := [s1, s0]) (hFc _ (.head _)) ⟨sE_V rfl, sE_V rfl, trivial⟩
  have f1 : dF (XT hp) s3 (fun D => ∀ j : Nat, j < 12 → hL hp (rr hp 1 7) j = cd 32 96 (nm D j)) := fcX (ys := [s3]) (hFc _ (.tail _ (.head _))) ⟨sE_V rfl, trivial⟩
  exact poX (.head _) rfl hR (all_nil) (all_nil) (all_cons ⟨[s3, s0, s1], ⟨sE_V rfl, sE_V rfl, sE_V rfl, trivial⟩, (show dF (XT hp) s3 (fun D => scP D s0 s1) from sc_f f1 h2 l2 e2 (by omega))⟩ (all_nil))
theorem rl167 : ruOk fFS gR167 := by
  intro r hp hO hN hH
  obtain ⟨s0, s1, s2, rfl⟩ := len3 (show r.length = 3 from hN.1)
  have hR := hN.2.1.1
  have hIv : ∀ q ∈ ([(1, .ofNat 0, .ofNat 11)] : sIv), ∃ x, ([s0, s1, s2] : List Int)[q.1]? = some x ∧ q.2.1 ≤ x ∧ x ≤ q.2.2 := hN.2.1.2
  have b0 : (0 : Int) ≤ s1 ∧ s1 ≤ (11 : Int) := ivX (q := (1, .ofNat 0, .ofNat 11)) (y := s1) (hIv _ (.head _)) rfl
  have hCs : ∀ c ∈ ([(.ofNat 0, [(.ofNat 1, 0), (.negSucc 0, 2)]), (.ofNat 0, [(.negSucc 0, 0), (.ofNat 1, 2)])] : List sLn), ∃ x, sE [s0, s1, s2] c = some x ∧ x ≤ 0 := hN.2.2.1
  have c0 : ((0 : Int) + ((1 : Int) * s0 + ((-1 : Int) * s2 + 0))) ≤ 0 := csX (hCs _ (.head _)) rfl
  have c1 : ((0 : Int) + ((-1 : Int) * s0 + ((1 : Int) * s2 + 0))) ≤ 0 := csX (hCs _ (.tail _ (.head _))) rfl
  have hRf : ∀ q ∈ ([((0, .ofNat 0, []), (.ofNat 6, []), 114, .ofNat 15, []), ((98, .ofNat 15, []), (.ofNat 7, []), 115, .ofNat 16, []), ((99, .ofNat 16, []), (.ofNat 0, [(.ofNat 1, 1)]), 5, .ofNat 0, [(.ofNat 1, 2)])] : List sRf), rfOk [s0, s1, s2] hp q := hH.1
  have g0 : hC hp 0 6 = 15 := by
    have u := rfR0 (xv := (15 : Int)) (c0 := 0) (i0 := 6) (hRf _ (.head _)) (sE_k _ _) (sE_k _ _) (sE_k _ _)
    show hC hp (0) 6 = 15
    omega
  have g1 : hC hp (hC hp 0 6) 7 = 16 := by
    have u := rfR0 (xv := (16 : Int)) (c0 := hC hp 0 6) (i0 := 7) (hRf _ (.tail _ (.head _))) (by rw [g0]; exact sE_k _ _) (sE_k _ _) (sE_k _ _)
    show hC hp (hC hp 0 6) 7 = 16
    omega
  obtain ⟨i2, e2, l2, h2⟩ := rfL (c0 := hC hp (hC hp 0 6) 7) (iv := s1) (hRf _ (.tail _ (.tail _ (.head _)))) (by rw [g1]; exact sE_k _ _) (sE_V rfl) (sE_V rfl)
  have l2 : i2 < 12 := l2
  have h2 : hL hp (hC hp (hC hp 0 6) 7) i2 = s2 := h2
  have hFc : ∀ q ∈ ([(198, [(.ofNat 0, [(.ofNat 1, 1)]), (.ofNat 0, [(.ofNat 1, 0)])])] : List sFc), fcOk fFS [s0, s1, s2] hp q := hH.2
  have f0 : ∀ j : Nat, j < 12 → (j : Int) < s1 → hL hp (xnm hp) j ≠ s0 := fcX (ys := [s1, s0]) (hFc _ (.head _)) ⟨sE_V rfl, sE_V rfl, trivial⟩
  exact poX (.head _) rfl hR (all_nil) (all_nil) (all_cons ⟨[s0, s1], ⟨sE_V rfl, sE_V rfl, trivial⟩, (show scW (fun j => hL hp (xnm hp) j) s0 s1 from scv_f f0 h2 l2 e2 (by omega))⟩ (all_nil))
theorem rl168 : ruOk fFS gR168 := by
  intro r hp hO hN hH
  obtain ⟨s0, s1, s2, rfl⟩ := len3 (show r.length = 3 from hN.1)
  have hR := hN.2.1.1
  have hIv : ∀ q ∈ ([(1, .ofNat 0, .ofNat 11)] : sIv), ∃ x, ([s0, s1, s2] : List Int)[q.1]? = some x ∧ q.2.1 ≤ x ∧ x ≤ q.2.2 := hN.2.1.2
  have b0 : (0 : Int) ≤ s1 ∧ s1 ≤ (11 : Int) := ivX (q := (1, .ofNat 0, .ofNat 11)) (y := s1) (hIv _ (.head _)) rfl
  have hCs : ∀ c ∈ ([(.ofNat 1, [(.negSucc 0, 0), (.ofNat 1, 2)])] : List sLn), ∃ x, sE [s0, s1, s2] c = some x ∧ x ≤ 0 := hN.2.2.1
  have c0 : ((1 : Int) + ((-1 : Int) * s0 + ((1 : Int) * s2 + 0))) ≤ 0 := csX (hCs _ (.head _)) rfl
  have hRf : ∀ q ∈ ([((43, .ofNat 176, []), (.ofNat 1, []), 114, .ofNat 15, []), ((98, .ofNat 15, []), (.ofNat 7, []), 115, .ofNat 16, []), ((99, .ofNat 16, []), (.ofNat 0, [(.ofNat 1, 1)]), 5, .ofNat 0, [(.ofNat 1, 2)])] : List sRf), rfOk [s0, s1, s2] hp q := hH.1
  have g0 : hC hp 176 1 = 15 := by
    have u := rfR0 (xv := (15 : Int)) (c0 := 176) (i0 := 1) (hRf _ (.head _)) (sE_k _ _) (sE_k _ _) (sE_k _ _)
    show hC hp (176) 1 = 15
    omega
  have g1 : rr hp 1 7 = 16 := by
    have u := rfR0 (xv := (16 : Int)) (c0 := hC hp 176 1) (i0 := 7) (hRf _ (.tail _ (.head _))) (by rw [g0]; exact sE_k _ _) (sE_k _ _) (sE_k _ _)
    show hC hp (hC hp 176 1) 7 = 16
    omega
  obtain ⟨i2, e2, l2, h2⟩ := rfL (c0 := rr hp 1 7) (iv := s1) (hRf _ (.tail _ (.tail _ (.head _)))) (by rw [g1]; exact sE_k _ _) (sE_V rfl) (sE_V rfl)
  have l2 : i2 < 12 := l2
  have h2 : hL hp (rr hp 1 7) i2 = s2 := h2
  have hFc : ∀ q ∈ ([(65, [(.ofNat 0, [(.ofNat 1, 1)]), (.ofNat 0, [(.ofNat 1, 0)])])] : List sFc), fcOk fFS [s0, s1, s2] hp q := hH.2
  have f0 : ∀ j : Nat, j < 12 → (j : Int) < s1 → hL hp (rr hp 1 7) j ≠ s0 := fcX (ys := [s1, s0]) (hFc _ (.head _)) ⟨sE_V rfl, sE_V rfl, trivial⟩
  exact poX (.head _) rfl hR (all_nil) (all_nil) (all_cons ⟨[(s1 + 1), s0], ⟨sEv (y' := ((1 : Int) + ((1 : Int) * s1 + 0))) rfl (by omega), sE_V rfl, trivial⟩, (show ∀ j : Nat, j < 12 → (j : Int) < (s1 + 1) → hL hp (rr hp 1 7) j ≠ s0 from sw_s f0 h2 (by omega) (by omega) (by omega))⟩ (all_nil))
theorem rl170 : ruOk fFS gR170 := by
  intro r hp hO hN hH
  obtain ⟨s0, s1, rfl⟩ := len2 (show r.length = 2 from hN.1)
  have hR := hN.2.1.1
  have hIv : ∀ q ∈ ([(1, .ofNat 12, .ofNat 12)] : sIv), ∃ x, ([s0, s1] : List Int)[q.1]? = some x ∧ q.2.1 ≤ x ∧ x ≤ q.2.2 := hN.2.1.2
  have b0 : (12 : Int) ≤ s1 ∧ s1 ≤ (12 : Int) := ivX (q := (1, .ofNat 12, .ofNat 12)) (y := s1) (hIv _ (.head _)) rfl
  have hFc : ∀ q ∈ ([(198, [(.ofNat 0, [(.ofNat 1, 1)]), (.ofNat 0, [(.ofNat 1, 0)])])] : List sFc), fcOk fFS [s0, s1] hp q := hH.2
  have f0 : ∀ j : Nat, j < 12 → (j : Int) < s1 → hL hp (xnm hp) j ≠ s0 := fcX (ys := [s1, s0]) (hFc _ (.head _)) ⟨sE_V rfl, sE_V rfl, trivial⟩
  exact poX (.head _) rfl hR (all_nil) (all_nil) (all_cons ⟨[s0, (-1)], ⟨sE_V rfl, sE_k _ _, trivial⟩, (show scW (fun j => hL hp (xnm hp) j) s0 (-1 : Int) from scv_n f0 (by omega))⟩ (all_nil))
theorem rl172 : ruOk fFS gR172 := by
  intro r hp hO hN hH
  obtain ⟨s0, s1, s2, s3, s4, s5, s6, s7, s8, s9, rfl⟩ := len10 (show r.length = 10 from hN.1)
  have hR := hN.2.1.1
  have hIv : ∀ q ∈ ([(1, .negSucc 2147483647, .ofNat 2147483647), (2, .negSucc 2147483647, .ofNat 2147483647), (3, .negSucc 2147483647, .ofNat 2147483647), (4, .negSucc 2147483647, .ofNat 2147483647), (5, .negSucc 2147483647, .ofNat 2147483647), (6, .negSucc 2147483647, .ofNat 2147483647), (7, .negSucc 2147483647, .ofNat 2147483647), (8, .negSucc 2147483647, .ofNat 2147483647), (9, .negSucc 2147483647, .ofNat 2147483647)] : sIv), ∃ x, ([s0, s1, s2, s3, s4, s5, s6, s7, s8, s9] : List Int)[q.1]? = some x ∧ q.2.1 ≤ x ∧ x ≤ q.2.2 := hN.2.1.2
  have hRf : ∀ q ∈ ([((40, .ofNat 173, []), (.ofNat 8, []), 5, .ofNat 0, [(.ofNat 1, 0)])] : List sRf), rfOk [s0, s1, s2, s3, s4, s5, s6, s7, s8, s9] hp q := hH.1
  have h0 : hL hp 173 8 = s0 := rfL0 (hRf _ (.head _)) (sE_k _ _) (sE_k _ _) (sE_V rfl)
  have hFc : ∀ q ∈ ([(192, [(.ofNat 0, [(.ofNat 1, 1)]), (.ofNat 0, [(.ofNat 1, 2)]), (.ofNat 0, [(.ofNat 1, 3)]), (.ofNat 0, [(.ofNat 1, 4)]), (.ofNat 0, [(.ofNat 1, 5)]), (.ofNat 0, [(.ofNat 1, 6)]), (.ofNat 0, [(.ofNat 1, 7)]), (.ofNat 0, [(.ofNat 1, 8)])]), (195, [(.ofNat 0, [(.ofNat 1, 0)]), (.ofNat 0, [(.ofNat 1, 9)])]), (48, [(.ofNat 0, [(.ofNat 1, 6)]), (.ofNat 0, [(.ofNat 1, 7)])])] : List sFc), fcOk fFS [s0, s1, s2, s3, s4, s5, s6, s7, s8, s9] hp q := hH.2
  have f0 : SHq (XT hp) (nmR hp (xnm hp)) s1 s2 s3 s4 s5 s6 s7 s8 ∧ s5 ≠ 4 := fcX (ys := [s1, s2, s3, s4, s5, s6, s7, s8]) (hFc _ (.head _)) ⟨sE_V rfl, sE_V rfl, sE_V rfl, sE_V rfl, sE_V rfl, sE_V rfl, sE_V rfl, sE_V rfl, trivial⟩
  have f1 : scW (fun j => hL hp (xnm hp) j) s0 s9 := fcX (ys := [s0, s9]) (hFc _ (.tail _ (.head _))) ⟨sE_V rfl, sE_V rfl, trivial⟩
  have f2 : isW (bs (XB hp) s6 s7) ∧ hL hp 173 8 = cd 32 96 (bs (XB hp) s6 s7) := fcX (ys := [s6, s7]) (hFc _ (.tail _ (.tail _ (.head _)))) ⟨sE_V rfl, sE_V rfl, trivial⟩
  exact poX (.head _) rfl hR (all_nil) (all_nil) (all_cons ⟨[s6, s7, s9], ⟨sE_V rfl, sE_V rfl, sE_V rfl, trivial⟩, (show scW (fun j => hL hp (xnm hp) j) (cd 32 96 (bs (XT hp).1 s6 s7)) s9 from slv_x hO f0 f1 f2 h0)⟩ (all_nil))
theorem rl174 : ruOk fFS gR174 := by
  intro r hp hO hN hH
  obtain ⟨s0, s1, s2, s3, s4, s5, s6, s7, s8, rfl⟩ := len9 (show r.length = 9 from hN.1)
  have hR := hN.2.1.1
  have hIv : ∀ q ∈ ([(0, .negSucc 2147483647, .ofNat 2147483647), (1, .negSucc 2147483647, .ofNat 2147483647), (2, .ofNat 1, .ofNat 1), (3, .negSucc 2147483647, .ofNat 2147483647), (4, .negSucc 2147483647, .ofNat 2147483647), (5, .ofNat 1, .ofNat 1), (6, .negSucc 2147483647, .ofNat 2147483647), (7, .negSucc 2147483647, .ofNat 2147483647), (8, .negSucc 0, .negSucc 0)] : sIv), ∃ x, ([s0, s1, s2, s3, s4, s5, s6, s7, s8] : List Int)[q.1]? = some x ∧ q.2.1 ≤ x ∧ x ≤ q.2.2 := hN.2.1.2
  have b2 : (1 : Int) ≤ s2 ∧ s2 ≤ (1 : Int) := ivX (q := (2, .ofNat 1, .ofNat 1)) (y := s2) (hIv _ (.tail _ (.tail _ (.head _)))) rfl
  have b5 : (1 : Int) ≤ s5 ∧ s5 ≤ (1 : Int) := ivX (q := (5, .ofNat 1, .ofNat 1)) (y := s5) (hIv _ (.tail _ (.tail _ (.tail _ (.tail _ (.tail _ (.head _))))))) rfl
  have b8 : (-1 : Int) ≤ s8 ∧ s8 ≤ (-1 : Int) := ivX (q := (8, .negSucc 0, .negSucc 0)) (y := s8) (hIv _ (.tail _ (.tail _ (.tail _ (.tail _ (.tail _ (.tail _ (.tail _ (.tail _ (.head _)))))))))) rfl
  have hCs : ∀ c ∈ ([(.ofNat 1, [(.ofNat 1, 0)])] : List sLn), ∃ x, sE [s0, s1, s2, s3, s4, s5, s6, s7, s8] c = some x ∧ x ≤ 0 := hN.2.2.1
  have c0 : ((1 : Int) + ((1 : Int) * s0 + 0)) ≤ 0 := csX (hCs _ (.head _)) rfl
  have hFc : ∀ q ∈ ([(192, [(.ofNat 0, [(.ofNat 1, 1)]), (.ofNat 0, [(.ofNat 1, 2)]), (.ofNat 0, [(.ofNat 1, 3)]), (.ofNat 0, [(.ofNat 1, 4)]), (.ofNat 0, [(.ofNat 1, 5)]), (.ofNat 0, [(.ofNat 1, 6)]), (.ofNat 0, [(.ofNat 1, 7)]), (.ofNat 0, [(.ofNat 1, 8)])]), (194, [(.ofNat 0, [(.ofNat 1, 6)]), (.ofNat 0, [(.ofNat 1, 7)]), (.ofNat 7, [(.ofNat 1, 0)])])] : List sFc), fcOk fFS [s0, s1, s2, s3, s4, s5, s6, s7, s8] hp q := hH.2
  have f0 : SHq (XT hp) (nmR hp (xnm hp)) s1 s2 s3 s4 s5 s6 s7 s8 ∧ s5 ≠ 4 := fcX (ys := [s1, s2, s3, s4, s5, s6, s7, s8]) (hFc _ (.head _)) ⟨sE_V rfl, sE_V rfl, sE_V rfl, sE_V rfl, sE_V rfl, sE_V rfl, sE_V rfl, sE_V rfl, trivial⟩
  have f1 : scW (fun j => hL hp (xnm hp) j) (cd 32 96 (bs (XT hp).1 s6 s7)) (s0 + 7) := fcX (ys := [s6, s7, (s0 + 7)]) (hFc _ (.tail _ (.head _))) ⟨sE_V rfl, sE_V rfl, sEv (y' := ((7 : Int) + ((1 : Int) * s0 + 0))) rfl (by omega), trivial⟩
  exact poX (.head _) rfl hR (all_nil) (all_nil) (all_cons ⟨[3, s6], ⟨sE_k _ _, sE_V rfl, trivial⟩, (show SRS (XT hp) (nmR hp (xnm hp)) (3 : Int) s6 from sn_f3 f0.1 (by unfold sNc; omega) (by omega) (by omega) (nmX_no f1 (by unfold sRg; omega)))⟩ (all_nil))
theorem rl175 : ruOk fFS gR175 := by
  intro r hp hO hN hH
  obtain ⟨s0, s1, s2, s3, s4, s5, s6, s7, s8, rfl⟩ := len9 (show r.length = 9 from hN.1)
  have hR := hN.2.1.1
  have hIv : ∀ q ∈ ([(0, .negSucc 2147483647, .ofNat 2147483647), (1, .negSucc 2147483647, .ofNat 2147483647), (2, .ofNat 1, .ofNat 1), (3, .negSucc 2147483647, .ofNat 2147483647), (4, .negSucc 2147483647, .ofNat 2147483647), (5, .ofNat 1, .ofNat 1), (6, .negSucc 2147483647, .ofNat 2147483647), (7, .negSucc 2147483647, .ofNat 2147483647), (8, .negSucc 0, .negSucc 0)] : sIv), ∃ x, ([s0, s1, s2, s3, s4, s5, s6, s7, s8] : List Int)[q.1]? = some x ∧ q.2.1 ≤ x ∧ x ≤ q.2.2 := hN.2.1.2
  have b2 : (1 : Int) ≤ s2 ∧ s2 ≤ (1 : Int) := ivX (q := (2, .ofNat 1, .ofNat 1)) (y := s2) (hIv _ (.tail _ (.tail _ (.head _)))) rfl
  have b5 : (1 : Int) ≤ s5 ∧ s5 ≤ (1 : Int) := ivX (q := (5, .ofNat 1, .ofNat 1)) (y := s5) (hIv _ (.tail _ (.tail _ (.tail _ (.tail _ (.tail _ (.head _))))))) rfl
  have b8 : (-1 : Int) ≤ s8 ∧ s8 ≤ (-1 : Int) := ivX (q := (8, .negSucc 0, .negSucc 0)) (y := s8) (hIv _ (.tail _ (.tail _ (.tail _ (.tail _ (.tail _ (.tail _ (.tail _ (.tail _ (.head _)))))))))) rfl
  have hCs : ∀ c ∈ ([(.ofNat 5, [(.negSucc 0, 0)])] : List sLn), ∃ x, sE [s0, s1, s2, s3, s4, s5, s6, s7, s8] c = some x ∧ x ≤ 0 := hN.2.2.1
  have c0 : ((5 : Int) + ((-1 : Int) * s0 + 0)) ≤ 0 := csX (hCs _ (.head _)) rfl
  have hFc : ∀ q ∈ ([(192, [(.ofNat 0, [(.ofNat 1, 1)]), (.ofNat 0, [(.ofNat 1, 2)]), (.ofNat 0, [(.ofNat 1, 3)]), (.ofNat 0, [(.ofNat 1, 4)]), (.ofNat 0, [(.ofNat 1, 5)]), (.ofNat 0, [(.ofNat 1, 6)]), (.ofNat 0, [(.ofNat 1, 7)]), (.ofNat 0, [(.ofNat 1, 8)])]), (194, [(.ofNat 0, [(.ofNat 1, 6)]), (.ofNat 0, [(.ofNat 1, 7)]), (.ofNat 7, [(.ofNat 1, 0)])])] : List sFc), fcOk fFS [s0, s1, s2, s3, s4, s5, s6, s7, s8] hp q := hH.2
  have f0 : SHq (XT hp) (nmR hp (xnm hp)) s1 s2 s3 s4 s5 s6 s7 s8 ∧ s5 ≠ 4 := fcX (ys := [s1, s2, s3, s4, s5, s6, s7, s8]) (hFc _ (.head _)) ⟨sE_V rfl, sE_V rfl, sE_V rfl, sE_V rfl, sE_V rfl, sE_V rfl, sE_V rfl, sE_V rfl, trivial⟩
  have f1 : scW (fun j => hL hp (xnm hp) j) (cd 32 96 (bs (XT hp).1 s6 s7)) (s0 + 7) := fcX (ys := [s6, s7, (s0 + 7)]) (hFc _ (.tail _ (.head _))) ⟨sE_V rfl, sE_V rfl, sEv (y' := ((7 : Int) + ((1 : Int) * s0 + 0))) rfl (by omega), trivial⟩
  exact poX (.head _) rfl hR (all_nil) (all_nil) (all_cons ⟨[3, s6], ⟨sE_k _ _, sE_V rfl, trivial⟩, (show SRS (XT hp) (nmR hp (xnm hp)) (3 : Int) s6 from sn_f3 f0.1 (by unfold sNc; omega) (by omega) (by omega) (nmX_no f1 (by unfold sRg; omega)))⟩ (all_nil))
theorem rl176 : ruOk fFS gR176 := by
  intro r hp hO hN hH
  obtain ⟨s0, s1, s2, s3, s4, s5, s6, s7, s8, rfl⟩ := len9 (show r.length = 9 from hN.1)
  have hR := hN.2.1.1
  have hIv : ∀ q ∈ ([(0, .negSucc 2147483647, .ofNat 2147483647), (1, .negSucc 2147483647, .ofNat 2147483647), (2, .ofNat 2, .ofNat 2), (3, .negSucc 2147483647, .ofNat 2147483647), (4, .negSucc 2147483647, .ofNat 2147483647), (5, .ofNat 1, .ofNat 1), (6, .negSucc 2147483647, .ofNat 2147483647), (7, .negSucc 2147483647, .ofNat 2147483647), (8, .negSucc 0, .negSucc 0)] : sIv), ∃ x, ([s0, s1, s2, s3, s4, s5, s6, s7, s8] : List Int)[q.1]? = some x ∧ q.2.1 ≤ x ∧ x ≤ q.2.2 := hN.2.1.2
  have b2 : (2 : Int) ≤ s2 ∧ s2 ≤ (2 : Int) := ivX (q := (2, .ofNat 2, .ofNat 2)) (y := s2) (hIv _ (.tail _ (.tail _ (.head _)))) rfl
  have b5 : (1 : Int) ≤ s5 ∧ s5 ≤ (1 : Int) := ivX (q := (5, .ofNat 1, .ofNat 1)) (y := s5) (hIv _ (.tail _ (.tail _ (.tail _ (.tail _ (.tail _ (.head _))))))) rfl
  have b8 : (-1 : Int) ≤ s8 ∧ s8 ≤ (-1 : Int) := ivX (q := (8, .negSucc 0, .negSucc 0)) (y := s8) (hIv _ (.tail _ (.tail _ (.tail _ (.tail _ (.tail _ (.tail _ (.tail _ (.tail _ (.head _)))))))))) rfl
  have hCs : ∀ c ∈ ([(.ofNat 1, [(.ofNat 1, 0)])] : List sLn), ∃ x, sE [s0, s1, s2, s3, s4, s5, s6, s7, s8] c = some x ∧ x ≤ 0 := hN.2.2.1
  have c0 : ((1 : Int) + ((1 : Int) * s0 + 0)) ≤ 0 := csX (hCs _ (.head _)) rfl
  have hFc : ∀ q ∈ ([(192, [(.ofNat 0, [(.ofNat 1, 1)]), (.ofNat 0, [(.ofNat 1, 2)]), (.ofNat 0, [(.ofNat 1, 3)]), (.ofNat 0, [(.ofNat 1, 4)]), (.ofNat 0, [(.ofNat 1, 5)]), (.ofNat 0, [(.ofNat 1, 6)]), (.ofNat 0, [(.ofNat 1, 7)]), (.ofNat 0, [(.ofNat 1, 8)])]), (194, [(.ofNat 0, [(.ofNat 1, 6)]), (.ofNat 0, [(.ofNat 1, 7)]), (.ofNat 0, [(.ofNat 1, 0)])])] : List sFc), fcOk fFS [s0, s1, s2, s3, s4, s5, s6, s7, s8] hp q := hH.2
  have f0 : SHq (XT hp) (nmR hp (xnm hp)) s1 s2 s3 s4 s5 s6 s7 s8 ∧ s5 ≠ 4 := fcX (ys := [s1, s2, s3, s4, s5, s6, s7, s8]) (hFc _ (.head _)) ⟨sE_V rfl, sE_V rfl, sE_V rfl, sE_V rfl, sE_V rfl, sE_V rfl, sE_V rfl, sE_V rfl, trivial⟩
  have f1 : scW (fun j => hL hp (xnm hp) j) (cd 32 96 (bs (XT hp).1 s6 s7)) s0 := fcX (ys := [s6, s7, s0]) (hFc _ (.tail _ (.head _))) ⟨sE_V rfl, sE_V rfl, sE_V rfl, trivial⟩
  exact poX (.head _) rfl hR (all_nil) (all_nil) (all_cons ⟨[3, s6], ⟨sE_k _ _, sE_V rfl, trivial⟩, (show SRS (XT hp) (nmR hp (xnm hp)) (3 : Int) s6 from sn_f3 f0.1 (by unfold sNc; omega) (by omega) (by omega) (nmX_no f1 (by unfold sRg; omega)))⟩ (all_nil))
theorem rl177 : ruOk fFS gR177 := by
  intro r hp hO hN hH
  obtain ⟨s0, s1, s2, s3, s4, s5, s6, s7, s8, rfl⟩ := len9 (show r.length = 9 from hN.1)
  have hR := hN.2.1.1
  have hIv : ∀ q ∈ ([(0, .negSucc 2147483647, .ofNat 2147483647), (1, .negSucc 2147483647, .ofNat 2147483647), (2, .ofNat 2, .ofNat 2), (3, .negSucc 2147483647, .ofNat 2147483647), (4, .negSucc 2147483647, .ofNat 2147483647), (5, .ofNat 1, .ofNat 1), (6, .negSucc 2147483647, .ofNat 2147483647), (7, .negSucc 2147483647, .ofNat 2147483647), (8, .negSucc 0, .negSucc 0)] : sIv), ∃ x, ([s0, s1, s2, s3, s4, s5, s6, s7, s8] : List Int)[q.1]? = some x ∧ q.2.1 ≤ x ∧ x ≤ q.2.2 := hN.2.1.2
  have b2 : (2 : Int) ≤ s2 ∧ s2 ≤ (2 : Int) := ivX (q := (2, .ofNat 2, .ofNat 2)) (y := s2) (hIv _ (.tail _ (.tail _ (.head _)))) rfl
  have b5 : (1 : Int) ≤ s5 ∧ s5 ≤ (1 : Int) := ivX (q := (5, .ofNat 1, .ofNat 1)) (y := s5) (hIv _ (.tail _ (.tail _ (.tail _ (.tail _ (.tail _ (.head _))))))) rfl
  have b8 : (-1 : Int) ≤ s8 ∧ s8 ≤ (-1 : Int) := ivX (q := (8, .negSucc 0, .negSucc 0)) (y := s8) (hIv _ (.tail _ (.tail _ (.tail _ (.tail _ (.tail _ (.tail _ (.tail _ (.tail _ (.head _)))))))))) rfl
  have hCs : ∀ c ∈ ([(.ofNat 4, [(.negSucc 0, 0)])] : List sLn), ∃ x, sE [s0, s1, s2, s3, s4, s5, s6, s7, s8] c = some x ∧ x ≤ 0 := hN.2.2.1
  have c0 : ((4 : Int) + ((-1 : Int) * s0 + 0)) ≤ 0 := csX (hCs _ (.head _)) rfl
  have hFc : ∀ q ∈ ([(192, [(.ofNat 0, [(.ofNat 1, 1)]), (.ofNat 0, [(.ofNat 1, 2)]), (.ofNat 0, [(.ofNat 1, 3)]), (.ofNat 0, [(.ofNat 1, 4)]), (.ofNat 0, [(.ofNat 1, 5)]), (.ofNat 0, [(.ofNat 1, 6)]), (.ofNat 0, [(.ofNat 1, 7)]), (.ofNat 0, [(.ofNat 1, 8)])]), (194, [(.ofNat 0, [(.ofNat 1, 6)]), (.ofNat 0, [(.ofNat 1, 7)]), (.ofNat 0, [(.ofNat 1, 0)])])] : List sFc), fcOk fFS [s0, s1, s2, s3, s4, s5, s6, s7, s8] hp q := hH.2
  have f0 : SHq (XT hp) (nmR hp (xnm hp)) s1 s2 s3 s4 s5 s6 s7 s8 ∧ s5 ≠ 4 := fcX (ys := [s1, s2, s3, s4, s5, s6, s7, s8]) (hFc _ (.head _)) ⟨sE_V rfl, sE_V rfl, sE_V rfl, sE_V rfl, sE_V rfl, sE_V rfl, sE_V rfl, sE_V rfl, trivial⟩
  have f1 : scW (fun j => hL hp (xnm hp) j) (cd 32 96 (bs (XT hp).1 s6 s7)) s0 := fcX (ys := [s6, s7, s0]) (hFc _ (.tail _ (.head _))) ⟨sE_V rfl, sE_V rfl, sE_V rfl, trivial⟩
  exact poX (.head _) rfl hR (all_nil) (all_nil) (all_cons ⟨[3, s6], ⟨sE_k _ _, sE_V rfl, trivial⟩, (show SRS (XT hp) (nmR hp (xnm hp)) (3 : Int) s6 from sn_f3 f0.1 (by unfold sNc; omega) (by omega) (by omega) (nmX_no f1 (by unfold sRg; omega)))⟩ (all_nil))
theorem rl178 : ruOk fFS gR178 := by
  intro r hp hO hN hH
  obtain ⟨s0, s1, s2, s3, s4, s5, s6, s7, s8, rfl⟩ := len9 (show r.length = 9 from hN.1)
  have hR := hN.2.1.1
  have hIv : ∀ q ∈ ([(0, .negSucc 2147483647, .ofNat 2147483647), (1, .negSucc 2147483647, .ofNat 2147483647), (2, .ofNat 3, .ofNat 3), (3, .negSucc 2147483647, .ofNat 2147483647), (4, .negSucc 2147483647, .ofNat 2147483647), (5, .ofNat 1, .ofNat 1), (6, .negSucc 2147483647, .ofNat 2147483647), (7, .negSucc 2147483647, .ofNat 2147483647), (8, .negSucc 0, .negSucc 0)] : sIv), ∃ x, ([s0, s1, s2, s3, s4, s5, s6, s7, s8] : List Int)[q.1]? = some x ∧ q.2.1 ≤ x ∧ x ≤ q.2.2 := hN.2.1.2
  have b2 : (3 : Int) ≤ s2 ∧ s2 ≤ (3 : Int) := ivX (q := (2, .ofNat 3, .ofNat 3)) (y := s2) (hIv _ (.tail _ (.tail _ (.head _)))) rfl
  have b5 : (1 : Int) ≤ s5 ∧ s5 ≤ (1 : Int) := ivX (q := (5, .ofNat 1, .ofNat 1)) (y := s5) (hIv _ (.tail _ (.tail _ (.tail _ (.tail _ (.tail _ (.head _))))))) rfl
  have b8 : (-1 : Int) ≤ s8 ∧ s8 ≤ (-1 : Int) := ivX (q := (8, .negSucc 0, .negSucc 0)) (y := s8) (hIv _ (.tail _ (.tail _ (.tail _ (.tail _ (.tail _ (.tail _ (.tail _ (.tail _ (.head _)))))))))) rfl
  have hCs : ∀ c ∈ ([(.ofNat 1, [(.ofNat 1, 0)])] : List sLn), ∃ x, sE [s0, s1, s2, s3, s4, s5, s6, s7, s8] c = some x ∧ x ≤ 0 := hN.2.2.1
  have c0 : ((1 : Int) + ((1 : Int) * s0 + 0)) ≤ 0 := csX (hCs _ (.head _)) rfl
  have hFc : ∀ q ∈ ([(192, [(.ofNat 0, [(.ofNat 1, 1)]), (.ofNat 0, [(.ofNat 1, 2)]), (.ofNat 0, [(.ofNat 1, 3)]), (.ofNat 0, [(.ofNat 1, 4)]), (.ofNat 0, [(.ofNat 1, 5)]), (.ofNat 0, [(.ofNat 1, 6)]), (.ofNat 0, [(.ofNat 1, 7)]), (.ofNat 0, [(.ofNat 1, 8)])]), (194, [(.ofNat 0, [(.ofNat 1, 6)]), (.ofNat 0, [(.ofNat 1, 7)]), (.ofNat 4, [(.ofNat 1, 0)])])] : List sFc), fcOk fFS [s0, s1, s2, s3, s4, s5, s6, s7, s8] hp q := hH.2
  have f0 : SHq (XT hp) (nmR hp (xnm hp)) s1 s2 s3 s4 s5 s6 s7 s8 ∧ s5 ≠ 4 := fcX (ys := [s1, s2, s3, s4, s5, s6, s7, s8]) (hFc _ (.head _)) ⟨sE_V rfl, sE_V rfl, sE_V rfl, sE_V rfl, sE_V rfl, sE_V rfl, sE_V rfl, sE_V rfl, trivial⟩
  have f1 : scW (fun j => hL hp (xnm hp) j) (cd 32 96 (bs (XT hp).1 s6 s7)) (s0 + 4) := fcX (ys := [s6, s7, (s0 + 4)]) (hFc _ (.tail _ (.head _))) ⟨sE_V rfl, sE_V rfl, sEv (y' := ((4 : Int) + ((1 : Int) * s0 + 0))) rfl (by omega), trivial⟩
  exact poX (.head _) rfl hR (all_nil) (all_nil) (all_cons ⟨[3, s6], ⟨sE_k _ _, sE_V rfl, trivial⟩, (show SRS (XT hp) (nmR hp (xnm hp)) (3 : Int) s6 from sn_f3 f0.1 (by unfold sNc; omega) (by omega) (by omega) (nmX_no f1 (by unfold sRg; omega)))⟩ (all_nil))
theorem rl179 : ruOk fFS gR179 := by
  intro r hp hO hN hH
  obtain ⟨s0, s1, s2, s3, s4, s5, s6, s7, s8, rfl⟩ := len9 (show r.length = 9 from hN.1)
  have hR := hN.2.1.1
  have hIv : ∀ q ∈ ([(0, .negSucc 2147483647, .ofNat 2147483647), (1, .negSucc 2147483647, .ofNat 2147483647), (2, .ofNat 3, .ofNat 3), (3, .negSucc 2147483647, .ofNat 2147483647), (4, .negSucc 2147483647, .ofNat 2147483647), (5, .ofNat 1, .ofNat 1), (6, .negSucc 2147483647, .ofNat 2147483647), (7, .negSucc 2147483647, .ofNat 2147483647), (8, .negSucc 0, .negSucc 0)] : sIv), ∃ x, ([s0, s1, s2, s3, s4, s5, s6, s7, s8] : List Int)[q.1]? = some x ∧ q.2.1 ≤ x ∧ x ≤ q.2.2 := hN.2.1.2
  have b2 : (3 : Int) ≤ s2 ∧ s2 ≤ (3 : Int) := ivX (q := (2, .ofNat 3, .ofNat 3)) (y := s2) (hIv _ (.tail _ (.tail _ (.head _)))) rfl
  have b5 : (1 : Int) ≤ s5 ∧ s5 ≤ (1 : Int) := ivX (q := (5, .ofNat 1, .ofNat 1)) (y := s5) (hIv _ (.tail _ (.tail _ (.tail _ (.tail _ (.tail _ (.head _))))))) rfl
  have b8 : (-1 : Int) ≤ s8 ∧ s8 ≤ (-1 : Int) := ivX (q := (8, .negSucc 0, .negSucc 0)) (y := s8) (hIv _ (.tail _ (.tail _ (.tail _ (.tail _ (.tail _ (.tail _ (.tail _ (.tail _ (.head _)))))))))) rfl
  have hCs : ∀ c ∈ ([(.ofNat 3, [(.negSucc 0, 0)])] : List sLn), ∃ x, sE [s0, s1, s2, s3, s4, s5, s6, s7, s8] c = some x ∧ x ≤ 0 := hN.2.2.1
  have c0 : ((3 : Int) + ((-1 : Int) * s0 + 0)) ≤ 0 := csX (hCs _ (.head _)) rfl
  have hFc : ∀ q ∈ ([(192, [(.ofNat 0, [(.ofNat 1, 1)]), (.ofNat 0, [(.ofNat 1, 2)]), (.ofNat 0, [(.ofNat 1, 3)]), (.ofNat 0, [(.ofNat 1, 4)]), (.ofNat 0, [(.ofNat 1, 5)]), (.ofNat 0, [(.ofNat 1, 6)]), (.ofNat 0, [(.ofNat 1, 7)]), (.ofNat 0, [(.ofNat 1, 8)])]), (194, [(.ofNat 0, [(.ofNat 1, 6)]), (.ofNat 0, [(.ofNat 1, 7)]), (.ofNat 4, [(.ofNat 1, 0)])])] : List sFc), fcOk fFS [s0, s1, s2, s3, s4, s5, s6, s7, s8] hp q := hH.2
  have f0 : SHq (XT hp) (nmR hp (xnm hp)) s1 s2 s3 s4 s5 s6 s7 s8 ∧ s5 ≠ 4 := fcX (ys := [s1, s2, s3, s4, s5, s6, s7, s8]) (hFc _ (.head _)) ⟨sE_V rfl, sE_V rfl, sE_V rfl, sE_V rfl, sE_V rfl, sE_V rfl, sE_V rfl, sE_V rfl, trivial⟩
  have f1 : scW (fun j => hL hp (xnm hp) j) (cd 32 96 (bs (XT hp).1 s6 s7)) (s0 + 4) := fcX (ys := [s6, s7, (s0 + 4)]) (hFc _ (.tail _ (.head _))) ⟨sE_V rfl, sE_V rfl, sEv (y' := ((4 : Int) + ((1 : Int) * s0 + 0))) rfl (by omega), trivial⟩
  exact poX (.head _) rfl hR (all_nil) (all_nil) (all_cons ⟨[3, s6], ⟨sE_k _ _, sE_V rfl, trivial⟩, (show SRS (XT hp) (nmR hp (xnm hp)) (3 : Int) s6 from sn_f3 f0.1 (by unfold sNc; omega) (by omega) (by omega) (nmX_no f1 (by unfold sRg; omega)))⟩ (all_nil))
theorem rl191 : ruOk fFS gR191 := by
  intro r hp hO hN hH
  obtain ⟨s0, s1, s2, s3, s4, s5, s6, s7, s8, s9, s10, s11, s12, s13, s14, rfl⟩ := len15 (show r.length = 15 from hN.1)
  have hR := hN.2.1.1
  have hIv : ∀ q ∈ ([(0, .ofNat 0, .ofNat 11), (2, .negSucc 2147483647, .ofNat 2147483647), (3, .negSucc 2147483647, .ofNat 2147483647), (4, .negSucc 2147483647, .ofNat 2147483647), (5, .negSucc 2147483647, .ofNat 2147483647), (6, .negSucc 2147483647, .ofNat 2147483647), (7, .negSucc 2147483647, .ofNat 2147483647), (8, .negSucc 2147483647, .ofNat 2147483647), (9, .negSucc 2147483647, .ofNat 2147483647), (10, .negSucc 2147483647, .ofNat 2147483647), (11, .negSucc 2147483647, .ofNat 2147483647), (12, .negSucc 2147483647, .ofNat 2147483647), (13, .negSucc 2147483647, .ofNat 2147483647), (14, .negSucc 2147483647, .ofNat 2147483647)] : sIv), ∃ x, ([s0, s1, s2, s3, s4, s5, s6, s7, s8, s9, s10, s11, s12, s13, s14] : List Int)[q.1]? = some x ∧ q.2.1 ≤ x ∧ x ≤ q.2.2 := hN.2.1.2
  have b0 : (0 : Int) ≤ s0 ∧ s0 ≤ (11 : Int) := ivX (q := (0, .ofNat 0, .ofNat 11)) (y := s0) (hIv _ (.head _)) rfl
  have hRf : ∀ q ∈ ([((43, .ofNat 176, []), (.ofNat 1, []), 114, .ofNat 15, []), ((98, .ofNat 15, []), (.ofNat 7, []), 19, .ofNat 3, []), ((3, .ofNat 3, []), (.ofNat 0, [(.ofNat 1, 0)]), 5, .ofNat 0, [(.ofNat 1, 1)]), ((40, .ofNat 173, []), (.ofNat 8, []), 5, .ofNat 0, [(.ofNat 1, 1)])] : List sRf), rfOk [s0, s1, s2, s3, s4, s5, s6, s7, s8, s9, s10, s11, s12, s13, s14] hp q := hH.1
  have g0 : hC hp 176 1 = 15 := by
    have u := rfR0 (xv := (15 : Int)) (c0 := 176) (i0 := 1) (hRf _ (.head _)) (sE_k _ _) (sE_k _ _) (sE_k _ _)
    show hC hp (176) 1 = 15
    omega
  have g1 : rr hp 1 7 = 3 := by
    have u := rfR0 (xv := (3 : Int)) (c0 := hC hp 176 1) (i0 := 7) (hRf _ (.tail _ (.head _))) (by rw [g0]; exact sE_k _ _) (sE_k _ _) (sE_k _ _)
    show hC hp (hC hp 176 1) 7 = 3
    omega
  obtain ⟨i2, e2, l2, h2⟩ := rfL (c0 := rr hp 1 7) (iv := s0) (hRf _ (.tail _ (.tail _ (.head _)))) (by rw [g1]; exact sE_k _ _) (sE_V rfl) (sE_V rfl)
  have l2 : i2 < 12 := l2
  have h2 : hL hp (rr hp 1 7) i2 = s1 := h2
  have h3 : hL hp 173 8 = s1 := rfL0 (hRf _ (.tail _ (.tail _ (.tail _ (.head _))))) (sE_k _ _) (sE_k _ _) (sE_V rfl)
  have hFc : ∀ q ∈ ([(62, [(.ofNat 0, [(.ofNat 1, 0)]), (.ofNat 0, [(.ofNat 1, 2)])]), (63, [(.ofNat 1, [(.ofNat 1, 0)]), (.ofNat 0, [(.ofNat 1, 2)])]), (53, [(.ofNat 0, [(.ofNat 1, 3)]), (.ofNat 0, [(.ofNat 1, 4)]), (.ofNat 0, [(.ofNat 1, 2)]), (.ofNat 0, [(.ofNat 1, 5)]), (.ofNat 0, [(.ofNat 1, 6)]), (.ofNat 0, [(.ofNat 1, 7)]), (.ofNat 0, [(.ofNat 1, 8)]), (.ofNat 0, [(.ofNat 1, 9)]), (.ofNat 0, [(.ofNat 1, 10)]), (.ofNat 0, [(.ofNat 1, 11)]), (.ofNat 0, [(.ofNat 1, 12)]), (.ofNat 0, [(.ofNat 1, 13)]), (.ofNat 0, [(.ofNat 1, 14)])]), (48, [(.ofNat 0, [(.ofNat 1, 12)]), (.ofNat 0, [(.ofNat 1, 13)])])] : List sFc), fcOk fFS [s0, s1, s2, s3, s4, s5, s6, s7, s8, s9, s10, s11, s12, s13, s14] hp q := hH.2
  have f0 : dF (XT hp) s2 (fun D => ∀ j : Nat, j < 12 → (j : Int) < s0 → hL hp (rr hp 1 7) j = cd 32 96 (nm D j)) := fcX (ys := [s0, s2]) (hFc _ (.head _)) ⟨sE_V rfl, sE_V rfl, trivial⟩
  have f1 : dF (XT hp) s2 (fun D => ∀ j : Nat, j < 12 → (s0 + 1) ≤ (j : Int) → hL hp (rr hp 1 7) j = cd 32 96 (nm D j)) := fcX (ys := [(s0 + 1), s2]) (hFc _ (.tail _ (.head _))) ⟨sEv (y' := ((1 : Int) + ((1 : Int) * s0 + 0))) rfl (by omega), sE_V rfl, trivial⟩
  have f2 : Hq (XT hp) s3 s4 s2 s5 s6 s7 s8 s9 s10 s11 s12 s13 s14 ∧ s11 ≠ 4 := fcX (ys := [s3, s4, s2, s5, s6, s7, s8, s9, s10, s11, s12, s13, s14]) (hFc _ (.tail _ (.tail _ (.head _)))) ⟨sE_V rfl, sE_V rfl, sE_V rfl, sE_V rfl, sE_V rfl, sE_V rfl, sE_V rfl, sE_V rfl, sE_V rfl, sE_V rfl, sE_V rfl, sE_V rfl, sE_V rfl, trivial⟩
  have f3 : isW (bs (XB hp) s12 s13) ∧ hL hp 173 8 = cd 32 96 (bs (XB hp) s12 s13) := fcX (ys := [s12, s13]) (hFc _ (.tail _ (.tail _ (.tail _ (.head _))))) ⟨sE_V rfl, sE_V rfl, trivial⟩
  exact poX (.head _) rfl hR (all_nil) (all_nil) (all_cons ⟨[s0, s2, s12, s13], ⟨sE_V rfl, sE_V rfl, sE_V rfl, sE_V rfl, trivial⟩, (show dF (XT hp) s2 (fun D => ∀ j : Nat, j < 12 → hL hp (rr hp 1 7) j = if (j : Int) = s0 then cd 32 96 (bs (XT hp).1 s12 s13) else cd 32 96 (nm D j)) from nb_x hO f0 f1 h2 h3 f2 f3 (by omega) (by omega))⟩ (all_nil))
theorem rl196 : ruOk fFS gR196 := by
  intro r hp hO hN hH
  obtain ⟨s0, s1, s2, s3, s4, s5, s6, s7, s8, s9, s10, s11, s12, s13, s14, rfl⟩ := len15 (show r.length = 15 from hN.1)
  have hR := hN.2.1.1
  have hIv : ∀ q ∈ ([(0, .ofNat 0, .ofNat 11), (2, .negSucc 2147483647, .ofNat 2147483647), (3, .negSucc 2147483647, .ofNat 2147483647), (4, .negSucc 2147483647, .ofNat 2147483647), (5, .negSucc 2147483647, .ofNat 2147483647), (6, .negSucc 2147483647, .ofNat 2147483647), (7, .negSucc 2147483647, .ofNat 2147483647), (8, .negSucc 2147483647, .ofNat 2147483647), (9, .negSucc 2147483647, .ofNat 2147483647), (10, .negSucc 2147483647, .ofNat 2147483647), (11, .negSucc 2147483647, .ofNat 2147483647), (12, .negSucc 2147483647, .ofNat 2147483647), (13, .negSucc 2147483647, .ofNat 2147483647), (14, .negSucc 2147483647, .ofNat 2147483647)] : sIv), ∃ x, ([s0, s1, s2, s3, s4, s5, s6, s7, s8, s9, s10, s11, s12, s13, s14] : List Int)[q.1]? = some x ∧ q.2.1 ≤ x ∧ x ≤ q.2.2 := hN.2.1.2
  have b0 : (0 : Int) ≤ s0 ∧ s0 ≤ (11 : Int) := ivX (q := (0, .ofNat 0, .ofNat 11)) (y := s0) (hIv _ (.head _)) rfl
  have hRf : ∀ q ∈ ([((43, .ofNat 176, []), (.ofNat 1, []), 114, .ofNat 15, []), ((98, .ofNat 15, []), (.ofNat 7, []), 115, .ofNat 16, []), ((99, .ofNat 16, []), (.ofNat 0, [(.ofNat 1, 0)]), 5, .ofNat 0, [(.ofNat 1, 1)]), ((40, .ofNat 173, []), (.ofNat 8, []), 5, .ofNat 0, [(.ofNat 1, 1)])] : List sRf), rfOk [s0, s1, s2, s3, s4, s5, s6, s7, s8, s9, s10, s11, s12, s13, s14] hp q := hH.1
  have g0 : hC hp 176 1 = 15 := by
    have u := rfR0 (xv := (15 : Int)) (c0 := 176) (i0 := 1) (hRf _ (.head _)) (sE_k _ _) (sE_k _ _) (sE_k _ _)
    show hC hp (176) 1 = 15
    omega
  have g1 : rr hp 1 7 = 16 := by
    have u := rfR0 (xv := (16 : Int)) (c0 := hC hp 176 1) (i0 := 7) (hRf _ (.tail _ (.head _))) (by rw [g0]; exact sE_k _ _) (sE_k _ _) (sE_k _ _)
    show hC hp (hC hp 176 1) 7 = 16
    omega
  obtain ⟨i2, e2, l2, h2⟩ := rfL (c0 := rr hp 1 7) (iv := s0) (hRf _ (.tail _ (.tail _ (.head _)))) (by rw [g1]; exact sE_k _ _) (sE_V rfl) (sE_V rfl)
  have l2 : i2 < 12 := l2
  have h2 : hL hp (rr hp 1 7) i2 = s1 := h2
  have h3 : hL hp 173 8 = s1 := rfL0 (hRf _ (.tail _ (.tail _ (.tail _ (.head _))))) (sE_k _ _) (sE_k _ _) (sE_V rfl)
  have hFc : ∀ q ∈ ([(62, [(.ofNat 0, [(.ofNat 1, 0)]), (.ofNat 0, [(.ofNat 1, 2)])]), (63, [(.ofNat 1, [(.ofNat 1, 0)]), (.ofNat 0, [(.ofNat 1, 2)])]), (53, [(.ofNat 0, [(.ofNat 1, 3)]), (.ofNat 0, [(.ofNat 1, 4)]), (.ofNat 0, [(.ofNat 1, 2)]), (.ofNat 0, [(.ofNat 1, 5)]), (.ofNat 0, [(.ofNat 1, 6)]), (.ofNat 0, [(.ofNat 1, 7)]), (.ofNat 0, [(.ofNat 1, 8)]), (.ofNat 0, [(.ofNat 1, 9)]), (.ofNat 0, [(.ofNat 1, 10)]), (.ofNat 0, [(.ofNat 1, 11)]), (.ofNat 0, [(.ofNat 1, 12)]), (.ofNat 0, [(.ofNat 1, 13)]), (.ofNat 0, [(.ofNat 1, 14)])]), (48, [(.ofNat 0, [(.ofNat 1, 12)]), (.ofNat 0, [(.ofNat 1, 13)])])] : List sFc), fcOk fFS [s0, s1, s2, s3, s4, s5, s6, s7, s8, s9, s10, s11, s12, s13, s14] hp q := hH.2
  have f0 : dF (XT hp) s2 (fun D => ∀ j : Nat, j < 12 → (j : Int) < s0 → hL hp (rr hp 1 7) j = cd 32 96 (nm D j)) := fcX (ys := [s0, s2]) (hFc _ (.head _)) ⟨sE_V rfl, sE_V rfl, trivial⟩
  have f1 : dF (XT hp) s2 (fun D => ∀ j : Nat, j < 12 → (s0 + 1) ≤ (j : Int) → hL hp (rr hp 1 7) j = cd 32 96 (nm D j)) := fcX (ys := [(s0 + 1), s2]) (hFc _ (.tail _ (.head _))) ⟨sEv (y' := ((1 : Int) + ((1 : Int) * s0 + 0))) rfl (by omega), sE_V rfl, trivial⟩
  have f2 : Hq (XT hp) s3 s4 s2 s5 s6 s7 s8 s9 s10 s11 s12 s13 s14 ∧ s11 ≠ 4 := fcX (ys := [s3, s4, s2, s5, s6, s7, s8, s9, s10, s11, s12, s13, s14]) (hFc _ (.tail _ (.tail _ (.head _)))) ⟨sE_V rfl, sE_V rfl, sE_V rfl, sE_V rfl, sE_V rfl, sE_V rfl, sE_V rfl, sE_V rfl, sE_V rfl, sE_V rfl, sE_V rfl, sE_V rfl, sE_V rfl, trivial⟩
  have f3 : isW (bs (XB hp) s12 s13) ∧ hL hp 173 8 = cd 32 96 (bs (XB hp) s12 s13) := fcX (ys := [s12, s13]) (hFc _ (.tail _ (.tail _ (.tail _ (.head _))))) ⟨sE_V rfl, sE_V rfl, trivial⟩
  exact poX (.head _) rfl hR (all_nil) (all_nil) (all_cons ⟨[s0, s2, s12, s13], ⟨sE_V rfl, sE_V rfl, sE_V rfl, sE_V rfl, trivial⟩, (show dF (XT hp) s2 (fun D => ∀ j : Nat, j < 12 → hL hp (rr hp 1 7) j = if (j : Int) = s0 then cd 32 96 (bs (XT hp).1 s12 s13) else cd 32 96 (nm D j)) from nb_x hO f0 f1 h2 h3 f2 f3 (by omega) (by omega))⟩ (all_nil))
theorem rl216 : ruOk fFS gR216 := by
  intro r hp hO hN hH
  obtain ⟨s0, s1, s2, s3, rfl⟩ := len4 (show r.length = 4 from hN.1)
  have hR := hN.2.1.1
  have hIv : ∀ q ∈ ([(0, .ofNat 0, .ofNat 99), (2, .ofNat 0, .ofNat 3), (3, .negSucc 2147483647, .ofNat 2147483647)] : sIv), ∃ x, ([s0, s1, s2, s3] : List Int)[q.1]? = some x ∧ q.2.1 ≤ x ∧ x ≤ q.2.2 := hN.2.1.2
  have b0 : (0 : Int) ≤ s0 ∧ s0 ≤ (99 : Int) := ivX (q := (0, .ofNat 0, .ofNat 99)) (y := s0) (hIv _ (.head _)) rfl
  have b1 : (0 : Int) ≤ s2 ∧ s2 ≤ (3 : Int) := ivX (q := (2, .ofNat 0, .ofNat 3)) (y := s2) (hIv _ (.tail _ (.head _))) rfl
  have hRf : ∀ q ∈ ([((43, .ofNat 176, []), (.ofNat 1, []), 114, .ofNat 15, []), ((98, .ofNat 15, []), (.ofNat 8, []), 20, .ofNat 0, [(.ofNat 1, 1)]), ((4, .ofNat 0, [(.ofNat 1, 1)]), (.ofNat 0, [(.ofNat 1, 0)]), 1, .ofNat 0, [(.ofNat 1, 2)])] : List sRf), rfOk [s0, s1, s2, s3] hp q := hH.1
  have g0 : hC hp 176 1 = 15 := by
    have u := rfR0 (xv := (15 : Int)) (c0 := 176) (i0 := 1) (hRf _ (.head _)) (sE_k _ _) (sE_k _ _) (sE_k _ _)
    show hC hp (176) 1 = 15
    omega
  have g1 : s1 = ((rr hp 1 8 : Nat) : Int) := rfR0 (c0 := hC hp 176 1) (hRf _ (.tail _ (.head _))) (by rw [g0]; exact sE_k _ _) (sE_k _ _) (sE_V rfl)
  obtain ⟨i2, e2, l2, h2⟩ := rfI (xv := s2) (iv := s0) (hRf _ (.tail _ (.tail _ (.head _)))) (sEv (sE_V rfl) g1.symm) (sE_V rfl) (sE_V rfl)
  have l2 : i2 < 100 := l2
  have h2 : hI hp (rr hp 1 8) i2 = s2 := h2
  have hFc : ∀ q ∈ ([(68, [(.ofNat 0, [(.ofNat 1, 3)])])] : List sFc), fcOk fFS [s0, s1, s2, s3] hp q := hH.2
  have f0 : dF (XT hp) s3 (fun D => ∀ p : Nat, p < 100 → (fX hp p ↔ ¬ tkI D p)) := fcX (ys := [s3]) (hFc _ (.head _)) ⟨sE_V rfl, trivial⟩
  exact poX (.head _) rfl hR (all_nil) (all_nil) (all_cons ⟨[s3, s0, 1], ⟨sE_V rfl, sE_V rfl, sE_k _ _, trivial⟩, (show dF (XT hp) s3 (fun D => bP (1 : Int) (tkI D s0)) from ce_1 f0 l2 (fX_o h2 (by omega)) e2 rfl)⟩ (all_nil))
theorem rl217 : ruOk fFS gR217 := by
  intro r hp hO hN hH
  obtain ⟨s0, s1, s2, s3, rfl⟩ := len4 (show r.length = 4 from hN.1)
  have hR := hN.2.1.1
  have hIv : ∀ q ∈ ([(0, .ofNat 0, .ofNat 99), (2, .ofNat 0, .ofNat 3), (3, .negSucc 2147483647, .ofNat 2147483647)] : sIv), ∃ x, ([s0, s1, s2, s3] : List Int)[q.1]? = some x ∧ q.2.1 ≤ x ∧ x ≤ q.2.2 := hN.2.1.2
  have b0 : (0 : Int) ≤ s0 ∧ s0 ≤ (99 : Int) := ivX (q := (0, .ofNat 0, .ofNat 99)) (y := s0) (hIv _ (.head _)) rfl
  have b1 : (0 : Int) ≤ s2 ∧ s2 ≤ (3 : Int) := ivX (q := (2, .ofNat 0, .ofNat 3)) (y := s2) (hIv _ (.tail _ (.head _))) rfl
  have hRf : ∀ q ∈ ([((43, .ofNat 176, []), (.ofNat 1, []), 114, .ofNat 15, []), ((98, .ofNat 15, []), (.ofNat 9, []), 21, .ofNat 0, [(.ofNat 1, 1)]), ((5, .ofNat 0, [(.ofNat 1, 1)]), (.ofNat 0, [(.ofNat 1, 0)]), 1, .ofNat 0, [(.ofNat 1, 2)])] : List sRf), rfOk [s0, s1, s2, s3] hp q := hH.1
  have g0 : hC hp 176 1 = 15 := by
    have u := rfR0 (xv := (15 : Int)) (c0 := 176) (i0 := 1) (hRf _ (.head _)) (sE_k _ _) (sE_k _ _) (sE_k _ _)
    show hC hp (176) 1 = 15
    omega
  have g1 : s1 = ((rr hp 1 9 : Nat) : Int) := rfR0 (c0 := hC hp 176 1) (hRf _ (.tail _ (.head _))) (by rw [g0]; exact sE_k _ _) (sE_k _ _) (sE_V rfl)
  obtain ⟨i2, e2, l2, h2⟩ := rfI (xv := s2) (iv := s0) (hRf _ (.tail _ (.tail _ (.head _)))) (sEv (sE_V rfl) g1.symm) (sE_V rfl) (sE_V rfl)
  have l2 : i2 < 100 := l2
  have h2 : hI hp (rr hp 1 9) i2 = s2 := h2
  have hFc : ∀ q ∈ ([(68, [(.ofNat 0, [(.ofNat 1, 3)])])] : List sFc), fcOk fFS [s0, s1, s2, s3] hp q := hH.2
  have f0 : dF (XT hp) s3 (fun D => ∀ p : Nat, p < 100 → (fX hp p ↔ ¬ tkI D p)) := fcX (ys := [s3]) (hFc _ (.head _)) ⟨sE_V rfl, trivial⟩
  exact poX (.head _) rfl hR (all_nil) (all_nil) (all_cons ⟨[s3, s0, 1], ⟨sE_V rfl, sE_V rfl, sE_k _ _, trivial⟩, (show dF (XT hp) s3 (fun D => bP (1 : Int) (tkI D s0)) from ce_1 f0 l2 (fX_s h2 (by omega)) e2 rfl)⟩ (all_nil))
theorem rl218 : ruOk fFS gR218 := by
  intro r hp hO hN hH
  obtain ⟨s0, s1, s2, s3, s4, s5, rfl⟩ := len6 (show r.length = 6 from hN.1)
  have hR := hN.2.1.1
  have hIv : ∀ q ∈ ([(0, .ofNat 0, .ofNat 99), (3, .negSucc 0, .negSucc 0), (4, .negSucc 0, .negSucc 0), (5, .negSucc 2147483647, .ofNat 2147483647)] : sIv), ∃ x, ([s0, s1, s2, s3, s4, s5] : List Int)[q.1]? = some x ∧ q.2.1 ≤ x ∧ x ≤ q.2.2 := hN.2.1.2
  have b0 : (0 : Int) ≤ s0 ∧ s0 ≤ (99 : Int) := ivX (q := (0, .ofNat 0, .ofNat 99)) (y := s0) (hIv _ (.head _)) rfl
  have b1 : (-1 : Int) ≤ s3 ∧ s3 ≤ (-1 : Int) := ivX (q := (3, .negSucc 0, .negSucc 0)) (y := s3) (hIv _ (.tail _ (.head _))) rfl
  have b2 : (-1 : Int) ≤ s4 ∧ s4 ≤ (-1 : Int) := ivX (q := (4, .negSucc 0, .negSucc 0)) (y := s4) (hIv _ (.tail _ (.tail _ (.head _)))) rfl
  have hRf : ∀ q ∈ ([((43, .ofNat 176, []), (.ofNat 1, []), 114, .ofNat 15, []), ((98, .ofNat 15, []), (.ofNat 8, []), 20, .ofNat 0, [(.ofNat 1, 1)]), ((98, .ofNat 15, []), (.ofNat 9, []), 21, .ofNat 0, [(.ofNat 1, 2)]), ((4, .ofNat 0, [(.ofNat 1, 1)]), (.ofNat 0, [(.ofNat 1, 0)]), 1, .ofNat 0, [(.ofNat 1, 3)]), ((5, .ofNat 0, [(.ofNat 1, 2)]), (.ofNat 0, [(.ofNat 1, 0)]), 1, .ofNat 0, [(.ofNat 1, 4)])] : List sRf), rfOk [s0, s1, s2, s3, s4, s5] hp q := hH.1
  have g0 : hC hp 176 1 = 15 := by
    have u := rfR0 (xv := (15 : Int)) (c0 := 176) (i0 := 1) (hRf _ (.head _)) (sE_k _ _) (sE_k _ _) (sE_k _ _)
    show hC hp (176) 1 = 15
    omega
  have g1 : s1 = ((rr hp 1 8 : Nat) : Int) := rfR0 (c0 := hC hp 176 1) (hRf _ (.tail _ (.head _))) (by rw [g0]; exact sE_k _ _) (sE_k _ _) (sE_V rfl)
  have g2 : s2 = ((rr hp 1 9 : Nat) : Int) := rfR0 (c0 := hC hp 176 1) (hRf _ (.tail _ (.tail _ (.head _)))) (by rw [g0]; exact sE_k _ _) (sE_k _ _) (sE_V rfl)
  obtain ⟨i3, e3, l3, h3⟩ := rfI (xv := s3) (iv := s0) (hRf _ (.tail _ (.tail _ (.tail _ (.head _))))) (sEv (sE_V rfl) g1.symm) (sE_V rfl) (sE_V rfl)
  have l3 : i3 < 100 := l3
  have h3 : hI hp (rr hp 1 8) i3 = s3 := h3
  obtain ⟨i4, e4, l4, h4⟩ := rfI (xv := s4) (iv := s0) (hRf _ (.tail _ (.tail _ (.tail _ (.tail _ (.head _)))))) (sEv (sE_V rfl) g2.symm) (sE_V rfl) (sE_V rfl)
  have l4 : i4 < 100 := l4
  have h4 : hI hp (rr hp 1 9) i4 = s4 := h4
  have hFc : ∀ q ∈ ([(68, [(.ofNat 0, [(.ofNat 1, 5)])])] : List sFc), fcOk fFS [s0, s1, s2, s3, s4, s5] hp q := hH.2
  have f0 : dF (XT hp) s5 (fun D => ∀ p : Nat, p < 100 → (fX hp p ↔ ¬ tkI D p)) := fcX (ys := [s5]) (hFc _ (.head _)) ⟨sE_V rfl, trivial⟩
  exact poX (.head _) rfl hR (all_nil) (all_nil) (all_cons ⟨[s5, s0, 0], ⟨sE_V rfl, sE_V rfl, sE_k _ _, trivial⟩, (show dF (XT hp) s5 (fun D => bP (0 : Int) (tkI D s0)) from ce_0 f0 l3 (fX_b h3 h4 (by omega) (by omega) (by omega)) e3 rfl)⟩ (all_nil))
theorem rl226 : ruOk fFS gR226 := by
  intro r hp hO hN hH
  obtain ⟨s0, s1, s2, s3, s4, s5, s6, s7, s8, s9, s10, rfl⟩ := len11 (show r.length = 11 from hN.1)
  have hR := hN.2.1.1
  have hIv : ∀ q ∈ ([(0, .negSucc 2147483647, .ofNat 2147483647), (1, .negSucc 2147483647, .ofNat 2147483647), (2, .negSucc 2147483647, .ofNat 2147483647), (3, .negSucc 2147483647, .ofNat 2147483647), (4, .ofNat 0, .ofNat 9), (5, .ofNat 0, .ofNat 9), (8, .negSucc 0, .ofNat 3), (9, .negSucc 0, .ofNat 2), (10, .negSucc 2147483647, .ofNat 2147483647)] : sIv), ∃ x, ([s0, s1, s2, s3, s4, s5, s6, s7, s8, s9, s10] : List Int)[q.1]? = some x ∧ q.2.1 ≤ x ∧ x ≤ q.2.2 := hN.2.1.2
  have b4 : (0 : Int) ≤ s4 ∧ s4 ≤ (9 : Int) := ivX (q := (4, .ofNat 0, .ofNat 9)) (y := s4) (hIv _ (.tail _ (.tail _ (.tail _ (.tail _ (.head _)))))) rfl
  have b5 : (0 : Int) ≤ s5 ∧ s5 ≤ (9 : Int) := ivX (q := (5, .ofNat 0, .ofNat 9)) (y := s5) (hIv _ (.tail _ (.tail _ (.tail _ (.tail _ (.tail _ (.head _))))))) rfl
  have b6 : (-1 : Int) ≤ s8 ∧ s8 ≤ (3 : Int) := ivX (q := (8, .negSucc 0, .ofNat 3)) (y := s8) (hIv _ (.tail _ (.tail _ (.tail _ (.tail _ (.tail _ (.tail _ (.head _)))))))) rfl
  have b7 : (-1 : Int) ≤ s9 ∧ s9 ≤ (2 : Int) := ivX (q := (9, .negSucc 0, .ofNat 2)) (y := s9) (hIv _ (.tail _ (.tail _ (.tail _ (.tail _ (.tail _ (.tail _ (.tail _ (.head _))))))))) rfl
  have hCs : ∀ c ∈ ([(.ofNat 0, [(.ofNat 1, 1), (.negSucc 0, 4)]), (.ofNat 1, [(.negSucc 0, 1), (.negSucc 0, 3), (.ofNat 1, 4)]), (.ofNat 0, [(.ofNat 1, 0), (.negSucc 0, 5)]), (.ofNat 1, [(.negSucc 0, 0), (.negSucc 0, 2), (.ofNat 1, 5)]), (.negSucc 0, [(.negSucc 0, 8), (.negSucc 0, 9)])] : List sLn), ∃ x, sE [s0, s1, s2, s3, s4, s5, s6, s7, s8, s9, s10] c = some x ∧ x ≤ 0 := hN.2.2.1
  have c0 : ((0 : Int) + ((1 : Int) * s1 + ((-1 : Int) * s4 + 0))) ≤ 0 := csX (hCs _ (.head _)) rfl
  have c1 : ((1 : Int) + ((-1 : Int) * s1 + ((-1 : Int) * s3 + ((1 : Int) * s4 + 0)))) ≤ 0 := csX (hCs _ (.tail _ (.head _))) rfl
  have c2 : ((0 : Int) + ((1 : Int) * s0 + ((-1 : Int) * s5 + 0))) ≤ 0 := csX (hCs _ (.tail _ (.tail _ (.head _)))) rfl
  have c3 : ((1 : Int) + ((-1 : Int) * s0 + ((-1 : Int) * s2 + ((1 : Int) * s5 + 0)))) ≤ 0 := csX (hCs _ (.tail _ (.tail _ (.tail _ (.head _))))) rfl
  have c4 : ((-1 : Int) + ((-1 : Int) * s8 + ((-1 : Int) * s9 + 0))) ≤ 0 := csX (hCs _ (.tail _ (.tail _ (.tail _ (.tail _ (.head _)))))) rfl
  have hRf : ∀ q ∈ ([((43, .ofNat 176, []), (.ofNat 1, []), 114, .ofNat 15, []), ((98, .ofNat 15, []), (.ofNat 8, []), 20, .ofNat 0, [(.ofNat 1, 6)]), ((98, .ofNat 15, []), (.ofNat 9, []), 21, .ofNat 0, [(.ofNat 1, 7)]), ((4, .ofNat 0, [(.ofNat 1, 6)]), (.ofNat 0, [(.ofNat 10, 4), (.ofNat 1, 5)]), 1, .ofNat 0, [(.ofNat 1, 8)]), ((5, .ofNat 0, [(.ofNat 1, 7)]), (.ofNat 0, [(.ofNat 10, 4), (.ofNat 1, 5)]), 1, .ofNat 0, [(.ofNat 1, 9)])] : List sRf), rfOk [s0, s1, s2, s3, s4, s5, s6, s7, s8, s9, s10] hp q := hH.1
  have g0 : hC hp 176 1 = 15 := by
    have u := rfR0 (xv := (15 : Int)) (c0 := 176) (i0 := 1) (hRf _ (.head _)) (sE_k _ _) (sE_k _ _) (sE_k _ _)
    show hC hp (176) 1 = 15
    omega
  have g1 : s6 = ((rr hp 1 8 : Nat) : Int) := rfR0 (c0 := hC hp 176 1) (hRf _ (.tail _ (.head _))) (by rw [g0]; exact sE_k _ _) (sE_k _ _) (sE_V rfl)
  have g2 : s7 = ((rr hp 1 9 : Nat) : Int) := rfR0 (c0 := hC hp 176 1) (hRf _ (.tail _ (.tail _ (.head _)))) (by rw [g0]; exact sE_k _ _) (sE_k _ _) (sE_V rfl)
  obtain ⟨i3, e3, l3, h3⟩ := rfI (xv := s8) (iv := (10 * s4 + s5)) (hRf _ (.tail _ (.tail _ (.tail _ (.head _))))) (sEv (sE_V rfl) g1.symm) (sEv (y' := ((0 : Int) + ((10 : Int) * s4 + ((1 : Int) * s5 + 0)))) rfl (by omega)) (sE_V rfl)
  have l3 : i3 < 100 := l3
  have h3 : hI hp (rr hp 1 8) i3 = s8 := h3
  obtain ⟨i4, e4, l4, h4⟩ := rfI (xv := s9) (iv := (10 * s4 + s5)) (hRf _ (.tail _ (.tail _ (.tail _ (.tail _ (.head _)))))) (sEv (sE_V rfl) g2.symm) (sEv (y' := ((0 : Int) + ((10 : Int) * s4 + ((1 : Int) * s5 + 0)))) rfl (by omega)) (sE_V rfl)
  have l4 : i4 < 100 := l4
  have h4 : hI hp (rr hp 1 9) i4 = s9 := h4
  have hFc : ∀ q ∈ ([(69, [(.ofNat 0, [(.ofNat 10, 4), (.ofNat 1, 5)]), (.ofNat 0, [(.ofNat 1, 10)]), (.ofNat 0, [(.ofNat 1, 0)]), (.ofNat 0, [(.ofNat 1, 1)]), (.ofNat 0, [(.ofNat 1, 2)]), (.ofNat 0, [(.ofNat 1, 3)])])] : List sFc), fcOk fFS [s0, s1, s2, s3, s4, s5, s6, s7, s8, s9, s10] hp q := hH.2
  have f0 : dF (XT hp) s10 (fun D => ∀ p : Nat, p < 100 → (p : Int) < (10 * s4 + s5) → (fX hp p ↔ ¬ (tkI D p ∨ inR s0 s1 s2 s3 p))) := fcX (ys := [(10 * s4 + s5), s10, s0, s1, s2, s3]) (hFc _ (.head _)) ⟨sEv (y' := ((0 : Int) + ((10 : Int) * s4 + ((1 : Int) * s5 + 0)))) rfl (by omega), sE_V rfl, sE_V rfl, sE_V rfl, sE_V rfl, sE_V rfl, trivial⟩
  exact poX (.head _) rfl hR (all_nil) (all_nil) (all_cons ⟨[(10 * s4 + s5 + 1), s10, s0, s1, s2, s3], ⟨sEv (y' := ((1 : Int) + ((10 : Int) * s4 + ((1 : Int) * s5 + 0)))) rfl (by omega), sE_V rfl, sE_V rfl, sE_V rfl, sE_V rfl, sE_V rfl, trivial⟩, (show dF (XT hp) s10 (fun D => ∀ p : Nat, p < 100 → (p : Int) < (10 * s4 + s5 + 1) → (fX hp p ↔ ¬ (tkI D p ∨ inR s0 s1 s2 s3 p))) from dF_mp f0 (fun D h => tl_s (j := i3) h (fun w => by have w1 := w.1; have w2 := w.2; rw [h3] at w1; rw [show i3 = i4 by omega, h4] at w2; omega) (by omega) (by omega) (by unfold inR; omega)))⟩ (all_nil))
theorem rl248 : ruOk fFS gR248 := by
  intro r hp hO hN hH
  obtain ⟨s0, rfl⟩ := len1 (show r.length = 1 from hN.1)
  have hR := hN.2.1.1
  have hIv : ∀ q ∈ ([(0, .negSucc 2147483647, .ofNat 2147483647)] : sIv), ∃ x, ([s0] : List Int)[q.1]? = some x ∧ q.2.1 ≤ x ∧ x ≤ q.2.2 := hN.2.1.2
  have hRf : ∀ q ∈ ([((43, .ofNat 176, []), (.ofNat 1, []), 114, .ofNat 15, [])] : List sRf), rfOk [s0] hp q := hH.1
  have g0 : hC hp 176 1 = 15 := by
    have u := rfR0 (xv := (15 : Int)) (c0 := 176) (i0 := 1) (hRf _ (.head _)) (sE_k _ _) (sE_k _ _) (sE_k _ _)
    show hC hp (176) 1 = 15
    omega
  have hFc : ∀ q ∈ ([(61, [(.ofNat 0, [(.ofNat 1, 0)])])] : List sFc), fcOk fFS [s0] hp q := hH.2
  have f0 : dF (XT hp) s0 (fun D => ∀ j : Nat, j < 12 → hL hp (rr hp 1 7) j = cd 32 96 (nm D j)) := fcX (ys := [s0]) (hFc _ (.head _)) ⟨sE_V rfl, trivial⟩
  exact poX (.head _) rfl hR (all_nil) (all_nil) (all_cons ⟨[s0], ⟨sE_V rfl, trivial⟩, (show dF (XT hp) s0 (fun D => ∀ j : Nat, j < 12 → hL hp 16 j = cd 32 96 (nm D j)) from (by rw [rr_B hO g0] at f0; exact f0))⟩ (all_nil))
theorem rl255 : ruOk fFS gR255 := by
  intro r hp hO hN hH
  obtain ⟨s0, rfl⟩ := len1 (show r.length = 1 from hN.1)
  have hR := hN.2.1.1
  have hIv : ∀ q ∈ ([(0, .ofNat 1, .ofNat 10)] : sIv), ∃ x, ([s0] : List Int)[q.1]? = some x ∧ q.2.1 ≤ x ∧ x ≤ q.2.2 := hN.2.1.2
  have b0 : (1 : Int) ≤ s0 ∧ s0 ≤ (10 : Int) := ivX (q := (0, .ofNat 1, .ofNat 10)) (y := s0) (hIv _ (.head _)) rfl
  have hRf : ∀ q ∈ ([((2, .ofNat 2, []), (.ofNat 0, []), 1, .ofNat 0, [(.ofNat 1, 0)])] : List sRf), rfOk [s0] hp q := hH.1
  have h0 : hI hp 2 0 = s0 := rfI0 (hRf _ (.head _)) (sE_k _ _) (sE_k _ _) (sE_V rfl)
  have y0 : (1 : Int) ≤ s0 ∧ s0 ≤ (10 : Int) := by rw [← h0]; exact hI_ty hO (by decide) rfl
  have y : (((1 : Int) ≤ s0 ∧ s0 ≤ (1 : Int))) ∨ (((2 : Int) ≤ s0 ∧ s0 ≤ (2 : Int))) ∨ (((3 : Int) ≤ s0 ∧ s0 ≤ (3 : Int))) ∨ (((4 : Int) ≤ s0 ∧ s0 ≤ (4 : Int))) ∨ (((5 : Int) ≤ s0 ∧ s0 ≤ (5 : Int))) ∨ (((6 : Int) ≤ s0 ∧ s0 ≤ (6 : Int))) ∨ (((7 : Int) ≤ s0 ∧ s0 ≤ (7 : Int))) ∨ (((8 : Int) ≤ s0 ∧ s0 ≤ (8 : Int))) ∨ (((9 : Int) ≤ s0 ∧ s0 ≤ (9 : Int))) ∨ (((10 : Int) ≤ s0 ∧ s0 ≤ (10 : Int))) := by omega
  rcases y with y | y | y | y | y | y | y | y | y | y
  · exact poX (.head _) rfl hR (all_cons (ivO (y := s0) rfl (show (1 : Int) ≤ s0 by omega) (show s0 ≤ (1 : Int) by omega)) (all_nil)) (all_nil) (all_nil)
  · exact poX (.tail _ (.head _)) rfl hR (all_cons (ivO (y := s0) rfl (show (2 : Int) ≤ s0 by omega) (show s0 ≤ (2 : Int) by omega)) (all_nil)) (all_nil) (all_nil)
  · exact poX (.tail _ (.tail _ (.head _))) rfl hR (all_cons (ivO (y := s0) rfl (show (3 : Int) ≤ s0 by omega) (show s0 ≤ (3 : Int) by omega)) (all_nil)) (all_nil) (all_nil)
  · exact poX (.tail _ (.tail _ (.tail _ (.head _)))) rfl hR (all_cons (ivO (y := s0) rfl (show (4 : Int) ≤ s0 by omega) (show s0 ≤ (4 : Int) by omega)) (all_nil)) (all_nil) (all_nil)
  · exact poX (.tail _ (.tail _ (.tail _ (.tail _ (.head _))))) rfl hR (all_cons (ivO (y := s0) rfl (show (5 : Int) ≤ s0 by omega) (show s0 ≤ (5 : Int) by omega)) (all_nil)) (all_nil) (all_nil)
  · exact poX (.tail _ (.tail _ (.tail _ (.tail _ (.tail _ (.head _)))))) rfl hR (all_cons (ivO (y := s0) rfl (show (6 : Int) ≤ s0 by omega) (show s0 ≤ (6 : Int) by omega)) (all_nil)) (all_nil) (all_nil)
  · exact poX (.tail _ (.tail _ (.tail _ (.tail _ (.tail _ (.tail _ (.head _))))))) rfl hR (all_cons (ivO (y := s0) rfl (show (7 : Int) ≤ s0 by omega) (show s0 ≤ (7 : Int) by omega)) (all_nil)) (all_nil) (all_nil)
  · exact poX (.tail _ (.tail _ (.tail _ (.tail _ (.tail _ (.tail _ (.tail _ (.head _)))))))) rfl hR (all_cons (ivO (y := s0) rfl (show (8 : Int) ≤ s0 by omega) (show s0 ≤ (8 : Int) by omega)) (all_nil)) (all_nil) (all_nil)
  · exact poX (.tail _ (.tail _ (.tail _ (.tail _ (.tail _ (.tail _ (.tail _ (.tail _ (.head _))))))))) rfl hR (all_cons (ivO (y := s0) rfl (show (9 : Int) ≤ s0 by omega) (show s0 ≤ (9 : Int) by omega)) (all_nil)) (all_nil) (all_nil)
  · exact poX (.tail _ (.tail _ (.tail _ (.tail _ (.tail _ (.tail _ (.tail _ (.tail _ (.tail _ (.head _)))))))))) rfl hR (all_cons (ivO (y := s0) rfl (show (10 : Int) ≤ s0 by omega) (show s0 ≤ (10 : Int) by omega)) (all_nil)) (all_nil) (all_nil)
theorem rl256 : ruOk fFS gR256 := by
  intro r hp hO hN hH
  obtain ⟨s0, rfl⟩ := len1 (show r.length = 1 from hN.1)
  have hR := hN.2.1.1
  have hIv : ∀ q ∈ ([(0, .ofNat 1, .ofNat 10)] : sIv), ∃ x, ([s0] : List Int)[q.1]? = some x ∧ q.2.1 ≤ x ∧ x ≤ q.2.2 := hN.2.1.2
  have b0 : (1 : Int) ≤ s0 ∧ s0 ≤ (10 : Int) := ivX (q := (0, .ofNat 1, .ofNat 10)) (y := s0) (hIv _ (.head _)) rfl
  have hRf : ∀ q ∈ ([((2, .ofNat 2, []), (.ofNat 1, []), 1, .ofNat 0, [(.ofNat 1, 0)])] : List sRf), rfOk [s0] hp q := hH.1
  have h0 : hI hp 2 1 = s0 := rfI0 (hRf _ (.head _)) (sE_k _ _) (sE_k _ _) (sE_V rfl)
  have y0 : (1 : Int) ≤ s0 ∧ s0 ≤ (10 : Int) := by rw [← h0]; exact hI_ty hO (by decide) rfl
  have y : (((1 : Int) ≤ s0 ∧ s0 ≤ (1 : Int))) ∨ (((2 : Int) ≤ s0 ∧ s0 ≤ (2 : Int))) ∨ (((3 : Int) ≤ s0 ∧ s0 ≤ (3 : Int))) ∨ (((4 : Int) ≤ s0 ∧ s0 ≤ (4 : Int))) ∨ (((5 : Int) ≤ s0 ∧ s0 ≤ (5 : Int))) ∨ (((6 : Int) ≤ s0 ∧ s0 ≤ (6 : Int))) ∨ (((7 : Int) ≤ s0 ∧ s0 ≤ (7 : Int))) ∨ (((8 : Int) ≤ s0 ∧ s0 ≤ (8 : Int))) ∨ (((9 : Int) ≤ s0 ∧ s0 ≤ (9 : Int))) ∨ (((10 : Int) ≤ s0 ∧ s0 ≤ (10 : Int))) := by omega
  rcases y with y | y | y | y | y | y | y | y | y | y
  · exact poX (.head _) rfl hR (all_cons (ivO (y := s0) rfl (show (1 : Int) ≤ s0 by omega) (show s0 ≤ (1 : Int) by omega)) (all_nil)) (all_nil) (all_nil)
  · exact poX (.tail _ (.head _)) rfl hR (all_cons (ivO (y := s0) rfl (show (2 : Int) ≤ s0 by omega) (show s0 ≤ (2 : Int) by omega)) (all_nil)) (all_nil) (all_nil)
  · exact poX (.tail _ (.tail _ (.head _))) rfl hR (all_cons (ivO (y := s0) rfl (show (3 : Int) ≤ s0 by omega) (show s0 ≤ (3 : Int) by omega)) (all_nil)) (all_nil) (all_nil)
  · exact poX (.tail _ (.tail _ (.tail _ (.head _)))) rfl hR (all_cons (ivO (y := s0) rfl (show (4 : Int) ≤ s0 by omega) (show s0 ≤ (4 : Int) by omega)) (all_nil)) (all_nil) (all_nil)
  · exact poX (.tail _ (.tail _ (.tail _ (.tail _ (.head _))))) rfl hR (all_cons (ivO (y := s0) rfl (show (5 : Int) ≤ s0 by omega) (show s0 ≤ (5 : Int) by omega)) (all_nil)) (all_nil) (all_nil)
  · exact poX (.tail _ (.tail _ (.tail _ (.tail _ (.tail _ (.head _)))))) rfl hR (all_cons (ivO (y := s0) rfl (show (6 : Int) ≤ s0 by omega) (show s0 ≤ (6 : Int) by omega)) (all_nil)) (all_nil) (all_nil)
  · exact poX (.tail _ (.tail _ (.tail _ (.tail _ (.tail _ (.tail _ (.head _))))))) rfl hR (all_cons (ivO (y := s0) rfl (show (7 : Int) ≤ s0 by omega) (show s0 ≤ (7 : Int) by omega)) (all_nil)) (all_nil) (all_nil)
  · exact poX (.tail _ (.tail _ (.tail _ (.tail _ (.tail _ (.tail _ (.tail _ (.head _)))))))) rfl hR (all_cons (ivO (y := s0) rfl (show (8 : Int) ≤ s0 by omega) (show s0 ≤ (8 : Int) by omega)) (all_nil)) (all_nil) (all_nil)
  · exact poX (.tail _ (.tail _ (.tail _ (.tail _ (.tail _ (.tail _ (.tail _ (.tail _ (.head _))))))))) rfl hR (all_cons (ivO (y := s0) rfl (show (9 : Int) ≤ s0 by omega) (show s0 ≤ (9 : Int) by omega)) (all_nil)) (all_nil) (all_nil)
  · exact poX (.tail _ (.tail _ (.tail _ (.tail _ (.tail _ (.tail _ (.tail _ (.tail _ (.tail _ (.head _)))))))))) rfl hR (all_cons (ivO (y := s0) rfl (show (10 : Int) ≤ s0 by omega) (show s0 ≤ (10 : Int) by omega)) (all_nil)) (all_nil) (all_nil)
theorem rl263 : ruOk fFS gR263 := by
  intro r hp hO hN hH
  obtain ⟨s0, s1, s2, rfl⟩ := len3 (show r.length = 3 from hN.1)
  have hR := hN.2.1.1
  have hIv : ∀ q ∈ ([(1, .ofNat 0, .ofNat 11)] : sIv), ∃ x, ([s0, s1, s2] : List Int)[q.1]? = some x ∧ q.2.1 ≤ x ∧ x ≤ q.2.2 := hN.2.1.2
  have b0 : (0 : Int) ≤ s1 ∧ s1 ≤ (11 : Int) := ivX (q := (1, .ofNat 0, .ofNat 11)) (y := s1) (hIv _ (.head _)) rfl
  have hCs : ∀ c ∈ ([(.ofNat 1, [(.ofNat 1, 0), (.negSucc 0, 2)])] : List sLn), ∃ x, sE [s0, s1, s2] c = some x ∧ x ≤ 0 := hN.2.2.1
  have c0 : ((1 : Int) + ((1 : Int) * s0 + ((-1 : Int) * s2 + 0))) ≤ 0 := csX (hCs _ (.head _)) rfl
  have hRf : ∀ q ∈ ([((43, .ofNat 176, []), (.ofNat 1, []), 18, .ofNat 2, []), ((2, .ofNat 2, []), (.ofNat 7, []), 19, .ofNat 3, []), ((3, .ofNat 3, []), (.ofNat 0, [(.ofNat 1, 1)]), 5, .ofNat 0, [(.ofNat 1, 2)])] : List sRf), rfOk [s0, s1, s2] hp q := hH.1
  have g0 : hC hp 176 1 = 2 := by
    have u := rfR0 (xv := (2 : Int)) (c0 := 176) (i0 := 1) (hRf _ (.head _)) (sE_k _ _) (sE_k _ _) (sE_k _ _)
    show hC hp (176) 1 = 2
    omega
  have g1 : rr hp 1 7 = 3 := by
    have u := rfR0 (xv := (3 : Int)) (c0 := hC hp 176 1) (i0 := 7) (hRf _ (.tail _ (.head _))) (by rw [g0]; exact sE_k _ _) (sE_k _ _) (sE_k _ _)
    show hC hp (hC hp 176 1) 7 = 3
    omega
  obtain ⟨i2, e2, l2, h2⟩ := rfL (c0 := rr hp 1 7) (iv := s1) (hRf _ (.tail _ (.tail _ (.head _)))) (by rw [g1]; exact sE_k _ _) (sE_V rfl) (sE_V rfl)
  have l2 : i2 < 12 := l2
  have h2 : hL hp (rr hp 1 7) i2 = s2 := h2
  have hFc : ∀ q ∈ ([(65, [(.ofNat 0, [(.ofNat 1, 1)]), (.ofNat 0, [(.ofNat 1, 0)])])] : List sFc), fcOk fFS [s0, s1, s2] hp q := hH.2
  have f0 : ∀ j : Nat, j < 12 → (j : Int) < s1 → hL hp (rr hp 1 7) j ≠ s0 := fcX (ys := [s1, s0]) (hFc _ (.head _)) ⟨sE_V rfl, sE_V rfl, trivial⟩
  exact poX (.head _) rfl hR (all_nil) (all_nil) (all_cons ⟨[(s1 + 1), s0], ⟨sEv (y' := ((1 : Int) + ((1 : Int) * s1 + 0))) rfl (by omega), sE_V rfl, trivial⟩, (show ∀ j : Nat, j < 12 → (j : Int) < (s1 + 1) → hL hp (rr hp 1 7) j ≠ s0 from sw_s f0 h2 (by omega) (by omega) (by omega))⟩ (all_nil))
theorem rl264 : ruOk fFS gR264 := by
  intro r hp hO hN hH
  obtain ⟨s0, s1, s2, rfl⟩ := len3 (show r.length = 3 from hN.1)
  have hR := hN.2.1.1
  have hIv : ∀ q ∈ ([(1, .ofNat 0, .ofNat 11)] : sIv), ∃ x, ([s0, s1, s2] : List Int)[q.1]? = some x ∧ q.2.1 ≤ x ∧ x ≤ q.2.2 := hN.2.1.2
  have b0 : (0 : Int) ≤ s1 ∧ s1 ≤ (11 : Int) := ivX (q := (1, .ofNat 0, .ofNat 11)) (y := s1) (hIv _ (.head _)) rfl
  have hCs : ∀ c ∈ ([(.ofNat 1, [(.negSucc 0, 0), (.ofNat 1, 2)])] : List sLn), ∃ x, sE [s0, s1, s2] c = some x ∧ x ≤ 0 := hN.2.2.1
  have c0 : ((1 : Int) + ((-1 : Int) * s0 + ((1 : Int) * s2 + 0))) ≤ 0 := csX (hCs _ (.head _)) rfl
  have hRf : ∀ q ∈ ([((43, .ofNat 176, []), (.ofNat 1, []), 18, .ofNat 2, []), ((2, .ofNat 2, []), (.ofNat 7, []), 19, .ofNat 3, []), ((3, .ofNat 3, []), (.ofNat 0, [(.ofNat 1, 1)]), 5, .ofNat 0, [(.ofNat 1, 2)])] : List sRf), rfOk [s0, s1, s2] hp q := hH.1
  have g0 : hC hp 176 1 = 2 := by
    have u := rfR0 (xv := (2 : Int)) (c0 := 176) (i0 := 1) (hRf _ (.head _)) (sE_k _ _) (sE_k _ _) (sE_k _ _)
    show hC hp (176) 1 = 2
    omega
  have g1 : rr hp 1 7 = 3 := by
    have u := rfR0 (xv := (3 : Int)) (c0 := hC hp 176 1) (i0 := 7) (hRf _ (.tail _ (.head _))) (by rw [g0]; exact sE_k _ _) (sE_k _ _) (sE_k _ _)
    show hC hp (hC hp 176 1) 7 = 3
    omega
  obtain ⟨i2, e2, l2, h2⟩ := rfL (c0 := rr hp 1 7) (iv := s1) (hRf _ (.tail _ (.tail _ (.head _)))) (by rw [g1]; exact sE_k _ _) (sE_V rfl) (sE_V rfl)
  have l2 : i2 < 12 := l2
  have h2 : hL hp (rr hp 1 7) i2 = s2 := h2
  have hFc : ∀ q ∈ ([(65, [(.ofNat 0, [(.ofNat 1, 1)]), (.ofNat 0, [(.ofNat 1, 0)])])] : List sFc), fcOk fFS [s0, s1, s2] hp q := hH.2
  have f0 : ∀ j : Nat, j < 12 → (j : Int) < s1 → hL hp (rr hp 1 7) j ≠ s0 := fcX (ys := [s1, s0]) (hFc _ (.head _)) ⟨sE_V rfl, sE_V rfl, trivial⟩
  exact poX (.head _) rfl hR (all_nil) (all_nil) (all_cons ⟨[(s1 + 1), s0], ⟨sEv (y' := ((1 : Int) + ((1 : Int) * s1 + 0))) rfl (by omega), sE_V rfl, trivial⟩, (show ∀ j : Nat, j < 12 → (j : Int) < (s1 + 1) → hL hp (rr hp 1 7) j ≠ s0 from sw_s f0 h2 (by omega) (by omega) (by omega))⟩ (all_nil))
theorem rl265 : ruOk fFS gR265 := by
  intro r hp hO hN hH
  obtain ⟨s0, s1, s2, rfl⟩ := len3 (show r.length = 3 from hN.1)
  have hR := hN.2.1.1
  have hIv : ∀ q ∈ ([(1, .ofNat 0, .ofNat 11)] : sIv), ∃ x, ([s0, s1, s2] : List Int)[q.1]? = some x ∧ q.2.1 ≤ x ∧ x ≤ q.2.2 := hN.2.1.2
  have b0 : (0 : Int) ≤ s1 ∧ s1 ≤ (11 : Int) := ivX (q := (1, .ofNat 0, .ofNat 11)) (y := s1) (hIv _ (.head _)) rfl
  have hCs : ∀ c ∈ ([(.ofNat 1, [(.ofNat 1, 0), (.negSucc 0, 2)])] : List sLn), ∃ x, sE [s0, s1, s2] c = some x ∧ x ≤ 0 := hN.2.2.1
  have c0 : ((1 : Int) + ((1 : Int) * s0 + ((-1 : Int) * s2 + 0))) ≤ 0 := csX (hCs _ (.head _)) rfl
  have hRf : ∀ q ∈ ([((0, .ofNat 0, []), (.ofNat 6, []), 18, .ofNat 2, []), ((2, .ofNat 2, []), (.ofNat 7, []), 19, .ofNat 3, []), ((3, .ofNat 3, []), (.ofNat 0, [(.ofNat 1, 1)]), 5, .ofNat 0, [(.ofNat 1, 2)])] : List sRf), rfOk [s0, s1, s2] hp q := hH.1
  have g0 : hC hp 0 6 = 2 := by
    have u := rfR0 (xv := (2 : Int)) (c0 := 0) (i0 := 6) (hRf _ (.head _)) (sE_k _ _) (sE_k _ _) (sE_k _ _)
    show hC hp (0) 6 = 2
    omega
  have g1 : hC hp (hC hp 0 6) 7 = 3 := by
    have u := rfR0 (xv := (3 : Int)) (c0 := hC hp 0 6) (i0 := 7) (hRf _ (.tail _ (.head _))) (by rw [g0]; exact sE_k _ _) (sE_k _ _) (sE_k _ _)
    show hC hp (hC hp 0 6) 7 = 3
    omega
  obtain ⟨i2, e2, l2, h2⟩ := rfL (c0 := hC hp (hC hp 0 6) 7) (iv := s1) (hRf _ (.tail _ (.tail _ (.head _)))) (by rw [g1]; exact sE_k _ _) (sE_V rfl) (sE_V rfl)
  have l2 : i2 < 12 := l2
  have h2 : hL hp (hC hp (hC hp 0 6) 7) i2 = s2 := h2
  have hFc : ∀ q ∈ ([(198, [(.ofNat 0, [(.ofNat 1, 1)]), (.ofNat 0, [(.ofNat 1, 0)])])] : List sFc), fcOk fFS [s0, s1, s2] hp q := hH.2
  have f0 : ∀ j : Nat, j < 12 → (j : Int) < s1 → hL hp (xnm hp) j ≠ s0 := fcX (ys := [s1, s0]) (hFc _ (.head _)) ⟨sE_V rfl, sE_V rfl, trivial⟩
  exact poX (.head _) rfl hR (all_nil) (all_nil) (all_cons ⟨[(s1 + 1), s0], ⟨sEv (y' := ((1 : Int) + ((1 : Int) * s1 + 0))) rfl (by omega), sE_V rfl, trivial⟩, (show ∀ j : Nat, j < 12 → (j : Int) < (s1 + 1) → hL hp (xnm hp) j ≠ s0 from scv_s f0 h2 (by omega) (by omega) (by omega))⟩ (all_nil))
theorem rl266 : ruOk fFS gR266 := by
  intro r hp hO hN hH
  obtain ⟨s0, s1, s2, rfl⟩ := len3 (show r.length = 3 from hN.1)
  have hR := hN.2.1.1
  have hIv : ∀ q ∈ ([(1, .ofNat 0, .ofNat 11)] : sIv), ∃ x, ([s0, s1, s2] : List Int)[q.1]? = some x ∧ q.2.1 ≤ x ∧ x ≤ q.2.2 := hN.2.1.2
  have b0 : (0 : Int) ≤ s1 ∧ s1 ≤ (11 : Int) := ivX (q := (1, .ofNat 0, .ofNat 11)) (y := s1) (hIv _ (.head _)) rfl
  have hCs : ∀ c ∈ ([(.ofNat 1, [(.negSucc 0, 0), (.ofNat 1, 2)])] : List sLn), ∃ x, sE [s0, s1, s2] c = some x ∧ x ≤ 0 := hN.2.2.1
  have c0 : ((1 : Int) + ((-1 : Int) * s0 + ((1 : Int) * s2 + 0))) ≤ 0 := csX (hCs _ (.head _)) rfl
  have hRf : ∀ q ∈ ([((0, .ofNat 0, []), (.ofNat 6, []), 18, .ofNat 2, []), ((2, .ofNat 2, []), (.ofNat 7, []), 19, .ofNat 3, []), ((3, .ofNat 3, []), (.ofNat 0, [(.ofNat 1, 1)]), 5, .ofNat 0, [(.ofNat 1, 2)])] : List sRf), rfOk [s0, s1, s2] hp q := hH.1
  have g0 : hC hp 0 6 = 2 := by
    have u := rfR0 (xv := (2 : Int)) (c0 := 0) (i0 := 6) (hRf _ (.head _)) (sE_k _ _) (sE_k _ _) (sE_k _ _)
    show hC hp (0) 6 = 2
    omega
  have g1 : hC hp (hC hp 0 6) 7 = 3 := by
    have u := rfR0 (xv := (3 : Int)) (c0 := hC hp 0 6) (i0 := 7) (hRf _ (.tail _ (.head _))) (by rw [g0]; exact sE_k _ _) (sE_k _ _) (sE_k _ _)
    show hC hp (hC hp 0 6) 7 = 3
    omega
  obtain ⟨i2, e2, l2, h2⟩ := rfL (c0 := hC hp (hC hp 0 6) 7) (iv := s1) (hRf _ (.tail _ (.tail _ (.head _)))) (by rw [g1]; exact sE_k _ _) (sE_V rfl) (sE_V rfl)
  have l2 : i2 < 12 := l2
  have h2 : hL hp (hC hp (hC hp 0 6) 7) i2 = s2 := h2
  have hFc : ∀ q ∈ ([(198, [(.ofNat 0, [(.ofNat 1, 1)]), (.ofNat 0, [(.ofNat 1, 0)])])] : List sFc), fcOk fFS [s0, s1, s2] hp q := hH.2
  have f0 : ∀ j : Nat, j < 12 → (j : Int) < s1 → hL hp (xnm hp) j ≠ s0 := fcX (ys := [s1, s0]) (hFc _ (.head _)) ⟨sE_V rfl, sE_V rfl, trivial⟩
  exact poX (.head _) rfl hR (all_nil) (all_nil) (all_cons ⟨[(s1 + 1), s0], ⟨sEv (y' := ((1 : Int) + ((1 : Int) * s1 + 0))) rfl (by omega), sE_V rfl, trivial⟩, (show ∀ j : Nat, j < 12 → (j : Int) < (s1 + 1) → hL hp (xnm hp) j ≠ s0 from scv_s f0 h2 (by omega) (by omega) (by omega))⟩ (all_nil))
theorem rl267 : ruOk fFS gR267 := by
  intro r hp hO hN hH
  obtain ⟨s0, s1, s2, s3, rfl⟩ := len4 (show r.length = 4 from hN.1)
  have hR := hN.2.1.1
  have hIv : ∀ q ∈ ([(1, .ofNat 0, .ofNat 11), (3, .negSucc 2147483647, .ofNat 2147483647)] : sIv), ∃ x, ([s0, s1, s2, s3] : List Int)[q.1]? = some x ∧ q.2.1 ≤ x ∧ x ≤ q.2.2 := hN.2.1.2
  have b0 : (0 : Int) ≤ s1 ∧ s1 ≤ (11 : Int) := ivX (q := (1, .ofNat 0, .ofNat 11)) (y := s1) (hIv _ (.head _)) rfl
  have hCs : ∀ c ∈ ([(.ofNat 0, [(.ofNat 1, 0), (.negSucc 0, 2)]), (.ofNat 0, [(.negSucc 0, 0), (.ofNat 1, 2)])] : List sLn), ∃ x, sE [s0, s1, s2, s3] c = some x ∧ x ≤ 0 := hN.2.2.1
  have c0 : ((0 : Int) + ((1 : Int) * s0 + ((-1 : Int) * s2 + 0))) ≤ 0 := csX (hCs _ (.head _)) rfl
  have c1 : ((0 : Int) + ((-1 : Int) * s0 + ((1 : Int) * s2 + 0))) ≤ 0 := csX (hCs _ (.tail _ (.head _))) rfl
  have hRf : ∀ q ∈ ([((43, .ofNat 176, []), (.ofNat 1, []), 18, .ofNat 2, []), ((2, .ofNat 2, []), (.ofNat 7, []), 19, .ofNat 3, []), ((3, .ofNat 3, []), (.ofNat 0, [(.ofNat 1, 1)]), 5, .ofNat 0, [(.ofNat 1, 2)])] : List sRf), rfOk [s0, s1, s2, s3] hp q := hH.1
  have g0 : hC hp 176 1 = 2 := by
    have u := rfR0 (xv := (2 : Int)) (c0 := 176) (i0 := 1) (hRf _ (.head _)) (sE_k _ _) (sE_k _ _) (sE_k _ _)
    show hC hp (176) 1 = 2
    omega
  have g1 : rr hp 1 7 = 3 := by
    have u := rfR0 (xv := (3 : Int)) (c0 := hC hp 176 1) (i0 := 7) (hRf _ (.tail _ (.head _))) (by rw [g0]; exact sE_k _ _) (sE_k _ _) (sE_k _ _)
    show hC hp (hC hp 176 1) 7 = 3
    omega
  obtain ⟨i2, e2, l2, h2⟩ := rfL (c0 := rr hp 1 7) (iv := s1) (hRf _ (.tail _ (.tail _ (.head _)))) (by rw [g1]; exact sE_k _ _) (sE_V rfl) (sE_V rfl)
  have l2 : i2 < 12 := l2
  have h2 : hL hp (rr hp 1 7) i2 = s2 := h2
  have hFc : ∀ q ∈ ([(65, [(.ofNat 0, [(.ofNat 1, 1)]), (.ofNat 0, [(.ofNat 1, 0)])]), (61, [(.ofNat 0, [(.ofNat 1, 3)])])] : List sFc), fcOk fFS [s0, s1, s2, s3] hp q := hH.2
  have f0 : ∀ j : Nat, j < 12 → (j : Int) < s1 → hL hp (rr hp 1 7) j ≠ s0 := fcX (ys := [s1, s0]) (hFc _ (.head _)) ⟨sE_V rfl, sE_V rfl, trivial⟩
  have f1 : dF (XT hp) s3 (fun D => ∀ j : Nat, j < 12 → hL hp (rr hp 1 7) j = cd 32 96 (nm D j)) := fcX (ys := [s3]) (hFc _ (.tail _ (.head _))) ⟨sE_V rfl, trivial⟩
  exact poX (.head _) rfl hR (all_nil) (all_nil) (all_cons ⟨[s3, s0, s1], ⟨sE_V rfl, sE_V rfl, sE_V rfl, trivial⟩, (show dF (XT hp) s3 (fun D => scP D s0 s1) from sc_f f1 h2 l2 e2 (by omega))⟩ (all_nil))
theorem rl268 : ruOk fFS gR268 := by
  intro r hp hO hN hH
  obtain ⟨s0, s1, s2, rfl⟩ := len3 (show r.length = 3 from hN.1)
  have hR := hN.2.1.1
  have hIv : ∀ q ∈ ([(1, .ofNat 0, .ofNat 11)] : sIv), ∃ x, ([s0, s1, s2] : List Int)[q.1]? = some x ∧ q.2.1 ≤ x ∧ x ≤ q.2.2 := hN.2.1.2
  have b0 : (0 : Int) ≤ s1 ∧ s1 ≤ (11 : Int) := ivX (q := (1, .ofNat 0, .ofNat 11)) (y := s1) (hIv _ (.head _)) rfl
  have hCs : ∀ c ∈ ([(.ofNat 0, [(.ofNat 1, 0), (.negSucc 0, 2)]), (.ofNat 0, [(.negSucc 0, 0), (.ofNat 1, 2)])] : List sLn), ∃ x, sE [s0, s1, s2] c = some x ∧ x ≤ 0 := hN.2.2.1
  have c0 : ((0 : Int) + ((1 : Int) * s0 + ((-1 : Int) * s2 + 0))) ≤ 0 := csX (hCs _ (.head _)) rfl
  have c1 : ((0 : Int) + ((-1 : Int) * s0 + ((1 : Int) * s2 + 0))) ≤ 0 := csX (hCs _ (.tail _ (.head _))) rfl
  have hRf : ∀ q ∈ ([((0, .ofNat 0, []), (.ofNat 6, []), 18, .ofNat 2, []), ((2, .ofNat 2, []), (.ofNat 7, []), 19, .ofNat 3, []), ((3, .ofNat 3, []), (.ofNat 0, [(.ofNat 1, 1)]), 5, .ofNat 0, [(.ofNat 1, 2)])] : List sRf), rfOk [s0, s1, s2] hp q := hH.1
  have g0 : hC hp 0 6 = 2 := by
    have u := rfR0 (xv := (2 : Int)) (c0 := 0) (i0 := 6) (hRf _ (.head _)) (sE_k _ _) (sE_k _ _) (sE_k _ _)
    show hC hp (0) 6 = 2
    omega
  have g1 : hC hp (hC hp 0 6) 7 = 3 := by
    have u := rfR0 (xv := (3 : Int)) (c0 := hC hp 0 6) (i0 := 7) (hRf _ (.tail _ (.head _))) (by rw [g0]; exact sE_k _ _) (sE_k _ _) (sE_k _ _)
    show hC hp (hC hp 0 6) 7 = 3
    omega
  obtain ⟨i2, e2, l2, h2⟩ := rfL (c0 := hC hp (hC hp 0 6) 7) (iv := s1) (hRf _ (.tail _ (.tail _ (.head _)))) (by rw [g1]; exact sE_k _ _) (sE_V rfl) (sE_V rfl)
  have l2 : i2 < 12 := l2
  have h2 : hL hp (hC hp (hC hp 0 6) 7) i2 = s2 := h2
  have hFc : ∀ q ∈ ([(198, [(.ofNat 0, [(.ofNat 1, 1)]), (.ofNat 0, [(.ofNat 1, 0)])])] : List sFc), fcOk fFS [s0, s1, s2] hp q := hH.2
  have f0 : ∀ j : Nat, j < 12 → (j : Int) < s1 → hL hp (xnm hp) j ≠ s0 := fcX (ys := [s1, s0]) (hFc _ (.head _)) ⟨sE_V rfl, sE_V rfl, trivial⟩
  exact poX (.head _) rfl hR (all_nil) (all_nil) (all_cons ⟨[s0, s1], ⟨sE_V rfl, sE_V rfl, trivial⟩, (show scW (fun j => hL hp (xnm hp) j) s0 s1 from scv_f f0 h2 l2 e2 (by omega))⟩ (all_nil))
theorem rl275 : ruOk fFS gR275 := by
  intro r hp hO hN hH
  have hr0 := len0 (show r.length = 0 from hN.1)
  subst hr0
  have hR := hN.2.1.1
  have hRf : ∀ q ∈ ([((40, .ofNat 173, []), (.ofNat 9, []), 1, .ofNat 0, []), ((40, .ofNat 173, []), (.ofNat 4, []), 1, .ofNat 0, [])] : List sRf), rfOk [] hp q := hH.1
  have h0 : hI hp 173 9 = 0 := rfI0 (hRf _ (.head _)) (sE_k _ _) (sE_k _ _) (sE_k _ _)
  have h1 : hI hp 173 4 = 0 := rfI0 (hRf _ (.tail _ (.head _))) (sE_k _ _) (sE_k _ _) (sE_k _ _)
  have hFc : ∀ q ∈ ([(51, [])] : List sFc), fcOk fFS [] hp q := hH.2
  have f0 : ∀ i : Nat, i < 30 → hL hp 174 i = cd 32 96 (wrd i) := fcX (ys := []) (hFc _ (.head _)) trivial
  exact poX (.head _) rfl hR (all_nil) (all_nil) (all_cons ⟨[0, 0, 0, 0], ⟨sE_k _ _, sE_k _ _, sE_k _ _, sE_k _ _, trivial⟩, (show SG (XT hp) (nmR hp (xnm hp)) (0 : Int) (0 : Int) (0 : Int) (0 : Int) from SG_0)⟩ (all_cons ⟨[0, 1], ⟨sE_k _ _, sE_k _ _, trivial⟩, (show (1 : Int) = dp (0 : Int) + 1 from rfl)⟩ (all_cons ⟨[0], ⟨sE_k _ _, trivial⟩, (show nr (0 : Int) = (0 : Int) from nr_0)⟩ (all_nil))))
theorem rl276 : ruOk fFS gR276 := by
  intro r hp hO hN hH
  obtain ⟨s0, rfl⟩ := len1 (show r.length = 1 from hN.1)
  have hR := hN.2.1.1
  have hIv : ∀ q ∈ ([(0, .negSucc 2147483647, .ofNat 2147483647)] : sIv), ∃ x, ([s0] : List Int)[q.1]? = some x ∧ q.2.1 ≤ x ∧ x ≤ q.2.2 := hN.2.1.2
  have hRf : ∀ q ∈ ([((40, .ofNat 173, []), (.ofNat 9, []), 1, .ofNat 0, [])] : List sRf), rfOk [s0] hp q := hH.1
  have h0 : hI hp 173 9 = 0 := rfI0 (hRf _ (.head _)) (sE_k _ _) (sE_k _ _) (sE_k _ _)
  have hFc : ∀ q ∈ ([(201, [(.ofNat 0, [(.ofNat 1, 0)])])] : List sFc), fcOk fFS [s0] hp q := hH.2
  have f0 : nr s0 = s0 := fcX (ys := [s0]) (hFc _ (.head _)) ⟨sE_V rfl, trivial⟩
  exact poX (.head _) rfl hR (all_nil) (all_nil) (all_cons ⟨[s0, s0], ⟨sE_V rfl, sE_V rfl, trivial⟩, (show s0 = nr s0 from f0.symm)⟩ (all_nil))
theorem rl277 : ruOk fFS gR277 := by
  intro r hp hO hN hH
  obtain ⟨s0, s1, s2, s3, s4, s5, s6, s7, rfl⟩ := len8 (show r.length = 8 from hN.1)
  have hR := hN.2.1.1
  have hIv : ∀ q ∈ ([(0, .negSucc 2147483647, .ofNat 2147483647), (1, .ofNat 0, .ofNat 0), (2, .negSucc 2147483647, .ofNat 2147483647), (3, .negSucc 2147483647, .ofNat 2147483647), (4, .negSucc 2147483647, .ofNat 2147483647), (5, .negSucc 2147483647, .ofNat 2147483647), (6, .negSucc 2147483647, .ofNat 2147483647), (7, .negSucc 2147483647, .ofNat 2147483647)] : sIv), ∃ x, ([s0, s1, s2, s3, s4, s5, s6, s7] : List Int)[q.1]? = some x ∧ q.2.1 ≤ x ∧ x ≤ q.2.2 := hN.2.1.2
  have b1 : (0 : Int) ≤ s1 ∧ s1 ≤ (0 : Int) := ivX (q := (1, .ofNat 0, .ofNat 0)) (y := s1) (hIv _ (.tail _ (.head _))) rfl
  have b2 : (-2147483648 : Int) ≤ s2 ∧ s2 ≤ (2147483647 : Int) := ivX (q := (2, .negSucc 2147483647, .ofNat 2147483647)) (y := s2) (hIv _ (.tail _ (.tail _ (.head _)))) rfl
  have b3 : (-2147483648 : Int) ≤ s3 ∧ s3 ≤ (2147483647 : Int) := ivX (q := (3, .negSucc 2147483647, .ofNat 2147483647)) (y := s3) (hIv _ (.tail _ (.tail _ (.tail _ (.head _))))) rfl
  have b4 : (-2147483648 : Int) ≤ s4 ∧ s4 ≤ (2147483647 : Int) := ivX (q := (4, .negSucc 2147483647, .ofNat 2147483647)) (y := s4) (hIv _ (.tail _ (.tail _ (.tail _ (.tail _ (.head _)))))) rfl
  have b7 : (-2147483648 : Int) ≤ s7 ∧ s7 ≤ (2147483647 : Int) := ivX (q := (7, .negSucc 2147483647, .ofNat 2147483647)) (y := s7) (hIv _ (.tail _ (.tail _ (.tail _ (.tail _ (.tail _ (.tail _ (.tail _ (.head _))))))))) rfl
  have hRf : ∀ q ∈ ([((40, .ofNat 173, []), (.ofNat 9, []), 1, .ofNat 0, [])] : List sRf), rfOk [s0, s1, s2, s3, s4, s5, s6, s7] hp q := hH.1
  have h0 : hI hp 173 9 = 0 := rfI0 (hRf _ (.head _)) (sE_k _ _) (sE_k _ _) (sE_k _ _)
  have hFc : ∀ q ∈ ([(192, [(.ofNat 0, [(.ofNat 1, 0)]), (.ofNat 0, [(.ofNat 1, 1)]), (.ofNat 0, [(.ofNat 1, 2)]), (.ofNat 0, [(.ofNat 1, 3)]), (.ofNat 0, [(.ofNat 1, 4)]), (.ofNat 0, [(.ofNat 1, 5)]), (.ofNat 0, [(.ofNat 1, 6)]), (.ofNat 0, [(.ofNat 1, 7)])])] : List sFc), fcOk fFS [s0, s1, s2, s3, s4, s5, s6, s7] hp q := hH.2
  have f0 : SHq (XT hp) (nmR hp (xnm hp)) s0 s1 s2 s3 s4 s5 s6 s7 ∧ s4 ≠ 4 := fcX (ys := [s0, s1, s2, s3, s4, s5, s6, s7]) (hFc _ (.head _)) ⟨sE_V rfl, sE_V rfl, sE_V rfl, sE_V rfl, sE_V rfl, sE_V rfl, sE_V rfl, sE_V rfl, trivial⟩
  have u := sh_bd (XT_ok hO) f0.1
  exact poX (.head _) rfl hR (all_cons (ivO (y := s2) rfl (show (0 : Int) ≤ s2 by omega) (show s2 ≤ (20 : Int) by omega)) (all_cons (ivO (y := s3) rfl (show (0 : Int) ≤ s3 by omega) (show s3 ≤ (6560 : Int) by omega)) (all_cons (ivO (y := s4) rfl (show (0 : Int) ≤ s4 by omega) (show s4 ≤ (3 : Int) by omega)) (all_cons (ivO (y := s7) rfl (show (-1 : Int) ≤ s7 by omega) (show s7 ≤ (99 : Int) by omega)) (all_nil))))) (all_nil) (all_nil)
theorem rl278 : ruOk fFS gR278 := by
  intro r hp hO hN hH
  obtain ⟨s0, s1, s2, s3, s4, s5, s6, s7, rfl⟩ := len8 (show r.length = 8 from hN.1)
  have hR := hN.2.1.1
  have hIv : ∀ q ∈ ([(0, .negSucc 2147483647, .ofNat 2147483647), (1, .negSucc 2147483647, .ofNat 2147483647), (2, .negSucc 2147483647, .ofNat 2147483647), (3, .negSucc 2147483647, .ofNat 2147483647), (4, .ofNat 0, .ofNat 3), (5, .negSucc 2147483647, .ofNat 2147483647), (6, .negSucc 2147483647, .ofNat 2147483647), (7, .negSucc 2147483647, .ofNat 2147483647)] : sIv), ∃ x, ([s0, s1, s2, s3, s4, s5, s6, s7] : List Int)[q.1]? = some x ∧ q.2.1 ≤ x ∧ x ≤ q.2.2 := hN.2.1.2
  have b4 : (0 : Int) ≤ s4 ∧ s4 ≤ (3 : Int) := ivX (q := (4, .ofNat 0, .ofNat 3)) (y := s4) (hIv _ (.tail _ (.tail _ (.tail _ (.tail _ (.head _)))))) rfl
  have hRf : ∀ q ∈ ([((40, .ofNat 173, []), (.ofNat 9, []), 1, .ofNat 0, [])] : List sRf), rfOk [s0, s1, s2, s3, s4, s5, s6, s7] hp q := hH.1
  have h0 : hI hp 173 9 = 0 := rfI0 (hRf _ (.head _)) (sE_k _ _) (sE_k _ _) (sE_k _ _)
  have hFc : ∀ q ∈ ([(192, [(.ofNat 0, [(.ofNat 1, 0)]), (.ofNat 0, [(.ofNat 1, 1)]), (.ofNat 0, [(.ofNat 1, 2)]), (.ofNat 0, [(.ofNat 1, 3)]), (.ofNat 0, [(.ofNat 1, 4)]), (.ofNat 0, [(.ofNat 1, 5)]), (.ofNat 0, [(.ofNat 1, 6)]), (.ofNat 0, [(.ofNat 1, 7)])])] : List sFc), fcOk fFS [s0, s1, s2, s3, s4, s5, s6, s7] hp q := hH.2
  have f0 : SHq (XT hp) (nmR hp (xnm hp)) s0 s1 s2 s3 s4 s5 s6 s7 ∧ s4 ≠ 4 := fcX (ys := [s0, s1, s2, s3, s4, s5, s6, s7]) (hFc _ (.head _)) ⟨sE_V rfl, sE_V rfl, sE_V rfl, sE_V rfl, sE_V rfl, sE_V rfl, sE_V rfl, sE_V rfl, trivial⟩
  have u := sh_bd (XT_ok hO) f0.1
  have y : (((0 : Int) ≤ s4 ∧ s4 ≤ (0 : Int))) ∨ (((1 : Int) ≤ s4 ∧ s4 ≤ (1 : Int))) ∨ (((2 : Int) ≤ s4 ∧ s4 ≤ (2 : Int))) ∨ (((3 : Int) ≤ s4 ∧ s4 ≤ (3 : Int))) := by omega
  rcases y with y | y | y | y
  · exact poX (.head _) rfl hR (all_cons (ivO (y := s4) rfl (show (0 : Int) ≤ s4 by omega) (show s4 ≤ (0 : Int) by omega)) (all_nil)) (all_nil) (all_nil)
  · exact poX (.tail _ (.head _)) rfl hR (all_cons (ivO (y := s4) rfl (show (1 : Int) ≤ s4 by omega) (show s4 ≤ (1 : Int) by omega)) (all_nil)) (all_nil) (all_nil)
  · exact poX (.tail _ (.tail _ (.head _))) rfl hR (all_cons (ivO (y := s4) rfl (show (2 : Int) ≤ s4 by omega) (show s4 ≤ (2 : Int) by omega)) (all_nil)) (all_nil) (all_nil)
  · exact poX (.tail _ (.tail _ (.tail _ (.head _)))) rfl hR (all_cons (ivO (y := s4) rfl (show (3 : Int) ≤ s4 by omega) (show s4 ≤ (3 : Int) by omega)) (all_nil)) (all_nil) (all_nil)
theorem rl279 : ruOk fFS gR279 := by
  intro r hp hO hN hH
  obtain ⟨s0, rfl⟩ := len1 (show r.length = 1 from hN.1)
  have hR := hN.2.1.1
  have hIv : ∀ q ∈ ([(0, .ofNat 0, .ofNat 6560)] : sIv), ∃ x, ([s0] : List Int)[q.1]? = some x ∧ q.2.1 ≤ x ∧ x ≤ q.2.2 := hN.2.1.2
  have b0 : (0 : Int) ≤ s0 ∧ s0 ≤ (6560 : Int) := ivX (q := (0, .ofNat 0, .ofNat 6560)) (y := s0) (hIv _ (.head _)) rfl
  have hFc : ∀ q ∈ ([(199, [(.ofNat 0, [(.ofNat 1, 0)]), (.ofNat 1, [])])] : List sFc), fcOk fFS [s0] hp q := hH.2
  have f0 : (1 : Int) = dp s0 + 1 := fcX (ys := [s0, 1]) (hFc _ (.head _)) ⟨sE_V rfl, sE_k _ _, trivial⟩
  have u : s0 < 1 := dp_lm 0 (by decide) (by omega) (by omega)
  exact poX (.head _) rfl hR (all_cons (ivO (y := s0) rfl (show (0 : Int) ≤ s0 by omega) (show s0 ≤ (0 : Int) by omega)) (all_nil)) (all_nil) (all_nil)
theorem rl280 : ruOk fFS gR280 := by
  intro r hp hO hN hH
  obtain ⟨s0, s1, s2, s3, s4, s5, s6, s7, rfl⟩ := len8 (show r.length = 8 from hN.1)
  have hR := hN.2.1.1
  have hIv : ∀ q ∈ ([(0, .negSucc 2147483647, .ofNat 2147483647), (1, .negSucc 2147483647, .ofNat 2147483647), (2, .negSucc 2147483647, .ofNat 2147483647), (3, .negSucc 2147483647, .ofNat 2147483647), (4, .ofNat 1, .ofNat 1), (5, .negSucc 2147483647, .ofNat 2147483647), (6, .negSucc 2147483647, .ofNat 2147483647), (7, .negSucc 2147483647, .ofNat 2147483647)] : sIv), ∃ x, ([s0, s1, s2, s3, s4, s5, s6, s7] : List Int)[q.1]? = some x ∧ q.2.1 ≤ x ∧ x ≤ q.2.2 := hN.2.1.2
  have b4 : (1 : Int) ≤ s4 ∧ s4 ≤ (1 : Int) := ivX (q := (4, .ofNat 1, .ofNat 1)) (y := s4) (hIv _ (.tail _ (.tail _ (.tail _ (.tail _ (.head _)))))) rfl
  have b7 : (-2147483648 : Int) ≤ s7 ∧ s7 ≤ (2147483647 : Int) := ivX (q := (7, .negSucc 2147483647, .ofNat 2147483647)) (y := s7) (hIv _ (.tail _ (.tail _ (.tail _ (.tail _ (.tail _ (.tail _ (.tail _ (.head _))))))))) rfl
  have hRf : ∀ q ∈ ([((40, .ofNat 173, []), (.ofNat 9, []), 1, .ofNat 0, [])] : List sRf), rfOk [s0, s1, s2, s3, s4, s5, s6, s7] hp q := hH.1
  have h0 : hI hp 173 9 = 0 := rfI0 (hRf _ (.head _)) (sE_k _ _) (sE_k _ _) (sE_k _ _)
  have hFc : ∀ q ∈ ([(192, [(.ofNat 0, [(.ofNat 1, 0)]), (.ofNat 0, [(.ofNat 1, 1)]), (.ofNat 0, [(.ofNat 1, 2)]), (.ofNat 0, [(.ofNat 1, 3)]), (.ofNat 0, [(.ofNat 1, 4)]), (.ofNat 0, [(.ofNat 1, 5)]), (.ofNat 0, [(.ofNat 1, 6)]), (.ofNat 0, [(.ofNat 1, 7)])])] : List sFc), fcOk fFS [s0, s1, s2, s3, s4, s5, s6, s7] hp q := hH.2
  have f0 : SHq (XT hp) (nmR hp (xnm hp)) s0 s1 s2 s3 s4 s5 s6 s7 ∧ s4 ≠ 4 := fcX (ys := [s0, s1, s2, s3, s4, s5, s6, s7]) (hFc _ (.head _)) ⟨sE_V rfl, sE_V rfl, sE_V rfl, sE_V rfl, sE_V rfl, sE_V rfl, sE_V rfl, sE_V rfl, trivial⟩
  have u := sh_bd (XT_ok hO) f0.1
  have u3 := sh_k1 (XT_ok hO) f0.1 (by omega)
  exact poX (.head _) rfl hR (all_cons (ivO (y := s7) rfl (show (-1 : Int) ≤ s7 by omega) (show s7 ≤ (29 : Int) by omega)) (all_nil)) (all_nil) (all_nil)
theorem rl281 : ruOk fFS gR281 := by
  intro r hp hO hN hH
  obtain ⟨s0, s1, s2, s3, s4, s5, s6, s7, rfl⟩ := len8 (show r.length = 8 from hN.1)
  have hR := hN.2.1.1
  have hIv : ∀ q ∈ ([(0, .negSucc 2147483647, .ofNat 2147483647), (1, .negSucc 2147483647, .ofNat 2147483647), (2, .negSucc 2147483647, .ofNat 2147483647), (3, .negSucc 2147483647, .ofNat 2147483647), (4, .ofNat 1, .ofNat 1), (5, .negSucc 2147483647, .ofNat 2147483647), (6, .negSucc 2147483647, .ofNat 2147483647), (7, .negSucc 0, .ofNat 29)] : sIv), ∃ x, ([s0, s1, s2, s3, s4, s5, s6, s7] : List Int)[q.1]? = some x ∧ q.2.1 ≤ x ∧ x ≤ q.2.2 := hN.2.1.2
  have b4 : (1 : Int) ≤ s4 ∧ s4 ≤ (1 : Int) := ivX (q := (4, .ofNat 1, .ofNat 1)) (y := s4) (hIv _ (.tail _ (.tail _ (.tail _ (.tail _ (.head _)))))) rfl
  have b7 : (-1 : Int) ≤ s7 ∧ s7 ≤ (29 : Int) := ivX (q := (7, .negSucc 0, .ofNat 29)) (y := s7) (hIv _ (.tail _ (.tail _ (.tail _ (.tail _ (.tail _ (.tail _ (.tail _ (.head _))))))))) rfl
  have hRf : ∀ q ∈ ([((40, .ofNat 173, []), (.ofNat 9, []), 1, .ofNat 0, [])] : List sRf), rfOk [s0, s1, s2, s3, s4, s5, s6, s7] hp q := hH.1
  have h0 : hI hp 173 9 = 0 := rfI0 (hRf _ (.head _)) (sE_k _ _) (sE_k _ _) (sE_k _ _)
  have hFc : ∀ q ∈ ([(192, [(.ofNat 0, [(.ofNat 1, 0)]), (.ofNat 0, [(.ofNat 1, 1)]), (.ofNat 0, [(.ofNat 1, 2)]), (.ofNat 0, [(.ofNat 1, 3)]), (.ofNat 0, [(.ofNat 1, 4)]), (.ofNat 0, [(.ofNat 1, 5)]), (.ofNat 0, [(.ofNat 1, 6)]), (.ofNat 0, [(.ofNat 1, 7)])])] : List sFc), fcOk fFS [s0, s1, s2, s3, s4, s5, s6, s7] hp q := hH.2
  have f0 : SHq (XT hp) (nmR hp (xnm hp)) s0 s1 s2 s3 s4 s5 s6 s7 ∧ s4 ≠ 4 := fcX (ys := [s0, s1, s2, s3, s4, s5, s6, s7]) (hFc _ (.head _)) ⟨sE_V rfl, sE_V rfl, sE_V rfl, sE_V rfl, sE_V rfl, sE_V rfl, sE_V rfl, sE_V rfl, trivial⟩
  have u := sh_bd (XT_ok hO) f0.1
  have u3 := sh_k1 (XT_ok hO) f0.1 (by omega)
  have y : (((-1 : Int) ≤ s7 ∧ s7 ≤ (12 : Int))) ∨ (((13 : Int) ≤ s7 ∧ s7 ≤ (13 : Int))) ∨ (((14 : Int) ≤ s7 ∧ s7 ≤ (20 : Int))) ∨ (((21 : Int) ≤ s7 ∧ s7 ≤ (21 : Int))) ∨ (((22 : Int) ≤ s7 ∧ s7 ≤ (22 : Int))) ∨ (((23 : Int) ≤ s7 ∧ s7 ≤ (23 : Int))) ∨ (((24 : Int) ≤ s7 ∧ s7 ≤ (24 : Int))) ∨ (((25 : Int) ≤ s7 ∧ s7 ≤ (25 : Int))) ∨ (((26 : Int) ≤ s7 ∧ s7 ≤ (29 : Int))) := by omega
  rcases y with y | y | y | y | y | y | y | y | y
  · exact poX (.head _) rfl hR (all_cons (ivO (y := s7) rfl (show (-1 : Int) ≤ s7 by omega) (show s7 ≤ (12 : Int) by omega)) (all_nil)) (all_nil) (all_nil)
  · exact poX (.tail _ (.head _)) rfl hR (all_cons (ivO (y := s7) rfl (show (13 : Int) ≤ s7 by omega) (show s7 ≤ (13 : Int) by omega)) (all_nil)) (all_nil) (all_nil)
  · exact poX (.tail _ (.tail _ (.head _))) rfl hR (all_cons (ivO (y := s7) rfl (show (14 : Int) ≤ s7 by omega) (show s7 ≤ (20 : Int) by omega)) (all_nil)) (all_nil) (all_nil)
  · exact poX (.tail _ (.tail _ (.tail _ (.head _)))) rfl hR (all_cons (ivO (y := s7) rfl (show (21 : Int) ≤ s7 by omega) (show s7 ≤ (21 : Int) by omega)) (all_nil)) (all_nil) (all_nil)
  · exact poX (.tail _ (.tail _ (.tail _ (.tail _ (.head _))))) rfl hR (all_cons (ivO (y := s7) rfl (show (22 : Int) ≤ s7 by omega) (show s7 ≤ (22 : Int) by omega)) (all_nil)) (all_nil) (all_nil)
  · exact poX (.tail _ (.tail _ (.tail _ (.tail _ (.tail _ (.head _)))))) rfl hR (all_cons (ivO (y := s7) rfl (show (23 : Int) ≤ s7 by omega) (show s7 ≤ (23 : Int) by omega)) (all_nil)) (all_nil) (all_nil)
  · exact poX (.tail _ (.tail _ (.tail _ (.tail _ (.tail _ (.tail _ (.head _))))))) rfl hR (all_cons (ivO (y := s7) rfl (show (24 : Int) ≤ s7 by omega) (show s7 ≤ (24 : Int) by omega)) (all_nil)) (all_nil) (all_nil)
  · exact poX (.tail _ (.tail _ (.tail _ (.tail _ (.tail _ (.tail _ (.tail _ (.head _)))))))) rfl hR (all_cons (ivO (y := s7) rfl (show (25 : Int) ≤ s7 by omega) (show s7 ≤ (25 : Int) by omega)) (all_nil)) (all_nil) (all_nil)
  · exact poX (.tail _ (.tail _ (.tail _ (.tail _ (.tail _ (.tail _ (.tail _ (.tail _ (.head _))))))))) rfl hR (all_cons (ivO (y := s7) rfl (show (26 : Int) ≤ s7 by omega) (show s7 ≤ (29 : Int) by omega)) (all_nil)) (all_nil) (all_nil)
theorem rl282 : ruOk fFS gR282 := by
  intro r hp hO hN hH
  obtain ⟨s0, s1, s2, s3, s4, s5, s6, s7, rfl⟩ := len8 (show r.length = 8 from hN.1)
  have hR := hN.2.1.1
  have hIv : ∀ q ∈ ([(0, .negSucc 2147483647, .ofNat 2147483647), (1, .ofNat 0, .ofNat 0), (2, .negSucc 2147483647, .ofNat 2147483647), (3, .negSucc 2147483647, .ofNat 2147483647), (4, .ofNat 0, .ofNat 0), (5, .negSucc 2147483647, .ofNat 2147483647), (6, .negSucc 2147483647, .ofNat 2147483647), (7, .negSucc 2147483647, .ofNat 2147483647)] : sIv), ∃ x, ([s0, s1, s2, s3, s4, s5, s6, s7] : List Int)[q.1]? = some x ∧ q.2.1 ≤ x ∧ x ≤ q.2.2 := hN.2.1.2
  have b1 : (0 : Int) ≤ s1 ∧ s1 ≤ (0 : Int) := ivX (q := (1, .ofNat 0, .ofNat 0)) (y := s1) (hIv _ (.tail _ (.head _))) rfl
  have b4 : (0 : Int) ≤ s4 ∧ s4 ≤ (0 : Int) := ivX (q := (4, .ofNat 0, .ofNat 0)) (y := s4) (hIv _ (.tail _ (.tail _ (.tail _ (.tail _ (.head _)))))) rfl
  have hRf : ∀ q ∈ ([((40, .ofNat 173, []), (.ofNat 9, []), 1, .ofNat 0, [])] : List sRf), rfOk [s0, s1, s2, s3, s4, s5, s6, s7] hp q := hH.1
  have h0 : hI hp 173 9 = 0 := rfI0 (hRf _ (.head _)) (sE_k _ _) (sE_k _ _) (sE_k _ _)
  have hFc : ∀ q ∈ ([(192, [(.ofNat 0, [(.ofNat 1, 0)]), (.ofNat 0, [(.ofNat 1, 1)]), (.ofNat 0, [(.ofNat 1, 2)]), (.ofNat 0, [(.ofNat 1, 3)]), (.ofNat 0, [(.ofNat 1, 4)]), (.ofNat 0, [(.ofNat 1, 5)]), (.ofNat 0, [(.ofNat 1, 6)]), (.ofNat 0, [(.ofNat 1, 7)])])] : List sFc), fcOk fFS [s0, s1, s2, s3, s4, s5, s6, s7] hp q := hH.2
  have f0 : SHq (XT hp) (nmR hp (xnm hp)) s0 s1 s2 s3 s4 s5 s6 s7 ∧ s4 ≠ 4 := fcX (ys := [s0, s1, s2, s3, s4, s5, s6, s7]) (hFc _ (.head _)) ⟨sE_V rfl, sE_V rfl, sE_V rfl, sE_V rfl, sE_V rfl, sE_V rfl, sE_V rfl, sE_V rfl, trivial⟩
  exact poX (.head _) rfl hR (all_nil) (all_nil) (all_cons ⟨[1, s5], ⟨sE_k _ _, sE_V rfl, trivial⟩, (show SRS (XT hp) (nmR hp (xnm hp)) (1 : Int) s5 from s0_f1 f0.1 (by omega) (by omega) (by omega))⟩ (all_nil))
theorem rl283 : ruOk fFS gR283 := by
  intro r hp hO hN hH
  obtain ⟨s0, s1, s2, s3, s4, s5, s6, s7, rfl⟩ := len8 (show r.length = 8 from hN.1)
  have hR := hN.2.1.1
  have hIv : ∀ q ∈ ([(0, .negSucc 2147483647, .ofNat 2147483647), (1, .ofNat 0, .ofNat 0), (2, .negSucc 2147483647, .ofNat 2147483647), (3, .negSucc 2147483647, .ofNat 2147483647), (4, .ofNat 2, .ofNat 2), (5, .negSucc 2147483647, .ofNat 2147483647), (6, .negSucc 2147483647, .ofNat 2147483647), (7, .negSucc 2147483647, .ofNat 2147483647)] : sIv), ∃ x, ([s0, s1, s2, s3, s4, s5, s6, s7] : List Int)[q.1]? = some x ∧ q.2.1 ≤ x ∧ x ≤ q.2.2 := hN.2.1.2
  have b1 : (0 : Int) ≤ s1 ∧ s1 ≤ (0 : Int) := ivX (q := (1, .ofNat 0, .ofNat 0)) (y := s1) (hIv _ (.tail _ (.head _))) rfl
  have b4 : (2 : Int) ≤ s4 ∧ s4 ≤ (2 : Int) := ivX (q := (4, .ofNat 2, .ofNat 2)) (y := s4) (hIv _ (.tail _ (.tail _ (.tail _ (.tail _ (.head _)))))) rfl
  have hRf : ∀ q ∈ ([((40, .ofNat 173, []), (.ofNat 9, []), 1, .ofNat 0, [])] : List sRf), rfOk [s0, s1, s2, s3, s4, s5, s6, s7] hp q := hH.1
  have h0 : hI hp 173 9 = 0 := rfI0 (hRf _ (.head _)) (sE_k _ _) (sE_k _ _) (sE_k _ _)
  have hFc : ∀ q ∈ ([(192, [(.ofNat 0, [(.ofNat 1, 0)]), (.ofNat 0, [(.ofNat 1, 1)]), (.ofNat 0, [(.ofNat 1, 2)]), (.ofNat 0, [(.ofNat 1, 3)]), (.ofNat 0, [(.ofNat 1, 4)]), (.ofNat 0, [(.ofNat 1, 5)]), (.ofNat 0, [(.ofNat 1, 6)]), (.ofNat 0, [(.ofNat 1, 7)])])] : List sFc), fcOk fFS [s0, s1, s2, s3, s4, s5, s6, s7] hp q := hH.2
  have f0 : SHq (XT hp) (nmR hp (xnm hp)) s0 s1 s2 s3 s4 s5 s6 s7 ∧ s4 ≠ 4 := fcX (ys := [s0, s1, s2, s3, s4, s5, s6, s7]) (hFc _ (.head _)) ⟨sE_V rfl, sE_V rfl, sE_V rfl, sE_V rfl, sE_V rfl, sE_V rfl, sE_V rfl, sE_V rfl, trivial⟩
  exact poX (.head _) rfl hR (all_nil) (all_nil) (all_cons ⟨[1, s5], ⟨sE_k _ _, sE_V rfl, trivial⟩, (show SRS (XT hp) (nmR hp (xnm hp)) (1 : Int) s5 from s0_f1 f0.1 (by omega) (by omega) (by omega))⟩ (all_nil))
theorem rl284 : ruOk fFS gR284 := by
  intro r hp hO hN hH
  obtain ⟨s0, s1, s2, s3, s4, s5, s6, s7, rfl⟩ := len8 (show r.length = 8 from hN.1)
  have hR := hN.2.1.1
  have hIv : ∀ q ∈ ([(0, .negSucc 2147483647, .ofNat 2147483647), (1, .ofNat 0, .ofNat 0), (2, .negSucc 2147483647, .ofNat 2147483647), (3, .negSucc 2147483647, .ofNat 2147483647), (4, .ofNat 3, .ofNat 3), (5, .negSucc 2147483647, .ofNat 2147483647), (6, .negSucc 2147483647, .ofNat 2147483647), (7, .negSucc 0, .ofNat 39)] : sIv), ∃ x, ([s0, s1, s2, s3, s4, s5, s6, s7] : List Int)[q.1]? = some x ∧ q.2.1 ≤ x ∧ x ≤ q.2.2 := hN.2.1.2
  have b1 : (0 : Int) ≤ s1 ∧ s1 ≤ (0 : Int) := ivX (q := (1, .ofNat 0, .ofNat 0)) (y := s1) (hIv _ (.tail _ (.head _))) rfl
  have b4 : (3 : Int) ≤ s4 ∧ s4 ≤ (3 : Int) := ivX (q := (4, .ofNat 3, .ofNat 3)) (y := s4) (hIv _ (.tail _ (.tail _ (.tail _ (.tail _ (.head _)))))) rfl
  have b7 : (-1 : Int) ≤ s7 ∧ s7 ≤ (39 : Int) := ivX (q := (7, .negSucc 0, .ofNat 39)) (y := s7) (hIv _ (.tail _ (.tail _ (.tail _ (.tail _ (.tail _ (.tail _ (.tail _ (.head _))))))))) rfl
  have hRf : ∀ q ∈ ([((40, .ofNat 173, []), (.ofNat 9, []), 1, .ofNat 0, [])] : List sRf), rfOk [s0, s1, s2, s3, s4, s5, s6, s7] hp q := hH.1
  have h0 : hI hp 173 9 = 0 := rfI0 (hRf _ (.head _)) (sE_k _ _) (sE_k _ _) (sE_k _ _)
  have hFc : ∀ q ∈ ([(192, [(.ofNat 0, [(.ofNat 1, 0)]), (.ofNat 0, [(.ofNat 1, 1)]), (.ofNat 0, [(.ofNat 1, 2)]), (.ofNat 0, [(.ofNat 1, 3)]), (.ofNat 0, [(.ofNat 1, 4)]), (.ofNat 0, [(.ofNat 1, 5)]), (.ofNat 0, [(.ofNat 1, 6)]), (.ofNat 0, [(.ofNat 1, 7)])])] : List sFc), fcOk fFS [s0, s1, s2, s3, s4, s5, s6, s7] hp q := hH.2
  have f0 : SHq (XT hp) (nmR hp (xnm hp)) s0 s1 s2 s3 s4 s5 s6 s7 ∧ s4 ≠ 4 := fcX (ys := [s0, s1, s2, s3, s4, s5, s6, s7]) (hFc _ (.head _)) ⟨sE_V rfl, sE_V rfl, sE_V rfl, sE_V rfl, sE_V rfl, sE_V rfl, sE_V rfl, sE_V rfl, trivial⟩
  exact poX (.head _) rfl hR (all_nil) (all_nil) (all_cons ⟨[1, s5], ⟨sE_k _ _, sE_V rfl, trivial⟩, (show SRS (XT hp) (nmR hp (xnm hp)) (1 : Int) s5 from s0_f1 f0.1 (by omega) (by omega) (by omega))⟩ (all_nil))
theorem rl285 : ruOk fFS gR285 := by
  intro r hp hO hN hH
  obtain ⟨s0, s1, s2, s3, s4, s5, s6, s7, s8, rfl⟩ := len9 (show r.length = 9 from hN.1)
  have hR := hN.2.1.1
  have hIv : ∀ q ∈ ([(0, .negSucc 2147483647, .ofNat 2147483647), (1, .ofNat 0, .ofNat 0), (2, .ofNat 0, .ofNat 19), (3, .ofNat 0, .ofNat 6560), (4, .ofNat 3, .ofNat 3), (5, .negSucc 2147483647, .ofNat 2147483647), (6, .negSucc 2147483647, .ofNat 2147483647), (7, .ofNat 40, .ofNat 40), (8, .negSucc 2147483647, .ofNat 2147483647)] : sIv), ∃ x, ([s0, s1, s2, s3, s4, s5, s6, s7, s8] : List Int)[q.1]? = some x ∧ q.2.1 ≤ x ∧ x ≤ q.2.2 := hN.2.1.2
  have b1 : (0 : Int) ≤ s1 ∧ s1 ≤ (0 : Int) := ivX (q := (1, .ofNat 0, .ofNat 0)) (y := s1) (hIv _ (.tail _ (.head _))) rfl
  have b2 : (0 : Int) ≤ s2 ∧ s2 ≤ (19 : Int) := ivX (q := (2, .ofNat 0, .ofNat 19)) (y := s2) (hIv _ (.tail _ (.tail _ (.head _)))) rfl
  have b3 : (0 : Int) ≤ s3 ∧ s3 ≤ (6560 : Int) := ivX (q := (3, .ofNat 0, .ofNat 6560)) (y := s3) (hIv _ (.tail _ (.tail _ (.tail _ (.head _))))) rfl
  have b4 : (3 : Int) ≤ s4 ∧ s4 ≤ (3 : Int) := ivX (q := (4, .ofNat 3, .ofNat 3)) (y := s4) (hIv _ (.tail _ (.tail _ (.tail _ (.tail _ (.head _)))))) rfl
  have b7 : (40 : Int) ≤ s7 ∧ s7 ≤ (40 : Int) := ivX (q := (7, .ofNat 40, .ofNat 40)) (y := s7) (hIv _ (.tail _ (.tail _ (.tail _ (.tail _ (.tail _ (.tail _ (.tail _ (.head _))))))))) rfl
  have hRf : ∀ q ∈ ([((40, .ofNat 173, []), (.ofNat 9, []), 1, .ofNat 0, [])] : List sRf), rfOk [s0, s1, s2, s3, s4, s5, s6, s7, s8] hp q := hH.1
  have h0 : hI hp 173 9 = 0 := rfI0 (hRf _ (.head _)) (sE_k _ _) (sE_k _ _) (sE_k _ _)
  have hFc : ∀ q ∈ ([(192, [(.ofNat 0, [(.ofNat 1, 0)]), (.ofNat 0, [(.ofNat 1, 1)]), (.ofNat 0, [(.ofNat 1, 2)]), (.ofNat 0, [(.ofNat 1, 3)]), (.ofNat 0, [(.ofNat 1, 4)]), (.ofNat 0, [(.ofNat 1, 5)]), (.ofNat 0, [(.ofNat 1, 6)]), (.ofNat 0, [(.ofNat 1, 7)])]), (199, [(.ofNat 0, [(.ofNat 1, 3)]), (.ofNat 1, [])]), (200, [(.ofNat 0, [(.ofNat 1, 3)]), (.ofNat 0, [(.ofNat 1, 8)])])] : List sFc), fcOk fFS [s0, s1, s2, s3, s4, s5, s6, s7, s8] hp q := hH.2
  have f0 : SHq (XT hp) (nmR hp (xnm hp)) s0 s1 s2 s3 s4 s5 s6 s7 ∧ s4 ≠ 4 := fcX (ys := [s0, s1, s2, s3, s4, s5, s6, s7]) (hFc _ (.head _)) ⟨sE_V rfl, sE_V rfl, sE_V rfl, sE_V rfl, sE_V rfl, sE_V rfl, sE_V rfl, sE_V rfl, trivial⟩
  have f1 : (1 : Int) = dp s3 + 1 := fcX (ys := [s3, 1]) (hFc _ (.tail _ (.head _))) ⟨sE_V rfl, sE_k _ _, trivial⟩
  have f2 : s8 = nr s3 := fcX (ys := [s3, s8]) (hFc _ (.tail _ (.tail _ (.head _)))) ⟨sE_V rfl, sE_V rfl, trivial⟩
  have ud : dp s3 ≤ 7 := by omega
  have ut := dp_lt (t := s3) (by omega) ud
  exact poX (.head _) rfl hR (all_nil) (all_nil) (all_cons ⟨[s6, 0, (s2 + 1), (3 * s3 + 2)], ⟨sE_V rfl, sE_k _ _, sEv (y' := ((1 : Int) + ((1 : Int) * s2 + 0))) rfl (by omega), sEv (y' := ((2 : Int) + ((3 : Int) * s3 + 0))) rfl (by omega), trivial⟩, (show SG (XT hp) (nmR hp (xnm hp)) s6 (0 : Int) (s2 + 1) (3 * s3 + 2) from s0_open f0.1 (by omega) (by omega) (by omega) (by omega) ud)⟩ (all_cons ⟨[(3 * s3 + 2), 2], ⟨sEv (y' := ((2 : Int) + ((3 : Int) * s3 + 0))) rfl (by omega), sE_k _ _, trivial⟩, (show (2 : Int) = dp (3 * s3 + 2) + 1 from dp_32 (t := s3) (by omega) (by omega) f1 (by omega) rfl)⟩ (all_cons ⟨[(3 * s3 + 2)], ⟨sEv (y' := ((2 : Int) + ((3 : Int) * s3 + 0))) rfl (by omega), trivial⟩, (show nr (3 * s3 + 2) = (3 * s3 + 2) from nr_32)⟩ (all_nil))))
theorem rl286 : ruOk fFS gR286 := by
  intro r hp hO hN hH
  obtain ⟨s0, rfl⟩ := len1 (show r.length = 1 from hN.1)
  have hR := hN.2.1.1
  have hIv : ∀ q ∈ ([(0, .ofNat 0, .ofNat 6560)] : sIv), ∃ x, ([s0] : List Int)[q.1]? = some x ∧ q.2.1 ≤ x ∧ x ≤ q.2.2 := hN.2.1.2
  have b0 : (0 : Int) ≤ s0 ∧ s0 ≤ (6560 : Int) := ivX (q := (0, .ofNat 0, .ofNat 6560)) (y := s0) (hIv _ (.head _)) rfl
  have hFc : ∀ q ∈ ([(199, [(.ofNat 0, [(.ofNat 1, 0)]), (.ofNat 2, [])])] : List sFc), fcOk fFS [s0] hp q := hH.2
  have f0 : (2 : Int) = dp s0 + 1 := fcX (ys := [s0, 2]) (hFc _ (.head _)) ⟨sE_V rfl, sE_k _ _, trivial⟩
  have u : s0 < 3 := dp_lm 1 (by decide) (by omega) (by omega)
  exact poX (.head _) rfl hR (all_cons (ivO (y := s0) rfl (show (0 : Int) ≤ s0 by omega) (show s0 ≤ (2 : Int) by omega)) (all_nil)) (all_nil) (all_nil)
theorem rl287 : ruOk fFS gR287 := by
  intro r hp hO hN hH
  obtain ⟨s0, s1, s2, s3, s4, s5, s6, s7, s8, rfl⟩ := len9 (show r.length = 9 from hN.1)
  have hR := hN.2.1.1
  have hIv : ∀ q ∈ ([(0, .negSucc 2147483647, .ofNat 2147483647), (1, .ofNat 0, .ofNat 0), (2, .ofNat 0, .ofNat 19), (3, .ofNat 0, .ofNat 6560), (4, .ofNat 3, .ofNat 3), (5, .negSucc 2147483647, .ofNat 2147483647), (6, .negSucc 2147483647, .ofNat 2147483647), (7, .ofNat 40, .ofNat 40), (8, .negSucc 2147483647, .ofNat 2147483647)] : sIv), ∃ x, ([s0, s1, s2, s3, s4, s5, s6, s7, s8] : List Int)[q.1]? = some x ∧ q.2.1 ≤ x ∧ x ≤ q.2.2 := hN.2.1.2
  have b1 : (0 : Int) ≤ s1 ∧ s1 ≤ (0 : Int) := ivX (q := (1, .ofNat 0, .ofNat 0)) (y := s1) (hIv _ (.tail _ (.head _))) rfl
  have b2 : (0 : Int) ≤ s2 ∧ s2 ≤ (19 : Int) := ivX (q := (2, .ofNat 0, .ofNat 19)) (y := s2) (hIv _ (.tail _ (.tail _ (.head _)))) rfl
  have b3 : (0 : Int) ≤ s3 ∧ s3 ≤ (6560 : Int) := ivX (q := (3, .ofNat 0, .ofNat 6560)) (y := s3) (hIv _ (.tail _ (.tail _ (.tail _ (.head _))))) rfl
  have b4 : (3 : Int) ≤ s4 ∧ s4 ≤ (3 : Int) := ivX (q := (4, .ofNat 3, .ofNat 3)) (y := s4) (hIv _ (.tail _ (.tail _ (.tail _ (.tail _ (.head _)))))) rfl
  have b7 : (40 : Int) ≤ s7 ∧ s7 ≤ (40 : Int) := ivX (q := (7, .ofNat 40, .ofNat 40)) (y := s7) (hIv _ (.tail _ (.tail _ (.tail _ (.tail _ (.tail _ (.tail _ (.tail _ (.head _))))))))) rfl
  have hRf : ∀ q ∈ ([((40, .ofNat 173, []), (.ofNat 9, []), 1, .ofNat 0, [])] : List sRf), rfOk [s0, s1, s2, s3, s4, s5, s6, s7, s8] hp q := hH.1
  have h0 : hI hp 173 9 = 0 := rfI0 (hRf _ (.head _)) (sE_k _ _) (sE_k _ _) (sE_k _ _)
  have hFc : ∀ q ∈ ([(192, [(.ofNat 0, [(.ofNat 1, 0)]), (.ofNat 0, [(.ofNat 1, 1)]), (.ofNat 0, [(.ofNat 1, 2)]), (.ofNat 0, [(.ofNat 1, 3)]), (.ofNat 0, [(.ofNat 1, 4)]), (.ofNat 0, [(.ofNat 1, 5)]), (.ofNat 0, [(.ofNat 1, 6)]), (.ofNat 0, [(.ofNat 1, 7)])]), (199, [(.ofNat 0, [(.ofNat 1, 3)]), (.ofNat 2, [])]), (200, [(.ofNat 0, [(.ofNat 1, 3)]), (.ofNat 0, [(.ofNat 1, 8)])])] : List sFc), fcOk fFS [s0, s1, s2, s3, s4, s5, s6, s7, s8] hp q := hH.2
  have f0 : SHq (XT hp) (nmR hp (xnm hp)) s0 s1 s2 s3 s4 s5 s6 s7 ∧ s4 ≠ 4 := fcX (ys := [s0, s1, s2, s3, s4, s5, s6, s7]) (hFc _ (.head _)) ⟨sE_V rfl, sE_V rfl, sE_V rfl, sE_V rfl, sE_V rfl, sE_V rfl, sE_V rfl, sE_V rfl, trivial⟩
  have f1 : (2 : Int) = dp s3 + 1 := fcX (ys := [s3, 2]) (hFc _ (.tail _ (.head _))) ⟨sE_V rfl, sE_k _ _, trivial⟩
  have f2 : s8 = nr s3 := fcX (ys := [s3, s8]) (hFc _ (.tail _ (.tail _ (.head _)))) ⟨sE_V rfl, sE_V rfl, trivial⟩
  have ud : dp s3 ≤ 7 := by omega
  have ut := dp_lt (t := s3) (by omega) ud
  exact poX (.head _) rfl hR (all_nil) (all_nil) (all_cons ⟨[s6, 0, (s2 + 1), (3 * s3 + 2)], ⟨sE_V rfl, sE_k _ _, sEv (y' := ((1 : Int) + ((1 : Int) * s2 + 0))) rfl (by omega), sEv (y' := ((2 : Int) + ((3 : Int) * s3 + 0))) rfl (by omega), trivial⟩, (show SG (XT hp) (nmR hp (xnm hp)) s6 (0 : Int) (s2 + 1) (3 * s3 + 2) from s0_open f0.1 (by omega) (by omega) (by omega) (by omega) ud)⟩ (all_cons ⟨[(3 * s3 + 2), 3], ⟨sEv (y' := ((2 : Int) + ((3 : Int) * s3 + 0))) rfl (by omega), sE_k _ _, trivial⟩, (show (3 : Int) = dp (3 * s3 + 2) + 1 from dp_32 (t := s3) (by omega) (by omega) f1 (by omega) rfl)⟩ (all_cons ⟨[(3 * s3 + 2)], ⟨sEv (y' := ((2 : Int) + ((3 : Int) * s3 + 0))) rfl (by omega), trivial⟩, (show nr (3 * s3 + 2) = (3 * s3 + 2) from nr_32)⟩ (all_nil))))
theorem rl288 : ruOk fFS gR288 := by
  intro r hp hO hN hH
  obtain ⟨s0, rfl⟩ := len1 (show r.length = 1 from hN.1)
  have hR := hN.2.1.1
  have hIv : ∀ q ∈ ([(0, .ofNat 0, .ofNat 6560)] : sIv), ∃ x, ([s0] : List Int)[q.1]? = some x ∧ q.2.1 ≤ x ∧ x ≤ q.2.2 := hN.2.1.2
  have b0 : (0 : Int) ≤ s0 ∧ s0 ≤ (6560 : Int) := ivX (q := (0, .ofNat 0, .ofNat 6560)) (y := s0) (hIv _ (.head _)) rfl
  have hFc : ∀ q ∈ ([(199, [(.ofNat 0, [(.ofNat 1, 0)]), (.ofNat 3, [])])] : List sFc), fcOk fFS [s0] hp q := hH.2
  have f0 : (3 : Int) = dp s0 + 1 := fcX (ys := [s0, 3]) (hFc _ (.head _)) ⟨sE_V rfl, sE_k _ _, trivial⟩
  have u : s0 < 9 := dp_lm 2 (by decide) (by omega) (by omega)
  exact poX (.head _) rfl hR (all_cons (ivO (y := s0) rfl (show (0 : Int) ≤ s0 by omega) (show s0 ≤ (8 : Int) by omega)) (all_nil)) (all_nil) (all_nil)
theorem rl289 : ruOk fFS gR289 := by
  intro r hp hO hN hH
  obtain ⟨s0, s1, s2, s3, s4, s5, s6, s7, s8, rfl⟩ := len9 (show r.length = 9 from hN.1)
  have hR := hN.2.1.1
  have hIv : ∀ q ∈ ([(0, .negSucc 2147483647, .ofNat 2147483647), (1, .ofNat 0, .ofNat 0), (2, .ofNat 0, .ofNat 19), (3, .ofNat 0, .ofNat 6560), (4, .ofNat 3, .ofNat 3), (5, .negSucc 2147483647, .ofNat 2147483647), (6, .negSucc 2147483647, .ofNat 2147483647), (7, .ofNat 40, .ofNat 40), (8, .negSucc 2147483647, .ofNat 2147483647)] : sIv), ∃ x, ([s0, s1, s2, s3, s4, s5, s6, s7, s8] : List Int)[q.1]? = some x ∧ q.2.1 ≤ x ∧ x ≤ q.2.2 := hN.2.1.2
  have b1 : (0 : Int) ≤ s1 ∧ s1 ≤ (0 : Int) := ivX (q := (1, .ofNat 0, .ofNat 0)) (y := s1) (hIv _ (.tail _ (.head _))) rfl
  have b2 : (0 : Int) ≤ s2 ∧ s2 ≤ (19 : Int) := ivX (q := (2, .ofNat 0, .ofNat 19)) (y := s2) (hIv _ (.tail _ (.tail _ (.head _)))) rfl
  have b3 : (0 : Int) ≤ s3 ∧ s3 ≤ (6560 : Int) := ivX (q := (3, .ofNat 0, .ofNat 6560)) (y := s3) (hIv _ (.tail _ (.tail _ (.tail _ (.head _))))) rfl
  have b4 : (3 : Int) ≤ s4 ∧ s4 ≤ (3 : Int) := ivX (q := (4, .ofNat 3, .ofNat 3)) (y := s4) (hIv _ (.tail _ (.tail _ (.tail _ (.tail _ (.head _)))))) rfl
  have b7 : (40 : Int) ≤ s7 ∧ s7 ≤ (40 : Int) := ivX (q := (7, .ofNat 40, .ofNat 40)) (y := s7) (hIv _ (.tail _ (.tail _ (.tail _ (.tail _ (.tail _ (.tail _ (.tail _ (.head _))))))))) rfl
  have hRf : ∀ q ∈ ([((40, .ofNat 173, []), (.ofNat 9, []), 1, .ofNat 0, [])] : List sRf), rfOk [s0, s1, s2, s3, s4, s5, s6, s7, s8] hp q := hH.1
  have h0 : hI hp 173 9 = 0 := rfI0 (hRf _ (.head _)) (sE_k _ _) (sE_k _ _) (sE_k _ _)
  have hFc : ∀ q ∈ ([(192, [(.ofNat 0, [(.ofNat 1, 0)]), (.ofNat 0, [(.ofNat 1, 1)]), (.ofNat 0, [(.ofNat 1, 2)]), (.ofNat 0, [(.ofNat 1, 3)]), (.ofNat 0, [(.ofNat 1, 4)]), (.ofNat 0, [(.ofNat 1, 5)]), (.ofNat 0, [(.ofNat 1, 6)]), (.ofNat 0, [(.ofNat 1, 7)])]), (199, [(.ofNat 0, [(.ofNat 1, 3)]), (.ofNat 3, [])]), (200, [(.ofNat 0, [(.ofNat 1, 3)]), (.ofNat 0, [(.ofNat 1, 8)])])] : List sFc), fcOk fFS [s0, s1, s2, s3, s4, s5, s6, s7, s8] hp q := hH.2
  have f0 : SHq (XT hp) (nmR hp (xnm hp)) s0 s1 s2 s3 s4 s5 s6 s7 ∧ s4 ≠ 4 := fcX (ys := [s0, s1, s2, s3, s4, s5, s6, s7]) (hFc _ (.head _)) ⟨sE_V rfl, sE_V rfl, sE_V rfl, sE_V rfl, sE_V rfl, sE_V rfl, sE_V rfl, sE_V rfl, trivial⟩
  have f1 : (3 : Int) = dp s3 + 1 := fcX (ys := [s3, 3]) (hFc _ (.tail _ (.head _))) ⟨sE_V rfl, sE_k _ _, trivial⟩
  have f2 : s8 = nr s3 := fcX (ys := [s3, s8]) (hFc _ (.tail _ (.tail _ (.head _)))) ⟨sE_V rfl, sE_V rfl, trivial⟩
  have ud : dp s3 ≤ 7 := by omega
  have ut := dp_lt (t := s3) (by omega) ud
  exact poX (.head _) rfl hR (all_nil) (all_nil) (all_cons ⟨[s6, 0, (s2 + 1), (3 * s3 + 2)], ⟨sE_V rfl, sE_k _ _, sEv (y' := ((1 : Int) + ((1 : Int) * s2 + 0))) rfl (by omega), sEv (y' := ((2 : Int) + ((3 : Int) * s3 + 0))) rfl (by omega), trivial⟩, (show SG (XT hp) (nmR hp (xnm hp)) s6 (0 : Int) (s2 + 1) (3 * s3 + 2) from s0_open f0.1 (by omega) (by omega) (by omega) (by omega) ud)⟩ (all_cons ⟨[(3 * s3 + 2), 4], ⟨sEv (y' := ((2 : Int) + ((3 : Int) * s3 + 0))) rfl (by omega), sE_k _ _, trivial⟩, (show (4 : Int) = dp (3 * s3 + 2) + 1 from dp_32 (t := s3) (by omega) (by omega) f1 (by omega) rfl)⟩ (all_cons ⟨[(3 * s3 + 2)], ⟨sEv (y' := ((2 : Int) + ((3 : Int) * s3 + 0))) rfl (by omega), trivial⟩, (show nr (3 * s3 + 2) = (3 * s3 + 2) from nr_32)⟩ (all_nil))))
theorem rl290 : ruOk fFS gR290 := by
  intro r hp hO hN hH
  obtain ⟨s0, rfl⟩ := len1 (show r.length = 1 from hN.1)
  have hR := hN.2.1.1
  have hIv : ∀ q ∈ ([(0, .ofNat 0, .ofNat 6560)] : sIv), ∃ x, ([s0] : List Int)[q.1]? = some x ∧ q.2.1 ≤ x ∧ x ≤ q.2.2 := hN.2.1.2
  have b0 : (0 : Int) ≤ s0 ∧ s0 ≤ (6560 : Int) := ivX (q := (0, .ofNat 0, .ofNat 6560)) (y := s0) (hIv _ (.head _)) rfl
  have hFc : ∀ q ∈ ([(199, [(.ofNat 0, [(.ofNat 1, 0)]), (.ofNat 4, [])])] : List sFc), fcOk fFS [s0] hp q := hH.2
  have f0 : (4 : Int) = dp s0 + 1 := fcX (ys := [s0, 4]) (hFc _ (.head _)) ⟨sE_V rfl, sE_k _ _, trivial⟩
  have u : s0 < 27 := dp_lm 3 (by decide) (by omega) (by omega)
  exact poX (.head _) rfl hR (all_cons (ivO (y := s0) rfl (show (0 : Int) ≤ s0 by omega) (show s0 ≤ (26 : Int) by omega)) (all_nil)) (all_nil) (all_nil)
theorem rl291 : ruOk fFS gR291 := by
  intro r hp hO hN hH
  obtain ⟨s0, s1, s2, s3, s4, s5, s6, s7, s8, rfl⟩ := len9 (show r.length = 9 from hN.1)
  have hR := hN.2.1.1
  have hIv : ∀ q ∈ ([(0, .negSucc 2147483647, .ofNat 2147483647), (1, .ofNat 0, .ofNat 0), (2, .ofNat 0, .ofNat 19), (3, .ofNat 0, .ofNat 6560), (4, .ofNat 3, .ofNat 3), (5, .negSucc 2147483647, .ofNat 2147483647), (6, .negSucc 2147483647, .ofNat 2147483647), (7, .ofNat 40, .ofNat 40), (8, .negSucc 2147483647, .ofNat 2147483647)] : sIv), ∃ x, ([s0, s1, s2, s3, s4, s5, s6, s7, s8] : List Int)[q.1]? = some x ∧ q.2.1 ≤ x ∧ x ≤ q.2.2 := hN.2.1.2
  have b1 : (0 : Int) ≤ s1 ∧ s1 ≤ (0 : Int) := ivX (q := (1, .ofNat 0, .ofNat 0)) (y := s1) (hIv _ (.tail _ (.head _))) rfl
  have b2 : (0 : Int) ≤ s2 ∧ s2 ≤ (19 : Int) := ivX (q := (2, .ofNat 0, .ofNat 19)) (y := s2) (hIv _ (.tail _ (.tail _ (.head _)))) rfl
  have b3 : (0 : Int) ≤ s3 ∧ s3 ≤ (6560 : Int) := ivX (q := (3, .ofNat 0, .ofNat 6560)) (y := s3) (hIv _ (.tail _ (.tail _ (.tail _ (.head _))))) rfl
  have b4 : (3 : Int) ≤ s4 ∧ s4 ≤ (3 : Int) := ivX (q := (4, .ofNat 3, .ofNat 3)) (y := s4) (hIv _ (.tail _ (.tail _ (.tail _ (.tail _ (.head _)))))) rfl
  have b7 : (40 : Int) ≤ s7 ∧ s7 ≤ (40 : Int) := ivX (q := (7, .ofNat 40, .ofNat 40)) (y := s7) (hIv _ (.tail _ (.tail _ (.tail _ (.tail _ (.tail _ (.tail _ (.tail _ (.head _))))))))) rfl
  have hRf : ∀ q ∈ ([((40, .ofNat 173, []), (.ofNat 9, []), 1, .ofNat 0, [])] : List sRf), rfOk [s0, s1, s2, s3, s4, s5, s6, s7, s8] hp q := hH.1
  have h0 : hI hp 173 9 = 0 := rfI0 (hRf _ (.head _)) (sE_k _ _) (sE_k _ _) (sE_k _ _)
  have hFc : ∀ q ∈ ([(192, [(.ofNat 0, [(.ofNat 1, 0)]), (.ofNat 0, [(.ofNat 1, 1)]), (.ofNat 0, [(.ofNat 1, 2)]), (.ofNat 0, [(.ofNat 1, 3)]), (.ofNat 0, [(.ofNat 1, 4)]), (.ofNat 0, [(.ofNat 1, 5)]), (.ofNat 0, [(.ofNat 1, 6)]), (.ofNat 0, [(.ofNat 1, 7)])]), (199, [(.ofNat 0, [(.ofNat 1, 3)]), (.ofNat 4, [])]), (200, [(.ofNat 0, [(.ofNat 1, 3)]), (.ofNat 0, [(.ofNat 1, 8)])])] : List sFc), fcOk fFS [s0, s1, s2, s3, s4, s5, s6, s7, s8] hp q := hH.2
  have f0 : SHq (XT hp) (nmR hp (xnm hp)) s0 s1 s2 s3 s4 s5 s6 s7 ∧ s4 ≠ 4 := fcX (ys := [s0, s1, s2, s3, s4, s5, s6, s7]) (hFc _ (.head _)) ⟨sE_V rfl, sE_V rfl, sE_V rfl, sE_V rfl, sE_V rfl, sE_V rfl, sE_V rfl, sE_V rfl, trivial⟩
  have f1 : (4 : Int) = dp s3 + 1 := fcX (ys := [s3, 4]) (hFc _ (.tail _ (.head _))) ⟨sE_V rfl, sE_k _ _, trivial⟩
  have f2 : s8 = nr s3 := fcX (ys := [s3, s8]) (hFc _ (.tail _ (.tail _ (.head _)))) ⟨sE_V rfl, sE_V rfl, trivial⟩
  have ud : dp s3 ≤ 7 := by omega
  have ut := dp_lt (t := s3) (by omega) ud
  exact poX (.head _) rfl hR (all_nil) (all_nil) (all_cons ⟨[s6, 0, (s2 + 1), (3 * s3 + 2)], ⟨sE_V rfl, sE_k _ _, sEv (y' := ((1 : Int) + ((1 : Int) * s2 + 0))) rfl (by omega), sEv (y' := ((2 : Int) + ((3 : Int) * s3 + 0))) rfl (by omega), trivial⟩, (show SG (XT hp) (nmR hp (xnm hp)) s6 (0 : Int) (s2 + 1) (3 * s3 + 2) from s0_open f0.1 (by omega) (by omega) (by omega) (by omega) ud)⟩ (all_cons ⟨[(3 * s3 + 2), 5], ⟨sEv (y' := ((2 : Int) + ((3 : Int) * s3 + 0))) rfl (by omega), sE_k _ _, trivial⟩, (show (5 : Int) = dp (3 * s3 + 2) + 1 from dp_32 (t := s3) (by omega) (by omega) f1 (by omega) rfl)⟩ (all_cons ⟨[(3 * s3 + 2)], ⟨sEv (y' := ((2 : Int) + ((3 : Int) * s3 + 0))) rfl (by omega), trivial⟩, (show nr (3 * s3 + 2) = (3 * s3 + 2) from nr_32)⟩ (all_nil))))
theorem rl292 : ruOk fFS gR292 := by
  intro r hp hO hN hH
  obtain ⟨s0, rfl⟩ := len1 (show r.length = 1 from hN.1)
  have hR := hN.2.1.1
  have hIv : ∀ q ∈ ([(0, .ofNat 0, .ofNat 6560)] : sIv), ∃ x, ([s0] : List Int)[q.1]? = some x ∧ q.2.1 ≤ x ∧ x ≤ q.2.2 := hN.2.1.2
  have b0 : (0 : Int) ≤ s0 ∧ s0 ≤ (6560 : Int) := ivX (q := (0, .ofNat 0, .ofNat 6560)) (y := s0) (hIv _ (.head _)) rfl
  have hFc : ∀ q ∈ ([(199, [(.ofNat 0, [(.ofNat 1, 0)]), (.ofNat 5, [])])] : List sFc), fcOk fFS [s0] hp q := hH.2
  have f0 : (5 : Int) = dp s0 + 1 := fcX (ys := [s0, 5]) (hFc _ (.head _)) ⟨sE_V rfl, sE_k _ _, trivial⟩
  have u : s0 < 81 := dp_lm 4 (by decide) (by omega) (by omega)
  exact poX (.head _) rfl hR (all_cons (ivO (y := s0) rfl (show (0 : Int) ≤ s0 by omega) (show s0 ≤ (80 : Int) by omega)) (all_nil)) (all_nil) (all_nil)
theorem rl293 : ruOk fFS gR293 := by
  intro r hp hO hN hH
  obtain ⟨s0, s1, s2, s3, s4, s5, s6, s7, s8, rfl⟩ := len9 (show r.length = 9 from hN.1)
  have hR := hN.2.1.1
  have hIv : ∀ q ∈ ([(0, .negSucc 2147483647, .ofNat 2147483647), (1, .ofNat 0, .ofNat 0), (2, .ofNat 0, .ofNat 19), (3, .ofNat 0, .ofNat 6560), (4, .ofNat 3, .ofNat 3), (5, .negSucc 2147483647, .ofNat 2147483647), (6, .negSucc 2147483647, .ofNat 2147483647), (7, .ofNat 40, .ofNat 40), (8, .negSucc 2147483647, .ofNat 2147483647)] : sIv), ∃ x, ([s0, s1, s2, s3, s4, s5, s6, s7, s8] : List Int)[q.1]? = some x ∧ q.2.1 ≤ x ∧ x ≤ q.2.2 := hN.2.1.2
  have b1 : (0 : Int) ≤ s1 ∧ s1 ≤ (0 : Int) := ivX (q := (1, .ofNat 0, .ofNat 0)) (y := s1) (hIv _ (.tail _ (.head _))) rfl
  have b2 : (0 : Int) ≤ s2 ∧ s2 ≤ (19 : Int) := ivX (q := (2, .ofNat 0, .ofNat 19)) (y := s2) (hIv _ (.tail _ (.tail _ (.head _)))) rfl
  have b3 : (0 : Int) ≤ s3 ∧ s3 ≤ (6560 : Int) := ivX (q := (3, .ofNat 0, .ofNat 6560)) (y := s3) (hIv _ (.tail _ (.tail _ (.tail _ (.head _))))) rfl
  have b4 : (3 : Int) ≤ s4 ∧ s4 ≤ (3 : Int) := ivX (q := (4, .ofNat 3, .ofNat 3)) (y := s4) (hIv _ (.tail _ (.tail _ (.tail _ (.tail _ (.head _)))))) rfl
  have b7 : (40 : Int) ≤ s7 ∧ s7 ≤ (40 : Int) := ivX (q := (7, .ofNat 40, .ofNat 40)) (y := s7) (hIv _ (.tail _ (.tail _ (.tail _ (.tail _ (.tail _ (.tail _ (.tail _ (.head _))))))))) rfl
  have hRf : ∀ q ∈ ([((40, .ofNat 173, []), (.ofNat 9, []), 1, .ofNat 0, [])] : List sRf), rfOk [s0, s1, s2, s3, s4, s5, s6, s7, s8] hp q := hH.1
  have h0 : hI hp 173 9 = 0 := rfI0 (hRf _ (.head _)) (sE_k _ _) (sE_k _ _) (sE_k _ _)
  have hFc : ∀ q ∈ ([(192, [(.ofNat 0, [(.ofNat 1, 0)]), (.ofNat 0, [(.ofNat 1, 1)]), (.ofNat 0, [(.ofNat 1, 2)]), (.ofNat 0, [(.ofNat 1, 3)]), (.ofNat 0, [(.ofNat 1, 4)]), (.ofNat 0, [(.ofNat 1, 5)]), (.ofNat 0, [(.ofNat 1, 6)]), (.ofNat 0, [(.ofNat 1, 7)])]), (199, [(.ofNat 0, [(.ofNat 1, 3)]), (.ofNat 5, [])]), (200, [(.ofNat 0, [(.ofNat 1, 3)]), (.ofNat 0, [(.ofNat 1, 8)])])] : List sFc), fcOk fFS [s0, s1, s2, s3, s4, s5, s6, s7, s8] hp q := hH.2
  have f0 : SHq (XT hp) (nmR hp (xnm hp)) s0 s1 s2 s3 s4 s5 s6 s7 ∧ s4 ≠ 4 := fcX (ys := [s0, s1, s2, s3, s4, s5, s6, s7]) (hFc _ (.head _)) ⟨sE_V rfl, sE_V rfl, sE_V rfl, sE_V rfl, sE_V rfl, sE_V rfl, sE_V rfl, sE_V rfl, trivial⟩
  have f1 : (5 : Int) = dp s3 + 1 := fcX (ys := [s3, 5]) (hFc _ (.tail _ (.head _))) ⟨sE_V rfl, sE_k _ _, trivial⟩
  have f2 : s8 = nr s3 := fcX (ys := [s3, s8]) (hFc _ (.tail _ (.tail _ (.head _)))) ⟨sE_V rfl, sE_V rfl, trivial⟩
  have ud : dp s3 ≤ 7 := by omega
  have ut := dp_lt (t := s3) (by omega) ud
  exact poX (.head _) rfl hR (all_nil) (all_nil) (all_cons ⟨[s6, 0, (s2 + 1), (3 * s3 + 2)], ⟨sE_V rfl, sE_k _ _, sEv (y' := ((1 : Int) + ((1 : Int) * s2 + 0))) rfl (by omega), sEv (y' := ((2 : Int) + ((3 : Int) * s3 + 0))) rfl (by omega), trivial⟩, (show SG (XT hp) (nmR hp (xnm hp)) s6 (0 : Int) (s2 + 1) (3 * s3 + 2) from s0_open f0.1 (by omega) (by omega) (by omega) (by omega) ud)⟩ (all_cons ⟨[(3 * s3 + 2), 6], ⟨sEv (y' := ((2 : Int) + ((3 : Int) * s3 + 0))) rfl (by omega), sE_k _ _, trivial⟩, (show (6 : Int) = dp (3 * s3 + 2) + 1 from dp_32 (t := s3) (by omega) (by omega) f1 (by omega) rfl)⟩ (all_cons ⟨[(3 * s3 + 2)], ⟨sEv (y' := ((2 : Int) + ((3 : Int) * s3 + 0))) rfl (by omega), trivial⟩, (show nr (3 * s3 + 2) = (3 * s3 + 2) from nr_32)⟩ (all_nil))))
theorem rl294 : ruOk fFS gR294 := by
  intro r hp hO hN hH
  obtain ⟨s0, rfl⟩ := len1 (show r.length = 1 from hN.1)
  have hR := hN.2.1.1
  have hIv : ∀ q ∈ ([(0, .ofNat 0, .ofNat 6560)] : sIv), ∃ x, ([s0] : List Int)[q.1]? = some x ∧ q.2.1 ≤ x ∧ x ≤ q.2.2 := hN.2.1.2
  have b0 : (0 : Int) ≤ s0 ∧ s0 ≤ (6560 : Int) := ivX (q := (0, .ofNat 0, .ofNat 6560)) (y := s0) (hIv _ (.head _)) rfl
  have hFc : ∀ q ∈ ([(199, [(.ofNat 0, [(.ofNat 1, 0)]), (.ofNat 6, [])])] : List sFc), fcOk fFS [s0] hp q := hH.2
  have f0 : (6 : Int) = dp s0 + 1 := fcX (ys := [s0, 6]) (hFc _ (.head _)) ⟨sE_V rfl, sE_k _ _, trivial⟩
  have u : s0 < 243 := dp_lm 5 (by decide) (by omega) (by omega)
  exact poX (.head _) rfl hR (all_cons (ivO (y := s0) rfl (show (0 : Int) ≤ s0 by omega) (show s0 ≤ (242 : Int) by omega)) (all_nil)) (all_nil) (all_nil)
theorem rl295 : ruOk fFS gR295 := by
  intro r hp hO hN hH
  obtain ⟨s0, s1, s2, s3, s4, s5, s6, s7, s8, rfl⟩ := len9 (show r.length = 9 from hN.1)
  have hR := hN.2.1.1
  have hIv : ∀ q ∈ ([(0, .negSucc 2147483647, .ofNat 2147483647), (1, .ofNat 0, .ofNat 0), (2, .ofNat 0, .ofNat 19), (3, .ofNat 0, .ofNat 6560), (4, .ofNat 3, .ofNat 3), (5, .negSucc 2147483647, .ofNat 2147483647), (6, .negSucc 2147483647, .ofNat 2147483647), (7, .ofNat 40, .ofNat 40), (8, .negSucc 2147483647, .ofNat 2147483647)] : sIv), ∃ x, ([s0, s1, s2, s3, s4, s5, s6, s7, s8] : List Int)[q.1]? = some x ∧ q.2.1 ≤ x ∧ x ≤ q.2.2 := hN.2.1.2
  have b1 : (0 : Int) ≤ s1 ∧ s1 ≤ (0 : Int) := ivX (q := (1, .ofNat 0, .ofNat 0)) (y := s1) (hIv _ (.tail _ (.head _))) rfl
  have b2 : (0 : Int) ≤ s2 ∧ s2 ≤ (19 : Int) := ivX (q := (2, .ofNat 0, .ofNat 19)) (y := s2) (hIv _ (.tail _ (.tail _ (.head _)))) rfl
  have b3 : (0 : Int) ≤ s3 ∧ s3 ≤ (6560 : Int) := ivX (q := (3, .ofNat 0, .ofNat 6560)) (y := s3) (hIv _ (.tail _ (.tail _ (.tail _ (.head _))))) rfl
  have b4 : (3 : Int) ≤ s4 ∧ s4 ≤ (3 : Int) := ivX (q := (4, .ofNat 3, .ofNat 3)) (y := s4) (hIv _ (.tail _ (.tail _ (.tail _ (.tail _ (.head _)))))) rfl
  have b7 : (40 : Int) ≤ s7 ∧ s7 ≤ (40 : Int) := ivX (q := (7, .ofNat 40, .ofNat 40)) (y := s7) (hIv _ (.tail _ (.tail _ (.tail _ (.tail _ (.tail _ (.tail _ (.tail _ (.head _))))))))) rfl
  have hRf : ∀ q ∈ ([((40, .ofNat 173, []), (.ofNat 9, []), 1, .ofNat 0, [])] : List sRf), rfOk [s0, s1, s2, s3, s4, s5, s6, s7, s8] hp q := hH.1
  have h0 : hI hp 173 9 = 0 := rfI0 (hRf _ (.head _)) (sE_k _ _) (sE_k _ _) (sE_k _ _)
  have hFc : ∀ q ∈ ([(192, [(.ofNat 0, [(.ofNat 1, 0)]), (.ofNat 0, [(.ofNat 1, 1)]), (.ofNat 0, [(.ofNat 1, 2)]), (.ofNat 0, [(.ofNat 1, 3)]), (.ofNat 0, [(.ofNat 1, 4)]), (.ofNat 0, [(.ofNat 1, 5)]), (.ofNat 0, [(.ofNat 1, 6)]), (.ofNat 0, [(.ofNat 1, 7)])]), (199, [(.ofNat 0, [(.ofNat 1, 3)]), (.ofNat 6, [])]), (200, [(.ofNat 0, [(.ofNat 1, 3)]), (.ofNat 0, [(.ofNat 1, 8)])])] : List sFc), fcOk fFS [s0, s1, s2, s3, s4, s5, s6, s7, s8] hp q := hH.2
  have f0 : SHq (XT hp) (nmR hp (xnm hp)) s0 s1 s2 s3 s4 s5 s6 s7 ∧ s4 ≠ 4 := fcX (ys := [s0, s1, s2, s3, s4, s5, s6, s7]) (hFc _ (.head _)) ⟨sE_V rfl, sE_V rfl, sE_V rfl, sE_V rfl, sE_V rfl, sE_V rfl, sE_V rfl, sE_V rfl, trivial⟩
  have f1 : (6 : Int) = dp s3 + 1 := fcX (ys := [s3, 6]) (hFc _ (.tail _ (.head _))) ⟨sE_V rfl, sE_k _ _, trivial⟩
  have f2 : s8 = nr s3 := fcX (ys := [s3, s8]) (hFc _ (.tail _ (.tail _ (.head _)))) ⟨sE_V rfl, sE_V rfl, trivial⟩
  have ud : dp s3 ≤ 7 := by omega
  have ut := dp_lt (t := s3) (by omega) ud
  exact poX (.head _) rfl hR (all_nil) (all_nil) (all_cons ⟨[s6, 0, (s2 + 1), (3 * s3 + 2)], ⟨sE_V rfl, sE_k _ _, sEv (y' := ((1 : Int) + ((1 : Int) * s2 + 0))) rfl (by omega), sEv (y' := ((2 : Int) + ((3 : Int) * s3 + 0))) rfl (by omega), trivial⟩, (show SG (XT hp) (nmR hp (xnm hp)) s6 (0 : Int) (s2 + 1) (3 * s3 + 2) from s0_open f0.1 (by omega) (by omega) (by omega) (by omega) ud)⟩ (all_cons ⟨[(3 * s3 + 2), 7], ⟨sEv (y' := ((2 : Int) + ((3 : Int) * s3 + 0))) rfl (by omega), sE_k _ _, trivial⟩, (show (7 : Int) = dp (3 * s3 + 2) + 1 from dp_32 (t := s3) (by omega) (by omega) f1 (by omega) rfl)⟩ (all_cons ⟨[(3 * s3 + 2)], ⟨sEv (y' := ((2 : Int) + ((3 : Int) * s3 + 0))) rfl (by omega), trivial⟩, (show nr (3 * s3 + 2) = (3 * s3 + 2) from nr_32)⟩ (all_nil))))
theorem rl296 : ruOk fFS gR296 := by
  intro r hp hO hN hH
  obtain ⟨s0, rfl⟩ := len1 (show r.length = 1 from hN.1)
  have hR := hN.2.1.1
  have hIv : ∀ q ∈ ([(0, .ofNat 0, .ofNat 6560)] : sIv), ∃ x, ([s0] : List Int)[q.1]? = some x ∧ q.2.1 ≤ x ∧ x ≤ q.2.2 := hN.2.1.2
  have b0 : (0 : Int) ≤ s0 ∧ s0 ≤ (6560 : Int) := ivX (q := (0, .ofNat 0, .ofNat 6560)) (y := s0) (hIv _ (.head _)) rfl
  have hFc : ∀ q ∈ ([(199, [(.ofNat 0, [(.ofNat 1, 0)]), (.ofNat 7, [])])] : List sFc), fcOk fFS [s0] hp q := hH.2
  have f0 : (7 : Int) = dp s0 + 1 := fcX (ys := [s0, 7]) (hFc _ (.head _)) ⟨sE_V rfl, sE_k _ _, trivial⟩
  have u : s0 < 729 := dp_lm 6 (by decide) (by omega) (by omega)
  exact poX (.head _) rfl hR (all_cons (ivO (y := s0) rfl (show (0 : Int) ≤ s0 by omega) (show s0 ≤ (728 : Int) by omega)) (all_nil)) (all_nil) (all_nil)
theorem rl297 : ruOk fFS gR297 := by
  intro r hp hO hN hH
  obtain ⟨s0, s1, s2, s3, s4, s5, s6, s7, s8, rfl⟩ := len9 (show r.length = 9 from hN.1)
  have hR := hN.2.1.1
  have hIv : ∀ q ∈ ([(0, .negSucc 2147483647, .ofNat 2147483647), (1, .ofNat 0, .ofNat 0), (2, .ofNat 0, .ofNat 19), (3, .ofNat 0, .ofNat 6560), (4, .ofNat 3, .ofNat 3), (5, .negSucc 2147483647, .ofNat 2147483647), (6, .negSucc 2147483647, .ofNat 2147483647), (7, .ofNat 40, .ofNat 40), (8, .negSucc 2147483647, .ofNat 2147483647)] : sIv), ∃ x, ([s0, s1, s2, s3, s4, s5, s6, s7, s8] : List Int)[q.1]? = some x ∧ q.2.1 ≤ x ∧ x ≤ q.2.2 := hN.2.1.2
  have b1 : (0 : Int) ≤ s1 ∧ s1 ≤ (0 : Int) := ivX (q := (1, .ofNat 0, .ofNat 0)) (y := s1) (hIv _ (.tail _ (.head _))) rfl
  have b2 : (0 : Int) ≤ s2 ∧ s2 ≤ (19 : Int) := ivX (q := (2, .ofNat 0, .ofNat 19)) (y := s2) (hIv _ (.tail _ (.tail _ (.head _)))) rfl
  have b3 : (0 : Int) ≤ s3 ∧ s3 ≤ (6560 : Int) := ivX (q := (3, .ofNat 0, .ofNat 6560)) (y := s3) (hIv _ (.tail _ (.tail _ (.tail _ (.head _))))) rfl
  have b4 : (3 : Int) ≤ s4 ∧ s4 ≤ (3 : Int) := ivX (q := (4, .ofNat 3, .ofNat 3)) (y := s4) (hIv _ (.tail _ (.tail _ (.tail _ (.tail _ (.head _)))))) rfl
  have b7 : (40 : Int) ≤ s7 ∧ s7 ≤ (40 : Int) := ivX (q := (7, .ofNat 40, .ofNat 40)) (y := s7) (hIv _ (.tail _ (.tail _ (.tail _ (.tail _ (.tail _ (.tail _ (.tail _ (.head _))))))))) rfl
  have hRf : ∀ q ∈ ([((40, .ofNat 173, []), (.ofNat 9, []), 1, .ofNat 0, [])] : List sRf), rfOk [s0, s1, s2, s3, s4, s5, s6, s7, s8] hp q := hH.1
  have h0 : hI hp 173 9 = 0 := rfI0 (hRf _ (.head _)) (sE_k _ _) (sE_k _ _) (sE_k _ _)
  have hFc : ∀ q ∈ ([(192, [(.ofNat 0, [(.ofNat 1, 0)]), (.ofNat 0, [(.ofNat 1, 1)]), (.ofNat 0, [(.ofNat 1, 2)]), (.ofNat 0, [(.ofNat 1, 3)]), (.ofNat 0, [(.ofNat 1, 4)]), (.ofNat 0, [(.ofNat 1, 5)]), (.ofNat 0, [(.ofNat 1, 6)]), (.ofNat 0, [(.ofNat 1, 7)])]), (199, [(.ofNat 0, [(.ofNat 1, 3)]), (.ofNat 7, [])]), (200, [(.ofNat 0, [(.ofNat 1, 3)]), (.ofNat 0, [(.ofNat 1, 8)])])] : List sFc), fcOk fFS [s0, s1, s2, s3, s4, s5, s6, s7, s8] hp q := hH.2
  have f0 : SHq (XT hp) (nmR hp (xnm hp)) s0 s1 s2 s3 s4 s5 s6 s7 ∧ s4 ≠ 4 := fcX (ys := [s0, s1, s2, s3, s4, s5, s6, s7]) (hFc _ (.head _)) ⟨sE_V rfl, sE_V rfl, sE_V rfl, sE_V rfl, sE_V rfl, sE_V rfl, sE_V rfl, sE_V rfl, trivial⟩
  have f1 : (7 : Int) = dp s3 + 1 := fcX (ys := [s3, 7]) (hFc _ (.tail _ (.head _))) ⟨sE_V rfl, sE_k _ _, trivial⟩
  have f2 : s8 = nr s3 := fcX (ys := [s3, s8]) (hFc _ (.tail _ (.tail _ (.head _)))) ⟨sE_V rfl, sE_V rfl, trivial⟩
  have ud : dp s3 ≤ 7 := by omega
  have ut := dp_lt (t := s3) (by omega) ud
  exact poX (.head _) rfl hR (all_nil) (all_nil) (all_cons ⟨[s6, 0, (s2 + 1), (3 * s3 + 2)], ⟨sE_V rfl, sE_k _ _, sEv (y' := ((1 : Int) + ((1 : Int) * s2 + 0))) rfl (by omega), sEv (y' := ((2 : Int) + ((3 : Int) * s3 + 0))) rfl (by omega), trivial⟩, (show SG (XT hp) (nmR hp (xnm hp)) s6 (0 : Int) (s2 + 1) (3 * s3 + 2) from s0_open f0.1 (by omega) (by omega) (by omega) (by omega) ud)⟩ (all_cons ⟨[(3 * s3 + 2), 8], ⟨sEv (y' := ((2 : Int) + ((3 : Int) * s3 + 0))) rfl (by omega), sE_k _ _, trivial⟩, (show (8 : Int) = dp (3 * s3 + 2) + 1 from dp_32 (t := s3) (by omega) (by omega) f1 (by omega) rfl)⟩ (all_cons ⟨[(3 * s3 + 2)], ⟨sEv (y' := ((2 : Int) + ((3 : Int) * s3 + 0))) rfl (by omega), trivial⟩, (show nr (3 * s3 + 2) = (3 * s3 + 2) from nr_32)⟩ (all_nil))))
theorem rl298 : ruOk fFS gR298 := by
  intro r hp hO hN hH
  obtain ⟨s0, rfl⟩ := len1 (show r.length = 1 from hN.1)
  have hR := hN.2.1.1
  have hIv : ∀ q ∈ ([(0, .ofNat 0, .ofNat 6560)] : sIv), ∃ x, ([s0] : List Int)[q.1]? = some x ∧ q.2.1 ≤ x ∧ x ≤ q.2.2 := hN.2.1.2
  have b0 : (0 : Int) ≤ s0 ∧ s0 ≤ (6560 : Int) := ivX (q := (0, .ofNat 0, .ofNat 6560)) (y := s0) (hIv _ (.head _)) rfl
  have hFc : ∀ q ∈ ([(199, [(.ofNat 0, [(.ofNat 1, 0)]), (.ofNat 8, [])])] : List sFc), fcOk fFS [s0] hp q := hH.2
  have f0 : (8 : Int) = dp s0 + 1 := fcX (ys := [s0, 8]) (hFc _ (.head _)) ⟨sE_V rfl, sE_k _ _, trivial⟩
  have u : s0 < 2187 := dp_lm 7 (by decide) (by omega) (by omega)
  exact poX (.head _) rfl hR (all_cons (ivO (y := s0) rfl (show (0 : Int) ≤ s0 by omega) (show s0 ≤ (2186 : Int) by omega)) (all_nil)) (all_nil) (all_nil)
theorem rl299 : ruOk fFS gR299 := by
  intro r hp hO hN hH
  obtain ⟨s0, s1, s2, s3, s4, s5, s6, s7, s8, rfl⟩ := len9 (show r.length = 9 from hN.1)
  have hR := hN.2.1.1
  have hIv : ∀ q ∈ ([(0, .negSucc 2147483647, .ofNat 2147483647), (1, .ofNat 0, .ofNat 0), (2, .ofNat 0, .ofNat 19), (3, .ofNat 0, .ofNat 6560), (4, .ofNat 3, .ofNat 3), (5, .negSucc 2147483647, .ofNat 2147483647), (6, .negSucc 2147483647, .ofNat 2147483647), (7, .ofNat 40, .ofNat 40), (8, .negSucc 2147483647, .ofNat 2147483647)] : sIv), ∃ x, ([s0, s1, s2, s3, s4, s5, s6, s7, s8] : List Int)[q.1]? = some x ∧ q.2.1 ≤ x ∧ x ≤ q.2.2 := hN.2.1.2
  have b1 : (0 : Int) ≤ s1 ∧ s1 ≤ (0 : Int) := ivX (q := (1, .ofNat 0, .ofNat 0)) (y := s1) (hIv _ (.tail _ (.head _))) rfl
  have b2 : (0 : Int) ≤ s2 ∧ s2 ≤ (19 : Int) := ivX (q := (2, .ofNat 0, .ofNat 19)) (y := s2) (hIv _ (.tail _ (.tail _ (.head _)))) rfl
  have b3 : (0 : Int) ≤ s3 ∧ s3 ≤ (6560 : Int) := ivX (q := (3, .ofNat 0, .ofNat 6560)) (y := s3) (hIv _ (.tail _ (.tail _ (.tail _ (.head _))))) rfl
  have b4 : (3 : Int) ≤ s4 ∧ s4 ≤ (3 : Int) := ivX (q := (4, .ofNat 3, .ofNat 3)) (y := s4) (hIv _ (.tail _ (.tail _ (.tail _ (.tail _ (.head _)))))) rfl
  have b7 : (40 : Int) ≤ s7 ∧ s7 ≤ (40 : Int) := ivX (q := (7, .ofNat 40, .ofNat 40)) (y := s7) (hIv _ (.tail _ (.tail _ (.tail _ (.tail _ (.tail _ (.tail _ (.tail _ (.head _))))))))) rfl
  have hRf : ∀ q ∈ ([((40, .ofNat 173, []), (.ofNat 9, []), 1, .ofNat 0, [])] : List sRf), rfOk [s0, s1, s2, s3, s4, s5, s6, s7, s8] hp q := hH.1
  have h0 : hI hp 173 9 = 0 := rfI0 (hRf _ (.head _)) (sE_k _ _) (sE_k _ _) (sE_k _ _)
  have hFc : ∀ q ∈ ([(192, [(.ofNat 0, [(.ofNat 1, 0)]), (.ofNat 0, [(.ofNat 1, 1)]), (.ofNat 0, [(.ofNat 1, 2)]), (.ofNat 0, [(.ofNat 1, 3)]), (.ofNat 0, [(.ofNat 1, 4)]), (.ofNat 0, [(.ofNat 1, 5)]), (.ofNat 0, [(.ofNat 1, 6)]), (.ofNat 0, [(.ofNat 1, 7)])]), (199, [(.ofNat 0, [(.ofNat 1, 3)]), (.ofNat 8, [])]), (200, [(.ofNat 0, [(.ofNat 1, 3)]), (.ofNat 0, [(.ofNat 1, 8)])])] : List sFc), fcOk fFS [s0, s1, s2, s3, s4, s5, s6, s7, s8] hp q := hH.2
  have f0 : SHq (XT hp) (nmR hp (xnm hp)) s0 s1 s2 s3 s4 s5 s6 s7 ∧ s4 ≠ 4 := fcX (ys := [s0, s1, s2, s3, s4, s5, s6, s7]) (hFc _ (.head _)) ⟨sE_V rfl, sE_V rfl, sE_V rfl, sE_V rfl, sE_V rfl, sE_V rfl, sE_V rfl, sE_V rfl, trivial⟩
  have f1 : (8 : Int) = dp s3 + 1 := fcX (ys := [s3, 8]) (hFc _ (.tail _ (.head _))) ⟨sE_V rfl, sE_k _ _, trivial⟩
  have f2 : s8 = nr s3 := fcX (ys := [s3, s8]) (hFc _ (.tail _ (.tail _ (.head _)))) ⟨sE_V rfl, sE_V rfl, trivial⟩
  have ud : dp s3 ≤ 7 := by omega
  have ut := dp_lt (t := s3) (by omega) ud
  exact poX (.head _) rfl hR (all_nil) (all_nil) (all_cons ⟨[s6, 0, (s2 + 1), (3 * s3 + 2)], ⟨sE_V rfl, sE_k _ _, sEv (y' := ((1 : Int) + ((1 : Int) * s2 + 0))) rfl (by omega), sEv (y' := ((2 : Int) + ((3 : Int) * s3 + 0))) rfl (by omega), trivial⟩, (show SG (XT hp) (nmR hp (xnm hp)) s6 (0 : Int) (s2 + 1) (3 * s3 + 2) from s0_open f0.1 (by omega) (by omega) (by omega) (by omega) ud)⟩ (all_cons ⟨[(3 * s3 + 2), 9], ⟨sEv (y' := ((2 : Int) + ((3 : Int) * s3 + 0))) rfl (by omega), sE_k _ _, trivial⟩, (show (9 : Int) = dp (3 * s3 + 2) + 1 from dp_32 (t := s3) (by omega) (by omega) f1 (by omega) rfl)⟩ (all_cons ⟨[(3 * s3 + 2)], ⟨sEv (y' := ((2 : Int) + ((3 : Int) * s3 + 0))) rfl (by omega), trivial⟩, (show nr (3 * s3 + 2) = (3 * s3 + 2) from nr_32)⟩ (all_nil))))
theorem rl300 : ruOk fFS gR300 := by
  intro r hp hO hN hH
  obtain ⟨s0, s1, s2, s3, s4, s5, s6, s7, rfl⟩ := len8 (show r.length = 8 from hN.1)
  have hR := hN.2.1.1
  have hIv : ∀ q ∈ ([(0, .negSucc 2147483647, .ofNat 2147483647), (1, .ofNat 0, .ofNat 0), (2, .ofNat 20, .ofNat 20), (3, .negSucc 2147483647, .ofNat 2147483647), (4, .ofNat 3, .ofNat 3), (5, .negSucc 2147483647, .ofNat 2147483647), (6, .negSucc 2147483647, .ofNat 2147483647), (7, .ofNat 40, .ofNat 40)] : sIv), ∃ x, ([s0, s1, s2, s3, s4, s5, s6, s7] : List Int)[q.1]? = some x ∧ q.2.1 ≤ x ∧ x ≤ q.2.2 := hN.2.1.2
  have b1 : (0 : Int) ≤ s1 ∧ s1 ≤ (0 : Int) := ivX (q := (1, .ofNat 0, .ofNat 0)) (y := s1) (hIv _ (.tail _ (.head _))) rfl
  have b2 : (20 : Int) ≤ s2 ∧ s2 ≤ (20 : Int) := ivX (q := (2, .ofNat 20, .ofNat 20)) (y := s2) (hIv _ (.tail _ (.tail _ (.head _)))) rfl
  have b4 : (3 : Int) ≤ s4 ∧ s4 ≤ (3 : Int) := ivX (q := (4, .ofNat 3, .ofNat 3)) (y := s4) (hIv _ (.tail _ (.tail _ (.tail _ (.tail _ (.head _)))))) rfl
  have b7 : (40 : Int) ≤ s7 ∧ s7 ≤ (40 : Int) := ivX (q := (7, .ofNat 40, .ofNat 40)) (y := s7) (hIv _ (.tail _ (.tail _ (.tail _ (.tail _ (.tail _ (.tail _ (.tail _ (.head _))))))))) rfl
  have hRf : ∀ q ∈ ([((40, .ofNat 173, []), (.ofNat 9, []), 1, .ofNat 0, [])] : List sRf), rfOk [s0, s1, s2, s3, s4, s5, s6, s7] hp q := hH.1
  have h0 : hI hp 173 9 = 0 := rfI0 (hRf _ (.head _)) (sE_k _ _) (sE_k _ _) (sE_k _ _)
  have hFc : ∀ q ∈ ([(192, [(.ofNat 0, [(.ofNat 1, 0)]), (.ofNat 0, [(.ofNat 1, 1)]), (.ofNat 0, [(.ofNat 1, 2)]), (.ofNat 0, [(.ofNat 1, 3)]), (.ofNat 0, [(.ofNat 1, 4)]), (.ofNat 0, [(.ofNat 1, 5)]), (.ofNat 0, [(.ofNat 1, 6)]), (.ofNat 0, [(.ofNat 1, 7)])])] : List sFc), fcOk fFS [s0, s1, s2, s3, s4, s5, s6, s7] hp q := hH.2
  have f0 : SHq (XT hp) (nmR hp (xnm hp)) s0 s1 s2 s3 s4 s5 s6 s7 ∧ s4 ≠ 4 := fcX (ys := [s0, s1, s2, s3, s4, s5, s6, s7]) (hFc _ (.head _)) ⟨sE_V rfl, sE_V rfl, sE_V rfl, sE_V rfl, sE_V rfl, sE_V rfl, sE_V rfl, sE_V rfl, trivial⟩
  exact poX (.head _) rfl hR (all_nil) (all_nil) (all_cons ⟨[4, s5], ⟨sE_k _ _, sE_V rfl, trivial⟩, (show SRS (XT hp) (nmR hp (xnm hp)) (4 : Int) s5 from s0_f4 f0.1 (by omega) (by omega) (by omega))⟩ (all_nil))
theorem rl301 : ruOk fFS gR301 := by
  intro r hp hO hN hH
  obtain ⟨s0, s1, s2, s3, s4, s5, s6, s7, rfl⟩ := len8 (show r.length = 8 from hN.1)
  have hR := hN.2.1.1
  have hIv : ∀ q ∈ ([(0, .negSucc 2147483647, .ofNat 2147483647), (1, .ofNat 0, .ofNat 0), (2, .ofNat 20, .ofNat 20), (3, .negSucc 2147483647, .ofNat 2147483647), (4, .ofNat 1, .ofNat 1), (5, .negSucc 2147483647, .ofNat 2147483647), (6, .negSucc 2147483647, .ofNat 2147483647), (7, .ofNat 13, .ofNat 13)] : sIv), ∃ x, ([s0, s1, s2, s3, s4, s5, s6, s7] : List Int)[q.1]? = some x ∧ q.2.1 ≤ x ∧ x ≤ q.2.2 := hN.2.1.2
  have b1 : (0 : Int) ≤ s1 ∧ s1 ≤ (0 : Int) := ivX (q := (1, .ofNat 0, .ofNat 0)) (y := s1) (hIv _ (.tail _ (.head _))) rfl
  have b2 : (20 : Int) ≤ s2 ∧ s2 ≤ (20 : Int) := ivX (q := (2, .ofNat 20, .ofNat 20)) (y := s2) (hIv _ (.tail _ (.tail _ (.head _)))) rfl
  have b4 : (1 : Int) ≤ s4 ∧ s4 ≤ (1 : Int) := ivX (q := (4, .ofNat 1, .ofNat 1)) (y := s4) (hIv _ (.tail _ (.tail _ (.tail _ (.tail _ (.head _)))))) rfl
  have b7 : (13 : Int) ≤ s7 ∧ s7 ≤ (13 : Int) := ivX (q := (7, .ofNat 13, .ofNat 13)) (y := s7) (hIv _ (.tail _ (.tail _ (.tail _ (.tail _ (.tail _ (.tail _ (.tail _ (.head _))))))))) rfl
  have hRf : ∀ q ∈ ([((40, .ofNat 173, []), (.ofNat 9, []), 1, .ofNat 0, [])] : List sRf), rfOk [s0, s1, s2, s3, s4, s5, s6, s7] hp q := hH.1
  have h0 : hI hp 173 9 = 0 := rfI0 (hRf _ (.head _)) (sE_k _ _) (sE_k _ _) (sE_k _ _)
  have hFc : ∀ q ∈ ([(192, [(.ofNat 0, [(.ofNat 1, 0)]), (.ofNat 0, [(.ofNat 1, 1)]), (.ofNat 0, [(.ofNat 1, 2)]), (.ofNat 0, [(.ofNat 1, 3)]), (.ofNat 0, [(.ofNat 1, 4)]), (.ofNat 0, [(.ofNat 1, 5)]), (.ofNat 0, [(.ofNat 1, 6)]), (.ofNat 0, [(.ofNat 1, 7)])])] : List sFc), fcOk fFS [s0, s1, s2, s3, s4, s5, s6, s7] hp q := hH.2
  have f0 : SHq (XT hp) (nmR hp (xnm hp)) s0 s1 s2 s3 s4 s5 s6 s7 ∧ s4 ≠ 4 := fcX (ys := [s0, s1, s2, s3, s4, s5, s6, s7]) (hFc _ (.head _)) ⟨sE_V rfl, sE_V rfl, sE_V rfl, sE_V rfl, sE_V rfl, sE_V rfl, sE_V rfl, sE_V rfl, trivial⟩
  exact poX (.head _) rfl hR (all_nil) (all_nil) (all_cons ⟨[4, s5], ⟨sE_k _ _, sE_V rfl, trivial⟩, (show SRS (XT hp) (nmR hp (xnm hp)) (4 : Int) s5 from s0_f4 f0.1 (by omega) (by omega) (by omega))⟩ (all_nil))
theorem rl302 : ruOk fFS gR302 := by
  intro r hp hO hN hH
  obtain ⟨s0, s1, s2, s3, s4, s5, s6, s7, rfl⟩ := len8 (show r.length = 8 from hN.1)
  have hR := hN.2.1.1
  have hIv : ∀ q ∈ ([(0, .negSucc 2147483647, .ofNat 2147483647), (1, .ofNat 0, .ofNat 0), (2, .ofNat 20, .ofNat 20), (3, .negSucc 2147483647, .ofNat 2147483647), (4, .ofNat 1, .ofNat 1), (5, .negSucc 2147483647, .ofNat 2147483647), (6, .negSucc 2147483647, .ofNat 2147483647), (7, .ofNat 21, .ofNat 29)] : sIv), ∃ x, ([s0, s1, s2, s3, s4, s5, s6, s7] : List Int)[q.1]? = some x ∧ q.2.1 ≤ x ∧ x ≤ q.2.2 := hN.2.1.2
  have b1 : (0 : Int) ≤ s1 ∧ s1 ≤ (0 : Int) := ivX (q := (1, .ofNat 0, .ofNat 0)) (y := s1) (hIv _ (.tail _ (.head _))) rfl
  have b2 : (20 : Int) ≤ s2 ∧ s2 ≤ (20 : Int) := ivX (q := (2, .ofNat 20, .ofNat 20)) (y := s2) (hIv _ (.tail _ (.tail _ (.head _)))) rfl
  have b4 : (1 : Int) ≤ s4 ∧ s4 ≤ (1 : Int) := ivX (q := (4, .ofNat 1, .ofNat 1)) (y := s4) (hIv _ (.tail _ (.tail _ (.tail _ (.tail _ (.head _)))))) rfl
  have b7 : (21 : Int) ≤ s7 ∧ s7 ≤ (29 : Int) := ivX (q := (7, .ofNat 21, .ofNat 29)) (y := s7) (hIv _ (.tail _ (.tail _ (.tail _ (.tail _ (.tail _ (.tail _ (.tail _ (.head _))))))))) rfl
  have hRf : ∀ q ∈ ([((40, .ofNat 173, []), (.ofNat 9, []), 1, .ofNat 0, [])] : List sRf), rfOk [s0, s1, s2, s3, s4, s5, s6, s7] hp q := hH.1
  have h0 : hI hp 173 9 = 0 := rfI0 (hRf _ (.head _)) (sE_k _ _) (sE_k _ _) (sE_k _ _)
  have hFc : ∀ q ∈ ([(192, [(.ofNat 0, [(.ofNat 1, 0)]), (.ofNat 0, [(.ofNat 1, 1)]), (.ofNat 0, [(.ofNat 1, 2)]), (.ofNat 0, [(.ofNat 1, 3)]), (.ofNat 0, [(.ofNat 1, 4)]), (.ofNat 0, [(.ofNat 1, 5)]), (.ofNat 0, [(.ofNat 1, 6)]), (.ofNat 0, [(.ofNat 1, 7)])])] : List sFc), fcOk fFS [s0, s1, s2, s3, s4, s5, s6, s7] hp q := hH.2
  have f0 : SHq (XT hp) (nmR hp (xnm hp)) s0 s1 s2 s3 s4 s5 s6 s7 ∧ s4 ≠ 4 := fcX (ys := [s0, s1, s2, s3, s4, s5, s6, s7]) (hFc _ (.head _)) ⟨sE_V rfl, sE_V rfl, sE_V rfl, sE_V rfl, sE_V rfl, sE_V rfl, sE_V rfl, sE_V rfl, trivial⟩
  exact poX (.head _) rfl hR (all_nil) (all_nil) (all_cons ⟨[4, s5], ⟨sE_k _ _, sE_V rfl, trivial⟩, (show SRS (XT hp) (nmR hp (xnm hp)) (4 : Int) s5 from s0_f4 f0.1 (by omega) (by omega) (by omega))⟩ (all_nil))
theorem rl303 : ruOk fFS gR303 := by
  intro r hp hO hN hH
  obtain ⟨s0, s1, s2, s3, s4, s5, s6, s7, rfl⟩ := len8 (show r.length = 8 from hN.1)
  have hR := hN.2.1.1
  have hIv : ∀ q ∈ ([(0, .negSucc 2147483647, .ofNat 2147483647), (1, .ofNat 0, .ofNat 0), (2, .negSucc 2147483647, .ofNat 2147483647), (3, .negSucc 2147483647, .ofNat 2147483647), (4, .ofNat 3, .ofNat 3), (5, .negSucc 2147483647, .ofNat 2147483647), (6, .negSucc 2147483647, .ofNat 2147483647), (7, .ofNat 40, .ofNat 40)] : sIv), ∃ x, ([s0, s1, s2, s3, s4, s5, s6, s7] : List Int)[q.1]? = some x ∧ q.2.1 ≤ x ∧ x ≤ q.2.2 := hN.2.1.2
  have b1 : (0 : Int) ≤ s1 ∧ s1 ≤ (0 : Int) := ivX (q := (1, .ofNat 0, .ofNat 0)) (y := s1) (hIv _ (.tail _ (.head _))) rfl
  have b4 : (3 : Int) ≤ s4 ∧ s4 ≤ (3 : Int) := ivX (q := (4, .ofNat 3, .ofNat 3)) (y := s4) (hIv _ (.tail _ (.tail _ (.tail _ (.tail _ (.head _)))))) rfl
  have b7 : (40 : Int) ≤ s7 ∧ s7 ≤ (40 : Int) := ivX (q := (7, .ofNat 40, .ofNat 40)) (y := s7) (hIv _ (.tail _ (.tail _ (.tail _ (.tail _ (.tail _ (.tail _ (.tail _ (.head _))))))))) rfl
  have hRf : ∀ q ∈ ([((40, .ofNat 173, []), (.ofNat 9, []), 1, .ofNat 0, [])] : List sRf), rfOk [s0, s1, s2, s3, s4, s5, s6, s7] hp q := hH.1
  have h0 : hI hp 173 9 = 0 := rfI0 (hRf _ (.head _)) (sE_k _ _) (sE_k _ _) (sE_k _ _)
  have hFc : ∀ q ∈ ([(192, [(.ofNat 0, [(.ofNat 1, 0)]), (.ofNat 0, [(.ofNat 1, 1)]), (.ofNat 0, [(.ofNat 1, 2)]), (.ofNat 0, [(.ofNat 1, 3)]), (.ofNat 0, [(.ofNat 1, 4)]), (.ofNat 0, [(.ofNat 1, 5)]), (.ofNat 0, [(.ofNat 1, 6)]), (.ofNat 0, [(.ofNat 1, 7)])]), (199, [(.ofNat 0, [(.ofNat 1, 3)]), (.ofNat 9, [])])] : List sFc), fcOk fFS [s0, s1, s2, s3, s4, s5, s6, s7] hp q := hH.2
  have f0 : SHq (XT hp) (nmR hp (xnm hp)) s0 s1 s2 s3 s4 s5 s6 s7 ∧ s4 ≠ 4 := fcX (ys := [s0, s1, s2, s3, s4, s5, s6, s7]) (hFc _ (.head _)) ⟨sE_V rfl, sE_V rfl, sE_V rfl, sE_V rfl, sE_V rfl, sE_V rfl, sE_V rfl, sE_V rfl, trivial⟩
  have f1 : (9 : Int) = dp s3 + 1 := fcX (ys := [s3, 9]) (hFc _ (.tail _ (.head _))) ⟨sE_V rfl, sE_k _ _, trivial⟩
  exact poX (.head _) rfl hR (all_nil) (all_nil) (all_cons ⟨[4, s5], ⟨sE_k _ _, sE_V rfl, trivial⟩, (show SRS (XT hp) (nmR hp (xnm hp)) (4 : Int) s5 from s0_f4 f0.1 (by omega) (by omega) (by omega))⟩ (all_nil))
theorem rl304 : ruOk fFS gR304 := by
  intro r hp hO hN hH
  obtain ⟨s0, s1, s2, s3, s4, s5, s6, s7, rfl⟩ := len8 (show r.length = 8 from hN.1)
  have hR := hN.2.1.1
  have hIv : ∀ q ∈ ([(0, .negSucc 2147483647, .ofNat 2147483647), (1, .ofNat 0, .ofNat 0), (2, .negSucc 2147483647, .ofNat 2147483647), (3, .negSucc 2147483647, .ofNat 2147483647), (4, .ofNat 3, .ofNat 3), (5, .negSucc 2147483647, .ofNat 2147483647), (6, .negSucc 2147483647, .ofNat 2147483647), (7, .ofNat 41, .ofNat 2147483647)] : sIv), ∃ x, ([s0, s1, s2, s3, s4, s5, s6, s7] : List Int)[q.1]? = some x ∧ q.2.1 ≤ x ∧ x ≤ q.2.2 := hN.2.1.2
  have b1 : (0 : Int) ≤ s1 ∧ s1 ≤ (0 : Int) := ivX (q := (1, .ofNat 0, .ofNat 0)) (y := s1) (hIv _ (.tail _ (.head _))) rfl
  have b4 : (3 : Int) ≤ s4 ∧ s4 ≤ (3 : Int) := ivX (q := (4, .ofNat 3, .ofNat 3)) (y := s4) (hIv _ (.tail _ (.tail _ (.tail _ (.tail _ (.head _)))))) rfl
  have b7 : (41 : Int) ≤ s7 ∧ s7 ≤ (2147483647 : Int) := ivX (q := (7, .ofNat 41, .ofNat 2147483647)) (y := s7) (hIv _ (.tail _ (.tail _ (.tail _ (.tail _ (.tail _ (.tail _ (.tail _ (.head _))))))))) rfl
  have hRf : ∀ q ∈ ([((40, .ofNat 173, []), (.ofNat 9, []), 1, .ofNat 0, [])] : List sRf), rfOk [s0, s1, s2, s3, s4, s5, s6, s7] hp q := hH.1
  have h0 : hI hp 173 9 = 0 := rfI0 (hRf _ (.head _)) (sE_k _ _) (sE_k _ _) (sE_k _ _)
  have hFc : ∀ q ∈ ([(192, [(.ofNat 0, [(.ofNat 1, 0)]), (.ofNat 0, [(.ofNat 1, 1)]), (.ofNat 0, [(.ofNat 1, 2)]), (.ofNat 0, [(.ofNat 1, 3)]), (.ofNat 0, [(.ofNat 1, 4)]), (.ofNat 0, [(.ofNat 1, 5)]), (.ofNat 0, [(.ofNat 1, 6)]), (.ofNat 0, [(.ofNat 1, 7)])])] : List sFc), fcOk fFS [s0, s1, s2, s3, s4, s5, s6, s7] hp q := hH.2
  have f0 : SHq (XT hp) (nmR hp (xnm hp)) s0 s1 s2 s3 s4 s5 s6 s7 ∧ s4 ≠ 4 := fcX (ys := [s0, s1, s2, s3, s4, s5, s6, s7]) (hFc _ (.head _)) ⟨sE_V rfl, sE_V rfl, sE_V rfl, sE_V rfl, sE_V rfl, sE_V rfl, sE_V rfl, sE_V rfl, trivial⟩
  exact poX (.head _) rfl hR (all_nil) (all_nil) (all_cons ⟨[1, s5], ⟨sE_k _ _, sE_V rfl, trivial⟩, (show SRS (XT hp) (nmR hp (xnm hp)) (1 : Int) s5 from s0_f1 f0.1 (by omega) (by omega) (by omega))⟩ (all_nil))
theorem rl305 : ruOk fFS gR305 := by
  intro r hp hO hN hH
  obtain ⟨s0, s1, s2, s3, s4, s5, s6, s7, rfl⟩ := len8 (show r.length = 8 from hN.1)
  have hR := hN.2.1.1
  have hIv : ∀ q ∈ ([(0, .negSucc 2147483647, .ofNat 2147483647), (1, .ofNat 0, .ofNat 0), (2, .negSucc 2147483647, .ofNat 2147483647), (3, .negSucc 2147483647, .ofNat 2147483647), (4, .ofNat 1, .ofNat 1), (5, .negSucc 2147483647, .ofNat 2147483647), (6, .negSucc 2147483647, .ofNat 2147483647), (7, .ofNat 13, .ofNat 13)] : sIv), ∃ x, ([s0, s1, s2, s3, s4, s5, s6, s7] : List Int)[q.1]? = some x ∧ q.2.1 ≤ x ∧ x ≤ q.2.2 := hN.2.1.2
  have b1 : (0 : Int) ≤ s1 ∧ s1 ≤ (0 : Int) := ivX (q := (1, .ofNat 0, .ofNat 0)) (y := s1) (hIv _ (.tail _ (.head _))) rfl
  have b4 : (1 : Int) ≤ s4 ∧ s4 ≤ (1 : Int) := ivX (q := (4, .ofNat 1, .ofNat 1)) (y := s4) (hIv _ (.tail _ (.tail _ (.tail _ (.tail _ (.head _)))))) rfl
  have b7 : (13 : Int) ≤ s7 ∧ s7 ≤ (13 : Int) := ivX (q := (7, .ofNat 13, .ofNat 13)) (y := s7) (hIv _ (.tail _ (.tail _ (.tail _ (.tail _ (.tail _ (.tail _ (.tail _ (.head _))))))))) rfl
  have hRf : ∀ q ∈ ([((40, .ofNat 173, []), (.ofNat 9, []), 1, .ofNat 0, [])] : List sRf), rfOk [s0, s1, s2, s3, s4, s5, s6, s7] hp q := hH.1
  have h0 : hI hp 173 9 = 0 := rfI0 (hRf _ (.head _)) (sE_k _ _) (sE_k _ _) (sE_k _ _)
  have hFc : ∀ q ∈ ([(192, [(.ofNat 0, [(.ofNat 1, 0)]), (.ofNat 0, [(.ofNat 1, 1)]), (.ofNat 0, [(.ofNat 1, 2)]), (.ofNat 0, [(.ofNat 1, 3)]), (.ofNat 0, [(.ofNat 1, 4)]), (.ofNat 0, [(.ofNat 1, 5)]), (.ofNat 0, [(.ofNat 1, 6)]), (.ofNat 0, [(.ofNat 1, 7)])]), (199, [(.ofNat 0, [(.ofNat 1, 3)]), (.ofNat 9, [])])] : List sFc), fcOk fFS [s0, s1, s2, s3, s4, s5, s6, s7] hp q := hH.2
  have f0 : SHq (XT hp) (nmR hp (xnm hp)) s0 s1 s2 s3 s4 s5 s6 s7 ∧ s4 ≠ 4 := fcX (ys := [s0, s1, s2, s3, s4, s5, s6, s7]) (hFc _ (.head _)) ⟨sE_V rfl, sE_V rfl, sE_V rfl, sE_V rfl, sE_V rfl, sE_V rfl, sE_V rfl, sE_V rfl, trivial⟩
  have f1 : (9 : Int) = dp s3 + 1 := fcX (ys := [s3, 9]) (hFc _ (.tail _ (.head _))) ⟨sE_V rfl, sE_k _ _, trivial⟩
  exact poX (.head _) rfl hR (all_nil) (all_nil) (all_cons ⟨[4, s5], ⟨sE_k _ _, sE_V rfl, trivial⟩, (show SRS (XT hp) (nmR hp (xnm hp)) (4 : Int) s5 from s0_f4 f0.1 (by omega) (by omega) (by omega))⟩ (all_nil))
theorem rl306 : ruOk fFS gR306 := by
  intro r hp hO hN hH
  obtain ⟨s0, s1, s2, s3, s4, s5, s6, s7, rfl⟩ := len8 (show r.length = 8 from hN.1)
  have hR := hN.2.1.1
  have hIv : ∀ q ∈ ([(0, .negSucc 2147483647, .ofNat 2147483647), (1, .ofNat 0, .ofNat 0), (2, .negSucc 2147483647, .ofNat 2147483647), (3, .negSucc 2147483647, .ofNat 2147483647), (4, .ofNat 1, .ofNat 1), (5, .negSucc 2147483647, .ofNat 2147483647), (6, .negSucc 2147483647, .ofNat 2147483647), (7, .ofNat 21, .ofNat 29)] : sIv), ∃ x, ([s0, s1, s2, s3, s4, s5, s6, s7] : List Int)[q.1]? = some x ∧ q.2.1 ≤ x ∧ x ≤ q.2.2 := hN.2.1.2
  have b1 : (0 : Int) ≤ s1 ∧ s1 ≤ (0 : Int) := ivX (q := (1, .ofNat 0, .ofNat 0)) (y := s1) (hIv _ (.tail _ (.head _))) rfl
  have b4 : (1 : Int) ≤ s4 ∧ s4 ≤ (1 : Int) := ivX (q := (4, .ofNat 1, .ofNat 1)) (y := s4) (hIv _ (.tail _ (.tail _ (.tail _ (.tail _ (.head _)))))) rfl
  have b7 : (21 : Int) ≤ s7 ∧ s7 ≤ (29 : Int) := ivX (q := (7, .ofNat 21, .ofNat 29)) (y := s7) (hIv _ (.tail _ (.tail _ (.tail _ (.tail _ (.tail _ (.tail _ (.tail _ (.head _))))))))) rfl
  have hRf : ∀ q ∈ ([((40, .ofNat 173, []), (.ofNat 9, []), 1, .ofNat 0, [])] : List sRf), rfOk [s0, s1, s2, s3, s4, s5, s6, s7] hp q := hH.1
  have h0 : hI hp 173 9 = 0 := rfI0 (hRf _ (.head _)) (sE_k _ _) (sE_k _ _) (sE_k _ _)
  have hFc : ∀ q ∈ ([(192, [(.ofNat 0, [(.ofNat 1, 0)]), (.ofNat 0, [(.ofNat 1, 1)]), (.ofNat 0, [(.ofNat 1, 2)]), (.ofNat 0, [(.ofNat 1, 3)]), (.ofNat 0, [(.ofNat 1, 4)]), (.ofNat 0, [(.ofNat 1, 5)]), (.ofNat 0, [(.ofNat 1, 6)]), (.ofNat 0, [(.ofNat 1, 7)])]), (199, [(.ofNat 0, [(.ofNat 1, 3)]), (.ofNat 9, [])])] : List sFc), fcOk fFS [s0, s1, s2, s3, s4, s5, s6, s7] hp q := hH.2
  have f0 : SHq (XT hp) (nmR hp (xnm hp)) s0 s1 s2 s3 s4 s5 s6 s7 ∧ s4 ≠ 4 := fcX (ys := [s0, s1, s2, s3, s4, s5, s6, s7]) (hFc _ (.head _)) ⟨sE_V rfl, sE_V rfl, sE_V rfl, sE_V rfl, sE_V rfl, sE_V rfl, sE_V rfl, sE_V rfl, trivial⟩
  have f1 : (9 : Int) = dp s3 + 1 := fcX (ys := [s3, 9]) (hFc _ (.tail _ (.head _))) ⟨sE_V rfl, sE_k _ _, trivial⟩
  exact poX (.head _) rfl hR (all_nil) (all_nil) (all_cons ⟨[4, s5], ⟨sE_k _ _, sE_V rfl, trivial⟩, (show SRS (XT hp) (nmR hp (xnm hp)) (4 : Int) s5 from s0_f4 f0.1 (by omega) (by omega) (by omega))⟩ (all_nil))
theorem rl307 : ruOk fFS gR307 := by
  intro r hp hO hN hH
  obtain ⟨s0, s1, s2, s3, s4, s5, s6, s7, rfl⟩ := len8 (show r.length = 8 from hN.1)
  have hR := hN.2.1.1
  have hIv : ∀ q ∈ ([(0, .negSucc 2147483647, .ofNat 2147483647), (1, .ofNat 0, .ofNat 0), (2, .negSucc 2147483647, .ofNat 2147483647), (3, .negSucc 2147483647, .ofNat 2147483647), (4, .ofNat 1, .ofNat 1), (5, .negSucc 2147483647, .ofNat 2147483647), (6, .negSucc 2147483647, .ofNat 2147483647), (7, .negSucc 0, .ofNat 12)] : sIv), ∃ x, ([s0, s1, s2, s3, s4, s5, s6, s7] : List Int)[q.1]? = some x ∧ q.2.1 ≤ x ∧ x ≤ q.2.2 := hN.2.1.2
  have b1 : (0 : Int) ≤ s1 ∧ s1 ≤ (0 : Int) := ivX (q := (1, .ofNat 0, .ofNat 0)) (y := s1) (hIv _ (.tail _ (.head _))) rfl
  have b4 : (1 : Int) ≤ s4 ∧ s4 ≤ (1 : Int) := ivX (q := (4, .ofNat 1, .ofNat 1)) (y := s4) (hIv _ (.tail _ (.tail _ (.tail _ (.tail _ (.head _)))))) rfl
  have b7 : (-1 : Int) ≤ s7 ∧ s7 ≤ (12 : Int) := ivX (q := (7, .negSucc 0, .ofNat 12)) (y := s7) (hIv _ (.tail _ (.tail _ (.tail _ (.tail _ (.tail _ (.tail _ (.tail _ (.head _))))))))) rfl
  have hRf : ∀ q ∈ ([((40, .ofNat 173, []), (.ofNat 9, []), 1, .ofNat 0, [])] : List sRf), rfOk [s0, s1, s2, s3, s4, s5, s6, s7] hp q := hH.1
  have h0 : hI hp 173 9 = 0 := rfI0 (hRf _ (.head _)) (sE_k _ _) (sE_k _ _) (sE_k _ _)
  have hFc : ∀ q ∈ ([(192, [(.ofNat 0, [(.ofNat 1, 0)]), (.ofNat 0, [(.ofNat 1, 1)]), (.ofNat 0, [(.ofNat 1, 2)]), (.ofNat 0, [(.ofNat 1, 3)]), (.ofNat 0, [(.ofNat 1, 4)]), (.ofNat 0, [(.ofNat 1, 5)]), (.ofNat 0, [(.ofNat 1, 6)]), (.ofNat 0, [(.ofNat 1, 7)])])] : List sFc), fcOk fFS [s0, s1, s2, s3, s4, s5, s6, s7] hp q := hH.2
  have f0 : SHq (XT hp) (nmR hp (xnm hp)) s0 s1 s2 s3 s4 s5 s6 s7 ∧ s4 ≠ 4 := fcX (ys := [s0, s1, s2, s3, s4, s5, s6, s7]) (hFc _ (.head _)) ⟨sE_V rfl, sE_V rfl, sE_V rfl, sE_V rfl, sE_V rfl, sE_V rfl, sE_V rfl, sE_V rfl, trivial⟩
  exact poX (.head _) rfl hR (all_nil) (all_nil) (all_cons ⟨[1, s5], ⟨sE_k _ _, sE_V rfl, trivial⟩, (show SRS (XT hp) (nmR hp (xnm hp)) (1 : Int) s5 from s0_f1 f0.1 (by omega) (by omega) (by omega))⟩ (all_nil))
theorem rl308 : ruOk fFS gR308 := by
  intro r hp hO hN hH
  obtain ⟨s0, s1, s2, s3, s4, s5, s6, s7, rfl⟩ := len8 (show r.length = 8 from hN.1)
  have hR := hN.2.1.1
  have hIv : ∀ q ∈ ([(0, .negSucc 2147483647, .ofNat 2147483647), (1, .ofNat 0, .ofNat 0), (2, .negSucc 2147483647, .ofNat 2147483647), (3, .negSucc 2147483647, .ofNat 2147483647), (4, .ofNat 1, .ofNat 1), (5, .negSucc 2147483647, .ofNat 2147483647), (6, .negSucc 2147483647, .ofNat 2147483647), (7, .ofNat 14, .ofNat 20)] : sIv), ∃ x, ([s0, s1, s2, s3, s4, s5, s6, s7] : List Int)[q.1]? = some x ∧ q.2.1 ≤ x ∧ x ≤ q.2.2 := hN.2.1.2
  have b1 : (0 : Int) ≤ s1 ∧ s1 ≤ (0 : Int) := ivX (q := (1, .ofNat 0, .ofNat 0)) (y := s1) (hIv _ (.tail _ (.head _))) rfl
  have b4 : (1 : Int) ≤ s4 ∧ s4 ≤ (1 : Int) := ivX (q := (4, .ofNat 1, .ofNat 1)) (y := s4) (hIv _ (.tail _ (.tail _ (.tail _ (.tail _ (.head _)))))) rfl
  have b7 : (14 : Int) ≤ s7 ∧ s7 ≤ (20 : Int) := ivX (q := (7, .ofNat 14, .ofNat 20)) (y := s7) (hIv _ (.tail _ (.tail _ (.tail _ (.tail _ (.tail _ (.tail _ (.tail _ (.head _))))))))) rfl
  have hRf : ∀ q ∈ ([((40, .ofNat 173, []), (.ofNat 9, []), 1, .ofNat 0, [])] : List sRf), rfOk [s0, s1, s2, s3, s4, s5, s6, s7] hp q := hH.1
  have h0 : hI hp 173 9 = 0 := rfI0 (hRf _ (.head _)) (sE_k _ _) (sE_k _ _) (sE_k _ _)
  have hFc : ∀ q ∈ ([(192, [(.ofNat 0, [(.ofNat 1, 0)]), (.ofNat 0, [(.ofNat 1, 1)]), (.ofNat 0, [(.ofNat 1, 2)]), (.ofNat 0, [(.ofNat 1, 3)]), (.ofNat 0, [(.ofNat 1, 4)]), (.ofNat 0, [(.ofNat 1, 5)]), (.ofNat 0, [(.ofNat 1, 6)]), (.ofNat 0, [(.ofNat 1, 7)])])] : List sFc), fcOk fFS [s0, s1, s2, s3, s4, s5, s6, s7] hp q := hH.2
  have f0 : SHq (XT hp) (nmR hp (xnm hp)) s0 s1 s2 s3 s4 s5 s6 s7 ∧ s4 ≠ 4 := fcX (ys := [s0, s1, s2, s3, s4, s5, s6, s7]) (hFc _ (.head _)) ⟨sE_V rfl, sE_V rfl, sE_V rfl, sE_V rfl, sE_V rfl, sE_V rfl, sE_V rfl, sE_V rfl, trivial⟩
  exact poX (.head _) rfl hR (all_nil) (all_nil) (all_cons ⟨[1, s5], ⟨sE_k _ _, sE_V rfl, trivial⟩, (show SRS (XT hp) (nmR hp (xnm hp)) (1 : Int) s5 from s0_f1 f0.1 (by omega) (by omega) (by omega))⟩ (all_nil))
theorem rl309 : ruOk fFS gR309 := by
  intro r hp hO hN hH
  obtain ⟨s0, s1, s2, s3, s4, s5, s6, s7, rfl⟩ := len8 (show r.length = 8 from hN.1)
  have hR := hN.2.1.1
  have hIv : ∀ q ∈ ([(0, .negSucc 2147483647, .ofNat 2147483647), (1, .negSucc 2147483647, .ofNat 2147483647), (2, .negSucc 2147483647, .ofNat 2147483647), (3, .negSucc 2147483647, .ofNat 2147483647), (4, .negSucc 2147483647, .ofNat 2147483647), (5, .negSucc 2147483647, .ofNat 2147483647), (6, .negSucc 2147483647, .ofNat 2147483647), (7, .negSucc 2147483647, .ofNat 2147483647)] : sIv), ∃ x, ([s0, s1, s2, s3, s4, s5, s6, s7] : List Int)[q.1]? = some x ∧ q.2.1 ≤ x ∧ x ≤ q.2.2 := hN.2.1.2
  have b2 : (-2147483648 : Int) ≤ s2 ∧ s2 ≤ (2147483647 : Int) := ivX (q := (2, .negSucc 2147483647, .ofNat 2147483647)) (y := s2) (hIv _ (.tail _ (.tail _ (.head _)))) rfl
  have b3 : (-2147483648 : Int) ≤ s3 ∧ s3 ≤ (2147483647 : Int) := ivX (q := (3, .negSucc 2147483647, .ofNat 2147483647)) (y := s3) (hIv _ (.tail _ (.tail _ (.tail _ (.head _))))) rfl
  have b4 : (-2147483648 : Int) ≤ s4 ∧ s4 ≤ (2147483647 : Int) := ivX (q := (4, .negSucc 2147483647, .ofNat 2147483647)) (y := s4) (hIv _ (.tail _ (.tail _ (.tail _ (.tail _ (.head _)))))) rfl
  have b7 : (-2147483648 : Int) ≤ s7 ∧ s7 ≤ (2147483647 : Int) := ivX (q := (7, .negSucc 2147483647, .ofNat 2147483647)) (y := s7) (hIv _ (.tail _ (.tail _ (.tail _ (.tail _ (.tail _ (.tail _ (.tail _ (.head _))))))))) rfl
  have hRf : ∀ q ∈ ([((40, .ofNat 173, []), (.ofNat 9, []), 1, .ofNat 0, [])] : List sRf), rfOk [s0, s1, s2, s3, s4, s5, s6, s7] hp q := hH.1
  have h0 : hI hp 173 9 = 0 := rfI0 (hRf _ (.head _)) (sE_k _ _) (sE_k _ _) (sE_k _ _)
  have hFc : ∀ q ∈ ([(192, [(.ofNat 0, [(.ofNat 1, 0)]), (.ofNat 0, [(.ofNat 1, 1)]), (.ofNat 0, [(.ofNat 1, 2)]), (.ofNat 0, [(.ofNat 1, 3)]), (.ofNat 0, [(.ofNat 1, 4)]), (.ofNat 0, [(.ofNat 1, 5)]), (.ofNat 0, [(.ofNat 1, 6)]), (.ofNat 0, [(.ofNat 1, 7)])])] : List sFc), fcOk fFS [s0, s1, s2, s3, s4, s5, s6, s7] hp q := hH.2
  have f0 : SHq (XT hp) (nmR hp (xnm hp)) s0 s1 s2 s3 s4 s5 s6 s7 ∧ s4 ≠ 4 := fcX (ys := [s0, s1, s2, s3, s4, s5, s6, s7]) (hFc _ (.head _)) ⟨sE_V rfl, sE_V rfl, sE_V rfl, sE_V rfl, sE_V rfl, sE_V rfl, sE_V rfl, sE_V rfl, trivial⟩
  have u := sh_bd (XT_ok hO) f0.1
  exact poX (.head _) rfl hR (all_cons (ivO (y := s2) rfl (show (0 : Int) ≤ s2 by omega) (show s2 ≤ (20 : Int) by omega)) (all_cons (ivO (y := s3) rfl (show (0 : Int) ≤ s3 by omega) (show s3 ≤ (6560 : Int) by omega)) (all_cons (ivO (y := s4) rfl (show (0 : Int) ≤ s4 by omega) (show s4 ≤ (3 : Int) by omega)) (all_cons (ivO (y := s7) rfl (show (-1 : Int) ≤ s7 by omega) (show s7 ≤ (99 : Int) by omega)) (all_nil))))) (all_nil) (all_nil)
theorem rl310 : ruOk fFS gR310 := by
  intro r hp hO hN hH
  obtain ⟨s0, s1, s2, s3, s4, s5, s6, s7, s8, s9, rfl⟩ := len10 (show r.length = 10 from hN.1)
  have hR := hN.2.1.1
  have hIv : ∀ q ∈ ([(0, .negSucc 2147483647, .ofNat 2147483647), (1, .ofNat 6, .ofNat 6), (2, .negSucc 2147483647, .ofNat 2147483647), (3, .negSucc 2147483647, .ofNat 2147483647), (4, .ofNat 0, .ofNat 0), (5, .negSucc 2147483647, .ofNat 2147483647), (6, .negSucc 2147483647, .ofNat 2147483647), (7, .negSucc 2147483647, .ofNat 2147483647), (8, .ofNat 0, .ofNat 6560), (9, .negSucc 2147483647, .ofNat 2147483647)] : sIv), ∃ x, ([s0, s1, s2, s3, s4, s5, s6, s7, s8, s9] : List Int)[q.1]? = some x ∧ q.2.1 ≤ x ∧ x ≤ q.2.2 := hN.2.1.2
  have b1 : (6 : Int) ≤ s1 ∧ s1 ≤ (6 : Int) := ivX (q := (1, .ofNat 6, .ofNat 6)) (y := s1) (hIv _ (.tail _ (.head _))) rfl
  have b4 : (0 : Int) ≤ s4 ∧ s4 ≤ (0 : Int) := ivX (q := (4, .ofNat 0, .ofNat 0)) (y := s4) (hIv _ (.tail _ (.tail _ (.tail _ (.tail _ (.head _)))))) rfl
  have b8 : (0 : Int) ≤ s8 ∧ s8 ≤ (6560 : Int) := ivX (q := (8, .ofNat 0, .ofNat 6560)) (y := s8) (hIv _ (.tail _ (.tail _ (.tail _ (.tail _ (.tail _ (.tail _ (.tail _ (.tail _ (.head _)))))))))) rfl
  have hCs : ∀ c ∈ ([(.negSucc 1, [(.ofNat 1, 3), (.negSucc 2, 8)]), (.ofNat 2, [(.negSucc 0, 3), (.ofNat 3, 8)])] : List sLn), ∃ x, sE [s0, s1, s2, s3, s4, s5, s6, s7, s8, s9] c = some x ∧ x ≤ 0 := hN.2.2.1
  have c0 : ((-2 : Int) + ((1 : Int) * s3 + ((-3 : Int) * s8 + 0))) ≤ 0 := csX (hCs _ (.head _)) rfl
  have c1 : ((2 : Int) + ((-1 : Int) * s3 + ((3 : Int) * s8 + 0))) ≤ 0 := csX (hCs _ (.tail _ (.head _))) rfl
  have hRf : ∀ q ∈ ([((40, .ofNat 173, []), (.ofNat 9, []), 1, .ofNat 0, [])] : List sRf), rfOk [s0, s1, s2, s3, s4, s5, s6, s7, s8, s9] hp q := hH.1
  have h0 : hI hp 173 9 = 0 := rfI0 (hRf _ (.head _)) (sE_k _ _) (sE_k _ _) (sE_k _ _)
  have hFc : ∀ q ∈ ([(192, [(.ofNat 0, [(.ofNat 1, 0)]), (.ofNat 0, [(.ofNat 1, 1)]), (.ofNat 0, [(.ofNat 1, 2)]), (.ofNat 0, [(.ofNat 1, 3)]), (.ofNat 0, [(.ofNat 1, 4)]), (.ofNat 0, [(.ofNat 1, 5)]), (.ofNat 0, [(.ofNat 1, 6)]), (.ofNat 0, [(.ofNat 1, 7)])]), (200, [(.ofNat 0, [(.ofNat 1, 8)]), (.ofNat 0, [(.ofNat 1, 9)])])] : List sFc), fcOk fFS [s0, s1, s2, s3, s4, s5, s6, s7, s8, s9] hp q := hH.2
  have f0 : SHq (XT hp) (nmR hp (xnm hp)) s0 s1 s2 s3 s4 s5 s6 s7 ∧ s4 ≠ 4 := fcX (ys := [s0, s1, s2, s3, s4, s5, s6, s7]) (hFc _ (.head _)) ⟨sE_V rfl, sE_V rfl, sE_V rfl, sE_V rfl, sE_V rfl, sE_V rfl, sE_V rfl, sE_V rfl, trivial⟩
  have f1 : s9 = nr s8 := fcX (ys := [s8, s9]) (hFc _ (.tail _ (.head _))) ⟨sE_V rfl, sE_V rfl, trivial⟩
  exact poX (.head _) rfl hR (all_nil) (all_nil) (all_cons ⟨[1, s5], ⟨sE_k _ _, sE_V rfl, trivial⟩, (show SRS (XT hp) (nmR hp (xnm hp)) (1 : Int) s5 from s6_f1 f0.1 (by omega) (by omega) (by omega) (by omega))⟩ (all_nil))
theorem rl311 : ruOk fFS gR311 := by
  intro r hp hO hN hH
  obtain ⟨s0, s1, s2, s3, s4, s5, s6, s7, s8, s9, rfl⟩ := len10 (show r.length = 10 from hN.1)
  have hR := hN.2.1.1
  have hIv : ∀ q ∈ ([(0, .negSucc 2147483647, .ofNat 2147483647), (1, .ofNat 6, .ofNat 6), (2, .negSucc 2147483647, .ofNat 2147483647), (3, .negSucc 2147483647, .ofNat 2147483647), (4, .ofNat 2, .ofNat 2), (5, .negSucc 2147483647, .ofNat 2147483647), (6, .negSucc 2147483647, .ofNat 2147483647), (7, .negSucc 2147483647, .ofNat 2147483647), (8, .ofNat 0, .ofNat 6560), (9, .negSucc 2147483647, .ofNat 2147483647)] : sIv), ∃ x, ([s0, s1, s2, s3, s4, s5, s6, s7, s8, s9] : List Int)[q.1]? = some x ∧ q.2.1 ≤ x ∧ x ≤ q.2.2 := hN.2.1.2
  have b1 : (6 : Int) ≤ s1 ∧ s1 ≤ (6 : Int) := ivX (q := (1, .ofNat 6, .ofNat 6)) (y := s1) (hIv _ (.tail _ (.head _))) rfl
  have b4 : (2 : Int) ≤ s4 ∧ s4 ≤ (2 : Int) := ivX (q := (4, .ofNat 2, .ofNat 2)) (y := s4) (hIv _ (.tail _ (.tail _ (.tail _ (.tail _ (.head _)))))) rfl
  have b8 : (0 : Int) ≤ s8 ∧ s8 ≤ (6560 : Int) := ivX (q := (8, .ofNat 0, .ofNat 6560)) (y := s8) (hIv _ (.tail _ (.tail _ (.tail _ (.tail _ (.tail _ (.tail _ (.tail _ (.tail _ (.head _)))))))))) rfl
  have hCs : ∀ c ∈ ([(.negSucc 1, [(.ofNat 1, 3), (.negSucc 2, 8)]), (.ofNat 2, [(.negSucc 0, 3), (.ofNat 3, 8)])] : List sLn), ∃ x, sE [s0, s1, s2, s3, s4, s5, s6, s7, s8, s9] c = some x ∧ x ≤ 0 := hN.2.2.1
  have c0 : ((-2 : Int) + ((1 : Int) * s3 + ((-3 : Int) * s8 + 0))) ≤ 0 := csX (hCs _ (.head _)) rfl
  have c1 : ((2 : Int) + ((-1 : Int) * s3 + ((3 : Int) * s8 + 0))) ≤ 0 := csX (hCs _ (.tail _ (.head _))) rfl
  have hRf : ∀ q ∈ ([((40, .ofNat 173, []), (.ofNat 9, []), 1, .ofNat 0, [])] : List sRf), rfOk [s0, s1, s2, s3, s4, s5, s6, s7, s8, s9] hp q := hH.1
  have h0 : hI hp 173 9 = 0 := rfI0 (hRf _ (.head _)) (sE_k _ _) (sE_k _ _) (sE_k _ _)
  have hFc : ∀ q ∈ ([(192, [(.ofNat 0, [(.ofNat 1, 0)]), (.ofNat 0, [(.ofNat 1, 1)]), (.ofNat 0, [(.ofNat 1, 2)]), (.ofNat 0, [(.ofNat 1, 3)]), (.ofNat 0, [(.ofNat 1, 4)]), (.ofNat 0, [(.ofNat 1, 5)]), (.ofNat 0, [(.ofNat 1, 6)]), (.ofNat 0, [(.ofNat 1, 7)])]), (200, [(.ofNat 0, [(.ofNat 1, 8)]), (.ofNat 0, [(.ofNat 1, 9)])])] : List sFc), fcOk fFS [s0, s1, s2, s3, s4, s5, s6, s7, s8, s9] hp q := hH.2
  have f0 : SHq (XT hp) (nmR hp (xnm hp)) s0 s1 s2 s3 s4 s5 s6 s7 ∧ s4 ≠ 4 := fcX (ys := [s0, s1, s2, s3, s4, s5, s6, s7]) (hFc _ (.head _)) ⟨sE_V rfl, sE_V rfl, sE_V rfl, sE_V rfl, sE_V rfl, sE_V rfl, sE_V rfl, sE_V rfl, trivial⟩
  have f1 : s9 = nr s8 := fcX (ys := [s8, s9]) (hFc _ (.tail _ (.head _))) ⟨sE_V rfl, sE_V rfl, trivial⟩
  exact poX (.head _) rfl hR (all_nil) (all_nil) (all_cons ⟨[1, s5], ⟨sE_k _ _, sE_V rfl, trivial⟩, (show SRS (XT hp) (nmR hp (xnm hp)) (1 : Int) s5 from s6_f1 f0.1 (by omega) (by omega) (by omega) (by omega))⟩ (all_nil))
theorem rl312 : ruOk fFS gR312 := by
  intro r hp hO hN hH
  obtain ⟨s0, s1, s2, s3, s4, s5, s6, s7, s8, s9, rfl⟩ := len10 (show r.length = 10 from hN.1)
  have hR := hN.2.1.1
  have hIv : ∀ q ∈ ([(0, .negSucc 2147483647, .ofNat 2147483647), (1, .ofNat 6, .ofNat 6), (2, .negSucc 2147483647, .ofNat 2147483647), (3, .negSucc 2147483647, .ofNat 2147483647), (4, .ofNat 3, .ofNat 3), (5, .negSucc 2147483647, .ofNat 2147483647), (6, .negSucc 2147483647, .ofNat 2147483647), (7, .negSucc 0, .ofNat 40), (8, .ofNat 0, .ofNat 6560), (9, .negSucc 2147483647, .ofNat 2147483647)] : sIv), ∃ x, ([s0, s1, s2, s3, s4, s5, s6, s7, s8, s9] : List Int)[q.1]? = some x ∧ q.2.1 ≤ x ∧ x ≤ q.2.2 := hN.2.1.2
  have b1 : (6 : Int) ≤ s1 ∧ s1 ≤ (6 : Int) := ivX (q := (1, .ofNat 6, .ofNat 6)) (y := s1) (hIv _ (.tail _ (.head _))) rfl
  have b4 : (3 : Int) ≤ s4 ∧ s4 ≤ (3 : Int) := ivX (q := (4, .ofNat 3, .ofNat 3)) (y := s4) (hIv _ (.tail _ (.tail _ (.tail _ (.tail _ (.head _)))))) rfl
  have b7 : (-1 : Int) ≤ s7 ∧ s7 ≤ (40 : Int) := ivX (q := (7, .negSucc 0, .ofNat 40)) (y := s7) (hIv _ (.tail _ (.tail _ (.tail _ (.tail _ (.tail _ (.tail _ (.tail _ (.head _))))))))) rfl
  have b8 : (0 : Int) ≤ s8 ∧ s8 ≤ (6560 : Int) := ivX (q := (8, .ofNat 0, .ofNat 6560)) (y := s8) (hIv _ (.tail _ (.tail _ (.tail _ (.tail _ (.tail _ (.tail _ (.tail _ (.tail _ (.head _)))))))))) rfl
  have hCs : ∀ c ∈ ([(.negSucc 1, [(.ofNat 1, 3), (.negSucc 2, 8)]), (.ofNat 2, [(.negSucc 0, 3), (.ofNat 3, 8)])] : List sLn), ∃ x, sE [s0, s1, s2, s3, s4, s5, s6, s7, s8, s9] c = some x ∧ x ≤ 0 := hN.2.2.1
  have c0 : ((-2 : Int) + ((1 : Int) * s3 + ((-3 : Int) * s8 + 0))) ≤ 0 := csX (hCs _ (.head _)) rfl
  have c1 : ((2 : Int) + ((-1 : Int) * s3 + ((3 : Int) * s8 + 0))) ≤ 0 := csX (hCs _ (.tail _ (.head _))) rfl
  have hRf : ∀ q ∈ ([((40, .ofNat 173, []), (.ofNat 9, []), 1, .ofNat 0, [])] : List sRf), rfOk [s0, s1, s2, s3, s4, s5, s6, s7, s8, s9] hp q := hH.1
  have h0 : hI hp 173 9 = 0 := rfI0 (hRf _ (.head _)) (sE_k _ _) (sE_k _ _) (sE_k _ _)
  have hFc : ∀ q ∈ ([(192, [(.ofNat 0, [(.ofNat 1, 0)]), (.ofNat 0, [(.ofNat 1, 1)]), (.ofNat 0, [(.ofNat 1, 2)]), (.ofNat 0, [(.ofNat 1, 3)]), (.ofNat 0, [(.ofNat 1, 4)]), (.ofNat 0, [(.ofNat 1, 5)]), (.ofNat 0, [(.ofNat 1, 6)]), (.ofNat 0, [(.ofNat 1, 7)])]), (200, [(.ofNat 0, [(.ofNat 1, 8)]), (.ofNat 0, [(.ofNat 1, 9)])])] : List sFc), fcOk fFS [s0, s1, s2, s3, s4, s5, s6, s7, s8, s9] hp q := hH.2
  have f0 : SHq (XT hp) (nmR hp (xnm hp)) s0 s1 s2 s3 s4 s5 s6 s7 ∧ s4 ≠ 4 := fcX (ys := [s0, s1, s2, s3, s4, s5, s6, s7]) (hFc _ (.head _)) ⟨sE_V rfl, sE_V rfl, sE_V rfl, sE_V rfl, sE_V rfl, sE_V rfl, sE_V rfl, sE_V rfl, trivial⟩
  have f1 : s9 = nr s8 := fcX (ys := [s8, s9]) (hFc _ (.tail _ (.head _))) ⟨sE_V rfl, sE_V rfl, trivial⟩
  exact poX (.head _) rfl hR (all_nil) (all_nil) (all_cons ⟨[1, s5], ⟨sE_k _ _, sE_V rfl, trivial⟩, (show SRS (XT hp) (nmR hp (xnm hp)) (1 : Int) s5 from s6_f1 f0.1 (by omega) (by omega) (by omega) (by omega))⟩ (all_nil))
theorem rl313 : ruOk fFS gR313 := by
  intro r hp hO hN hH
  obtain ⟨s0, s1, s2, s3, s4, s5, s6, s7, s8, s9, rfl⟩ := len10 (show r.length = 10 from hN.1)
  have hR := hN.2.1.1
  have hIv : ∀ q ∈ ([(0, .negSucc 2147483647, .ofNat 2147483647), (1, .ofNat 6, .ofNat 6), (2, .negSucc 2147483647, .ofNat 2147483647), (3, .negSucc 2147483647, .ofNat 2147483647), (4, .ofNat 3, .ofNat 3), (5, .negSucc 2147483647, .ofNat 2147483647), (6, .negSucc 2147483647, .ofNat 2147483647), (7, .ofNat 42, .ofNat 2147483647), (8, .ofNat 0, .ofNat 6560), (9, .negSucc 2147483647, .ofNat 2147483647)] : sIv), ∃ x, ([s0, s1, s2, s3, s4, s5, s6, s7, s8, s9] : List Int)[q.1]? = some x ∧ q.2.1 ≤ x ∧ x ≤ q.2.2 := hN.2.1.2
  have b1 : (6 : Int) ≤ s1 ∧ s1 ≤ (6 : Int) := ivX (q := (1, .ofNat 6, .ofNat 6)) (y := s1) (hIv _ (.tail _ (.head _))) rfl
  have b4 : (3 : Int) ≤ s4 ∧ s4 ≤ (3 : Int) := ivX (q := (4, .ofNat 3, .ofNat 3)) (y := s4) (hIv _ (.tail _ (.tail _ (.tail _ (.tail _ (.head _)))))) rfl
  have b7 : (42 : Int) ≤ s7 ∧ s7 ≤ (2147483647 : Int) := ivX (q := (7, .ofNat 42, .ofNat 2147483647)) (y := s7) (hIv _ (.tail _ (.tail _ (.tail _ (.tail _ (.tail _ (.tail _ (.tail _ (.head _))))))))) rfl
  have b8 : (0 : Int) ≤ s8 ∧ s8 ≤ (6560 : Int) := ivX (q := (8, .ofNat 0, .ofNat 6560)) (y := s8) (hIv _ (.tail _ (.tail _ (.tail _ (.tail _ (.tail _ (.tail _ (.tail _ (.tail _ (.head _)))))))))) rfl
  have hCs : ∀ c ∈ ([(.negSucc 1, [(.ofNat 1, 3), (.negSucc 2, 8)]), (.ofNat 2, [(.negSucc 0, 3), (.ofNat 3, 8)])] : List sLn), ∃ x, sE [s0, s1, s2, s3, s4, s5, s6, s7, s8, s9] c = some x ∧ x ≤ 0 := hN.2.2.1
  have c0 : ((-2 : Int) + ((1 : Int) * s3 + ((-3 : Int) * s8 + 0))) ≤ 0 := csX (hCs _ (.head _)) rfl
  have c1 : ((2 : Int) + ((-1 : Int) * s3 + ((3 : Int) * s8 + 0))) ≤ 0 := csX (hCs _ (.tail _ (.head _))) rfl
  have hRf : ∀ q ∈ ([((40, .ofNat 173, []), (.ofNat 9, []), 1, .ofNat 0, [])] : List sRf), rfOk [s0, s1, s2, s3, s4, s5, s6, s7, s8, s9] hp q := hH.1
  have h0 : hI hp 173 9 = 0 := rfI0 (hRf _ (.head _)) (sE_k _ _) (sE_k _ _) (sE_k _ _)
  have hFc : ∀ q ∈ ([(192, [(.ofNat 0, [(.ofNat 1, 0)]), (.ofNat 0, [(.ofNat 1, 1)]), (.ofNat 0, [(.ofNat 1, 2)]), (.ofNat 0, [(.ofNat 1, 3)]), (.ofNat 0, [(.ofNat 1, 4)]), (.ofNat 0, [(.ofNat 1, 5)]), (.ofNat 0, [(.ofNat 1, 6)]), (.ofNat 0, [(.ofNat 1, 7)])]), (200, [(.ofNat 0, [(.ofNat 1, 8)]), (.ofNat 0, [(.ofNat 1, 9)])])] : List sFc), fcOk fFS [s0, s1, s2, s3, s4, s5, s6, s7, s8, s9] hp q := hH.2
  have f0 : SHq (XT hp) (nmR hp (xnm hp)) s0 s1 s2 s3 s4 s5 s6 s7 ∧ s4 ≠ 4 := fcX (ys := [s0, s1, s2, s3, s4, s5, s6, s7]) (hFc _ (.head _)) ⟨sE_V rfl, sE_V rfl, sE_V rfl, sE_V rfl, sE_V rfl, sE_V rfl, sE_V rfl, sE_V rfl, trivial⟩
  have f1 : s9 = nr s8 := fcX (ys := [s8, s9]) (hFc _ (.tail _ (.head _))) ⟨sE_V rfl, sE_V rfl, trivial⟩
  exact poX (.head _) rfl hR (all_nil) (all_nil) (all_cons ⟨[1, s5], ⟨sE_k _ _, sE_V rfl, trivial⟩, (show SRS (XT hp) (nmR hp (xnm hp)) (1 : Int) s5 from s6_f1 f0.1 (by omega) (by omega) (by omega) (by omega))⟩ (all_nil))
theorem rl314 : ruOk fFS gR314 := by
  intro r hp hO hN hH
  obtain ⟨s0, s1, s2, s3, s4, s5, s6, s7, s8, s9, rfl⟩ := len10 (show r.length = 10 from hN.1)
  have hR := hN.2.1.1
  have hIv : ∀ q ∈ ([(0, .negSucc 2147483647, .ofNat 2147483647), (1, .ofNat 6, .ofNat 6), (2, .negSucc 2147483647, .ofNat 2147483647), (3, .negSucc 2147483647, .ofNat 2147483647), (4, .ofNat 1, .ofNat 1), (5, .negSucc 2147483647, .ofNat 2147483647), (6, .negSucc 2147483647, .ofNat 2147483647), (7, .negSucc 0, .ofNat 18), (8, .ofNat 0, .ofNat 6560), (9, .negSucc 2147483647, .ofNat 2147483647)] : sIv), ∃ x, ([s0, s1, s2, s3, s4, s5, s6, s7, s8, s9] : List Int)[q.1]? = some x ∧ q.2.1 ≤ x ∧ x ≤ q.2.2 := hN.2.1.2
  have b1 : (6 : Int) ≤ s1 ∧ s1 ≤ (6 : Int) := ivX (q := (1, .ofNat 6, .ofNat 6)) (y := s1) (hIv _ (.tail _ (.head _))) rfl
  have b4 : (1 : Int) ≤ s4 ∧ s4 ≤ (1 : Int) := ivX (q := (4, .ofNat 1, .ofNat 1)) (y := s4) (hIv _ (.tail _ (.tail _ (.tail _ (.tail _ (.head _)))))) rfl
  have b7 : (-1 : Int) ≤ s7 ∧ s7 ≤ (18 : Int) := ivX (q := (7, .negSucc 0, .ofNat 18)) (y := s7) (hIv _ (.tail _ (.tail _ (.tail _ (.tail _ (.tail _ (.tail _ (.tail _ (.head _))))))))) rfl
  have b8 : (0 : Int) ≤ s8 ∧ s8 ≤ (6560 : Int) := ivX (q := (8, .ofNat 0, .ofNat 6560)) (y := s8) (hIv _ (.tail _ (.tail _ (.tail _ (.tail _ (.tail _ (.tail _ (.tail _ (.tail _ (.head _)))))))))) rfl
  have hCs : ∀ c ∈ ([(.negSucc 1, [(.ofNat 1, 3), (.negSucc 2, 8)]), (.ofNat 2, [(.negSucc 0, 3), (.ofNat 3, 8)])] : List sLn), ∃ x, sE [s0, s1, s2, s3, s4, s5, s6, s7, s8, s9] c = some x ∧ x ≤ 0 := hN.2.2.1
  have c0 : ((-2 : Int) + ((1 : Int) * s3 + ((-3 : Int) * s8 + 0))) ≤ 0 := csX (hCs _ (.head _)) rfl
  have c1 : ((2 : Int) + ((-1 : Int) * s3 + ((3 : Int) * s8 + 0))) ≤ 0 := csX (hCs _ (.tail _ (.head _))) rfl
  have hRf : ∀ q ∈ ([((40, .ofNat 173, []), (.ofNat 9, []), 1, .ofNat 0, [])] : List sRf), rfOk [s0, s1, s2, s3, s4, s5, s6, s7, s8, s9] hp q := hH.1
  have h0 : hI hp 173 9 = 0 := rfI0 (hRf _ (.head _)) (sE_k _ _) (sE_k _ _) (sE_k _ _)
  have hFc : ∀ q ∈ ([(192, [(.ofNat 0, [(.ofNat 1, 0)]), (.ofNat 0, [(.ofNat 1, 1)]), (.ofNat 0, [(.ofNat 1, 2)]), (.ofNat 0, [(.ofNat 1, 3)]), (.ofNat 0, [(.ofNat 1, 4)]), (.ofNat 0, [(.ofNat 1, 5)]), (.ofNat 0, [(.ofNat 1, 6)]), (.ofNat 0, [(.ofNat 1, 7)])]), (200, [(.ofNat 0, [(.ofNat 1, 8)]), (.ofNat 0, [(.ofNat 1, 9)])])] : List sFc), fcOk fFS [s0, s1, s2, s3, s4, s5, s6, s7, s8, s9] hp q := hH.2
  have f0 : SHq (XT hp) (nmR hp (xnm hp)) s0 s1 s2 s3 s4 s5 s6 s7 ∧ s4 ≠ 4 := fcX (ys := [s0, s1, s2, s3, s4, s5, s6, s7]) (hFc _ (.head _)) ⟨sE_V rfl, sE_V rfl, sE_V rfl, sE_V rfl, sE_V rfl, sE_V rfl, sE_V rfl, sE_V rfl, trivial⟩
  have f1 : s9 = nr s8 := fcX (ys := [s8, s9]) (hFc _ (.tail _ (.head _))) ⟨sE_V rfl, sE_V rfl, trivial⟩
  exact poX (.head _) rfl hR (all_nil) (all_nil) (all_cons ⟨[1, s5], ⟨sE_k _ _, sE_V rfl, trivial⟩, (show SRS (XT hp) (nmR hp (xnm hp)) (1 : Int) s5 from s6_f1 f0.1 (by omega) (by omega) (by omega) (by omega))⟩ (all_nil))
theorem rl315 : ruOk fFS gR315 := by
  intro r hp hO hN hH
  obtain ⟨s0, s1, s2, s3, s4, s5, s6, s7, s8, s9, rfl⟩ := len10 (show r.length = 10 from hN.1)
  have hR := hN.2.1.1
  have hIv : ∀ q ∈ ([(0, .negSucc 2147483647, .ofNat 2147483647), (1, .ofNat 6, .ofNat 6), (2, .negSucc 2147483647, .ofNat 2147483647), (3, .negSucc 2147483647, .ofNat 2147483647), (4, .ofNat 1, .ofNat 1), (5, .negSucc 2147483647, .ofNat 2147483647), (6, .negSucc 2147483647, .ofNat 2147483647), (7, .ofNat 21, .ofNat 2147483647), (8, .ofNat 0, .ofNat 6560), (9, .negSucc 2147483647, .ofNat 2147483647)] : sIv), ∃ x, ([s0, s1, s2, s3, s4, s5, s6, s7, s8, s9] : List Int)[q.1]? = some x ∧ q.2.1 ≤ x ∧ x ≤ q.2.2 := hN.2.1.2
  have b1 : (6 : Int) ≤ s1 ∧ s1 ≤ (6 : Int) := ivX (q := (1, .ofNat 6, .ofNat 6)) (y := s1) (hIv _ (.tail _ (.head _))) rfl
  have b4 : (1 : Int) ≤ s4 ∧ s4 ≤ (1 : Int) := ivX (q := (4, .ofNat 1, .ofNat 1)) (y := s4) (hIv _ (.tail _ (.tail _ (.tail _ (.tail _ (.head _)))))) rfl
  have b7 : (21 : Int) ≤ s7 ∧ s7 ≤ (2147483647 : Int) := ivX (q := (7, .ofNat 21, .ofNat 2147483647)) (y := s7) (hIv _ (.tail _ (.tail _ (.tail _ (.tail _ (.tail _ (.tail _ (.tail _ (.head _))))))))) rfl
  have b8 : (0 : Int) ≤ s8 ∧ s8 ≤ (6560 : Int) := ivX (q := (8, .ofNat 0, .ofNat 6560)) (y := s8) (hIv _ (.tail _ (.tail _ (.tail _ (.tail _ (.tail _ (.tail _ (.tail _ (.tail _ (.head _)))))))))) rfl
  have hCs : ∀ c ∈ ([(.negSucc 1, [(.ofNat 1, 3), (.negSucc 2, 8)]), (.ofNat 2, [(.negSucc 0, 3), (.ofNat 3, 8)])] : List sLn), ∃ x, sE [s0, s1, s2, s3, s4, s5, s6, s7, s8, s9] c = some x ∧ x ≤ 0 := hN.2.2.1
  have c0 : ((-2 : Int) + ((1 : Int) * s3 + ((-3 : Int) * s8 + 0))) ≤ 0 := csX (hCs _ (.head _)) rfl
  have c1 : ((2 : Int) + ((-1 : Int) * s3 + ((3 : Int) * s8 + 0))) ≤ 0 := csX (hCs _ (.tail _ (.head _))) rfl
  have hRf : ∀ q ∈ ([((40, .ofNat 173, []), (.ofNat 9, []), 1, .ofNat 0, [])] : List sRf), rfOk [s0, s1, s2, s3, s4, s5, s6, s7, s8, s9] hp q := hH.1
  have h0 : hI hp 173 9 = 0 := rfI0 (hRf _ (.head _)) (sE_k _ _) (sE_k _ _) (sE_k _ _)
  have hFc : ∀ q ∈ ([(192, [(.ofNat 0, [(.ofNat 1, 0)]), (.ofNat 0, [(.ofNat 1, 1)]), (.ofNat 0, [(.ofNat 1, 2)]), (.ofNat 0, [(.ofNat 1, 3)]), (.ofNat 0, [(.ofNat 1, 4)]), (.ofNat 0, [(.ofNat 1, 5)]), (.ofNat 0, [(.ofNat 1, 6)]), (.ofNat 0, [(.ofNat 1, 7)])]), (200, [(.ofNat 0, [(.ofNat 1, 8)]), (.ofNat 0, [(.ofNat 1, 9)])])] : List sFc), fcOk fFS [s0, s1, s2, s3, s4, s5, s6, s7, s8, s9] hp q := hH.2
  have f0 : SHq (XT hp) (nmR hp (xnm hp)) s0 s1 s2 s3 s4 s5 s6 s7 ∧ s4 ≠ 4 := fcX (ys := [s0, s1, s2, s3, s4, s5, s6, s7]) (hFc _ (.head _)) ⟨sE_V rfl, sE_V rfl, sE_V rfl, sE_V rfl, sE_V rfl, sE_V rfl, sE_V rfl, sE_V rfl, trivial⟩
  have f1 : s9 = nr s8 := fcX (ys := [s8, s9]) (hFc _ (.tail _ (.head _))) ⟨sE_V rfl, sE_V rfl, trivial⟩
  exact poX (.head _) rfl hR (all_nil) (all_nil) (all_cons ⟨[1, s5], ⟨sE_k _ _, sE_V rfl, trivial⟩, (show SRS (XT hp) (nmR hp (xnm hp)) (1 : Int) s5 from s6_f1 f0.1 (by omega) (by omega) (by omega) (by omega))⟩ (all_nil))
theorem rl316 : ruOk fFS gR316 := by
  intro r hp hO hN hH
  obtain ⟨s0, s1, s2, s3, s4, s5, s6, s7, s8, s9, rfl⟩ := len10 (show r.length = 10 from hN.1)
  have hR := hN.2.1.1
  have hIv : ∀ q ∈ ([(0, .negSucc 2147483647, .ofNat 2147483647), (1, .ofNat 6, .ofNat 6), (2, .negSucc 2147483647, .ofNat 2147483647), (3, .negSucc 2147483647, .ofNat 2147483647), (4, .ofNat 3, .ofNat 3), (5, .negSucc 2147483647, .ofNat 2147483647), (6, .negSucc 2147483647, .ofNat 2147483647), (7, .ofNat 41, .ofNat 41), (8, .ofNat 0, .ofNat 6560), (9, .negSucc 2147483647, .ofNat 2147483647)] : sIv), ∃ x, ([s0, s1, s2, s3, s4, s5, s6, s7, s8, s9] : List Int)[q.1]? = some x ∧ q.2.1 ≤ x ∧ x ≤ q.2.2 := hN.2.1.2
  have b1 : (6 : Int) ≤ s1 ∧ s1 ≤ (6 : Int) := ivX (q := (1, .ofNat 6, .ofNat 6)) (y := s1) (hIv _ (.tail _ (.head _))) rfl
  have b4 : (3 : Int) ≤ s4 ∧ s4 ≤ (3 : Int) := ivX (q := (4, .ofNat 3, .ofNat 3)) (y := s4) (hIv _ (.tail _ (.tail _ (.tail _ (.tail _ (.head _)))))) rfl
  have b7 : (41 : Int) ≤ s7 ∧ s7 ≤ (41 : Int) := ivX (q := (7, .ofNat 41, .ofNat 41)) (y := s7) (hIv _ (.tail _ (.tail _ (.tail _ (.tail _ (.tail _ (.tail _ (.tail _ (.head _))))))))) rfl
  have b8 : (0 : Int) ≤ s8 ∧ s8 ≤ (6560 : Int) := ivX (q := (8, .ofNat 0, .ofNat 6560)) (y := s8) (hIv _ (.tail _ (.tail _ (.tail _ (.tail _ (.tail _ (.tail _ (.tail _ (.tail _ (.head _)))))))))) rfl
  have hCs : ∀ c ∈ ([(.negSucc 1, [(.ofNat 1, 3), (.negSucc 2, 8)]), (.ofNat 2, [(.negSucc 0, 3), (.ofNat 3, 8)])] : List sLn), ∃ x, sE [s0, s1, s2, s3, s4, s5, s6, s7, s8, s9] c = some x ∧ x ≤ 0 := hN.2.2.1
  have c0 : ((-2 : Int) + ((1 : Int) * s3 + ((-3 : Int) * s8 + 0))) ≤ 0 := csX (hCs _ (.head _)) rfl
  have c1 : ((2 : Int) + ((-1 : Int) * s3 + ((3 : Int) * s8 + 0))) ≤ 0 := csX (hCs _ (.tail _ (.head _))) rfl
  have hRf : ∀ q ∈ ([((40, .ofNat 173, []), (.ofNat 9, []), 1, .ofNat 0, [])] : List sRf), rfOk [s0, s1, s2, s3, s4, s5, s6, s7, s8, s9] hp q := hH.1
  have h0 : hI hp 173 9 = 0 := rfI0 (hRf _ (.head _)) (sE_k _ _) (sE_k _ _) (sE_k _ _)
  have hFc : ∀ q ∈ ([(192, [(.ofNat 0, [(.ofNat 1, 0)]), (.ofNat 0, [(.ofNat 1, 1)]), (.ofNat 0, [(.ofNat 1, 2)]), (.ofNat 0, [(.ofNat 1, 3)]), (.ofNat 0, [(.ofNat 1, 4)]), (.ofNat 0, [(.ofNat 1, 5)]), (.ofNat 0, [(.ofNat 1, 6)]), (.ofNat 0, [(.ofNat 1, 7)])]), (200, [(.ofNat 0, [(.ofNat 1, 8)]), (.ofNat 0, [(.ofNat 1, 9)])])] : List sFc), fcOk fFS [s0, s1, s2, s3, s4, s5, s6, s7, s8, s9] hp q := hH.2
  have f0 : SHq (XT hp) (nmR hp (xnm hp)) s0 s1 s2 s3 s4 s5 s6 s7 ∧ s4 ≠ 4 := fcX (ys := [s0, s1, s2, s3, s4, s5, s6, s7]) (hFc _ (.head _)) ⟨sE_V rfl, sE_V rfl, sE_V rfl, sE_V rfl, sE_V rfl, sE_V rfl, sE_V rfl, sE_V rfl, trivial⟩
  have f1 : s9 = nr s8 := fcX (ys := [s8, s9]) (hFc _ (.tail _ (.head _))) ⟨sE_V rfl, sE_V rfl, trivial⟩
  have ew : s3 / 3 = s8 := by omega
  have hz := s6_cl f0.1 (by omega) (by omega) (by omega) (by omega)
  rw [ew] at hz
  exact poX (.head _) rfl hR (all_nil) (all_nil) (all_cons ⟨[s6, 6, s2, s9], ⟨sE_V rfl, sE_k _ _, sE_V rfl, sE_V rfl, trivial⟩, (show SG (XT hp) (nmR hp (xnm hp)) s6 (6 : Int) s2 s9 from sg_u f1 hz)⟩ (all_nil))
theorem rl317 : ruOk fFS gR317 := by
  intro r hp hO hN hH
  obtain ⟨s0, s1, s2, s3, s4, s5, s6, s7, s8, rfl⟩ := len9 (show r.length = 9 from hN.1)
  have hR := hN.2.1.1
  have hIv : ∀ q ∈ ([(0, .negSucc 2147483647, .ofNat 2147483647), (1, .ofNat 0, .ofNat 0), (2, .ofNat 0, .ofNat 19), (3, .ofNat 0, .ofNat 6560), (4, .ofNat 1, .ofNat 1), (5, .negSucc 2147483647, .ofNat 2147483647), (6, .negSucc 2147483647, .ofNat 2147483647), (7, .ofNat 13, .ofNat 13), (8, .negSucc 2147483647, .ofNat 2147483647)] : sIv), ∃ x, ([s0, s1, s2, s3, s4, s5, s6, s7, s8] : List Int)[q.1]? = some x ∧ q.2.1 ≤ x ∧ x ≤ q.2.2 := hN.2.1.2
  have b1 : (0 : Int) ≤ s1 ∧ s1 ≤ (0 : Int) := ivX (q := (1, .ofNat 0, .ofNat 0)) (y := s1) (hIv _ (.tail _ (.head _))) rfl
  have b2 : (0 : Int) ≤ s2 ∧ s2 ≤ (19 : Int) := ivX (q := (2, .ofNat 0, .ofNat 19)) (y := s2) (hIv _ (.tail _ (.tail _ (.head _)))) rfl
  have b3 : (0 : Int) ≤ s3 ∧ s3 ≤ (6560 : Int) := ivX (q := (3, .ofNat 0, .ofNat 6560)) (y := s3) (hIv _ (.tail _ (.tail _ (.tail _ (.head _))))) rfl
  have b4 : (1 : Int) ≤ s4 ∧ s4 ≤ (1 : Int) := ivX (q := (4, .ofNat 1, .ofNat 1)) (y := s4) (hIv _ (.tail _ (.tail _ (.tail _ (.tail _ (.head _)))))) rfl
  have b7 : (13 : Int) ≤ s7 ∧ s7 ≤ (13 : Int) := ivX (q := (7, .ofNat 13, .ofNat 13)) (y := s7) (hIv _ (.tail _ (.tail _ (.tail _ (.tail _ (.tail _ (.tail _ (.tail _ (.head _))))))))) rfl
  have hRf : ∀ q ∈ ([((40, .ofNat 173, []), (.ofNat 9, []), 1, .ofNat 0, [])] : List sRf), rfOk [s0, s1, s2, s3, s4, s5, s6, s7, s8] hp q := hH.1
  have h0 : hI hp 173 9 = 0 := rfI0 (hRf _ (.head _)) (sE_k _ _) (sE_k _ _) (sE_k _ _)
  have hFc : ∀ q ∈ ([(192, [(.ofNat 0, [(.ofNat 1, 0)]), (.ofNat 0, [(.ofNat 1, 1)]), (.ofNat 0, [(.ofNat 1, 2)]), (.ofNat 0, [(.ofNat 1, 3)]), (.ofNat 0, [(.ofNat 1, 4)]), (.ofNat 0, [(.ofNat 1, 5)]), (.ofNat 0, [(.ofNat 1, 6)]), (.ofNat 0, [(.ofNat 1, 7)])]), (199, [(.ofNat 0, [(.ofNat 1, 3)]), (.ofNat 1, [])]), (200, [(.ofNat 0, [(.ofNat 1, 3)]), (.ofNat 0, [(.ofNat 1, 8)])])] : List sFc), fcOk fFS [s0, s1, s2, s3, s4, s5, s6, s7, s8] hp q := hH.2
  have f0 : SHq (XT hp) (nmR hp (xnm hp)) s0 s1 s2 s3 s4 s5 s6 s7 ∧ s4 ≠ 4 := fcX (ys := [s0, s1, s2, s3, s4, s5, s6, s7]) (hFc _ (.head _)) ⟨sE_V rfl, sE_V rfl, sE_V rfl, sE_V rfl, sE_V rfl, sE_V rfl, sE_V rfl, sE_V rfl, trivial⟩
  have f1 : (1 : Int) = dp s3 + 1 := fcX (ys := [s3, 1]) (hFc _ (.tail _ (.head _))) ⟨sE_V rfl, sE_k _ _, trivial⟩
  have f2 : s8 = nr s3 := fcX (ys := [s3, s8]) (hFc _ (.tail _ (.tail _ (.head _)))) ⟨sE_V rfl, sE_V rfl, trivial⟩
  have ud : dp s3 ≤ 7 := by omega
  have ut := dp_lt (t := s3) (by omega) ud
  exact poX (.head _) rfl hR (all_nil) (all_nil) (all_cons ⟨[s6, 6, (s2 + 1), s8], ⟨sE_V rfl, sE_k _ _, sEv (y' := ((1 : Int) + ((1 : Int) * s2 + 0))) rfl (by omega), sE_V rfl, trivial⟩, (show SG (XT hp) (nmR hp (xnm hp)) s6 (6 : Int) (s2 + 1) s8 from sg_u f2 (s0_leaf f0.1 (by omega) (by omega) (by omega) (by omega) ud))⟩ (all_cons ⟨[s8, s8], ⟨sE_V rfl, sE_V rfl, trivial⟩, (show s8 = nr s8 from (by rw [f2]; exact (nr_nr (by omega) (by omega)).symm))⟩ (all_nil)))
theorem rl318 : ruOk fFS gR318 := by
  intro r hp hO hN hH
  obtain ⟨s0, s1, s2, s3, s4, s5, s6, s7, s8, rfl⟩ := len9 (show r.length = 9 from hN.1)
  have hR := hN.2.1.1
  have hIv : ∀ q ∈ ([(0, .negSucc 2147483647, .ofNat 2147483647), (1, .ofNat 0, .ofNat 0), (2, .ofNat 0, .ofNat 19), (3, .ofNat 0, .ofNat 6560), (4, .ofNat 1, .ofNat 1), (5, .negSucc 2147483647, .ofNat 2147483647), (6, .negSucc 2147483647, .ofNat 2147483647), (7, .ofNat 13, .ofNat 13), (8, .negSucc 2147483647, .ofNat 2147483647)] : sIv), ∃ x, ([s0, s1, s2, s3, s4, s5, s6, s7, s8] : List Int)[q.1]? = some x ∧ q.2.1 ≤ x ∧ x ≤ q.2.2 := hN.2.1.2
  have b1 : (0 : Int) ≤ s1 ∧ s1 ≤ (0 : Int) := ivX (q := (1, .ofNat 0, .ofNat 0)) (y := s1) (hIv _ (.tail _ (.head _))) rfl
  have b2 : (0 : Int) ≤ s2 ∧ s2 ≤ (19 : Int) := ivX (q := (2, .ofNat 0, .ofNat 19)) (y := s2) (hIv _ (.tail _ (.tail _ (.head _)))) rfl
  have b3 : (0 : Int) ≤ s3 ∧ s3 ≤ (6560 : Int) := ivX (q := (3, .ofNat 0, .ofNat 6560)) (y := s3) (hIv _ (.tail _ (.tail _ (.tail _ (.head _))))) rfl
  have b4 : (1 : Int) ≤ s4 ∧ s4 ≤ (1 : Int) := ivX (q := (4, .ofNat 1, .ofNat 1)) (y := s4) (hIv _ (.tail _ (.tail _ (.tail _ (.tail _ (.head _)))))) rfl
  have b7 : (13 : Int) ≤ s7 ∧ s7 ≤ (13 : Int) := ivX (q := (7, .ofNat 13, .ofNat 13)) (y := s7) (hIv _ (.tail _ (.tail _ (.tail _ (.tail _ (.tail _ (.tail _ (.tail _ (.head _))))))))) rfl
  have hRf : ∀ q ∈ ([((40, .ofNat 173, []), (.ofNat 9, []), 1, .ofNat 0, [])] : List sRf), rfOk [s0, s1, s2, s3, s4, s5, s6, s7, s8] hp q := hH.1
  have h0 : hI hp 173 9 = 0 := rfI0 (hRf _ (.head _)) (sE_k _ _) (sE_k _ _) (sE_k _ _)
  have hFc : ∀ q ∈ ([(192, [(.ofNat 0, [(.ofNat 1, 0)]), (.ofNat 0, [(.ofNat 1, 1)]), (.ofNat 0, [(.ofNat 1, 2)]), (.ofNat 0, [(.ofNat 1, 3)]), (.ofNat 0, [(.ofNat 1, 4)]), (.ofNat 0, [(.ofNat 1, 5)]), (.ofNat 0, [(.ofNat 1, 6)]), (.ofNat 0, [(.ofNat 1, 7)])]), (199, [(.ofNat 0, [(.ofNat 1, 3)]), (.ofNat 2, [])]), (200, [(.ofNat 0, [(.ofNat 1, 3)]), (.ofNat 0, [(.ofNat 1, 8)])])] : List sFc), fcOk fFS [s0, s1, s2, s3, s4, s5, s6, s7, s8] hp q := hH.2
  have f0 : SHq (XT hp) (nmR hp (xnm hp)) s0 s1 s2 s3 s4 s5 s6 s7 ∧ s4 ≠ 4 := fcX (ys := [s0, s1, s2, s3, s4, s5, s6, s7]) (hFc _ (.head _)) ⟨sE_V rfl, sE_V rfl, sE_V rfl, sE_V rfl, sE_V rfl, sE_V rfl, sE_V rfl, sE_V rfl, trivial⟩
  have f1 : (2 : Int) = dp s3 + 1 := fcX (ys := [s3, 2]) (hFc _ (.tail _ (.head _))) ⟨sE_V rfl, sE_k _ _, trivial⟩
  have f2 : s8 = nr s3 := fcX (ys := [s3, s8]) (hFc _ (.tail _ (.tail _ (.head _)))) ⟨sE_V rfl, sE_V rfl, trivial⟩
  have ud : dp s3 ≤ 7 := by omega
  have ut := dp_lt (t := s3) (by omega) ud
  exact poX (.head _) rfl hR (all_nil) (all_nil) (all_cons ⟨[s6, 6, (s2 + 1), s8], ⟨sE_V rfl, sE_k _ _, sEv (y' := ((1 : Int) + ((1 : Int) * s2 + 0))) rfl (by omega), sE_V rfl, trivial⟩, (show SG (XT hp) (nmR hp (xnm hp)) s6 (6 : Int) (s2 + 1) s8 from sg_u f2 (s0_leaf f0.1 (by omega) (by omega) (by omega) (by omega) ud))⟩ (all_cons ⟨[s8, s8], ⟨sE_V rfl, sE_V rfl, trivial⟩, (show s8 = nr s8 from (by rw [f2]; exact (nr_nr (by omega) (by omega)).symm))⟩ (all_nil)))
theorem rl319 : ruOk fFS gR319 := by
  intro r hp hO hN hH
  obtain ⟨s0, s1, s2, s3, s4, s5, s6, s7, s8, rfl⟩ := len9 (show r.length = 9 from hN.1)
  have hR := hN.2.1.1
  have hIv : ∀ q ∈ ([(0, .negSucc 2147483647, .ofNat 2147483647), (1, .ofNat 0, .ofNat 0), (2, .ofNat 0, .ofNat 19), (3, .ofNat 0, .ofNat 6560), (4, .ofNat 1, .ofNat 1), (5, .negSucc 2147483647, .ofNat 2147483647), (6, .negSucc 2147483647, .ofNat 2147483647), (7, .ofNat 13, .ofNat 13), (8, .negSucc 2147483647, .ofNat 2147483647)] : sIv), ∃ x, ([s0, s1, s2, s3, s4, s5, s6, s7, s8] : List Int)[q.1]? = some x ∧ q.2.1 ≤ x ∧ x ≤ q.2.2 := hN.2.1.2
  have b1 : (0 : Int) ≤ s1 ∧ s1 ≤ (0 : Int) := ivX (q := (1, .ofNat 0, .ofNat 0)) (y := s1) (hIv _ (.tail _ (.head _))) rfl
  have b2 : (0 : Int) ≤ s2 ∧ s2 ≤ (19 : Int) := ivX (q := (2, .ofNat 0, .ofNat 19)) (y := s2) (hIv _ (.tail _ (.tail _ (.head _)))) rfl
  have b3 : (0 : Int) ≤ s3 ∧ s3 ≤ (6560 : Int) := ivX (q := (3, .ofNat 0, .ofNat 6560)) (y := s3) (hIv _ (.tail _ (.tail _ (.tail _ (.head _))))) rfl
  have b4 : (1 : Int) ≤ s4 ∧ s4 ≤ (1 : Int) := ivX (q := (4, .ofNat 1, .ofNat 1)) (y := s4) (hIv _ (.tail _ (.tail _ (.tail _ (.tail _ (.head _)))))) rfl
  have b7 : (13 : Int) ≤ s7 ∧ s7 ≤ (13 : Int) := ivX (q := (7, .ofNat 13, .ofNat 13)) (y := s7) (hIv _ (.tail _ (.tail _ (.tail _ (.tail _ (.tail _ (.tail _ (.tail _ (.head _))))))))) rfl
  have hRf : ∀ q ∈ ([((40, .ofNat 173, []), (.ofNat 9, []), 1, .ofNat 0, [])] : List sRf), rfOk [s0, s1, s2, s3, s4, s5, s6, s7, s8] hp q := hH.1
  have h0 : hI hp 173 9 = 0 := rfI0 (hRf _ (.head _)) (sE_k _ _) (sE_k _ _) (sE_k _ _)
  have hFc : ∀ q ∈ ([(192, [(.ofNat 0, [(.ofNat 1, 0)]), (.ofNat 0, [(.ofNat 1, 1)]), (.ofNat 0, [(.ofNat 1, 2)]), (.ofNat 0, [(.ofNat 1, 3)]), (.ofNat 0, [(.ofNat 1, 4)]), (.ofNat 0, [(.ofNat 1, 5)]), (.ofNat 0, [(.ofNat 1, 6)]), (.ofNat 0, [(.ofNat 1, 7)])]), (199, [(.ofNat 0, [(.ofNat 1, 3)]), (.ofNat 3, [])]), (200, [(.ofNat 0, [(.ofNat 1, 3)]), (.ofNat 0, [(.ofNat 1, 8)])])] : List sFc), fcOk fFS [s0, s1, s2, s3, s4, s5, s6, s7, s8] hp q := hH.2
  have f0 : SHq (XT hp) (nmR hp (xnm hp)) s0 s1 s2 s3 s4 s5 s6 s7 ∧ s4 ≠ 4 := fcX (ys := [s0, s1, s2, s3, s4, s5, s6, s7]) (hFc _ (.head _)) ⟨sE_V rfl, sE_V rfl, sE_V rfl, sE_V rfl, sE_V rfl, sE_V rfl, sE_V rfl, sE_V rfl, trivial⟩
  have f1 : (3 : Int) = dp s3 + 1 := fcX (ys := [s3, 3]) (hFc _ (.tail _ (.head _))) ⟨sE_V rfl, sE_k _ _, trivial⟩
  have f2 : s8 = nr s3 := fcX (ys := [s3, s8]) (hFc _ (.tail _ (.tail _ (.head _)))) ⟨sE_V rfl, sE_V rfl, trivial⟩
  have ud : dp s3 ≤ 7 := by omega
  have ut := dp_lt (t := s3) (by omega) ud
  exact poX (.head _) rfl hR (all_nil) (all_nil) (all_cons ⟨[s6, 6, (s2 + 1), s8], ⟨sE_V rfl, sE_k _ _, sEv (y' := ((1 : Int) + ((1 : Int) * s2 + 0))) rfl (by omega), sE_V rfl, trivial⟩, (show SG (XT hp) (nmR hp (xnm hp)) s6 (6 : Int) (s2 + 1) s8 from sg_u f2 (s0_leaf f0.1 (by omega) (by omega) (by omega) (by omega) ud))⟩ (all_cons ⟨[s8, s8], ⟨sE_V rfl, sE_V rfl, trivial⟩, (show s8 = nr s8 from (by rw [f2]; exact (nr_nr (by omega) (by omega)).symm))⟩ (all_nil)))
theorem rl320 : ruOk fFS gR320 := by
  intro r hp hO hN hH
  obtain ⟨s0, s1, s2, s3, s4, s5, s6, s7, s8, rfl⟩ := len9 (show r.length = 9 from hN.1)
  have hR := hN.2.1.1
  have hIv : ∀ q ∈ ([(0, .negSucc 2147483647, .ofNat 2147483647), (1, .ofNat 0, .ofNat 0), (2, .ofNat 0, .ofNat 19), (3, .ofNat 0, .ofNat 6560), (4, .ofNat 1, .ofNat 1), (5, .negSucc 2147483647, .ofNat 2147483647), (6, .negSucc 2147483647, .ofNat 2147483647), (7, .ofNat 13, .ofNat 13), (8, .negSucc 2147483647, .ofNat 2147483647)] : sIv), ∃ x, ([s0, s1, s2, s3, s4, s5, s6, s7, s8] : List Int)[q.1]? = some x ∧ q.2.1 ≤ x ∧ x ≤ q.2.2 := hN.2.1.2
  have b1 : (0 : Int) ≤ s1 ∧ s1 ≤ (0 : Int) := ivX (q := (1, .ofNat 0, .ofNat 0)) (y := s1) (hIv _ (.tail _ (.head _))) rfl
  have b2 : (0 : Int) ≤ s2 ∧ s2 ≤ (19 : Int) := ivX (q := (2, .ofNat 0, .ofNat 19)) (y := s2) (hIv _ (.tail _ (.tail _ (.head _)))) rfl
  have b3 : (0 : Int) ≤ s3 ∧ s3 ≤ (6560 : Int) := ivX (q := (3, .ofNat 0, .ofNat 6560)) (y := s3) (hIv _ (.tail _ (.tail _ (.tail _ (.head _))))) rfl
  have b4 : (1 : Int) ≤ s4 ∧ s4 ≤ (1 : Int) := ivX (q := (4, .ofNat 1, .ofNat 1)) (y := s4) (hIv _ (.tail _ (.tail _ (.tail _ (.tail _ (.head _)))))) rfl
  have b7 : (13 : Int) ≤ s7 ∧ s7 ≤ (13 : Int) := ivX (q := (7, .ofNat 13, .ofNat 13)) (y := s7) (hIv _ (.tail _ (.tail _ (.tail _ (.tail _ (.tail _ (.tail _ (.tail _ (.head _))))))))) rfl
  have hRf : ∀ q ∈ ([((40, .ofNat 173, []), (.ofNat 9, []), 1, .ofNat 0, [])] : List sRf), rfOk [s0, s1, s2, s3, s4, s5, s6, s7, s8] hp q := hH.1
  have h0 : hI hp 173 9 = 0 := rfI0 (hRf _ (.head _)) (sE_k _ _) (sE_k _ _) (sE_k _ _)
  have hFc : ∀ q ∈ ([(192, [(.ofNat 0, [(.ofNat 1, 0)]), (.ofNat 0, [(.ofNat 1, 1)]), (.ofNat 0, [(.ofNat 1, 2)]), (.ofNat 0, [(.ofNat 1, 3)]), (.ofNat 0, [(.ofNat 1, 4)]), (.ofNat 0, [(.ofNat 1, 5)]), (.ofNat 0, [(.ofNat 1, 6)]), (.ofNat 0, [(.ofNat 1, 7)])]), (199, [(.ofNat 0, [(.ofNat 1, 3)]), (.ofNat 4, [])]), (200, [(.ofNat 0, [(.ofNat 1, 3)]), (.ofNat 0, [(.ofNat 1, 8)])])] : List sFc), fcOk fFS [s0, s1, s2, s3, s4, s5, s6, s7, s8] hp q := hH.2
  have f0 : SHq (XT hp) (nmR hp (xnm hp)) s0 s1 s2 s3 s4 s5 s6 s7 ∧ s4 ≠ 4 := fcX (ys := [s0, s1, s2, s3, s4, s5, s6, s7]) (hFc _ (.head _)) ⟨sE_V rfl, sE_V rfl, sE_V rfl, sE_V rfl, sE_V rfl, sE_V rfl, sE_V rfl, sE_V rfl, trivial⟩
  have f1 : (4 : Int) = dp s3 + 1 := fcX (ys := [s3, 4]) (hFc _ (.tail _ (.head _))) ⟨sE_V rfl, sE_k _ _, trivial⟩
  have f2 : s8 = nr s3 := fcX (ys := [s3, s8]) (hFc _ (.tail _ (.tail _ (.head _)))) ⟨sE_V rfl, sE_V rfl, trivial⟩
  have ud : dp s3 ≤ 7 := by omega
  have ut := dp_lt (t := s3) (by omega) ud
  exact poX (.head _) rfl hR (all_nil) (all_nil) (all_cons ⟨[s6, 6, (s2 + 1), s8], ⟨sE_V rfl, sE_k _ _, sEv (y' := ((1 : Int) + ((1 : Int) * s2 + 0))) rfl (by omega), sE_V rfl, trivial⟩, (show SG (XT hp) (nmR hp (xnm hp)) s6 (6 : Int) (s2 + 1) s8 from sg_u f2 (s0_leaf f0.1 (by omega) (by omega) (by omega) (by omega) ud))⟩ (all_cons ⟨[s8, s8], ⟨sE_V rfl, sE_V rfl, trivial⟩, (show s8 = nr s8 from (by rw [f2]; exact (nr_nr (by omega) (by omega)).symm))⟩ (all_nil)))
theorem rl321 : ruOk fFS gR321 := by
  intro r hp hO hN hH
  obtain ⟨s0, s1, s2, s3, s4, s5, s6, s7, s8, rfl⟩ := len9 (show r.length = 9 from hN.1)
  have hR := hN.2.1.1
  have hIv : ∀ q ∈ ([(0, .negSucc 2147483647, .ofNat 2147483647), (1, .ofNat 0, .ofNat 0), (2, .ofNat 0, .ofNat 19), (3, .ofNat 0, .ofNat 6560), (4, .ofNat 1, .ofNat 1), (5, .negSucc 2147483647, .ofNat 2147483647), (6, .negSucc 2147483647, .ofNat 2147483647), (7, .ofNat 13, .ofNat 13), (8, .negSucc 2147483647, .ofNat 2147483647)] : sIv), ∃ x, ([s0, s1, s2, s3, s4, s5, s6, s7, s8] : List Int)[q.1]? = some x ∧ q.2.1 ≤ x ∧ x ≤ q.2.2 := hN.2.1.2
  have b1 : (0 : Int) ≤ s1 ∧ s1 ≤ (0 : Int) := ivX (q := (1, .ofNat 0, .ofNat 0)) (y := s1) (hIv _ (.tail _ (.head _))) rfl
  have b2 : (0 : Int) ≤ s2 ∧ s2 ≤ (19 : Int) := ivX (q := (2, .ofNat 0, .ofNat 19)) (y := s2) (hIv _ (.tail _ (.tail _ (.head _)))) rfl
  have b3 : (0 : Int) ≤ s3 ∧ s3 ≤ (6560 : Int) := ivX (q := (3, .ofNat 0, .ofNat 6560)) (y := s3) (hIv _ (.tail _ (.tail _ (.tail _ (.head _))))) rfl
  have b4 : (1 : Int) ≤ s4 ∧ s4 ≤ (1 : Int) := ivX (q := (4, .ofNat 1, .ofNat 1)) (y := s4) (hIv _ (.tail _ (.tail _ (.tail _ (.tail _ (.head _)))))) rfl
  have b7 : (13 : Int) ≤ s7 ∧ s7 ≤ (13 : Int) := ivX (q := (7, .ofNat 13, .ofNat 13)) (y := s7) (hIv _ (.tail _ (.tail _ (.tail _ (.tail _ (.tail _ (.tail _ (.tail _ (.head _))))))))) rfl
  have hRf : ∀ q ∈ ([((40, .ofNat 173, []), (.ofNat 9, []), 1, .ofNat 0, [])] : List sRf), rfOk [s0, s1, s2, s3, s4, s5, s6, s7, s8] hp q := hH.1
  have h0 : hI hp 173 9 = 0 := rfI0 (hRf _ (.head _)) (sE_k _ _) (sE_k _ _) (sE_k _ _)
  have hFc : ∀ q ∈ ([(192, [(.ofNat 0, [(.ofNat 1, 0)]), (.ofNat 0, [(.ofNat 1, 1)]), (.ofNat 0, [(.ofNat 1, 2)]), (.ofNat 0, [(.ofNat 1, 3)]), (.ofNat 0, [(.ofNat 1, 4)]), (.ofNat 0, [(.ofNat 1, 5)]), (.ofNat 0, [(.ofNat 1, 6)]), (.ofNat 0, [(.ofNat 1, 7)])]), (199, [(.ofNat 0, [(.ofNat 1, 3)]), (.ofNat 5, [])]), (200, [(.ofNat 0, [(.ofNat 1, 3)]), (.ofNat 0, [(.ofNat 1, 8)])])] : List sFc), fcOk fFS [s0, s1, s2, s3, s4, s5, s6, s7, s8] hp q := hH.2
  have f0 : SHq (XT hp) (nmR hp (xnm hp)) s0 s1 s2 s3 s4 s5 s6 s7 ∧ s4 ≠ 4 := fcX (ys := [s0, s1, s2, s3, s4, s5, s6, s7]) (hFc _ (.head _)) ⟨sE_V rfl, sE_V rfl, sE_V rfl, sE_V rfl, sE_V rfl, sE_V rfl, sE_V rfl, sE_V rfl, trivial⟩
  have f1 : (5 : Int) = dp s3 + 1 := fcX (ys := [s3, 5]) (hFc _ (.tail _ (.head _))) ⟨sE_V rfl, sE_k _ _, trivial⟩
  have f2 : s8 = nr s3 := fcX (ys := [s3, s8]) (hFc _ (.tail _ (.tail _ (.head _)))) ⟨sE_V rfl, sE_V rfl, trivial⟩
  have ud : dp s3 ≤ 7 := by omega
  have ut := dp_lt (t := s3) (by omega) ud
  exact poX (.head _) rfl hR (all_nil) (all_nil) (all_cons ⟨[s6, 6, (s2 + 1), s8], ⟨sE_V rfl, sE_k _ _, sEv (y' := ((1 : Int) + ((1 : Int) * s2 + 0))) rfl (by omega), sE_V rfl, trivial⟩, (show SG (XT hp) (nmR hp (xnm hp)) s6 (6 : Int) (s2 + 1) s8 from sg_u f2 (s0_leaf f0.1 (by omega) (by omega) (by omega) (by omega) ud))⟩ (all_cons ⟨[s8, s8], ⟨sE_V rfl, sE_V rfl, trivial⟩, (show s8 = nr s8 from (by rw [f2]; exact (nr_nr (by omega) (by omega)).symm))⟩ (all_nil)))
theorem rl322 : ruOk fFS gR322 := by
  intro r hp hO hN hH
  obtain ⟨s0, s1, s2, s3, s4, s5, s6, s7, s8, rfl⟩ := len9 (show r.length = 9 from hN.1)
  have hR := hN.2.1.1
  have hIv : ∀ q ∈ ([(0, .negSucc 2147483647, .ofNat 2147483647), (1, .ofNat 0, .ofNat 0), (2, .ofNat 0, .ofNat 19), (3, .ofNat 0, .ofNat 6560), (4, .ofNat 1, .ofNat 1), (5, .negSucc 2147483647, .ofNat 2147483647), (6, .negSucc 2147483647, .ofNat 2147483647), (7, .ofNat 13, .ofNat 13), (8, .negSucc 2147483647, .ofNat 2147483647)] : sIv), ∃ x, ([s0, s1, s2, s3, s4, s5, s6, s7, s8] : List Int)[q.1]? = some x ∧ q.2.1 ≤ x ∧ x ≤ q.2.2 := hN.2.1.2
  have b1 : (0 : Int) ≤ s1 ∧ s1 ≤ (0 : Int) := ivX (q := (1, .ofNat 0, .ofNat 0)) (y := s1) (hIv _ (.tail _ (.head _))) rfl
  have b2 : (0 : Int) ≤ s2 ∧ s2 ≤ (19 : Int) := ivX (q := (2, .ofNat 0, .ofNat 19)) (y := s2) (hIv _ (.tail _ (.tail _ (.head _)))) rfl
  have b3 : (0 : Int) ≤ s3 ∧ s3 ≤ (6560 : Int) := ivX (q := (3, .ofNat 0, .ofNat 6560)) (y := s3) (hIv _ (.tail _ (.tail _ (.tail _ (.head _))))) rfl
  have b4 : (1 : Int) ≤ s4 ∧ s4 ≤ (1 : Int) := ivX (q := (4, .ofNat 1, .ofNat 1)) (y := s4) (hIv _ (.tail _ (.tail _ (.tail _ (.tail _ (.head _)))))) rfl
  have b7 : (13 : Int) ≤ s7 ∧ s7 ≤ (13 : Int) := ivX (q := (7, .ofNat 13, .ofNat 13)) (y := s7) (hIv _ (.tail _ (.tail _ (.tail _ (.tail _ (.tail _ (.tail _ (.tail _ (.head _))))))))) rfl
  have hRf : ∀ q ∈ ([((40, .ofNat 173, []), (.ofNat 9, []), 1, .ofNat 0, [])] : List sRf), rfOk [s0, s1, s2, s3, s4, s5, s6, s7, s8] hp q := hH.1
  have h0 : hI hp 173 9 = 0 := rfI0 (hRf _ (.head _)) (sE_k _ _) (sE_k _ _) (sE_k _ _)
  have hFc : ∀ q ∈ ([(192, [(.ofNat 0, [(.ofNat 1, 0)]), (.ofNat 0, [(.ofNat 1, 1)]), (.ofNat 0, [(.ofNat 1, 2)]), (.ofNat 0, [(.ofNat 1, 3)]), (.ofNat 0, [(.ofNat 1, 4)]), (.ofNat 0, [(.ofNat 1, 5)]), (.ofNat 0, [(.ofNat 1, 6)]), (.ofNat 0, [(.ofNat 1, 7)])]), (199, [(.ofNat 0, [(.ofNat 1, 3)]), (.ofNat 6, [])]), (200, [(.ofNat 0, [(.ofNat 1, 3)]), (.ofNat 0, [(.ofNat 1, 8)])])] : List sFc), fcOk fFS [s0, s1, s2, s3, s4, s5, s6, s7, s8] hp q := hH.2
  have f0 : SHq (XT hp) (nmR hp (xnm hp)) s0 s1 s2 s3 s4 s5 s6 s7 ∧ s4 ≠ 4 := fcX (ys := [s0, s1, s2, s3, s4, s5, s6, s7]) (hFc _ (.head _)) ⟨sE_V rfl, sE_V rfl, sE_V rfl, sE_V rfl, sE_V rfl, sE_V rfl, sE_V rfl, sE_V rfl, trivial⟩
  have f1 : (6 : Int) = dp s3 + 1 := fcX (ys := [s3, 6]) (hFc _ (.tail _ (.head _))) ⟨sE_V rfl, sE_k _ _, trivial⟩
  have f2 : s8 = nr s3 := fcX (ys := [s3, s8]) (hFc _ (.tail _ (.tail _ (.head _)))) ⟨sE_V rfl, sE_V rfl, trivial⟩
  have ud : dp s3 ≤ 7 := by omega
  have ut := dp_lt (t := s3) (by omega) ud
  exact poX (.head _) rfl hR (all_nil) (all_nil) (all_cons ⟨[s6, 6, (s2 + 1), s8], ⟨sE_V rfl, sE_k _ _, sEv (y' := ((1 : Int) + ((1 : Int) * s2 + 0))) rfl (by omega), sE_V rfl, trivial⟩, (show SG (XT hp) (nmR hp (xnm hp)) s6 (6 : Int) (s2 + 1) s8 from sg_u f2 (s0_leaf f0.1 (by omega) (by omega) (by omega) (by omega) ud))⟩ (all_cons ⟨[s8, s8], ⟨sE_V rfl, sE_V rfl, trivial⟩, (show s8 = nr s8 from (by rw [f2]; exact (nr_nr (by omega) (by omega)).symm))⟩ (all_nil)))
theorem rl323 : ruOk fFS gR323 := by
  intro r hp hO hN hH
  obtain ⟨s0, s1, s2, s3, s4, s5, s6, s7, s8, rfl⟩ := len9 (show r.length = 9 from hN.1)
  have hR := hN.2.1.1
  have hIv : ∀ q ∈ ([(0, .negSucc 2147483647, .ofNat 2147483647), (1, .ofNat 0, .ofNat 0), (2, .ofNat 0, .ofNat 19), (3, .ofNat 0, .ofNat 6560), (4, .ofNat 1, .ofNat 1), (5, .negSucc 2147483647, .ofNat 2147483647), (6, .negSucc 2147483647, .ofNat 2147483647), (7, .ofNat 13, .ofNat 13), (8, .negSucc 2147483647, .ofNat 2147483647)] : sIv), ∃ x, ([s0, s1, s2, s3, s4, s5, s6, s7, s8] : List Int)[q.1]? = some x ∧ q.2.1 ≤ x ∧ x ≤ q.2.2 := hN.2.1.2
  have b1 : (0 : Int) ≤ s1 ∧ s1 ≤ (0 : Int) := ivX (q := (1, .ofNat 0, .ofNat 0)) (y := s1) (hIv _ (.tail _ (.head _))) rfl
  have b2 : (0 : Int) ≤ s2 ∧ s2 ≤ (19 : Int) := ivX (q := (2, .ofNat 0, .ofNat 19)) (y := s2) (hIv _ (.tail _ (.tail _ (.head _)))) rfl
  have b3 : (0 : Int) ≤ s3 ∧ s3 ≤ (6560 : Int) := ivX (q := (3, .ofNat 0, .ofNat 6560)) (y := s3) (hIv _ (.tail _ (.tail _ (.tail _ (.head _))))) rfl
  have b4 : (1 : Int) ≤ s4 ∧ s4 ≤ (1 : Int) := ivX (q := (4, .ofNat 1, .ofNat 1)) (y := s4) (hIv _ (.tail _ (.tail _ (.tail _ (.tail _ (.head _)))))) rfl
  have b7 : (13 : Int) ≤ s7 ∧ s7 ≤ (13 : Int) := ivX (q := (7, .ofNat 13, .ofNat 13)) (y := s7) (hIv _ (.tail _ (.tail _ (.tail _ (.tail _ (.tail _ (.tail _ (.tail _ (.head _))))))))) rfl
  have hRf : ∀ q ∈ ([((40, .ofNat 173, []), (.ofNat 9, []), 1, .ofNat 0, [])] : List sRf), rfOk [s0, s1, s2, s3, s4, s5, s6, s7, s8] hp q := hH.1
  have h0 : hI hp 173 9 = 0 := rfI0 (hRf _ (.head _)) (sE_k _ _) (sE_k _ _) (sE_k _ _)
  have hFc : ∀ q ∈ ([(192, [(.ofNat 0, [(.ofNat 1, 0)]), (.ofNat 0, [(.ofNat 1, 1)]), (.ofNat 0, [(.ofNat 1, 2)]), (.ofNat 0, [(.ofNat 1, 3)]), (.ofNat 0, [(.ofNat 1, 4)]), (.ofNat 0, [(.ofNat 1, 5)]), (.ofNat 0, [(.ofNat 1, 6)]), (.ofNat 0, [(.ofNat 1, 7)])]), (199, [(.ofNat 0, [(.ofNat 1, 3)]), (.ofNat 7, [])]), (200, [(.ofNat 0, [(.ofNat 1, 3)]), (.ofNat 0, [(.ofNat 1, 8)])])] : List sFc), fcOk fFS [s0, s1, s2, s3, s4, s5, s6, s7, s8] hp q := hH.2
  have f0 : SHq (XT hp) (nmR hp (xnm hp)) s0 s1 s2 s3 s4 s5 s6 s7 ∧ s4 ≠ 4 := fcX (ys := [s0, s1, s2, s3, s4, s5, s6, s7]) (hFc _ (.head _)) ⟨sE_V rfl, sE_V rfl, sE_V rfl, sE_V rfl, sE_V rfl, sE_V rfl, sE_V rfl, sE_V rfl, trivial⟩
  have f1 : (7 : Int) = dp s3 + 1 := fcX (ys := [s3, 7]) (hFc _ (.tail _ (.head _))) ⟨sE_V rfl, sE_k _ _, trivial⟩
  have f2 : s8 = nr s3 := fcX (ys := [s3, s8]) (hFc _ (.tail _ (.tail _ (.head _)))) ⟨sE_V rfl, sE_V rfl, trivial⟩
  have ud : dp s3 ≤ 7 := by omega
  have ut := dp_lt (t := s3) (by omega) ud
  exact poX (.head _) rfl hR (all_nil) (all_nil) (all_cons ⟨[s6, 6, (s2 + 1), s8], ⟨sE_V rfl, sE_k _ _, sEv (y' := ((1 : Int) + ((1 : Int) * s2 + 0))) rfl (by omega), sE_V rfl, trivial⟩, (show SG (XT hp) (nmR hp (xnm hp)) s6 (6 : Int) (s2 + 1) s8 from sg_u f2 (s0_leaf f0.1 (by omega) (by omega) (by omega) (by omega) ud))⟩ (all_cons ⟨[s8, s8], ⟨sE_V rfl, sE_V rfl, trivial⟩, (show s8 = nr s8 from (by rw [f2]; exact (nr_nr (by omega) (by omega)).symm))⟩ (all_nil)))
theorem rl324 : ruOk fFS gR324 := by
  intro r hp hO hN hH
  obtain ⟨s0, s1, s2, s3, s4, s5, s6, s7, s8, rfl⟩ := len9 (show r.length = 9 from hN.1)
  have hR := hN.2.1.1
  have hIv : ∀ q ∈ ([(0, .negSucc 2147483647, .ofNat 2147483647), (1, .ofNat 0, .ofNat 0), (2, .ofNat 0, .ofNat 19), (3, .ofNat 0, .ofNat 6560), (4, .ofNat 1, .ofNat 1), (5, .negSucc 2147483647, .ofNat 2147483647), (6, .negSucc 2147483647, .ofNat 2147483647), (7, .ofNat 13, .ofNat 13), (8, .negSucc 2147483647, .ofNat 2147483647)] : sIv), ∃ x, ([s0, s1, s2, s3, s4, s5, s6, s7, s8] : List Int)[q.1]? = some x ∧ q.2.1 ≤ x ∧ x ≤ q.2.2 := hN.2.1.2
  have b1 : (0 : Int) ≤ s1 ∧ s1 ≤ (0 : Int) := ivX (q := (1, .ofNat 0, .ofNat 0)) (y := s1) (hIv _ (.tail _ (.head _))) rfl
  have b2 : (0 : Int) ≤ s2 ∧ s2 ≤ (19 : Int) := ivX (q := (2, .ofNat 0, .ofNat 19)) (y := s2) (hIv _ (.tail _ (.tail _ (.head _)))) rfl
  have b3 : (0 : Int) ≤ s3 ∧ s3 ≤ (6560 : Int) := ivX (q := (3, .ofNat 0, .ofNat 6560)) (y := s3) (hIv _ (.tail _ (.tail _ (.tail _ (.head _))))) rfl
  have b4 : (1 : Int) ≤ s4 ∧ s4 ≤ (1 : Int) := ivX (q := (4, .ofNat 1, .ofNat 1)) (y := s4) (hIv _ (.tail _ (.tail _ (.tail _ (.tail _ (.head _)))))) rfl
  have b7 : (13 : Int) ≤ s7 ∧ s7 ≤ (13 : Int) := ivX (q := (7, .ofNat 13, .ofNat 13)) (y := s7) (hIv _ (.tail _ (.tail _ (.tail _ (.tail _ (.tail _ (.tail _ (.tail _ (.head _))))))))) rfl
  have hRf : ∀ q ∈ ([((40, .ofNat 173, []), (.ofNat 9, []), 1, .ofNat 0, [])] : List sRf), rfOk [s0, s1, s2, s3, s4, s5, s6, s7, s8] hp q := hH.1
  have h0 : hI hp 173 9 = 0 := rfI0 (hRf _ (.head _)) (sE_k _ _) (sE_k _ _) (sE_k _ _)
  have hFc : ∀ q ∈ ([(192, [(.ofNat 0, [(.ofNat 1, 0)]), (.ofNat 0, [(.ofNat 1, 1)]), (.ofNat 0, [(.ofNat 1, 2)]), (.ofNat 0, [(.ofNat 1, 3)]), (.ofNat 0, [(.ofNat 1, 4)]), (.ofNat 0, [(.ofNat 1, 5)]), (.ofNat 0, [(.ofNat 1, 6)]), (.ofNat 0, [(.ofNat 1, 7)])]), (199, [(.ofNat 0, [(.ofNat 1, 3)]), (.ofNat 8, [])]), (200, [(.ofNat 0, [(.ofNat 1, 3)]), (.ofNat 0, [(.ofNat 1, 8)])])] : List sFc), fcOk fFS [s0, s1, s2, s3, s4, s5, s6, s7, s8] hp q := hH.2
  have f0 : SHq (XT hp) (nmR hp (xnm hp)) s0 s1 s2 s3 s4 s5 s6 s7 ∧ s4 ≠ 4 := fcX (ys := [s0, s1, s2, s3, s4, s5, s6, s7]) (hFc _ (.head _)) ⟨sE_V rfl, sE_V rfl, sE_V rfl, sE_V rfl, sE_V rfl, sE_V rfl, sE_V rfl, sE_V rfl, trivial⟩
  have f1 : (8 : Int) = dp s3 + 1 := fcX (ys := [s3, 8]) (hFc _ (.tail _ (.head _))) ⟨sE_V rfl, sE_k _ _, trivial⟩
  have f2 : s8 = nr s3 := fcX (ys := [s3, s8]) (hFc _ (.tail _ (.tail _ (.head _)))) ⟨sE_V rfl, sE_V rfl, trivial⟩
  have ud : dp s3 ≤ 7 := by omega
  have ut := dp_lt (t := s3) (by omega) ud
  exact poX (.head _) rfl hR (all_nil) (all_nil) (all_cons ⟨[s6, 6, (s2 + 1), s8], ⟨sE_V rfl, sE_k _ _, sEv (y' := ((1 : Int) + ((1 : Int) * s2 + 0))) rfl (by omega), sE_V rfl, trivial⟩, (show SG (XT hp) (nmR hp (xnm hp)) s6 (6 : Int) (s2 + 1) s8 from sg_u f2 (s0_leaf f0.1 (by omega) (by omega) (by omega) (by omega) ud))⟩ (all_cons ⟨[s8, s8], ⟨sE_V rfl, sE_V rfl, trivial⟩, (show s8 = nr s8 from (by rw [f2]; exact (nr_nr (by omega) (by omega)).symm))⟩ (all_nil)))
theorem rl325 : ruOk fFS gR325 := by
  intro r hp hO hN hH
  obtain ⟨s0, s1, s2, s3, s4, s5, s6, s7, s8, rfl⟩ := len9 (show r.length = 9 from hN.1)
  have hR := hN.2.1.1
  have hIv : ∀ q ∈ ([(0, .negSucc 2147483647, .ofNat 2147483647), (1, .ofNat 0, .ofNat 0), (2, .ofNat 0, .ofNat 19), (3, .ofNat 0, .ofNat 6560), (4, .ofNat 1, .ofNat 1), (5, .negSucc 2147483647, .ofNat 2147483647), (6, .negSucc 2147483647, .ofNat 2147483647), (7, .ofNat 22, .ofNat 22), (8, .negSucc 2147483647, .ofNat 2147483647)] : sIv), ∃ x, ([s0, s1, s2, s3, s4, s5, s6, s7, s8] : List Int)[q.1]? = some x ∧ q.2.1 ≤ x ∧ x ≤ q.2.2 := hN.2.1.2
  have b1 : (0 : Int) ≤ s1 ∧ s1 ≤ (0 : Int) := ivX (q := (1, .ofNat 0, .ofNat 0)) (y := s1) (hIv _ (.tail _ (.head _))) rfl
  have b2 : (0 : Int) ≤ s2 ∧ s2 ≤ (19 : Int) := ivX (q := (2, .ofNat 0, .ofNat 19)) (y := s2) (hIv _ (.tail _ (.tail _ (.head _)))) rfl
  have b3 : (0 : Int) ≤ s3 ∧ s3 ≤ (6560 : Int) := ivX (q := (3, .ofNat 0, .ofNat 6560)) (y := s3) (hIv _ (.tail _ (.tail _ (.tail _ (.head _))))) rfl
  have b4 : (1 : Int) ≤ s4 ∧ s4 ≤ (1 : Int) := ivX (q := (4, .ofNat 1, .ofNat 1)) (y := s4) (hIv _ (.tail _ (.tail _ (.tail _ (.tail _ (.head _)))))) rfl
  have b7 : (22 : Int) ≤ s7 ∧ s7 ≤ (22 : Int) := ivX (q := (7, .ofNat 22, .ofNat 22)) (y := s7) (hIv _ (.tail _ (.tail _ (.tail _ (.tail _ (.tail _ (.tail _ (.tail _ (.head _))))))))) rfl
  have hRf : ∀ q ∈ ([((40, .ofNat 173, []), (.ofNat 9, []), 1, .ofNat 0, [])] : List sRf), rfOk [s0, s1, s2, s3, s4, s5, s6, s7, s8] hp q := hH.1
  have h0 : hI hp 173 9 = 0 := rfI0 (hRf _ (.head _)) (sE_k _ _) (sE_k _ _) (sE_k _ _)
  have hFc : ∀ q ∈ ([(192, [(.ofNat 0, [(.ofNat 1, 0)]), (.ofNat 0, [(.ofNat 1, 1)]), (.ofNat 0, [(.ofNat 1, 2)]), (.ofNat 0, [(.ofNat 1, 3)]), (.ofNat 0, [(.ofNat 1, 4)]), (.ofNat 0, [(.ofNat 1, 5)]), (.ofNat 0, [(.ofNat 1, 6)]), (.ofNat 0, [(.ofNat 1, 7)])]), (199, [(.ofNat 0, [(.ofNat 1, 3)]), (.ofNat 1, [])]), (200, [(.ofNat 0, [(.ofNat 1, 3)]), (.ofNat 0, [(.ofNat 1, 8)])])] : List sFc), fcOk fFS [s0, s1, s2, s3, s4, s5, s6, s7, s8] hp q := hH.2
  have f0 : SHq (XT hp) (nmR hp (xnm hp)) s0 s1 s2 s3 s4 s5 s6 s7 ∧ s4 ≠ 4 := fcX (ys := [s0, s1, s2, s3, s4, s5, s6, s7]) (hFc _ (.head _)) ⟨sE_V rfl, sE_V rfl, sE_V rfl, sE_V rfl, sE_V rfl, sE_V rfl, sE_V rfl, sE_V rfl, trivial⟩
  have f1 : (1 : Int) = dp s3 + 1 := fcX (ys := [s3, 1]) (hFc _ (.tail _ (.head _))) ⟨sE_V rfl, sE_k _ _, trivial⟩
  have f2 : s8 = nr s3 := fcX (ys := [s3, s8]) (hFc _ (.tail _ (.tail _ (.head _)))) ⟨sE_V rfl, sE_V rfl, trivial⟩
  have ud : dp s3 ≤ 7 := by omega
  have ut := dp_lt (t := s3) (by omega) ud
  exact poX (.head _) rfl hR (all_nil) (all_nil) (all_cons ⟨[s6, 6, (s2 + 1), s8], ⟨sE_V rfl, sE_k _ _, sEv (y' := ((1 : Int) + ((1 : Int) * s2 + 0))) rfl (by omega), sE_V rfl, trivial⟩, (show SG (XT hp) (nmR hp (xnm hp)) s6 (6 : Int) (s2 + 1) s8 from sg_u f2 (s0_leaf f0.1 (by omega) (by omega) (by omega) (by omega) ud))⟩ (all_cons ⟨[s8, s8], ⟨sE_V rfl, sE_V rfl, trivial⟩, (show s8 = nr s8 from (by rw [f2]; exact (nr_nr (by omega) (by omega)).symm))⟩ (all_nil)))
theorem rl326 : ruOk fFS gR326 := by
  intro r hp hO hN hH
  obtain ⟨s0, s1, s2, s3, s4, s5, s6, s7, s8, rfl⟩ := len9 (show r.length = 9 from hN.1)
  have hR := hN.2.1.1
  have hIv : ∀ q ∈ ([(0, .negSucc 2147483647, .ofNat 2147483647), (1, .ofNat 0, .ofNat 0), (2, .ofNat 0, .ofNat 19), (3, .ofNat 0, .ofNat 6560), (4, .ofNat 1, .ofNat 1), (5, .negSucc 2147483647, .ofNat 2147483647), (6, .negSucc 2147483647, .ofNat 2147483647), (7, .ofNat 22, .ofNat 22), (8, .negSucc 2147483647, .ofNat 2147483647)] : sIv), ∃ x, ([s0, s1, s2, s3, s4, s5, s6, s7, s8] : List Int)[q.1]? = some x ∧ q.2.1 ≤ x ∧ x ≤ q.2.2 := hN.2.1.2
  have b1 : (0 : Int) ≤ s1 ∧ s1 ≤ (0 : Int) := ivX (q := (1, .ofNat 0, .ofNat 0)) (y := s1) (hIv _ (.tail _ (.head _))) rfl
  have b2 : (0 : Int) ≤ s2 ∧ s2 ≤ (19 : Int) := ivX (q := (2, .ofNat 0, .ofNat 19)) (y := s2) (hIv _ (.tail _ (.tail _ (.head _)))) rfl
  have b3 : (0 : Int) ≤ s3 ∧ s3 ≤ (6560 : Int) := ivX (q := (3, .ofNat 0, .ofNat 6560)) (y := s3) (hIv _ (.tail _ (.tail _ (.tail _ (.head _))))) rfl
  have b4 : (1 : Int) ≤ s4 ∧ s4 ≤ (1 : Int) := ivX (q := (4, .ofNat 1, .ofNat 1)) (y := s4) (hIv _ (.tail _ (.tail _ (.tail _ (.tail _ (.head _)))))) rfl
  have b7 : (22 : Int) ≤ s7 ∧ s7 ≤ (22 : Int) := ivX (q := (7, .ofNat 22, .ofNat 22)) (y := s7) (hIv _ (.tail _ (.tail _ (.tail _ (.tail _ (.tail _ (.tail _ (.tail _ (.head _))))))))) rfl
  have hRf : ∀ q ∈ ([((40, .ofNat 173, []), (.ofNat 9, []), 1, .ofNat 0, [])] : List sRf), rfOk [s0, s1, s2, s3, s4, s5, s6, s7, s8] hp q := hH.1
  have h0 : hI hp 173 9 = 0 := rfI0 (hRf _ (.head _)) (sE_k _ _) (sE_k _ _) (sE_k _ _)
  have hFc : ∀ q ∈ ([(192, [(.ofNat 0, [(.ofNat 1, 0)]), (.ofNat 0, [(.ofNat 1, 1)]), (.ofNat 0, [(.ofNat 1, 2)]), (.ofNat 0, [(.ofNat 1, 3)]), (.ofNat 0, [(.ofNat 1, 4)]), (.ofNat 0, [(.ofNat 1, 5)]), (.ofNat 0, [(.ofNat 1, 6)]), (.ofNat 0, [(.ofNat 1, 7)])]), (199, [(.ofNat 0, [(.ofNat 1, 3)]), (.ofNat 2, [])]), (200, [(.ofNat 0, [(.ofNat 1, 3)]), (.ofNat 0, [(.ofNat 1, 8)])])] : List sFc), fcOk fFS [s0, s1, s2, s3, s4, s5, s6, s7, s8] hp q := hH.2
  have f0 : SHq (XT hp) (nmR hp (xnm hp)) s0 s1 s2 s3 s4 s5 s6 s7 ∧ s4 ≠ 4 := fcX (ys := [s0, s1, s2, s3, s4, s5, s6, s7]) (hFc _ (.head _)) ⟨sE_V rfl, sE_V rfl, sE_V rfl, sE_V rfl, sE_V rfl, sE_V rfl, sE_V rfl, sE_V rfl, trivial⟩
  have f1 : (2 : Int) = dp s3 + 1 := fcX (ys := [s3, 2]) (hFc _ (.tail _ (.head _))) ⟨sE_V rfl, sE_k _ _, trivial⟩
  have f2 : s8 = nr s3 := fcX (ys := [s3, s8]) (hFc _ (.tail _ (.tail _ (.head _)))) ⟨sE_V rfl, sE_V rfl, trivial⟩
  have ud : dp s3 ≤ 7 := by omega
  have ut := dp_lt (t := s3) (by omega) ud
  exact poX (.head _) rfl hR (all_nil) (all_nil) (all_cons ⟨[s6, 6, (s2 + 1), s8], ⟨sE_V rfl, sE_k _ _, sEv (y' := ((1 : Int) + ((1 : Int) * s2 + 0))) rfl (by omega), sE_V rfl, trivial⟩, (show SG (XT hp) (nmR hp (xnm hp)) s6 (6 : Int) (s2 + 1) s8 from sg_u f2 (s0_leaf f0.1 (by omega) (by omega) (by omega) (by omega) ud))⟩ (all_cons ⟨[s8, s8], ⟨sE_V rfl, sE_V rfl, trivial⟩, (show s8 = nr s8 from (by rw [f2]; exact (nr_nr (by omega) (by omega)).symm))⟩ (all_nil)))
theorem rl327 : ruOk fFS gR327 := by
  intro r hp hO hN hH
  obtain ⟨s0, s1, s2, s3, s4, s5, s6, s7, s8, rfl⟩ := len9 (show r.length = 9 from hN.1)
  have hR := hN.2.1.1
  have hIv : ∀ q ∈ ([(0, .negSucc 2147483647, .ofNat 2147483647), (1, .ofNat 0, .ofNat 0), (2, .ofNat 0, .ofNat 19), (3, .ofNat 0, .ofNat 6560), (4, .ofNat 1, .ofNat 1), (5, .negSucc 2147483647, .ofNat 2147483647), (6, .negSucc 2147483647, .ofNat 2147483647), (7, .ofNat 22, .ofNat 22), (8, .negSucc 2147483647, .ofNat 2147483647)] : sIv), ∃ x, ([s0, s1, s2, s3, s4, s5, s6, s7, s8] : List Int)[q.1]? = some x ∧ q.2.1 ≤ x ∧ x ≤ q.2.2 := hN.2.1.2
  have b1 : (0 : Int) ≤ s1 ∧ s1 ≤ (0 : Int) := ivX (q := (1, .ofNat 0, .ofNat 0)) (y := s1) (hIv _ (.tail _ (.head _))) rfl
  have b2 : (0 : Int) ≤ s2 ∧ s2 ≤ (19 : Int) := ivX (q := (2, .ofNat 0, .ofNat 19)) (y := s2) (hIv _ (.tail _ (.tail _ (.head _)))) rfl
  have b3 : (0 : Int) ≤ s3 ∧ s3 ≤ (6560 : Int) := ivX (q := (3, .ofNat 0, .ofNat 6560)) (y := s3) (hIv _ (.tail _ (.tail _ (.tail _ (.head _))))) rfl
  have b4 : (1 : Int) ≤ s4 ∧ s4 ≤ (1 : Int) := ivX (q := (4, .ofNat 1, .ofNat 1)) (y := s4) (hIv _ (.tail _ (.tail _ (.tail _ (.tail _ (.head _)))))) rfl
  have b7 : (22 : Int) ≤ s7 ∧ s7 ≤ (22 : Int) := ivX (q := (7, .ofNat 22, .ofNat 22)) (y := s7) (hIv _ (.tail _ (.tail _ (.tail _ (.tail _ (.tail _ (.tail _ (.tail _ (.head _))))))))) rfl
  have hRf : ∀ q ∈ ([((40, .ofNat 173, []), (.ofNat 9, []), 1, .ofNat 0, [])] : List sRf), rfOk [s0, s1, s2, s3, s4, s5, s6, s7, s8] hp q := hH.1
  have h0 : hI hp 173 9 = 0 := rfI0 (hRf _ (.head _)) (sE_k _ _) (sE_k _ _) (sE_k _ _)
  have hFc : ∀ q ∈ ([(192, [(.ofNat 0, [(.ofNat 1, 0)]), (.ofNat 0, [(.ofNat 1, 1)]), (.ofNat 0, [(.ofNat 1, 2)]), (.ofNat 0, [(.ofNat 1, 3)]), (.ofNat 0, [(.ofNat 1, 4)]), (.ofNat 0, [(.ofNat 1, 5)]), (.ofNat 0, [(.ofNat 1, 6)]), (.ofNat 0, [(.ofNat 1, 7)])]), (199, [(.ofNat 0, [(.ofNat 1, 3)]), (.ofNat 3, [])]), (200, [(.ofNat 0, [(.ofNat 1, 3)]), (.ofNat 0, [(.ofNat 1, 8)])])] : List sFc), fcOk fFS [s0, s1, s2, s3, s4, s5, s6, s7, s8] hp q := hH.2
  have f0 : SHq (XT hp) (nmR hp (xnm hp)) s0 s1 s2 s3 s4 s5 s6 s7 ∧ s4 ≠ 4 := fcX (ys := [s0, s1, s2, s3, s4, s5, s6, s7]) (hFc _ (.head _)) ⟨sE_V rfl, sE_V rfl, sE_V rfl, sE_V rfl, sE_V rfl, sE_V rfl, sE_V rfl, sE_V rfl, trivial⟩
  have f1 : (3 : Int) = dp s3 + 1 := fcX (ys := [s3, 3]) (hFc _ (.tail _ (.head _))) ⟨sE_V rfl, sE_k _ _, trivial⟩
  have f2 : s8 = nr s3 := fcX (ys := [s3, s8]) (hFc _ (.tail _ (.tail _ (.head _)))) ⟨sE_V rfl, sE_V rfl, trivial⟩
  have ud : dp s3 ≤ 7 := by omega
  have ut := dp_lt (t := s3) (by omega) ud
  exact poX (.head _) rfl hR (all_nil) (all_nil) (all_cons ⟨[s6, 6, (s2 + 1), s8], ⟨sE_V rfl, sE_k _ _, sEv (y' := ((1 : Int) + ((1 : Int) * s2 + 0))) rfl (by omega), sE_V rfl, trivial⟩, (show SG (XT hp) (nmR hp (xnm hp)) s6 (6 : Int) (s2 + 1) s8 from sg_u f2 (s0_leaf f0.1 (by omega) (by omega) (by omega) (by omega) ud))⟩ (all_cons ⟨[s8, s8], ⟨sE_V rfl, sE_V rfl, trivial⟩, (show s8 = nr s8 from (by rw [f2]; exact (nr_nr (by omega) (by omega)).symm))⟩ (all_nil)))
theorem rl328 : ruOk fFS gR328 := by
  intro r hp hO hN hH
  obtain ⟨s0, s1, s2, s3, s4, s5, s6, s7, s8, rfl⟩ := len9 (show r.length = 9 from hN.1)
  have hR := hN.2.1.1
  have hIv : ∀ q ∈ ([(0, .negSucc 2147483647, .ofNat 2147483647), (1, .ofNat 0, .ofNat 0), (2, .ofNat 0, .ofNat 19), (3, .ofNat 0, .ofNat 6560), (4, .ofNat 1, .ofNat 1), (5, .negSucc 2147483647, .ofNat 2147483647), (6, .negSucc 2147483647, .ofNat 2147483647), (7, .ofNat 22, .ofNat 22), (8, .negSucc 2147483647, .ofNat 2147483647)] : sIv), ∃ x, ([s0, s1, s2, s3, s4, s5, s6, s7, s8] : List Int)[q.1]? = some x ∧ q.2.1 ≤ x ∧ x ≤ q.2.2 := hN.2.1.2
  have b1 : (0 : Int) ≤ s1 ∧ s1 ≤ (0 : Int) := ivX (q := (1, .ofNat 0, .ofNat 0)) (y := s1) (hIv _ (.tail _ (.head _))) rfl
  have b2 : (0 : Int) ≤ s2 ∧ s2 ≤ (19 : Int) := ivX (q := (2, .ofNat 0, .ofNat 19)) (y := s2) (hIv _ (.tail _ (.tail _ (.head _)))) rfl
  have b3 : (0 : Int) ≤ s3 ∧ s3 ≤ (6560 : Int) := ivX (q := (3, .ofNat 0, .ofNat 6560)) (y := s3) (hIv _ (.tail _ (.tail _ (.tail _ (.head _))))) rfl
  have b4 : (1 : Int) ≤ s4 ∧ s4 ≤ (1 : Int) := ivX (q := (4, .ofNat 1, .ofNat 1)) (y := s4) (hIv _ (.tail _ (.tail _ (.tail _ (.tail _ (.head _)))))) rfl
  have b7 : (22 : Int) ≤ s7 ∧ s7 ≤ (22 : Int) := ivX (q := (7, .ofNat 22, .ofNat 22)) (y := s7) (hIv _ (.tail _ (.tail _ (.tail _ (.tail _ (.tail _ (.tail _ (.tail _ (.head _))))))))) rfl
  have hRf : ∀ q ∈ ([((40, .ofNat 173, []), (.ofNat 9, []), 1, .ofNat 0, [])] : List sRf), rfOk [s0, s1, s2, s3, s4, s5, s6, s7, s8] hp q := hH.1
  have h0 : hI hp 173 9 = 0 := rfI0 (hRf _ (.head _)) (sE_k _ _) (sE_k _ _) (sE_k _ _)
  have hFc : ∀ q ∈ ([(192, [(.ofNat 0, [(.ofNat 1, 0)]), (.ofNat 0, [(.ofNat 1, 1)]), (.ofNat 0, [(.ofNat 1, 2)]), (.ofNat 0, [(.ofNat 1, 3)]), (.ofNat 0, [(.ofNat 1, 4)]), (.ofNat 0, [(.ofNat 1, 5)]), (.ofNat 0, [(.ofNat 1, 6)]), (.ofNat 0, [(.ofNat 1, 7)])]), (199, [(.ofNat 0, [(.ofNat 1, 3)]), (.ofNat 4, [])]), (200, [(.ofNat 0, [(.ofNat 1, 3)]), (.ofNat 0, [(.ofNat 1, 8)])])] : List sFc), fcOk fFS [s0, s1, s2, s3, s4, s5, s6, s7, s8] hp q := hH.2
  have f0 : SHq (XT hp) (nmR hp (xnm hp)) s0 s1 s2 s3 s4 s5 s6 s7 ∧ s4 ≠ 4 := fcX (ys := [s0, s1, s2, s3, s4, s5, s6, s7]) (hFc _ (.head _)) ⟨sE_V rfl, sE_V rfl, sE_V rfl, sE_V rfl, sE_V rfl, sE_V rfl, sE_V rfl, sE_V rfl, trivial⟩
  have f1 : (4 : Int) = dp s3 + 1 := fcX (ys := [s3, 4]) (hFc _ (.tail _ (.head _))) ⟨sE_V rfl, sE_k _ _, trivial⟩
  have f2 : s8 = nr s3 := fcX (ys := [s3, s8]) (hFc _ (.tail _ (.tail _ (.head _)))) ⟨sE_V rfl, sE_V rfl, trivial⟩
  have ud : dp s3 ≤ 7 := by omega
  have ut := dp_lt (t := s3) (by omega) ud
  exact poX (.head _) rfl hR (all_nil) (all_nil) (all_cons ⟨[s6, 6, (s2 + 1), s8], ⟨sE_V rfl, sE_k _ _, sEv (y' := ((1 : Int) + ((1 : Int) * s2 + 0))) rfl (by omega), sE_V rfl, trivial⟩, (show SG (XT hp) (nmR hp (xnm hp)) s6 (6 : Int) (s2 + 1) s8 from sg_u f2 (s0_leaf f0.1 (by omega) (by omega) (by omega) (by omega) ud))⟩ (all_cons ⟨[s8, s8], ⟨sE_V rfl, sE_V rfl, trivial⟩, (show s8 = nr s8 from (by rw [f2]; exact (nr_nr (by omega) (by omega)).symm))⟩ (all_nil)))
theorem rl329 : ruOk fFS gR329 := by
  intro r hp hO hN hH
  obtain ⟨s0, s1, s2, s3, s4, s5, s6, s7, s8, rfl⟩ := len9 (show r.length = 9 from hN.1)
  have hR := hN.2.1.1
  have hIv : ∀ q ∈ ([(0, .negSucc 2147483647, .ofNat 2147483647), (1, .ofNat 0, .ofNat 0), (2, .ofNat 0, .ofNat 19), (3, .ofNat 0, .ofNat 6560), (4, .ofNat 1, .ofNat 1), (5, .negSucc 2147483647, .ofNat 2147483647), (6, .negSucc 2147483647, .ofNat 2147483647), (7, .ofNat 22, .ofNat 22), (8, .negSucc 2147483647, .ofNat 2147483647)] : sIv), ∃ x, ([s0, s1, s2, s3, s4, s5, s6, s7, s8] : List Int)[q.1]? = some x ∧ q.2.1 ≤ x ∧ x ≤ q.2.2 := hN.2.1.2
  have b1 : (0 : Int) ≤ s1 ∧ s1 ≤ (0 : Int) := ivX (q := (1, .ofNat 0, .ofNat 0)) (y := s1) (hIv _ (.tail _ (.head _))) rfl
  have b2 : (0 : Int) ≤ s2 ∧ s2 ≤ (19 : Int) := ivX (q := (2, .ofNat 0, .ofNat 19)) (y := s2) (hIv _ (.tail _ (.tail _ (.head _)))) rfl
  have b3 : (0 : Int) ≤ s3 ∧ s3 ≤ (6560 : Int) := ivX (q := (3, .ofNat 0, .ofNat 6560)) (y := s3) (hIv _ (.tail _ (.tail _ (.tail _ (.head _))))) rfl
  have b4 : (1 : Int) ≤ s4 ∧ s4 ≤ (1 : Int) := ivX (q := (4, .ofNat 1, .ofNat 1)) (y := s4) (hIv _ (.tail _ (.tail _ (.tail _ (.tail _ (.head _)))))) rfl
  have b7 : (22 : Int) ≤ s7 ∧ s7 ≤ (22 : Int) := ivX (q := (7, .ofNat 22, .ofNat 22)) (y := s7) (hIv _ (.tail _ (.tail _ (.tail _ (.tail _ (.tail _ (.tail _ (.tail _ (.head _))))))))) rfl
  have hRf : ∀ q ∈ ([((40, .ofNat 173, []), (.ofNat 9, []), 1, .ofNat 0, [])] : List sRf), rfOk [s0, s1, s2, s3, s4, s5, s6, s7, s8] hp q := hH.1
  have h0 : hI hp 173 9 = 0 := rfI0 (hRf _ (.head _)) (sE_k _ _) (sE_k _ _) (sE_k _ _)
  have hFc : ∀ q ∈ ([(192, [(.ofNat 0, [(.ofNat 1, 0)]), (.ofNat 0, [(.ofNat 1, 1)]), (.ofNat 0, [(.ofNat 1, 2)]), (.ofNat 0, [(.ofNat 1, 3)]), (.ofNat 0, [(.ofNat 1, 4)]), (.ofNat 0, [(.ofNat 1, 5)]), (.ofNat 0, [(.ofNat 1, 6)]), (.ofNat 0, [(.ofNat 1, 7)])]), (199, [(.ofNat 0, [(.ofNat 1, 3)]), (.ofNat 5, [])]), (200, [(.ofNat 0, [(.ofNat 1, 3)]), (.ofNat 0, [(.ofNat 1, 8)])])] : List sFc), fcOk fFS [s0, s1, s2, s3, s4, s5, s6, s7, s8] hp q := hH.2
  have f0 : SHq (XT hp) (nmR hp (xnm hp)) s0 s1 s2 s3 s4 s5 s6 s7 ∧ s4 ≠ 4 := fcX (ys := [s0, s1, s2, s3, s4, s5, s6, s7]) (hFc _ (.head _)) ⟨sE_V rfl, sE_V rfl, sE_V rfl, sE_V rfl, sE_V rfl, sE_V rfl, sE_V rfl, sE_V rfl, trivial⟩
  have f1 : (5 : Int) = dp s3 + 1 := fcX (ys := [s3, 5]) (hFc _ (.tail _ (.head _))) ⟨sE_V rfl, sE_k _ _, trivial⟩
  have f2 : s8 = nr s3 := fcX (ys := [s3, s8]) (hFc _ (.tail _ (.tail _ (.head _)))) ⟨sE_V rfl, sE_V rfl, trivial⟩
  have ud : dp s3 ≤ 7 := by omega
  have ut := dp_lt (t := s3) (by omega) ud
  exact poX (.head _) rfl hR (all_nil) (all_nil) (all_cons ⟨[s6, 6, (s2 + 1), s8], ⟨sE_V rfl, sE_k _ _, sEv (y' := ((1 : Int) + ((1 : Int) * s2 + 0))) rfl (by omega), sE_V rfl, trivial⟩, (show SG (XT hp) (nmR hp (xnm hp)) s6 (6 : Int) (s2 + 1) s8 from sg_u f2 (s0_leaf f0.1 (by omega) (by omega) (by omega) (by omega) ud))⟩ (all_cons ⟨[s8, s8], ⟨sE_V rfl, sE_V rfl, trivial⟩, (show s8 = nr s8 from (by rw [f2]; exact (nr_nr (by omega) (by omega)).symm))⟩ (all_nil)))
theorem rl330 : ruOk fFS gR330 := by
  intro r hp hO hN hH
  obtain ⟨s0, s1, s2, s3, s4, s5, s6, s7, s8, rfl⟩ := len9 (show r.length = 9 from hN.1)
  have hR := hN.2.1.1
  have hIv : ∀ q ∈ ([(0, .negSucc 2147483647, .ofNat 2147483647), (1, .ofNat 0, .ofNat 0), (2, .ofNat 0, .ofNat 19), (3, .ofNat 0, .ofNat 6560), (4, .ofNat 1, .ofNat 1), (5, .negSucc 2147483647, .ofNat 2147483647), (6, .negSucc 2147483647, .ofNat 2147483647), (7, .ofNat 22, .ofNat 22), (8, .negSucc 2147483647, .ofNat 2147483647)] : sIv), ∃ x, ([s0, s1, s2, s3, s4, s5, s6, s7, s8] : List Int)[q.1]? = some x ∧ q.2.1 ≤ x ∧ x ≤ q.2.2 := hN.2.1.2
  have b1 : (0 : Int) ≤ s1 ∧ s1 ≤ (0 : Int) := ivX (q := (1, .ofNat 0, .ofNat 0)) (y := s1) (hIv _ (.tail _ (.head _))) rfl
  have b2 : (0 : Int) ≤ s2 ∧ s2 ≤ (19 : Int) := ivX (q := (2, .ofNat 0, .ofNat 19)) (y := s2) (hIv _ (.tail _ (.tail _ (.head _)))) rfl
  have b3 : (0 : Int) ≤ s3 ∧ s3 ≤ (6560 : Int) := ivX (q := (3, .ofNat 0, .ofNat 6560)) (y := s3) (hIv _ (.tail _ (.tail _ (.tail _ (.head _))))) rfl
  have b4 : (1 : Int) ≤ s4 ∧ s4 ≤ (1 : Int) := ivX (q := (4, .ofNat 1, .ofNat 1)) (y := s4) (hIv _ (.tail _ (.tail _ (.tail _ (.tail _ (.head _)))))) rfl
  have b7 : (22 : Int) ≤ s7 ∧ s7 ≤ (22 : Int) := ivX (q := (7, .ofNat 22, .ofNat 22)) (y := s7) (hIv _ (.tail _ (.tail _ (.tail _ (.tail _ (.tail _ (.tail _ (.tail _ (.head _))))))))) rfl
  have hRf : ∀ q ∈ ([((40, .ofNat 173, []), (.ofNat 9, []), 1, .ofNat 0, [])] : List sRf), rfOk [s0, s1, s2, s3, s4, s5, s6, s7, s8] hp q := hH.1
  have h0 : hI hp 173 9 = 0 := rfI0 (hRf _ (.head _)) (sE_k _ _) (sE_k _ _) (sE_k _ _)
  have hFc : ∀ q ∈ ([(192, [(.ofNat 0, [(.ofNat 1, 0)]), (.ofNat 0, [(.ofNat 1, 1)]), (.ofNat 0, [(.ofNat 1, 2)]), (.ofNat 0, [(.ofNat 1, 3)]), (.ofNat 0, [(.ofNat 1, 4)]), (.ofNat 0, [(.ofNat 1, 5)]), (.ofNat 0, [(.ofNat 1, 6)]), (.ofNat 0, [(.ofNat 1, 7)])]), (199, [(.ofNat 0, [(.ofNat 1, 3)]), (.ofNat 6, [])]), (200, [(.ofNat 0, [(.ofNat 1, 3)]), (.ofNat 0, [(.ofNat 1, 8)])])] : List sFc), fcOk fFS [s0, s1, s2, s3, s4, s5, s6, s7, s8] hp q := hH.2
  have f0 : SHq (XT hp) (nmR hp (xnm hp)) s0 s1 s2 s3 s4 s5 s6 s7 ∧ s4 ≠ 4 := fcX (ys := [s0, s1, s2, s3, s4, s5, s6, s7]) (hFc _ (.head _)) ⟨sE_V rfl, sE_V rfl, sE_V rfl, sE_V rfl, sE_V rfl, sE_V rfl, sE_V rfl, sE_V rfl, trivial⟩
  have f1 : (6 : Int) = dp s3 + 1 := fcX (ys := [s3, 6]) (hFc _ (.tail _ (.head _))) ⟨sE_V rfl, sE_k _ _, trivial⟩
  have f2 : s8 = nr s3 := fcX (ys := [s3, s8]) (hFc _ (.tail _ (.tail _ (.head _)))) ⟨sE_V rfl, sE_V rfl, trivial⟩
  have ud : dp s3 ≤ 7 := by omega
  have ut := dp_lt (t := s3) (by omega) ud
  exact poX (.head _) rfl hR (all_nil) (all_nil) (all_cons ⟨[s6, 6, (s2 + 1), s8], ⟨sE_V rfl, sE_k _ _, sEv (y' := ((1 : Int) + ((1 : Int) * s2 + 0))) rfl (by omega), sE_V rfl, trivial⟩, (show SG (XT hp) (nmR hp (xnm hp)) s6 (6 : Int) (s2 + 1) s8 from sg_u f2 (s0_leaf f0.1 (by omega) (by omega) (by omega) (by omega) ud))⟩ (all_cons ⟨[s8, s8], ⟨sE_V rfl, sE_V rfl, trivial⟩, (show s8 = nr s8 from (by rw [f2]; exact (nr_nr (by omega) (by omega)).symm))⟩ (all_nil)))
theorem rl331 : ruOk fFS gR331 := by
  intro r hp hO hN hH
  obtain ⟨s0, s1, s2, s3, s4, s5, s6, s7, s8, rfl⟩ := len9 (show r.length = 9 from hN.1)
  have hR := hN.2.1.1
  have hIv : ∀ q ∈ ([(0, .negSucc 2147483647, .ofNat 2147483647), (1, .ofNat 0, .ofNat 0), (2, .ofNat 0, .ofNat 19), (3, .ofNat 0, .ofNat 6560), (4, .ofNat 1, .ofNat 1), (5, .negSucc 2147483647, .ofNat 2147483647), (6, .negSucc 2147483647, .ofNat 2147483647), (7, .ofNat 22, .ofNat 22), (8, .negSucc 2147483647, .ofNat 2147483647)] : sIv), ∃ x, ([s0, s1, s2, s3, s4, s5, s6, s7, s8] : List Int)[q.1]? = some x ∧ q.2.1 ≤ x ∧ x ≤ q.2.2 := hN.2.1.2
  have b1 : (0 : Int) ≤ s1 ∧ s1 ≤ (0 : Int) := ivX (q := (1, .ofNat 0, .ofNat 0)) (y := s1) (hIv _ (.tail _ (.head _))) rfl
  have b2 : (0 : Int) ≤ s2 ∧ s2 ≤ (19 : Int) := ivX (q := (2, .ofNat 0, .ofNat 19)) (y := s2) (hIv _ (.tail _ (.tail _ (.head _)))) rfl
  have b3 : (0 : Int) ≤ s3 ∧ s3 ≤ (6560 : Int) := ivX (q := (3, .ofNat 0, .ofNat 6560)) (y := s3) (hIv _ (.tail _ (.tail _ (.tail _ (.head _))))) rfl
  have b4 : (1 : Int) ≤ s4 ∧ s4 ≤ (1 : Int) := ivX (q := (4, .ofNat 1, .ofNat 1)) (y := s4) (hIv _ (.tail _ (.tail _ (.tail _ (.tail _ (.head _)))))) rfl
  have b7 : (22 : Int) ≤ s7 ∧ s7 ≤ (22 : Int) := ivX (q := (7, .ofNat 22, .ofNat 22)) (y := s7) (hIv _ (.tail _ (.tail _ (.tail _ (.tail _ (.tail _ (.tail _ (.tail _ (.head _))))))))) rfl
  have hRf : ∀ q ∈ ([((40, .ofNat 173, []), (.ofNat 9, []), 1, .ofNat 0, [])] : List sRf), rfOk [s0, s1, s2, s3, s4, s5, s6, s7, s8] hp q := hH.1
  have h0 : hI hp 173 9 = 0 := rfI0 (hRf _ (.head _)) (sE_k _ _) (sE_k _ _) (sE_k _ _)
  have hFc : ∀ q ∈ ([(192, [(.ofNat 0, [(.ofNat 1, 0)]), (.ofNat 0, [(.ofNat 1, 1)]), (.ofNat 0, [(.ofNat 1, 2)]), (.ofNat 0, [(.ofNat 1, 3)]), (.ofNat 0, [(.ofNat 1, 4)]), (.ofNat 0, [(.ofNat 1, 5)]), (.ofNat 0, [(.ofNat 1, 6)]), (.ofNat 0, [(.ofNat 1, 7)])]), (199, [(.ofNat 0, [(.ofNat 1, 3)]), (.ofNat 7, [])]), (200, [(.ofNat 0, [(.ofNat 1, 3)]), (.ofNat 0, [(.ofNat 1, 8)])])] : List sFc), fcOk fFS [s0, s1, s2, s3, s4, s5, s6, s7, s8] hp q := hH.2
  have f0 : SHq (XT hp) (nmR hp (xnm hp)) s0 s1 s2 s3 s4 s5 s6 s7 ∧ s4 ≠ 4 := fcX (ys := [s0, s1, s2, s3, s4, s5, s6, s7]) (hFc _ (.head _)) ⟨sE_V rfl, sE_V rfl, sE_V rfl, sE_V rfl, sE_V rfl, sE_V rfl, sE_V rfl, sE_V rfl, trivial⟩
  have f1 : (7 : Int) = dp s3 + 1 := fcX (ys := [s3, 7]) (hFc _ (.tail _ (.head _))) ⟨sE_V rfl, sE_k _ _, trivial⟩
  have f2 : s8 = nr s3 := fcX (ys := [s3, s8]) (hFc _ (.tail _ (.tail _ (.head _)))) ⟨sE_V rfl, sE_V rfl, trivial⟩
  have ud : dp s3 ≤ 7 := by omega
  have ut := dp_lt (t := s3) (by omega) ud
  exact poX (.head _) rfl hR (all_nil) (all_nil) (all_cons ⟨[s6, 6, (s2 + 1), s8], ⟨sE_V rfl, sE_k _ _, sEv (y' := ((1 : Int) + ((1 : Int) * s2 + 0))) rfl (by omega), sE_V rfl, trivial⟩, (show SG (XT hp) (nmR hp (xnm hp)) s6 (6 : Int) (s2 + 1) s8 from sg_u f2 (s0_leaf f0.1 (by omega) (by omega) (by omega) (by omega) ud))⟩ (all_cons ⟨[s8, s8], ⟨sE_V rfl, sE_V rfl, trivial⟩, (show s8 = nr s8 from (by rw [f2]; exact (nr_nr (by omega) (by omega)).symm))⟩ (all_nil)))
theorem rl332 : ruOk fFS gR332 := by
  intro r hp hO hN hH
  obtain ⟨s0, s1, s2, s3, s4, s5, s6, s7, s8, rfl⟩ := len9 (show r.length = 9 from hN.1)
  have hR := hN.2.1.1
  have hIv : ∀ q ∈ ([(0, .negSucc 2147483647, .ofNat 2147483647), (1, .ofNat 0, .ofNat 0), (2, .ofNat 0, .ofNat 19), (3, .ofNat 0, .ofNat 6560), (4, .ofNat 1, .ofNat 1), (5, .negSucc 2147483647, .ofNat 2147483647), (6, .negSucc 2147483647, .ofNat 2147483647), (7, .ofNat 22, .ofNat 22), (8, .negSucc 2147483647, .ofNat 2147483647)] : sIv), ∃ x, ([s0, s1, s2, s3, s4, s5, s6, s7, s8] : List Int)[q.1]? = some x ∧ q.2.1 ≤ x ∧ x ≤ q.2.2 := hN.2.1.2
  have b1 : (0 : Int) ≤ s1 ∧ s1 ≤ (0 : Int) := ivX (q := (1, .ofNat 0, .ofNat 0)) (y := s1) (hIv _ (.tail _ (.head _))) rfl
  have b2 : (0 : Int) ≤ s2 ∧ s2 ≤ (19 : Int) := ivX (q := (2, .ofNat 0, .ofNat 19)) (y := s2) (hIv _ (.tail _ (.tail _ (.head _)))) rfl
  have b3 : (0 : Int) ≤ s3 ∧ s3 ≤ (6560 : Int) := ivX (q := (3, .ofNat 0, .ofNat 6560)) (y := s3) (hIv _ (.tail _ (.tail _ (.tail _ (.head _))))) rfl
  have b4 : (1 : Int) ≤ s4 ∧ s4 ≤ (1 : Int) := ivX (q := (4, .ofNat 1, .ofNat 1)) (y := s4) (hIv _ (.tail _ (.tail _ (.tail _ (.tail _ (.head _)))))) rfl
  have b7 : (22 : Int) ≤ s7 ∧ s7 ≤ (22 : Int) := ivX (q := (7, .ofNat 22, .ofNat 22)) (y := s7) (hIv _ (.tail _ (.tail _ (.tail _ (.tail _ (.tail _ (.tail _ (.tail _ (.head _))))))))) rfl
  have hRf : ∀ q ∈ ([((40, .ofNat 173, []), (.ofNat 9, []), 1, .ofNat 0, [])] : List sRf), rfOk [s0, s1, s2, s3, s4, s5, s6, s7, s8] hp q := hH.1
  have h0 : hI hp 173 9 = 0 := rfI0 (hRf _ (.head _)) (sE_k _ _) (sE_k _ _) (sE_k _ _)
  have hFc : ∀ q ∈ ([(192, [(.ofNat 0, [(.ofNat 1, 0)]), (.ofNat 0, [(.ofNat 1, 1)]), (.ofNat 0, [(.ofNat 1, 2)]), (.ofNat 0, [(.ofNat 1, 3)]), (.ofNat 0, [(.ofNat 1, 4)]), (.ofNat 0, [(.ofNat 1, 5)]), (.ofNat 0, [(.ofNat 1, 6)]), (.ofNat 0, [(.ofNat 1, 7)])]), (199, [(.ofNat 0, [(.ofNat 1, 3)]), (.ofNat 8, [])]), (200, [(.ofNat 0, [(.ofNat 1, 3)]), (.ofNat 0, [(.ofNat 1, 8)])])] : List sFc), fcOk fFS [s0, s1, s2, s3, s4, s5, s6, s7, s8] hp q := hH.2
  have f0 : SHq (XT hp) (nmR hp (xnm hp)) s0 s1 s2 s3 s4 s5 s6 s7 ∧ s4 ≠ 4 := fcX (ys := [s0, s1, s2, s3, s4, s5, s6, s7]) (hFc _ (.head _)) ⟨sE_V rfl, sE_V rfl, sE_V rfl, sE_V rfl, sE_V rfl, sE_V rfl, sE_V rfl, sE_V rfl, trivial⟩
  have f1 : (8 : Int) = dp s3 + 1 := fcX (ys := [s3, 8]) (hFc _ (.tail _ (.head _))) ⟨sE_V rfl, sE_k _ _, trivial⟩
  have f2 : s8 = nr s3 := fcX (ys := [s3, s8]) (hFc _ (.tail _ (.tail _ (.head _)))) ⟨sE_V rfl, sE_V rfl, trivial⟩
  have ud : dp s3 ≤ 7 := by omega
  have ut := dp_lt (t := s3) (by omega) ud
  exact poX (.head _) rfl hR (all_nil) (all_nil) (all_cons ⟨[s6, 6, (s2 + 1), s8], ⟨sE_V rfl, sE_k _ _, sEv (y' := ((1 : Int) + ((1 : Int) * s2 + 0))) rfl (by omega), sE_V rfl, trivial⟩, (show SG (XT hp) (nmR hp (xnm hp)) s6 (6 : Int) (s2 + 1) s8 from sg_u f2 (s0_leaf f0.1 (by omega) (by omega) (by omega) (by omega) ud))⟩ (all_cons ⟨[s8, s8], ⟨sE_V rfl, sE_V rfl, trivial⟩, (show s8 = nr s8 from (by rw [f2]; exact (nr_nr (by omega) (by omega)).symm))⟩ (all_nil)))
theorem rl333 : ruOk fFS gR333 := by
  intro r hp hO hN hH
  obtain ⟨s0, s1, s2, s3, s4, s5, s6, s7, s8, rfl⟩ := len9 (show r.length = 9 from hN.1)
  have hR := hN.2.1.1
  have hIv : ∀ q ∈ ([(0, .negSucc 2147483647, .ofNat 2147483647), (1, .ofNat 0, .ofNat 0), (2, .ofNat 0, .ofNat 19), (3, .ofNat 0, .ofNat 6560), (4, .ofNat 1, .ofNat 1), (5, .negSucc 2147483647, .ofNat 2147483647), (6, .negSucc 2147483647, .ofNat 2147483647), (7, .ofNat 23, .ofNat 23), (8, .negSucc 2147483647, .ofNat 2147483647)] : sIv), ∃ x, ([s0, s1, s2, s3, s4, s5, s6, s7, s8] : List Int)[q.1]? = some x ∧ q.2.1 ≤ x ∧ x ≤ q.2.2 := hN.2.1.2
  have b1 : (0 : Int) ≤ s1 ∧ s1 ≤ (0 : Int) := ivX (q := (1, .ofNat 0, .ofNat 0)) (y := s1) (hIv _ (.tail _ (.head _))) rfl
  have b2 : (0 : Int) ≤ s2 ∧ s2 ≤ (19 : Int) := ivX (q := (2, .ofNat 0, .ofNat 19)) (y := s2) (hIv _ (.tail _ (.tail _ (.head _)))) rfl
  have b3 : (0 : Int) ≤ s3 ∧ s3 ≤ (6560 : Int) := ivX (q := (3, .ofNat 0, .ofNat 6560)) (y := s3) (hIv _ (.tail _ (.tail _ (.tail _ (.head _))))) rfl
  have b4 : (1 : Int) ≤ s4 ∧ s4 ≤ (1 : Int) := ivX (q := (4, .ofNat 1, .ofNat 1)) (y := s4) (hIv _ (.tail _ (.tail _ (.tail _ (.tail _ (.head _)))))) rfl
  have b7 : (23 : Int) ≤ s7 ∧ s7 ≤ (23 : Int) := ivX (q := (7, .ofNat 23, .ofNat 23)) (y := s7) (hIv _ (.tail _ (.tail _ (.tail _ (.tail _ (.tail _ (.tail _ (.tail _ (.head _))))))))) rfl
  have hRf : ∀ q ∈ ([((40, .ofNat 173, []), (.ofNat 9, []), 1, .ofNat 0, [])] : List sRf), rfOk [s0, s1, s2, s3, s4, s5, s6, s7, s8] hp q := hH.1
  have h0 : hI hp 173 9 = 0 := rfI0 (hRf _ (.head _)) (sE_k _ _) (sE_k _ _) (sE_k _ _)
  have hFc : ∀ q ∈ ([(192, [(.ofNat 0, [(.ofNat 1, 0)]), (.ofNat 0, [(.ofNat 1, 1)]), (.ofNat 0, [(.ofNat 1, 2)]), (.ofNat 0, [(.ofNat 1, 3)]), (.ofNat 0, [(.ofNat 1, 4)]), (.ofNat 0, [(.ofNat 1, 5)]), (.ofNat 0, [(.ofNat 1, 6)]), (.ofNat 0, [(.ofNat 1, 7)])]), (199, [(.ofNat 0, [(.ofNat 1, 3)]), (.ofNat 1, [])]), (200, [(.ofNat 0, [(.ofNat 1, 3)]), (.ofNat 0, [(.ofNat 1, 8)])])] : List sFc), fcOk fFS [s0, s1, s2, s3, s4, s5, s6, s7, s8] hp q := hH.2
  have f0 : SHq (XT hp) (nmR hp (xnm hp)) s0 s1 s2 s3 s4 s5 s6 s7 ∧ s4 ≠ 4 := fcX (ys := [s0, s1, s2, s3, s4, s5, s6, s7]) (hFc _ (.head _)) ⟨sE_V rfl, sE_V rfl, sE_V rfl, sE_V rfl, sE_V rfl, sE_V rfl, sE_V rfl, sE_V rfl, trivial⟩
  have f1 : (1 : Int) = dp s3 + 1 := fcX (ys := [s3, 1]) (hFc _ (.tail _ (.head _))) ⟨sE_V rfl, sE_k _ _, trivial⟩
  have f2 : s8 = nr s3 := fcX (ys := [s3, s8]) (hFc _ (.tail _ (.tail _ (.head _)))) ⟨sE_V rfl, sE_V rfl, trivial⟩
  have ud : dp s3 ≤ 7 := by omega
  have ut := dp_lt (t := s3) (by omega) ud
  exact poX (.head _) rfl hR (all_nil) (all_nil) (all_cons ⟨[s6, 1, (s2 + 1), s3], ⟨sE_V rfl, sE_k _ _, sEv (y' := ((1 : Int) + ((1 : Int) * s2 + 0))) rfl (by omega), sE_V rfl, trivial⟩, (show SG (XT hp) (nmR hp (xnm hp)) s6 (1 : Int) (s2 + 1) s3 from s0_of f0.1 (by omega) (by omega) (by omega) (by omega) ud)⟩ (all_nil))
theorem rl334 : ruOk fFS gR334 := by
  intro r hp hO hN hH
  obtain ⟨s0, s1, s2, s3, s4, s5, s6, s7, s8, rfl⟩ := len9 (show r.length = 9 from hN.1)
  have hR := hN.2.1.1
  have hIv : ∀ q ∈ ([(0, .negSucc 2147483647, .ofNat 2147483647), (1, .ofNat 0, .ofNat 0), (2, .ofNat 0, .ofNat 19), (3, .ofNat 0, .ofNat 6560), (4, .ofNat 1, .ofNat 1), (5, .negSucc 2147483647, .ofNat 2147483647), (6, .negSucc 2147483647, .ofNat 2147483647), (7, .ofNat 23, .ofNat 23), (8, .negSucc 2147483647, .ofNat 2147483647)] : sIv), ∃ x, ([s0, s1, s2, s3, s4, s5, s6, s7, s8] : List Int)[q.1]? = some x ∧ q.2.1 ≤ x ∧ x ≤ q.2.2 := hN.2.1.2
  have b1 : (0 : Int) ≤ s1 ∧ s1 ≤ (0 : Int) := ivX (q := (1, .ofNat 0, .ofNat 0)) (y := s1) (hIv _ (.tail _ (.head _))) rfl
  have b2 : (0 : Int) ≤ s2 ∧ s2 ≤ (19 : Int) := ivX (q := (2, .ofNat 0, .ofNat 19)) (y := s2) (hIv _ (.tail _ (.tail _ (.head _)))) rfl
  have b3 : (0 : Int) ≤ s3 ∧ s3 ≤ (6560 : Int) := ivX (q := (3, .ofNat 0, .ofNat 6560)) (y := s3) (hIv _ (.tail _ (.tail _ (.tail _ (.head _))))) rfl
  have b4 : (1 : Int) ≤ s4 ∧ s4 ≤ (1 : Int) := ivX (q := (4, .ofNat 1, .ofNat 1)) (y := s4) (hIv _ (.tail _ (.tail _ (.tail _ (.tail _ (.head _)))))) rfl
  have b7 : (23 : Int) ≤ s7 ∧ s7 ≤ (23 : Int) := ivX (q := (7, .ofNat 23, .ofNat 23)) (y := s7) (hIv _ (.tail _ (.tail _ (.tail _ (.tail _ (.tail _ (.tail _ (.tail _ (.head _))))))))) rfl
  have hRf : ∀ q ∈ ([((40, .ofNat 173, []), (.ofNat 9, []), 1, .ofNat 0, [])] : List sRf), rfOk [s0, s1, s2, s3, s4, s5, s6, s7, s8] hp q := hH.1
  have h0 : hI hp 173 9 = 0 := rfI0 (hRf _ (.head _)) (sE_k _ _) (sE_k _ _) (sE_k _ _)
  have hFc : ∀ q ∈ ([(192, [(.ofNat 0, [(.ofNat 1, 0)]), (.ofNat 0, [(.ofNat 1, 1)]), (.ofNat 0, [(.ofNat 1, 2)]), (.ofNat 0, [(.ofNat 1, 3)]), (.ofNat 0, [(.ofNat 1, 4)]), (.ofNat 0, [(.ofNat 1, 5)]), (.ofNat 0, [(.ofNat 1, 6)]), (.ofNat 0, [(.ofNat 1, 7)])]), (199, [(.ofNat 0, [(.ofNat 1, 3)]), (.ofNat 2, [])]), (200, [(.ofNat 0, [(.ofNat 1, 3)]), (.ofNat 0, [(.ofNat 1, 8)])])] : List sFc), fcOk fFS [s0, s1, s2, s3, s4, s5, s6, s7, s8] hp q := hH.2
  have f0 : SHq (XT hp) (nmR hp (xnm hp)) s0 s1 s2 s3 s4 s5 s6 s7 ∧ s4 ≠ 4 := fcX (ys := [s0, s1, s2, s3, s4, s5, s6, s7]) (hFc _ (.head _)) ⟨sE_V rfl, sE_V rfl, sE_V rfl, sE_V rfl, sE_V rfl, sE_V rfl, sE_V rfl, sE_V rfl, trivial⟩
  have f1 : (2 : Int) = dp s3 + 1 := fcX (ys := [s3, 2]) (hFc _ (.tail _ (.head _))) ⟨sE_V rfl, sE_k _ _, trivial⟩
  have f2 : s8 = nr s3 := fcX (ys := [s3, s8]) (hFc _ (.tail _ (.tail _ (.head _)))) ⟨sE_V rfl, sE_V rfl, trivial⟩
  have ud : dp s3 ≤ 7 := by omega
  have ut := dp_lt (t := s3) (by omega) ud
  exact poX (.head _) rfl hR (all_nil) (all_nil) (all_cons ⟨[s6, 1, (s2 + 1), s3], ⟨sE_V rfl, sE_k _ _, sEv (y' := ((1 : Int) + ((1 : Int) * s2 + 0))) rfl (by omega), sE_V rfl, trivial⟩, (show SG (XT hp) (nmR hp (xnm hp)) s6 (1 : Int) (s2 + 1) s3 from s0_of f0.1 (by omega) (by omega) (by omega) (by omega) ud)⟩ (all_nil))
theorem rl335 : ruOk fFS gR335 := by
  intro r hp hO hN hH
  obtain ⟨s0, s1, s2, s3, s4, s5, s6, s7, s8, rfl⟩ := len9 (show r.length = 9 from hN.1)
  have hR := hN.2.1.1
  have hIv : ∀ q ∈ ([(0, .negSucc 2147483647, .ofNat 2147483647), (1, .ofNat 0, .ofNat 0), (2, .ofNat 0, .ofNat 19), (3, .ofNat 0, .ofNat 6560), (4, .ofNat 1, .ofNat 1), (5, .negSucc 2147483647, .ofNat 2147483647), (6, .negSucc 2147483647, .ofNat 2147483647), (7, .ofNat 23, .ofNat 23), (8, .negSucc 2147483647, .ofNat 2147483647)] : sIv), ∃ x, ([s0, s1, s2, s3, s4, s5, s6, s7, s8] : List Int)[q.1]? = some x ∧ q.2.1 ≤ x ∧ x ≤ q.2.2 := hN.2.1.2
  have b1 : (0 : Int) ≤ s1 ∧ s1 ≤ (0 : Int) := ivX (q := (1, .ofNat 0, .ofNat 0)) (y := s1) (hIv _ (.tail _ (.head _))) rfl
  have b2 : (0 : Int) ≤ s2 ∧ s2 ≤ (19 : Int) := ivX (q := (2, .ofNat 0, .ofNat 19)) (y := s2) (hIv _ (.tail _ (.tail _ (.head _)))) rfl
  have b3 : (0 : Int) ≤ s3 ∧ s3 ≤ (6560 : Int) := ivX (q := (3, .ofNat 0, .ofNat 6560)) (y := s3) (hIv _ (.tail _ (.tail _ (.tail _ (.head _))))) rfl
  have b4 : (1 : Int) ≤ s4 ∧ s4 ≤ (1 : Int) := ivX (q := (4, .ofNat 1, .ofNat 1)) (y := s4) (hIv _ (.tail _ (.tail _ (.tail _ (.tail _ (.head _)))))) rfl
  have b7 : (23 : Int) ≤ s7 ∧ s7 ≤ (23 : Int) := ivX (q := (7, .ofNat 23, .ofNat 23)) (y := s7) (hIv _ (.tail _ (.tail _ (.tail _ (.tail _ (.tail _ (.tail _ (.tail _ (.head _))))))))) rfl
  have hRf : ∀ q ∈ ([((40, .ofNat 173, []), (.ofNat 9, []), 1, .ofNat 0, [])] : List sRf), rfOk [s0, s1, s2, s3, s4, s5, s6, s7, s8] hp q := hH.1
  have h0 : hI hp 173 9 = 0 := rfI0 (hRf _ (.head _)) (sE_k _ _) (sE_k _ _) (sE_k _ _)
  have hFc : ∀ q ∈ ([(192, [(.ofNat 0, [(.ofNat 1, 0)]), (.ofNat 0, [(.ofNat 1, 1)]), (.ofNat 0, [(.ofNat 1, 2)]), (.ofNat 0, [(.ofNat 1, 3)]), (.ofNat 0, [(.ofNat 1, 4)]), (.ofNat 0, [(.ofNat 1, 5)]), (.ofNat 0, [(.ofNat 1, 6)]), (.ofNat 0, [(.ofNat 1, 7)])]), (199, [(.ofNat 0, [(.ofNat 1, 3)]), (.ofNat 3, [])]), (200, [(.ofNat 0, [(.ofNat 1, 3)]), (.ofNat 0, [(.ofNat 1, 8)])])] : List sFc), fcOk fFS [s0, s1, s2, s3, s4, s5, s6, s7, s8] hp q := hH.2
  have f0 : SHq (XT hp) (nmR hp (xnm hp)) s0 s1 s2 s3 s4 s5 s6 s7 ∧ s4 ≠ 4 := fcX (ys := [s0, s1, s2, s3, s4, s5, s6, s7]) (hFc _ (.head _)) ⟨sE_V rfl, sE_V rfl, sE_V rfl, sE_V rfl, sE_V rfl, sE_V rfl, sE_V rfl, sE_V rfl, trivial⟩
  have f1 : (3 : Int) = dp s3 + 1 := fcX (ys := [s3, 3]) (hFc _ (.tail _ (.head _))) ⟨sE_V rfl, sE_k _ _, trivial⟩
  have f2 : s8 = nr s3 := fcX (ys := [s3, s8]) (hFc _ (.tail _ (.tail _ (.head _)))) ⟨sE_V rfl, sE_V rfl, trivial⟩
  have ud : dp s3 ≤ 7 := by omega
  have ut := dp_lt (t := s3) (by omega) ud
  exact poX (.head _) rfl hR (all_nil) (all_nil) (all_cons ⟨[s6, 1, (s2 + 1), s3], ⟨sE_V rfl, sE_k _ _, sEv (y' := ((1 : Int) + ((1 : Int) * s2 + 0))) rfl (by omega), sE_V rfl, trivial⟩, (show SG (XT hp) (nmR hp (xnm hp)) s6 (1 : Int) (s2 + 1) s3 from s0_of f0.1 (by omega) (by omega) (by omega) (by omega) ud)⟩ (all_nil))
theorem rl336 : ruOk fFS gR336 := by
  intro r hp hO hN hH
  obtain ⟨s0, s1, s2, s3, s4, s5, s6, s7, s8, rfl⟩ := len9 (show r.length = 9 from hN.1)
  have hR := hN.2.1.1
  have hIv : ∀ q ∈ ([(0, .negSucc 2147483647, .ofNat 2147483647), (1, .ofNat 0, .ofNat 0), (2, .ofNat 0, .ofNat 19), (3, .ofNat 0, .ofNat 6560), (4, .ofNat 1, .ofNat 1), (5, .negSucc 2147483647, .ofNat 2147483647), (6, .negSucc 2147483647, .ofNat 2147483647), (7, .ofNat 23, .ofNat 23), (8, .negSucc 2147483647, .ofNat 2147483647)] : sIv), ∃ x, ([s0, s1, s2, s3, s4, s5, s6, s7, s8] : List Int)[q.1]? = some x ∧ q.2.1 ≤ x ∧ x ≤ q.2.2 := hN.2.1.2
  have b1 : (0 : Int) ≤ s1 ∧ s1 ≤ (0 : Int) := ivX (q := (1, .ofNat 0, .ofNat 0)) (y := s1) (hIv _ (.tail _ (.head _))) rfl
  have b2 : (0 : Int) ≤ s2 ∧ s2 ≤ (19 : Int) := ivX (q := (2, .ofNat 0, .ofNat 19)) (y := s2) (hIv _ (.tail _ (.tail _ (.head _)))) rfl
  have b3 : (0 : Int) ≤ s3 ∧ s3 ≤ (6560 : Int) := ivX (q := (3, .ofNat 0, .ofNat 6560)) (y := s3) (hIv _ (.tail _ (.tail _ (.tail _ (.head _))))) rfl
  have b4 : (1 : Int) ≤ s4 ∧ s4 ≤ (1 : Int) := ivX (q := (4, .ofNat 1, .ofNat 1)) (y := s4) (hIv _ (.tail _ (.tail _ (.tail _ (.tail _ (.head _)))))) rfl
  have b7 : (23 : Int) ≤ s7 ∧ s7 ≤ (23 : Int) := ivX (q := (7, .ofNat 23, .ofNat 23)) (y := s7) (hIv _ (.tail _ (.tail _ (.tail _ (.tail _ (.tail _ (.tail _ (.tail _ (.head _))))))))) rfl
  have hRf : ∀ q ∈ ([((40, .ofNat 173, []), (.ofNat 9, []), 1, .ofNat 0, [])] : List sRf), rfOk [s0, s1, s2, s3, s4, s5, s6, s7, s8] hp q := hH.1
  have h0 : hI hp 173 9 = 0 := rfI0 (hRf _ (.head _)) (sE_k _ _) (sE_k _ _) (sE_k _ _)
  have hFc : ∀ q ∈ ([(192, [(.ofNat 0, [(.ofNat 1, 0)]), (.ofNat 0, [(.ofNat 1, 1)]), (.ofNat 0, [(.ofNat 1, 2)]), (.ofNat 0, [(.ofNat 1, 3)]), (.ofNat 0, [(.ofNat 1, 4)]), (.ofNat 0, [(.ofNat 1, 5)]), (.ofNat 0, [(.ofNat 1, 6)]), (.ofNat 0, [(.ofNat 1, 7)])]), (199, [(.ofNat 0, [(.ofNat 1, 3)]), (.ofNat 4, [])]), (200, [(.ofNat 0, [(.ofNat 1, 3)]), (.ofNat 0, [(.ofNat 1, 8)])])] : List sFc), fcOk fFS [s0, s1, s2, s3, s4, s5, s6, s7, s8] hp q := hH.2
  have f0 : SHq (XT hp) (nmR hp (xnm hp)) s0 s1 s2 s3 s4 s5 s6 s7 ∧ s4 ≠ 4 := fcX (ys := [s0, s1, s2, s3, s4, s5, s6, s7]) (hFc _ (.head _)) ⟨sE_V rfl, sE_V rfl, sE_V rfl, sE_V rfl, sE_V rfl, sE_V rfl, sE_V rfl, sE_V rfl, trivial⟩
  have f1 : (4 : Int) = dp s3 + 1 := fcX (ys := [s3, 4]) (hFc _ (.tail _ (.head _))) ⟨sE_V rfl, sE_k _ _, trivial⟩
  have f2 : s8 = nr s3 := fcX (ys := [s3, s8]) (hFc _ (.tail _ (.tail _ (.head _)))) ⟨sE_V rfl, sE_V rfl, trivial⟩
  have ud : dp s3 ≤ 7 := by omega
  have ut := dp_lt (t := s3) (by omega) ud
  exact poX (.head _) rfl hR (all_nil) (all_nil) (all_cons ⟨[s6, 1, (s2 + 1), s3], ⟨sE_V rfl, sE_k _ _, sEv (y' := ((1 : Int) + ((1 : Int) * s2 + 0))) rfl (by omega), sE_V rfl, trivial⟩, (show SG (XT hp) (nmR hp (xnm hp)) s6 (1 : Int) (s2 + 1) s3 from s0_of f0.1 (by omega) (by omega) (by omega) (by omega) ud)⟩ (all_nil))
theorem rl337 : ruOk fFS gR337 := by
  intro r hp hO hN hH
  obtain ⟨s0, s1, s2, s3, s4, s5, s6, s7, s8, rfl⟩ := len9 (show r.length = 9 from hN.1)
  have hR := hN.2.1.1
  have hIv : ∀ q ∈ ([(0, .negSucc 2147483647, .ofNat 2147483647), (1, .ofNat 0, .ofNat 0), (2, .ofNat 0, .ofNat 19), (3, .ofNat 0, .ofNat 6560), (4, .ofNat 1, .ofNat 1), (5, .negSucc 2147483647, .ofNat 2147483647), (6, .negSucc 2147483647, .ofNat 2147483647), (7, .ofNat 23, .ofNat 23), (8, .negSucc 2147483647, .ofNat 2147483647)] : sIv), ∃ x, ([s0, s1, s2, s3, s4, s5, s6, s7, s8] : List Int)[q.1]? = some x ∧ q.2.1 ≤ x ∧ x ≤ q.2.2 := hN.2.1.2
  have b1 : (0 : Int) ≤ s1 ∧ s1 ≤ (0 : Int) := ivX (q := (1, .ofNat 0, .ofNat 0)) (y := s1) (hIv _ (.tail _ (.head _))) rfl
  have b2 : (0 : Int) ≤ s2 ∧ s2 ≤ (19 : Int) := ivX (q := (2, .ofNat 0, .ofNat 19)) (y := s2) (hIv _ (.tail _ (.tail _ (.head _)))) rfl
  have b3 : (0 : Int) ≤ s3 ∧ s3 ≤ (6560 : Int) := ivX (q := (3, .ofNat 0, .ofNat 6560)) (y := s3) (hIv _ (.tail _ (.tail _ (.tail _ (.head _))))) rfl
  have b4 : (1 : Int) ≤ s4 ∧ s4 ≤ (1 : Int) := ivX (q := (4, .ofNat 1, .ofNat 1)) (y := s4) (hIv _ (.tail _ (.tail _ (.tail _ (.tail _ (.head _)))))) rfl
  have b7 : (23 : Int) ≤ s7 ∧ s7 ≤ (23 : Int) := ivX (q := (7, .ofNat 23, .ofNat 23)) (y := s7) (hIv _ (.tail _ (.tail _ (.tail _ (.tail _ (.tail _ (.tail _ (.tail _ (.head _))))))))) rfl
  have hRf : ∀ q ∈ ([((40, .ofNat 173, []), (.ofNat 9, []), 1, .ofNat 0, [])] : List sRf), rfOk [s0, s1, s2, s3, s4, s5, s6, s7, s8] hp q := hH.1
  have h0 : hI hp 173 9 = 0 := rfI0 (hRf _ (.head _)) (sE_k _ _) (sE_k _ _) (sE_k _ _)
  have hFc : ∀ q ∈ ([(192, [(.ofNat 0, [(.ofNat 1, 0)]), (.ofNat 0, [(.ofNat 1, 1)]), (.ofNat 0, [(.ofNat 1, 2)]), (.ofNat 0, [(.ofNat 1, 3)]), (.ofNat 0, [(.ofNat 1, 4)]), (.ofNat 0, [(.ofNat 1, 5)]), (.ofNat 0, [(.ofNat 1, 6)]), (.ofNat 0, [(.ofNat 1, 7)])]), (199, [(.ofNat 0, [(.ofNat 1, 3)]), (.ofNat 5, [])]), (200, [(.ofNat 0, [(.ofNat 1, 3)]), (.ofNat 0, [(.ofNat 1, 8)])])] : List sFc), fcOk fFS [s0, s1, s2, s3, s4, s5, s6, s7, s8] hp q := hH.2
  have f0 : SHq (XT hp) (nmR hp (xnm hp)) s0 s1 s2 s3 s4 s5 s6 s7 ∧ s4 ≠ 4 := fcX (ys := [s0, s1, s2, s3, s4, s5, s6, s7]) (hFc _ (.head _)) ⟨sE_V rfl, sE_V rfl, sE_V rfl, sE_V rfl, sE_V rfl, sE_V rfl, sE_V rfl, sE_V rfl, trivial⟩
  have f1 : (5 : Int) = dp s3 + 1 := fcX (ys := [s3, 5]) (hFc _ (.tail _ (.head _))) ⟨sE_V rfl, sE_k _ _, trivial⟩
  have f2 : s8 = nr s3 := fcX (ys := [s3, s8]) (hFc _ (.tail _ (.tail _ (.head _)))) ⟨sE_V rfl, sE_V rfl, trivial⟩
  have ud : dp s3 ≤ 7 := by omega
  have ut := dp_lt (t := s3) (by omega) ud
  exact poX (.head _) rfl hR (all_nil) (all_nil) (all_cons ⟨[s6, 1, (s2 + 1), s3], ⟨sE_V rfl, sE_k _ _, sEv (y' := ((1 : Int) + ((1 : Int) * s2 + 0))) rfl (by omega), sE_V rfl, trivial⟩, (show SG (XT hp) (nmR hp (xnm hp)) s6 (1 : Int) (s2 + 1) s3 from s0_of f0.1 (by omega) (by omega) (by omega) (by omega) ud)⟩ (all_nil))
theorem rl338 : ruOk fFS gR338 := by
  intro r hp hO hN hH
  obtain ⟨s0, s1, s2, s3, s4, s5, s6, s7, s8, rfl⟩ := len9 (show r.length = 9 from hN.1)
  have hR := hN.2.1.1
  have hIv : ∀ q ∈ ([(0, .negSucc 2147483647, .ofNat 2147483647), (1, .ofNat 0, .ofNat 0), (2, .ofNat 0, .ofNat 19), (3, .ofNat 0, .ofNat 6560), (4, .ofNat 1, .ofNat 1), (5, .negSucc 2147483647, .ofNat 2147483647), (6, .negSucc 2147483647, .ofNat 2147483647), (7, .ofNat 23, .ofNat 23), (8, .negSucc 2147483647, .ofNat 2147483647)] : sIv), ∃ x, ([s0, s1, s2, s3, s4, s5, s6, s7, s8] : List Int)[q.1]? = some x ∧ q.2.1 ≤ x ∧ x ≤ q.2.2 := hN.2.1.2
  have b1 : (0 : Int) ≤ s1 ∧ s1 ≤ (0 : Int) := ivX (q := (1, .ofNat 0, .ofNat 0)) (y := s1) (hIv _ (.tail _ (.head _))) rfl
  have b2 : (0 : Int) ≤ s2 ∧ s2 ≤ (19 : Int) := ivX (q := (2, .ofNat 0, .ofNat 19)) (y := s2) (hIv _ (.tail _ (.tail _ (.head _)))) rfl
  have b3 : (0 : Int) ≤ s3 ∧ s3 ≤ (6560 : Int) := ivX (q := (3, .ofNat 0, .ofNat 6560)) (y := s3) (hIv _ (.tail _ (.tail _ (.tail _ (.head _))))) rfl
  have b4 : (1 : Int) ≤ s4 ∧ s4 ≤ (1 : Int) := ivX (q := (4, .ofNat 1, .ofNat 1)) (y := s4) (hIv _ (.tail _ (.tail _ (.tail _ (.tail _ (.head _)))))) rfl
  have b7 : (23 : Int) ≤ s7 ∧ s7 ≤ (23 : Int) := ivX (q := (7, .ofNat 23, .ofNat 23)) (y := s7) (hIv _ (.tail _ (.tail _ (.tail _ (.tail _ (.tail _ (.tail _ (.tail _ (.head _))))))))) rfl
  have hRf : ∀ q ∈ ([((40, .ofNat 173, []), (.ofNat 9, []), 1, .ofNat 0, [])] : List sRf), rfOk [s0, s1, s2, s3, s4, s5, s6, s7, s8] hp q := hH.1
  have h0 : hI hp 173 9 = 0 := rfI0 (hRf _ (.head _)) (sE_k _ _) (sE_k _ _) (sE_k _ _)
  have hFc : ∀ q ∈ ([(192, [(.ofNat 0, [(.ofNat 1, 0)]), (.ofNat 0, [(.ofNat 1, 1)]), (.ofNat 0, [(.ofNat 1, 2)]), (.ofNat 0, [(.ofNat 1, 3)]), (.ofNat 0, [(.ofNat 1, 4)]), (.ofNat 0, [(.ofNat 1, 5)]), (.ofNat 0, [(.ofNat 1, 6)]), (.ofNat 0, [(.ofNat 1, 7)])]), (199, [(.ofNat 0, [(.ofNat 1, 3)]), (.ofNat 6, [])]), (200, [(.ofNat 0, [(.ofNat 1, 3)]), (.ofNat 0, [(.ofNat 1, 8)])])] : List sFc), fcOk fFS [s0, s1, s2, s3, s4, s5, s6, s7, s8] hp q := hH.2
  have f0 : SHq (XT hp) (nmR hp (xnm hp)) s0 s1 s2 s3 s4 s5 s6 s7 ∧ s4 ≠ 4 := fcX (ys := [s0, s1, s2, s3, s4, s5, s6, s7]) (hFc _ (.head _)) ⟨sE_V rfl, sE_V rfl, sE_V rfl, sE_V rfl, sE_V rfl, sE_V rfl, sE_V rfl, sE_V rfl, trivial⟩
  have f1 : (6 : Int) = dp s3 + 1 := fcX (ys := [s3, 6]) (hFc _ (.tail _ (.head _))) ⟨sE_V rfl, sE_k _ _, trivial⟩
  have f2 : s8 = nr s3 := fcX (ys := [s3, s8]) (hFc _ (.tail _ (.tail _ (.head _)))) ⟨sE_V rfl, sE_V rfl, trivial⟩
  have ud : dp s3 ≤ 7 := by omega
  have ut := dp_lt (t := s3) (by omega) ud
  exact poX (.head _) rfl hR (all_nil) (all_nil) (all_cons ⟨[s6, 1, (s2 + 1), s3], ⟨sE_V rfl, sE_k _ _, sEv (y' := ((1 : Int) + ((1 : Int) * s2 + 0))) rfl (by omega), sE_V rfl, trivial⟩, (show SG (XT hp) (nmR hp (xnm hp)) s6 (1 : Int) (s2 + 1) s3 from s0_of f0.1 (by omega) (by omega) (by omega) (by omega) ud)⟩ (all_nil))
theorem rl339 : ruOk fFS gR339 := by
  intro r hp hO hN hH
  obtain ⟨s0, s1, s2, s3, s4, s5, s6, s7, s8, rfl⟩ := len9 (show r.length = 9 from hN.1)
  have hR := hN.2.1.1
  have hIv : ∀ q ∈ ([(0, .negSucc 2147483647, .ofNat 2147483647), (1, .ofNat 0, .ofNat 0), (2, .ofNat 0, .ofNat 19), (3, .ofNat 0, .ofNat 6560), (4, .ofNat 1, .ofNat 1), (5, .negSucc 2147483647, .ofNat 2147483647), (6, .negSucc 2147483647, .ofNat 2147483647), (7, .ofNat 23, .ofNat 23), (8, .negSucc 2147483647, .ofNat 2147483647)] : sIv), ∃ x, ([s0, s1, s2, s3, s4, s5, s6, s7, s8] : List Int)[q.1]? = some x ∧ q.2.1 ≤ x ∧ x ≤ q.2.2 := hN.2.1.2
  have b1 : (0 : Int) ≤ s1 ∧ s1 ≤ (0 : Int) := ivX (q := (1, .ofNat 0, .ofNat 0)) (y := s1) (hIv _ (.tail _ (.head _))) rfl
  have b2 : (0 : Int) ≤ s2 ∧ s2 ≤ (19 : Int) := ivX (q := (2, .ofNat 0, .ofNat 19)) (y := s2) (hIv _ (.tail _ (.tail _ (.head _)))) rfl
  have b3 : (0 : Int) ≤ s3 ∧ s3 ≤ (6560 : Int) := ivX (q := (3, .ofNat 0, .ofNat 6560)) (y := s3) (hIv _ (.tail _ (.tail _ (.tail _ (.head _))))) rfl
  have b4 : (1 : Int) ≤ s4 ∧ s4 ≤ (1 : Int) := ivX (q := (4, .ofNat 1, .ofNat 1)) (y := s4) (hIv _ (.tail _ (.tail _ (.tail _ (.tail _ (.head _)))))) rfl
  have b7 : (23 : Int) ≤ s7 ∧ s7 ≤ (23 : Int) := ivX (q := (7, .ofNat 23, .ofNat 23)) (y := s7) (hIv _ (.tail _ (.tail _ (.tail _ (.tail _ (.tail _ (.tail _ (.tail _ (.head _))))))))) rfl
  have hRf : ∀ q ∈ ([((40, .ofNat 173, []), (.ofNat 9, []), 1, .ofNat 0, [])] : List sRf), rfOk [s0, s1, s2, s3, s4, s5, s6, s7, s8] hp q := hH.1
  have h0 : hI hp 173 9 = 0 := rfI0 (hRf _ (.head _)) (sE_k _ _) (sE_k _ _) (sE_k _ _)
  have hFc : ∀ q ∈ ([(192, [(.ofNat 0, [(.ofNat 1, 0)]), (.ofNat 0, [(.ofNat 1, 1)]), (.ofNat 0, [(.ofNat 1, 2)]), (.ofNat 0, [(.ofNat 1, 3)]), (.ofNat 0, [(.ofNat 1, 4)]), (.ofNat 0, [(.ofNat 1, 5)]), (.ofNat 0, [(.ofNat 1, 6)]), (.ofNat 0, [(.ofNat 1, 7)])]), (199, [(.ofNat 0, [(.ofNat 1, 3)]), (.ofNat 7, [])]), (200, [(.ofNat 0, [(.ofNat 1, 3)]), (.ofNat 0, [(.ofNat 1, 8)])])] : List sFc), fcOk fFS [s0, s1, s2, s3, s4, s5, s6, s7, s8] hp q := hH.2
  have f0 : SHq (XT hp) (nmR hp (xnm hp)) s0 s1 s2 s3 s4 s5 s6 s7 ∧ s4 ≠ 4 := fcX (ys := [s0, s1, s2, s3, s4, s5, s6, s7]) (hFc _ (.head _)) ⟨sE_V rfl, sE_V rfl, sE_V rfl, sE_V rfl, sE_V rfl, sE_V rfl, sE_V rfl, sE_V rfl, trivial⟩
  have f1 : (7 : Int) = dp s3 + 1 := fcX (ys := [s3, 7]) (hFc _ (.tail _ (.head _))) ⟨sE_V rfl, sE_k _ _, trivial⟩
  have f2 : s8 = nr s3 := fcX (ys := [s3, s8]) (hFc _ (.tail _ (.tail _ (.head _)))) ⟨sE_V rfl, sE_V rfl, trivial⟩
  have ud : dp s3 ≤ 7 := by omega
  have ut := dp_lt (t := s3) (by omega) ud
  exact poX (.head _) rfl hR (all_nil) (all_nil) (all_cons ⟨[s6, 1, (s2 + 1), s3], ⟨sE_V rfl, sE_k _ _, sEv (y' := ((1 : Int) + ((1 : Int) * s2 + 0))) rfl (by omega), sE_V rfl, trivial⟩, (show SG (XT hp) (nmR hp (xnm hp)) s6 (1 : Int) (s2 + 1) s3 from s0_of f0.1 (by omega) (by omega) (by omega) (by omega) ud)⟩ (all_nil))
theorem rl340 : ruOk fFS gR340 := by
  intro r hp hO hN hH
  obtain ⟨s0, s1, s2, s3, s4, s5, s6, s7, s8, rfl⟩ := len9 (show r.length = 9 from hN.1)
  have hR := hN.2.1.1
  have hIv : ∀ q ∈ ([(0, .negSucc 2147483647, .ofNat 2147483647), (1, .ofNat 0, .ofNat 0), (2, .ofNat 0, .ofNat 19), (3, .ofNat 0, .ofNat 6560), (4, .ofNat 1, .ofNat 1), (5, .negSucc 2147483647, .ofNat 2147483647), (6, .negSucc 2147483647, .ofNat 2147483647), (7, .ofNat 23, .ofNat 23), (8, .negSucc 2147483647, .ofNat 2147483647)] : sIv), ∃ x, ([s0, s1, s2, s3, s4, s5, s6, s7, s8] : List Int)[q.1]? = some x ∧ q.2.1 ≤ x ∧ x ≤ q.2.2 := hN.2.1.2
  have b1 : (0 : Int) ≤ s1 ∧ s1 ≤ (0 : Int) := ivX (q := (1, .ofNat 0, .ofNat 0)) (y := s1) (hIv _ (.tail _ (.head _))) rfl
  have b2 : (0 : Int) ≤ s2 ∧ s2 ≤ (19 : Int) := ivX (q := (2, .ofNat 0, .ofNat 19)) (y := s2) (hIv _ (.tail _ (.tail _ (.head _)))) rfl
  have b3 : (0 : Int) ≤ s3 ∧ s3 ≤ (6560 : Int) := ivX (q := (3, .ofNat 0, .ofNat 6560)) (y := s3) (hIv _ (.tail _ (.tail _ (.tail _ (.head _))))) rfl
  have b4 : (1 : Int) ≤ s4 ∧ s4 ≤ (1 : Int) := ivX (q := (4, .ofNat 1, .ofNat 1)) (y := s4) (hIv _ (.tail _ (.tail _ (.tail _ (.tail _ (.head _)))))) rfl
  have b7 : (23 : Int) ≤ s7 ∧ s7 ≤ (23 : Int) := ivX (q := (7, .ofNat 23, .ofNat 23)) (y := s7) (hIv _ (.tail _ (.tail _ (.tail _ (.tail _ (.tail _ (.tail _ (.tail _ (.head _))))))))) rfl
  have hRf : ∀ q ∈ ([((40, .ofNat 173, []), (.ofNat 9, []), 1, .ofNat 0, [])] : List sRf), rfOk [s0, s1, s2, s3, s4, s5, s6, s7, s8] hp q := hH.1
  have h0 : hI hp 173 9 = 0 := rfI0 (hRf _ (.head _)) (sE_k _ _) (sE_k _ _) (sE_k _ _)
  have hFc : ∀ q ∈ ([(192, [(.ofNat 0, [(.ofNat 1, 0)]), (.ofNat 0, [(.ofNat 1, 1)]), (.ofNat 0, [(.ofNat 1, 2)]), (.ofNat 0, [(.ofNat 1, 3)]), (.ofNat 0, [(.ofNat 1, 4)]), (.ofNat 0, [(.ofNat 1, 5)]), (.ofNat 0, [(.ofNat 1, 6)]), (.ofNat 0, [(.ofNat 1, 7)])]), (199, [(.ofNat 0, [(.ofNat 1, 3)]), (.ofNat 8, [])]), (200, [(.ofNat 0, [(.ofNat 1, 3)]), (.ofNat 0, [(.ofNat 1, 8)])])] : List sFc), fcOk fFS [s0, s1, s2, s3, s4, s5, s6, s7, s8] hp q := hH.2
  have f0 : SHq (XT hp) (nmR hp (xnm hp)) s0 s1 s2 s3 s4 s5 s6 s7 ∧ s4 ≠ 4 := fcX (ys := [s0, s1, s2, s3, s4, s5, s6, s7]) (hFc _ (.head _)) ⟨sE_V rfl, sE_V rfl, sE_V rfl, sE_V rfl, sE_V rfl, sE_V rfl, sE_V rfl, sE_V rfl, trivial⟩
  have f1 : (8 : Int) = dp s3 + 1 := fcX (ys := [s3, 8]) (hFc _ (.tail _ (.head _))) ⟨sE_V rfl, sE_k _ _, trivial⟩
  have f2 : s8 = nr s3 := fcX (ys := [s3, s8]) (hFc _ (.tail _ (.tail _ (.head _)))) ⟨sE_V rfl, sE_V rfl, trivial⟩
  have ud : dp s3 ≤ 7 := by omega
  have ut := dp_lt (t := s3) (by omega) ud
  exact poX (.head _) rfl hR (all_nil) (all_nil) (all_cons ⟨[s6, 1, (s2 + 1), s3], ⟨sE_V rfl, sE_k _ _, sEv (y' := ((1 : Int) + ((1 : Int) * s2 + 0))) rfl (by omega), sE_V rfl, trivial⟩, (show SG (XT hp) (nmR hp (xnm hp)) s6 (1 : Int) (s2 + 1) s3 from s0_of f0.1 (by omega) (by omega) (by omega) (by omega) ud)⟩ (all_nil))
theorem rl341 : ruOk fFS gR341 := by
  intro r hp hO hN hH
  obtain ⟨s0, s1, s2, s3, s4, s5, s6, s7, s8, rfl⟩ := len9 (show r.length = 9 from hN.1)
  have hR := hN.2.1.1
  have hIv : ∀ q ∈ ([(0, .negSucc 2147483647, .ofNat 2147483647), (1, .ofNat 0, .ofNat 0), (2, .ofNat 0, .ofNat 19), (3, .ofNat 0, .ofNat 6560), (4, .ofNat 1, .ofNat 1), (5, .negSucc 2147483647, .ofNat 2147483647), (6, .negSucc 2147483647, .ofNat 2147483647), (7, .ofNat 24, .ofNat 24), (8, .negSucc 2147483647, .ofNat 2147483647)] : sIv), ∃ x, ([s0, s1, s2, s3, s4, s5, s6, s7, s8] : List Int)[q.1]? = some x ∧ q.2.1 ≤ x ∧ x ≤ q.2.2 := hN.2.1.2
  have b1 : (0 : Int) ≤ s1 ∧ s1 ≤ (0 : Int) := ivX (q := (1, .ofNat 0, .ofNat 0)) (y := s1) (hIv _ (.tail _ (.head _))) rfl
  have b2 : (0 : Int) ≤ s2 ∧ s2 ≤ (19 : Int) := ivX (q := (2, .ofNat 0, .ofNat 19)) (y := s2) (hIv _ (.tail _ (.tail _ (.head _)))) rfl
  have b3 : (0 : Int) ≤ s3 ∧ s3 ≤ (6560 : Int) := ivX (q := (3, .ofNat 0, .ofNat 6560)) (y := s3) (hIv _ (.tail _ (.tail _ (.tail _ (.head _))))) rfl
  have b4 : (1 : Int) ≤ s4 ∧ s4 ≤ (1 : Int) := ivX (q := (4, .ofNat 1, .ofNat 1)) (y := s4) (hIv _ (.tail _ (.tail _ (.tail _ (.tail _ (.head _)))))) rfl
  have b7 : (24 : Int) ≤ s7 ∧ s7 ≤ (24 : Int) := ivX (q := (7, .ofNat 24, .ofNat 24)) (y := s7) (hIv _ (.tail _ (.tail _ (.tail _ (.tail _ (.tail _ (.tail _ (.tail _ (.head _))))))))) rfl
  have hRf : ∀ q ∈ ([((40, .ofNat 173, []), (.ofNat 9, []), 1, .ofNat 0, [])] : List sRf), rfOk [s0, s1, s2, s3, s4, s5, s6, s7, s8] hp q := hH.1
  have h0 : hI hp 173 9 = 0 := rfI0 (hRf _ (.head _)) (sE_k _ _) (sE_k _ _) (sE_k _ _)
  have hFc : ∀ q ∈ ([(192, [(.ofNat 0, [(.ofNat 1, 0)]), (.ofNat 0, [(.ofNat 1, 1)]), (.ofNat 0, [(.ofNat 1, 2)]), (.ofNat 0, [(.ofNat 1, 3)]), (.ofNat 0, [(.ofNat 1, 4)]), (.ofNat 0, [(.ofNat 1, 5)]), (.ofNat 0, [(.ofNat 1, 6)]), (.ofNat 0, [(.ofNat 1, 7)])]), (199, [(.ofNat 0, [(.ofNat 1, 3)]), (.ofNat 1, [])]), (200, [(.ofNat 0, [(.ofNat 1, 3)]), (.ofNat 0, [(.ofNat 1, 8)])])] : List sFc), fcOk fFS [s0, s1, s2, s3, s4, s5, s6, s7, s8] hp q := hH.2
  have f0 : SHq (XT hp) (nmR hp (xnm hp)) s0 s1 s2 s3 s4 s5 s6 s7 ∧ s4 ≠ 4 := fcX (ys := [s0, s1, s2, s3, s4, s5, s6, s7]) (hFc _ (.head _)) ⟨sE_V rfl, sE_V rfl, sE_V rfl, sE_V rfl, sE_V rfl, sE_V rfl, sE_V rfl, sE_V rfl, trivial⟩
  have f1 : (1 : Int) = dp s3 + 1 := fcX (ys := [s3, 1]) (hFc _ (.tail _ (.head _))) ⟨sE_V rfl, sE_k _ _, trivial⟩
  have f2 : s8 = nr s3 := fcX (ys := [s3, s8]) (hFc _ (.tail _ (.tail _ (.head _)))) ⟨sE_V rfl, sE_V rfl, trivial⟩
  have ud : dp s3 ≤ 7 := by omega
  have ut := dp_lt (t := s3) (by omega) ud
  exact poX (.head _) rfl hR (all_nil) (all_nil) (all_cons ⟨[s6, 2, (s2 + 1), s3], ⟨sE_V rfl, sE_k _ _, sEv (y' := ((1 : Int) + ((1 : Int) * s2 + 0))) rfl (by omega), sE_V rfl, trivial⟩, (show SG (XT hp) (nmR hp (xnm hp)) s6 (2 : Int) (s2 + 1) s3 from s0_for f0.1 (by omega) (by omega) (by omega) (by omega) ud)⟩ (all_nil))
theorem rl342 : ruOk fFS gR342 := by
  intro r hp hO hN hH
  obtain ⟨s0, s1, s2, s3, s4, s5, s6, s7, s8, rfl⟩ := len9 (show r.length = 9 from hN.1)
  have hR := hN.2.1.1
  have hIv : ∀ q ∈ ([(0, .negSucc 2147483647, .ofNat 2147483647), (1, .ofNat 0, .ofNat 0), (2, .ofNat 0, .ofNat 19), (3, .ofNat 0, .ofNat 6560), (4, .ofNat 1, .ofNat 1), (5, .negSucc 2147483647, .ofNat 2147483647), (6, .negSucc 2147483647, .ofNat 2147483647), (7, .ofNat 24, .ofNat 24), (8, .negSucc 2147483647, .ofNat 2147483647)] : sIv), ∃ x, ([s0, s1, s2, s3, s4, s5, s6, s7, s8] : List Int)[q.1]? = some x ∧ q.2.1 ≤ x ∧ x ≤ q.2.2 := hN.2.1.2
  have b1 : (0 : Int) ≤ s1 ∧ s1 ≤ (0 : Int) := ivX (q := (1, .ofNat 0, .ofNat 0)) (y := s1) (hIv _ (.tail _ (.head _))) rfl
  have b2 : (0 : Int) ≤ s2 ∧ s2 ≤ (19 : Int) := ivX (q := (2, .ofNat 0, .ofNat 19)) (y := s2) (hIv _ (.tail _ (.tail _ (.head _)))) rfl
  have b3 : (0 : Int) ≤ s3 ∧ s3 ≤ (6560 : Int) := ivX (q := (3, .ofNat 0, .ofNat 6560)) (y := s3) (hIv _ (.tail _ (.tail _ (.tail _ (.head _))))) rfl
  have b4 : (1 : Int) ≤ s4 ∧ s4 ≤ (1 : Int) := ivX (q := (4, .ofNat 1, .ofNat 1)) (y := s4) (hIv _ (.tail _ (.tail _ (.tail _ (.tail _ (.head _)))))) rfl
  have b7 : (24 : Int) ≤ s7 ∧ s7 ≤ (24 : Int) := ivX (q := (7, .ofNat 24, .ofNat 24)) (y := s7) (hIv _ (.tail _ (.tail _ (.tail _ (.tail _ (.tail _ (.tail _ (.tail _ (.head _))))))))) rfl
  have hRf : ∀ q ∈ ([((40, .ofNat 173, []), (.ofNat 9, []), 1, .ofNat 0, [])] : List sRf), rfOk [s0, s1, s2, s3, s4, s5, s6, s7, s8] hp q := hH.1
  have h0 : hI hp 173 9 = 0 := rfI0 (hRf _ (.head _)) (sE_k _ _) (sE_k _ _) (sE_k _ _)
  have hFc : ∀ q ∈ ([(192, [(.ofNat 0, [(.ofNat 1, 0)]), (.ofNat 0, [(.ofNat 1, 1)]), (.ofNat 0, [(.ofNat 1, 2)]), (.ofNat 0, [(.ofNat 1, 3)]), (.ofNat 0, [(.ofNat 1, 4)]), (.ofNat 0, [(.ofNat 1, 5)]), (.ofNat 0, [(.ofNat 1, 6)]), (.ofNat 0, [(.ofNat 1, 7)])]), (199, [(.ofNat 0, [(.ofNat 1, 3)]), (.ofNat 2, [])]), (200, [(.ofNat 0, [(.ofNat 1, 3)]), (.ofNat 0, [(.ofNat 1, 8)])])] : List sFc), fcOk fFS [s0, s1, s2, s3, s4, s5, s6, s7, s8] hp q := hH.2
  have f0 : SHq (XT hp) (nmR hp (xnm hp)) s0 s1 s2 s3 s4 s5 s6 s7 ∧ s4 ≠ 4 := fcX (ys := [s0, s1, s2, s3, s4, s5, s6, s7]) (hFc _ (.head _)) ⟨sE_V rfl, sE_V rfl, sE_V rfl, sE_V rfl, sE_V rfl, sE_V rfl, sE_V rfl, sE_V rfl, trivial⟩
  have f1 : (2 : Int) = dp s3 + 1 := fcX (ys := [s3, 2]) (hFc _ (.tail _ (.head _))) ⟨sE_V rfl, sE_k _ _, trivial⟩
  have f2 : s8 = nr s3 := fcX (ys := [s3, s8]) (hFc _ (.tail _ (.tail _ (.head _)))) ⟨sE_V rfl, sE_V rfl, trivial⟩
  have ud : dp s3 ≤ 7 := by omega
  have ut := dp_lt (t := s3) (by omega) ud
  exact poX (.head _) rfl hR (all_nil) (all_nil) (all_cons ⟨[s6, 2, (s2 + 1), s3], ⟨sE_V rfl, sE_k _ _, sEv (y' := ((1 : Int) + ((1 : Int) * s2 + 0))) rfl (by omega), sE_V rfl, trivial⟩, (show SG (XT hp) (nmR hp (xnm hp)) s6 (2 : Int) (s2 + 1) s3 from s0_for f0.1 (by omega) (by omega) (by omega) (by omega) ud)⟩ (all_nil))
theorem rl343 : ruOk fFS gR343 := by
  intro r hp hO hN hH
  obtain ⟨s0, s1, s2, s3, s4, s5, s6, s7, s8, rfl⟩ := len9 (show r.length = 9 from hN.1)
  have hR := hN.2.1.1
  have hIv : ∀ q ∈ ([(0, .negSucc 2147483647, .ofNat 2147483647), (1, .ofNat 0, .ofNat 0), (2, .ofNat 0, .ofNat 19), (3, .ofNat 0, .ofNat 6560), (4, .ofNat 1, .ofNat 1), (5, .negSucc 2147483647, .ofNat 2147483647), (6, .negSucc 2147483647, .ofNat 2147483647), (7, .ofNat 24, .ofNat 24), (8, .negSucc 2147483647, .ofNat 2147483647)] : sIv), ∃ x, ([s0, s1, s2, s3, s4, s5, s6, s7, s8] : List Int)[q.1]? = some x ∧ q.2.1 ≤ x ∧ x ≤ q.2.2 := hN.2.1.2
  have b1 : (0 : Int) ≤ s1 ∧ s1 ≤ (0 : Int) := ivX (q := (1, .ofNat 0, .ofNat 0)) (y := s1) (hIv _ (.tail _ (.head _))) rfl
  have b2 : (0 : Int) ≤ s2 ∧ s2 ≤ (19 : Int) := ivX (q := (2, .ofNat 0, .ofNat 19)) (y := s2) (hIv _ (.tail _ (.tail _ (.head _)))) rfl
  have b3 : (0 : Int) ≤ s3 ∧ s3 ≤ (6560 : Int) := ivX (q := (3, .ofNat 0, .ofNat 6560)) (y := s3) (hIv _ (.tail _ (.tail _ (.tail _ (.head _))))) rfl
  have b4 : (1 : Int) ≤ s4 ∧ s4 ≤ (1 : Int) := ivX (q := (4, .ofNat 1, .ofNat 1)) (y := s4) (hIv _ (.tail _ (.tail _ (.tail _ (.tail _ (.head _)))))) rfl
  have b7 : (24 : Int) ≤ s7 ∧ s7 ≤ (24 : Int) := ivX (q := (7, .ofNat 24, .ofNat 24)) (y := s7) (hIv _ (.tail _ (.tail _ (.tail _ (.tail _ (.tail _ (.tail _ (.tail _ (.head _))))))))) rfl
  have hRf : ∀ q ∈ ([((40, .ofNat 173, []), (.ofNat 9, []), 1, .ofNat 0, [])] : List sRf), rfOk [s0, s1, s2, s3, s4, s5, s6, s7, s8] hp q := hH.1
  have h0 : hI hp 173 9 = 0 := rfI0 (hRf _ (.head _)) (sE_k _ _) (sE_k _ _) (sE_k _ _)
  have hFc : ∀ q ∈ ([(192, [(.ofNat 0, [(.ofNat 1, 0)]), (.ofNat 0, [(.ofNat 1, 1)]), (.ofNat 0, [(.ofNat 1, 2)]), (.ofNat 0, [(.ofNat 1, 3)]), (.ofNat 0, [(.ofNat 1, 4)]), (.ofNat 0, [(.ofNat 1, 5)]), (.ofNat 0, [(.ofNat 1, 6)]), (.ofNat 0, [(.ofNat 1, 7)])]), (199, [(.ofNat 0, [(.ofNat 1, 3)]), (.ofNat 3, [])]), (200, [(.ofNat 0, [(.ofNat 1, 3)]), (.ofNat 0, [(.ofNat 1, 8)])])] : List sFc), fcOk fFS [s0, s1, s2, s3, s4, s5, s6, s7, s8] hp q := hH.2
  have f0 : SHq (XT hp) (nmR hp (xnm hp)) s0 s1 s2 s3 s4 s5 s6 s7 ∧ s4 ≠ 4 := fcX (ys := [s0, s1, s2, s3, s4, s5, s6, s7]) (hFc _ (.head _)) ⟨sE_V rfl, sE_V rfl, sE_V rfl, sE_V rfl, sE_V rfl, sE_V rfl, sE_V rfl, sE_V rfl, trivial⟩
  have f1 : (3 : Int) = dp s3 + 1 := fcX (ys := [s3, 3]) (hFc _ (.tail _ (.head _))) ⟨sE_V rfl, sE_k _ _, trivial⟩
  have f2 : s8 = nr s3 := fcX (ys := [s3, s8]) (hFc _ (.tail _ (.tail _ (.head _)))) ⟨sE_V rfl, sE_V rfl, trivial⟩
  have ud : dp s3 ≤ 7 := by omega
  have ut := dp_lt (t := s3) (by omega) ud
  exact poX (.head _) rfl hR (all_nil) (all_nil) (all_cons ⟨[s6, 2, (s2 + 1), s3], ⟨sE_V rfl, sE_k _ _, sEv (y' := ((1 : Int) + ((1 : Int) * s2 + 0))) rfl (by omega), sE_V rfl, trivial⟩, (show SG (XT hp) (nmR hp (xnm hp)) s6 (2 : Int) (s2 + 1) s3 from s0_for f0.1 (by omega) (by omega) (by omega) (by omega) ud)⟩ (all_nil))
theorem rl344 : ruOk fFS gR344 := by
  intro r hp hO hN hH
  obtain ⟨s0, s1, s2, s3, s4, s5, s6, s7, s8, rfl⟩ := len9 (show r.length = 9 from hN.1)
  have hR := hN.2.1.1
  have hIv : ∀ q ∈ ([(0, .negSucc 2147483647, .ofNat 2147483647), (1, .ofNat 0, .ofNat 0), (2, .ofNat 0, .ofNat 19), (3, .ofNat 0, .ofNat 6560), (4, .ofNat 1, .ofNat 1), (5, .negSucc 2147483647, .ofNat 2147483647), (6, .negSucc 2147483647, .ofNat 2147483647), (7, .ofNat 24, .ofNat 24), (8, .negSucc 2147483647, .ofNat 2147483647)] : sIv), ∃ x, ([s0, s1, s2, s3, s4, s5, s6, s7, s8] : List Int)[q.1]? = some x ∧ q.2.1 ≤ x ∧ x ≤ q.2.2 := hN.2.1.2
  have b1 : (0 : Int) ≤ s1 ∧ s1 ≤ (0 : Int) := ivX (q := (1, .ofNat 0, .ofNat 0)) (y := s1) (hIv _ (.tail _ (.head _))) rfl
  have b2 : (0 : Int) ≤ s2 ∧ s2 ≤ (19 : Int) := ivX (q := (2, .ofNat 0, .ofNat 19)) (y := s2) (hIv _ (.tail _ (.tail _ (.head _)))) rfl
  have b3 : (0 : Int) ≤ s3 ∧ s3 ≤ (6560 : Int) := ivX (q := (3, .ofNat 0, .ofNat 6560)) (y := s3) (hIv _ (.tail _ (.tail _ (.tail _ (.head _))))) rfl
  have b4 : (1 : Int) ≤ s4 ∧ s4 ≤ (1 : Int) := ivX (q := (4, .ofNat 1, .ofNat 1)) (y := s4) (hIv _ (.tail _ (.tail _ (.tail _ (.tail _ (.head _)))))) rfl
  have b7 : (24 : Int) ≤ s7 ∧ s7 ≤ (24 : Int) := ivX (q := (7, .ofNat 24, .ofNat 24)) (y := s7) (hIv _ (.tail _ (.tail _ (.tail _ (.tail _ (.tail _ (.tail _ (.tail _ (.head _))))))))) rfl
  have hRf : ∀ q ∈ ([((40, .ofNat 173, []), (.ofNat 9, []), 1, .ofNat 0, [])] : List sRf), rfOk [s0, s1, s2, s3, s4, s5, s6, s7, s8] hp q := hH.1
  have h0 : hI hp 173 9 = 0 := rfI0 (hRf _ (.head _)) (sE_k _ _) (sE_k _ _) (sE_k _ _)
  have hFc : ∀ q ∈ ([(192, [(.ofNat 0, [(.ofNat 1, 0)]), (.ofNat 0, [(.ofNat 1, 1)]), (.ofNat 0, [(.ofNat 1, 2)]), (.ofNat 0, [(.ofNat 1, 3)]), (.ofNat 0, [(.ofNat 1, 4)]), (.ofNat 0, [(.ofNat 1, 5)]), (.ofNat 0, [(.ofNat 1, 6)]), (.ofNat 0, [(.ofNat 1, 7)])]), (199, [(.ofNat 0, [(.ofNat 1, 3)]), (.ofNat 4, [])]), (200, [(.ofNat 0, [(.ofNat 1, 3)]), (.ofNat 0, [(.ofNat 1, 8)])])] : List sFc), fcOk fFS [s0, s1, s2, s3, s4, s5, s6, s7, s8] hp q := hH.2
  have f0 : SHq (XT hp) (nmR hp (xnm hp)) s0 s1 s2 s3 s4 s5 s6 s7 ∧ s4 ≠ 4 := fcX (ys := [s0, s1, s2, s3, s4, s5, s6, s7]) (hFc _ (.head _)) ⟨sE_V rfl, sE_V rfl, sE_V rfl, sE_V rfl, sE_V rfl, sE_V rfl, sE_V rfl, sE_V rfl, trivial⟩
  have f1 : (4 : Int) = dp s3 + 1 := fcX (ys := [s3, 4]) (hFc _ (.tail _ (.head _))) ⟨sE_V rfl, sE_k _ _, trivial⟩
  have f2 : s8 = nr s3 := fcX (ys := [s3, s8]) (hFc _ (.tail _ (.tail _ (.head _)))) ⟨sE_V rfl, sE_V rfl, trivial⟩
  have ud : dp s3 ≤ 7 := by omega
  have ut := dp_lt (t := s3) (by omega) ud
  exact poX (.head _) rfl hR (all_nil) (all_nil) (all_cons ⟨[s6, 2, (s2 + 1), s3], ⟨sE_V rfl, sE_k _ _, sEv (y' := ((1 : Int) + ((1 : Int) * s2 + 0))) rfl (by omega), sE_V rfl, trivial⟩, (show SG (XT hp) (nmR hp (xnm hp)) s6 (2 : Int) (s2 + 1) s3 from s0_for f0.1 (by omega) (by omega) (by omega) (by omega) ud)⟩ (all_nil))
theorem rl345 : ruOk fFS gR345 := by
  intro r hp hO hN hH
  obtain ⟨s0, s1, s2, s3, s4, s5, s6, s7, s8, rfl⟩ := len9 (show r.length = 9 from hN.1)
  have hR := hN.2.1.1
  have hIv : ∀ q ∈ ([(0, .negSucc 2147483647, .ofNat 2147483647), (1, .ofNat 0, .ofNat 0), (2, .ofNat 0, .ofNat 19), (3, .ofNat 0, .ofNat 6560), (4, .ofNat 1, .ofNat 1), (5, .negSucc 2147483647, .ofNat 2147483647), (6, .negSucc 2147483647, .ofNat 2147483647), (7, .ofNat 24, .ofNat 24), (8, .negSucc 2147483647, .ofNat 2147483647)] : sIv), ∃ x, ([s0, s1, s2, s3, s4, s5, s6, s7, s8] : List Int)[q.1]? = some x ∧ q.2.1 ≤ x ∧ x ≤ q.2.2 := hN.2.1.2
  have b1 : (0 : Int) ≤ s1 ∧ s1 ≤ (0 : Int) := ivX (q := (1, .ofNat 0, .ofNat 0)) (y := s1) (hIv _ (.tail _ (.head _))) rfl
  have b2 : (0 : Int) ≤ s2 ∧ s2 ≤ (19 : Int) := ivX (q := (2, .ofNat 0, .ofNat 19)) (y := s2) (hIv _ (.tail _ (.tail _ (.head _)))) rfl
  have b3 : (0 : Int) ≤ s3 ∧ s3 ≤ (6560 : Int) := ivX (q := (3, .ofNat 0, .ofNat 6560)) (y := s3) (hIv _ (.tail _ (.tail _ (.tail _ (.head _))))) rfl
  have b4 : (1 : Int) ≤ s4 ∧ s4 ≤ (1 : Int) := ivX (q := (4, .ofNat 1, .ofNat 1)) (y := s4) (hIv _ (.tail _ (.tail _ (.tail _ (.tail _ (.head _)))))) rfl
  have b7 : (24 : Int) ≤ s7 ∧ s7 ≤ (24 : Int) := ivX (q := (7, .ofNat 24, .ofNat 24)) (y := s7) (hIv _ (.tail _ (.tail _ (.tail _ (.tail _ (.tail _ (.tail _ (.tail _ (.head _))))))))) rfl
  have hRf : ∀ q ∈ ([((40, .ofNat 173, []), (.ofNat 9, []), 1, .ofNat 0, [])] : List sRf), rfOk [s0, s1, s2, s3, s4, s5, s6, s7, s8] hp q := hH.1
  have h0 : hI hp 173 9 = 0 := rfI0 (hRf _ (.head _)) (sE_k _ _) (sE_k _ _) (sE_k _ _)
  have hFc : ∀ q ∈ ([(192, [(.ofNat 0, [(.ofNat 1, 0)]), (.ofNat 0, [(.ofNat 1, 1)]), (.ofNat 0, [(.ofNat 1, 2)]), (.ofNat 0, [(.ofNat 1, 3)]), (.ofNat 0, [(.ofNat 1, 4)]), (.ofNat 0, [(.ofNat 1, 5)]), (.ofNat 0, [(.ofNat 1, 6)]), (.ofNat 0, [(.ofNat 1, 7)])]), (199, [(.ofNat 0, [(.ofNat 1, 3)]), (.ofNat 5, [])]), (200, [(.ofNat 0, [(.ofNat 1, 3)]), (.ofNat 0, [(.ofNat 1, 8)])])] : List sFc), fcOk fFS [s0, s1, s2, s3, s4, s5, s6, s7, s8] hp q := hH.2
  have f0 : SHq (XT hp) (nmR hp (xnm hp)) s0 s1 s2 s3 s4 s5 s6 s7 ∧ s4 ≠ 4 := fcX (ys := [s0, s1, s2, s3, s4, s5, s6, s7]) (hFc _ (.head _)) ⟨sE_V rfl, sE_V rfl, sE_V rfl, sE_V rfl, sE_V rfl, sE_V rfl, sE_V rfl, sE_V rfl, trivial⟩
  have f1 : (5 : Int) = dp s3 + 1 := fcX (ys := [s3, 5]) (hFc _ (.tail _ (.head _))) ⟨sE_V rfl, sE_k _ _, trivial⟩
  have f2 : s8 = nr s3 := fcX (ys := [s3, s8]) (hFc _ (.tail _ (.tail _ (.head _)))) ⟨sE_V rfl, sE_V rfl, trivial⟩
  have ud : dp s3 ≤ 7 := by omega
  have ut := dp_lt (t := s3) (by omega) ud
  exact poX (.head _) rfl hR (all_nil) (all_nil) (all_cons ⟨[s6, 2, (s2 + 1), s3], ⟨sE_V rfl, sE_k _ _, sEv (y' := ((1 : Int) + ((1 : Int) * s2 + 0))) rfl (by omega), sE_V rfl, trivial⟩, (show SG (XT hp) (nmR hp (xnm hp)) s6 (2 : Int) (s2 + 1) s3 from s0_for f0.1 (by omega) (by omega) (by omega) (by omega) ud)⟩ (all_nil))
theorem rl346 : ruOk fFS gR346 := by
  intro r hp hO hN hH
  obtain ⟨s0, s1, s2, s3, s4, s5, s6, s7, s8, rfl⟩ := len9 (show r.length = 9 from hN.1)
  have hR := hN.2.1.1
  have hIv : ∀ q ∈ ([(0, .negSucc 2147483647, .ofNat 2147483647), (1, .ofNat 0, .ofNat 0), (2, .ofNat 0, .ofNat 19), (3, .ofNat 0, .ofNat 6560), (4, .ofNat 1, .ofNat 1), (5, .negSucc 2147483647, .ofNat 2147483647), (6, .negSucc 2147483647, .ofNat 2147483647), (7, .ofNat 24, .ofNat 24), (8, .negSucc 2147483647, .ofNat 2147483647)] : sIv), ∃ x, ([s0, s1, s2, s3, s4, s5, s6, s7, s8] : List Int)[q.1]? = some x ∧ q.2.1 ≤ x ∧ x ≤ q.2.2 := hN.2.1.2
  have b1 : (0 : Int) ≤ s1 ∧ s1 ≤ (0 : Int) := ivX (q := (1, .ofNat 0, .ofNat 0)) (y := s1) (hIv _ (.tail _ (.head _))) rfl
  have b2 : (0 : Int) ≤ s2 ∧ s2 ≤ (19 : Int) := ivX (q := (2, .ofNat 0, .ofNat 19)) (y := s2) (hIv _ (.tail _ (.tail _ (.head _)))) rfl
  have b3 : (0 : Int) ≤ s3 ∧ s3 ≤ (6560 : Int) := ivX (q := (3, .ofNat 0, .ofNat 6560)) (y := s3) (hIv _ (.tail _ (.tail _ (.tail _ (.head _))))) rfl
  have b4 : (1 : Int) ≤ s4 ∧ s4 ≤ (1 : Int) := ivX (q := (4, .ofNat 1, .ofNat 1)) (y := s4) (hIv _ (.tail _ (.tail _ (.tail _ (.tail _ (.head _)))))) rfl
  have b7 : (24 : Int) ≤ s7 ∧ s7 ≤ (24 : Int) := ivX (q := (7, .ofNat 24, .ofNat 24)) (y := s7) (hIv _ (.tail _ (.tail _ (.tail _ (.tail _ (.tail _ (.tail _ (.tail _ (.head _))))))))) rfl
  have hRf : ∀ q ∈ ([((40, .ofNat 173, []), (.ofNat 9, []), 1, .ofNat 0, [])] : List sRf), rfOk [s0, s1, s2, s3, s4, s5, s6, s7, s8] hp q := hH.1
  have h0 : hI hp 173 9 = 0 := rfI0 (hRf _ (.head _)) (sE_k _ _) (sE_k _ _) (sE_k _ _)
  have hFc : ∀ q ∈ ([(192, [(.ofNat 0, [(.ofNat 1, 0)]), (.ofNat 0, [(.ofNat 1, 1)]), (.ofNat 0, [(.ofNat 1, 2)]), (.ofNat 0, [(.ofNat 1, 3)]), (.ofNat 0, [(.ofNat 1, 4)]), (.ofNat 0, [(.ofNat 1, 5)]), (.ofNat 0, [(.ofNat 1, 6)]), (.ofNat 0, [(.ofNat 1, 7)])]), (199, [(.ofNat 0, [(.ofNat 1, 3)]), (.ofNat 6, [])]), (200, [(.ofNat 0, [(.ofNat 1, 3)]), (.ofNat 0, [(.ofNat 1, 8)])])] : List sFc), fcOk fFS [s0, s1, s2, s3, s4, s5, s6, s7, s8] hp q := hH.2
  have f0 : SHq (XT hp) (nmR hp (xnm hp)) s0 s1 s2 s3 s4 s5 s6 s7 ∧ s4 ≠ 4 := fcX (ys := [s0, s1, s2, s3, s4, s5, s6, s7]) (hFc _ (.head _)) ⟨sE_V rfl, sE_V rfl, sE_V rfl, sE_V rfl, sE_V rfl, sE_V rfl, sE_V rfl, sE_V rfl, trivial⟩
  have f1 : (6 : Int) = dp s3 + 1 := fcX (ys := [s3, 6]) (hFc _ (.tail _ (.head _))) ⟨sE_V rfl, sE_k _ _, trivial⟩
  have f2 : s8 = nr s3 := fcX (ys := [s3, s8]) (hFc _ (.tail _ (.tail _ (.head _)))) ⟨sE_V rfl, sE_V rfl, trivial⟩
  have ud : dp s3 ≤ 7 := by omega
  have ut := dp_lt (t := s3) (by omega) ud
  exact poX (.head _) rfl hR (all_nil) (all_nil) (all_cons ⟨[s6, 2, (s2 + 1), s3], ⟨sE_V rfl, sE_k _ _, sEv (y' := ((1 : Int) + ((1 : Int) * s2 + 0))) rfl (by omega), sE_V rfl, trivial⟩, (show SG (XT hp) (nmR hp (xnm hp)) s6 (2 : Int) (s2 + 1) s3 from s0_for f0.1 (by omega) (by omega) (by omega) (by omega) ud)⟩ (all_nil))
theorem rl347 : ruOk fFS gR347 := by
  intro r hp hO hN hH
  obtain ⟨s0, s1, s2, s3, s4, s5, s6, s7, s8, rfl⟩ := len9 (show r.length = 9 from hN.1)
  have hR := hN.2.1.1
  have hIv : ∀ q ∈ ([(0, .negSucc 2147483647, .ofNat 2147483647), (1, .ofNat 0, .ofNat 0), (2, .ofNat 0, .ofNat 19), (3, .ofNat 0, .ofNat 6560), (4, .ofNat 1, .ofNat 1), (5, .negSucc 2147483647, .ofNat 2147483647), (6, .negSucc 2147483647, .ofNat 2147483647), (7, .ofNat 24, .ofNat 24), (8, .negSucc 2147483647, .ofNat 2147483647)] : sIv), ∃ x, ([s0, s1, s2, s3, s4, s5, s6, s7, s8] : List Int)[q.1]? = some x ∧ q.2.1 ≤ x ∧ x ≤ q.2.2 := hN.2.1.2
  have b1 : (0 : Int) ≤ s1 ∧ s1 ≤ (0 : Int) := ivX (q := (1, .ofNat 0, .ofNat 0)) (y := s1) (hIv _ (.tail _ (.head _))) rfl
  have b2 : (0 : Int) ≤ s2 ∧ s2 ≤ (19 : Int) := ivX (q := (2, .ofNat 0, .ofNat 19)) (y := s2) (hIv _ (.tail _ (.tail _ (.head _)))) rfl
  have b3 : (0 : Int) ≤ s3 ∧ s3 ≤ (6560 : Int) := ivX (q := (3, .ofNat 0, .ofNat 6560)) (y := s3) (hIv _ (.tail _ (.tail _ (.tail _ (.head _))))) rfl
  have b4 : (1 : Int) ≤ s4 ∧ s4 ≤ (1 : Int) := ivX (q := (4, .ofNat 1, .ofNat 1)) (y := s4) (hIv _ (.tail _ (.tail _ (.tail _ (.tail _ (.head _)))))) rfl
  have b7 : (24 : Int) ≤ s7 ∧ s7 ≤ (24 : Int) := ivX (q := (7, .ofNat 24, .ofNat 24)) (y := s7) (hIv _ (.tail _ (.tail _ (.tail _ (.tail _ (.tail _ (.tail _ (.tail _ (.head _))))))))) rfl
  have hRf : ∀ q ∈ ([((40, .ofNat 173, []), (.ofNat 9, []), 1, .ofNat 0, [])] : List sRf), rfOk [s0, s1, s2, s3, s4, s5, s6, s7, s8] hp q := hH.1
  have h0 : hI hp 173 9 = 0 := rfI0 (hRf _ (.head _)) (sE_k _ _) (sE_k _ _) (sE_k _ _)
  have hFc : ∀ q ∈ ([(192, [(.ofNat 0, [(.ofNat 1, 0)]), (.ofNat 0, [(.ofNat 1, 1)]), (.ofNat 0, [(.ofNat 1, 2)]), (.ofNat 0, [(.ofNat 1, 3)]), (.ofNat 0, [(.ofNat 1, 4)]), (.ofNat 0, [(.ofNat 1, 5)]), (.ofNat 0, [(.ofNat 1, 6)]), (.ofNat 0, [(.ofNat 1, 7)])]), (199, [(.ofNat 0, [(.ofNat 1, 3)]), (.ofNat 7, [])]), (200, [(.ofNat 0, [(.ofNat 1, 3)]), (.ofNat 0, [(.ofNat 1, 8)])])] : List sFc), fcOk fFS [s0, s1, s2, s3, s4, s5, s6, s7, s8] hp q := hH.2
  have f0 : SHq (XT hp) (nmR hp (xnm hp)) s0 s1 s2 s3 s4 s5 s6 s7 ∧ s4 ≠ 4 := fcX (ys := [s0, s1, s2, s3, s4, s5, s6, s7]) (hFc _ (.head _)) ⟨sE_V rfl, sE_V rfl, sE_V rfl, sE_V rfl, sE_V rfl, sE_V rfl, sE_V rfl, sE_V rfl, trivial⟩
  have f1 : (7 : Int) = dp s3 + 1 := fcX (ys := [s3, 7]) (hFc _ (.tail _ (.head _))) ⟨sE_V rfl, sE_k _ _, trivial⟩
  have f2 : s8 = nr s3 := fcX (ys := [s3, s8]) (hFc _ (.tail _ (.tail _ (.head _)))) ⟨sE_V rfl, sE_V rfl, trivial⟩
  have ud : dp s3 ≤ 7 := by omega
  have ut := dp_lt (t := s3) (by omega) ud
  exact poX (.head _) rfl hR (all_nil) (all_nil) (all_cons ⟨[s6, 2, (s2 + 1), s3], ⟨sE_V rfl, sE_k _ _, sEv (y' := ((1 : Int) + ((1 : Int) * s2 + 0))) rfl (by omega), sE_V rfl, trivial⟩, (show SG (XT hp) (nmR hp (xnm hp)) s6 (2 : Int) (s2 + 1) s3 from s0_for f0.1 (by omega) (by omega) (by omega) (by omega) ud)⟩ (all_nil))
theorem rl348 : ruOk fFS gR348 := by
  intro r hp hO hN hH
  obtain ⟨s0, s1, s2, s3, s4, s5, s6, s7, s8, rfl⟩ := len9 (show r.length = 9 from hN.1)
  have hR := hN.2.1.1
  have hIv : ∀ q ∈ ([(0, .negSucc 2147483647, .ofNat 2147483647), (1, .ofNat 0, .ofNat 0), (2, .ofNat 0, .ofNat 19), (3, .ofNat 0, .ofNat 6560), (4, .ofNat 1, .ofNat 1), (5, .negSucc 2147483647, .ofNat 2147483647), (6, .negSucc 2147483647, .ofNat 2147483647), (7, .ofNat 24, .ofNat 24), (8, .negSucc 2147483647, .ofNat 2147483647)] : sIv), ∃ x, ([s0, s1, s2, s3, s4, s5, s6, s7, s8] : List Int)[q.1]? = some x ∧ q.2.1 ≤ x ∧ x ≤ q.2.2 := hN.2.1.2
  have b1 : (0 : Int) ≤ s1 ∧ s1 ≤ (0 : Int) := ivX (q := (1, .ofNat 0, .ofNat 0)) (y := s1) (hIv _ (.tail _ (.head _))) rfl
  have b2 : (0 : Int) ≤ s2 ∧ s2 ≤ (19 : Int) := ivX (q := (2, .ofNat 0, .ofNat 19)) (y := s2) (hIv _ (.tail _ (.tail _ (.head _)))) rfl
  have b3 : (0 : Int) ≤ s3 ∧ s3 ≤ (6560 : Int) := ivX (q := (3, .ofNat 0, .ofNat 6560)) (y := s3) (hIv _ (.tail _ (.tail _ (.tail _ (.head _))))) rfl
  have b4 : (1 : Int) ≤ s4 ∧ s4 ≤ (1 : Int) := ivX (q := (4, .ofNat 1, .ofNat 1)) (y := s4) (hIv _ (.tail _ (.tail _ (.tail _ (.tail _ (.head _)))))) rfl
  have b7 : (24 : Int) ≤ s7 ∧ s7 ≤ (24 : Int) := ivX (q := (7, .ofNat 24, .ofNat 24)) (y := s7) (hIv _ (.tail _ (.tail _ (.tail _ (.tail _ (.tail _ (.tail _ (.tail _ (.head _))))))))) rfl
  have hRf : ∀ q ∈ ([((40, .ofNat 173, []), (.ofNat 9, []), 1, .ofNat 0, [])] : List sRf), rfOk [s0, s1, s2, s3, s4, s5, s6, s7, s8] hp q := hH.1
  have h0 : hI hp 173 9 = 0 := rfI0 (hRf _ (.head _)) (sE_k _ _) (sE_k _ _) (sE_k _ _)
  have hFc : ∀ q ∈ ([(192, [(.ofNat 0, [(.ofNat 1, 0)]), (.ofNat 0, [(.ofNat 1, 1)]), (.ofNat 0, [(.ofNat 1, 2)]), (.ofNat 0, [(.ofNat 1, 3)]), (.ofNat 0, [(.ofNat 1, 4)]), (.ofNat 0, [(.ofNat 1, 5)]), (.ofNat 0, [(.ofNat 1, 6)]), (.ofNat 0, [(.ofNat 1, 7)])]), (199, [(.ofNat 0, [(.ofNat 1, 3)]), (.ofNat 8, [])]), (200, [(.ofNat 0, [(.ofNat 1, 3)]), (.ofNat 0, [(.ofNat 1, 8)])])] : List sFc), fcOk fFS [s0, s1, s2, s3, s4, s5, s6, s7, s8] hp q := hH.2
  have f0 : SHq (XT hp) (nmR hp (xnm hp)) s0 s1 s2 s3 s4 s5 s6 s7 ∧ s4 ≠ 4 := fcX (ys := [s0, s1, s2, s3, s4, s5, s6, s7]) (hFc _ (.head _)) ⟨sE_V rfl, sE_V rfl, sE_V rfl, sE_V rfl, sE_V rfl, sE_V rfl, sE_V rfl, sE_V rfl, trivial⟩
  have f1 : (8 : Int) = dp s3 + 1 := fcX (ys := [s3, 8]) (hFc _ (.tail _ (.head _))) ⟨sE_V rfl, sE_k _ _, trivial⟩
  have f2 : s8 = nr s3 := fcX (ys := [s3, s8]) (hFc _ (.tail _ (.tail _ (.head _)))) ⟨sE_V rfl, sE_V rfl, trivial⟩
  have ud : dp s3 ≤ 7 := by omega
  have ut := dp_lt (t := s3) (by omega) ud
  exact poX (.head _) rfl hR (all_nil) (all_nil) (all_cons ⟨[s6, 2, (s2 + 1), s3], ⟨sE_V rfl, sE_k _ _, sEv (y' := ((1 : Int) + ((1 : Int) * s2 + 0))) rfl (by omega), sE_V rfl, trivial⟩, (show SG (XT hp) (nmR hp (xnm hp)) s6 (2 : Int) (s2 + 1) s3 from s0_for f0.1 (by omega) (by omega) (by omega) (by omega) ud)⟩ (all_nil))
theorem rl349 : ruOk fFS gR349 := by
  intro r hp hO hN hH
  obtain ⟨s0, s1, s2, s3, s4, s5, s6, s7, s8, rfl⟩ := len9 (show r.length = 9 from hN.1)
  have hR := hN.2.1.1
  have hIv : ∀ q ∈ ([(0, .negSucc 2147483647, .ofNat 2147483647), (1, .ofNat 0, .ofNat 0), (2, .ofNat 0, .ofNat 19), (3, .ofNat 0, .ofNat 6560), (4, .ofNat 1, .ofNat 1), (5, .negSucc 2147483647, .ofNat 2147483647), (6, .negSucc 2147483647, .ofNat 2147483647), (7, .ofNat 25, .ofNat 25), (8, .negSucc 2147483647, .ofNat 2147483647)] : sIv), ∃ x, ([s0, s1, s2, s3, s4, s5, s6, s7, s8] : List Int)[q.1]? = some x ∧ q.2.1 ≤ x ∧ x ≤ q.2.2 := hN.2.1.2
  have b1 : (0 : Int) ≤ s1 ∧ s1 ≤ (0 : Int) := ivX (q := (1, .ofNat 0, .ofNat 0)) (y := s1) (hIv _ (.tail _ (.head _))) rfl
  have b2 : (0 : Int) ≤ s2 ∧ s2 ≤ (19 : Int) := ivX (q := (2, .ofNat 0, .ofNat 19)) (y := s2) (hIv _ (.tail _ (.tail _ (.head _)))) rfl
  have b3 : (0 : Int) ≤ s3 ∧ s3 ≤ (6560 : Int) := ivX (q := (3, .ofNat 0, .ofNat 6560)) (y := s3) (hIv _ (.tail _ (.tail _ (.tail _ (.head _))))) rfl
  have b4 : (1 : Int) ≤ s4 ∧ s4 ≤ (1 : Int) := ivX (q := (4, .ofNat 1, .ofNat 1)) (y := s4) (hIv _ (.tail _ (.tail _ (.tail _ (.tail _ (.head _)))))) rfl
  have b7 : (25 : Int) ≤ s7 ∧ s7 ≤ (25 : Int) := ivX (q := (7, .ofNat 25, .ofNat 25)) (y := s7) (hIv _ (.tail _ (.tail _ (.tail _ (.tail _ (.tail _ (.tail _ (.tail _ (.head _))))))))) rfl
  have hRf : ∀ q ∈ ([((40, .ofNat 173, []), (.ofNat 9, []), 1, .ofNat 0, [])] : List sRf), rfOk [s0, s1, s2, s3, s4, s5, s6, s7, s8] hp q := hH.1
  have h0 : hI hp 173 9 = 0 := rfI0 (hRf _ (.head _)) (sE_k _ _) (sE_k _ _) (sE_k _ _)
  have hFc : ∀ q ∈ ([(192, [(.ofNat 0, [(.ofNat 1, 0)]), (.ofNat 0, [(.ofNat 1, 1)]), (.ofNat 0, [(.ofNat 1, 2)]), (.ofNat 0, [(.ofNat 1, 3)]), (.ofNat 0, [(.ofNat 1, 4)]), (.ofNat 0, [(.ofNat 1, 5)]), (.ofNat 0, [(.ofNat 1, 6)]), (.ofNat 0, [(.ofNat 1, 7)])]), (199, [(.ofNat 0, [(.ofNat 1, 3)]), (.ofNat 1, [])]), (200, [(.ofNat 0, [(.ofNat 1, 3)]), (.ofNat 0, [(.ofNat 1, 8)])])] : List sFc), fcOk fFS [s0, s1, s2, s3, s4, s5, s6, s7, s8] hp q := hH.2
  have f0 : SHq (XT hp) (nmR hp (xnm hp)) s0 s1 s2 s3 s4 s5 s6 s7 ∧ s4 ≠ 4 := fcX (ys := [s0, s1, s2, s3, s4, s5, s6, s7]) (hFc _ (.head _)) ⟨sE_V rfl, sE_V rfl, sE_V rfl, sE_V rfl, sE_V rfl, sE_V rfl, sE_V rfl, sE_V rfl, trivial⟩
  have f1 : (1 : Int) = dp s3 + 1 := fcX (ys := [s3, 1]) (hFc _ (.tail _ (.head _))) ⟨sE_V rfl, sE_k _ _, trivial⟩
  have f2 : s8 = nr s3 := fcX (ys := [s3, s8]) (hFc _ (.tail _ (.tail _ (.head _)))) ⟨sE_V rfl, sE_V rfl, trivial⟩
  have ud : dp s3 ≤ 7 := by omega
  have ut := dp_lt (t := s3) (by omega) ud
  exact poX (.head _) rfl hR (all_nil) (all_nil) (all_cons ⟨[s6, 3, (s2 + 1), s3], ⟨sE_V rfl, sE_k _ _, sEv (y' := ((1 : Int) + ((1 : Int) * s2 + 0))) rfl (by omega), sE_V rfl, trivial⟩, (show SG (XT hp) (nmR hp (xnm hp)) s6 (3 : Int) (s2 + 1) s3 from s0_by f0.1 (by omega) (by omega) (by omega) (by omega) ud)⟩ (all_nil))
theorem rl350 : ruOk fFS gR350 := by
  intro r hp hO hN hH
  obtain ⟨s0, s1, s2, s3, s4, s5, s6, s7, s8, rfl⟩ := len9 (show r.length = 9 from hN.1)
  have hR := hN.2.1.1
  have hIv : ∀ q ∈ ([(0, .negSucc 2147483647, .ofNat 2147483647), (1, .ofNat 0, .ofNat 0), (2, .ofNat 0, .ofNat 19), (3, .ofNat 0, .ofNat 6560), (4, .ofNat 1, .ofNat 1), (5, .negSucc 2147483647, .ofNat 2147483647), (6, .negSucc 2147483647, .ofNat 2147483647), (7, .ofNat 25, .ofNat 25), (8, .negSucc 2147483647, .ofNat 2147483647)] : sIv), ∃ x, ([s0, s1, s2, s3, s4, s5, s6, s7, s8] : List Int)[q.1]? = some x ∧ q.2.1 ≤ x ∧ x ≤ q.2.2 := hN.2.1.2
  have b1 : (0 : Int) ≤ s1 ∧ s1 ≤ (0 : Int) := ivX (q := (1, .ofNat 0, .ofNat 0)) (y := s1) (hIv _ (.tail _ (.head _))) rfl
  have b2 : (0 : Int) ≤ s2 ∧ s2 ≤ (19 : Int) := ivX (q := (2, .ofNat 0, .ofNat 19)) (y := s2) (hIv _ (.tail _ (.tail _ (.head _)))) rfl
  have b3 : (0 : Int) ≤ s3 ∧ s3 ≤ (6560 : Int) := ivX (q := (3, .ofNat 0, .ofNat 6560)) (y := s3) (hIv _ (.tail _ (.tail _ (.tail _ (.head _))))) rfl
  have b4 : (1 : Int) ≤ s4 ∧ s4 ≤ (1 : Int) := ivX (q := (4, .ofNat 1, .ofNat 1)) (y := s4) (hIv _ (.tail _ (.tail _ (.tail _ (.tail _ (.head _)))))) rfl
  have b7 : (25 : Int) ≤ s7 ∧ s7 ≤ (25 : Int) := ivX (q := (7, .ofNat 25, .ofNat 25)) (y := s7) (hIv _ (.tail _ (.tail _ (.tail _ (.tail _ (.tail _ (.tail _ (.tail _ (.head _))))))))) rfl
  have hRf : ∀ q ∈ ([((40, .ofNat 173, []), (.ofNat 9, []), 1, .ofNat 0, [])] : List sRf), rfOk [s0, s1, s2, s3, s4, s5, s6, s7, s8] hp q := hH.1
  have h0 : hI hp 173 9 = 0 := rfI0 (hRf _ (.head _)) (sE_k _ _) (sE_k _ _) (sE_k _ _)
  have hFc : ∀ q ∈ ([(192, [(.ofNat 0, [(.ofNat 1, 0)]), (.ofNat 0, [(.ofNat 1, 1)]), (.ofNat 0, [(.ofNat 1, 2)]), (.ofNat 0, [(.ofNat 1, 3)]), (.ofNat 0, [(.ofNat 1, 4)]), (.ofNat 0, [(.ofNat 1, 5)]), (.ofNat 0, [(.ofNat 1, 6)]), (.ofNat 0, [(.ofNat 1, 7)])]), (199, [(.ofNat 0, [(.ofNat 1, 3)]), (.ofNat 2, [])]), (200, [(.ofNat 0, [(.ofNat 1, 3)]), (.ofNat 0, [(.ofNat 1, 8)])])] : List sFc), fcOk fFS [s0, s1, s2, s3, s4, s5, s6, s7, s8] hp q := hH.2
  have f0 : SHq (XT hp) (nmR hp (xnm hp)) s0 s1 s2 s3 s4 s5 s6 s7 ∧ s4 ≠ 4 := fcX (ys := [s0, s1, s2, s3, s4, s5, s6, s7]) (hFc _ (.head _)) ⟨sE_V rfl, sE_V rfl, sE_V rfl, sE_V rfl, sE_V rfl, sE_V rfl, sE_V rfl, sE_V rfl, trivial⟩
  have f1 : (2 : Int) = dp s3 + 1 := fcX (ys := [s3, 2]) (hFc _ (.tail _ (.head _))) ⟨sE_V rfl, sE_k _ _, trivial⟩
  have f2 : s8 = nr s3 := fcX (ys := [s3, s8]) (hFc _ (.tail _ (.tail _ (.head _)))) ⟨sE_V rfl, sE_V rfl, trivial⟩
  have ud : dp s3 ≤ 7 := by omega
  have ut := dp_lt (t := s3) (by omega) ud
  exact poX (.head _) rfl hR (all_nil) (all_nil) (all_cons ⟨[s6, 3, (s2 + 1), s3], ⟨sE_V rfl, sE_k _ _, sEv (y' := ((1 : Int) + ((1 : Int) * s2 + 0))) rfl (by omega), sE_V rfl, trivial⟩, (show SG (XT hp) (nmR hp (xnm hp)) s6 (3 : Int) (s2 + 1) s3 from s0_by f0.1 (by omega) (by omega) (by omega) (by omega) ud)⟩ (all_nil))
theorem rl351 : ruOk fFS gR351 := by
  intro r hp hO hN hH
  obtain ⟨s0, s1, s2, s3, s4, s5, s6, s7, s8, rfl⟩ := len9 (show r.length = 9 from hN.1)
  have hR := hN.2.1.1
  have hIv : ∀ q ∈ ([(0, .negSucc 2147483647, .ofNat 2147483647), (1, .ofNat 0, .ofNat 0), (2, .ofNat 0, .ofNat 19), (3, .ofNat 0, .ofNat 6560), (4, .ofNat 1, .ofNat 1), (5, .negSucc 2147483647, .ofNat 2147483647), (6, .negSucc 2147483647, .ofNat 2147483647), (7, .ofNat 25, .ofNat 25), (8, .negSucc 2147483647, .ofNat 2147483647)] : sIv), ∃ x, ([s0, s1, s2, s3, s4, s5, s6, s7, s8] : List Int)[q.1]? = some x ∧ q.2.1 ≤ x ∧ x ≤ q.2.2 := hN.2.1.2
  have b1 : (0 : Int) ≤ s1 ∧ s1 ≤ (0 : Int) := ivX (q := (1, .ofNat 0, .ofNat 0)) (y := s1) (hIv _ (.tail _ (.head _))) rfl
  have b2 : (0 : Int) ≤ s2 ∧ s2 ≤ (19 : Int) := ivX (q := (2, .ofNat 0, .ofNat 19)) (y := s2) (hIv _ (.tail _ (.tail _ (.head _)))) rfl
  have b3 : (0 : Int) ≤ s3 ∧ s3 ≤ (6560 : Int) := ivX (q := (3, .ofNat 0, .ofNat 6560)) (y := s3) (hIv _ (.tail _ (.tail _ (.tail _ (.head _))))) rfl
  have b4 : (1 : Int) ≤ s4 ∧ s4 ≤ (1 : Int) := ivX (q := (4, .ofNat 1, .ofNat 1)) (y := s4) (hIv _ (.tail _ (.tail _ (.tail _ (.tail _ (.head _)))))) rfl
  have b7 : (25 : Int) ≤ s7 ∧ s7 ≤ (25 : Int) := ivX (q := (7, .ofNat 25, .ofNat 25)) (y := s7) (hIv _ (.tail _ (.tail _ (.tail _ (.tail _ (.tail _ (.tail _ (.tail _ (.head _))))))))) rfl
  have hRf : ∀ q ∈ ([((40, .ofNat 173, []), (.ofNat 9, []), 1, .ofNat 0, [])] : List sRf), rfOk [s0, s1, s2, s3, s4, s5, s6, s7, s8] hp q := hH.1
  have h0 : hI hp 173 9 = 0 := rfI0 (hRf _ (.head _)) (sE_k _ _) (sE_k _ _) (sE_k _ _)
  have hFc : ∀ q ∈ ([(192, [(.ofNat 0, [(.ofNat 1, 0)]), (.ofNat 0, [(.ofNat 1, 1)]), (.ofNat 0, [(.ofNat 1, 2)]), (.ofNat 0, [(.ofNat 1, 3)]), (.ofNat 0, [(.ofNat 1, 4)]), (.ofNat 0, [(.ofNat 1, 5)]), (.ofNat 0, [(.ofNat 1, 6)]), (.ofNat 0, [(.ofNat 1, 7)])]), (199, [(.ofNat 0, [(.ofNat 1, 3)]), (.ofNat 3, [])]), (200, [(.ofNat 0, [(.ofNat 1, 3)]), (.ofNat 0, [(.ofNat 1, 8)])])] : List sFc), fcOk fFS [s0, s1, s2, s3, s4, s5, s6, s7, s8] hp q := hH.2
  have f0 : SHq (XT hp) (nmR hp (xnm hp)) s0 s1 s2 s3 s4 s5 s6 s7 ∧ s4 ≠ 4 := fcX (ys := [s0, s1, s2, s3, s4, s5, s6, s7]) (hFc _ (.head _)) ⟨sE_V rfl, sE_V rfl, sE_V rfl, sE_V rfl, sE_V rfl, sE_V rfl, sE_V rfl, sE_V rfl, trivial⟩
  have f1 : (3 : Int) = dp s3 + 1 := fcX (ys := [s3, 3]) (hFc _ (.tail _ (.head _))) ⟨sE_V rfl, sE_k _ _, trivial⟩
  have f2 : s8 = nr s3 := fcX (ys := [s3, s8]) (hFc _ (.tail _ (.tail _ (.head _)))) ⟨sE_V rfl, sE_V rfl, trivial⟩
  have ud : dp s3 ≤ 7 := by omega
  have ut := dp_lt (t := s3) (by omega) ud
  exact poX (.head _) rfl hR (all_nil) (all_nil) (all_cons ⟨[s6, 3, (s2 + 1), s3], ⟨sE_V rfl, sE_k _ _, sEv (y' := ((1 : Int) + ((1 : Int) * s2 + 0))) rfl (by omega), sE_V rfl, trivial⟩, (show SG (XT hp) (nmR hp (xnm hp)) s6 (3 : Int) (s2 + 1) s3 from s0_by f0.1 (by omega) (by omega) (by omega) (by omega) ud)⟩ (all_nil))
theorem rl352 : ruOk fFS gR352 := by
  intro r hp hO hN hH
  obtain ⟨s0, s1, s2, s3, s4, s5, s6, s7, s8, rfl⟩ := len9 (show r.length = 9 from hN.1)
  have hR := hN.2.1.1
  have hIv : ∀ q ∈ ([(0, .negSucc 2147483647, .ofNat 2147483647), (1, .ofNat 0, .ofNat 0), (2, .ofNat 0, .ofNat 19), (3, .ofNat 0, .ofNat 6560), (4, .ofNat 1, .ofNat 1), (5, .negSucc 2147483647, .ofNat 2147483647), (6, .negSucc 2147483647, .ofNat 2147483647), (7, .ofNat 25, .ofNat 25), (8, .negSucc 2147483647, .ofNat 2147483647)] : sIv), ∃ x, ([s0, s1, s2, s3, s4, s5, s6, s7, s8] : List Int)[q.1]? = some x ∧ q.2.1 ≤ x ∧ x ≤ q.2.2 := hN.2.1.2
  have b1 : (0 : Int) ≤ s1 ∧ s1 ≤ (0 : Int) := ivX (q := (1, .ofNat 0, .ofNat 0)) (y := s1) (hIv _ (.tail _ (.head _))) rfl
  have b2 : (0 : Int) ≤ s2 ∧ s2 ≤ (19 : Int) := ivX (q := (2, .ofNat 0, .ofNat 19)) (y := s2) (hIv _ (.tail _ (.tail _ (.head _)))) rfl
  have b3 : (0 : Int) ≤ s3 ∧ s3 ≤ (6560 : Int) := ivX (q := (3, .ofNat 0, .ofNat 6560)) (y := s3) (hIv _ (.tail _ (.tail _ (.tail _ (.head _))))) rfl
  have b4 : (1 : Int) ≤ s4 ∧ s4 ≤ (1 : Int) := ivX (q := (4, .ofNat 1, .ofNat 1)) (y := s4) (hIv _ (.tail _ (.tail _ (.tail _ (.tail _ (.head _)))))) rfl
  have b7 : (25 : Int) ≤ s7 ∧ s7 ≤ (25 : Int) := ivX (q := (7, .ofNat 25, .ofNat 25)) (y := s7) (hIv _ (.tail _ (.tail _ (.tail _ (.tail _ (.tail _ (.tail _ (.tail _ (.head _))))))))) rfl
  have hRf : ∀ q ∈ ([((40, .ofNat 173, []), (.ofNat 9, []), 1, .ofNat 0, [])] : List sRf), rfOk [s0, s1, s2, s3, s4, s5, s6, s7, s8] hp q := hH.1
  have h0 : hI hp 173 9 = 0 := rfI0 (hRf _ (.head _)) (sE_k _ _) (sE_k _ _) (sE_k _ _)
  have hFc : ∀ q ∈ ([(192, [(.ofNat 0, [(.ofNat 1, 0)]), (.ofNat 0, [(.ofNat 1, 1)]), (.ofNat 0, [(.ofNat 1, 2)]), (.ofNat 0, [(.ofNat 1, 3)]), (.ofNat 0, [(.ofNat 1, 4)]), (.ofNat 0, [(.ofNat 1, 5)]), (.ofNat 0, [(.ofNat 1, 6)]), (.ofNat 0, [(.ofNat 1, 7)])]), (199, [(.ofNat 0, [(.ofNat 1, 3)]), (.ofNat 4, [])]), (200, [(.ofNat 0, [(.ofNat 1, 3)]), (.ofNat 0, [(.ofNat 1, 8)])])] : List sFc), fcOk fFS [s0, s1, s2, s3, s4, s5, s6, s7, s8] hp q := hH.2
  have f0 : SHq (XT hp) (nmR hp (xnm hp)) s0 s1 s2 s3 s4 s5 s6 s7 ∧ s4 ≠ 4 := fcX (ys := [s0, s1, s2, s3, s4, s5, s6, s7]) (hFc _ (.head _)) ⟨sE_V rfl, sE_V rfl, sE_V rfl, sE_V rfl, sE_V rfl, sE_V rfl, sE_V rfl, sE_V rfl, trivial⟩
  have f1 : (4 : Int) = dp s3 + 1 := fcX (ys := [s3, 4]) (hFc _ (.tail _ (.head _))) ⟨sE_V rfl, sE_k _ _, trivial⟩
  have f2 : s8 = nr s3 := fcX (ys := [s3, s8]) (hFc _ (.tail _ (.tail _ (.head _)))) ⟨sE_V rfl, sE_V rfl, trivial⟩
  have ud : dp s3 ≤ 7 := by omega
  have ut := dp_lt (t := s3) (by omega) ud
  exact poX (.head _) rfl hR (all_nil) (all_nil) (all_cons ⟨[s6, 3, (s2 + 1), s3], ⟨sE_V rfl, sE_k _ _, sEv (y' := ((1 : Int) + ((1 : Int) * s2 + 0))) rfl (by omega), sE_V rfl, trivial⟩, (show SG (XT hp) (nmR hp (xnm hp)) s6 (3 : Int) (s2 + 1) s3 from s0_by f0.1 (by omega) (by omega) (by omega) (by omega) ud)⟩ (all_nil))
theorem rl353 : ruOk fFS gR353 := by
  intro r hp hO hN hH
  obtain ⟨s0, s1, s2, s3, s4, s5, s6, s7, s8, rfl⟩ := len9 (show r.length = 9 from hN.1)
  have hR := hN.2.1.1
  have hIv : ∀ q ∈ ([(0, .negSucc 2147483647, .ofNat 2147483647), (1, .ofNat 0, .ofNat 0), (2, .ofNat 0, .ofNat 19), (3, .ofNat 0, .ofNat 6560), (4, .ofNat 1, .ofNat 1), (5, .negSucc 2147483647, .ofNat 2147483647), (6, .negSucc 2147483647, .ofNat 2147483647), (7, .ofNat 25, .ofNat 25), (8, .negSucc 2147483647, .ofNat 2147483647)] : sIv), ∃ x, ([s0, s1, s2, s3, s4, s5, s6, s7, s8] : List Int)[q.1]? = some x ∧ q.2.1 ≤ x ∧ x ≤ q.2.2 := hN.2.1.2
  have b1 : (0 : Int) ≤ s1 ∧ s1 ≤ (0 : Int) := ivX (q := (1, .ofNat 0, .ofNat 0)) (y := s1) (hIv _ (.tail _ (.head _))) rfl
  have b2 : (0 : Int) ≤ s2 ∧ s2 ≤ (19 : Int) := ivX (q := (2, .ofNat 0, .ofNat 19)) (y := s2) (hIv _ (.tail _ (.tail _ (.head _)))) rfl
  have b3 : (0 : Int) ≤ s3 ∧ s3 ≤ (6560 : Int) := ivX (q := (3, .ofNat 0, .ofNat 6560)) (y := s3) (hIv _ (.tail _ (.tail _ (.tail _ (.head _))))) rfl
  have b4 : (1 : Int) ≤ s4 ∧ s4 ≤ (1 : Int) := ivX (q := (4, .ofNat 1, .ofNat 1)) (y := s4) (hIv _ (.tail _ (.tail _ (.tail _ (.tail _ (.head _)))))) rfl
  have b7 : (25 : Int) ≤ s7 ∧ s7 ≤ (25 : Int) := ivX (q := (7, .ofNat 25, .ofNat 25)) (y := s7) (hIv _ (.tail _ (.tail _ (.tail _ (.tail _ (.tail _ (.tail _ (.tail _ (.head _))))))))) rfl
  have hRf : ∀ q ∈ ([((40, .ofNat 173, []), (.ofNat 9, []), 1, .ofNat 0, [])] : List sRf), rfOk [s0, s1, s2, s3, s4, s5, s6, s7, s8] hp q := hH.1
  have h0 : hI hp 173 9 = 0 := rfI0 (hRf _ (.head _)) (sE_k _ _) (sE_k _ _) (sE_k _ _)
  have hFc : ∀ q ∈ ([(192, [(.ofNat 0, [(.ofNat 1, 0)]), (.ofNat 0, [(.ofNat 1, 1)]), (.ofNat 0, [(.ofNat 1, 2)]), (.ofNat 0, [(.ofNat 1, 3)]), (.ofNat 0, [(.ofNat 1, 4)]), (.ofNat 0, [(.ofNat 1, 5)]), (.ofNat 0, [(.ofNat 1, 6)]), (.ofNat 0, [(.ofNat 1, 7)])]), (199, [(.ofNat 0, [(.ofNat 1, 3)]), (.ofNat 5, [])]), (200, [(.ofNat 0, [(.ofNat 1, 3)]), (.ofNat 0, [(.ofNat 1, 8)])])] : List sFc), fcOk fFS [s0, s1, s2, s3, s4, s5, s6, s7, s8] hp q := hH.2
  have f0 : SHq (XT hp) (nmR hp (xnm hp)) s0 s1 s2 s3 s4 s5 s6 s7 ∧ s4 ≠ 4 := fcX (ys := [s0, s1, s2, s3, s4, s5, s6, s7]) (hFc _ (.head _)) ⟨sE_V rfl, sE_V rfl, sE_V rfl, sE_V rfl, sE_V rfl, sE_V rfl, sE_V rfl, sE_V rfl, trivial⟩
  have f1 : (5 : Int) = dp s3 + 1 := fcX (ys := [s3, 5]) (hFc _ (.tail _ (.head _))) ⟨sE_V rfl, sE_k _ _, trivial⟩
  have f2 : s8 = nr s3 := fcX (ys := [s3, s8]) (hFc _ (.tail _ (.tail _ (.head _)))) ⟨sE_V rfl, sE_V rfl, trivial⟩
  have ud : dp s3 ≤ 7 := by omega
  have ut := dp_lt (t := s3) (by omega) ud
  exact poX (.head _) rfl hR (all_nil) (all_nil) (all_cons ⟨[s6, 3, (s2 + 1), s3], ⟨sE_V rfl, sE_k _ _, sEv (y' := ((1 : Int) + ((1 : Int) * s2 + 0))) rfl (by omega), sE_V rfl, trivial⟩, (show SG (XT hp) (nmR hp (xnm hp)) s6 (3 : Int) (s2 + 1) s3 from s0_by f0.1 (by omega) (by omega) (by omega) (by omega) ud)⟩ (all_nil))
theorem rl354 : ruOk fFS gR354 := by
  intro r hp hO hN hH
  obtain ⟨s0, s1, s2, s3, s4, s5, s6, s7, s8, rfl⟩ := len9 (show r.length = 9 from hN.1)
  have hR := hN.2.1.1
  have hIv : ∀ q ∈ ([(0, .negSucc 2147483647, .ofNat 2147483647), (1, .ofNat 0, .ofNat 0), (2, .ofNat 0, .ofNat 19), (3, .ofNat 0, .ofNat 6560), (4, .ofNat 1, .ofNat 1), (5, .negSucc 2147483647, .ofNat 2147483647), (6, .negSucc 2147483647, .ofNat 2147483647), (7, .ofNat 25, .ofNat 25), (8, .negSucc 2147483647, .ofNat 2147483647)] : sIv), ∃ x, ([s0, s1, s2, s3, s4, s5, s6, s7, s8] : List Int)[q.1]? = some x ∧ q.2.1 ≤ x ∧ x ≤ q.2.2 := hN.2.1.2
  have b1 : (0 : Int) ≤ s1 ∧ s1 ≤ (0 : Int) := ivX (q := (1, .ofNat 0, .ofNat 0)) (y := s1) (hIv _ (.tail _ (.head _))) rfl
  have b2 : (0 : Int) ≤ s2 ∧ s2 ≤ (19 : Int) := ivX (q := (2, .ofNat 0, .ofNat 19)) (y := s2) (hIv _ (.tail _ (.tail _ (.head _)))) rfl
  have b3 : (0 : Int) ≤ s3 ∧ s3 ≤ (6560 : Int) := ivX (q := (3, .ofNat 0, .ofNat 6560)) (y := s3) (hIv _ (.tail _ (.tail _ (.tail _ (.head _))))) rfl
  have b4 : (1 : Int) ≤ s4 ∧ s4 ≤ (1 : Int) := ivX (q := (4, .ofNat 1, .ofNat 1)) (y := s4) (hIv _ (.tail _ (.tail _ (.tail _ (.tail _ (.head _)))))) rfl
  have b7 : (25 : Int) ≤ s7 ∧ s7 ≤ (25 : Int) := ivX (q := (7, .ofNat 25, .ofNat 25)) (y := s7) (hIv _ (.tail _ (.tail _ (.tail _ (.tail _ (.tail _ (.tail _ (.tail _ (.head _))))))))) rfl
  have hRf : ∀ q ∈ ([((40, .ofNat 173, []), (.ofNat 9, []), 1, .ofNat 0, [])] : List sRf), rfOk [s0, s1, s2, s3, s4, s5, s6, s7, s8] hp q := hH.1
  have h0 : hI hp 173 9 = 0 := rfI0 (hRf _ (.head _)) (sE_k _ _) (sE_k _ _) (sE_k _ _)
  have hFc : ∀ q ∈ ([(192, [(.ofNat 0, [(.ofNat 1, 0)]), (.ofNat 0, [(.ofNat 1, 1)]), (.ofNat 0, [(.ofNat 1, 2)]), (.ofNat 0, [(.ofNat 1, 3)]), (.ofNat 0, [(.ofNat 1, 4)]), (.ofNat 0, [(.ofNat 1, 5)]), (.ofNat 0, [(.ofNat 1, 6)]), (.ofNat 0, [(.ofNat 1, 7)])]), (199, [(.ofNat 0, [(.ofNat 1, 3)]), (.ofNat 6, [])]), (200, [(.ofNat 0, [(.ofNat 1, 3)]), (.ofNat 0, [(.ofNat 1, 8)])])] : List sFc), fcOk fFS [s0, s1, s2, s3, s4, s5, s6, s7, s8] hp q := hH.2
  have f0 : SHq (XT hp) (nmR hp (xnm hp)) s0 s1 s2 s3 s4 s5 s6 s7 ∧ s4 ≠ 4 := fcX (ys := [s0, s1, s2, s3, s4, s5, s6, s7]) (hFc _ (.head _)) ⟨sE_V rfl, sE_V rfl, sE_V rfl, sE_V rfl, sE_V rfl, sE_V rfl, sE_V rfl, sE_V rfl, trivial⟩
  have f1 : (6 : Int) = dp s3 + 1 := fcX (ys := [s3, 6]) (hFc _ (.tail _ (.head _))) ⟨sE_V rfl, sE_k _ _, trivial⟩
  have f2 : s8 = nr s3 := fcX (ys := [s3, s8]) (hFc _ (.tail _ (.tail _ (.head _)))) ⟨sE_V rfl, sE_V rfl, trivial⟩
  have ud : dp s3 ≤ 7 := by omega
  have ut := dp_lt (t := s3) (by omega) ud
  exact poX (.head _) rfl hR (all_nil) (all_nil) (all_cons ⟨[s6, 3, (s2 + 1), s3], ⟨sE_V rfl, sE_k _ _, sEv (y' := ((1 : Int) + ((1 : Int) * s2 + 0))) rfl (by omega), sE_V rfl, trivial⟩, (show SG (XT hp) (nmR hp (xnm hp)) s6 (3 : Int) (s2 + 1) s3 from s0_by f0.1 (by omega) (by omega) (by omega) (by omega) ud)⟩ (all_nil))
theorem rl355 : ruOk fFS gR355 := by
  intro r hp hO hN hH
  obtain ⟨s0, s1, s2, s3, s4, s5, s6, s7, s8, rfl⟩ := len9 (show r.length = 9 from hN.1)
  have hR := hN.2.1.1
  have hIv : ∀ q ∈ ([(0, .negSucc 2147483647, .ofNat 2147483647), (1, .ofNat 0, .ofNat 0), (2, .ofNat 0, .ofNat 19), (3, .ofNat 0, .ofNat 6560), (4, .ofNat 1, .ofNat 1), (5, .negSucc 2147483647, .ofNat 2147483647), (6, .negSucc 2147483647, .ofNat 2147483647), (7, .ofNat 25, .ofNat 25), (8, .negSucc 2147483647, .ofNat 2147483647)] : sIv), ∃ x, ([s0, s1, s2, s3, s4, s5, s6, s7, s8] : List Int)[q.1]? = some x ∧ q.2.1 ≤ x ∧ x ≤ q.2.2 := hN.2.1.2
  have b1 : (0 : Int) ≤ s1 ∧ s1 ≤ (0 : Int) := ivX (q := (1, .ofNat 0, .ofNat 0)) (y := s1) (hIv _ (.tail _ (.head _))) rfl
  have b2 : (0 : Int) ≤ s2 ∧ s2 ≤ (19 : Int) := ivX (q := (2, .ofNat 0, .ofNat 19)) (y := s2) (hIv _ (.tail _ (.tail _ (.head _)))) rfl
  have b3 : (0 : Int) ≤ s3 ∧ s3 ≤ (6560 : Int) := ivX (q := (3, .ofNat 0, .ofNat 6560)) (y := s3) (hIv _ (.tail _ (.tail _ (.tail _ (.head _))))) rfl
  have b4 : (1 : Int) ≤ s4 ∧ s4 ≤ (1 : Int) := ivX (q := (4, .ofNat 1, .ofNat 1)) (y := s4) (hIv _ (.tail _ (.tail _ (.tail _ (.tail _ (.head _)))))) rfl
  have b7 : (25 : Int) ≤ s7 ∧ s7 ≤ (25 : Int) := ivX (q := (7, .ofNat 25, .ofNat 25)) (y := s7) (hIv _ (.tail _ (.tail _ (.tail _ (.tail _ (.tail _ (.tail _ (.tail _ (.head _))))))))) rfl
  have hRf : ∀ q ∈ ([((40, .ofNat 173, []), (.ofNat 9, []), 1, .ofNat 0, [])] : List sRf), rfOk [s0, s1, s2, s3, s4, s5, s6, s7, s8] hp q := hH.1
  have h0 : hI hp 173 9 = 0 := rfI0 (hRf _ (.head _)) (sE_k _ _) (sE_k _ _) (sE_k _ _)
  have hFc : ∀ q ∈ ([(192, [(.ofNat 0, [(.ofNat 1, 0)]), (.ofNat 0, [(.ofNat 1, 1)]), (.ofNat 0, [(.ofNat 1, 2)]), (.ofNat 0, [(.ofNat 1, 3)]), (.ofNat 0, [(.ofNat 1, 4)]), (.ofNat 0, [(.ofNat 1, 5)]), (.ofNat 0, [(.ofNat 1, 6)]), (.ofNat 0, [(.ofNat 1, 7)])]), (199, [(.ofNat 0, [(.ofNat 1, 3)]), (.ofNat 7, [])]), (200, [(.ofNat 0, [(.ofNat 1, 3)]), (.ofNat 0, [(.ofNat 1, 8)])])] : List sFc), fcOk fFS [s0, s1, s2, s3, s4, s5, s6, s7, s8] hp q := hH.2
  have f0 : SHq (XT hp) (nmR hp (xnm hp)) s0 s1 s2 s3 s4 s5 s6 s7 ∧ s4 ≠ 4 := fcX (ys := [s0, s1, s2, s3, s4, s5, s6, s7]) (hFc _ (.head _)) ⟨sE_V rfl, sE_V rfl, sE_V rfl, sE_V rfl, sE_V rfl, sE_V rfl, sE_V rfl, sE_V rfl, trivial⟩
  have f1 : (7 : Int) = dp s3 + 1 := fcX (ys := [s3, 7]) (hFc _ (.tail _ (.head _))) ⟨sE_V rfl, sE_k _ _, trivial⟩
  have f2 : s8 = nr s3 := fcX (ys := [s3, s8]) (hFc _ (.tail _ (.tail _ (.head _)))) ⟨sE_V rfl, sE_V rfl, trivial⟩
  have ud : dp s3 ≤ 7 := by omega
  have ut := dp_lt (t := s3) (by omega) ud
  exact poX (.head _) rfl hR (all_nil) (all_nil) (all_cons ⟨[s6, 3, (s2 + 1), s3], ⟨sE_V rfl, sE_k _ _, sEv (y' := ((1 : Int) + ((1 : Int) * s2 + 0))) rfl (by omega), sE_V rfl, trivial⟩, (show SG (XT hp) (nmR hp (xnm hp)) s6 (3 : Int) (s2 + 1) s3 from s0_by f0.1 (by omega) (by omega) (by omega) (by omega) ud)⟩ (all_nil))
theorem rl356 : ruOk fFS gR356 := by
  intro r hp hO hN hH
  obtain ⟨s0, s1, s2, s3, s4, s5, s6, s7, s8, rfl⟩ := len9 (show r.length = 9 from hN.1)
  have hR := hN.2.1.1
  have hIv : ∀ q ∈ ([(0, .negSucc 2147483647, .ofNat 2147483647), (1, .ofNat 0, .ofNat 0), (2, .ofNat 0, .ofNat 19), (3, .ofNat 0, .ofNat 6560), (4, .ofNat 1, .ofNat 1), (5, .negSucc 2147483647, .ofNat 2147483647), (6, .negSucc 2147483647, .ofNat 2147483647), (7, .ofNat 25, .ofNat 25), (8, .negSucc 2147483647, .ofNat 2147483647)] : sIv), ∃ x, ([s0, s1, s2, s3, s4, s5, s6, s7, s8] : List Int)[q.1]? = some x ∧ q.2.1 ≤ x ∧ x ≤ q.2.2 := hN.2.1.2
  have b1 : (0 : Int) ≤ s1 ∧ s1 ≤ (0 : Int) := ivX (q := (1, .ofNat 0, .ofNat 0)) (y := s1) (hIv _ (.tail _ (.head _))) rfl
  have b2 : (0 : Int) ≤ s2 ∧ s2 ≤ (19 : Int) := ivX (q := (2, .ofNat 0, .ofNat 19)) (y := s2) (hIv _ (.tail _ (.tail _ (.head _)))) rfl
  have b3 : (0 : Int) ≤ s3 ∧ s3 ≤ (6560 : Int) := ivX (q := (3, .ofNat 0, .ofNat 6560)) (y := s3) (hIv _ (.tail _ (.tail _ (.tail _ (.head _))))) rfl
  have b4 : (1 : Int) ≤ s4 ∧ s4 ≤ (1 : Int) := ivX (q := (4, .ofNat 1, .ofNat 1)) (y := s4) (hIv _ (.tail _ (.tail _ (.tail _ (.tail _ (.head _)))))) rfl
  have b7 : (25 : Int) ≤ s7 ∧ s7 ≤ (25 : Int) := ivX (q := (7, .ofNat 25, .ofNat 25)) (y := s7) (hIv _ (.tail _ (.tail _ (.tail _ (.tail _ (.tail _ (.tail _ (.tail _ (.head _))))))))) rfl
  have hRf : ∀ q ∈ ([((40, .ofNat 173, []), (.ofNat 9, []), 1, .ofNat 0, [])] : List sRf), rfOk [s0, s1, s2, s3, s4, s5, s6, s7, s8] hp q := hH.1
  have h0 : hI hp 173 9 = 0 := rfI0 (hRf _ (.head _)) (sE_k _ _) (sE_k _ _) (sE_k _ _)
  have hFc : ∀ q ∈ ([(192, [(.ofNat 0, [(.ofNat 1, 0)]), (.ofNat 0, [(.ofNat 1, 1)]), (.ofNat 0, [(.ofNat 1, 2)]), (.ofNat 0, [(.ofNat 1, 3)]), (.ofNat 0, [(.ofNat 1, 4)]), (.ofNat 0, [(.ofNat 1, 5)]), (.ofNat 0, [(.ofNat 1, 6)]), (.ofNat 0, [(.ofNat 1, 7)])]), (199, [(.ofNat 0, [(.ofNat 1, 3)]), (.ofNat 8, [])]), (200, [(.ofNat 0, [(.ofNat 1, 3)]), (.ofNat 0, [(.ofNat 1, 8)])])] : List sFc), fcOk fFS [s0, s1, s2, s3, s4, s5, s6, s7, s8] hp q := hH.2
  have f0 : SHq (XT hp) (nmR hp (xnm hp)) s0 s1 s2 s3 s4 s5 s6 s7 ∧ s4 ≠ 4 := fcX (ys := [s0, s1, s2, s3, s4, s5, s6, s7]) (hFc _ (.head _)) ⟨sE_V rfl, sE_V rfl, sE_V rfl, sE_V rfl, sE_V rfl, sE_V rfl, sE_V rfl, sE_V rfl, trivial⟩
  have f1 : (8 : Int) = dp s3 + 1 := fcX (ys := [s3, 8]) (hFc _ (.tail _ (.head _))) ⟨sE_V rfl, sE_k _ _, trivial⟩
  have f2 : s8 = nr s3 := fcX (ys := [s3, s8]) (hFc _ (.tail _ (.tail _ (.head _)))) ⟨sE_V rfl, sE_V rfl, trivial⟩
  have ud : dp s3 ≤ 7 := by omega
  have ut := dp_lt (t := s3) (by omega) ud
  exact poX (.head _) rfl hR (all_nil) (all_nil) (all_cons ⟨[s6, 3, (s2 + 1), s3], ⟨sE_V rfl, sE_k _ _, sEv (y' := ((1 : Int) + ((1 : Int) * s2 + 0))) rfl (by omega), sE_V rfl, trivial⟩, (show SG (XT hp) (nmR hp (xnm hp)) s6 (3 : Int) (s2 + 1) s3 from s0_by f0.1 (by omega) (by omega) (by omega) (by omega) ud)⟩ (all_nil))
theorem rl357 : ruOk fFS gR357 := by
  intro r hp hO hN hH
  obtain ⟨s0, s1, s2, s3, s4, s5, s6, s7, s8, rfl⟩ := len9 (show r.length = 9 from hN.1)
  have hR := hN.2.1.1
  have hIv : ∀ q ∈ ([(0, .negSucc 2147483647, .ofNat 2147483647), (1, .ofNat 0, .ofNat 0), (2, .ofNat 0, .ofNat 19), (3, .ofNat 0, .ofNat 6560), (4, .ofNat 1, .ofNat 1), (5, .negSucc 2147483647, .ofNat 2147483647), (6, .negSucc 2147483647, .ofNat 2147483647), (7, .ofNat 26, .ofNat 29), (8, .negSucc 2147483647, .ofNat 2147483647)] : sIv), ∃ x, ([s0, s1, s2, s3, s4, s5, s6, s7, s8] : List Int)[q.1]? = some x ∧ q.2.1 ≤ x ∧ x ≤ q.2.2 := hN.2.1.2
  have b1 : (0 : Int) ≤ s1 ∧ s1 ≤ (0 : Int) := ivX (q := (1, .ofNat 0, .ofNat 0)) (y := s1) (hIv _ (.tail _ (.head _))) rfl
  have b2 : (0 : Int) ≤ s2 ∧ s2 ≤ (19 : Int) := ivX (q := (2, .ofNat 0, .ofNat 19)) (y := s2) (hIv _ (.tail _ (.tail _ (.head _)))) rfl
  have b3 : (0 : Int) ≤ s3 ∧ s3 ≤ (6560 : Int) := ivX (q := (3, .ofNat 0, .ofNat 6560)) (y := s3) (hIv _ (.tail _ (.tail _ (.tail _ (.head _))))) rfl
  have b4 : (1 : Int) ≤ s4 ∧ s4 ≤ (1 : Int) := ivX (q := (4, .ofNat 1, .ofNat 1)) (y := s4) (hIv _ (.tail _ (.tail _ (.tail _ (.tail _ (.head _)))))) rfl
  have b7 : (26 : Int) ≤ s7 ∧ s7 ≤ (29 : Int) := ivX (q := (7, .ofNat 26, .ofNat 29)) (y := s7) (hIv _ (.tail _ (.tail _ (.tail _ (.tail _ (.tail _ (.tail _ (.tail _ (.head _))))))))) rfl
  have hRf : ∀ q ∈ ([((40, .ofNat 173, []), (.ofNat 9, []), 1, .ofNat 0, [])] : List sRf), rfOk [s0, s1, s2, s3, s4, s5, s6, s7, s8] hp q := hH.1
  have h0 : hI hp 173 9 = 0 := rfI0 (hRf _ (.head _)) (sE_k _ _) (sE_k _ _) (sE_k _ _)
  have hFc : ∀ q ∈ ([(192, [(.ofNat 0, [(.ofNat 1, 0)]), (.ofNat 0, [(.ofNat 1, 1)]), (.ofNat 0, [(.ofNat 1, 2)]), (.ofNat 0, [(.ofNat 1, 3)]), (.ofNat 0, [(.ofNat 1, 4)]), (.ofNat 0, [(.ofNat 1, 5)]), (.ofNat 0, [(.ofNat 1, 6)]), (.ofNat 0, [(.ofNat 1, 7)])]), (199, [(.ofNat 0, [(.ofNat 1, 3)]), (.ofNat 1, [])]), (200, [(.ofNat 0, [(.ofNat 1, 3)]), (.ofNat 0, [(.ofNat 1, 8)])])] : List sFc), fcOk fFS [s0, s1, s2, s3, s4, s5, s6, s7, s8] hp q := hH.2
  have f0 : SHq (XT hp) (nmR hp (xnm hp)) s0 s1 s2 s3 s4 s5 s6 s7 ∧ s4 ≠ 4 := fcX (ys := [s0, s1, s2, s3, s4, s5, s6, s7]) (hFc _ (.head _)) ⟨sE_V rfl, sE_V rfl, sE_V rfl, sE_V rfl, sE_V rfl, sE_V rfl, sE_V rfl, sE_V rfl, trivial⟩
  have f1 : (1 : Int) = dp s3 + 1 := fcX (ys := [s3, 1]) (hFc _ (.tail _ (.head _))) ⟨sE_V rfl, sE_k _ _, trivial⟩
  have f2 : s8 = nr s3 := fcX (ys := [s3, s8]) (hFc _ (.tail _ (.tail _ (.head _)))) ⟨sE_V rfl, sE_V rfl, trivial⟩
  have ud : dp s3 ≤ 7 := by omega
  have ut := dp_lt (t := s3) (by omega) ud
  exact poX (.head _) rfl hR (all_nil) (all_nil) (all_cons ⟨[s6, 4, (s2 + 1), s3], ⟨sE_V rfl, sE_k _ _, sEv (y' := ((1 : Int) + ((1 : Int) * s2 + 0))) rfl (by omega), sE_V rfl, trivial⟩, (show SG (XT hp) (nmR hp (xnm hp)) s6 (4 : Int) (s2 + 1) s3 from s0_cmp f0.1 (by omega) (by omega) (by omega) (by omega) ud)⟩ (all_nil))
theorem rl358 : ruOk fFS gR358 := by
  intro r hp hO hN hH
  obtain ⟨s0, s1, s2, s3, s4, s5, s6, s7, s8, rfl⟩ := len9 (show r.length = 9 from hN.1)
  have hR := hN.2.1.1
  have hIv : ∀ q ∈ ([(0, .negSucc 2147483647, .ofNat 2147483647), (1, .ofNat 0, .ofNat 0), (2, .ofNat 0, .ofNat 19), (3, .ofNat 0, .ofNat 6560), (4, .ofNat 1, .ofNat 1), (5, .negSucc 2147483647, .ofNat 2147483647), (6, .negSucc 2147483647, .ofNat 2147483647), (7, .ofNat 26, .ofNat 29), (8, .negSucc 2147483647, .ofNat 2147483647)] : sIv), ∃ x, ([s0, s1, s2, s3, s4, s5, s6, s7, s8] : List Int)[q.1]? = some x ∧ q.2.1 ≤ x ∧ x ≤ q.2.2 := hN.2.1.2
  have b1 : (0 : Int) ≤ s1 ∧ s1 ≤ (0 : Int) := ivX (q := (1, .ofNat 0, .ofNat 0)) (y := s1) (hIv _ (.tail _ (.head _))) rfl
  have b2 : (0 : Int) ≤ s2 ∧ s2 ≤ (19 : Int) := ivX (q := (2, .ofNat 0, .ofNat 19)) (y := s2) (hIv _ (.tail _ (.tail _ (.head _)))) rfl
  have b3 : (0 : Int) ≤ s3 ∧ s3 ≤ (6560 : Int) := ivX (q := (3, .ofNat 0, .ofNat 6560)) (y := s3) (hIv _ (.tail _ (.tail _ (.tail _ (.head _))))) rfl
  have b4 : (1 : Int) ≤ s4 ∧ s4 ≤ (1 : Int) := ivX (q := (4, .ofNat 1, .ofNat 1)) (y := s4) (hIv _ (.tail _ (.tail _ (.tail _ (.tail _ (.head _)))))) rfl
  have b7 : (26 : Int) ≤ s7 ∧ s7 ≤ (29 : Int) := ivX (q := (7, .ofNat 26, .ofNat 29)) (y := s7) (hIv _ (.tail _ (.tail _ (.tail _ (.tail _ (.tail _ (.tail _ (.tail _ (.head _))))))))) rfl
  have hRf : ∀ q ∈ ([((40, .ofNat 173, []), (.ofNat 9, []), 1, .ofNat 0, [])] : List sRf), rfOk [s0, s1, s2, s3, s4, s5, s6, s7, s8] hp q := hH.1
  have h0 : hI hp 173 9 = 0 := rfI0 (hRf _ (.head _)) (sE_k _ _) (sE_k _ _) (sE_k _ _)
  have hFc : ∀ q ∈ ([(192, [(.ofNat 0, [(.ofNat 1, 0)]), (.ofNat 0, [(.ofNat 1, 1)]), (.ofNat 0, [(.ofNat 1, 2)]), (.ofNat 0, [(.ofNat 1, 3)]), (.ofNat 0, [(.ofNat 1, 4)]), (.ofNat 0, [(.ofNat 1, 5)]), (.ofNat 0, [(.ofNat 1, 6)]), (.ofNat 0, [(.ofNat 1, 7)])]), (199, [(.ofNat 0, [(.ofNat 1, 3)]), (.ofNat 2, [])]), (200, [(.ofNat 0, [(.ofNat 1, 3)]), (.ofNat 0, [(.ofNat 1, 8)])])] : List sFc), fcOk fFS [s0, s1, s2, s3, s4, s5, s6, s7, s8] hp q := hH.2
  have f0 : SHq (XT hp) (nmR hp (xnm hp)) s0 s1 s2 s3 s4 s5 s6 s7 ∧ s4 ≠ 4 := fcX (ys := [s0, s1, s2, s3, s4, s5, s6, s7]) (hFc _ (.head _)) ⟨sE_V rfl, sE_V rfl, sE_V rfl, sE_V rfl, sE_V rfl, sE_V rfl, sE_V rfl, sE_V rfl, trivial⟩
  have f1 : (2 : Int) = dp s3 + 1 := fcX (ys := [s3, 2]) (hFc _ (.tail _ (.head _))) ⟨sE_V rfl, sE_k _ _, trivial⟩
  have f2 : s8 = nr s3 := fcX (ys := [s3, s8]) (hFc _ (.tail _ (.tail _ (.head _)))) ⟨sE_V rfl, sE_V rfl, trivial⟩
  have ud : dp s3 ≤ 7 := by omega
  have ut := dp_lt (t := s3) (by omega) ud
  exact poX (.head _) rfl hR (all_nil) (all_nil) (all_cons ⟨[s6, 4, (s2 + 1), s3], ⟨sE_V rfl, sE_k _ _, sEv (y' := ((1 : Int) + ((1 : Int) * s2 + 0))) rfl (by omega), sE_V rfl, trivial⟩, (show SG (XT hp) (nmR hp (xnm hp)) s6 (4 : Int) (s2 + 1) s3 from s0_cmp f0.1 (by omega) (by omega) (by omega) (by omega) ud)⟩ (all_nil))
theorem rl359 : ruOk fFS gR359 := by
  intro r hp hO hN hH
  obtain ⟨s0, s1, s2, s3, s4, s5, s6, s7, s8, rfl⟩ := len9 (show r.length = 9 from hN.1)
  have hR := hN.2.1.1
  have hIv : ∀ q ∈ ([(0, .negSucc 2147483647, .ofNat 2147483647), (1, .ofNat 0, .ofNat 0), (2, .ofNat 0, .ofNat 19), (3, .ofNat 0, .ofNat 6560), (4, .ofNat 1, .ofNat 1), (5, .negSucc 2147483647, .ofNat 2147483647), (6, .negSucc 2147483647, .ofNat 2147483647), (7, .ofNat 26, .ofNat 29), (8, .negSucc 2147483647, .ofNat 2147483647)] : sIv), ∃ x, ([s0, s1, s2, s3, s4, s5, s6, s7, s8] : List Int)[q.1]? = some x ∧ q.2.1 ≤ x ∧ x ≤ q.2.2 := hN.2.1.2
  have b1 : (0 : Int) ≤ s1 ∧ s1 ≤ (0 : Int) := ivX (q := (1, .ofNat 0, .ofNat 0)) (y := s1) (hIv _ (.tail _ (.head _))) rfl
  have b2 : (0 : Int) ≤ s2 ∧ s2 ≤ (19 : Int) := ivX (q := (2, .ofNat 0, .ofNat 19)) (y := s2) (hIv _ (.tail _ (.tail _ (.head _)))) rfl
  have b3 : (0 : Int) ≤ s3 ∧ s3 ≤ (6560 : Int) := ivX (q := (3, .ofNat 0, .ofNat 6560)) (y := s3) (hIv _ (.tail _ (.tail _ (.tail _ (.head _))))) rfl
  have b4 : (1 : Int) ≤ s4 ∧ s4 ≤ (1 : Int) := ivX (q := (4, .ofNat 1, .ofNat 1)) (y := s4) (hIv _ (.tail _ (.tail _ (.tail _ (.tail _ (.head _)))))) rfl
  have b7 : (26 : Int) ≤ s7 ∧ s7 ≤ (29 : Int) := ivX (q := (7, .ofNat 26, .ofNat 29)) (y := s7) (hIv _ (.tail _ (.tail _ (.tail _ (.tail _ (.tail _ (.tail _ (.tail _ (.head _))))))))) rfl
  have hRf : ∀ q ∈ ([((40, .ofNat 173, []), (.ofNat 9, []), 1, .ofNat 0, [])] : List sRf), rfOk [s0, s1, s2, s3, s4, s5, s6, s7, s8] hp q := hH.1
  have h0 : hI hp 173 9 = 0 := rfI0 (hRf _ (.head _)) (sE_k _ _) (sE_k _ _) (sE_k _ _)
  have hFc : ∀ q ∈ ([(192, [(.ofNat 0, [(.ofNat 1, 0)]), (.ofNat 0, [(.ofNat 1, 1)]), (.ofNat 0, [(.ofNat 1, 2)]), (.ofNat 0, [(.ofNat 1, 3)]), (.ofNat 0, [(.ofNat 1, 4)]), (.ofNat 0, [(.ofNat 1, 5)]), (.ofNat 0, [(.ofNat 1, 6)]), (.ofNat 0, [(.ofNat 1, 7)])]), (199, [(.ofNat 0, [(.ofNat 1, 3)]), (.ofNat 3, [])]), (200, [(.ofNat 0, [(.ofNat 1, 3)]), (.ofNat 0, [(.ofNat 1, 8)])])] : List sFc), fcOk fFS [s0, s1, s2, s3, s4, s5, s6, s7, s8] hp q := hH.2
  have f0 : SHq (XT hp) (nmR hp (xnm hp)) s0 s1 s2 s3 s4 s5 s6 s7 ∧ s4 ≠ 4 := fcX (ys := [s0, s1, s2, s3, s4, s5, s6, s7]) (hFc _ (.head _)) ⟨sE_V rfl, sE_V rfl, sE_V rfl, sE_V rfl, sE_V rfl, sE_V rfl, sE_V rfl, sE_V rfl, trivial⟩
  have f1 : (3 : Int) = dp s3 + 1 := fcX (ys := [s3, 3]) (hFc _ (.tail _ (.head _))) ⟨sE_V rfl, sE_k _ _, trivial⟩
  have f2 : s8 = nr s3 := fcX (ys := [s3, s8]) (hFc _ (.tail _ (.tail _ (.head _)))) ⟨sE_V rfl, sE_V rfl, trivial⟩
  have ud : dp s3 ≤ 7 := by omega
  have ut := dp_lt (t := s3) (by omega) ud
  exact poX (.head _) rfl hR (all_nil) (all_nil) (all_cons ⟨[s6, 4, (s2 + 1), s3], ⟨sE_V rfl, sE_k _ _, sEv (y' := ((1 : Int) + ((1 : Int) * s2 + 0))) rfl (by omega), sE_V rfl, trivial⟩, (show SG (XT hp) (nmR hp (xnm hp)) s6 (4 : Int) (s2 + 1) s3 from s0_cmp f0.1 (by omega) (by omega) (by omega) (by omega) ud)⟩ (all_nil))
theorem rl360 : ruOk fFS gR360 := by
  intro r hp hO hN hH
  obtain ⟨s0, s1, s2, s3, s4, s5, s6, s7, s8, rfl⟩ := len9 (show r.length = 9 from hN.1)
  have hR := hN.2.1.1
  have hIv : ∀ q ∈ ([(0, .negSucc 2147483647, .ofNat 2147483647), (1, .ofNat 0, .ofNat 0), (2, .ofNat 0, .ofNat 19), (3, .ofNat 0, .ofNat 6560), (4, .ofNat 1, .ofNat 1), (5, .negSucc 2147483647, .ofNat 2147483647), (6, .negSucc 2147483647, .ofNat 2147483647), (7, .ofNat 26, .ofNat 29), (8, .negSucc 2147483647, .ofNat 2147483647)] : sIv), ∃ x, ([s0, s1, s2, s3, s4, s5, s6, s7, s8] : List Int)[q.1]? = some x ∧ q.2.1 ≤ x ∧ x ≤ q.2.2 := hN.2.1.2
  have b1 : (0 : Int) ≤ s1 ∧ s1 ≤ (0 : Int) := ivX (q := (1, .ofNat 0, .ofNat 0)) (y := s1) (hIv _ (.tail _ (.head _))) rfl
  have b2 : (0 : Int) ≤ s2 ∧ s2 ≤ (19 : Int) := ivX (q := (2, .ofNat 0, .ofNat 19)) (y := s2) (hIv _ (.tail _ (.tail _ (.head _)))) rfl
  have b3 : (0 : Int) ≤ s3 ∧ s3 ≤ (6560 : Int) := ivX (q := (3, .ofNat 0, .ofNat 6560)) (y := s3) (hIv _ (.tail _ (.tail _ (.tail _ (.head _))))) rfl
  have b4 : (1 : Int) ≤ s4 ∧ s4 ≤ (1 : Int) := ivX (q := (4, .ofNat 1, .ofNat 1)) (y := s4) (hIv _ (.tail _ (.tail _ (.tail _ (.tail _ (.head _)))))) rfl
  have b7 : (26 : Int) ≤ s7 ∧ s7 ≤ (29 : Int) := ivX (q := (7, .ofNat 26, .ofNat 29)) (y := s7) (hIv _ (.tail _ (.tail _ (.tail _ (.tail _ (.tail _ (.tail _ (.tail _ (.head _))))))))) rfl
  have hRf : ∀ q ∈ ([((40, .ofNat 173, []), (.ofNat 9, []), 1, .ofNat 0, [])] : List sRf), rfOk [s0, s1, s2, s3, s4, s5, s6, s7, s8] hp q := hH.1
  have h0 : hI hp 173 9 = 0 := rfI0 (hRf _ (.head _)) (sE_k _ _) (sE_k _ _) (sE_k _ _)
  have hFc : ∀ q ∈ ([(192, [(.ofNat 0, [(.ofNat 1, 0)]), (.ofNat 0, [(.ofNat 1, 1)]), (.ofNat 0, [(.ofNat 1, 2)]), (.ofNat 0, [(.ofNat 1, 3)]), (.ofNat 0, [(.ofNat 1, 4)]), (.ofNat 0, [(.ofNat 1, 5)]), (.ofNat 0, [(.ofNat 1, 6)]), (.ofNat 0, [(.ofNat 1, 7)])]), (199, [(.ofNat 0, [(.ofNat 1, 3)]), (.ofNat 4, [])]), (200, [(.ofNat 0, [(.ofNat 1, 3)]), (.ofNat 0, [(.ofNat 1, 8)])])] : List sFc), fcOk fFS [s0, s1, s2, s3, s4, s5, s6, s7, s8] hp q := hH.2
  have f0 : SHq (XT hp) (nmR hp (xnm hp)) s0 s1 s2 s3 s4 s5 s6 s7 ∧ s4 ≠ 4 := fcX (ys := [s0, s1, s2, s3, s4, s5, s6, s7]) (hFc _ (.head _)) ⟨sE_V rfl, sE_V rfl, sE_V rfl, sE_V rfl, sE_V rfl, sE_V rfl, sE_V rfl, sE_V rfl, trivial⟩
  have f1 : (4 : Int) = dp s3 + 1 := fcX (ys := [s3, 4]) (hFc _ (.tail _ (.head _))) ⟨sE_V rfl, sE_k _ _, trivial⟩
  have f2 : s8 = nr s3 := fcX (ys := [s3, s8]) (hFc _ (.tail _ (.tail _ (.head _)))) ⟨sE_V rfl, sE_V rfl, trivial⟩
  have ud : dp s3 ≤ 7 := by omega
  have ut := dp_lt (t := s3) (by omega) ud
  exact poX (.head _) rfl hR (all_nil) (all_nil) (all_cons ⟨[s6, 4, (s2 + 1), s3], ⟨sE_V rfl, sE_k _ _, sEv (y' := ((1 : Int) + ((1 : Int) * s2 + 0))) rfl (by omega), sE_V rfl, trivial⟩, (show SG (XT hp) (nmR hp (xnm hp)) s6 (4 : Int) (s2 + 1) s3 from s0_cmp f0.1 (by omega) (by omega) (by omega) (by omega) ud)⟩ (all_nil))
theorem rl361 : ruOk fFS gR361 := by
  intro r hp hO hN hH
  obtain ⟨s0, s1, s2, s3, s4, s5, s6, s7, s8, rfl⟩ := len9 (show r.length = 9 from hN.1)
  have hR := hN.2.1.1
  have hIv : ∀ q ∈ ([(0, .negSucc 2147483647, .ofNat 2147483647), (1, .ofNat 0, .ofNat 0), (2, .ofNat 0, .ofNat 19), (3, .ofNat 0, .ofNat 6560), (4, .ofNat 1, .ofNat 1), (5, .negSucc 2147483647, .ofNat 2147483647), (6, .negSucc 2147483647, .ofNat 2147483647), (7, .ofNat 26, .ofNat 29), (8, .negSucc 2147483647, .ofNat 2147483647)] : sIv), ∃ x, ([s0, s1, s2, s3, s4, s5, s6, s7, s8] : List Int)[q.1]? = some x ∧ q.2.1 ≤ x ∧ x ≤ q.2.2 := hN.2.1.2
  have b1 : (0 : Int) ≤ s1 ∧ s1 ≤ (0 : Int) := ivX (q := (1, .ofNat 0, .ofNat 0)) (y := s1) (hIv _ (.tail _ (.head _))) rfl
  have b2 : (0 : Int) ≤ s2 ∧ s2 ≤ (19 : Int) := ivX (q := (2, .ofNat 0, .ofNat 19)) (y := s2) (hIv _ (.tail _ (.tail _ (.head _)))) rfl
  have b3 : (0 : Int) ≤ s3 ∧ s3 ≤ (6560 : Int) := ivX (q := (3, .ofNat 0, .ofNat 6560)) (y := s3) (hIv _ (.tail _ (.tail _ (.tail _ (.head _))))) rfl
  have b4 : (1 : Int) ≤ s4 ∧ s4 ≤ (1 : Int) := ivX (q := (4, .ofNat 1, .ofNat 1)) (y := s4) (hIv _ (.tail _ (.tail _ (.tail _ (.tail _ (.head _)))))) rfl
  have b7 : (26 : Int) ≤ s7 ∧ s7 ≤ (29 : Int) := ivX (q := (7, .ofNat 26, .ofNat 29)) (y := s7) (hIv _ (.tail _ (.tail _ (.tail _ (.tail _ (.tail _ (.tail _ (.tail _ (.head _))))))))) rfl
  have hRf : ∀ q ∈ ([((40, .ofNat 173, []), (.ofNat 9, []), 1, .ofNat 0, [])] : List sRf), rfOk [s0, s1, s2, s3, s4, s5, s6, s7, s8] hp q := hH.1
  have h0 : hI hp 173 9 = 0 := rfI0 (hRf _ (.head _)) (sE_k _ _) (sE_k _ _) (sE_k _ _)
  have hFc : ∀ q ∈ ([(192, [(.ofNat 0, [(.ofNat 1, 0)]), (.ofNat 0, [(.ofNat 1, 1)]), (.ofNat 0, [(.ofNat 1, 2)]), (.ofNat 0, [(.ofNat 1, 3)]), (.ofNat 0, [(.ofNat 1, 4)]), (.ofNat 0, [(.ofNat 1, 5)]), (.ofNat 0, [(.ofNat 1, 6)]), (.ofNat 0, [(.ofNat 1, 7)])]), (199, [(.ofNat 0, [(.ofNat 1, 3)]), (.ofNat 5, [])]), (200, [(.ofNat 0, [(.ofNat 1, 3)]), (.ofNat 0, [(.ofNat 1, 8)])])] : List sFc), fcOk fFS [s0, s1, s2, s3, s4, s5, s6, s7, s8] hp q := hH.2
  have f0 : SHq (XT hp) (nmR hp (xnm hp)) s0 s1 s2 s3 s4 s5 s6 s7 ∧ s4 ≠ 4 := fcX (ys := [s0, s1, s2, s3, s4, s5, s6, s7]) (hFc _ (.head _)) ⟨sE_V rfl, sE_V rfl, sE_V rfl, sE_V rfl, sE_V rfl, sE_V rfl, sE_V rfl, sE_V rfl, trivial⟩
  have f1 : (5 : Int) = dp s3 + 1 := fcX (ys := [s3, 5]) (hFc _ (.tail _ (.head _))) ⟨sE_V rfl, sE_k _ _, trivial⟩
  have f2 : s8 = nr s3 := fcX (ys := [s3, s8]) (hFc _ (.tail _ (.tail _ (.head _)))) ⟨sE_V rfl, sE_V rfl, trivial⟩
  have ud : dp s3 ≤ 7 := by omega
  have ut := dp_lt (t := s3) (by omega) ud
  exact poX (.head _) rfl hR (all_nil) (all_nil) (all_cons ⟨[s6, 4, (s2 + 1), s3], ⟨sE_V rfl, sE_k _ _, sEv (y' := ((1 : Int) + ((1 : Int) * s2 + 0))) rfl (by omega), sE_V rfl, trivial⟩, (show SG (XT hp) (nmR hp (xnm hp)) s6 (4 : Int) (s2 + 1) s3 from s0_cmp f0.1 (by omega) (by omega) (by omega) (by omega) ud)⟩ (all_nil))
theorem rl362 : ruOk fFS gR362 := by
  intro r hp hO hN hH
  obtain ⟨s0, s1, s2, s3, s4, s5, s6, s7, s8, rfl⟩ := len9 (show r.length = 9 from hN.1)
  have hR := hN.2.1.1
  have hIv : ∀ q ∈ ([(0, .negSucc 2147483647, .ofNat 2147483647), (1, .ofNat 0, .ofNat 0), (2, .ofNat 0, .ofNat 19), (3, .ofNat 0, .ofNat 6560), (4, .ofNat 1, .ofNat 1), (5, .negSucc 2147483647, .ofNat 2147483647), (6, .negSucc 2147483647, .ofNat 2147483647), (7, .ofNat 26, .ofNat 29), (8, .negSucc 2147483647, .ofNat 2147483647)] : sIv), ∃ x, ([s0, s1, s2, s3, s4, s5, s6, s7, s8] : List Int)[q.1]? = some x ∧ q.2.1 ≤ x ∧ x ≤ q.2.2 := hN.2.1.2
  have b1 : (0 : Int) ≤ s1 ∧ s1 ≤ (0 : Int) := ivX (q := (1, .ofNat 0, .ofNat 0)) (y := s1) (hIv _ (.tail _ (.head _))) rfl
  have b2 : (0 : Int) ≤ s2 ∧ s2 ≤ (19 : Int) := ivX (q := (2, .ofNat 0, .ofNat 19)) (y := s2) (hIv _ (.tail _ (.tail _ (.head _)))) rfl
  have b3 : (0 : Int) ≤ s3 ∧ s3 ≤ (6560 : Int) := ivX (q := (3, .ofNat 0, .ofNat 6560)) (y := s3) (hIv _ (.tail _ (.tail _ (.tail _ (.head _))))) rfl
  have b4 : (1 : Int) ≤ s4 ∧ s4 ≤ (1 : Int) := ivX (q := (4, .ofNat 1, .ofNat 1)) (y := s4) (hIv _ (.tail _ (.tail _ (.tail _ (.tail _ (.head _)))))) rfl
  have b7 : (26 : Int) ≤ s7 ∧ s7 ≤ (29 : Int) := ivX (q := (7, .ofNat 26, .ofNat 29)) (y := s7) (hIv _ (.tail _ (.tail _ (.tail _ (.tail _ (.tail _ (.tail _ (.tail _ (.head _))))))))) rfl
  have hRf : ∀ q ∈ ([((40, .ofNat 173, []), (.ofNat 9, []), 1, .ofNat 0, [])] : List sRf), rfOk [s0, s1, s2, s3, s4, s5, s6, s7, s8] hp q := hH.1
  have h0 : hI hp 173 9 = 0 := rfI0 (hRf _ (.head _)) (sE_k _ _) (sE_k _ _) (sE_k _ _)
  have hFc : ∀ q ∈ ([(192, [(.ofNat 0, [(.ofNat 1, 0)]), (.ofNat 0, [(.ofNat 1, 1)]), (.ofNat 0, [(.ofNat 1, 2)]), (.ofNat 0, [(.ofNat 1, 3)]), (.ofNat 0, [(.ofNat 1, 4)]), (.ofNat 0, [(.ofNat 1, 5)]), (.ofNat 0, [(.ofNat 1, 6)]), (.ofNat 0, [(.ofNat 1, 7)])]), (199, [(.ofNat 0, [(.ofNat 1, 3)]), (.ofNat 6, [])]), (200, [(.ofNat 0, [(.ofNat 1, 3)]), (.ofNat 0, [(.ofNat 1, 8)])])] : List sFc), fcOk fFS [s0, s1, s2, s3, s4, s5, s6, s7, s8] hp q := hH.2
  have f0 : SHq (XT hp) (nmR hp (xnm hp)) s0 s1 s2 s3 s4 s5 s6 s7 ∧ s4 ≠ 4 := fcX (ys := [s0, s1, s2, s3, s4, s5, s6, s7]) (hFc _ (.head _)) ⟨sE_V rfl, sE_V rfl, sE_V rfl, sE_V rfl, sE_V rfl, sE_V rfl, sE_V rfl, sE_V rfl, trivial⟩
  have f1 : (6 : Int) = dp s3 + 1 := fcX (ys := [s3, 6]) (hFc _ (.tail _ (.head _))) ⟨sE_V rfl, sE_k _ _, trivial⟩
  have f2 : s8 = nr s3 := fcX (ys := [s3, s8]) (hFc _ (.tail _ (.tail _ (.head _)))) ⟨sE_V rfl, sE_V rfl, trivial⟩
  have ud : dp s3 ≤ 7 := by omega
  have ut := dp_lt (t := s3) (by omega) ud
  exact poX (.head _) rfl hR (all_nil) (all_nil) (all_cons ⟨[s6, 4, (s2 + 1), s3], ⟨sE_V rfl, sE_k _ _, sEv (y' := ((1 : Int) + ((1 : Int) * s2 + 0))) rfl (by omega), sE_V rfl, trivial⟩, (show SG (XT hp) (nmR hp (xnm hp)) s6 (4 : Int) (s2 + 1) s3 from s0_cmp f0.1 (by omega) (by omega) (by omega) (by omega) ud)⟩ (all_nil))
theorem rl363 : ruOk fFS gR363 := by
  intro r hp hO hN hH
  obtain ⟨s0, s1, s2, s3, s4, s5, s6, s7, s8, rfl⟩ := len9 (show r.length = 9 from hN.1)
  have hR := hN.2.1.1
  have hIv : ∀ q ∈ ([(0, .negSucc 2147483647, .ofNat 2147483647), (1, .ofNat 0, .ofNat 0), (2, .ofNat 0, .ofNat 19), (3, .ofNat 0, .ofNat 6560), (4, .ofNat 1, .ofNat 1), (5, .negSucc 2147483647, .ofNat 2147483647), (6, .negSucc 2147483647, .ofNat 2147483647), (7, .ofNat 26, .ofNat 29), (8, .negSucc 2147483647, .ofNat 2147483647)] : sIv), ∃ x, ([s0, s1, s2, s3, s4, s5, s6, s7, s8] : List Int)[q.1]? = some x ∧ q.2.1 ≤ x ∧ x ≤ q.2.2 := hN.2.1.2
  have b1 : (0 : Int) ≤ s1 ∧ s1 ≤ (0 : Int) := ivX (q := (1, .ofNat 0, .ofNat 0)) (y := s1) (hIv _ (.tail _ (.head _))) rfl
  have b2 : (0 : Int) ≤ s2 ∧ s2 ≤ (19 : Int) := ivX (q := (2, .ofNat 0, .ofNat 19)) (y := s2) (hIv _ (.tail _ (.tail _ (.head _)))) rfl
  have b3 : (0 : Int) ≤ s3 ∧ s3 ≤ (6560 : Int) := ivX (q := (3, .ofNat 0, .ofNat 6560)) (y := s3) (hIv _ (.tail _ (.tail _ (.tail _ (.head _))))) rfl
  have b4 : (1 : Int) ≤ s4 ∧ s4 ≤ (1 : Int) := ivX (q := (4, .ofNat 1, .ofNat 1)) (y := s4) (hIv _ (.tail _ (.tail _ (.tail _ (.tail _ (.head _)))))) rfl
  have b7 : (26 : Int) ≤ s7 ∧ s7 ≤ (29 : Int) := ivX (q := (7, .ofNat 26, .ofNat 29)) (y := s7) (hIv _ (.tail _ (.tail _ (.tail _ (.tail _ (.tail _ (.tail _ (.tail _ (.head _))))))))) rfl
  have hRf : ∀ q ∈ ([((40, .ofNat 173, []), (.ofNat 9, []), 1, .ofNat 0, [])] : List sRf), rfOk [s0, s1, s2, s3, s4, s5, s6, s7, s8] hp q := hH.1
  have h0 : hI hp 173 9 = 0 := rfI0 (hRf _ (.head _)) (sE_k _ _) (sE_k _ _) (sE_k _ _)
  have hFc : ∀ q ∈ ([(192, [(.ofNat 0, [(.ofNat 1, 0)]), (.ofNat 0, [(.ofNat 1, 1)]), (.ofNat 0, [(.ofNat 1, 2)]), (.ofNat 0, [(.ofNat 1, 3)]), (.ofNat 0, [(.ofNat 1, 4)]), (.ofNat 0, [(.ofNat 1, 5)]), (.ofNat 0, [(.ofNat 1, 6)]), (.ofNat 0, [(.ofNat 1, 7)])]), (199, [(.ofNat 0, [(.ofNat 1, 3)]), (.ofNat 7, [])]), (200, [(.ofNat 0, [(.ofNat 1, 3)]), (.ofNat 0, [(.ofNat 1, 8)])])] : List sFc), fcOk fFS [s0, s1, s2, s3, s4, s5, s6, s7, s8] hp q := hH.2
  have f0 : SHq (XT hp) (nmR hp (xnm hp)) s0 s1 s2 s3 s4 s5 s6 s7 ∧ s4 ≠ 4 := fcX (ys := [s0, s1, s2, s3, s4, s5, s6, s7]) (hFc _ (.head _)) ⟨sE_V rfl, sE_V rfl, sE_V rfl, sE_V rfl, sE_V rfl, sE_V rfl, sE_V rfl, sE_V rfl, trivial⟩
  have f1 : (7 : Int) = dp s3 + 1 := fcX (ys := [s3, 7]) (hFc _ (.tail _ (.head _))) ⟨sE_V rfl, sE_k _ _, trivial⟩
  have f2 : s8 = nr s3 := fcX (ys := [s3, s8]) (hFc _ (.tail _ (.tail _ (.head _)))) ⟨sE_V rfl, sE_V rfl, trivial⟩
  have ud : dp s3 ≤ 7 := by omega
  have ut := dp_lt (t := s3) (by omega) ud
  exact poX (.head _) rfl hR (all_nil) (all_nil) (all_cons ⟨[s6, 4, (s2 + 1), s3], ⟨sE_V rfl, sE_k _ _, sEv (y' := ((1 : Int) + ((1 : Int) * s2 + 0))) rfl (by omega), sE_V rfl, trivial⟩, (show SG (XT hp) (nmR hp (xnm hp)) s6 (4 : Int) (s2 + 1) s3 from s0_cmp f0.1 (by omega) (by omega) (by omega) (by omega) ud)⟩ (all_nil))
theorem rl364 : ruOk fFS gR364 := by
  intro r hp hO hN hH
  obtain ⟨s0, s1, s2, s3, s4, s5, s6, s7, s8, rfl⟩ := len9 (show r.length = 9 from hN.1)
  have hR := hN.2.1.1
  have hIv : ∀ q ∈ ([(0, .negSucc 2147483647, .ofNat 2147483647), (1, .ofNat 0, .ofNat 0), (2, .ofNat 0, .ofNat 19), (3, .ofNat 0, .ofNat 6560), (4, .ofNat 1, .ofNat 1), (5, .negSucc 2147483647, .ofNat 2147483647), (6, .negSucc 2147483647, .ofNat 2147483647), (7, .ofNat 26, .ofNat 29), (8, .negSucc 2147483647, .ofNat 2147483647)] : sIv), ∃ x, ([s0, s1, s2, s3, s4, s5, s6, s7, s8] : List Int)[q.1]? = some x ∧ q.2.1 ≤ x ∧ x ≤ q.2.2 := hN.2.1.2
  have b1 : (0 : Int) ≤ s1 ∧ s1 ≤ (0 : Int) := ivX (q := (1, .ofNat 0, .ofNat 0)) (y := s1) (hIv _ (.tail _ (.head _))) rfl
  have b2 : (0 : Int) ≤ s2 ∧ s2 ≤ (19 : Int) := ivX (q := (2, .ofNat 0, .ofNat 19)) (y := s2) (hIv _ (.tail _ (.tail _ (.head _)))) rfl
  have b3 : (0 : Int) ≤ s3 ∧ s3 ≤ (6560 : Int) := ivX (q := (3, .ofNat 0, .ofNat 6560)) (y := s3) (hIv _ (.tail _ (.tail _ (.tail _ (.head _))))) rfl
  have b4 : (1 : Int) ≤ s4 ∧ s4 ≤ (1 : Int) := ivX (q := (4, .ofNat 1, .ofNat 1)) (y := s4) (hIv _ (.tail _ (.tail _ (.tail _ (.tail _ (.head _)))))) rfl
  have b7 : (26 : Int) ≤ s7 ∧ s7 ≤ (29 : Int) := ivX (q := (7, .ofNat 26, .ofNat 29)) (y := s7) (hIv _ (.tail _ (.tail _ (.tail _ (.tail _ (.tail _ (.tail _ (.tail _ (.head _))))))))) rfl
  have hRf : ∀ q ∈ ([((40, .ofNat 173, []), (.ofNat 9, []), 1, .ofNat 0, [])] : List sRf), rfOk [s0, s1, s2, s3, s4, s5, s6, s7, s8] hp q := hH.1
  have h0 : hI hp 173 9 = 0 := rfI0 (hRf _ (.head _)) (sE_k _ _) (sE_k _ _) (sE_k _ _)
  have hFc : ∀ q ∈ ([(192, [(.ofNat 0, [(.ofNat 1, 0)]), (.ofNat 0, [(.ofNat 1, 1)]), (.ofNat 0, [(.ofNat 1, 2)]), (.ofNat 0, [(.ofNat 1, 3)]), (.ofNat 0, [(.ofNat 1, 4)]), (.ofNat 0, [(.ofNat 1, 5)]), (.ofNat 0, [(.ofNat 1, 6)]), (.ofNat 0, [(.ofNat 1, 7)])]), (199, [(.ofNat 0, [(.ofNat 1, 3)]), (.ofNat 8, [])]), (200, [(.ofNat 0, [(.ofNat 1, 3)]), (.ofNat 0, [(.ofNat 1, 8)])])] : List sFc), fcOk fFS [s0, s1, s2, s3, s4, s5, s6, s7, s8] hp q := hH.2
  have f0 : SHq (XT hp) (nmR hp (xnm hp)) s0 s1 s2 s3 s4 s5 s6 s7 ∧ s4 ≠ 4 := fcX (ys := [s0, s1, s2, s3, s4, s5, s6, s7]) (hFc _ (.head _)) ⟨sE_V rfl, sE_V rfl, sE_V rfl, sE_V rfl, sE_V rfl, sE_V rfl, sE_V rfl, sE_V rfl, trivial⟩
  have f1 : (8 : Int) = dp s3 + 1 := fcX (ys := [s3, 8]) (hFc _ (.tail _ (.head _))) ⟨sE_V rfl, sE_k _ _, trivial⟩
  have f2 : s8 = nr s3 := fcX (ys := [s3, s8]) (hFc _ (.tail _ (.tail _ (.head _)))) ⟨sE_V rfl, sE_V rfl, trivial⟩
  have ud : dp s3 ≤ 7 := by omega
  have ut := dp_lt (t := s3) (by omega) ud
  exact poX (.head _) rfl hR (all_nil) (all_nil) (all_cons ⟨[s6, 4, (s2 + 1), s3], ⟨sE_V rfl, sE_k _ _, sEv (y' := ((1 : Int) + ((1 : Int) * s2 + 0))) rfl (by omega), sE_V rfl, trivial⟩, (show SG (XT hp) (nmR hp (xnm hp)) s6 (4 : Int) (s2 + 1) s3 from s0_cmp f0.1 (by omega) (by omega) (by omega) (by omega) ud)⟩ (all_nil))
theorem rl366 : ruOk fFS gR366 := by
  intro r hp hO hN hH
  obtain ⟨s0, s1, s2, s3, s4, s5, s6, s7, rfl⟩ := len8 (show r.length = 8 from hN.1)
  have hR := hN.2.1.1
  have hIv : ∀ q ∈ ([(0, .negSucc 2147483647, .ofNat 2147483647), (1, .ofNat 4, .ofNat 4), (2, .negSucc 2147483647, .ofNat 2147483647), (3, .negSucc 2147483647, .ofNat 2147483647), (4, .ofNat 0, .ofNat 2), (5, .negSucc 2147483647, .ofNat 2147483647), (6, .negSucc 2147483647, .ofNat 2147483647), (7, .negSucc 2147483647, .ofNat 2147483647)] : sIv), ∃ x, ([s0, s1, s2, s3, s4, s5, s6, s7] : List Int)[q.1]? = some x ∧ q.2.1 ≤ x ∧ x ≤ q.2.2 := hN.2.1.2
  have b1 : (4 : Int) ≤ s1 ∧ s1 ≤ (4 : Int) := ivX (q := (1, .ofNat 4, .ofNat 4)) (y := s1) (hIv _ (.tail _ (.head _))) rfl
  have b4 : (0 : Int) ≤ s4 ∧ s4 ≤ (2 : Int) := ivX (q := (4, .ofNat 0, .ofNat 2)) (y := s4) (hIv _ (.tail _ (.tail _ (.tail _ (.tail _ (.head _)))))) rfl
  have hRf : ∀ q ∈ ([((40, .ofNat 173, []), (.ofNat 9, []), 1, .ofNat 0, [])] : List sRf), rfOk [s0, s1, s2, s3, s4, s5, s6, s7] hp q := hH.1
  have h0 : hI hp 173 9 = 0 := rfI0 (hRf _ (.head _)) (sE_k _ _) (sE_k _ _) (sE_k _ _)
  have hFc : ∀ q ∈ ([(192, [(.ofNat 0, [(.ofNat 1, 0)]), (.ofNat 0, [(.ofNat 1, 1)]), (.ofNat 0, [(.ofNat 1, 2)]), (.ofNat 0, [(.ofNat 1, 3)]), (.ofNat 0, [(.ofNat 1, 4)]), (.ofNat 0, [(.ofNat 1, 5)]), (.ofNat 0, [(.ofNat 1, 6)]), (.ofNat 0, [(.ofNat 1, 7)])])] : List sFc), fcOk fFS [s0, s1, s2, s3, s4, s5, s6, s7] hp q := hH.2
  have f0 : SHq (XT hp) (nmR hp (xnm hp)) s0 s1 s2 s3 s4 s5 s6 s7 ∧ s4 ≠ 4 := fcX (ys := [s0, s1, s2, s3, s4, s5, s6, s7]) (hFc _ (.head _)) ⟨sE_V rfl, sE_V rfl, sE_V rfl, sE_V rfl, sE_V rfl, sE_V rfl, sE_V rfl, sE_V rfl, trivial⟩
  exact poX (.head _) rfl hR (all_nil) (all_nil) (all_cons ⟨[1, s5], ⟨sE_k _ _, sE_V rfl, trivial⟩, (show SRS (XT hp) (nmR hp (xnm hp)) (1 : Int) s5 from s4_f1 f0.1 (by omega) (by omega))⟩ (all_nil))
theorem rl367 : ruOk fFS gR367 := by
  intro r hp hO hN hH
  obtain ⟨s0, s1, s2, s3, s4, s5, s6, s7, rfl⟩ := len8 (show r.length = 8 from hN.1)
  have hR := hN.2.1.1
  have hIv : ∀ q ∈ ([(0, .negSucc 2147483647, .ofNat 2147483647), (1, .ofNat 4, .ofNat 4), (2, .negSucc 2147483647, .ofNat 2147483647), (3, .negSucc 2147483647, .ofNat 2147483647), (4, .ofNat 3, .ofNat 3), (5, .negSucc 2147483647, .ofNat 2147483647), (6, .negSucc 2147483647, .ofNat 2147483647), (7, .ofNat 60, .ofNat 62)] : sIv), ∃ x, ([s0, s1, s2, s3, s4, s5, s6, s7] : List Int)[q.1]? = some x ∧ q.2.1 ≤ x ∧ x ≤ q.2.2 := hN.2.1.2
  have b1 : (4 : Int) ≤ s1 ∧ s1 ≤ (4 : Int) := ivX (q := (1, .ofNat 4, .ofNat 4)) (y := s1) (hIv _ (.tail _ (.head _))) rfl
  have b4 : (3 : Int) ≤ s4 ∧ s4 ≤ (3 : Int) := ivX (q := (4, .ofNat 3, .ofNat 3)) (y := s4) (hIv _ (.tail _ (.tail _ (.tail _ (.tail _ (.head _)))))) rfl
  have b7 : (60 : Int) ≤ s7 ∧ s7 ≤ (62 : Int) := ivX (q := (7, .ofNat 60, .ofNat 62)) (y := s7) (hIv _ (.tail _ (.tail _ (.tail _ (.tail _ (.tail _ (.tail _ (.tail _ (.head _))))))))) rfl
  have hRf : ∀ q ∈ ([((40, .ofNat 173, []), (.ofNat 9, []), 1, .ofNat 0, [])] : List sRf), rfOk [s0, s1, s2, s3, s4, s5, s6, s7] hp q := hH.1
  have h0 : hI hp 173 9 = 0 := rfI0 (hRf _ (.head _)) (sE_k _ _) (sE_k _ _) (sE_k _ _)
  have hFc : ∀ q ∈ ([(192, [(.ofNat 0, [(.ofNat 1, 0)]), (.ofNat 0, [(.ofNat 1, 1)]), (.ofNat 0, [(.ofNat 1, 2)]), (.ofNat 0, [(.ofNat 1, 3)]), (.ofNat 0, [(.ofNat 1, 4)]), (.ofNat 0, [(.ofNat 1, 5)]), (.ofNat 0, [(.ofNat 1, 6)]), (.ofNat 0, [(.ofNat 1, 7)])])] : List sFc), fcOk fFS [s0, s1, s2, s3, s4, s5, s6, s7] hp q := hH.2
  have f0 : SHq (XT hp) (nmR hp (xnm hp)) s0 s1 s2 s3 s4 s5 s6 s7 ∧ s4 ≠ 4 := fcX (ys := [s0, s1, s2, s3, s4, s5, s6, s7]) (hFc _ (.head _)) ⟨sE_V rfl, sE_V rfl, sE_V rfl, sE_V rfl, sE_V rfl, sE_V rfl, sE_V rfl, sE_V rfl, trivial⟩
  exact poX (.head _) rfl hR (all_nil) (all_nil) (all_cons ⟨[s6, 5, s2, s3], ⟨sE_V rfl, sE_k _ _, sE_V rfl, sE_V rfl, trivial⟩, (show SG (XT hp) (nmR hp (xnm hp)) s6 (5 : Int) s2 s3 from s4_go f0.1 (by omega) ⟨by omega, by omega, by omega⟩)⟩ (all_cons ⟨[0, 99], ⟨sE_k _ _, sE_k _ _, trivial⟩, (show (0 : Int) ≤ 0 ∧ 99 ≤ (99 : Int) from ⟨by omega, by omega⟩)⟩ (all_nil)))
theorem rl368 : ruOk fFS gR368 := by
  intro r hp hO hN hH
  obtain ⟨s0, s1, s2, s3, s4, s5, s6, s7, s8, rfl⟩ := len9 (show r.length = 9 from hN.1)
  have hR := hN.2.1.1
  have hIv : ∀ q ∈ ([(0, .negSucc 2147483647, .ofNat 2147483647), (1, .ofNat 5, .ofNat 5), (2, .negSucc 2147483647, .ofNat 2147483647), (3, .negSucc 2147483647, .ofNat 2147483647), (4, .ofNat 2, .ofNat 2), (5, .negSucc 2147483647, .ofNat 2147483647), (6, .negSucc 2147483647, .ofNat 2147483647), (7, .negSucc 2147483647, .ofNat 2147483647), (8, .negSucc 2147483647, .ofNat 2147483647)] : sIv), ∃ x, ([s0, s1, s2, s3, s4, s5, s6, s7, s8] : List Int)[q.1]? = some x ∧ q.2.1 ≤ x ∧ x ≤ q.2.2 := hN.2.1.2
  have b1 : (5 : Int) ≤ s1 ∧ s1 ≤ (5 : Int) := ivX (q := (1, .ofNat 5, .ofNat 5)) (y := s1) (hIv _ (.tail _ (.head _))) rfl
  have b4 : (2 : Int) ≤ s4 ∧ s4 ≤ (2 : Int) := ivX (q := (4, .ofNat 2, .ofNat 2)) (y := s4) (hIv _ (.tail _ (.tail _ (.tail _ (.tail _ (.head _)))))) rfl
  have hRf : ∀ q ∈ ([((40, .ofNat 173, []), (.ofNat 9, []), 1, .ofNat 0, [])] : List sRf), rfOk [s0, s1, s2, s3, s4, s5, s6, s7, s8] hp q := hH.1
  have h0 : hI hp 173 9 = 0 := rfI0 (hRf _ (.head _)) (sE_k _ _) (sE_k _ _) (sE_k _ _)
  have hFc : ∀ q ∈ ([(192, [(.ofNat 0, [(.ofNat 1, 0)]), (.ofNat 0, [(.ofNat 1, 1)]), (.ofNat 0, [(.ofNat 1, 2)]), (.ofNat 0, [(.ofNat 1, 3)]), (.ofNat 0, [(.ofNat 1, 4)]), (.ofNat 0, [(.ofNat 1, 5)]), (.ofNat 0, [(.ofNat 1, 6)]), (.ofNat 0, [(.ofNat 1, 7)])]), (200, [(.ofNat 0, [(.ofNat 1, 3)]), (.ofNat 0, [(.ofNat 1, 8)])])] : List sFc), fcOk fFS [s0, s1, s2, s3, s4, s5, s6, s7, s8] hp q := hH.2
  have f0 : SHq (XT hp) (nmR hp (xnm hp)) s0 s1 s2 s3 s4 s5 s6 s7 ∧ s4 ≠ 4 := fcX (ys := [s0, s1, s2, s3, s4, s5, s6, s7]) (hFc _ (.head _)) ⟨sE_V rfl, sE_V rfl, sE_V rfl, sE_V rfl, sE_V rfl, sE_V rfl, sE_V rfl, sE_V rfl, trivial⟩
  have f1 : s8 = nr s3 := fcX (ys := [s3, s8]) (hFc _ (.tail _ (.head _))) ⟨sE_V rfl, sE_V rfl, trivial⟩
  exact poX (.head _) rfl hR (all_nil) (all_nil) (all_cons ⟨[s6, 6, s2, s8], ⟨sE_V rfl, sE_k _ _, sE_V rfl, sE_V rfl, trivial⟩, (show SG (XT hp) (nmR hp (xnm hp)) s6 (6 : Int) s2 s8 from sg_u f1 (s5_go f0.1 (by omega) (by omega)))⟩ (all_nil))
theorem rl369 : ruOk fFS gR369 := by
  intro r hp hO hN hH
  obtain ⟨s0, s1, s2, s3, s4, s5, s6, s7, s8, s9, rfl⟩ := len10 (show r.length = 10 from hN.1)
  have hR := hN.2.1.1
  have hIv : ∀ q ∈ ([(0, .negSucc 2147483647, .ofNat 2147483647), (1, .ofNat 1, .ofNat 1), (2, .negSucc 2147483647, .ofNat 2147483647), (3, .negSucc 2147483647, .ofNat 2147483647), (4, .ofNat 1, .ofNat 1), (5, .negSucc 2147483647, .ofNat 2147483647), (6, .negSucc 2147483647, .ofNat 2147483647), (7, .negSucc 0, .negSucc 0), (8, .negSucc 2147483647, .ofNat 2147483647), (9, .ofNat 7, .ofNat 11)] : sIv), ∃ x, ([s0, s1, s2, s3, s4, s5, s6, s7, s8, s9] : List Int)[q.1]? = some x ∧ q.2.1 ≤ x ∧ x ≤ q.2.2 := hN.2.1.2
  have b1 : (1 : Int) ≤ s1 ∧ s1 ≤ (1 : Int) := ivX (q := (1, .ofNat 1, .ofNat 1)) (y := s1) (hIv _ (.tail _ (.head _))) rfl
  have b4 : (1 : Int) ≤ s4 ∧ s4 ≤ (1 : Int) := ivX (q := (4, .ofNat 1, .ofNat 1)) (y := s4) (hIv _ (.tail _ (.tail _ (.tail _ (.tail _ (.head _)))))) rfl
  have b7 : (-1 : Int) ≤ s7 ∧ s7 ≤ (-1 : Int) := ivX (q := (7, .negSucc 0, .negSucc 0)) (y := s7) (hIv _ (.tail _ (.tail _ (.tail _ (.tail _ (.tail _ (.tail _ (.tail _ (.head _))))))))) rfl
  have b9 : (7 : Int) ≤ s9 ∧ s9 ≤ (11 : Int) := ivX (q := (9, .ofNat 7, .ofNat 11)) (y := s9) (hIv _ (.tail _ (.tail _ (.tail _ (.tail _ (.tail _ (.tail _ (.tail _ (.tail _ (.tail _ (.head _))))))))))) rfl
  have hRf : ∀ q ∈ ([((40, .ofNat 173, []), (.ofNat 9, []), 1, .ofNat 0, [])] : List sRf), rfOk [s0, s1, s2, s3, s4, s5, s6, s7, s8, s9] hp q := hH.1
  have h0 : hI hp 173 9 = 0 := rfI0 (hRf _ (.head _)) (sE_k _ _) (sE_k _ _) (sE_k _ _)
  have hFc : ∀ q ∈ ([(192, [(.ofNat 0, [(.ofNat 1, 0)]), (.ofNat 0, [(.ofNat 1, 1)]), (.ofNat 0, [(.ofNat 1, 2)]), (.ofNat 0, [(.ofNat 1, 3)]), (.ofNat 0, [(.ofNat 1, 4)]), (.ofNat 0, [(.ofNat 1, 5)]), (.ofNat 0, [(.ofNat 1, 6)]), (.ofNat 0, [(.ofNat 1, 7)])]), (200, [(.ofNat 0, [(.ofNat 1, 3)]), (.ofNat 0, [(.ofNat 1, 8)])]), (194, [(.ofNat 0, [(.ofNat 1, 5)]), (.ofNat 0, [(.ofNat 1, 6)]), (.ofNat 0, [(.ofNat 1, 9)])])] : List sFc), fcOk fFS [s0, s1, s2, s3, s4, s5, s6, s7, s8, s9] hp q := hH.2
  have f0 : SHq (XT hp) (nmR hp (xnm hp)) s0 s1 s2 s3 s4 s5 s6 s7 ∧ s4 ≠ 4 := fcX (ys := [s0, s1, s2, s3, s4, s5, s6, s7]) (hFc _ (.head _)) ⟨sE_V rfl, sE_V rfl, sE_V rfl, sE_V rfl, sE_V rfl, sE_V rfl, sE_V rfl, sE_V rfl, trivial⟩
  have f1 : s8 = nr s3 := fcX (ys := [s3, s8]) (hFc _ (.tail _ (.head _))) ⟨sE_V rfl, sE_V rfl, trivial⟩
  have f2 : scW (fun j => hL hp (xnm hp) j) (cd 32 96 (bs (XT hp).1 s5 s6)) s9 := fcX (ys := [s5, s6, s9]) (hFc _ (.tail _ (.tail _ (.head _)))) ⟨sE_V rfl, sE_V rfl, sE_V rfl, trivial⟩
  exact poX (.head _) rfl hR (all_nil) (all_nil) (all_cons ⟨[s6, 6, s2, s8], ⟨sE_V rfl, sE_k _ _, sE_V rfl, sE_V rfl, trivial⟩, (show SG (XT hp) (nmR hp (xnm hp)) s6 (6 : Int) s2 s8 from sg_u f1 (sn_go f0.1 (by unfold sNc; omega) (by omega) (by omega) (nmX_yes f2 (by unfold sRg; omega))))⟩ (all_nil))
theorem rl370 : ruOk fFS gR370 := by
  intro r hp hO hN hH
  obtain ⟨s0, s1, s2, s3, s4, s5, s6, s7, s8, s9, rfl⟩ := len10 (show r.length = 10 from hN.1)
  have hR := hN.2.1.1
  have hIv : ∀ q ∈ ([(0, .negSucc 2147483647, .ofNat 2147483647), (1, .ofNat 2, .ofNat 2), (2, .negSucc 2147483647, .ofNat 2147483647), (3, .negSucc 2147483647, .ofNat 2147483647), (4, .ofNat 1, .ofNat 1), (5, .negSucc 2147483647, .ofNat 2147483647), (6, .negSucc 2147483647, .ofNat 2147483647), (7, .negSucc 0, .negSucc 0), (8, .negSucc 2147483647, .ofNat 2147483647), (9, .ofNat 0, .ofNat 3)] : sIv), ∃ x, ([s0, s1, s2, s3, s4, s5, s6, s7, s8, s9] : List Int)[q.1]? = some x ∧ q.2.1 ≤ x ∧ x ≤ q.2.2 := hN.2.1.2
  have b1 : (2 : Int) ≤ s1 ∧ s1 ≤ (2 : Int) := ivX (q := (1, .ofNat 2, .ofNat 2)) (y := s1) (hIv _ (.tail _ (.head _))) rfl
  have b4 : (1 : Int) ≤ s4 ∧ s4 ≤ (1 : Int) := ivX (q := (4, .ofNat 1, .ofNat 1)) (y := s4) (hIv _ (.tail _ (.tail _ (.tail _ (.tail _ (.head _)))))) rfl
  have b7 : (-1 : Int) ≤ s7 ∧ s7 ≤ (-1 : Int) := ivX (q := (7, .negSucc 0, .negSucc 0)) (y := s7) (hIv _ (.tail _ (.tail _ (.tail _ (.tail _ (.tail _ (.tail _ (.tail _ (.head _))))))))) rfl
  have b9 : (0 : Int) ≤ s9 ∧ s9 ≤ (3 : Int) := ivX (q := (9, .ofNat 0, .ofNat 3)) (y := s9) (hIv _ (.tail _ (.tail _ (.tail _ (.tail _ (.tail _ (.tail _ (.tail _ (.tail _ (.tail _ (.head _))))))))))) rfl
  have hRf : ∀ q ∈ ([((40, .ofNat 173, []), (.ofNat 9, []), 1, .ofNat 0, [])] : List sRf), rfOk [s0, s1, s2, s3, s4, s5, s6, s7, s8, s9] hp q := hH.1
  have h0 : hI hp 173 9 = 0 := rfI0 (hRf _ (.head _)) (sE_k _ _) (sE_k _ _) (sE_k _ _)
  have hFc : ∀ q ∈ ([(192, [(.ofNat 0, [(.ofNat 1, 0)]), (.ofNat 0, [(.ofNat 1, 1)]), (.ofNat 0, [(.ofNat 1, 2)]), (.ofNat 0, [(.ofNat 1, 3)]), (.ofNat 0, [(.ofNat 1, 4)]), (.ofNat 0, [(.ofNat 1, 5)]), (.ofNat 0, [(.ofNat 1, 6)]), (.ofNat 0, [(.ofNat 1, 7)])]), (200, [(.ofNat 0, [(.ofNat 1, 3)]), (.ofNat 0, [(.ofNat 1, 8)])]), (194, [(.ofNat 0, [(.ofNat 1, 5)]), (.ofNat 0, [(.ofNat 1, 6)]), (.ofNat 0, [(.ofNat 1, 9)])])] : List sFc), fcOk fFS [s0, s1, s2, s3, s4, s5, s6, s7, s8, s9] hp q := hH.2
  have f0 : SHq (XT hp) (nmR hp (xnm hp)) s0 s1 s2 s3 s4 s5 s6 s7 ∧ s4 ≠ 4 := fcX (ys := [s0, s1, s2, s3, s4, s5, s6, s7]) (hFc _ (.head _)) ⟨sE_V rfl, sE_V rfl, sE_V rfl, sE_V rfl, sE_V rfl, sE_V rfl, sE_V rfl, sE_V rfl, trivial⟩
  have f1 : s8 = nr s3 := fcX (ys := [s3, s8]) (hFc _ (.tail _ (.head _))) ⟨sE_V rfl, sE_V rfl, trivial⟩
  have f2 : scW (fun j => hL hp (xnm hp) j) (cd 32 96 (bs (XT hp).1 s5 s6)) s9 := fcX (ys := [s5, s6, s9]) (hFc _ (.tail _ (.tail _ (.head _)))) ⟨sE_V rfl, sE_V rfl, sE_V rfl, trivial⟩
  exact poX (.head _) rfl hR (all_nil) (all_nil) (all_cons ⟨[s6, 6, s2, s8], ⟨sE_V rfl, sE_k _ _, sE_V rfl, sE_V rfl, trivial⟩, (show SG (XT hp) (nmR hp (xnm hp)) s6 (6 : Int) s2 s8 from sg_u f1 (sn_go f0.1 (by unfold sNc; omega) (by omega) (by omega) (nmX_yes f2 (by unfold sRg; omega))))⟩ (all_nil))
theorem rl371 : ruOk fFS gR371 := by
  intro r hp hO hN hH
  obtain ⟨s0, s1, s2, s3, s4, s5, s6, s7, s8, s9, rfl⟩ := len10 (show r.length = 10 from hN.1)
  have hR := hN.2.1.1
  have hIv : ∀ q ∈ ([(0, .negSucc 2147483647, .ofNat 2147483647), (1, .ofNat 3, .ofNat 3), (2, .negSucc 2147483647, .ofNat 2147483647), (3, .negSucc 2147483647, .ofNat 2147483647), (4, .ofNat 1, .ofNat 1), (5, .negSucc 2147483647, .ofNat 2147483647), (6, .negSucc 2147483647, .ofNat 2147483647), (7, .negSucc 0, .negSucc 0), (8, .negSucc 2147483647, .ofNat 2147483647), (9, .ofNat 4, .ofNat 6)] : sIv), ∃ x, ([s0, s1, s2, s3, s4, s5, s6, s7, s8, s9] : List Int)[q.1]? = some x ∧ q.2.1 ≤ x ∧ x ≤ q.2.2 := hN.2.1.2
  have b1 : (3 : Int) ≤ s1 ∧ s1 ≤ (3 : Int) := ivX (q := (1, .ofNat 3, .ofNat 3)) (y := s1) (hIv _ (.tail _ (.head _))) rfl
  have b4 : (1 : Int) ≤ s4 ∧ s4 ≤ (1 : Int) := ivX (q := (4, .ofNat 1, .ofNat 1)) (y := s4) (hIv _ (.tail _ (.tail _ (.tail _ (.tail _ (.head _)))))) rfl
  have b7 : (-1 : Int) ≤ s7 ∧ s7 ≤ (-1 : Int) := ivX (q := (7, .negSucc 0, .negSucc 0)) (y := s7) (hIv _ (.tail _ (.tail _ (.tail _ (.tail _ (.tail _ (.tail _ (.tail _ (.head _))))))))) rfl
  have b9 : (4 : Int) ≤ s9 ∧ s9 ≤ (6 : Int) := ivX (q := (9, .ofNat 4, .ofNat 6)) (y := s9) (hIv _ (.tail _ (.tail _ (.tail _ (.tail _ (.tail _ (.tail _ (.tail _ (.tail _ (.tail _ (.head _))))))))))) rfl
  have hRf : ∀ q ∈ ([((40, .ofNat 173, []), (.ofNat 9, []), 1, .ofNat 0, [])] : List sRf), rfOk [s0, s1, s2, s3, s4, s5, s6, s7, s8, s9] hp q := hH.1
  have h0 : hI hp 173 9 = 0 := rfI0 (hRf _ (.head _)) (sE_k _ _) (sE_k _ _) (sE_k _ _)
  have hFc : ∀ q ∈ ([(192, [(.ofNat 0, [(.ofNat 1, 0)]), (.ofNat 0, [(.ofNat 1, 1)]), (.ofNat 0, [(.ofNat 1, 2)]), (.ofNat 0, [(.ofNat 1, 3)]), (.ofNat 0, [(.ofNat 1, 4)]), (.ofNat 0, [(.ofNat 1, 5)]), (.ofNat 0, [(.ofNat 1, 6)]), (.ofNat 0, [(.ofNat 1, 7)])]), (200, [(.ofNat 0, [(.ofNat 1, 3)]), (.ofNat 0, [(.ofNat 1, 8)])]), (194, [(.ofNat 0, [(.ofNat 1, 5)]), (.ofNat 0, [(.ofNat 1, 6)]), (.ofNat 0, [(.ofNat 1, 9)])])] : List sFc), fcOk fFS [s0, s1, s2, s3, s4, s5, s6, s7, s8, s9] hp q := hH.2
  have f0 : SHq (XT hp) (nmR hp (xnm hp)) s0 s1 s2 s3 s4 s5 s6 s7 ∧ s4 ≠ 4 := fcX (ys := [s0, s1, s2, s3, s4, s5, s6, s7]) (hFc _ (.head _)) ⟨sE_V rfl, sE_V rfl, sE_V rfl, sE_V rfl, sE_V rfl, sE_V rfl, sE_V rfl, sE_V rfl, trivial⟩
  have f1 : s8 = nr s3 := fcX (ys := [s3, s8]) (hFc _ (.tail _ (.head _))) ⟨sE_V rfl, sE_V rfl, trivial⟩
  have f2 : scW (fun j => hL hp (xnm hp) j) (cd 32 96 (bs (XT hp).1 s5 s6)) s9 := fcX (ys := [s5, s6, s9]) (hFc _ (.tail _ (.tail _ (.head _)))) ⟨sE_V rfl, sE_V rfl, sE_V rfl, trivial⟩
  exact poX (.head _) rfl hR (all_nil) (all_nil) (all_cons ⟨[s6, 6, s2, s8], ⟨sE_V rfl, sE_k _ _, sE_V rfl, sE_V rfl, trivial⟩, (show SG (XT hp) (nmR hp (xnm hp)) s6 (6 : Int) s2 s8 from sg_u f1 (sn_go f0.1 (by unfold sNc; omega) (by omega) (by omega) (nmX_yes f2 (by unfold sRg; omega))))⟩ (all_nil))
theorem rl375 : ruOk fFS gR375 := by
  intro r hp hO hN hH
  obtain ⟨s0, s1, s2, s3, s4, s5, s6, s7, rfl⟩ := len8 (show r.length = 8 from hN.1)
  have hR := hN.2.1.1
  have hIv : ∀ q ∈ ([(0, .negSucc 2147483647, .ofNat 2147483647), (1, .ofNat 4, .ofNat 4), (2, .negSucc 2147483647, .ofNat 2147483647), (3, .negSucc 2147483647, .ofNat 2147483647), (4, .ofNat 3, .ofNat 3), (5, .negSucc 2147483647, .ofNat 2147483647), (6, .negSucc 2147483647, .ofNat 2147483647), (7, .negSucc 0, .ofNat 59)] : sIv), ∃ x, ([s0, s1, s2, s3, s4, s5, s6, s7] : List Int)[q.1]? = some x ∧ q.2.1 ≤ x ∧ x ≤ q.2.2 := hN.2.1.2
  have b1 : (4 : Int) ≤ s1 ∧ s1 ≤ (4 : Int) := ivX (q := (1, .ofNat 4, .ofNat 4)) (y := s1) (hIv _ (.tail _ (.head _))) rfl
  have b4 : (3 : Int) ≤ s4 ∧ s4 ≤ (3 : Int) := ivX (q := (4, .ofNat 3, .ofNat 3)) (y := s4) (hIv _ (.tail _ (.tail _ (.tail _ (.tail _ (.head _)))))) rfl
  have b7 : (-1 : Int) ≤ s7 ∧ s7 ≤ (59 : Int) := ivX (q := (7, .negSucc 0, .ofNat 59)) (y := s7) (hIv _ (.tail _ (.tail _ (.tail _ (.tail _ (.tail _ (.tail _ (.tail _ (.head _))))))))) rfl
  have hRf : ∀ q ∈ ([((40, .ofNat 173, []), (.ofNat 9, []), 1, .ofNat 0, [])] : List sRf), rfOk [s0, s1, s2, s3, s4, s5, s6, s7] hp q := hH.1
  have h0 : hI hp 173 9 = 0 := rfI0 (hRf _ (.head _)) (sE_k _ _) (sE_k _ _) (sE_k _ _)
  have hFc : ∀ q ∈ ([(192, [(.ofNat 0, [(.ofNat 1, 0)]), (.ofNat 0, [(.ofNat 1, 1)]), (.ofNat 0, [(.ofNat 1, 2)]), (.ofNat 0, [(.ofNat 1, 3)]), (.ofNat 0, [(.ofNat 1, 4)]), (.ofNat 0, [(.ofNat 1, 5)]), (.ofNat 0, [(.ofNat 1, 6)]), (.ofNat 0, [(.ofNat 1, 7)])])] : List sFc), fcOk fFS [s0, s1, s2, s3, s4, s5, s6, s7] hp q := hH.2
  have f0 : SHq (XT hp) (nmR hp (xnm hp)) s0 s1 s2 s3 s4 s5 s6 s7 ∧ s4 ≠ 4 := fcX (ys := [s0, s1, s2, s3, s4, s5, s6, s7]) (hFc _ (.head _)) ⟨sE_V rfl, sE_V rfl, sE_V rfl, sE_V rfl, sE_V rfl, sE_V rfl, sE_V rfl, sE_V rfl, trivial⟩
  exact poX (.head _) rfl hR (all_nil) (all_nil) (all_cons ⟨[1, s5], ⟨sE_k _ _, sE_V rfl, trivial⟩, (show SRS (XT hp) (nmR hp (xnm hp)) (1 : Int) s5 from s4_f1 f0.1 (by omega) (by omega))⟩ (all_nil))
theorem rl376 : ruOk fFS gR376 := by
  intro r hp hO hN hH
  obtain ⟨s0, s1, s2, s3, s4, s5, s6, s7, rfl⟩ := len8 (show r.length = 8 from hN.1)
  have hR := hN.2.1.1
  have hIv : ∀ q ∈ ([(0, .negSucc 2147483647, .ofNat 2147483647), (1, .ofNat 4, .ofNat 4), (2, .negSucc 2147483647, .ofNat 2147483647), (3, .negSucc 2147483647, .ofNat 2147483647), (4, .ofNat 3, .ofNat 3), (5, .negSucc 2147483647, .ofNat 2147483647), (6, .negSucc 2147483647, .ofNat 2147483647), (7, .ofNat 63, .ofNat 2147483647)] : sIv), ∃ x, ([s0, s1, s2, s3, s4, s5, s6, s7] : List Int)[q.1]? = some x ∧ q.2.1 ≤ x ∧ x ≤ q.2.2 := hN.2.1.2
  have b1 : (4 : Int) ≤ s1 ∧ s1 ≤ (4 : Int) := ivX (q := (1, .ofNat 4, .ofNat 4)) (y := s1) (hIv _ (.tail _ (.head _))) rfl
  have b4 : (3 : Int) ≤ s4 ∧ s4 ≤ (3 : Int) := ivX (q := (4, .ofNat 3, .ofNat 3)) (y := s4) (hIv _ (.tail _ (.tail _ (.tail _ (.tail _ (.head _)))))) rfl
  have b7 : (63 : Int) ≤ s7 ∧ s7 ≤ (2147483647 : Int) := ivX (q := (7, .ofNat 63, .ofNat 2147483647)) (y := s7) (hIv _ (.tail _ (.tail _ (.tail _ (.tail _ (.tail _ (.tail _ (.tail _ (.head _))))))))) rfl
  have hRf : ∀ q ∈ ([((40, .ofNat 173, []), (.ofNat 9, []), 1, .ofNat 0, [])] : List sRf), rfOk [s0, s1, s2, s3, s4, s5, s6, s7] hp q := hH.1
  have h0 : hI hp 173 9 = 0 := rfI0 (hRf _ (.head _)) (sE_k _ _) (sE_k _ _) (sE_k _ _)
  have hFc : ∀ q ∈ ([(192, [(.ofNat 0, [(.ofNat 1, 0)]), (.ofNat 0, [(.ofNat 1, 1)]), (.ofNat 0, [(.ofNat 1, 2)]), (.ofNat 0, [(.ofNat 1, 3)]), (.ofNat 0, [(.ofNat 1, 4)]), (.ofNat 0, [(.ofNat 1, 5)]), (.ofNat 0, [(.ofNat 1, 6)]), (.ofNat 0, [(.ofNat 1, 7)])])] : List sFc), fcOk fFS [s0, s1, s2, s3, s4, s5, s6, s7] hp q := hH.2
  have f0 : SHq (XT hp) (nmR hp (xnm hp)) s0 s1 s2 s3 s4 s5 s6 s7 ∧ s4 ≠ 4 := fcX (ys := [s0, s1, s2, s3, s4, s5, s6, s7]) (hFc _ (.head _)) ⟨sE_V rfl, sE_V rfl, sE_V rfl, sE_V rfl, sE_V rfl, sE_V rfl, sE_V rfl, sE_V rfl, trivial⟩
  exact poX (.head _) rfl hR (all_nil) (all_nil) (all_cons ⟨[1, s5], ⟨sE_k _ _, sE_V rfl, trivial⟩, (show SRS (XT hp) (nmR hp (xnm hp)) (1 : Int) s5 from s4_f1 f0.1 (by omega) (by omega))⟩ (all_nil))
theorem rl377 : ruOk fFS gR377 := by
  intro r hp hO hN hH
  obtain ⟨s0, s1, s2, s3, s4, s5, s6, s7, s8, rfl⟩ := len9 (show r.length = 9 from hN.1)
  have hR := hN.2.1.1
  have hIv : ∀ q ∈ ([(0, .negSucc 2147483647, .ofNat 2147483647), (1, .ofNat 0, .ofNat 0), (2, .ofNat 0, .ofNat 19), (3, .ofNat 0, .ofNat 6560), (4, .ofNat 1, .ofNat 1), (5, .negSucc 2147483647, .ofNat 2147483647), (6, .negSucc 2147483647, .ofNat 2147483647), (7, .ofNat 21, .ofNat 21), (8, .negSucc 2147483647, .ofNat 2147483647)] : sIv), ∃ x, ([s0, s1, s2, s3, s4, s5, s6, s7, s8] : List Int)[q.1]? = some x ∧ q.2.1 ≤ x ∧ x ≤ q.2.2 := hN.2.1.2
  have b1 : (0 : Int) ≤ s1 ∧ s1 ≤ (0 : Int) := ivX (q := (1, .ofNat 0, .ofNat 0)) (y := s1) (hIv _ (.tail _ (.head _))) rfl
  have b2 : (0 : Int) ≤ s2 ∧ s2 ≤ (19 : Int) := ivX (q := (2, .ofNat 0, .ofNat 19)) (y := s2) (hIv _ (.tail _ (.tail _ (.head _)))) rfl
  have b3 : (0 : Int) ≤ s3 ∧ s3 ≤ (6560 : Int) := ivX (q := (3, .ofNat 0, .ofNat 6560)) (y := s3) (hIv _ (.tail _ (.tail _ (.tail _ (.head _))))) rfl
  have b4 : (1 : Int) ≤ s4 ∧ s4 ≤ (1 : Int) := ivX (q := (4, .ofNat 1, .ofNat 1)) (y := s4) (hIv _ (.tail _ (.tail _ (.tail _ (.tail _ (.head _)))))) rfl
  have b7 : (21 : Int) ≤ s7 ∧ s7 ≤ (21 : Int) := ivX (q := (7, .ofNat 21, .ofNat 21)) (y := s7) (hIv _ (.tail _ (.tail _ (.tail _ (.tail _ (.tail _ (.tail _ (.tail _ (.head _))))))))) rfl
  have hRf : ∀ q ∈ ([((40, .ofNat 173, []), (.ofNat 9, []), 1, .ofNat 0, [])] : List sRf), rfOk [s0, s1, s2, s3, s4, s5, s6, s7, s8] hp q := hH.1
  have h0 : hI hp 173 9 = 0 := rfI0 (hRf _ (.head _)) (sE_k _ _) (sE_k _ _) (sE_k _ _)
  have hFc : ∀ q ∈ ([(192, [(.ofNat 0, [(.ofNat 1, 0)]), (.ofNat 0, [(.ofNat 1, 1)]), (.ofNat 0, [(.ofNat 1, 2)]), (.ofNat 0, [(.ofNat 1, 3)]), (.ofNat 0, [(.ofNat 1, 4)]), (.ofNat 0, [(.ofNat 1, 5)]), (.ofNat 0, [(.ofNat 1, 6)]), (.ofNat 0, [(.ofNat 1, 7)])]), (199, [(.ofNat 0, [(.ofNat 1, 3)]), (.ofNat 1, [])]), (200, [(.ofNat 0, [(.ofNat 1, 3)]), (.ofNat 0, [(.ofNat 1, 8)])])] : List sFc), fcOk fFS [s0, s1, s2, s3, s4, s5, s6, s7, s8] hp q := hH.2
  have f0 : SHq (XT hp) (nmR hp (xnm hp)) s0 s1 s2 s3 s4 s5 s6 s7 ∧ s4 ≠ 4 := fcX (ys := [s0, s1, s2, s3, s4, s5, s6, s7]) (hFc _ (.head _)) ⟨sE_V rfl, sE_V rfl, sE_V rfl, sE_V rfl, sE_V rfl, sE_V rfl, sE_V rfl, sE_V rfl, trivial⟩
  have f1 : (1 : Int) = dp s3 + 1 := fcX (ys := [s3, 1]) (hFc _ (.tail _ (.head _))) ⟨sE_V rfl, sE_k _ _, trivial⟩
  have f2 : s8 = nr s3 := fcX (ys := [s3, s8]) (hFc _ (.tail _ (.tail _ (.head _)))) ⟨sE_V rfl, sE_V rfl, trivial⟩
  have ud : dp s3 ≤ 7 := by omega
  have ut := dp_lt (t := s3) (by omega) ud
  exact poX (.head _) rfl hR (all_nil) (all_nil) (all_cons ⟨[s6, 0, (s2 + 1), (3 * s3 + 1)], ⟨sE_V rfl, sE_k _ _, sEv (y' := ((1 : Int) + ((1 : Int) * s2 + 0))) rfl (by omega), sEv (y' := ((1 : Int) + ((3 : Int) * s3 + 0))) rfl (by omega), trivial⟩, (show SG (XT hp) (nmR hp (xnm hp)) s6 (0 : Int) (s2 + 1) (3 * s3 + 1) from s0_not f0.1 (by omega) (by omega) (by omega) (by omega) ud)⟩ (all_cons ⟨[(3 * s3 + 1), 2], ⟨sEv (y' := ((1 : Int) + ((3 : Int) * s3 + 0))) rfl (by omega), sE_k _ _, trivial⟩, (show (2 : Int) = dp (3 * s3 + 1) + 1 from dp_31 (t := s3) (by omega) (by omega) f1 (by omega) rfl)⟩ (all_cons ⟨[(3 * s3 + 1), s8], ⟨sEv (y' := ((1 : Int) + ((3 : Int) * s3 + 0))) rfl (by omega), sE_V rfl, trivial⟩, (show s8 = nr (3 * s3 + 1) from nr_31' (t := s3) (by omega) (by omega) f2 rfl)⟩ (all_nil))))
theorem rl378 : ruOk fFS gR378 := by
  intro r hp hO hN hH
  obtain ⟨s0, s1, s2, s3, s4, s5, s6, s7, s8, rfl⟩ := len9 (show r.length = 9 from hN.1)
  have hR := hN.2.1.1
  have hIv : ∀ q ∈ ([(0, .negSucc 2147483647, .ofNat 2147483647), (1, .ofNat 0, .ofNat 0), (2, .ofNat 0, .ofNat 19), (3, .ofNat 0, .ofNat 6560), (4, .ofNat 1, .ofNat 1), (5, .negSucc 2147483647, .ofNat 2147483647), (6, .negSucc 2147483647, .ofNat 2147483647), (7, .ofNat 21, .ofNat 21), (8, .negSucc 2147483647, .ofNat 2147483647)] : sIv), ∃ x, ([s0, s1, s2, s3, s4, s5, s6, s7, s8] : List Int)[q.1]? = some x ∧ q.2.1 ≤ x ∧ x ≤ q.2.2 := hN.2.1.2
  have b1 : (0 : Int) ≤ s1 ∧ s1 ≤ (0 : Int) := ivX (q := (1, .ofNat 0, .ofNat 0)) (y := s1) (hIv _ (.tail _ (.head _))) rfl
  have b2 : (0 : Int) ≤ s2 ∧ s2 ≤ (19 : Int) := ivX (q := (2, .ofNat 0, .ofNat 19)) (y := s2) (hIv _ (.tail _ (.tail _ (.head _)))) rfl
  have b3 : (0 : Int) ≤ s3 ∧ s3 ≤ (6560 : Int) := ivX (q := (3, .ofNat 0, .ofNat 6560)) (y := s3) (hIv _ (.tail _ (.tail _ (.tail _ (.head _))))) rfl
  have b4 : (1 : Int) ≤ s4 ∧ s4 ≤ (1 : Int) := ivX (q := (4, .ofNat 1, .ofNat 1)) (y := s4) (hIv _ (.tail _ (.tail _ (.tail _ (.tail _ (.head _)))))) rfl
  have b7 : (21 : Int) ≤ s7 ∧ s7 ≤ (21 : Int) := ivX (q := (7, .ofNat 21, .ofNat 21)) (y := s7) (hIv _ (.tail _ (.tail _ (.tail _ (.tail _ (.tail _ (.tail _ (.tail _ (.head _))))))))) rfl
  have hRf : ∀ q ∈ ([((40, .ofNat 173, []), (.ofNat 9, []), 1, .ofNat 0, [])] : List sRf), rfOk [s0, s1, s2, s3, s4, s5, s6, s7, s8] hp q := hH.1
  have h0 : hI hp 173 9 = 0 := rfI0 (hRf _ (.head _)) (sE_k _ _) (sE_k _ _) (sE_k _ _)
  have hFc : ∀ q ∈ ([(192, [(.ofNat 0, [(.ofNat 1, 0)]), (.ofNat 0, [(.ofNat 1, 1)]), (.ofNat 0, [(.ofNat 1, 2)]), (.ofNat 0, [(.ofNat 1, 3)]), (.ofNat 0, [(.ofNat 1, 4)]), (.ofNat 0, [(.ofNat 1, 5)]), (.ofNat 0, [(.ofNat 1, 6)]), (.ofNat 0, [(.ofNat 1, 7)])]), (199, [(.ofNat 0, [(.ofNat 1, 3)]), (.ofNat 2, [])]), (200, [(.ofNat 0, [(.ofNat 1, 3)]), (.ofNat 0, [(.ofNat 1, 8)])])] : List sFc), fcOk fFS [s0, s1, s2, s3, s4, s5, s6, s7, s8] hp q := hH.2
  have f0 : SHq (XT hp) (nmR hp (xnm hp)) s0 s1 s2 s3 s4 s5 s6 s7 ∧ s4 ≠ 4 := fcX (ys := [s0, s1, s2, s3, s4, s5, s6, s7]) (hFc _ (.head _)) ⟨sE_V rfl, sE_V rfl, sE_V rfl, sE_V rfl, sE_V rfl, sE_V rfl, sE_V rfl, sE_V rfl, trivial⟩
  have f1 : (2 : Int) = dp s3 + 1 := fcX (ys := [s3, 2]) (hFc _ (.tail _ (.head _))) ⟨sE_V rfl, sE_k _ _, trivial⟩
  have f2 : s8 = nr s3 := fcX (ys := [s3, s8]) (hFc _ (.tail _ (.tail _ (.head _)))) ⟨sE_V rfl, sE_V rfl, trivial⟩
  have ud : dp s3 ≤ 7 := by omega
  have ut := dp_lt (t := s3) (by omega) ud
  exact poX (.head _) rfl hR (all_nil) (all_nil) (all_cons ⟨[s6, 0, (s2 + 1), (3 * s3 + 1)], ⟨sE_V rfl, sE_k _ _, sEv (y' := ((1 : Int) + ((1 : Int) * s2 + 0))) rfl (by omega), sEv (y' := ((1 : Int) + ((3 : Int) * s3 + 0))) rfl (by omega), trivial⟩, (show SG (XT hp) (nmR hp (xnm hp)) s6 (0 : Int) (s2 + 1) (3 * s3 + 1) from s0_not f0.1 (by omega) (by omega) (by omega) (by omega) ud)⟩ (all_cons ⟨[(3 * s3 + 1), 3], ⟨sEv (y' := ((1 : Int) + ((3 : Int) * s3 + 0))) rfl (by omega), sE_k _ _, trivial⟩, (show (3 : Int) = dp (3 * s3 + 1) + 1 from dp_31 (t := s3) (by omega) (by omega) f1 (by omega) rfl)⟩ (all_cons ⟨[(3 * s3 + 1), s8], ⟨sEv (y' := ((1 : Int) + ((3 : Int) * s3 + 0))) rfl (by omega), sE_V rfl, trivial⟩, (show s8 = nr (3 * s3 + 1) from nr_31' (t := s3) (by omega) (by omega) f2 rfl)⟩ (all_nil))))
theorem rl379 : ruOk fFS gR379 := by
  intro r hp hO hN hH
  obtain ⟨s0, s1, s2, s3, s4, s5, s6, s7, s8, rfl⟩ := len9 (show r.length = 9 from hN.1)
  have hR := hN.2.1.1
  have hIv : ∀ q ∈ ([(0, .negSucc 2147483647, .ofNat 2147483647), (1, .ofNat 0, .ofNat 0), (2, .ofNat 0, .ofNat 19), (3, .ofNat 0, .ofNat 6560), (4, .ofNat 1, .ofNat 1), (5, .negSucc 2147483647, .ofNat 2147483647), (6, .negSucc 2147483647, .ofNat 2147483647), (7, .ofNat 21, .ofNat 21), (8, .negSucc 2147483647, .ofNat 2147483647)] : sIv), ∃ x, ([s0, s1, s2, s3, s4, s5, s6, s7, s8] : List Int)[q.1]? = some x ∧ q.2.1 ≤ x ∧ x ≤ q.2.2 := hN.2.1.2
  have b1 : (0 : Int) ≤ s1 ∧ s1 ≤ (0 : Int) := ivX (q := (1, .ofNat 0, .ofNat 0)) (y := s1) (hIv _ (.tail _ (.head _))) rfl
  have b2 : (0 : Int) ≤ s2 ∧ s2 ≤ (19 : Int) := ivX (q := (2, .ofNat 0, .ofNat 19)) (y := s2) (hIv _ (.tail _ (.tail _ (.head _)))) rfl
  have b3 : (0 : Int) ≤ s3 ∧ s3 ≤ (6560 : Int) := ivX (q := (3, .ofNat 0, .ofNat 6560)) (y := s3) (hIv _ (.tail _ (.tail _ (.tail _ (.head _))))) rfl
  have b4 : (1 : Int) ≤ s4 ∧ s4 ≤ (1 : Int) := ivX (q := (4, .ofNat 1, .ofNat 1)) (y := s4) (hIv _ (.tail _ (.tail _ (.tail _ (.tail _ (.head _)))))) rfl
  have b7 : (21 : Int) ≤ s7 ∧ s7 ≤ (21 : Int) := ivX (q := (7, .ofNat 21, .ofNat 21)) (y := s7) (hIv _ (.tail _ (.tail _ (.tail _ (.tail _ (.tail _ (.tail _ (.tail _ (.head _))))))))) rfl
  have hRf : ∀ q ∈ ([((40, .ofNat 173, []), (.ofNat 9, []), 1, .ofNat 0, [])] : List sRf), rfOk [s0, s1, s2, s3, s4, s5, s6, s7, s8] hp q := hH.1
  have h0 : hI hp 173 9 = 0 := rfI0 (hRf _ (.head _)) (sE_k _ _) (sE_k _ _) (sE_k _ _)
  have hFc : ∀ q ∈ ([(192, [(.ofNat 0, [(.ofNat 1, 0)]), (.ofNat 0, [(.ofNat 1, 1)]), (.ofNat 0, [(.ofNat 1, 2)]), (.ofNat 0, [(.ofNat 1, 3)]), (.ofNat 0, [(.ofNat 1, 4)]), (.ofNat 0, [(.ofNat 1, 5)]), (.ofNat 0, [(.ofNat 1, 6)]), (.ofNat 0, [(.ofNat 1, 7)])]), (199, [(.ofNat 0, [(.ofNat 1, 3)]), (.ofNat 3, [])]), (200, [(.ofNat 0, [(.ofNat 1, 3)]), (.ofNat 0, [(.ofNat 1, 8)])])] : List sFc), fcOk fFS [s0, s1, s2, s3, s4, s5, s6, s7, s8] hp q := hH.2
  have f0 : SHq (XT hp) (nmR hp (xnm hp)) s0 s1 s2 s3 s4 s5 s6 s7 ∧ s4 ≠ 4 := fcX (ys := [s0, s1, s2, s3, s4, s5, s6, s7]) (hFc _ (.head _)) ⟨sE_V rfl, sE_V rfl, sE_V rfl, sE_V rfl, sE_V rfl, sE_V rfl, sE_V rfl, sE_V rfl, trivial⟩
  have f1 : (3 : Int) = dp s3 + 1 := fcX (ys := [s3, 3]) (hFc _ (.tail _ (.head _))) ⟨sE_V rfl, sE_k _ _, trivial⟩
  have f2 : s8 = nr s3 := fcX (ys := [s3, s8]) (hFc _ (.tail _ (.tail _ (.head _)))) ⟨sE_V rfl, sE_V rfl, trivial⟩
  have ud : dp s3 ≤ 7 := by omega
  have ut := dp_lt (t := s3) (by omega) ud
  exact poX (.head _) rfl hR (all_nil) (all_nil) (all_cons ⟨[s6, 0, (s2 + 1), (3 * s3 + 1)], ⟨sE_V rfl, sE_k _ _, sEv (y' := ((1 : Int) + ((1 : Int) * s2 + 0))) rfl (by omega), sEv (y' := ((1 : Int) + ((3 : Int) * s3 + 0))) rfl (by omega), trivial⟩, (show SG (XT hp) (nmR hp (xnm hp)) s6 (0 : Int) (s2 + 1) (3 * s3 + 1) from s0_not f0.1 (by omega) (by omega) (by omega) (by omega) ud)⟩ (all_cons ⟨[(3 * s3 + 1), 4], ⟨sEv (y' := ((1 : Int) + ((3 : Int) * s3 + 0))) rfl (by omega), sE_k _ _, trivial⟩, (show (4 : Int) = dp (3 * s3 + 1) + 1 from dp_31 (t := s3) (by omega) (by omega) f1 (by omega) rfl)⟩ (all_cons ⟨[(3 * s3 + 1), s8], ⟨sEv (y' := ((1 : Int) + ((3 : Int) * s3 + 0))) rfl (by omega), sE_V rfl, trivial⟩, (show s8 = nr (3 * s3 + 1) from nr_31' (t := s3) (by omega) (by omega) f2 rfl)⟩ (all_nil))))
theorem rl380 : ruOk fFS gR380 := by
  intro r hp hO hN hH
  obtain ⟨s0, s1, s2, s3, s4, s5, s6, s7, s8, rfl⟩ := len9 (show r.length = 9 from hN.1)
  have hR := hN.2.1.1
  have hIv : ∀ q ∈ ([(0, .negSucc 2147483647, .ofNat 2147483647), (1, .ofNat 0, .ofNat 0), (2, .ofNat 0, .ofNat 19), (3, .ofNat 0, .ofNat 6560), (4, .ofNat 1, .ofNat 1), (5, .negSucc 2147483647, .ofNat 2147483647), (6, .negSucc 2147483647, .ofNat 2147483647), (7, .ofNat 21, .ofNat 21), (8, .negSucc 2147483647, .ofNat 2147483647)] : sIv), ∃ x, ([s0, s1, s2, s3, s4, s5, s6, s7, s8] : List Int)[q.1]? = some x ∧ q.2.1 ≤ x ∧ x ≤ q.2.2 := hN.2.1.2
  have b1 : (0 : Int) ≤ s1 ∧ s1 ≤ (0 : Int) := ivX (q := (1, .ofNat 0, .ofNat 0)) (y := s1) (hIv _ (.tail _ (.head _))) rfl
  have b2 : (0 : Int) ≤ s2 ∧ s2 ≤ (19 : Int) := ivX (q := (2, .ofNat 0, .ofNat 19)) (y := s2) (hIv _ (.tail _ (.tail _ (.head _)))) rfl
  have b3 : (0 : Int) ≤ s3 ∧ s3 ≤ (6560 : Int) := ivX (q := (3, .ofNat 0, .ofNat 6560)) (y := s3) (hIv _ (.tail _ (.tail _ (.tail _ (.head _))))) rfl
  have b4 : (1 : Int) ≤ s4 ∧ s4 ≤ (1 : Int) := ivX (q := (4, .ofNat 1, .ofNat 1)) (y := s4) (hIv _ (.tail _ (.tail _ (.tail _ (.tail _ (.head _)))))) rfl
  have b7 : (21 : Int) ≤ s7 ∧ s7 ≤ (21 : Int) := ivX (q := (7, .ofNat 21, .ofNat 21)) (y := s7) (hIv _ (.tail _ (.tail _ (.tail _ (.tail _ (.tail _ (.tail _ (.tail _ (.head _))))))))) rfl
  have hRf : ∀ q ∈ ([((40, .ofNat 173, []), (.ofNat 9, []), 1, .ofNat 0, [])] : List sRf), rfOk [s0, s1, s2, s3, s4, s5, s6, s7, s8] hp q := hH.1
  have h0 : hI hp 173 9 = 0 := rfI0 (hRf _ (.head _)) (sE_k _ _) (sE_k _ _) (sE_k _ _)
  have hFc : ∀ q ∈ ([(192, [(.ofNat 0, [(.ofNat 1, 0)]), (.ofNat 0, [(.ofNat 1, 1)]), (.ofNat 0, [(.ofNat 1, 2)]), (.ofNat 0, [(.ofNat 1, 3)]), (.ofNat 0, [(.ofNat 1, 4)]), (.ofNat 0, [(.ofNat 1, 5)]), (.ofNat 0, [(.ofNat 1, 6)]), (.ofNat 0, [(.ofNat 1, 7)])]), (199, [(.ofNat 0, [(.ofNat 1, 3)]), (.ofNat 4, [])]), (200, [(.ofNat 0, [(.ofNat 1, 3)]), (.ofNat 0, [(.ofNat 1, 8)])])] : List sFc), fcOk fFS [s0, s1, s2, s3, s4, s5, s6, s7, s8] hp q := hH.2
  have f0 : SHq (XT hp) (nmR hp (xnm hp)) s0 s1 s2 s3 s4 s5 s6 s7 ∧ s4 ≠ 4 := fcX (ys := [s0, s1, s2, s3, s4, s5, s6, s7]) (hFc _ (.head _)) ⟨sE_V rfl, sE_V rfl, sE_V rfl, sE_V rfl, sE_V rfl, sE_V rfl, sE_V rfl, sE_V rfl, trivial⟩
  have f1 : (4 : Int) = dp s3 + 1 := fcX (ys := [s3, 4]) (hFc _ (.tail _ (.head _))) ⟨sE_V rfl, sE_k _ _, trivial⟩
  have f2 : s8 = nr s3 := fcX (ys := [s3, s8]) (hFc _ (.tail _ (.tail _ (.head _)))) ⟨sE_V rfl, sE_V rfl, trivial⟩
  have ud : dp s3 ≤ 7 := by omega
  have ut := dp_lt (t := s3) (by omega) ud
  exact poX (.head _) rfl hR (all_nil) (all_nil) (all_cons ⟨[s6, 0, (s2 + 1), (3 * s3 + 1)], ⟨sE_V rfl, sE_k _ _, sEv (y' := ((1 : Int) + ((1 : Int) * s2 + 0))) rfl (by omega), sEv (y' := ((1 : Int) + ((3 : Int) * s3 + 0))) rfl (by omega), trivial⟩, (show SG (XT hp) (nmR hp (xnm hp)) s6 (0 : Int) (s2 + 1) (3 * s3 + 1) from s0_not f0.1 (by omega) (by omega) (by omega) (by omega) ud)⟩ (all_cons ⟨[(3 * s3 + 1), 5], ⟨sEv (y' := ((1 : Int) + ((3 : Int) * s3 + 0))) rfl (by omega), sE_k _ _, trivial⟩, (show (5 : Int) = dp (3 * s3 + 1) + 1 from dp_31 (t := s3) (by omega) (by omega) f1 (by omega) rfl)⟩ (all_cons ⟨[(3 * s3 + 1), s8], ⟨sEv (y' := ((1 : Int) + ((3 : Int) * s3 + 0))) rfl (by omega), sE_V rfl, trivial⟩, (show s8 = nr (3 * s3 + 1) from nr_31' (t := s3) (by omega) (by omega) f2 rfl)⟩ (all_nil))))
theorem rl381 : ruOk fFS gR381 := by
  intro r hp hO hN hH
  obtain ⟨s0, s1, s2, s3, s4, s5, s6, s7, s8, rfl⟩ := len9 (show r.length = 9 from hN.1)
  have hR := hN.2.1.1
  have hIv : ∀ q ∈ ([(0, .negSucc 2147483647, .ofNat 2147483647), (1, .ofNat 0, .ofNat 0), (2, .ofNat 0, .ofNat 19), (3, .ofNat 0, .ofNat 6560), (4, .ofNat 1, .ofNat 1), (5, .negSucc 2147483647, .ofNat 2147483647), (6, .negSucc 2147483647, .ofNat 2147483647), (7, .ofNat 21, .ofNat 21), (8, .negSucc 2147483647, .ofNat 2147483647)] : sIv), ∃ x, ([s0, s1, s2, s3, s4, s5, s6, s7, s8] : List Int)[q.1]? = some x ∧ q.2.1 ≤ x ∧ x ≤ q.2.2 := hN.2.1.2
  have b1 : (0 : Int) ≤ s1 ∧ s1 ≤ (0 : Int) := ivX (q := (1, .ofNat 0, .ofNat 0)) (y := s1) (hIv _ (.tail _ (.head _))) rfl
  have b2 : (0 : Int) ≤ s2 ∧ s2 ≤ (19 : Int) := ivX (q := (2, .ofNat 0, .ofNat 19)) (y := s2) (hIv _ (.tail _ (.tail _ (.head _)))) rfl
  have b3 : (0 : Int) ≤ s3 ∧ s3 ≤ (6560 : Int) := ivX (q := (3, .ofNat 0, .ofNat 6560)) (y := s3) (hIv _ (.tail _ (.tail _ (.tail _ (.head _))))) rfl
  have b4 : (1 : Int) ≤ s4 ∧ s4 ≤ (1 : Int) := ivX (q := (4, .ofNat 1, .ofNat 1)) (y := s4) (hIv _ (.tail _ (.tail _ (.tail _ (.tail _ (.head _)))))) rfl
  have b7 : (21 : Int) ≤ s7 ∧ s7 ≤ (21 : Int) := ivX (q := (7, .ofNat 21, .ofNat 21)) (y := s7) (hIv _ (.tail _ (.tail _ (.tail _ (.tail _ (.tail _ (.tail _ (.tail _ (.head _))))))))) rfl
  have hRf : ∀ q ∈ ([((40, .ofNat 173, []), (.ofNat 9, []), 1, .ofNat 0, [])] : List sRf), rfOk [s0, s1, s2, s3, s4, s5, s6, s7, s8] hp q := hH.1
  have h0 : hI hp 173 9 = 0 := rfI0 (hRf _ (.head _)) (sE_k _ _) (sE_k _ _) (sE_k _ _)
  have hFc : ∀ q ∈ ([(192, [(.ofNat 0, [(.ofNat 1, 0)]), (.ofNat 0, [(.ofNat 1, 1)]), (.ofNat 0, [(.ofNat 1, 2)]), (.ofNat 0, [(.ofNat 1, 3)]), (.ofNat 0, [(.ofNat 1, 4)]), (.ofNat 0, [(.ofNat 1, 5)]), (.ofNat 0, [(.ofNat 1, 6)]), (.ofNat 0, [(.ofNat 1, 7)])]), (199, [(.ofNat 0, [(.ofNat 1, 3)]), (.ofNat 5, [])]), (200, [(.ofNat 0, [(.ofNat 1, 3)]), (.ofNat 0, [(.ofNat 1, 8)])])] : List sFc), fcOk fFS [s0, s1, s2, s3, s4, s5, s6, s7, s8] hp q := hH.2
  have f0 : SHq (XT hp) (nmR hp (xnm hp)) s0 s1 s2 s3 s4 s5 s6 s7 ∧ s4 ≠ 4 := fcX (ys := [s0, s1, s2, s3, s4, s5, s6, s7]) (hFc _ (.head _)) ⟨sE_V rfl, sE_V rfl, sE_V rfl, sE_V rfl, sE_V rfl, sE_V rfl, sE_V rfl, sE_V rfl, trivial⟩
  have f1 : (5 : Int) = dp s3 + 1 := fcX (ys := [s3, 5]) (hFc _ (.tail _ (.head _))) ⟨sE_V rfl, sE_k _ _, trivial⟩
  have f2 : s8 = nr s3 := fcX (ys := [s3, s8]) (hFc _ (.tail _ (.tail _ (.head _)))) ⟨sE_V rfl, sE_V rfl, trivial⟩
  have ud : dp s3 ≤ 7 := by omega
  have ut := dp_lt (t := s3) (by omega) ud
  exact poX (.head _) rfl hR (all_nil) (all_nil) (all_cons ⟨[s6, 0, (s2 + 1), (3 * s3 + 1)], ⟨sE_V rfl, sE_k _ _, sEv (y' := ((1 : Int) + ((1 : Int) * s2 + 0))) rfl (by omega), sEv (y' := ((1 : Int) + ((3 : Int) * s3 + 0))) rfl (by omega), trivial⟩, (show SG (XT hp) (nmR hp (xnm hp)) s6 (0 : Int) (s2 + 1) (3 * s3 + 1) from s0_not f0.1 (by omega) (by omega) (by omega) (by omega) ud)⟩ (all_cons ⟨[(3 * s3 + 1), 6], ⟨sEv (y' := ((1 : Int) + ((3 : Int) * s3 + 0))) rfl (by omega), sE_k _ _, trivial⟩, (show (6 : Int) = dp (3 * s3 + 1) + 1 from dp_31 (t := s3) (by omega) (by omega) f1 (by omega) rfl)⟩ (all_cons ⟨[(3 * s3 + 1), s8], ⟨sEv (y' := ((1 : Int) + ((3 : Int) * s3 + 0))) rfl (by omega), sE_V rfl, trivial⟩, (show s8 = nr (3 * s3 + 1) from nr_31' (t := s3) (by omega) (by omega) f2 rfl)⟩ (all_nil))))
theorem rl382 : ruOk fFS gR382 := by
  intro r hp hO hN hH
  obtain ⟨s0, s1, s2, s3, s4, s5, s6, s7, s8, rfl⟩ := len9 (show r.length = 9 from hN.1)
  have hR := hN.2.1.1
  have hIv : ∀ q ∈ ([(0, .negSucc 2147483647, .ofNat 2147483647), (1, .ofNat 0, .ofNat 0), (2, .ofNat 0, .ofNat 19), (3, .ofNat 0, .ofNat 6560), (4, .ofNat 1, .ofNat 1), (5, .negSucc 2147483647, .ofNat 2147483647), (6, .negSucc 2147483647, .ofNat 2147483647), (7, .ofNat 21, .ofNat 21), (8, .negSucc 2147483647, .ofNat 2147483647)] : sIv), ∃ x, ([s0, s1, s2, s3, s4, s5, s6, s7, s8] : List Int)[q.1]? = some x ∧ q.2.1 ≤ x ∧ x ≤ q.2.2 := hN.2.1.2
  have b1 : (0 : Int) ≤ s1 ∧ s1 ≤ (0 : Int) := ivX (q := (1, .ofNat 0, .ofNat 0)) (y := s1) (hIv _ (.tail _ (.head _))) rfl
  have b2 : (0 : Int) ≤ s2 ∧ s2 ≤ (19 : Int) := ivX (q := (2, .ofNat 0, .ofNat 19)) (y := s2) (hIv _ (.tail _ (.tail _ (.head _)))) rfl
  have b3 : (0 : Int) ≤ s3 ∧ s3 ≤ (6560 : Int) := ivX (q := (3, .ofNat 0, .ofNat 6560)) (y := s3) (hIv _ (.tail _ (.tail _ (.tail _ (.head _))))) rfl
  have b4 : (1 : Int) ≤ s4 ∧ s4 ≤ (1 : Int) := ivX (q := (4, .ofNat 1, .ofNat 1)) (y := s4) (hIv _ (.tail _ (.tail _ (.tail _ (.tail _ (.head _)))))) rfl
  have b7 : (21 : Int) ≤ s7 ∧ s7 ≤ (21 : Int) := ivX (q := (7, .ofNat 21, .ofNat 21)) (y := s7) (hIv _ (.tail _ (.tail _ (.tail _ (.tail _ (.tail _ (.tail _ (.tail _ (.head _))))))))) rfl
  have hRf : ∀ q ∈ ([((40, .ofNat 173, []), (.ofNat 9, []), 1, .ofNat 0, [])] : List sRf), rfOk [s0, s1, s2, s3, s4, s5, s6, s7, s8] hp q := hH.1
  have h0 : hI hp 173 9 = 0 := rfI0 (hRf _ (.head _)) (sE_k _ _) (sE_k _ _) (sE_k _ _)
  have hFc : ∀ q ∈ ([(192, [(.ofNat 0, [(.ofNat 1, 0)]), (.ofNat 0, [(.ofNat 1, 1)]), (.ofNat 0, [(.ofNat 1, 2)]), (.ofNat 0, [(.ofNat 1, 3)]), (.ofNat 0, [(.ofNat 1, 4)]), (.ofNat 0, [(.ofNat 1, 5)]), (.ofNat 0, [(.ofNat 1, 6)]), (.ofNat 0, [(.ofNat 1, 7)])]), (199, [(.ofNat 0, [(.ofNat 1, 3)]), (.ofNat 6, [])]), (200, [(.ofNat 0, [(.ofNat 1, 3)]), (.ofNat 0, [(.ofNat 1, 8)])])] : List sFc), fcOk fFS [s0, s1, s2, s3, s4, s5, s6, s7, s8] hp q := hH.2
  have f0 : SHq (XT hp) (nmR hp (xnm hp)) s0 s1 s2 s3 s4 s5 s6 s7 ∧ s4 ≠ 4 := fcX (ys := [s0, s1, s2, s3, s4, s5, s6, s7]) (hFc _ (.head _)) ⟨sE_V rfl, sE_V rfl, sE_V rfl, sE_V rfl, sE_V rfl, sE_V rfl, sE_V rfl, sE_V rfl, trivial⟩
  have f1 : (6 : Int) = dp s3 + 1 := fcX (ys := [s3, 6]) (hFc _ (.tail _ (.head _))) ⟨sE_V rfl, sE_k _ _, trivial⟩
  have f2 : s8 = nr s3 := fcX (ys := [s3, s8]) (hFc _ (.tail _ (.tail _ (.head _)))) ⟨sE_V rfl, sE_V rfl, trivial⟩
  have ud : dp s3 ≤ 7 := by omega
  have ut := dp_lt (t := s3) (by omega) ud
  exact poX (.head _) rfl hR (all_nil) (all_nil) (all_cons ⟨[s6, 0, (s2 + 1), (3 * s3 + 1)], ⟨sE_V rfl, sE_k _ _, sEv (y' := ((1 : Int) + ((1 : Int) * s2 + 0))) rfl (by omega), sEv (y' := ((1 : Int) + ((3 : Int) * s3 + 0))) rfl (by omega), trivial⟩, (show SG (XT hp) (nmR hp (xnm hp)) s6 (0 : Int) (s2 + 1) (3 * s3 + 1) from s0_not f0.1 (by omega) (by omega) (by omega) (by omega) ud)⟩ (all_cons ⟨[(3 * s3 + 1), 7], ⟨sEv (y' := ((1 : Int) + ((3 : Int) * s3 + 0))) rfl (by omega), sE_k _ _, trivial⟩, (show (7 : Int) = dp (3 * s3 + 1) + 1 from dp_31 (t := s3) (by omega) (by omega) f1 (by omega) rfl)⟩ (all_cons ⟨[(3 * s3 + 1), s8], ⟨sEv (y' := ((1 : Int) + ((3 : Int) * s3 + 0))) rfl (by omega), sE_V rfl, trivial⟩, (show s8 = nr (3 * s3 + 1) from nr_31' (t := s3) (by omega) (by omega) f2 rfl)⟩ (all_nil))))
theorem rl383 : ruOk fFS gR383 := by
  intro r hp hO hN hH
  obtain ⟨s0, s1, s2, s3, s4, s5, s6, s7, s8, rfl⟩ := len9 (show r.length = 9 from hN.1)
  have hR := hN.2.1.1
  have hIv : ∀ q ∈ ([(0, .negSucc 2147483647, .ofNat 2147483647), (1, .ofNat 0, .ofNat 0), (2, .ofNat 0, .ofNat 19), (3, .ofNat 0, .ofNat 6560), (4, .ofNat 1, .ofNat 1), (5, .negSucc 2147483647, .ofNat 2147483647), (6, .negSucc 2147483647, .ofNat 2147483647), (7, .ofNat 21, .ofNat 21), (8, .negSucc 2147483647, .ofNat 2147483647)] : sIv), ∃ x, ([s0, s1, s2, s3, s4, s5, s6, s7, s8] : List Int)[q.1]? = some x ∧ q.2.1 ≤ x ∧ x ≤ q.2.2 := hN.2.1.2
  have b1 : (0 : Int) ≤ s1 ∧ s1 ≤ (0 : Int) := ivX (q := (1, .ofNat 0, .ofNat 0)) (y := s1) (hIv _ (.tail _ (.head _))) rfl
  have b2 : (0 : Int) ≤ s2 ∧ s2 ≤ (19 : Int) := ivX (q := (2, .ofNat 0, .ofNat 19)) (y := s2) (hIv _ (.tail _ (.tail _ (.head _)))) rfl
  have b3 : (0 : Int) ≤ s3 ∧ s3 ≤ (6560 : Int) := ivX (q := (3, .ofNat 0, .ofNat 6560)) (y := s3) (hIv _ (.tail _ (.tail _ (.tail _ (.head _))))) rfl
  have b4 : (1 : Int) ≤ s4 ∧ s4 ≤ (1 : Int) := ivX (q := (4, .ofNat 1, .ofNat 1)) (y := s4) (hIv _ (.tail _ (.tail _ (.tail _ (.tail _ (.head _)))))) rfl
  have b7 : (21 : Int) ≤ s7 ∧ s7 ≤ (21 : Int) := ivX (q := (7, .ofNat 21, .ofNat 21)) (y := s7) (hIv _ (.tail _ (.tail _ (.tail _ (.tail _ (.tail _ (.tail _ (.tail _ (.head _))))))))) rfl
  have hRf : ∀ q ∈ ([((40, .ofNat 173, []), (.ofNat 9, []), 1, .ofNat 0, [])] : List sRf), rfOk [s0, s1, s2, s3, s4, s5, s6, s7, s8] hp q := hH.1
  have h0 : hI hp 173 9 = 0 := rfI0 (hRf _ (.head _)) (sE_k _ _) (sE_k _ _) (sE_k _ _)
  have hFc : ∀ q ∈ ([(192, [(.ofNat 0, [(.ofNat 1, 0)]), (.ofNat 0, [(.ofNat 1, 1)]), (.ofNat 0, [(.ofNat 1, 2)]), (.ofNat 0, [(.ofNat 1, 3)]), (.ofNat 0, [(.ofNat 1, 4)]), (.ofNat 0, [(.ofNat 1, 5)]), (.ofNat 0, [(.ofNat 1, 6)]), (.ofNat 0, [(.ofNat 1, 7)])]), (199, [(.ofNat 0, [(.ofNat 1, 3)]), (.ofNat 7, [])]), (200, [(.ofNat 0, [(.ofNat 1, 3)]), (.ofNat 0, [(.ofNat 1, 8)])])] : List sFc), fcOk fFS [s0, s1, s2, s3, s4, s5, s6, s7, s8] hp q := hH.2
  have f0 : SHq (XT hp) (nmR hp (xnm hp)) s0 s1 s2 s3 s4 s5 s6 s7 ∧ s4 ≠ 4 := fcX (ys := [s0, s1, s2, s3, s4, s5, s6, s7]) (hFc _ (.head _)) ⟨sE_V rfl, sE_V rfl, sE_V rfl, sE_V rfl, sE_V rfl, sE_V rfl, sE_V rfl, sE_V rfl, trivial⟩
  have f1 : (7 : Int) = dp s3 + 1 := fcX (ys := [s3, 7]) (hFc _ (.tail _ (.head _))) ⟨sE_V rfl, sE_k _ _, trivial⟩
  have f2 : s8 = nr s3 := fcX (ys := [s3, s8]) (hFc _ (.tail _ (.tail _ (.head _)))) ⟨sE_V rfl, sE_V rfl, trivial⟩
  have ud : dp s3 ≤ 7 := by omega
  have ut := dp_lt (t := s3) (by omega) ud
  exact poX (.head _) rfl hR (all_nil) (all_nil) (all_cons ⟨[s6, 0, (s2 + 1), (3 * s3 + 1)], ⟨sE_V rfl, sE_k _ _, sEv (y' := ((1 : Int) + ((1 : Int) * s2 + 0))) rfl (by omega), sEv (y' := ((1 : Int) + ((3 : Int) * s3 + 0))) rfl (by omega), trivial⟩, (show SG (XT hp) (nmR hp (xnm hp)) s6 (0 : Int) (s2 + 1) (3 * s3 + 1) from s0_not f0.1 (by omega) (by omega) (by omega) (by omega) ud)⟩ (all_cons ⟨[(3 * s3 + 1), 8], ⟨sEv (y' := ((1 : Int) + ((3 : Int) * s3 + 0))) rfl (by omega), sE_k _ _, trivial⟩, (show (8 : Int) = dp (3 * s3 + 1) + 1 from dp_31 (t := s3) (by omega) (by omega) f1 (by omega) rfl)⟩ (all_cons ⟨[(3 * s3 + 1), s8], ⟨sEv (y' := ((1 : Int) + ((3 : Int) * s3 + 0))) rfl (by omega), sE_V rfl, trivial⟩, (show s8 = nr (3 * s3 + 1) from nr_31' (t := s3) (by omega) (by omega) f2 rfl)⟩ (all_nil))))
theorem rl384 : ruOk fFS gR384 := by
  intro r hp hO hN hH
  obtain ⟨s0, s1, s2, s3, s4, s5, s6, s7, s8, rfl⟩ := len9 (show r.length = 9 from hN.1)
  have hR := hN.2.1.1
  have hIv : ∀ q ∈ ([(0, .negSucc 2147483647, .ofNat 2147483647), (1, .ofNat 0, .ofNat 0), (2, .ofNat 0, .ofNat 19), (3, .ofNat 0, .ofNat 6560), (4, .ofNat 1, .ofNat 1), (5, .negSucc 2147483647, .ofNat 2147483647), (6, .negSucc 2147483647, .ofNat 2147483647), (7, .ofNat 21, .ofNat 21), (8, .negSucc 2147483647, .ofNat 2147483647)] : sIv), ∃ x, ([s0, s1, s2, s3, s4, s5, s6, s7, s8] : List Int)[q.1]? = some x ∧ q.2.1 ≤ x ∧ x ≤ q.2.2 := hN.2.1.2
  have b1 : (0 : Int) ≤ s1 ∧ s1 ≤ (0 : Int) := ivX (q := (1, .ofNat 0, .ofNat 0)) (y := s1) (hIv _ (.tail _ (.head _))) rfl
  have b2 : (0 : Int) ≤ s2 ∧ s2 ≤ (19 : Int) := ivX (q := (2, .ofNat 0, .ofNat 19)) (y := s2) (hIv _ (.tail _ (.tail _ (.head _)))) rfl
  have b3 : (0 : Int) ≤ s3 ∧ s3 ≤ (6560 : Int) := ivX (q := (3, .ofNat 0, .ofNat 6560)) (y := s3) (hIv _ (.tail _ (.tail _ (.tail _ (.head _))))) rfl
  have b4 : (1 : Int) ≤ s4 ∧ s4 ≤ (1 : Int) := ivX (q := (4, .ofNat 1, .ofNat 1)) (y := s4) (hIv _ (.tail _ (.tail _ (.tail _ (.tail _ (.head _)))))) rfl
  have b7 : (21 : Int) ≤ s7 ∧ s7 ≤ (21 : Int) := ivX (q := (7, .ofNat 21, .ofNat 21)) (y := s7) (hIv _ (.tail _ (.tail _ (.tail _ (.tail _ (.tail _ (.tail _ (.tail _ (.head _))))))))) rfl
  have hRf : ∀ q ∈ ([((40, .ofNat 173, []), (.ofNat 9, []), 1, .ofNat 0, [])] : List sRf), rfOk [s0, s1, s2, s3, s4, s5, s6, s7, s8] hp q := hH.1
  have h0 : hI hp 173 9 = 0 := rfI0 (hRf _ (.head _)) (sE_k _ _) (sE_k _ _) (sE_k _ _)
  have hFc : ∀ q ∈ ([(192, [(.ofNat 0, [(.ofNat 1, 0)]), (.ofNat 0, [(.ofNat 1, 1)]), (.ofNat 0, [(.ofNat 1, 2)]), (.ofNat 0, [(.ofNat 1, 3)]), (.ofNat 0, [(.ofNat 1, 4)]), (.ofNat 0, [(.ofNat 1, 5)]), (.ofNat 0, [(.ofNat 1, 6)]), (.ofNat 0, [(.ofNat 1, 7)])]), (199, [(.ofNat 0, [(.ofNat 1, 3)]), (.ofNat 8, [])]), (200, [(.ofNat 0, [(.ofNat 1, 3)]), (.ofNat 0, [(.ofNat 1, 8)])])] : List sFc), fcOk fFS [s0, s1, s2, s3, s4, s5, s6, s7, s8] hp q := hH.2
  have f0 : SHq (XT hp) (nmR hp (xnm hp)) s0 s1 s2 s3 s4 s5 s6 s7 ∧ s4 ≠ 4 := fcX (ys := [s0, s1, s2, s3, s4, s5, s6, s7]) (hFc _ (.head _)) ⟨sE_V rfl, sE_V rfl, sE_V rfl, sE_V rfl, sE_V rfl, sE_V rfl, sE_V rfl, sE_V rfl, trivial⟩
  have f1 : (8 : Int) = dp s3 + 1 := fcX (ys := [s3, 8]) (hFc _ (.tail _ (.head _))) ⟨sE_V rfl, sE_k _ _, trivial⟩
  have f2 : s8 = nr s3 := fcX (ys := [s3, s8]) (hFc _ (.tail _ (.tail _ (.head _)))) ⟨sE_V rfl, sE_V rfl, trivial⟩
  have ud : dp s3 ≤ 7 := by omega
  have ut := dp_lt (t := s3) (by omega) ud
  exact poX (.head _) rfl hR (all_nil) (all_nil) (all_cons ⟨[s6, 0, (s2 + 1), (3 * s3 + 1)], ⟨sE_V rfl, sE_k _ _, sEv (y' := ((1 : Int) + ((1 : Int) * s2 + 0))) rfl (by omega), sEv (y' := ((1 : Int) + ((3 : Int) * s3 + 0))) rfl (by omega), trivial⟩, (show SG (XT hp) (nmR hp (xnm hp)) s6 (0 : Int) (s2 + 1) (3 * s3 + 1) from s0_not f0.1 (by omega) (by omega) (by omega) (by omega) ud)⟩ (all_cons ⟨[(3 * s3 + 1), 9], ⟨sEv (y' := ((1 : Int) + ((3 : Int) * s3 + 0))) rfl (by omega), sE_k _ _, trivial⟩, (show (9 : Int) = dp (3 * s3 + 1) + 1 from dp_31 (t := s3) (by omega) (by omega) f1 (by omega) rfl)⟩ (all_cons ⟨[(3 * s3 + 1), s8], ⟨sEv (y' := ((1 : Int) + ((3 : Int) * s3 + 0))) rfl (by omega), sE_V rfl, trivial⟩, (show s8 = nr (3 * s3 + 1) from nr_31' (t := s3) (by omega) (by omega) f2 rfl)⟩ (all_nil))))
theorem rl385 : ruOk fFS gR385 := by
  intro r hp hO hN hH
  obtain ⟨s0, s1, s2, s3, s4, s5, s6, s7, rfl⟩ := len8 (show r.length = 8 from hN.1)
  have hR := hN.2.1.1
  have hIv : ∀ q ∈ ([(0, .negSucc 2147483647, .ofNat 2147483647), (1, .negSucc 2147483647, .ofNat 2147483647), (2, .negSucc 2147483647, .ofNat 2147483647), (3, .negSucc 2147483647, .ofNat 2147483647), (4, .ofNat 0, .ofNat 3), (5, .negSucc 2147483647, .ofNat 2147483647), (6, .negSucc 2147483647, .ofNat 2147483647), (7, .negSucc 2147483647, .ofNat 2147483647)] : sIv), ∃ x, ([s0, s1, s2, s3, s4, s5, s6, s7] : List Int)[q.1]? = some x ∧ q.2.1 ≤ x ∧ x ≤ q.2.2 := hN.2.1.2
  have b4 : (0 : Int) ≤ s4 ∧ s4 ≤ (3 : Int) := ivX (q := (4, .ofNat 0, .ofNat 3)) (y := s4) (hIv _ (.tail _ (.tail _ (.tail _ (.tail _ (.head _)))))) rfl
  have hRf : ∀ q ∈ ([((40, .ofNat 173, []), (.ofNat 9, []), 1, .ofNat 0, [])] : List sRf), rfOk [s0, s1, s2, s3, s4, s5, s6, s7] hp q := hH.1
  have h0 : hI hp 173 9 = 0 := rfI0 (hRf _ (.head _)) (sE_k _ _) (sE_k _ _) (sE_k _ _)
  have hFc : ∀ q ∈ ([(192, [(.ofNat 0, [(.ofNat 1, 0)]), (.ofNat 0, [(.ofNat 1, 1)]), (.ofNat 0, [(.ofNat 1, 2)]), (.ofNat 0, [(.ofNat 1, 3)]), (.ofNat 0, [(.ofNat 1, 4)]), (.ofNat 0, [(.ofNat 1, 5)]), (.ofNat 0, [(.ofNat 1, 6)]), (.ofNat 0, [(.ofNat 1, 7)])])] : List sFc), fcOk fFS [s0, s1, s2, s3, s4, s5, s6, s7] hp q := hH.2
  have f0 : SHq (XT hp) (nmR hp (xnm hp)) s0 s1 s2 s3 s4 s5 s6 s7 ∧ s4 ≠ 4 := fcX (ys := [s0, s1, s2, s3, s4, s5, s6, s7]) (hFc _ (.head _)) ⟨sE_V rfl, sE_V rfl, sE_V rfl, sE_V rfl, sE_V rfl, sE_V rfl, sE_V rfl, sE_V rfl, trivial⟩
  have u := sh_bd (XT_ok hO) f0.1
  have y : (((0 : Int) ≤ s4 ∧ s4 ≤ (0 : Int))) ∨ (((1 : Int) ≤ s4 ∧ s4 ≤ (1 : Int))) ∨ (((2 : Int) ≤ s4 ∧ s4 ≤ (2 : Int))) ∨ (((3 : Int) ≤ s4 ∧ s4 ≤ (3 : Int))) := by omega
  rcases y with y | y | y | y
  · exact poX (.head _) rfl hR (all_cons (ivO (y := s4) rfl (show (0 : Int) ≤ s4 by omega) (show s4 ≤ (0 : Int) by omega)) (all_nil)) (all_nil) (all_nil)
  · exact poX (.tail _ (.head _)) rfl hR (all_cons (ivO (y := s4) rfl (show (1 : Int) ≤ s4 by omega) (show s4 ≤ (1 : Int) by omega)) (all_nil)) (all_nil) (all_nil)
  · exact poX (.tail _ (.tail _ (.head _))) rfl hR (all_cons (ivO (y := s4) rfl (show (2 : Int) ≤ s4 by omega) (show s4 ≤ (2 : Int) by omega)) (all_nil)) (all_nil) (all_nil)
  · exact poX (.tail _ (.tail _ (.tail _ (.head _)))) rfl hR (all_cons (ivO (y := s4) rfl (show (3 : Int) ≤ s4 by omega) (show s4 ≤ (3 : Int) by omega)) (all_nil)) (all_nil) (all_nil)
theorem rl386 : ruOk fFS gR386 := by
  intro r hp hO hN hH
  obtain ⟨s0, s1, s2, s3, s4, s5, s6, s7, rfl⟩ := len8 (show r.length = 8 from hN.1)
  have hR := hN.2.1.1
  have hIv : ∀ q ∈ ([(0, .negSucc 2147483647, .ofNat 2147483647), (1, .negSucc 2147483647, .ofNat 2147483647), (2, .negSucc 2147483647, .ofNat 2147483647), (3, .negSucc 2147483647, .ofNat 2147483647), (4, .ofNat 1, .ofNat 1), (5, .negSucc 2147483647, .ofNat 2147483647), (6, .negSucc 2147483647, .ofNat 2147483647), (7, .negSucc 2147483647, .ofNat 2147483647)] : sIv), ∃ x, ([s0, s1, s2, s3, s4, s5, s6, s7] : List Int)[q.1]? = some x ∧ q.2.1 ≤ x ∧ x ≤ q.2.2 := hN.2.1.2
  have b4 : (1 : Int) ≤ s4 ∧ s4 ≤ (1 : Int) := ivX (q := (4, .ofNat 1, .ofNat 1)) (y := s4) (hIv _ (.tail _ (.tail _ (.tail _ (.tail _ (.head _)))))) rfl
  have b7 : (-2147483648 : Int) ≤ s7 ∧ s7 ≤ (2147483647 : Int) := ivX (q := (7, .negSucc 2147483647, .ofNat 2147483647)) (y := s7) (hIv _ (.tail _ (.tail _ (.tail _ (.tail _ (.tail _ (.tail _ (.tail _ (.head _))))))))) rfl
  have hRf : ∀ q ∈ ([((40, .ofNat 173, []), (.ofNat 9, []), 1, .ofNat 0, [])] : List sRf), rfOk [s0, s1, s2, s3, s4, s5, s6, s7] hp q := hH.1
  have h0 : hI hp 173 9 = 0 := rfI0 (hRf _ (.head _)) (sE_k _ _) (sE_k _ _) (sE_k _ _)
  have hFc : ∀ q ∈ ([(192, [(.ofNat 0, [(.ofNat 1, 0)]), (.ofNat 0, [(.ofNat 1, 1)]), (.ofNat 0, [(.ofNat 1, 2)]), (.ofNat 0, [(.ofNat 1, 3)]), (.ofNat 0, [(.ofNat 1, 4)]), (.ofNat 0, [(.ofNat 1, 5)]), (.ofNat 0, [(.ofNat 1, 6)]), (.ofNat 0, [(.ofNat 1, 7)])])] : List sFc), fcOk fFS [s0, s1, s2, s3, s4, s5, s6, s7] hp q := hH.2
  have f0 : SHq (XT hp) (nmR hp (xnm hp)) s0 s1 s2 s3 s4 s5 s6 s7 ∧ s4 ≠ 4 := fcX (ys := [s0, s1, s2, s3, s4, s5, s6, s7]) (hFc _ (.head _)) ⟨sE_V rfl, sE_V rfl, sE_V rfl, sE_V rfl, sE_V rfl, sE_V rfl, sE_V rfl, sE_V rfl, trivial⟩
  have u := sh_bd (XT_ok hO) f0.1
  have u3 := sh_k1 (XT_ok hO) f0.1 (by omega)
  exact poX (.head _) rfl hR (all_cons (ivO (y := s7) rfl (show (-1 : Int) ≤ s7 by omega) (show s7 ≤ (29 : Int) by omega)) (all_nil)) (all_nil) (all_nil)
theorem rl387 : ruOk fFS gR387 := by
  intro r hp hO hN hH
  obtain ⟨s0, s1, s2, s3, s4, s5, s6, s7, rfl⟩ := len8 (show r.length = 8 from hN.1)
  have hR := hN.2.1.1
  have hIv : ∀ q ∈ ([(0, .negSucc 2147483647, .ofNat 2147483647), (1, .negSucc 2147483647, .ofNat 2147483647), (2, .negSucc 2147483647, .ofNat 2147483647), (3, .negSucc 2147483647, .ofNat 2147483647), (4, .ofNat 1, .ofNat 1), (5, .negSucc 2147483647, .ofNat 2147483647), (6, .negSucc 2147483647, .ofNat 2147483647), (7, .negSucc 0, .ofNat 29)] : sIv), ∃ x, ([s0, s1, s2, s3, s4, s5, s6, s7] : List Int)[q.1]? = some x ∧ q.2.1 ≤ x ∧ x ≤ q.2.2 := hN.2.1.2
  have b4 : (1 : Int) ≤ s4 ∧ s4 ≤ (1 : Int) := ivX (q := (4, .ofNat 1, .ofNat 1)) (y := s4) (hIv _ (.tail _ (.tail _ (.tail _ (.tail _ (.head _)))))) rfl
  have b7 : (-1 : Int) ≤ s7 ∧ s7 ≤ (29 : Int) := ivX (q := (7, .negSucc 0, .ofNat 29)) (y := s7) (hIv _ (.tail _ (.tail _ (.tail _ (.tail _ (.tail _ (.tail _ (.tail _ (.head _))))))))) rfl
  have hRf : ∀ q ∈ ([((40, .ofNat 173, []), (.ofNat 9, []), 1, .ofNat 0, [])] : List sRf), rfOk [s0, s1, s2, s3, s4, s5, s6, s7] hp q := hH.1
  have h0 : hI hp 173 9 = 0 := rfI0 (hRf _ (.head _)) (sE_k _ _) (sE_k _ _) (sE_k _ _)
  have hFc : ∀ q ∈ ([(192, [(.ofNat 0, [(.ofNat 1, 0)]), (.ofNat 0, [(.ofNat 1, 1)]), (.ofNat 0, [(.ofNat 1, 2)]), (.ofNat 0, [(.ofNat 1, 3)]), (.ofNat 0, [(.ofNat 1, 4)]), (.ofNat 0, [(.ofNat 1, 5)]), (.ofNat 0, [(.ofNat 1, 6)]), (.ofNat 0, [(.ofNat 1, 7)])])] : List sFc), fcOk fFS [s0, s1, s2, s3, s4, s5, s6, s7] hp q := hH.2
  have f0 : SHq (XT hp) (nmR hp (xnm hp)) s0 s1 s2 s3 s4 s5 s6 s7 ∧ s4 ≠ 4 := fcX (ys := [s0, s1, s2, s3, s4, s5, s6, s7]) (hFc _ (.head _)) ⟨sE_V rfl, sE_V rfl, sE_V rfl, sE_V rfl, sE_V rfl, sE_V rfl, sE_V rfl, sE_V rfl, trivial⟩
  have u := sh_bd (XT_ok hO) f0.1
  have u3 := sh_k1 (XT_ok hO) f0.1 (by omega)
  have y : (((-1 : Int) ≤ s7 ∧ s7 ≤ (18 : Int))) ∨ (((19 : Int) ≤ s7 ∧ s7 ≤ (19 : Int))) ∨ (((20 : Int) ≤ s7 ∧ s7 ≤ (20 : Int))) ∨ (((21 : Int) ≤ s7 ∧ s7 ≤ (29 : Int))) := by omega
  rcases y with y | y | y | y
  · exact poX (.head _) rfl hR (all_cons (ivO (y := s7) rfl (show (-1 : Int) ≤ s7 by omega) (show s7 ≤ (18 : Int) by omega)) (all_nil)) (all_nil) (all_nil)
  · exact poX (.tail _ (.head _)) rfl hR (all_cons (ivO (y := s7) rfl (show (19 : Int) ≤ s7 by omega) (show s7 ≤ (19 : Int) by omega)) (all_nil)) (all_nil) (all_nil)
  · exact poX (.tail _ (.tail _ (.head _))) rfl hR (all_cons (ivO (y := s7) rfl (show (20 : Int) ≤ s7 by omega) (show s7 ≤ (20 : Int) by omega)) (all_nil)) (all_nil) (all_nil)
  · exact poX (.tail _ (.tail _ (.tail _ (.head _)))) rfl hR (all_cons (ivO (y := s7) rfl (show (21 : Int) ≤ s7 by omega) (show s7 ≤ (29 : Int) by omega)) (all_nil)) (all_nil) (all_nil)
theorem rl388 : ruOk fFS gR388 := by
  intro r hp hO hN hH
  obtain ⟨s0, s1, s2, s3, s4, s5, s6, s7, rfl⟩ := len8 (show r.length = 8 from hN.1)
  have hR := hN.2.1.1
  have hIv : ∀ q ∈ ([(0, .negSucc 2147483647, .ofNat 2147483647), (1, .ofNat 6, .ofNat 6), (2, .negSucc 2147483647, .ofNat 2147483647), (3, .negSucc 2147483647, .ofNat 2147483647), (4, .ofNat 1, .ofNat 1), (5, .negSucc 2147483647, .ofNat 2147483647), (6, .negSucc 2147483647, .ofNat 2147483647), (7, .ofNat 19, .ofNat 20)] : sIv), ∃ x, ([s0, s1, s2, s3, s4, s5, s6, s7] : List Int)[q.1]? = some x ∧ q.2.1 ≤ x ∧ x ≤ q.2.2 := hN.2.1.2
  have b1 : (6 : Int) ≤ s1 ∧ s1 ≤ (6 : Int) := ivX (q := (1, .ofNat 6, .ofNat 6)) (y := s1) (hIv _ (.tail _ (.head _))) rfl
  have b4 : (1 : Int) ≤ s4 ∧ s4 ≤ (1 : Int) := ivX (q := (4, .ofNat 1, .ofNat 1)) (y := s4) (hIv _ (.tail _ (.tail _ (.tail _ (.tail _ (.head _)))))) rfl
  have b7 : (19 : Int) ≤ s7 ∧ s7 ≤ (20 : Int) := ivX (q := (7, .ofNat 19, .ofNat 20)) (y := s7) (hIv _ (.tail _ (.tail _ (.tail _ (.tail _ (.tail _ (.tail _ (.tail _ (.head _))))))))) rfl
  have hRf : ∀ q ∈ ([((40, .ofNat 173, []), (.ofNat 9, []), 1, .ofNat 0, [])] : List sRf), rfOk [s0, s1, s2, s3, s4, s5, s6, s7] hp q := hH.1
  have h0 : hI hp 173 9 = 0 := rfI0 (hRf _ (.head _)) (sE_k _ _) (sE_k _ _) (sE_k _ _)
  have hFc : ∀ q ∈ ([(192, [(.ofNat 0, [(.ofNat 1, 0)]), (.ofNat 0, [(.ofNat 1, 1)]), (.ofNat 0, [(.ofNat 1, 2)]), (.ofNat 0, [(.ofNat 1, 3)]), (.ofNat 0, [(.ofNat 1, 4)]), (.ofNat 0, [(.ofNat 1, 5)]), (.ofNat 0, [(.ofNat 1, 6)]), (.ofNat 0, [(.ofNat 1, 7)])])] : List sFc), fcOk fFS [s0, s1, s2, s3, s4, s5, s6, s7] hp q := hH.2
  have f0 : SHq (XT hp) (nmR hp (xnm hp)) s0 s1 s2 s3 s4 s5 s6 s7 ∧ s4 ≠ 4 := fcX (ys := [s0, s1, s2, s3, s4, s5, s6, s7]) (hFc _ (.head _)) ⟨sE_V rfl, sE_V rfl, sE_V rfl, sE_V rfl, sE_V rfl, sE_V rfl, sE_V rfl, sE_V rfl, trivial⟩
  exact poX (.head _) rfl hR (all_nil) (all_nil) (all_cons ⟨[s6, 0, s2, s3], ⟨sE_V rfl, sE_k _ _, sE_V rfl, sE_V rfl, trivial⟩, (show SG (XT hp) (nmR hp (xnm hp)) s6 (0 : Int) s2 s3 from s6_join f0.1 (by omega) (by omega) (by omega))⟩ (all_nil))
theorem rl389 : ruOk fFS gR389 := by
  intro r hp hO hN hH
  obtain ⟨s0, s1, s2, s3, s4, s5, s6, s7, rfl⟩ := len8 (show r.length = 8 from hN.1)
  have hR := hN.2.1.1
  have hIv : ∀ q ∈ ([(0, .negSucc 2147483647, .ofNat 2147483647), (1, .ofNat 6, .ofNat 6), (2, .negSucc 2147483647, .ofNat 2147483647), (3, .ofNat 0, .ofNat 0), (4, .ofNat 2, .ofNat 2), (5, .negSucc 2147483647, .ofNat 2147483647), (6, .negSucc 2147483647, .ofNat 2147483647), (7, .negSucc 2147483647, .ofNat 2147483647)] : sIv), ∃ x, ([s0, s1, s2, s3, s4, s5, s6, s7] : List Int)[q.1]? = some x ∧ q.2.1 ≤ x ∧ x ≤ q.2.2 := hN.2.1.2
  have b1 : (6 : Int) ≤ s1 ∧ s1 ≤ (6 : Int) := ivX (q := (1, .ofNat 6, .ofNat 6)) (y := s1) (hIv _ (.tail _ (.head _))) rfl
  have b3 : (0 : Int) ≤ s3 ∧ s3 ≤ (0 : Int) := ivX (q := (3, .ofNat 0, .ofNat 0)) (y := s3) (hIv _ (.tail _ (.tail _ (.tail _ (.head _))))) rfl
  have b4 : (2 : Int) ≤ s4 ∧ s4 ≤ (2 : Int) := ivX (q := (4, .ofNat 2, .ofNat 2)) (y := s4) (hIv _ (.tail _ (.tail _ (.tail _ (.tail _ (.head _)))))) rfl
  have hRf : ∀ q ∈ ([((40, .ofNat 173, []), (.ofNat 9, []), 1, .ofNat 0, [])] : List sRf), rfOk [s0, s1, s2, s3, s4, s5, s6, s7] hp q := hH.1
  have h0 : hI hp 173 9 = 0 := rfI0 (hRf _ (.head _)) (sE_k _ _) (sE_k _ _) (sE_k _ _)
  have hFc : ∀ q ∈ ([(192, [(.ofNat 0, [(.ofNat 1, 0)]), (.ofNat 0, [(.ofNat 1, 1)]), (.ofNat 0, [(.ofNat 1, 2)]), (.ofNat 0, [(.ofNat 1, 3)]), (.ofNat 0, [(.ofNat 1, 4)]), (.ofNat 0, [(.ofNat 1, 5)]), (.ofNat 0, [(.ofNat 1, 6)]), (.ofNat 0, [(.ofNat 1, 7)])])] : List sFc), fcOk fFS [s0, s1, s2, s3, s4, s5, s6, s7] hp q := hH.2
  have f0 : SHq (XT hp) (nmR hp (xnm hp)) s0 s1 s2 s3 s4 s5 s6 s7 ∧ s4 ≠ 4 := fcX (ys := [s0, s1, s2, s3, s4, s5, s6, s7]) (hFc _ (.head _)) ⟨sE_V rfl, sE_V rfl, sE_V rfl, sE_V rfl, sE_V rfl, sE_V rfl, sE_V rfl, sE_V rfl, trivial⟩
  exact poX (.head _) rfl hR (all_nil) (all_nil) (all_cons ⟨[1, s5], ⟨sE_k _ _, sE_V rfl, trivial⟩, (show SRS (XT hp) (nmR hp (xnm hp)) (1 : Int) s5 from s6_f1 f0.1 (by omega) (by omega) (by omega) (by omega))⟩ (all_nil))
theorem rl390 : ruOk fFS gR390 := by
  intro r hp hO hN hH
  obtain ⟨s0, s1, s2, s3, s4, s5, s6, s7, rfl⟩ := len8 (show r.length = 8 from hN.1)
  have hR := hN.2.1.1
  have hIv : ∀ q ∈ ([(0, .negSucc 2147483647, .ofNat 2147483647), (1, .ofNat 6, .ofNat 6), (2, .negSucc 2147483647, .ofNat 2147483647), (3, .ofNat 0, .ofNat 0), (4, .ofNat 3, .ofNat 3), (5, .negSucc 2147483647, .ofNat 2147483647), (6, .negSucc 2147483647, .ofNat 2147483647), (7, .negSucc 2147483647, .ofNat 2147483647)] : sIv), ∃ x, ([s0, s1, s2, s3, s4, s5, s6, s7] : List Int)[q.1]? = some x ∧ q.2.1 ≤ x ∧ x ≤ q.2.2 := hN.2.1.2
  have b1 : (6 : Int) ≤ s1 ∧ s1 ≤ (6 : Int) := ivX (q := (1, .ofNat 6, .ofNat 6)) (y := s1) (hIv _ (.tail _ (.head _))) rfl
  have b3 : (0 : Int) ≤ s3 ∧ s3 ≤ (0 : Int) := ivX (q := (3, .ofNat 0, .ofNat 0)) (y := s3) (hIv _ (.tail _ (.tail _ (.tail _ (.head _))))) rfl
  have b4 : (3 : Int) ≤ s4 ∧ s4 ≤ (3 : Int) := ivX (q := (4, .ofNat 3, .ofNat 3)) (y := s4) (hIv _ (.tail _ (.tail _ (.tail _ (.tail _ (.head _)))))) rfl
  have hRf : ∀ q ∈ ([((40, .ofNat 173, []), (.ofNat 9, []), 1, .ofNat 0, [])] : List sRf), rfOk [s0, s1, s2, s3, s4, s5, s6, s7] hp q := hH.1
  have h0 : hI hp 173 9 = 0 := rfI0 (hRf _ (.head _)) (sE_k _ _) (sE_k _ _) (sE_k _ _)
  have hFc : ∀ q ∈ ([(192, [(.ofNat 0, [(.ofNat 1, 0)]), (.ofNat 0, [(.ofNat 1, 1)]), (.ofNat 0, [(.ofNat 1, 2)]), (.ofNat 0, [(.ofNat 1, 3)]), (.ofNat 0, [(.ofNat 1, 4)]), (.ofNat 0, [(.ofNat 1, 5)]), (.ofNat 0, [(.ofNat 1, 6)]), (.ofNat 0, [(.ofNat 1, 7)])])] : List sFc), fcOk fFS [s0, s1, s2, s3, s4, s5, s6, s7] hp q := hH.2
  have f0 : SHq (XT hp) (nmR hp (xnm hp)) s0 s1 s2 s3 s4 s5 s6 s7 ∧ s4 ≠ 4 := fcX (ys := [s0, s1, s2, s3, s4, s5, s6, s7]) (hFc _ (.head _)) ⟨sE_V rfl, sE_V rfl, sE_V rfl, sE_V rfl, sE_V rfl, sE_V rfl, sE_V rfl, sE_V rfl, trivial⟩
  exact poX (.head _) rfl hR (all_nil) (all_nil) (all_cons ⟨[1, s5], ⟨sE_k _ _, sE_V rfl, trivial⟩, (show SRS (XT hp) (nmR hp (xnm hp)) (1 : Int) s5 from s6_f1 f0.1 (by omega) (by omega) (by omega) (by omega))⟩ (all_nil))
theorem rl391 : ruOk fFS gR391 := by
  intro r hp hO hN hH
  obtain ⟨s0, s1, s2, s3, s4, s5, s6, s7, rfl⟩ := len8 (show r.length = 8 from hN.1)
  have hR := hN.2.1.1
  have hIv : ∀ q ∈ ([(0, .negSucc 2147483647, .ofNat 2147483647), (1, .ofNat 6, .ofNat 6), (2, .negSucc 2147483647, .ofNat 2147483647), (3, .ofNat 0, .ofNat 0), (4, .ofNat 1, .ofNat 1), (5, .negSucc 2147483647, .ofNat 2147483647), (6, .negSucc 2147483647, .ofNat 2147483647), (7, .negSucc 0, .ofNat 18)] : sIv), ∃ x, ([s0, s1, s2, s3, s4, s5, s6, s7] : List Int)[q.1]? = some x ∧ q.2.1 ≤ x ∧ x ≤ q.2.2 := hN.2.1.2
  have b1 : (6 : Int) ≤ s1 ∧ s1 ≤ (6 : Int) := ivX (q := (1, .ofNat 6, .ofNat 6)) (y := s1) (hIv _ (.tail _ (.head _))) rfl
  have b3 : (0 : Int) ≤ s3 ∧ s3 ≤ (0 : Int) := ivX (q := (3, .ofNat 0, .ofNat 0)) (y := s3) (hIv _ (.tail _ (.tail _ (.tail _ (.head _))))) rfl
  have b4 : (1 : Int) ≤ s4 ∧ s4 ≤ (1 : Int) := ivX (q := (4, .ofNat 1, .ofNat 1)) (y := s4) (hIv _ (.tail _ (.tail _ (.tail _ (.tail _ (.head _)))))) rfl
  have b7 : (-1 : Int) ≤ s7 ∧ s7 ≤ (18 : Int) := ivX (q := (7, .negSucc 0, .ofNat 18)) (y := s7) (hIv _ (.tail _ (.tail _ (.tail _ (.tail _ (.tail _ (.tail _ (.tail _ (.head _))))))))) rfl
  have hRf : ∀ q ∈ ([((40, .ofNat 173, []), (.ofNat 9, []), 1, .ofNat 0, [])] : List sRf), rfOk [s0, s1, s2, s3, s4, s5, s6, s7] hp q := hH.1
  have h0 : hI hp 173 9 = 0 := rfI0 (hRf _ (.head _)) (sE_k _ _) (sE_k _ _) (sE_k _ _)
  have hFc : ∀ q ∈ ([(192, [(.ofNat 0, [(.ofNat 1, 0)]), (.ofNat 0, [(.ofNat 1, 1)]), (.ofNat 0, [(.ofNat 1, 2)]), (.ofNat 0, [(.ofNat 1, 3)]), (.ofNat 0, [(.ofNat 1, 4)]), (.ofNat 0, [(.ofNat 1, 5)]), (.ofNat 0, [(.ofNat 1, 6)]), (.ofNat 0, [(.ofNat 1, 7)])])] : List sFc), fcOk fFS [s0, s1, s2, s3, s4, s5, s6, s7] hp q := hH.2
  have f0 : SHq (XT hp) (nmR hp (xnm hp)) s0 s1 s2 s3 s4 s5 s6 s7 ∧ s4 ≠ 4 := fcX (ys := [s0, s1, s2, s3, s4, s5, s6, s7]) (hFc _ (.head _)) ⟨sE_V rfl, sE_V rfl, sE_V rfl, sE_V rfl, sE_V rfl, sE_V rfl, sE_V rfl, sE_V rfl, trivial⟩
  exact poX (.head _) rfl hR (all_nil) (all_nil) (all_cons ⟨[1, s5], ⟨sE_k _ _, sE_V rfl, trivial⟩, (show SRS (XT hp) (nmR hp (xnm hp)) (1 : Int) s5 from s6_f1 f0.1 (by omega) (by omega) (by omega) (by omega))⟩ (all_nil))
theorem rl392 : ruOk fFS gR392 := by
  intro r hp hO hN hH
  obtain ⟨s0, s1, s2, s3, s4, s5, s6, s7, rfl⟩ := len8 (show r.length = 8 from hN.1)
  have hR := hN.2.1.1
  have hIv : ∀ q ∈ ([(0, .negSucc 2147483647, .ofNat 2147483647), (1, .ofNat 6, .ofNat 6), (2, .negSucc 2147483647, .ofNat 2147483647), (3, .ofNat 0, .ofNat 0), (4, .ofNat 1, .ofNat 1), (5, .negSucc 2147483647, .ofNat 2147483647), (6, .negSucc 2147483647, .ofNat 2147483647), (7, .ofNat 21, .ofNat 2147483647)] : sIv), ∃ x, ([s0, s1, s2, s3, s4, s5, s6, s7] : List Int)[q.1]? = some x ∧ q.2.1 ≤ x ∧ x ≤ q.2.2 := hN.2.1.2
  have b1 : (6 : Int) ≤ s1 ∧ s1 ≤ (6 : Int) := ivX (q := (1, .ofNat 6, .ofNat 6)) (y := s1) (hIv _ (.tail _ (.head _))) rfl
  have b3 : (0 : Int) ≤ s3 ∧ s3 ≤ (0 : Int) := ivX (q := (3, .ofNat 0, .ofNat 0)) (y := s3) (hIv _ (.tail _ (.tail _ (.tail _ (.head _))))) rfl
  have b4 : (1 : Int) ≤ s4 ∧ s4 ≤ (1 : Int) := ivX (q := (4, .ofNat 1, .ofNat 1)) (y := s4) (hIv _ (.tail _ (.tail _ (.tail _ (.tail _ (.head _)))))) rfl
  have b7 : (21 : Int) ≤ s7 ∧ s7 ≤ (2147483647 : Int) := ivX (q := (7, .ofNat 21, .ofNat 2147483647)) (y := s7) (hIv _ (.tail _ (.tail _ (.tail _ (.tail _ (.tail _ (.tail _ (.tail _ (.head _))))))))) rfl
  have hRf : ∀ q ∈ ([((40, .ofNat 173, []), (.ofNat 9, []), 1, .ofNat 0, [])] : List sRf), rfOk [s0, s1, s2, s3, s4, s5, s6, s7] hp q := hH.1
  have h0 : hI hp 173 9 = 0 := rfI0 (hRf _ (.head _)) (sE_k _ _) (sE_k _ _) (sE_k _ _)
  have hFc : ∀ q ∈ ([(192, [(.ofNat 0, [(.ofNat 1, 0)]), (.ofNat 0, [(.ofNat 1, 1)]), (.ofNat 0, [(.ofNat 1, 2)]), (.ofNat 0, [(.ofNat 1, 3)]), (.ofNat 0, [(.ofNat 1, 4)]), (.ofNat 0, [(.ofNat 1, 5)]), (.ofNat 0, [(.ofNat 1, 6)]), (.ofNat 0, [(.ofNat 1, 7)])])] : List sFc), fcOk fFS [s0, s1, s2, s3, s4, s5, s6, s7] hp q := hH.2
  have f0 : SHq (XT hp) (nmR hp (xnm hp)) s0 s1 s2 s3 s4 s5 s6 s7 ∧ s4 ≠ 4 := fcX (ys := [s0, s1, s2, s3, s4, s5, s6, s7]) (hFc _ (.head _)) ⟨sE_V rfl, sE_V rfl, sE_V rfl, sE_V rfl, sE_V rfl, sE_V rfl, sE_V rfl, sE_V rfl, trivial⟩
  exact poX (.head _) rfl hR (all_nil) (all_nil) (all_cons ⟨[1, s5], ⟨sE_k _ _, sE_V rfl, trivial⟩, (show SRS (XT hp) (nmR hp (xnm hp)) (1 : Int) s5 from s6_f1 f0.1 (by omega) (by omega) (by omega) (by omega))⟩ (all_nil))
theorem rl393 : ruOk fFS gR393 := by
  intro r hp hO hN hH
  obtain ⟨s0, s1, s2, s3, s4, s5, s6, s7, rfl⟩ := len8 (show r.length = 8 from hN.1)
  have hR := hN.2.1.1
  have hIv : ∀ q ∈ ([(0, .negSucc 2147483647, .ofNat 2147483647), (1, .ofNat 6, .ofNat 6), (2, .negSucc 2147483647, .ofNat 2147483647), (3, .ofNat 0, .ofNat 0), (4, .ofNat 0, .ofNat 0), (5, .negSucc 2147483647, .ofNat 2147483647), (6, .negSucc 2147483647, .ofNat 2147483647), (7, .negSucc 2147483647, .ofNat 2147483647)] : sIv), ∃ x, ([s0, s1, s2, s3, s4, s5, s6, s7] : List Int)[q.1]? = some x ∧ q.2.1 ≤ x ∧ x ≤ q.2.2 := hN.2.1.2
  have b1 : (6 : Int) ≤ s1 ∧ s1 ≤ (6 : Int) := ivX (q := (1, .ofNat 6, .ofNat 6)) (y := s1) (hIv _ (.tail _ (.head _))) rfl
  have b3 : (0 : Int) ≤ s3 ∧ s3 ≤ (0 : Int) := ivX (q := (3, .ofNat 0, .ofNat 0)) (y := s3) (hIv _ (.tail _ (.tail _ (.tail _ (.head _))))) rfl
  have b4 : (0 : Int) ≤ s4 ∧ s4 ≤ (0 : Int) := ivX (q := (4, .ofNat 0, .ofNat 0)) (y := s4) (hIv _ (.tail _ (.tail _ (.tail _ (.tail _ (.head _)))))) rfl
  have hRf : ∀ q ∈ ([((40, .ofNat 173, []), (.ofNat 9, []), 1, .ofNat 0, [])] : List sRf), rfOk [s0, s1, s2, s3, s4, s5, s6, s7] hp q := hH.1
  have h0 : hI hp 173 9 = 0 := rfI0 (hRf _ (.head _)) (sE_k _ _) (sE_k _ _) (sE_k _ _)
  have hFc : ∀ q ∈ ([(192, [(.ofNat 0, [(.ofNat 1, 0)]), (.ofNat 0, [(.ofNat 1, 1)]), (.ofNat 0, [(.ofNat 1, 2)]), (.ofNat 0, [(.ofNat 1, 3)]), (.ofNat 0, [(.ofNat 1, 4)]), (.ofNat 0, [(.ofNat 1, 5)]), (.ofNat 0, [(.ofNat 1, 6)]), (.ofNat 0, [(.ofNat 1, 7)])])] : List sFc), fcOk fFS [s0, s1, s2, s3, s4, s5, s6, s7] hp q := hH.2
  have f0 : SHq (XT hp) (nmR hp (xnm hp)) s0 s1 s2 s3 s4 s5 s6 s7 ∧ s4 ≠ 4 := fcX (ys := [s0, s1, s2, s3, s4, s5, s6, s7]) (hFc _ (.head _)) ⟨sE_V rfl, sE_V rfl, sE_V rfl, sE_V rfl, sE_V rfl, sE_V rfl, sE_V rfl, sE_V rfl, trivial⟩
  exact poX (.head _) rfl hR (all_nil) (all_nil) (all_cons ⟨[s2], ⟨sE_V rfl, trivial⟩, (show SDN (XT hp) (nmR hp (xnm hp)) s2 from s6_end f0.1 (by omega) (by omega) (by omega))⟩ (all_nil))
theorem rl394 : ruOk fFS gR394 := by
  intro r hp hO hN hH
  obtain ⟨s0, rfl⟩ := len1 (show r.length = 1 from hN.1)
  have hR := hN.2.1.1
  have hIv : ∀ q ∈ ([(0, .negSucc 2147483647, .ofNat 2147483647)] : sIv), ∃ x, ([s0] : List Int)[q.1]? = some x ∧ q.2.1 ≤ x ∧ x ≤ q.2.2 := hN.2.1.2
  have hFc : ∀ q ∈ ([(196, [(.ofNat 0, [(.ofNat 1, 0)])])] : List sFc), fcOk fFS [s0] hp q := hH.2
  have f0 : SDN (XT hp) (nmR hp (xnm hp)) s0 := fcX (ys := [s0]) (hFc _ (.head _)) ⟨sE_V rfl, trivial⟩
  exact poX (.head _) rfl hR (all_nil) (all_nil) (all_cons ⟨[s0, 0], ⟨sE_V rfl, sE_k _ _, trivial⟩, (show SAN (XT hp) (nmR hp (xnm hp)) s0 (0 : Int) from Or.inl ⟨f0, rfl⟩)⟩ (all_nil))
theorem rl395 : ruOk fFS gR395 := by
  intro r hp hO hN hH
  obtain ⟨s0, s1, rfl⟩ := len2 (show r.length = 2 from hN.1)
  have hR := hN.2.1.1
  have hIv : ∀ q ∈ ([(0, .negSucc 2147483647, .ofNat 2147483647), (1, .negSucc 2147483647, .ofNat 2147483647)] : sIv), ∃ x, ([s0, s1] : List Int)[q.1]? = some x ∧ q.2.1 ≤ x ∧ x ≤ q.2.2 := hN.2.1.2
  have hRf : ∀ q ∈ ([((0, .ofNat 0, []), (.ofNat 6, []), 18, .ofNat 2, [])] : List sRf), rfOk [s0, s1] hp q := hH.1
  have g0 : hC hp 0 6 = 2 := by
    have u := rfR0 (xv := (2 : Int)) (c0 := 0) (i0 := 6) (hRf _ (.head _)) (sE_k _ _) (sE_k _ _) (sE_k _ _)
    show hC hp (0) 6 = 2
    omega
  have hFc : ∀ q ∈ ([(197, [(.ofNat 0, [(.ofNat 1, 0)]), (.ofNat 0, [(.ofNat 1, 1)])])] : List sFc), fcOk fFS [s0, s1] hp q := hH.2
  have f0 : SAN (XT hp) (nmR hp (xnm hp)) s0 s1 := fcX (ys := [s0, s1]) (hFc _ (.head _)) ⟨sE_V rfl, sE_V rfl, trivial⟩
  exact poX (.head _) rfl hR (all_nil) (all_nil) (all_cons ⟨[s0, s1], ⟨sE_V rfl, sE_V rfl, trivial⟩, (show SAN (XT hp) (nmR hp 3) s0 s1 from (by rw [xn_A hO g0] at f0; exact f0))⟩ (all_nil))
theorem rl396 : ruOk fFS gR396 := by
  intro r hp hO hN hH
  obtain ⟨s0, s1, rfl⟩ := len2 (show r.length = 2 from hN.1)
  have hR := hN.2.1.1
  have hIv : ∀ q ∈ ([(0, .negSucc 2147483647, .ofNat 2147483647), (1, .negSucc 2147483647, .ofNat 2147483647)] : sIv), ∃ x, ([s0, s1] : List Int)[q.1]? = some x ∧ q.2.1 ≤ x ∧ x ≤ q.2.2 := hN.2.1.2
  have hRf : ∀ q ∈ ([((40, .ofNat 173, []), (.ofNat 9, []), 1, .ofNat 0, [(.ofNat 1, 0)]), ((40, .ofNat 173, []), (.ofNat 10, []), 1, .ofNat 0, [(.ofNat 1, 1)])] : List sRf), rfOk [s0, s1] hp q := hH.1
  have h0 : hI hp 173 9 = s0 := rfI0 (hRf _ (.head _)) (sE_k _ _) (sE_k _ _) (sE_V rfl)
  have y0 : (0 : Int) ≤ s0 ∧ s0 ≤ (4 : Int) := by rw [← h0]; exact hI_ty hO (by decide) rfl
  have h1 : hI hp 173 10 = s1 := rfI0 (hRf _ (.tail _ (.head _))) (sE_k _ _) (sE_k _ _) (sE_V rfl)
  have hFc : ∀ q ∈ ([(193, [(.ofNat 0, [(.ofNat 1, 0)]), (.ofNat 0, [(.ofNat 1, 1)])])] : List sFc), fcOk fFS [s0, s1] hp q := hH.2
  have f0 : SRS (XT hp) (nmR hp (xnm hp)) s0 s1 := fcX (ys := [s0, s1]) (hFc _ (.head _)) ⟨sE_V rfl, sE_V rfl, trivial⟩
  exact poX (.head _) rfl hR (all_nil) (all_nil) (all_cons ⟨[(-s1 - 1), s0], ⟨sEv (y' := ((-1 : Int) + ((-1 : Int) * s1 + 0))) rfl (by omega), sE_V rfl, trivial⟩, (show SAN (XT hp) (nmR hp (xnm hp)) (-s1 - 1) s0 from Or.inr ⟨s1, f0, by omega⟩)⟩ (all_nil))
theorem rl404 : ruOk fFS gR404 := by
  intro r hp hO hN hH
  have hr0 := len0 (show r.length = 0 from hN.1)
  subst hr0
  have hR := hN.2.1.1
  have hFc : ∀ q ∈ ([(223, []), (216, [])] : List sFc), fcOk fFS [] hp q := hH.2
  have f0 : ∀ j : Nat, j < 12 → hv hp 213 j = hv hp 3 j := fcX (ys := []) (hFc _ (.head _)) trivial
  have f1 : ∀ c L, isW L → (nmR hp 3 c L ↔ nmM hp c L) := fcX (ys := []) (hFc _ (.tail _ (.head _))) trivial
  exact poX (.head _) rfl hR (all_nil) (all_nil) (all_cons ⟨[], trivial, (show ∀ c L, isW L → (nmR hp 213 c L ↔ nmM hp c L) from alike_l f1 (nmr_eqn f0))⟩ (all_nil))
theorem rl405 : ruOk fFS gR405 := by
  intro r hp hO hN hH
  have hr0 := len0 (show r.length = 0 from hN.1)
  subst hr0
  have hR := hN.2.1.1
  have hFc : ∀ q ∈ ([(225, []), (216, [])] : List sFc), fcOk fFS [] hp q := hH.2
  have f0 : ∀ j : Nat, j < 12 → hv hp 244 j = hv hp 3 j := fcX (ys := []) (hFc _ (.head _)) trivial
  have f1 : ∀ c L, isW L → (nmR hp 3 c L ↔ nmM hp c L) := fcX (ys := []) (hFc _ (.tail _ (.head _))) trivial
  exact poX (.head _) rfl hR (all_nil) (all_nil) (all_cons ⟨[], trivial, (show ∀ c L, isW L → (nmR hp 244 c L ↔ nmM hp c L) from alike_l f1 (nmr_eqn f0))⟩ (all_nil))
theorem rl410 : ruOk fFS gR410 := by
  intro r hp hO hN hH
  have hr0 := len0 (show r.length = 0 from hN.1)
  subst hr0
  have hR := hN.2.1.1
  have hFc : ∀ q ∈ ([(222, []), (231, [])] : List sFc), fcOk fFS [] hp q := hH.2
  have f0 : ∀ j : Nat, j < 12 → hv hp 3 j = hv hp 213 j := fcX (ys := []) (hFc _ (.head _)) trivial
  have f1 : ∀ c L, isW L → (nmR hp 213 c L ↔ nmK hp 0 c L) := fcX (ys := []) (hFc _ (.tail _ (.head _))) trivial
  exact poX (.head _) rfl hR (all_nil) (all_nil) (all_cons ⟨[], trivial, (show ∀ c L, isW L → (nmR hp 3 c L ↔ nmK hp 0 c L) from alike_l f1 (nmr_eqn f0))⟩ (all_nil))
theorem rl411 : ruOk fFS gR411 := by
  intro r hp hO hN hH
  have hr0 := len0 (show r.length = 0 from hN.1)
  subst hr0
  have hR := hN.2.1.1
  have hFc : ∀ q ∈ ([(224, []), (236, [])] : List sFc), fcOk fFS [] hp q := hH.2
  have f0 : ∀ j : Nat, j < 12 → hv hp 3 j = hv hp 244 j := fcX (ys := []) (hFc _ (.head _)) trivial
  have f1 : ∀ c L, isW L → (nmR hp 244 c L ↔ nmK hp 1 c L) := fcX (ys := []) (hFc _ (.tail _ (.head _))) trivial
  exact poX (.head _) rfl hR (all_nil) (all_nil) (all_cons ⟨[], trivial, (show ∀ c L, isW L → (nmR hp 3 c L ↔ nmK hp 1 c L) from alike_l f1 (nmr_eqn f0))⟩ (all_nil))
theorem rl415 : ruOk fFS gR415 := by
  intro r hp hO hN hH
  have hr0 := len0 (show r.length = 0 from hN.1)
  subst hr0
  have hR := hN.2.1.1
  have hRf : ∀ q ∈ ([((43, .ofNat 176, []), (.ofNat 1, []), 18, .ofNat 2, []), ((2, .ofNat 2, []), (.ofNat 7, []), 19, .ofNat 3, [])] : List sRf), rfOk [] hp q := hH.1
  have g0 : hC hp 176 1 = 2 := by
    have u := rfR0 (xv := (2 : Int)) (c0 := 176) (i0 := 1) (hRf _ (.head _)) (sE_k _ _) (sE_k _ _) (sE_k _ _)
    show hC hp (176) 1 = 2
    omega
  have g1 : rr hp 1 7 = 3 := by
    have u := rfR0 (xv := (3 : Int)) (c0 := hC hp 176 1) (i0 := 7) (hRf _ (.tail _ (.head _))) (by rw [g0]; exact sE_k _ _) (sE_k _ _) (sE_k _ _)
    show hC hp (hC hp 176 1) 7 = 3
    omega
  have hFc : ∀ q ∈ ([(100, [])] : List sFc), fcOk fFS [] hp q := hH.2
  have f0 : True := fcX (ys := []) (hFc _ (.head _)) trivial
  exact poX (.head _) rfl hR (all_nil) (all_nil) (all_cons ⟨[0], ⟨sE_k _ _, trivial⟩, (show ∀ j : Nat, j < 12 → (j : Int) < (0 : Int) → hL hp (rr hp 1 7) j = 0 from fun j _ w => absurd w (by omega))⟩ (all_nil))
theorem rl416 : ruOk fFS gR416 := by
  intro r hp hO hN hH
  obtain ⟨s0, s1, rfl⟩ := len2 (show r.length = 2 from hN.1)
  have hR := hN.2.1.1
  have hIv : ∀ q ∈ ([(0, .ofNat 0, .ofNat 11), (1, .ofNat 0, .ofNat 0)] : sIv), ∃ x, ([s0, s1] : List Int)[q.1]? = some x ∧ q.2.1 ≤ x ∧ x ≤ q.2.2 := hN.2.1.2
  have b0 : (0 : Int) ≤ s0 ∧ s0 ≤ (11 : Int) := ivX (q := (0, .ofNat 0, .ofNat 11)) (y := s0) (hIv _ (.head _)) rfl
  have b1 : (0 : Int) ≤ s1 ∧ s1 ≤ (0 : Int) := ivX (q := (1, .ofNat 0, .ofNat 0)) (y := s1) (hIv _ (.tail _ (.head _))) rfl
  have hRf : ∀ q ∈ ([((43, .ofNat 176, []), (.ofNat 1, []), 18, .ofNat 2, []), ((2, .ofNat 2, []), (.ofNat 7, []), 19, .ofNat 3, []), ((3, .ofNat 3, []), (.ofNat 0, [(.ofNat 1, 0)]), 5, .ofNat 0, [(.ofNat 1, 1)])] : List sRf), rfOk [s0, s1] hp q := hH.1
  have g0 : hC hp 176 1 = 2 := by
    have u := rfR0 (xv := (2 : Int)) (c0 := 176) (i0 := 1) (hRf _ (.head _)) (sE_k _ _) (sE_k _ _) (sE_k _ _)
    show hC hp (176) 1 = 2
    omega
  have g1 : rr hp 1 7 = 3 := by
    have u := rfR0 (xv := (3 : Int)) (c0 := hC hp 176 1) (i0 := 7) (hRf _ (.tail _ (.head _))) (by rw [g0]; exact sE_k _ _) (sE_k _ _) (sE_k _ _)
    show hC hp (hC hp 176 1) 7 = 3
    omega
  obtain ⟨i2, e2, l2, h2⟩ := rfL (c0 := rr hp 1 7) (iv := s0) (hRf _ (.tail _ (.tail _ (.head _)))) (by rw [g1]; exact sE_k _ _) (sE_V rfl) (sE_V rfl)
  have l2 : i2 < 12 := l2
  have h2 : hL hp (rr hp 1 7) i2 = s1 := h2
  have hFc : ∀ q ∈ ([(101, [(.ofNat 0, [(.ofNat 1, 0)])])] : List sFc), fcOk fFS [s0, s1] hp q := hH.2
  have f0 : ∀ j : Nat, j < 12 → (j : Int) < s0 → hL hp (rr hp 1 7) j = 0 := fcX (ys := [s0]) (hFc _ (.head _)) ⟨sE_V rfl, trivial⟩
  exact poX (.head _) rfl hR (all_nil) (all_nil) (all_cons ⟨[(s0 + 1)], ⟨sEv (y' := ((1 : Int) + ((1 : Int) * s0 + 0))) rfl (by omega), trivial⟩, (show ∀ j : Nat, j < 12 → (j : Int) < (s0 + 1) → hL hp (rr hp 1 7) j = 0 from fl_s f0 h2 (by omega) (by omega) (by omega))⟩ (all_nil))
theorem rl417 : ruOk fFS gR417 := by
  intro r hp hO hN hH
  obtain ⟨s0, rfl⟩ := len1 (show r.length = 1 from hN.1)
  have hR := hN.2.1.1
  have hIv : ∀ q ∈ ([(0, .ofNat 12, .ofNat 12)] : sIv), ∃ x, ([s0] : List Int)[q.1]? = some x ∧ q.2.1 ≤ x ∧ x ≤ q.2.2 := hN.2.1.2
  have b0 : (12 : Int) ≤ s0 ∧ s0 ≤ (12 : Int) := ivX (q := (0, .ofNat 12, .ofNat 12)) (y := s0) (hIv _ (.head _)) rfl
  have hRf : ∀ q ∈ ([((43, .ofNat 176, []), (.ofNat 1, []), 18, .ofNat 2, []), ((2, .ofNat 2, []), (.ofNat 7, []), 19, .ofNat 3, [])] : List sRf), rfOk [s0] hp q := hH.1
  have g0 : hC hp 176 1 = 2 := by
    have u := rfR0 (xv := (2 : Int)) (c0 := 176) (i0 := 1) (hRf _ (.head _)) (sE_k _ _) (sE_k _ _) (sE_k _ _)
    show hC hp (176) 1 = 2
    omega
  have g1 : rr hp 1 7 = 3 := by
    have u := rfR0 (xv := (3 : Int)) (c0 := hC hp 176 1) (i0 := 7) (hRf _ (.tail _ (.head _))) (by rw [g0]; exact sE_k _ _) (sE_k _ _) (sE_k _ _)
    show hC hp (hC hp 176 1) 7 = 3
    omega
  have hFc : ∀ q ∈ ([(101, [(.ofNat 0, [(.ofNat 1, 0)])])] : List sFc), fcOk fFS [s0] hp q := hH.2
  have f0 : ∀ j : Nat, j < 12 → (j : Int) < s0 → hL hp (rr hp 1 7) j = 0 := fcX (ys := [s0]) (hFc _ (.head _)) ⟨sE_V rfl, trivial⟩
  exact poX (.head _) rfl hR (all_nil) (all_nil) (all_cons ⟨[], trivial, (show ∀ j : Nat, j < 12 → hL hp (rr hp 1 7) j = 0 from fun j hj => f0 j hj (by omega))⟩ (all_nil))
theorem rl418 : ruOk fFS gR418 := by
  intro r hp hO hN hH
  obtain ⟨s0, rfl⟩ := len1 (show r.length = 1 from hN.1)
  have hR := hN.2.1.1
  have hRf : ∀ q ∈ ([((43, .ofNat 176, []), (.ofNat 1, []), 18, .ofNat 2, []), ((2, .ofNat 2, []), (.ofNat 8, []), 20, .ofNat 0, [(.ofNat 1, 0)])] : List sRf), rfOk [s0] hp q := hH.1
  have g0 : hC hp 176 1 = 2 := by
    have u := rfR0 (xv := (2 : Int)) (c0 := 176) (i0 := 1) (hRf _ (.head _)) (sE_k _ _) (sE_k _ _) (sE_k _ _)
    show hC hp (176) 1 = 2
    omega
  have g1 : s0 = ((rr hp 1 8 : Nat) : Int) := rfR0 (c0 := hC hp 176 1) (hRf _ (.tail _ (.head _))) (by rw [g0]; exact sE_k _ _) (sE_k _ _) (sE_V rfl)
  have hFc : ∀ q ∈ ([(100, [])] : List sFc), fcOk fFS [s0] hp q := hH.2
  have f0 : True := fcX (ys := []) (hFc _ (.head _)) trivial
  exact poX (.head _) rfl hR (all_nil) (all_nil) (all_cons ⟨[0], ⟨sE_k _ _, trivial⟩, (show ∀ j : Nat, j < 100 → (j : Int) < (0 : Int) → hI hp (rr hp 1 8) j = -1 from fun j _ w => absurd w (by omega))⟩ (all_nil))
theorem rl419 : ruOk fFS gR419 := by
  intro r hp hO hN hH
  obtain ⟨s0, s1, s2, rfl⟩ := len3 (show r.length = 3 from hN.1)
  have hR := hN.2.1.1
  have hIv : ∀ q ∈ ([(1, .ofNat 0, .ofNat 99), (2, .negSucc 0, .negSucc 0)] : sIv), ∃ x, ([s0, s1, s2] : List Int)[q.1]? = some x ∧ q.2.1 ≤ x ∧ x ≤ q.2.2 := hN.2.1.2
  have b0 : (0 : Int) ≤ s1 ∧ s1 ≤ (99 : Int) := ivX (q := (1, .ofNat 0, .ofNat 99)) (y := s1) (hIv _ (.head _)) rfl
  have b1 : (-1 : Int) ≤ s2 ∧ s2 ≤ (-1 : Int) := ivX (q := (2, .negSucc 0, .negSucc 0)) (y := s2) (hIv _ (.tail _ (.head _))) rfl
  have hRf : ∀ q ∈ ([((43, .ofNat 176, []), (.ofNat 1, []), 18, .ofNat 2, []), ((2, .ofNat 2, []), (.ofNat 8, []), 20, .ofNat 0, [(.ofNat 1, 0)]), ((4, .ofNat 0, [(.ofNat 1, 0)]), (.ofNat 0, [(.ofNat 1, 1)]), 1, .ofNat 0, [(.ofNat 1, 2)])] : List sRf), rfOk [s0, s1, s2] hp q := hH.1
  have g0 : hC hp 176 1 = 2 := by
    have u := rfR0 (xv := (2 : Int)) (c0 := 176) (i0 := 1) (hRf _ (.head _)) (sE_k _ _) (sE_k _ _) (sE_k _ _)
    show hC hp (176) 1 = 2
    omega
  have g1 : s0 = ((rr hp 1 8 : Nat) : Int) := rfR0 (c0 := hC hp 176 1) (hRf _ (.tail _ (.head _))) (by rw [g0]; exact sE_k _ _) (sE_k _ _) (sE_V rfl)
  obtain ⟨i2, e2, l2, h2⟩ := rfI (xv := s2) (iv := s1) (hRf _ (.tail _ (.tail _ (.head _)))) (sEv (sE_V rfl) g1.symm) (sE_V rfl) (sE_V rfl)
  have l2 : i2 < 100 := l2
  have h2 : hI hp (rr hp 1 8) i2 = s2 := h2
  have hFc : ∀ q ∈ ([(103, [(.ofNat 0, [(.ofNat 1, 1)])])] : List sFc), fcOk fFS [s0, s1, s2] hp q := hH.2
  have f0 : ∀ j : Nat, j < 100 → (j : Int) < s1 → hI hp (rr hp 1 8) j = -1 := fcX (ys := [s1]) (hFc _ (.head _)) ⟨sE_V rfl, trivial⟩
  exact poX (.head _) rfl hR (all_nil) (all_nil) (all_cons ⟨[(s1 + 1)], ⟨sEv (y' := ((1 : Int) + ((1 : Int) * s1 + 0))) rfl (by omega), trivial⟩, (show ∀ j : Nat, j < 100 → (j : Int) < (s1 + 1) → hI hp (rr hp 1 8) j = -1 from fl_s f0 h2 (by omega) (by omega) (by omega))⟩ (all_nil))
theorem rl420 : ruOk fFS gR420 := by
  intro r hp hO hN hH
  obtain ⟨s0, s1, rfl⟩ := len2 (show r.length = 2 from hN.1)
  have hR := hN.2.1.1
  have hIv : ∀ q ∈ ([(1, .ofNat 100, .ofNat 100)] : sIv), ∃ x, ([s0, s1] : List Int)[q.1]? = some x ∧ q.2.1 ≤ x ∧ x ≤ q.2.2 := hN.2.1.2
  have b0 : (100 : Int) ≤ s1 ∧ s1 ≤ (100 : Int) := ivX (q := (1, .ofNat 100, .ofNat 100)) (y := s1) (hIv _ (.head _)) rfl
  have hRf : ∀ q ∈ ([((43, .ofNat 176, []), (.ofNat 1, []), 18, .ofNat 2, []), ((2, .ofNat 2, []), (.ofNat 8, []), 20, .ofNat 0, [(.ofNat 1, 0)])] : List sRf), rfOk [s0, s1] hp q := hH.1
  have g0 : hC hp 176 1 = 2 := by
    have u := rfR0 (xv := (2 : Int)) (c0 := 176) (i0 := 1) (hRf _ (.head _)) (sE_k _ _) (sE_k _ _) (sE_k _ _)
    show hC hp (176) 1 = 2
    omega
  have g1 : s0 = ((rr hp 1 8 : Nat) : Int) := rfR0 (c0 := hC hp 176 1) (hRf _ (.tail _ (.head _))) (by rw [g0]; exact sE_k _ _) (sE_k _ _) (sE_V rfl)
  have hFc : ∀ q ∈ ([(103, [(.ofNat 0, [(.ofNat 1, 1)])])] : List sFc), fcOk fFS [s0, s1] hp q := hH.2
  have f0 : ∀ j : Nat, j < 100 → (j : Int) < s1 → hI hp (rr hp 1 8) j = -1 := fcX (ys := [s1]) (hFc _ (.head _)) ⟨sE_V rfl, trivial⟩
  exact poX (.head _) rfl hR (all_nil) (all_nil) (all_cons ⟨[], trivial, (show ∀ j : Nat, j < 100 → hI hp (rr hp 1 8) j = -1 from fun j hj => f0 j hj (by omega))⟩ (all_nil))
theorem rl421 : ruOk fFS gR421 := by
  intro r hp hO hN hH
  obtain ⟨s0, rfl⟩ := len1 (show r.length = 1 from hN.1)
  have hR := hN.2.1.1
  have hRf : ∀ q ∈ ([((43, .ofNat 176, []), (.ofNat 1, []), 18, .ofNat 2, []), ((2, .ofNat 2, []), (.ofNat 9, []), 21, .ofNat 0, [(.ofNat 1, 0)])] : List sRf), rfOk [s0] hp q := hH.1
  have g0 : hC hp 176 1 = 2 := by
    have u := rfR0 (xv := (2 : Int)) (c0 := 176) (i0 := 1) (hRf _ (.head _)) (sE_k _ _) (sE_k _ _) (sE_k _ _)
    show hC hp (176) 1 = 2
    omega
  have g1 : s0 = ((rr hp 1 9 : Nat) : Int) := rfR0 (c0 := hC hp 176 1) (hRf _ (.tail _ (.head _))) (by rw [g0]; exact sE_k _ _) (sE_k _ _) (sE_V rfl)
  have hFc : ∀ q ∈ ([(100, [])] : List sFc), fcOk fFS [s0] hp q := hH.2
  have f0 : True := fcX (ys := []) (hFc _ (.head _)) trivial
  exact poX (.head _) rfl hR (all_nil) (all_nil) (all_cons ⟨[0], ⟨sE_k _ _, trivial⟩, (show ∀ j : Nat, j < 100 → (j : Int) < (0 : Int) → hI hp (rr hp 1 9) j = -1 from fun j _ w => absurd w (by omega))⟩ (all_nil))
theorem rl422 : ruOk fFS gR422 := by
  intro r hp hO hN hH
  obtain ⟨s0, s1, s2, rfl⟩ := len3 (show r.length = 3 from hN.1)
  have hR := hN.2.1.1
  have hIv : ∀ q ∈ ([(1, .ofNat 0, .ofNat 99), (2, .negSucc 0, .negSucc 0)] : sIv), ∃ x, ([s0, s1, s2] : List Int)[q.1]? = some x ∧ q.2.1 ≤ x ∧ x ≤ q.2.2 := hN.2.1.2
  have b0 : (0 : Int) ≤ s1 ∧ s1 ≤ (99 : Int) := ivX (q := (1, .ofNat 0, .ofNat 99)) (y := s1) (hIv _ (.head _)) rfl
  have b1 : (-1 : Int) ≤ s2 ∧ s2 ≤ (-1 : Int) := ivX (q := (2, .negSucc 0, .negSucc 0)) (y := s2) (hIv _ (.tail _ (.head _))) rfl
  have hRf : ∀ q ∈ ([((43, .ofNat 176, []), (.ofNat 1, []), 18, .ofNat 2, []), ((2, .ofNat 2, []), (.ofNat 9, []), 21, .ofNat 0, [(.ofNat 1, 0)]), ((5, .ofNat 0, [(.ofNat 1, 0)]), (.ofNat 0, [(.ofNat 1, 1)]), 1, .ofNat 0, [(.ofNat 1, 2)])] : List sRf), rfOk [s0, s1, s2] hp q := hH.1
  have g0 : hC hp 176 1 = 2 := by
    have u := rfR0 (xv := (2 : Int)) (c0 := 176) (i0 := 1) (hRf _ (.head _)) (sE_k _ _) (sE_k _ _) (sE_k _ _)
    show hC hp (176) 1 = 2
    omega
  have g1 : s0 = ((rr hp 1 9 : Nat) : Int) := rfR0 (c0 := hC hp 176 1) (hRf _ (.tail _ (.head _))) (by rw [g0]; exact sE_k _ _) (sE_k _ _) (sE_V rfl)
  obtain ⟨i2, e2, l2, h2⟩ := rfI (xv := s2) (iv := s1) (hRf _ (.tail _ (.tail _ (.head _)))) (sEv (sE_V rfl) g1.symm) (sE_V rfl) (sE_V rfl)
  have l2 : i2 < 100 := l2
  have h2 : hI hp (rr hp 1 9) i2 = s2 := h2
  have hFc : ∀ q ∈ ([(105, [(.ofNat 0, [(.ofNat 1, 1)])])] : List sFc), fcOk fFS [s0, s1, s2] hp q := hH.2
  have f0 : ∀ j : Nat, j < 100 → (j : Int) < s1 → hI hp (rr hp 1 9) j = -1 := fcX (ys := [s1]) (hFc _ (.head _)) ⟨sE_V rfl, trivial⟩
  exact poX (.head _) rfl hR (all_nil) (all_nil) (all_cons ⟨[(s1 + 1)], ⟨sEv (y' := ((1 : Int) + ((1 : Int) * s1 + 0))) rfl (by omega), trivial⟩, (show ∀ j : Nat, j < 100 → (j : Int) < (s1 + 1) → hI hp (rr hp 1 9) j = -1 from fl_s f0 h2 (by omega) (by omega) (by omega))⟩ (all_nil))
theorem rl423 : ruOk fFS gR423 := by
  intro r hp hO hN hH
  obtain ⟨s0, s1, rfl⟩ := len2 (show r.length = 2 from hN.1)
  have hR := hN.2.1.1
  have hIv : ∀ q ∈ ([(1, .ofNat 100, .ofNat 100)] : sIv), ∃ x, ([s0, s1] : List Int)[q.1]? = some x ∧ q.2.1 ≤ x ∧ x ≤ q.2.2 := hN.2.1.2
  have b0 : (100 : Int) ≤ s1 ∧ s1 ≤ (100 : Int) := ivX (q := (1, .ofNat 100, .ofNat 100)) (y := s1) (hIv _ (.head _)) rfl
  have hRf : ∀ q ∈ ([((43, .ofNat 176, []), (.ofNat 1, []), 18, .ofNat 2, []), ((2, .ofNat 2, []), (.ofNat 9, []), 21, .ofNat 0, [(.ofNat 1, 0)])] : List sRf), rfOk [s0, s1] hp q := hH.1
  have g0 : hC hp 176 1 = 2 := by
    have u := rfR0 (xv := (2 : Int)) (c0 := 176) (i0 := 1) (hRf _ (.head _)) (sE_k _ _) (sE_k _ _) (sE_k _ _)
    show hC hp (176) 1 = 2
    omega
  have g1 : s0 = ((rr hp 1 9 : Nat) : Int) := rfR0 (c0 := hC hp 176 1) (hRf _ (.tail _ (.head _))) (by rw [g0]; exact sE_k _ _) (sE_k _ _) (sE_V rfl)
  have hFc : ∀ q ∈ ([(105, [(.ofNat 0, [(.ofNat 1, 1)])])] : List sFc), fcOk fFS [s0, s1] hp q := hH.2
  have f0 : ∀ j : Nat, j < 100 → (j : Int) < s1 → hI hp (rr hp 1 9) j = -1 := fcX (ys := [s1]) (hFc _ (.head _)) ⟨sE_V rfl, trivial⟩
  exact poX (.head _) rfl hR (all_nil) (all_nil) (all_cons ⟨[], trivial, (show ∀ j : Nat, j < 100 → hI hp (rr hp 1 9) j = -1 from fun j hj => f0 j hj (by omega))⟩ (all_nil))
theorem rl424 : ruOk fFS gR424 := by
  intro r hp hO hN hH
  obtain ⟨s0, s1, s2, s3, rfl⟩ := len4 (show r.length = 4 from hN.1)
  have hR := hN.2.1.1
  have hIv : ∀ q ∈ ([(0, .negSucc 2147483647, .ofNat 2147483647), (1, .ofNat 0, .ofNat 7), (3, .negSucc 2147483647, .ofNat 2147483647)] : sIv), ∃ x, ([s0, s1, s2, s3] : List Int)[q.1]? = some x ∧ q.2.1 ≤ x ∧ x ≤ q.2.2 := hN.2.1.2
  have b1 : (0 : Int) ≤ s1 ∧ s1 ≤ (7 : Int) := ivX (q := (1, .ofNat 0, .ofNat 7)) (y := s1) (hIv _ (.tail _ (.head _))) rfl
  have hRf : ∀ q ∈ ([((43, .ofNat 176, []), (.ofNat 1, []), 18, .ofNat 2, []), ((2, .ofNat 2, []), (.ofNat 16, []), 28, .ofNat 0, [(.ofNat 1, 2)]), ((12, .ofNat 0, [(.ofNat 1, 2)]), (.ofNat 0, [(.ofNat 1, 1)]), 1, .ofNat 0, [(.ofNat 1, 3)])] : List sRf), rfOk [s0, s1, s2, s3] hp q := hH.1
  have g0 : hC hp 176 1 = 2 := by
    have u := rfR0 (xv := (2 : Int)) (c0 := 176) (i0 := 1) (hRf _ (.head _)) (sE_k _ _) (sE_k _ _) (sE_k _ _)
    show hC hp (176) 1 = 2
    omega
  have g1 : s2 = ((rr hp 1 16 : Nat) : Int) := rfR0 (c0 := hC hp 176 1) (hRf _ (.tail _ (.head _))) (by rw [g0]; exact sE_k _ _) (sE_k _ _) (sE_V rfl)
  obtain ⟨i2, e2, l2, h2⟩ := rfI (xv := s3) (iv := s1) (hRf _ (.tail _ (.tail _ (.head _)))) (sEv (sE_V rfl) g1.symm) (sE_V rfl) (sE_V rfl)
  have l2 : i2 < 8 := l2
  have h2 : hI hp (rr hp 1 16) i2 = s3 := h2
  have y : (((1 : Int) + ((-1 : Int) * s0 + ((1 : Int) * s3 + 0))) ≤ 0) ∨ (((0 : Int) + ((-1 : Int) * s0 + ((1 : Int) * s3 + 0))) ≤ 0 ∧ ((0 : Int) + ((1 : Int) * s0 + ((-1 : Int) * s3 + 0))) ≤ 0) ∨ (((1 : Int) + ((1 : Int) * s0 + ((-1 : Int) * s3 + 0))) ≤ 0) := by omega
  rcases y with y | y | y
  · exact poX (.head _) rfl hR (all_nil) (all_cons ⟨((1 : Int) + ((-1 : Int) * s0 + ((1 : Int) * s3 + 0))), rfl, (show ((1 : Int) + ((-1 : Int) * s0 + ((1 : Int) * s3 + 0))) ≤ 0 by omega)⟩ (all_nil)) (all_nil)
  · exact poX (.tail _ (.head _)) rfl hR (all_nil) (all_cons ⟨((0 : Int) + ((-1 : Int) * s0 + ((1 : Int) * s3 + 0))), rfl, (show ((0 : Int) + ((-1 : Int) * s0 + ((1 : Int) * s3 + 0))) ≤ 0 by omega)⟩ (all_cons ⟨((0 : Int) + ((1 : Int) * s0 + ((-1 : Int) * s3 + 0))), rfl, (show ((0 : Int) + ((1 : Int) * s0 + ((-1 : Int) * s3 + 0))) ≤ 0 by omega)⟩ (all_nil))) (all_nil)
  · exact poX (.tail _ (.tail _ (.head _))) rfl hR (all_nil) (all_cons ⟨((1 : Int) + ((1 : Int) * s0 + ((-1 : Int) * s3 + 0))), rfl, (show ((1 : Int) + ((1 : Int) * s0 + ((-1 : Int) * s3 + 0))) ≤ 0 by omega)⟩ (all_nil)) (all_nil)
theorem rl425 : ruOk fFS gR425 := by
  intro r hp hO hN hH
  obtain ⟨s0, s1, s2, s3, rfl⟩ := len4 (show r.length = 4 from hN.1)
  have hR := hN.2.1.1
  have hIv : ∀ q ∈ ([(0, .negSucc 2147483647, .ofNat 2147483647), (1, .ofNat 0, .ofNat 7), (3, .negSucc 2147483647, .ofNat 2147483647)] : sIv), ∃ x, ([s0, s1, s2, s3] : List Int)[q.1]? = some x ∧ q.2.1 ≤ x ∧ x ≤ q.2.2 := hN.2.1.2
  have b1 : (0 : Int) ≤ s1 ∧ s1 ≤ (7 : Int) := ivX (q := (1, .ofNat 0, .ofNat 7)) (y := s1) (hIv _ (.tail _ (.head _))) rfl
  have hRf : ∀ q ∈ ([((43, .ofNat 176, []), (.ofNat 1, []), 18, .ofNat 2, []), ((2, .ofNat 2, []), (.ofNat 17, []), 29, .ofNat 0, [(.ofNat 1, 2)]), ((13, .ofNat 0, [(.ofNat 1, 2)]), (.ofNat 0, [(.ofNat 1, 1)]), 1, .ofNat 0, [(.ofNat 1, 3)])] : List sRf), rfOk [s0, s1, s2, s3] hp q := hH.1
  have g0 : hC hp 176 1 = 2 := by
    have u := rfR0 (xv := (2 : Int)) (c0 := 176) (i0 := 1) (hRf _ (.head _)) (sE_k _ _) (sE_k _ _) (sE_k _ _)
    show hC hp (176) 1 = 2
    omega
  have g1 : s2 = ((rr hp 1 17 : Nat) : Int) := rfR0 (c0 := hC hp 176 1) (hRf _ (.tail _ (.head _))) (by rw [g0]; exact sE_k _ _) (sE_k _ _) (sE_V rfl)
  obtain ⟨i2, e2, l2, h2⟩ := rfI (xv := s3) (iv := s1) (hRf _ (.tail _ (.tail _ (.head _)))) (sEv (sE_V rfl) g1.symm) (sE_V rfl) (sE_V rfl)
  have l2 : i2 < 8 := l2
  have h2 : hI hp (rr hp 1 17) i2 = s3 := h2
  have y : (((1 : Int) + ((-1 : Int) * s0 + ((1 : Int) * s3 + 0))) ≤ 0) ∨ (((0 : Int) + ((-1 : Int) * s0 + ((1 : Int) * s3 + 0))) ≤ 0 ∧ ((0 : Int) + ((1 : Int) * s0 + ((-1 : Int) * s3 + 0))) ≤ 0) ∨ (((1 : Int) + ((1 : Int) * s0 + ((-1 : Int) * s3 + 0))) ≤ 0) := by omega
  rcases y with y | y | y
  · exact poX (.head _) rfl hR (all_nil) (all_cons ⟨((1 : Int) + ((-1 : Int) * s0 + ((1 : Int) * s3 + 0))), rfl, (show ((1 : Int) + ((-1 : Int) * s0 + ((1 : Int) * s3 + 0))) ≤ 0 by omega)⟩ (all_nil)) (all_nil)
  · exact poX (.tail _ (.head _)) rfl hR (all_nil) (all_cons ⟨((0 : Int) + ((-1 : Int) * s0 + ((1 : Int) * s3 + 0))), rfl, (show ((0 : Int) + ((-1 : Int) * s0 + ((1 : Int) * s3 + 0))) ≤ 0 by omega)⟩ (all_cons ⟨((0 : Int) + ((1 : Int) * s0 + ((-1 : Int) * s3 + 0))), rfl, (show ((0 : Int) + ((1 : Int) * s0 + ((-1 : Int) * s3 + 0))) ≤ 0 by omega)⟩ (all_nil))) (all_nil)
  · exact poX (.tail _ (.tail _ (.head _))) rfl hR (all_nil) (all_cons ⟨((1 : Int) + ((1 : Int) * s0 + ((-1 : Int) * s3 + 0))), rfl, (show ((1 : Int) + ((1 : Int) * s0 + ((-1 : Int) * s3 + 0))) ≤ 0 by omega)⟩ (all_nil)) (all_nil)
theorem rl426 : ruOk fFS gR426 := by
  intro r hp hO hN hH
  obtain ⟨s0, s1, s2, s3, s4, s5, s6, s7, s8, rfl⟩ := len9 (show r.length = 9 from hN.1)
  have hR := hN.2.1.1
  have hIv : ∀ q ∈ ([(0, .negSucc 2147483647, .ofNat 2147483647), (1, .negSucc 2147483647, .ofNat 2147483647), (2, .ofNat 0, .ofNat 7), (5, .negSucc 2147483647, .ofNat 2147483647), (6, .negSucc 2147483647, .ofNat 2147483647), (7, .negSucc 2147483647, .ofNat 2147483647), (8, .negSucc 2147483647, .ofNat 2147483647)] : sIv), ∃ x, ([s0, s1, s2, s3, s4, s5, s6, s7, s8] : List Int)[q.1]? = some x ∧ q.2.1 ≤ x ∧ x ≤ q.2.2 := hN.2.1.2
  have b2 : (0 : Int) ≤ s2 ∧ s2 ≤ (7 : Int) := ivX (q := (2, .ofNat 0, .ofNat 7)) (y := s2) (hIv _ (.tail _ (.tail _ (.head _)))) rfl
  have hCs : ∀ c ∈ ([(.ofNat 1, [(.negSucc 0, 0), (.ofNat 1, 5)])] : List sLn), ∃ x, sE [s0, s1, s2, s3, s4, s5, s6, s7, s8] c = some x ∧ x ≤ 0 := hN.2.2.1
  have c0 : ((1 : Int) + ((-1 : Int) * s0 + ((1 : Int) * s5 + 0))) ≤ 0 := csX (hCs _ (.head _)) rfl
  have hRf : ∀ q ∈ ([((43, .ofNat 176, []), (.ofNat 1, []), 18, .ofNat 2, []), ((2, .ofNat 2, []), (.ofNat 16, []), 28, .ofNat 0, [(.ofNat 1, 3)]), ((2, .ofNat 2, []), (.ofNat 17, []), 29, .ofNat 0, [(.ofNat 1, 4)]), ((12, .ofNat 0, [(.ofNat 1, 3)]), (.ofNat 0, [(.ofNat 1, 2)]), 1, .ofNat 0, [(.ofNat 1, 5)]), ((13, .ofNat 0, [(.ofNat 1, 4)]), (.ofNat 0, [(.ofNat 1, 2)]), 1, .ofNat 0, [(.ofNat 1, 6)]), ((2, .ofNat 2, []), (.ofNat 5, []), 1, .ofNat 0, [(.ofNat 1, 7)])] : List sRf), rfOk [s0, s1, s2, s3, s4, s5, s6, s7, s8] hp q := hH.1
  have g0 : hC hp 176 1 = 2 := by
    have u := rfR0 (xv := (2 : Int)) (c0 := 176) (i0 := 1) (hRf _ (.head _)) (sE_k _ _) (sE_k _ _) (sE_k _ _)
    show hC hp (176) 1 = 2
    omega
  have g1 : s3 = ((rr hp 1 16 : Nat) : Int) := rfR0 (c0 := hC hp 176 1) (hRf _ (.tail _ (.head _))) (by rw [g0]; exact sE_k _ _) (sE_k _ _) (sE_V rfl)
  have g2 : s4 = ((rr hp 1 17 : Nat) : Int) := rfR0 (c0 := hC hp 176 1) (hRf _ (.tail _ (.tail _ (.head _)))) (by rw [g0]; exact sE_k _ _) (sE_k _ _) (sE_V rfl)
  obtain ⟨i3, e3, l3, h3⟩ := rfI (xv := s5) (iv := s2) (hRf _ (.tail _ (.tail _ (.tail _ (.head _))))) (sEv (sE_V rfl) g1.symm) (sE_V rfl) (sE_V rfl)
  have l3 : i3 < 8 := l3
  have h3 : hI hp (rr hp 1 16) i3 = s5 := h3
  obtain ⟨i4, e4, l4, h4⟩ := rfI (xv := s6) (iv := s2) (hRf _ (.tail _ (.tail _ (.tail _ (.tail _ (.head _)))))) (sEv (sE_V rfl) g2.symm) (sE_V rfl) (sE_V rfl)
  have l4 : i4 < 8 := l4
  have h4 : hI hp (rr hp 1 17) i4 = s6 := h4
  have h5 : hI hp (hC hp 176 1) 5 = s7 := rfI0 (c0 := hC hp 176 1) (hRf _ (.tail _ (.tail _ (.tail _ (.tail _ (.tail _ (.head _))))))) (by rw [g0]; exact sE_k _ _) (sE_k _ _) (sE_V rfl)
  have hFc : ∀ q ∈ ([(95, [(.ofNat 0, [(.ofNat 1, 2)]), (.ofNat 0, [(.ofNat 1, 8)]), (.ofNat 0, [(.ofNat 1, 0)]), (.ofNat 0, [(.ofNat 1, 1)])])] : List sFc), fcOk fFS [s0, s1, s2, s3, s4, s5, s6, s7, s8] hp q := hH.2
  have f0 : ∀ i : Nat, i < 8 → (i : Int) < s2 → ¬ (hI hp (rr hp 1 16) i = s0 ∧ hI hp (rr hp 1 17) i = s1) := fcX (ys := [s2, s8, s0, s1]) (hFc _ (.head _)) ⟨sE_V rfl, sE_V rfl, sE_V rfl, sE_V rfl, trivial⟩
  exact poX (.head _) rfl hR (all_nil) (all_nil) (all_cons ⟨[(s2 + 1), s8, s0, s1], ⟨sEv (y' := ((1 : Int) + ((1 : Int) * s2 + 0))) rfl (by omega), sE_V rfl, sE_V rfl, sE_V rfl, trivial⟩, (show ∀ i : Nat, i < 8 → (i : Int) < (s2 + 1) → ¬ (hI hp (rr hp 1 16) i = s0 ∧ hI hp (rr hp 1 17) i = s1) from nn_s f0 h3 h4 (by omega) (by omega) (by omega) (by omega))⟩ (all_nil))
theorem rl427 : ruOk fFS gR427 := by
  intro r hp hO hN hH
  obtain ⟨s0, s1, s2, s3, s4, s5, s6, s7, s8, rfl⟩ := len9 (show r.length = 9 from hN.1)
  have hR := hN.2.1.1
  have hIv : ∀ q ∈ ([(0, .negSucc 2147483647, .ofNat 2147483647), (1, .negSucc 2147483647, .ofNat 2147483647), (2, .ofNat 0, .ofNat 7), (5, .negSucc 2147483647, .ofNat 2147483647), (6, .negSucc 2147483647, .ofNat 2147483647), (7, .negSucc 2147483647, .ofNat 2147483647), (8, .negSucc 2147483647, .ofNat 2147483647)] : sIv), ∃ x, ([s0, s1, s2, s3, s4, s5, s6, s7, s8] : List Int)[q.1]? = some x ∧ q.2.1 ≤ x ∧ x ≤ q.2.2 := hN.2.1.2
  have b2 : (0 : Int) ≤ s2 ∧ s2 ≤ (7 : Int) := ivX (q := (2, .ofNat 0, .ofNat 7)) (y := s2) (hIv _ (.tail _ (.tail _ (.head _)))) rfl
  have hCs : ∀ c ∈ ([(.ofNat 1, [(.ofNat 1, 0), (.negSucc 0, 5)])] : List sLn), ∃ x, sE [s0, s1, s2, s3, s4, s5, s6, s7, s8] c = some x ∧ x ≤ 0 := hN.2.2.1
  have c0 : ((1 : Int) + ((1 : Int) * s0 + ((-1 : Int) * s5 + 0))) ≤ 0 := csX (hCs _ (.head _)) rfl
  have hRf : ∀ q ∈ ([((43, .ofNat 176, []), (.ofNat 1, []), 18, .ofNat 2, []), ((2, .ofNat 2, []), (.ofNat 16, []), 28, .ofNat 0, [(.ofNat 1, 3)]), ((2, .ofNat 2, []), (.ofNat 17, []), 29, .ofNat 0, [(.ofNat 1, 4)]), ((12, .ofNat 0, [(.ofNat 1, 3)]), (.ofNat 0, [(.ofNat 1, 2)]), 1, .ofNat 0, [(.ofNat 1, 5)]), ((13, .ofNat 0, [(.ofNat 1, 4)]), (.ofNat 0, [(.ofNat 1, 2)]), 1, .ofNat 0, [(.ofNat 1, 6)]), ((2, .ofNat 2, []), (.ofNat 5, []), 1, .ofNat 0, [(.ofNat 1, 7)])] : List sRf), rfOk [s0, s1, s2, s3, s4, s5, s6, s7, s8] hp q := hH.1
  have g0 : hC hp 176 1 = 2 := by
    have u := rfR0 (xv := (2 : Int)) (c0 := 176) (i0 := 1) (hRf _ (.head _)) (sE_k _ _) (sE_k _ _) (sE_k _ _)
    show hC hp (176) 1 = 2
    omega
  have g1 : s3 = ((rr hp 1 16 : Nat) : Int) := rfR0 (c0 := hC hp 176 1) (hRf _ (.tail _ (.head _))) (by rw [g0]; exact sE_k _ _) (sE_k _ _) (sE_V rfl)
  have g2 : s4 = ((rr hp 1 17 : Nat) : Int) := rfR0 (c0 := hC hp 176 1) (hRf _ (.tail _ (.tail _ (.head _)))) (by rw [g0]; exact sE_k _ _) (sE_k _ _) (sE_V rfl)
  obtain ⟨i3, e3, l3, h3⟩ := rfI (xv := s5) (iv := s2) (hRf _ (.tail _ (.tail _ (.tail _ (.head _))))) (sEv (sE_V rfl) g1.symm) (sE_V rfl) (sE_V rfl)
  have l3 : i3 < 8 := l3
  have h3 : hI hp (rr hp 1 16) i3 = s5 := h3
  obtain ⟨i4, e4, l4, h4⟩ := rfI (xv := s6) (iv := s2) (hRf _ (.tail _ (.tail _ (.tail _ (.tail _ (.head _)))))) (sEv (sE_V rfl) g2.symm) (sE_V rfl) (sE_V rfl)
  have l4 : i4 < 8 := l4
  have h4 : hI hp (rr hp 1 17) i4 = s6 := h4
  have h5 : hI hp (hC hp 176 1) 5 = s7 := rfI0 (c0 := hC hp 176 1) (hRf _ (.tail _ (.tail _ (.tail _ (.tail _ (.tail _ (.head _))))))) (by rw [g0]; exact sE_k _ _) (sE_k _ _) (sE_V rfl)
  have hFc : ∀ q ∈ ([(95, [(.ofNat 0, [(.ofNat 1, 2)]), (.ofNat 0, [(.ofNat 1, 8)]), (.ofNat 0, [(.ofNat 1, 0)]), (.ofNat 0, [(.ofNat 1, 1)])])] : List sFc), fcOk fFS [s0, s1, s2, s3, s4, s5, s6, s7, s8] hp q := hH.2
  have f0 : ∀ i : Nat, i < 8 → (i : Int) < s2 → ¬ (hI hp (rr hp 1 16) i = s0 ∧ hI hp (rr hp 1 17) i = s1) := fcX (ys := [s2, s8, s0, s1]) (hFc _ (.head _)) ⟨sE_V rfl, sE_V rfl, sE_V rfl, sE_V rfl, trivial⟩
  exact poX (.head _) rfl hR (all_nil) (all_nil) (all_cons ⟨[(s2 + 1), s8, s0, s1], ⟨sEv (y' := ((1 : Int) + ((1 : Int) * s2 + 0))) rfl (by omega), sE_V rfl, sE_V rfl, sE_V rfl, trivial⟩, (show ∀ i : Nat, i < 8 → (i : Int) < (s2 + 1) → ¬ (hI hp (rr hp 1 16) i = s0 ∧ hI hp (rr hp 1 17) i = s1) from nn_s f0 h3 h4 (by omega) (by omega) (by omega) (by omega))⟩ (all_nil))
theorem rl428 : ruOk fFS gR428 := by
  intro r hp hO hN hH
  obtain ⟨s0, s1, s2, s3, s4, s5, s6, s7, s8, rfl⟩ := len9 (show r.length = 9 from hN.1)
  have hR := hN.2.1.1
  have hIv : ∀ q ∈ ([(0, .negSucc 2147483647, .ofNat 2147483647), (1, .negSucc 2147483647, .ofNat 2147483647), (2, .ofNat 0, .ofNat 7), (5, .negSucc 2147483647, .ofNat 2147483647), (6, .negSucc 2147483647, .ofNat 2147483647), (7, .negSucc 2147483647, .ofNat 2147483647), (8, .negSucc 2147483647, .ofNat 2147483647)] : sIv), ∃ x, ([s0, s1, s2, s3, s4, s5, s6, s7, s8] : List Int)[q.1]? = some x ∧ q.2.1 ≤ x ∧ x ≤ q.2.2 := hN.2.1.2
  have b2 : (0 : Int) ≤ s2 ∧ s2 ≤ (7 : Int) := ivX (q := (2, .ofNat 0, .ofNat 7)) (y := s2) (hIv _ (.tail _ (.tail _ (.head _)))) rfl
  have hCs : ∀ c ∈ ([(.ofNat 1, [(.negSucc 0, 1), (.ofNat 1, 6)])] : List sLn), ∃ x, sE [s0, s1, s2, s3, s4, s5, s6, s7, s8] c = some x ∧ x ≤ 0 := hN.2.2.1
  have c0 : ((1 : Int) + ((-1 : Int) * s1 + ((1 : Int) * s6 + 0))) ≤ 0 := csX (hCs _ (.head _)) rfl
  have hRf : ∀ q ∈ ([((43, .ofNat 176, []), (.ofNat 1, []), 18, .ofNat 2, []), ((2, .ofNat 2, []), (.ofNat 16, []), 28, .ofNat 0, [(.ofNat 1, 3)]), ((2, .ofNat 2, []), (.ofNat 17, []), 29, .ofNat 0, [(.ofNat 1, 4)]), ((12, .ofNat 0, [(.ofNat 1, 3)]), (.ofNat 0, [(.ofNat 1, 2)]), 1, .ofNat 0, [(.ofNat 1, 5)]), ((13, .ofNat 0, [(.ofNat 1, 4)]), (.ofNat 0, [(.ofNat 1, 2)]), 1, .ofNat 0, [(.ofNat 1, 6)]), ((2, .ofNat 2, []), (.ofNat 5, []), 1, .ofNat 0, [(.ofNat 1, 7)])] : List sRf), rfOk [s0, s1, s2, s3, s4, s5, s6, s7, s8] hp q := hH.1
  have g0 : hC hp 176 1 = 2 := by
    have u := rfR0 (xv := (2 : Int)) (c0 := 176) (i0 := 1) (hRf _ (.head _)) (sE_k _ _) (sE_k _ _) (sE_k _ _)
    show hC hp (176) 1 = 2
    omega
  have g1 : s3 = ((rr hp 1 16 : Nat) : Int) := rfR0 (c0 := hC hp 176 1) (hRf _ (.tail _ (.head _))) (by rw [g0]; exact sE_k _ _) (sE_k _ _) (sE_V rfl)
  have g2 : s4 = ((rr hp 1 17 : Nat) : Int) := rfR0 (c0 := hC hp 176 1) (hRf _ (.tail _ (.tail _ (.head _)))) (by rw [g0]; exact sE_k _ _) (sE_k _ _) (sE_V rfl)
  obtain ⟨i3, e3, l3, h3⟩ := rfI (xv := s5) (iv := s2) (hRf _ (.tail _ (.tail _ (.tail _ (.head _))))) (sEv (sE_V rfl) g1.symm) (sE_V rfl) (sE_V rfl)
  have l3 : i3 < 8 := l3
  have h3 : hI hp (rr hp 1 16) i3 = s5 := h3
  obtain ⟨i4, e4, l4, h4⟩ := rfI (xv := s6) (iv := s2) (hRf _ (.tail _ (.tail _ (.tail _ (.tail _ (.head _)))))) (sEv (sE_V rfl) g2.symm) (sE_V rfl) (sE_V rfl)
  have l4 : i4 < 8 := l4
  have h4 : hI hp (rr hp 1 17) i4 = s6 := h4
  have h5 : hI hp (hC hp 176 1) 5 = s7 := rfI0 (c0 := hC hp 176 1) (hRf _ (.tail _ (.tail _ (.tail _ (.tail _ (.tail _ (.head _))))))) (by rw [g0]; exact sE_k _ _) (sE_k _ _) (sE_V rfl)
  have hFc : ∀ q ∈ ([(95, [(.ofNat 0, [(.ofNat 1, 2)]), (.ofNat 0, [(.ofNat 1, 8)]), (.ofNat 0, [(.ofNat 1, 0)]), (.ofNat 0, [(.ofNat 1, 1)])])] : List sFc), fcOk fFS [s0, s1, s2, s3, s4, s5, s6, s7, s8] hp q := hH.2
  have f0 : ∀ i : Nat, i < 8 → (i : Int) < s2 → ¬ (hI hp (rr hp 1 16) i = s0 ∧ hI hp (rr hp 1 17) i = s1) := fcX (ys := [s2, s8, s0, s1]) (hFc _ (.head _)) ⟨sE_V rfl, sE_V rfl, sE_V rfl, sE_V rfl, trivial⟩
  exact poX (.head _) rfl hR (all_nil) (all_nil) (all_cons ⟨[(s2 + 1), s8, s0, s1], ⟨sEv (y' := ((1 : Int) + ((1 : Int) * s2 + 0))) rfl (by omega), sE_V rfl, sE_V rfl, sE_V rfl, trivial⟩, (show ∀ i : Nat, i < 8 → (i : Int) < (s2 + 1) → ¬ (hI hp (rr hp 1 16) i = s0 ∧ hI hp (rr hp 1 17) i = s1) from nn_s f0 h3 h4 (by omega) (by omega) (by omega) (by omega))⟩ (all_nil))
theorem rl429 : ruOk fFS gR429 := by
  intro r hp hO hN hH
  obtain ⟨s0, s1, s2, s3, s4, s5, s6, s7, s8, rfl⟩ := len9 (show r.length = 9 from hN.1)
  have hR := hN.2.1.1
  have hIv : ∀ q ∈ ([(0, .negSucc 2147483647, .ofNat 2147483647), (1, .negSucc 2147483647, .ofNat 2147483647), (2, .ofNat 0, .ofNat 7), (5, .negSucc 2147483647, .ofNat 2147483647), (6, .negSucc 2147483647, .ofNat 2147483647), (7, .negSucc 2147483647, .ofNat 2147483647), (8, .negSucc 2147483647, .ofNat 2147483647)] : sIv), ∃ x, ([s0, s1, s2, s3, s4, s5, s6, s7, s8] : List Int)[q.1]? = some x ∧ q.2.1 ≤ x ∧ x ≤ q.2.2 := hN.2.1.2
  have b2 : (0 : Int) ≤ s2 ∧ s2 ≤ (7 : Int) := ivX (q := (2, .ofNat 0, .ofNat 7)) (y := s2) (hIv _ (.tail _ (.tail _ (.head _)))) rfl
  have hCs : ∀ c ∈ ([(.ofNat 1, [(.ofNat 1, 1), (.negSucc 0, 6)])] : List sLn), ∃ x, sE [s0, s1, s2, s3, s4, s5, s6, s7, s8] c = some x ∧ x ≤ 0 := hN.2.2.1
  have c0 : ((1 : Int) + ((1 : Int) * s1 + ((-1 : Int) * s6 + 0))) ≤ 0 := csX (hCs _ (.head _)) rfl
  have hRf : ∀ q ∈ ([((43, .ofNat 176, []), (.ofNat 1, []), 18, .ofNat 2, []), ((2, .ofNat 2, []), (.ofNat 16, []), 28, .ofNat 0, [(.ofNat 1, 3)]), ((2, .ofNat 2, []), (.ofNat 17, []), 29, .ofNat 0, [(.ofNat 1, 4)]), ((12, .ofNat 0, [(.ofNat 1, 3)]), (.ofNat 0, [(.ofNat 1, 2)]), 1, .ofNat 0, [(.ofNat 1, 5)]), ((13, .ofNat 0, [(.ofNat 1, 4)]), (.ofNat 0, [(.ofNat 1, 2)]), 1, .ofNat 0, [(.ofNat 1, 6)]), ((2, .ofNat 2, []), (.ofNat 5, []), 1, .ofNat 0, [(.ofNat 1, 7)])] : List sRf), rfOk [s0, s1, s2, s3, s4, s5, s6, s7, s8] hp q := hH.1
  have g0 : hC hp 176 1 = 2 := by
    have u := rfR0 (xv := (2 : Int)) (c0 := 176) (i0 := 1) (hRf _ (.head _)) (sE_k _ _) (sE_k _ _) (sE_k _ _)
    show hC hp (176) 1 = 2
    omega
  have g1 : s3 = ((rr hp 1 16 : Nat) : Int) := rfR0 (c0 := hC hp 176 1) (hRf _ (.tail _ (.head _))) (by rw [g0]; exact sE_k _ _) (sE_k _ _) (sE_V rfl)
  have g2 : s4 = ((rr hp 1 17 : Nat) : Int) := rfR0 (c0 := hC hp 176 1) (hRf _ (.tail _ (.tail _ (.head _)))) (by rw [g0]; exact sE_k _ _) (sE_k _ _) (sE_V rfl)
  obtain ⟨i3, e3, l3, h3⟩ := rfI (xv := s5) (iv := s2) (hRf _ (.tail _ (.tail _ (.tail _ (.head _))))) (sEv (sE_V rfl) g1.symm) (sE_V rfl) (sE_V rfl)
  have l3 : i3 < 8 := l3
  have h3 : hI hp (rr hp 1 16) i3 = s5 := h3
  obtain ⟨i4, e4, l4, h4⟩ := rfI (xv := s6) (iv := s2) (hRf _ (.tail _ (.tail _ (.tail _ (.tail _ (.head _)))))) (sEv (sE_V rfl) g2.symm) (sE_V rfl) (sE_V rfl)
  have l4 : i4 < 8 := l4
  have h4 : hI hp (rr hp 1 17) i4 = s6 := h4
  have h5 : hI hp (hC hp 176 1) 5 = s7 := rfI0 (c0 := hC hp 176 1) (hRf _ (.tail _ (.tail _ (.tail _ (.tail _ (.tail _ (.head _))))))) (by rw [g0]; exact sE_k _ _) (sE_k _ _) (sE_V rfl)
  have hFc : ∀ q ∈ ([(95, [(.ofNat 0, [(.ofNat 1, 2)]), (.ofNat 0, [(.ofNat 1, 8)]), (.ofNat 0, [(.ofNat 1, 0)]), (.ofNat 0, [(.ofNat 1, 1)])])] : List sFc), fcOk fFS [s0, s1, s2, s3, s4, s5, s6, s7, s8] hp q := hH.2
  have f0 : ∀ i : Nat, i < 8 → (i : Int) < s2 → ¬ (hI hp (rr hp 1 16) i = s0 ∧ hI hp (rr hp 1 17) i = s1) := fcX (ys := [s2, s8, s0, s1]) (hFc _ (.head _)) ⟨sE_V rfl, sE_V rfl, sE_V rfl, sE_V rfl, trivial⟩
  exact poX (.head _) rfl hR (all_nil) (all_nil) (all_cons ⟨[(s2 + 1), s8, s0, s1], ⟨sEv (y' := ((1 : Int) + ((1 : Int) * s2 + 0))) rfl (by omega), sE_V rfl, sE_V rfl, sE_V rfl, trivial⟩, (show ∀ i : Nat, i < 8 → (i : Int) < (s2 + 1) → ¬ (hI hp (rr hp 1 16) i = s0 ∧ hI hp (rr hp 1 17) i = s1) from nn_s f0 h3 h4 (by omega) (by omega) (by omega) (by omega))⟩ (all_nil))
theorem rl430 : ruOk fFS gR430 := by
  intro r hp hO hN hH
  obtain ⟨s0, s1, s2, s3, s4, s5, s6, s7, s8, rfl⟩ := len9 (show r.length = 9 from hN.1)
  have hR := hN.2.1.1
  have hIv : ∀ q ∈ ([(0, .negSucc 2147483647, .ofNat 2147483647), (1, .negSucc 2147483647, .ofNat 2147483647), (2, .ofNat 0, .ofNat 7), (5, .negSucc 2147483647, .ofNat 2147483647), (6, .negSucc 2147483647, .ofNat 2147483647), (7, .negSucc 2147483647, .ofNat 2147483647), (8, .negSucc 2147483647, .ofNat 2147483647)] : sIv), ∃ x, ([s0, s1, s2, s3, s4, s5, s6, s7, s8] : List Int)[q.1]? = some x ∧ q.2.1 ≤ x ∧ x ≤ q.2.2 := hN.2.1.2
  have b2 : (0 : Int) ≤ s2 ∧ s2 ≤ (7 : Int) := ivX (q := (2, .ofNat 0, .ofNat 7)) (y := s2) (hIv _ (.tail _ (.tail _ (.head _)))) rfl
  have hCs : ∀ c ∈ ([(.ofNat 1, [(.ofNat 1, 2), (.negSucc 0, 7)]), (.ofNat 0, [(.negSucc 0, 0), (.ofNat 1, 5)]), (.ofNat 0, [(.ofNat 1, 0), (.negSucc 0, 5)]), (.ofNat 0, [(.negSucc 0, 1), (.ofNat 1, 6)]), (.ofNat 0, [(.ofNat 1, 1), (.negSucc 0, 6)])] : List sLn), ∃ x, sE [s0, s1, s2, s3, s4, s5, s6, s7, s8] c = some x ∧ x ≤ 0 := hN.2.2.1
  have c0 : ((1 : Int) + ((1 : Int) * s2 + ((-1 : Int) * s7 + 0))) ≤ 0 := csX (hCs _ (.head _)) rfl
  have c1 : ((0 : Int) + ((-1 : Int) * s0 + ((1 : Int) * s5 + 0))) ≤ 0 := csX (hCs _ (.tail _ (.head _))) rfl
  have c2 : ((0 : Int) + ((1 : Int) * s0 + ((-1 : Int) * s5 + 0))) ≤ 0 := csX (hCs _ (.tail _ (.tail _ (.head _)))) rfl
  have c3 : ((0 : Int) + ((-1 : Int) * s1 + ((1 : Int) * s6 + 0))) ≤ 0 := csX (hCs _ (.tail _ (.tail _ (.tail _ (.head _))))) rfl
  have c4 : ((0 : Int) + ((1 : Int) * s1 + ((-1 : Int) * s6 + 0))) ≤ 0 := csX (hCs _ (.tail _ (.tail _ (.tail _ (.tail _ (.head _)))))) rfl
  have hRf : ∀ q ∈ ([((43, .ofNat 176, []), (.ofNat 1, []), 18, .ofNat 2, []), ((2, .ofNat 2, []), (.ofNat 16, []), 28, .ofNat 0, [(.ofNat 1, 3)]), ((2, .ofNat 2, []), (.ofNat 17, []), 29, .ofNat 0, [(.ofNat 1, 4)]), ((12, .ofNat 0, [(.ofNat 1, 3)]), (.ofNat 0, [(.ofNat 1, 2)]), 1, .ofNat 0, [(.ofNat 1, 5)]), ((13, .ofNat 0, [(.ofNat 1, 4)]), (.ofNat 0, [(.ofNat 1, 2)]), 1, .ofNat 0, [(.ofNat 1, 6)]), ((2, .ofNat 2, []), (.ofNat 5, []), 1, .ofNat 0, [(.ofNat 1, 7)])] : List sRf), rfOk [s0, s1, s2, s3, s4, s5, s6, s7, s8] hp q := hH.1
  have g0 : hC hp 176 1 = 2 := by
    have u := rfR0 (xv := (2 : Int)) (c0 := 176) (i0 := 1) (hRf _ (.head _)) (sE_k _ _) (sE_k _ _) (sE_k _ _)
    show hC hp (176) 1 = 2
    omega
  have g1 : s3 = ((rr hp 1 16 : Nat) : Int) := rfR0 (c0 := hC hp 176 1) (hRf _ (.tail _ (.head _))) (by rw [g0]; exact sE_k _ _) (sE_k _ _) (sE_V rfl)
  have g2 : s4 = ((rr hp 1 17 : Nat) : Int) := rfR0 (c0 := hC hp 176 1) (hRf _ (.tail _ (.tail _ (.head _)))) (by rw [g0]; exact sE_k _ _) (sE_k _ _) (sE_V rfl)
  obtain ⟨i3, e3, l3, h3⟩ := rfI (xv := s5) (iv := s2) (hRf _ (.tail _ (.tail _ (.tail _ (.head _))))) (sEv (sE_V rfl) g1.symm) (sE_V rfl) (sE_V rfl)
  have l3 : i3 < 8 := l3
  have h3 : hI hp (rr hp 1 16) i3 = s5 := h3
  obtain ⟨i4, e4, l4, h4⟩ := rfI (xv := s6) (iv := s2) (hRf _ (.tail _ (.tail _ (.tail _ (.tail _ (.head _)))))) (sEv (sE_V rfl) g2.symm) (sE_V rfl) (sE_V rfl)
  have l4 : i4 < 8 := l4
  have h4 : hI hp (rr hp 1 17) i4 = s6 := h4
  have h5 : hI hp (hC hp 176 1) 5 = s7 := rfI0 (c0 := hC hp 176 1) (hRf _ (.tail _ (.tail _ (.tail _ (.tail _ (.tail _ (.head _))))))) (by rw [g0]; exact sE_k _ _) (sE_k _ _) (sE_V rfl)
  have hFc : ∀ q ∈ ([(75, [(.ofNat 0, [(.ofNat 1, 7)]), (.ofNat 0, [(.ofNat 1, 8)])])] : List sFc), fcOk fFS [s0, s1, s2, s3, s4, s5, s6, s7, s8] hp q := hH.2
  have f0 : dF (XT hp) s8 (fun D => s7 = (dWi D).length ∧ ∀ i : Nat, i < 8 → (i : Int) < s7 → (dWi D)[i]? = some (hI hp (rr hp 1 16) i, hI hp (rr hp 1 17) i)) := fcX (ys := [s7, s8]) (hFc _ (.head _)) ⟨sE_V rfl, sE_V rfl, trivial⟩
  exact poX (.head _) rfl hR (all_nil) (all_nil) (all_cons ⟨[s8, s0, s1, 1], ⟨sE_V rfl, sE_V rfl, sE_V rfl, sE_k _ _, trivial⟩, (show dF (XT hp) s8 (fun D => bP (1 : Int) ((s0, s1) ∈ dWi D)) from dF_mp f0 (fun D h => bP_i1 (lst_mem h (by rw [h3]; omega) (by rw [h4]; omega) (by omega) (by omega) (by omega)) rfl))⟩ (all_nil))
theorem rl431 : ruOk fFS gR431 := by
  intro r hp hO hN hH
  obtain ⟨s0, s1, s2, s3, s4, rfl⟩ := len5 (show r.length = 5 from hN.1)
  have hR := hN.2.1.1
  have hIv : ∀ q ∈ ([(0, .negSucc 2147483647, .ofNat 2147483647), (1, .negSucc 2147483647, .ofNat 2147483647), (2, .negSucc 2147483647, .ofNat 2147483647), (3, .negSucc 2147483647, .ofNat 2147483647), (4, .negSucc 2147483647, .ofNat 2147483647)] : sIv), ∃ x, ([s0, s1, s2, s3, s4] : List Int)[q.1]? = some x ∧ q.2.1 ≤ x ∧ x ≤ q.2.2 := hN.2.1.2
  have hCs : ∀ c ∈ ([(.ofNat 0, [(.negSucc 0, 2), (.ofNat 1, 3)])] : List sLn), ∃ x, sE [s0, s1, s2, s3, s4] c = some x ∧ x ≤ 0 := hN.2.2.1
  have c0 : ((0 : Int) + ((-1 : Int) * s2 + ((1 : Int) * s3 + 0))) ≤ 0 := csX (hCs _ (.head _)) rfl
  have hRf : ∀ q ∈ ([((43, .ofNat 176, []), (.ofNat 1, []), 18, .ofNat 2, []), ((2, .ofNat 2, []), (.ofNat 5, []), 1, .ofNat 0, [(.ofNat 1, 3)])] : List sRf), rfOk [s0, s1, s2, s3, s4] hp q := hH.1
  have g0 : hC hp 176 1 = 2 := by
    have u := rfR0 (xv := (2 : Int)) (c0 := 176) (i0 := 1) (hRf _ (.head _)) (sE_k _ _) (sE_k _ _) (sE_k _ _)
    show hC hp (176) 1 = 2
    omega
  have h1 : hI hp (hC hp 176 1) 5 = s3 := rfI0 (c0 := hC hp 176 1) (hRf _ (.tail _ (.head _))) (by rw [g0]; exact sE_k _ _) (sE_k _ _) (sE_V rfl)
  have hFc : ∀ q ∈ ([(95, [(.ofNat 0, [(.ofNat 1, 2)]), (.ofNat 0, [(.ofNat 1, 4)]), (.ofNat 0, [(.ofNat 1, 0)]), (.ofNat 0, [(.ofNat 1, 1)])]), (75, [(.ofNat 0, [(.ofNat 1, 3)]), (.ofNat 0, [(.ofNat 1, 4)])])] : List sFc), fcOk fFS [s0, s1, s2, s3, s4] hp q := hH.2
  have f0 : ∀ i : Nat, i < 8 → (i : Int) < s2 → ¬ (hI hp (rr hp 1 16) i = s0 ∧ hI hp (rr hp 1 17) i = s1) := fcX (ys := [s2, s4, s0, s1]) (hFc _ (.head _)) ⟨sE_V rfl, sE_V rfl, sE_V rfl, sE_V rfl, trivial⟩
  have f1 : dF (XT hp) s4 (fun D => s3 = (dWi D).length ∧ ∀ i : Nat, i < 8 → (i : Int) < s3 → (dWi D)[i]? = some (hI hp (rr hp 1 16) i, hI hp (rr hp 1 17) i)) := fcX (ys := [s3, s4]) (hFc _ (.tail _ (.head _))) ⟨sE_V rfl, sE_V rfl, trivial⟩
  exact poX (.head _) rfl hR (all_nil) (all_nil) (all_cons ⟨[s4, s0, s1, 0], ⟨sE_V rfl, sE_V rfl, sE_V rfl, sE_k _ _, trivial⟩, (show dF (XT hp) s4 (fun D => bP (0 : Int) ((s0, s1) ∈ dWi D)) from dF_mp (dF_I (XT_ok hO) f1) (fun D h => bP_i0 (lst_no h.2 f0 (by omega) (by have h1 := h.1.1.2.2.2.2.2.2.2; have h2 := h.2.1; omega)) rfl))⟩ (all_nil))
theorem rl432 : ruOk fFS gR432 := by
  intro r hp hO hN hH
  obtain ⟨s0, s1, s2, s3, s4, s5, s6, s7, s8, s9, s10, s11, s12, s13, s14, s15, s16, s17, s18, s19, s20, s21, s22, s23, s24, s25, s26, rfl⟩ := len27 (show r.length = 27 from hN.1)
  have hR := hN.2.1.1
  have hIv : ∀ q ∈ ([(0, .negSucc 2147483647, .ofNat 2147483647), (1, .negSucc 2147483647, .ofNat 2147483647), (4, .ofNat 0, .ofNat 7), (5, .negSucc 2147483647, .ofNat 2147483647), (6, .negSucc 2147483647, .ofNat 2147483647), (7, .negSucc 2147483647, .ofNat 2147483647), (8, .ofNat 25, .ofNat 25), (9, .negSucc 2147483647, .ofNat 2147483647), (10, .negSucc 2147483647, .ofNat 2147483647), (11, .negSucc 2147483647, .ofNat 2147483647), (12, .negSucc 2147483647, .ofNat 2147483647), (13, .negSucc 2147483647, .ofNat 2147483647), (14, .ofNat 2, .ofNat 2), (15, .negSucc 2147483647, .ofNat 2147483647), (16, .negSucc 2147483647, .ofNat 2147483647), (17, .negSucc 2147483647, .ofNat 2147483647), (18, .negSucc 2147483647, .ofNat 2147483647), (19, .negSucc 2147483647, .ofNat 2147483647), (20, .negSucc 2147483647, .ofNat 2147483647), (21, .negSucc 2147483647, .ofNat 2147483647), (22, .negSucc 2147483647, .ofNat 2147483647), (23, .negSucc 2147483647, .ofNat 2147483647), (24, .negSucc 2147483647, .ofNat 2147483647), (25, .negSucc 2147483647, .ofNat 2147483647), (26, .negSucc 2147483647, .ofNat 2147483647)] : sIv), ∃ x, ([s0, s1, s2, s3, s4, s5, s6, s7, s8, s9, s10, s11, s12, s13, s14, s15, s16, s17, s18, s19, s20, s21, s22, s23, s24, s25, s26] : List Int)[q.1]? = some x ∧ q.2.1 ≤ x ∧ x ≤ q.2.2 := hN.2.1.2
  have b2 : (0 : Int) ≤ s4 ∧ s4 ≤ (7 : Int) := ivX (q := (4, .ofNat 0, .ofNat 7)) (y := s4) (hIv _ (.tail _ (.tail _ (.head _)))) rfl
  have b6 : (25 : Int) ≤ s8 ∧ s8 ≤ (25 : Int) := ivX (q := (8, .ofNat 25, .ofNat 25)) (y := s8) (hIv _ (.tail _ (.tail _ (.tail _ (.tail _ (.tail _ (.tail _ (.head _)))))))) rfl
  have b12 : (2 : Int) ≤ s14 ∧ s14 ≤ (2 : Int) := ivX (q := (14, .ofNat 2, .ofNat 2)) (y := s14) (hIv _ (.tail _ (.tail _ (.tail _ (.tail _ (.tail _ (.tail _ (.tail _ (.tail _ (.tail _ (.tail _ (.tail _ (.tail _ (.head _)))))))))))))) rfl
  have hCs : ∀ c ∈ ([(.ofNat 0, [(.negSucc 0, 0), (.ofNat 1, 5)]), (.ofNat 0, [(.ofNat 1, 0), (.negSucc 0, 5)]), (.ofNat 0, [(.negSucc 0, 1), (.ofNat 1, 6)]), (.ofNat 0, [(.ofNat 1, 1), (.negSucc 0, 6)])] : List sLn), ∃ x, sE [s0, s1, s2, s3, s4, s5, s6, s7, s8, s9, s10, s11, s12, s13, s14, s15, s16, s17, s18, s19, s20, s21, s22, s23, s24, s25, s26] c = some x ∧ x ≤ 0 := hN.2.2.1
  have c0 : ((0 : Int) + ((-1 : Int) * s0 + ((1 : Int) * s5 + 0))) ≤ 0 := csX (hCs _ (.head _)) rfl
  have c1 : ((0 : Int) + ((1 : Int) * s0 + ((-1 : Int) * s5 + 0))) ≤ 0 := csX (hCs _ (.tail _ (.head _))) rfl
  have c2 : ((0 : Int) + ((-1 : Int) * s1 + ((1 : Int) * s6 + 0))) ≤ 0 := csX (hCs _ (.tail _ (.tail _ (.head _)))) rfl
  have c3 : ((0 : Int) + ((1 : Int) * s1 + ((-1 : Int) * s6 + 0))) ≤ 0 := csX (hCs _ (.tail _ (.tail _ (.tail _ (.head _))))) rfl
  have hRf : ∀ q ∈ ([((40, .ofNat 173, []), (.ofNat 9, []), 1, .ofNat 0, []), ((43, .ofNat 176, []), (.ofNat 1, []), 18, .ofNat 2, []), ((2, .ofNat 2, []), (.ofNat 16, []), 28, .ofNat 0, [(.ofNat 1, 2)]), ((2, .ofNat 2, []), (.ofNat 17, []), 29, .ofNat 0, [(.ofNat 1, 3)]), ((2, .ofNat 2, []), (.ofNat 5, []), 1, .ofNat 0, [(.ofNat 1, 4)]), ((12, .ofNat 0, [(.ofNat 1, 2)]), (.ofNat 0, [(.ofNat 1, 4)]), 1, .ofNat 0, [(.ofNat 1, 5)]), ((13, .ofNat 0, [(.ofNat 1, 3)]), (.ofNat 0, [(.ofNat 1, 4)]), 1, .ofNat 0, [(.ofNat 1, 6)])] : List sRf), rfOk [s0, s1, s2, s3, s4, s5, s6, s7, s8, s9, s10, s11, s12, s13, s14, s15, s16, s17, s18, s19, s20, s21, s22, s23, s24, s25, s26] hp q := hH.1
  have h0 : hI hp 173 9 = 0 := rfI0 (hRf _ (.head _)) (sE_k _ _) (sE_k _ _) (sE_k _ _)
  have g1 : hC hp 176 1 = 2 := by
    have u := rfR0 (xv := (2 : Int)) (c0 := 176) (i0 := 1) (hRf _ (.tail _ (.head _))) (sE_k _ _) (sE_k _ _) (sE_k _ _)
    show hC hp (176) 1 = 2
    omega
  have g2 : s2 = ((rr hp 1 16 : Nat) : Int) := rfR0 (c0 := hC hp 176 1) (hRf _ (.tail _ (.tail _ (.head _)))) (by rw [g1]; exact sE_k _ _) (sE_k _ _) (sE_V rfl)
  have g3 : s3 = ((rr hp 1 17 : Nat) : Int) := rfR0 (c0 := hC hp 176 1) (hRf _ (.tail _ (.tail _ (.tail _ (.head _))))) (by rw [g1]; exact sE_k _ _) (sE_k _ _) (sE_V rfl)
  have h4 : hI hp (hC hp 176 1) 5 = s4 := rfI0 (c0 := hC hp 176 1) (hRf _ (.tail _ (.tail _ (.tail _ (.tail _ (.head _)))))) (by rw [g1]; exact sE_k _ _) (sE_k _ _) (sE_V rfl)
  obtain ⟨i5, e5, l5, h5⟩ := rfI (xv := s5) (iv := s4) (hRf _ (.tail _ (.tail _ (.tail _ (.tail _ (.tail _ (.head _))))))) (sEv (sE_V rfl) g2.symm) (sE_V rfl) (sE_V rfl)
  have l5 : i5 < 8 := l5
  have h5 : hI hp (rr hp 1 16) i5 = s5 := h5
  obtain ⟨i6, e6, l6, h6⟩ := rfI (xv := s6) (iv := s4) (hRf _ (.tail _ (.tail _ (.tail _ (.tail _ (.tail _ (.tail _ (.head _)))))))) (sEv (sE_V rfl) g3.symm) (sE_V rfl) (sE_V rfl)
  have l6 : i6 < 8 := l6
  have h6 : hI hp (rr hp 1 17) i6 = s6 := h6
  have hFc : ∀ q ∈ ([(53, [(.ofNat 0, [(.ofNat 1, 7)]), (.ofNat 0, [(.ofNat 1, 8)]), (.ofNat 0, [(.ofNat 1, 9)]), (.ofNat 0, [(.ofNat 1, 0)]), (.ofNat 0, [(.ofNat 1, 1)]), (.ofNat 0, [(.ofNat 1, 10)]), (.ofNat 0, [(.ofNat 1, 11)]), (.ofNat 0, [(.ofNat 1, 12)]), (.ofNat 0, [(.ofNat 1, 13)]), (.ofNat 0, [(.ofNat 1, 14)]), (.ofNat 0, [(.ofNat 1, 15)]), (.ofNat 0, [(.ofNat 1, 16)]), (.ofNat 0, [(.ofNat 1, 17)])]), (59, [(.ofNat 0, [(.ofNat 1, 9)]), (.ofNat 0, [(.ofNat 1, 18)]), (.ofNat 0, [(.ofNat 1, 19)]), (.ofNat 0, [(.ofNat 1, 20)]), (.ofNat 0, [(.ofNat 1, 4)]), (.ofNat 0, [(.ofNat 1, 21)]), (.ofNat 0, [(.ofNat 1, 22)]), (.ofNat 0, [(.ofNat 1, 23)]), (.ofNat 0, [(.ofNat 1, 24)]), (.ofNat 0, [(.ofNat 1, 25)]), (.ofNat 0, [(.ofNat 1, 26)])]), (61, [(.ofNat 0, [(.ofNat 1, 9)])]), (68, [(.ofNat 0, [(.ofNat 1, 9)])]), (72, [(.ofNat 0, [(.ofNat 1, 21)]), (.ofNat 0, [(.ofNat 1, 9)])]), (74, [(.ofNat 0, [(.ofNat 1, 9)])]), (73, [(.ofNat 0, [(.ofNat 1, 21)])]), (75, [(.ofNat 0, [(.ofNat 1, 4)]), (.ofNat 0, [(.ofNat 1, 9)])]), (60, [(.ofNat 0, [(.ofNat 1, 7)])])] : List sFc), fcOk fFS [s0, s1, s2, s3, s4, s5, s6, s7, s8, s9, s10, s11, s12, s13, s14, s15, s16, s17, s18, s19, s20, s21, s22, s23, s24, s25, s26] hp q := hH.2
  have f0 : Hq (XT hp) s7 s8 s9 s0 s1 s10 s11 s12 s13 s14 s15 s16 s17 ∧ s14 ≠ 4 := fcX (ys := [s7, s8, s9, s0, s1, s10, s11, s12, s13, s14, s15, s16, s17]) (hFc _ (.head _)) ⟨sE_V rfl, sE_V rfl, sE_V rfl, sE_V rfl, sE_V rfl, sE_V rfl, sE_V rfl, sE_V rfl, sE_V rfl, sE_V rfl, sE_V rfl, sE_V rfl, sE_V rfl, trivial⟩
  have f1 : CT (XT hp) s9 s18 s19 s20 s4 s21 s22 s23 s24 s25 s26 := fcX (ys := [s9, s18, s19, s20, s4, s21, s22, s23, s24, s25, s26]) (hFc _ (.tail _ (.head _))) ⟨sE_V rfl, sE_V rfl, sE_V rfl, sE_V rfl, sE_V rfl, sE_V rfl, sE_V rfl, sE_V rfl, sE_V rfl, sE_V rfl, sE_V rfl, trivial⟩
  have f2 : dF (XT hp) s9 (fun D => ∀ j : Nat, j < 12 → hL hp (rr hp 1 7) j = cd 32 96 (nm D j)) := fcX (ys := [s9]) (hFc _ (.tail _ (.tail _ (.head _)))) ⟨sE_V rfl, trivial⟩
  have f3 : dF (XT hp) s9 (fun D => ∀ p : Nat, p < 100 → (fX hp p ↔ ¬ tkI D p)) := fcX (ys := [s9]) (hFc _ (.tail _ (.tail _ (.tail _ (.head _))))) ⟨sE_V rfl, trivial⟩
  have f4 : dF (XT hp) s9 (fun D => s21 = (dTr D).length ∧ ∀ i : Nat, i < 14 → (i : Int) < s21 → (dTr D)[i]? = some (hI hp (rr hp 2 6) i, hI hp (rr hp 2 7) i)) := fcX (ys := [s21, s9]) (hFc _ (.tail _ (.tail _ (.tail _ (.tail _ (.head _)))))) ⟨sE_V rfl, sE_V rfl, trivial⟩
  have f5 : dF (XT hp) s9 (fun D => ∀ j : Nat, j < 10 → wR (hI hp (rr hp 2 10) j) D j) := fcX (ys := [s9]) (hFc _ (.tail _ (.tail _ (.tail _ (.tail _ (.tail _ (.head _))))))) ⟨sE_V rfl, trivial⟩
  have f6 : ∀ i : Nat, i < 14 → (i : Int) < s21 → bt (hI hp (hC hp 176 2) 2) i := fcX (ys := [s21]) (hFc _ (.tail _ (.tail _ (.tail _ (.tail _ (.tail _ (.tail _ (.head _)))))))) ⟨sE_V rfl, trivial⟩
  have f7 : dF (XT hp) s9 (fun D => s4 = (dWi D).length ∧ ∀ i : Nat, i < 8 → (i : Int) < s4 → (dWi D)[i]? = some (hI hp (rr hp 1 16) i, hI hp (rr hp 1 17) i)) := fcX (ys := [s4, s9]) (hFc _ (.tail _ (.tail _ (.tail _ (.tail _ (.tail _ (.tail _ (.tail _ (.head _))))))))) ⟨sE_V rfl, sE_V rfl, trivial⟩
  have f8 : NO (XT hp) s7 := fcX (ys := [s7]) (hFc _ (.tail _ (.tail _ (.tail _ (.tail _ (.tail _ (.tail _ (.tail _ (.tail _ (.head _)))))))))) ⟨sE_V rfl, trivial⟩
  have u := hN25 (XT_ok hO) f0.1 (by omega) (by omega) f8
  have hd := u.2
  have hw1 : hI hp (rr hp 1 16) i5 = s0 := by rw [h5]; omega
  have hw2 : hI hp (rr hp 1 17) i6 = s1 := by rw [h6]; omega
  exact poX (.head _) rfl hR (all_nil) (all_nil) (all_cons ⟨[s16, 26, (s9 + 1), 0, 0, 0, 0, 0, 0], ⟨sE_V rfl, sE_k _ _, sEv (y' := ((1 : Int) + ((1 : Int) * s9 + 0))) rfl (by omega), sE_k _ _, sE_k _ _, sE_k _ _, sE_k _ _, sE_k _ _, sE_k _ _, trivial⟩, (show Gq (XT hp) s16 (26 : Int) (s9 + 1) (0 : Int) (0 : Int) (0 : Int) (0 : Int) (0 : Int) (0 : Int) from u.1)⟩ (all_cons ⟨[(s9 + 1), s18, s19, s20, (s4 + 1), s21, s22, s23, s24, s25, s26], ⟨sEv (y' := ((1 : Int) + ((1 : Int) * s9 + 0))) rfl (by omega), sE_V rfl, sE_V rfl, sE_V rfl, sEv (y' := ((1 : Int) + ((1 : Int) * s4 + 0))) rfl (by omega), sE_V rfl, sE_V rfl, sE_V rfl, sE_V rfl, sE_V rfl, sE_V rfl, trivial⟩, (show CT (XT hp) (s9 + 1) s18 s19 s20 (s4 + 1) s21 s22 s23 s24 s25 s26 from carry (XT_ok hO) hd f1 (fun D h => ct_aWi (by omega) h) (by omega))⟩ (all_cons ⟨[(s9 + 1)], ⟨sEv (y' := ((1 : Int) + ((1 : Int) * s9 + 0))) rfl (by omega), trivial⟩, (show dF (XT hp) (s9 + 1) (fun D => ∀ j : Nat, j < 12 → hL hp (rr hp 1 7) j = cd 32 96 (nm D j)) from carry (XT_ok hO) hd f2 (fun D h => h) (by omega))⟩ (all_cons ⟨[(s9 + 1)], ⟨sEv (y' := ((1 : Int) + ((1 : Int) * s9 + 0))) rfl (by omega), trivial⟩, (show dF (XT hp) (s9 + 1) (fun D => ∀ p : Nat, p < 100 → (fX hp p ↔ ¬ tkI D p)) from carry (XT_ok hO) hd f3 (fun D h => h) (by omega))⟩ (all_cons ⟨[s21, (s9 + 1)], ⟨sE_V rfl, sEv (y' := ((1 : Int) + ((1 : Int) * s9 + 0))) rfl (by omega), trivial⟩, (show dF (XT hp) (s9 + 1) (fun D => s21 = (dTr D).length ∧ ∀ i : Nat, i < 14 → (i : Int) < s21 → (dTr D)[i]? = some (hI hp (rr hp 2 6) i, hI hp (rr hp 2 7) i)) from carry (XT_ok hO) hd f4 (fun D h => h) (by omega))⟩ (all_cons ⟨[(s9 + 1)], ⟨sEv (y' := ((1 : Int) + ((1 : Int) * s9 + 0))) rfl (by omega), trivial⟩, (show dF (XT hp) (s9 + 1) (fun D => ∀ j : Nat, j < 10 → wR (hI hp (rr hp 2 10) j) D j) from carry (XT_ok hO) hd f5 (fun D h => h) (by omega))⟩ (all_cons ⟨[s21], ⟨sE_V rfl, trivial⟩, (show ∀ i : Nat, i < 14 → (i : Int) < s21 → bt (hI hp (hC hp 176 2) 2) i from f6)⟩ (all_cons ⟨[(s4 + 1), (s9 + 1)], ⟨sEv (y' := ((1 : Int) + ((1 : Int) * s4 + 0))) rfl (by omega), sEv (y' := ((1 : Int) + ((1 : Int) * s9 + 0))) rfl (by omega), trivial⟩, (show dF (XT hp) (s9 + 1) (fun D => (s4 + 1) = (dWi D).length ∧ ∀ i : Nat, i < 8 → (i : Int) < (s4 + 1) → (dWi D)[i]? = some (hI hp (rr hp 1 16) i, hI hp (rr hp 1 17) i)) from carry (XT_ok hO) hd f7 (fun D h => lst_add h hw1 hw2 (by omega) (by omega) (by omega)) (by omega))⟩ (all_nil)))))))))
theorem rl433 : ruOk fFS gR433 := by
  intro r hp hO hN hH
  obtain ⟨s0, s1, s2, s3, s4, s5, s6, s7, s8, s9, s10, s11, s12, s13, s14, rfl⟩ := len15 (show r.length = 15 from hN.1)
  have hR := hN.2.1.1
  have hIv : ∀ q ∈ ([(0, .ofNat 0, .ofNat 11), (2, .negSucc 2147483647, .ofNat 2147483647), (3, .negSucc 2147483647, .ofNat 2147483647), (4, .negSucc 2147483647, .ofNat 2147483647), (5, .negSucc 2147483647, .ofNat 2147483647), (6, .negSucc 2147483647, .ofNat 2147483647), (7, .negSucc 2147483647, .ofNat 2147483647), (8, .negSucc 2147483647, .ofNat 2147483647), (9, .negSucc 2147483647, .ofNat 2147483647), (10, .negSucc 2147483647, .ofNat 2147483647), (11, .negSucc 2147483647, .ofNat 2147483647), (12, .negSucc 2147483647, .ofNat 2147483647), (13, .negSucc 2147483647, .ofNat 2147483647), (14, .negSucc 2147483647, .ofNat 2147483647)] : sIv), ∃ x, ([s0, s1, s2, s3, s4, s5, s6, s7, s8, s9, s10, s11, s12, s13, s14] : List Int)[q.1]? = some x ∧ q.2.1 ≤ x ∧ x ≤ q.2.2 := hN.2.1.2
  have b0 : (0 : Int) ≤ s0 ∧ s0 ≤ (11 : Int) := ivX (q := (0, .ofNat 0, .ofNat 11)) (y := s0) (hIv _ (.head _)) rfl
  have hRf : ∀ q ∈ ([((43, .ofNat 176, []), (.ofNat 1, []), 18, .ofNat 2, []), ((2, .ofNat 2, []), (.ofNat 7, []), 19, .ofNat 3, []), ((3, .ofNat 3, []), (.ofNat 0, [(.ofNat 1, 0)]), 5, .ofNat 0, [(.ofNat 1, 1)]), ((40, .ofNat 173, []), (.ofNat 8, []), 5, .ofNat 0, [(.ofNat 1, 1)])] : List sRf), rfOk [s0, s1, s2, s3, s4, s5, s6, s7, s8, s9, s10, s11, s12, s13, s14] hp q := hH.1
  have g0 : hC hp 176 1 = 2 := by
    have u := rfR0 (xv := (2 : Int)) (c0 := 176) (i0 := 1) (hRf _ (.head _)) (sE_k _ _) (sE_k _ _) (sE_k _ _)
    show hC hp (176) 1 = 2
    omega
  have g1 : rr hp 1 7 = 3 := by
    have u := rfR0 (xv := (3 : Int)) (c0 := hC hp 176 1) (i0 := 7) (hRf _ (.tail _ (.head _))) (by rw [g0]; exact sE_k _ _) (sE_k _ _) (sE_k _ _)
    show hC hp (hC hp 176 1) 7 = 3
    omega
  obtain ⟨i2, e2, l2, h2⟩ := rfL (c0 := rr hp 1 7) (iv := s0) (hRf _ (.tail _ (.tail _ (.head _)))) (by rw [g1]; exact sE_k _ _) (sE_V rfl) (sE_V rfl)
  have l2 : i2 < 12 := l2
  have h2 : hL hp (rr hp 1 7) i2 = s1 := h2
  have h3 : hL hp 173 8 = s1 := rfL0 (hRf _ (.tail _ (.tail _ (.tail _ (.head _))))) (sE_k _ _) (sE_k _ _) (sE_V rfl)
  have hFc : ∀ q ∈ ([(62, [(.ofNat 0, [(.ofNat 1, 0)]), (.ofNat 0, [(.ofNat 1, 2)])]), (63, [(.ofNat 1, [(.ofNat 1, 0)]), (.ofNat 0, [(.ofNat 1, 2)])]), (53, [(.ofNat 0, [(.ofNat 1, 3)]), (.ofNat 0, [(.ofNat 1, 4)]), (.ofNat 0, [(.ofNat 1, 2)]), (.ofNat 0, [(.ofNat 1, 5)]), (.ofNat 0, [(.ofNat 1, 6)]), (.ofNat 0, [(.ofNat 1, 7)]), (.ofNat 0, [(.ofNat 1, 8)]), (.ofNat 0, [(.ofNat 1, 9)]), (.ofNat 0, [(.ofNat 1, 10)]), (.ofNat 0, [(.ofNat 1, 11)]), (.ofNat 0, [(.ofNat 1, 12)]), (.ofNat 0, [(.ofNat 1, 13)]), (.ofNat 0, [(.ofNat 1, 14)])]), (48, [(.ofNat 0, [(.ofNat 1, 12)]), (.ofNat 0, [(.ofNat 1, 13)])])] : List sFc), fcOk fFS [s0, s1, s2, s3, s4, s5, s6, s7, s8, s9, s10, s11, s12, s13, s14] hp q := hH.2
  have f0 : dF (XT hp) s2 (fun D => ∀ j : Nat, j < 12 → (j : Int) < s0 → hL hp (rr hp 1 7) j = cd 32 96 (nm D j)) := fcX (ys := [s0, s2]) (hFc _ (.head _)) ⟨sE_V rfl, sE_V rfl, trivial⟩
  have f1 : dF (XT hp) s2 (fun D => ∀ j : Nat, j < 12 → (s0 + 1) ≤ (j : Int) → hL hp (rr hp 1 7) j = cd 32 96 (nm D j)) := fcX (ys := [(s0 + 1), s2]) (hFc _ (.tail _ (.head _))) ⟨sEv (y' := ((1 : Int) + ((1 : Int) * s0 + 0))) rfl (by omega), sE_V rfl, trivial⟩
  have f2 : Hq (XT hp) s3 s4 s2 s5 s6 s7 s8 s9 s10 s11 s12 s13 s14 ∧ s11 ≠ 4 := fcX (ys := [s3, s4, s2, s5, s6, s7, s8, s9, s10, s11, s12, s13, s14]) (hFc _ (.tail _ (.tail _ (.head _)))) ⟨sE_V rfl, sE_V rfl, sE_V rfl, sE_V rfl, sE_V rfl, sE_V rfl, sE_V rfl, sE_V rfl, sE_V rfl, sE_V rfl, sE_V rfl, sE_V rfl, sE_V rfl, trivial⟩
  have f3 : isW (bs (XB hp) s12 s13) ∧ hL hp 173 8 = cd 32 96 (bs (XB hp) s12 s13) := fcX (ys := [s12, s13]) (hFc _ (.tail _ (.tail _ (.tail _ (.head _))))) ⟨sE_V rfl, sE_V rfl, trivial⟩
  exact poX (.head _) rfl hR (all_nil) (all_nil) (all_cons ⟨[s0, s2, s12, s13], ⟨sE_V rfl, sE_V rfl, sE_V rfl, sE_V rfl, trivial⟩, (show dF (XT hp) s2 (fun D => ∀ j : Nat, j < 12 → hL hp (rr hp 1 7) j = if (j : Int) = s0 then cd 32 96 (bs (XT hp).1 s12 s13) else cd 32 96 (nm D j)) from nb_x hO f0 f1 h2 h3 f2 f3 (by omega) (by omega))⟩ (all_nil))
theorem rl434 : ruOk fFS gR434 := by
  intro r hp hO hN hH
  obtain ⟨s0, s1, s2, s3, rfl⟩ := len4 (show r.length = 4 from hN.1)
  have hR := hN.2.1.1
  have hIv : ∀ q ∈ ([(0, .ofNat 0, .ofNat 99), (2, .ofNat 0, .ofNat 3), (3, .negSucc 2147483647, .ofNat 2147483647)] : sIv), ∃ x, ([s0, s1, s2, s3] : List Int)[q.1]? = some x ∧ q.2.1 ≤ x ∧ x ≤ q.2.2 := hN.2.1.2
  have b0 : (0 : Int) ≤ s0 ∧ s0 ≤ (99 : Int) := ivX (q := (0, .ofNat 0, .ofNat 99)) (y := s0) (hIv _ (.head _)) rfl
  have b1 : (0 : Int) ≤ s2 ∧ s2 ≤ (3 : Int) := ivX (q := (2, .ofNat 0, .ofNat 3)) (y := s2) (hIv _ (.tail _ (.head _))) rfl
  have hRf : ∀ q ∈ ([((43, .ofNat 176, []), (.ofNat 1, []), 18, .ofNat 2, []), ((2, .ofNat 2, []), (.ofNat 8, []), 20, .ofNat 0, [(.ofNat 1, 1)]), ((4, .ofNat 0, [(.ofNat 1, 1)]), (.ofNat 0, [(.ofNat 1, 0)]), 1, .ofNat 0, [(.ofNat 1, 2)])] : List sRf), rfOk [s0, s1, s2, s3] hp q := hH.1
  have g0 : hC hp 176 1 = 2 := by
    have u := rfR0 (xv := (2 : Int)) (c0 := 176) (i0 := 1) (hRf _ (.head _)) (sE_k _ _) (sE_k _ _) (sE_k _ _)
    show hC hp (176) 1 = 2
    omega
  have g1 : s1 = ((rr hp 1 8 : Nat) : Int) := rfR0 (c0 := hC hp 176 1) (hRf _ (.tail _ (.head _))) (by rw [g0]; exact sE_k _ _) (sE_k _ _) (sE_V rfl)
  obtain ⟨i2, e2, l2, h2⟩ := rfI (xv := s2) (iv := s0) (hRf _ (.tail _ (.tail _ (.head _)))) (sEv (sE_V rfl) g1.symm) (sE_V rfl) (sE_V rfl)
  have l2 : i2 < 100 := l2
  have h2 : hI hp (rr hp 1 8) i2 = s2 := h2
  have hFc : ∀ q ∈ ([(68, [(.ofNat 0, [(.ofNat 1, 3)])])] : List sFc), fcOk fFS [s0, s1, s2, s3] hp q := hH.2
  have f0 : dF (XT hp) s3 (fun D => ∀ p : Nat, p < 100 → (fX hp p ↔ ¬ tkI D p)) := fcX (ys := [s3]) (hFc _ (.head _)) ⟨sE_V rfl, trivial⟩
  exact poX (.head _) rfl hR (all_nil) (all_nil) (all_cons ⟨[s3, s0, 1], ⟨sE_V rfl, sE_V rfl, sE_k _ _, trivial⟩, (show dF (XT hp) s3 (fun D => bP (1 : Int) (tkI D s0)) from ce_1 f0 l2 (fX_o h2 (by omega)) e2 rfl)⟩ (all_nil))
theorem rl435 : ruOk fFS gR435 := by
  intro r hp hO hN hH
  obtain ⟨s0, s1, s2, s3, rfl⟩ := len4 (show r.length = 4 from hN.1)
  have hR := hN.2.1.1
  have hIv : ∀ q ∈ ([(0, .ofNat 0, .ofNat 99), (2, .ofNat 0, .ofNat 3), (3, .negSucc 2147483647, .ofNat 2147483647)] : sIv), ∃ x, ([s0, s1, s2, s3] : List Int)[q.1]? = some x ∧ q.2.1 ≤ x ∧ x ≤ q.2.2 := hN.2.1.2
  have b0 : (0 : Int) ≤ s0 ∧ s0 ≤ (99 : Int) := ivX (q := (0, .ofNat 0, .ofNat 99)) (y := s0) (hIv _ (.head _)) rfl
  have b1 : (0 : Int) ≤ s2 ∧ s2 ≤ (3 : Int) := ivX (q := (2, .ofNat 0, .ofNat 3)) (y := s2) (hIv _ (.tail _ (.head _))) rfl
  have hRf : ∀ q ∈ ([((43, .ofNat 176, []), (.ofNat 1, []), 18, .ofNat 2, []), ((2, .ofNat 2, []), (.ofNat 9, []), 21, .ofNat 0, [(.ofNat 1, 1)]), ((5, .ofNat 0, [(.ofNat 1, 1)]), (.ofNat 0, [(.ofNat 1, 0)]), 1, .ofNat 0, [(.ofNat 1, 2)])] : List sRf), rfOk [s0, s1, s2, s3] hp q := hH.1
  have g0 : hC hp 176 1 = 2 := by
    have u := rfR0 (xv := (2 : Int)) (c0 := 176) (i0 := 1) (hRf _ (.head _)) (sE_k _ _) (sE_k _ _) (sE_k _ _)
    show hC hp (176) 1 = 2
    omega
  have g1 : s1 = ((rr hp 1 9 : Nat) : Int) := rfR0 (c0 := hC hp 176 1) (hRf _ (.tail _ (.head _))) (by rw [g0]; exact sE_k _ _) (sE_k _ _) (sE_V rfl)
  obtain ⟨i2, e2, l2, h2⟩ := rfI (xv := s2) (iv := s0) (hRf _ (.tail _ (.tail _ (.head _)))) (sEv (sE_V rfl) g1.symm) (sE_V rfl) (sE_V rfl)
  have l2 : i2 < 100 := l2
  have h2 : hI hp (rr hp 1 9) i2 = s2 := h2
  have hFc : ∀ q ∈ ([(68, [(.ofNat 0, [(.ofNat 1, 3)])])] : List sFc), fcOk fFS [s0, s1, s2, s3] hp q := hH.2
  have f0 : dF (XT hp) s3 (fun D => ∀ p : Nat, p < 100 → (fX hp p ↔ ¬ tkI D p)) := fcX (ys := [s3]) (hFc _ (.head _)) ⟨sE_V rfl, trivial⟩
  exact poX (.head _) rfl hR (all_nil) (all_nil) (all_cons ⟨[s3, s0, 1], ⟨sE_V rfl, sE_V rfl, sE_k _ _, trivial⟩, (show dF (XT hp) s3 (fun D => bP (1 : Int) (tkI D s0)) from ce_1 f0 l2 (fX_s h2 (by omega)) e2 rfl)⟩ (all_nil))
theorem rl436 : ruOk fFS gR436 := by
  intro r hp hO hN hH
  obtain ⟨s0, s1, s2, s3, s4, s5, rfl⟩ := len6 (show r.length = 6 from hN.1)
  have hR := hN.2.1.1
  have hIv : ∀ q ∈ ([(0, .ofNat 0, .ofNat 99), (3, .negSucc 0, .negSucc 0), (4, .negSucc 0, .negSucc 0), (5, .negSucc 2147483647, .ofNat 2147483647)] : sIv), ∃ x, ([s0, s1, s2, s3, s4, s5] : List Int)[q.1]? = some x ∧ q.2.1 ≤ x ∧ x ≤ q.2.2 := hN.2.1.2
  have b0 : (0 : Int) ≤ s0 ∧ s0 ≤ (99 : Int) := ivX (q := (0, .ofNat 0, .ofNat 99)) (y := s0) (hIv _ (.head _)) rfl
  have b1 : (-1 : Int) ≤ s3 ∧ s3 ≤ (-1 : Int) := ivX (q := (3, .negSucc 0, .negSucc 0)) (y := s3) (hIv _ (.tail _ (.head _))) rfl
  have b2 : (-1 : Int) ≤ s4 ∧ s4 ≤ (-1 : Int) := ivX (q := (4, .negSucc 0, .negSucc 0)) (y := s4) (hIv _ (.tail _ (.tail _ (.head _)))) rfl
  have hRf : ∀ q ∈ ([((43, .ofNat 176, []), (.ofNat 1, []), 18, .ofNat 2, []), ((2, .ofNat 2, []), (.ofNat 8, []), 20, .ofNat 0, [(.ofNat 1, 1)]), ((2, .ofNat 2, []), (.ofNat 9, []), 21, .ofNat 0, [(.ofNat 1, 2)]), ((4, .ofNat 0, [(.ofNat 1, 1)]), (.ofNat 0, [(.ofNat 1, 0)]), 1, .ofNat 0, [(.ofNat 1, 3)]), ((5, .ofNat 0, [(.ofNat 1, 2)]), (.ofNat 0, [(.ofNat 1, 0)]), 1, .ofNat 0, [(.ofNat 1, 4)])] : List sRf), rfOk [s0, s1, s2, s3, s4, s5] hp q := hH.1
  have g0 : hC hp 176 1 = 2 := by
    have u := rfR0 (xv := (2 : Int)) (c0 := 176) (i0 := 1) (hRf _ (.head _)) (sE_k _ _) (sE_k _ _) (sE_k _ _)
    show hC hp (176) 1 = 2
    omega
  have g1 : s1 = ((rr hp 1 8 : Nat) : Int) := rfR0 (c0 := hC hp 176 1) (hRf _ (.tail _ (.head _))) (by rw [g0]; exact sE_k _ _) (sE_k _ _) (sE_V rfl)
  have g2 : s2 = ((rr hp 1 9 : Nat) : Int) := rfR0 (c0 := hC hp 176 1) (hRf _ (.tail _ (.tail _ (.head _)))) (by rw [g0]; exact sE_k _ _) (sE_k _ _) (sE_V rfl)
  obtain ⟨i3, e3, l3, h3⟩ := rfI (xv := s3) (iv := s0) (hRf _ (.tail _ (.tail _ (.tail _ (.head _))))) (sEv (sE_V rfl) g1.symm) (sE_V rfl) (sE_V rfl)
  have l3 : i3 < 100 := l3
  have h3 : hI hp (rr hp 1 8) i3 = s3 := h3
  obtain ⟨i4, e4, l4, h4⟩ := rfI (xv := s4) (iv := s0) (hRf _ (.tail _ (.tail _ (.tail _ (.tail _ (.head _)))))) (sEv (sE_V rfl) g2.symm) (sE_V rfl) (sE_V rfl)
  have l4 : i4 < 100 := l4
  have h4 : hI hp (rr hp 1 9) i4 = s4 := h4
  have hFc : ∀ q ∈ ([(68, [(.ofNat 0, [(.ofNat 1, 5)])])] : List sFc), fcOk fFS [s0, s1, s2, s3, s4, s5] hp q := hH.2
  have f0 : dF (XT hp) s5 (fun D => ∀ p : Nat, p < 100 → (fX hp p ↔ ¬ tkI D p)) := fcX (ys := [s5]) (hFc _ (.head _)) ⟨sE_V rfl, trivial⟩
  exact poX (.head _) rfl hR (all_nil) (all_nil) (all_cons ⟨[s5, s0, 0], ⟨sE_V rfl, sE_V rfl, sE_k _ _, trivial⟩, (show dF (XT hp) s5 (fun D => bP (0 : Int) (tkI D s0)) from ce_0 f0 l3 (fX_b h3 h4 (by omega) (by omega) (by omega)) e3 rfl)⟩ (all_nil))
theorem rl437 : ruOk fFS gR437 := by
  intro r hp hO hN hH
  obtain ⟨s0, s1, s2, s3, s4, s5, s6, s7, s8, s9, s10, rfl⟩ := len11 (show r.length = 11 from hN.1)
  have hR := hN.2.1.1
  have hIv : ∀ q ∈ ([(0, .negSucc 2147483647, .ofNat 2147483647), (1, .negSucc 2147483647, .ofNat 2147483647), (2, .negSucc 2147483647, .ofNat 2147483647), (3, .negSucc 2147483647, .ofNat 2147483647), (4, .ofNat 0, .ofNat 9), (5, .ofNat 0, .ofNat 9), (8, .negSucc 0, .ofNat 3), (9, .negSucc 0, .ofNat 2), (10, .negSucc 2147483647, .ofNat 2147483647)] : sIv), ∃ x, ([s0, s1, s2, s3, s4, s5, s6, s7, s8, s9, s10] : List Int)[q.1]? = some x ∧ q.2.1 ≤ x ∧ x ≤ q.2.2 := hN.2.1.2
  have b4 : (0 : Int) ≤ s4 ∧ s4 ≤ (9 : Int) := ivX (q := (4, .ofNat 0, .ofNat 9)) (y := s4) (hIv _ (.tail _ (.tail _ (.tail _ (.tail _ (.head _)))))) rfl
  have b5 : (0 : Int) ≤ s5 ∧ s5 ≤ (9 : Int) := ivX (q := (5, .ofNat 0, .ofNat 9)) (y := s5) (hIv _ (.tail _ (.tail _ (.tail _ (.tail _ (.tail _ (.head _))))))) rfl
  have b6 : (-1 : Int) ≤ s8 ∧ s8 ≤ (3 : Int) := ivX (q := (8, .negSucc 0, .ofNat 3)) (y := s8) (hIv _ (.tail _ (.tail _ (.tail _ (.tail _ (.tail _ (.tail _ (.head _)))))))) rfl
  have b7 : (-1 : Int) ≤ s9 ∧ s9 ≤ (2 : Int) := ivX (q := (9, .negSucc 0, .ofNat 2)) (y := s9) (hIv _ (.tail _ (.tail _ (.tail _ (.tail _ (.tail _ (.tail _ (.tail _ (.head _))))))))) rfl
  have hCs : ∀ c ∈ ([(.ofNat 0, [(.ofNat 1, 1), (.negSucc 0, 4)]), (.ofNat 1, [(.negSucc 0, 1), (.negSucc 0, 3), (.ofNat 1, 4)]), (.ofNat 0, [(.ofNat 1, 0), (.negSucc 0, 5)]), (.ofNat 1, [(.negSucc 0, 0), (.negSucc 0, 2), (.ofNat 1, 5)]), (.negSucc 0, [(.negSucc 0, 8), (.negSucc 0, 9)])] : List sLn), ∃ x, sE [s0, s1, s2, s3, s4, s5, s6, s7, s8, s9, s10] c = some x ∧ x ≤ 0 := hN.2.2.1
  have c0 : ((0 : Int) + ((1 : Int) * s1 + ((-1 : Int) * s4 + 0))) ≤ 0 := csX (hCs _ (.head _)) rfl
  have c1 : ((1 : Int) + ((-1 : Int) * s1 + ((-1 : Int) * s3 + ((1 : Int) * s4 + 0)))) ≤ 0 := csX (hCs _ (.tail _ (.head _))) rfl
  have c2 : ((0 : Int) + ((1 : Int) * s0 + ((-1 : Int) * s5 + 0))) ≤ 0 := csX (hCs _ (.tail _ (.tail _ (.head _)))) rfl
  have c3 : ((1 : Int) + ((-1 : Int) * s0 + ((-1 : Int) * s2 + ((1 : Int) * s5 + 0)))) ≤ 0 := csX (hCs _ (.tail _ (.tail _ (.tail _ (.head _))))) rfl
  have c4 : ((-1 : Int) + ((-1 : Int) * s8 + ((-1 : Int) * s9 + 0))) ≤ 0 := csX (hCs _ (.tail _ (.tail _ (.tail _ (.tail _ (.head _)))))) rfl
  have hRf : ∀ q ∈ ([((43, .ofNat 176, []), (.ofNat 1, []), 18, .ofNat 2, []), ((2, .ofNat 2, []), (.ofNat 8, []), 20, .ofNat 0, [(.ofNat 1, 6)]), ((2, .ofNat 2, []), (.ofNat 9, []), 21, .ofNat 0, [(.ofNat 1, 7)]), ((4, .ofNat 0, [(.ofNat 1, 6)]), (.ofNat 0, [(.ofNat 10, 4), (.ofNat 1, 5)]), 1, .ofNat 0, [(.ofNat 1, 8)]), ((5, .ofNat 0, [(.ofNat 1, 7)]), (.ofNat 0, [(.ofNat 10, 4), (.ofNat 1, 5)]), 1, .ofNat 0, [(.ofNat 1, 9)])] : List sRf), rfOk [s0, s1, s2, s3, s4, s5, s6, s7, s8, s9, s10] hp q := hH.1
  have g0 : hC hp 176 1 = 2 := by
    have u := rfR0 (xv := (2 : Int)) (c0 := 176) (i0 := 1) (hRf _ (.head _)) (sE_k _ _) (sE_k _ _) (sE_k _ _)
    show hC hp (176) 1 = 2
    omega
  have g1 : s6 = ((rr hp 1 8 : Nat) : Int) := rfR0 (c0 := hC hp 176 1) (hRf _ (.tail _ (.head _))) (by rw [g0]; exact sE_k _ _) (sE_k _ _) (sE_V rfl)
  have g2 : s7 = ((rr hp 1 9 : Nat) : Int) := rfR0 (c0 := hC hp 176 1) (hRf _ (.tail _ (.tail _ (.head _)))) (by rw [g0]; exact sE_k _ _) (sE_k _ _) (sE_V rfl)
  obtain ⟨i3, e3, l3, h3⟩ := rfI (xv := s8) (iv := (10 * s4 + s5)) (hRf _ (.tail _ (.tail _ (.tail _ (.head _))))) (sEv (sE_V rfl) g1.symm) (sEv (y' := ((0 : Int) + ((10 : Int) * s4 + ((1 : Int) * s5 + 0)))) rfl (by omega)) (sE_V rfl)
  have l3 : i3 < 100 := l3
  have h3 : hI hp (rr hp 1 8) i3 = s8 := h3
  obtain ⟨i4, e4, l4, h4⟩ := rfI (xv := s9) (iv := (10 * s4 + s5)) (hRf _ (.tail _ (.tail _ (.tail _ (.tail _ (.head _)))))) (sEv (sE_V rfl) g2.symm) (sEv (y' := ((0 : Int) + ((10 : Int) * s4 + ((1 : Int) * s5 + 0)))) rfl (by omega)) (sE_V rfl)
  have l4 : i4 < 100 := l4
  have h4 : hI hp (rr hp 1 9) i4 = s9 := h4
  have hFc : ∀ q ∈ ([(69, [(.ofNat 0, [(.ofNat 10, 4), (.ofNat 1, 5)]), (.ofNat 0, [(.ofNat 1, 10)]), (.ofNat 0, [(.ofNat 1, 0)]), (.ofNat 0, [(.ofNat 1, 1)]), (.ofNat 0, [(.ofNat 1, 2)]), (.ofNat 0, [(.ofNat 1, 3)])])] : List sFc), fcOk fFS [s0, s1, s2, s3, s4, s5, s6, s7, s8, s9, s10] hp q := hH.2
  have f0 : dF (XT hp) s10 (fun D => ∀ p : Nat, p < 100 → (p : Int) < (10 * s4 + s5) → (fX hp p ↔ ¬ (tkI D p ∨ inR s0 s1 s2 s3 p))) := fcX (ys := [(10 * s4 + s5), s10, s0, s1, s2, s3]) (hFc _ (.head _)) ⟨sEv (y' := ((0 : Int) + ((10 : Int) * s4 + ((1 : Int) * s5 + 0)))) rfl (by omega), sE_V rfl, sE_V rfl, sE_V rfl, sE_V rfl, sE_V rfl, trivial⟩
  exact poX (.head _) rfl hR (all_nil) (all_nil) (all_cons ⟨[(10 * s4 + s5 + 1), s10, s0, s1, s2, s3], ⟨sEv (y' := ((1 : Int) + ((10 : Int) * s4 + ((1 : Int) * s5 + 0)))) rfl (by omega), sE_V rfl, sE_V rfl, sE_V rfl, sE_V rfl, sE_V rfl, trivial⟩, (show dF (XT hp) s10 (fun D => ∀ p : Nat, p < 100 → (p : Int) < (10 * s4 + s5 + 1) → (fX hp p ↔ ¬ (tkI D p ∨ inR s0 s1 s2 s3 p))) from dF_mp f0 (fun D h => tl_s (j := i3) h (fun w => by have w1 := w.1; have w2 := w.2; rw [h3] at w1; rw [show i3 = i4 by omega, h4] at w2; omega) (by omega) (by omega) (by unfold inR; omega)))⟩ (all_nil))
theorem rl438 : ruOk fFS gR438 := by
  intro r hp hO hN hH
  obtain ⟨s0, rfl⟩ := len1 (show r.length = 1 from hN.1)
  have hR := hN.2.1.1
  have hIv : ∀ q ∈ ([(0, .negSucc 2147483647, .ofNat 2147483647)] : sIv), ∃ x, ([s0] : List Int)[q.1]? = some x ∧ q.2.1 ≤ x ∧ x ≤ q.2.2 := hN.2.1.2
  have hRf : ∀ q ∈ ([((43, .ofNat 176, []), (.ofNat 1, []), 18, .ofNat 2, [])] : List sRf), rfOk [s0] hp q := hH.1
  have g0 : hC hp 176 1 = 2 := by
    have u := rfR0 (xv := (2 : Int)) (c0 := 176) (i0 := 1) (hRf _ (.head _)) (sE_k _ _) (sE_k _ _) (sE_k _ _)
    show hC hp (176) 1 = 2
    omega
  have hFc : ∀ q ∈ ([(61, [(.ofNat 0, [(.ofNat 1, 0)])])] : List sFc), fcOk fFS [s0] hp q := hH.2
  have f0 : dF (XT hp) s0 (fun D => ∀ j : Nat, j < 12 → hL hp (rr hp 1 7) j = cd 32 96 (nm D j)) := fcX (ys := [s0]) (hFc _ (.head _)) ⟨sE_V rfl, trivial⟩
  exact poX (.head _) rfl hR (all_nil) (all_nil) (all_cons ⟨[s0], ⟨sE_V rfl, trivial⟩, (show dF (XT hp) s0 (fun D => ∀ j : Nat, j < 12 → hL hp 3 j = cd 32 96 (nm D j)) from (by rw [rr_A hO g0] at f0; exact f0))⟩ (all_nil))
theorem rl439 : ruOk fFS gR439 := by
  intro r hp hO hN hH
  obtain ⟨s0, rfl⟩ := len1 (show r.length = 1 from hN.1)
  have hR := hN.2.1.1
  have hIv : ∀ q ∈ ([(0, .ofNat 1, .ofNat 10)] : sIv), ∃ x, ([s0] : List Int)[q.1]? = some x ∧ q.2.1 ≤ x ∧ x ≤ q.2.2 := hN.2.1.2
  have b0 : (1 : Int) ≤ s0 ∧ s0 ≤ (10 : Int) := ivX (q := (0, .ofNat 1, .ofNat 10)) (y := s0) (hIv _ (.head _)) rfl
  have hRf : ∀ q ∈ ([((98, .ofNat 15, []), (.ofNat 0, []), 1, .ofNat 0, [(.ofNat 1, 0)])] : List sRf), rfOk [s0] hp q := hH.1
  have h0 : hI hp 15 0 = s0 := rfI0 (hRf _ (.head _)) (sE_k _ _) (sE_k _ _) (sE_V rfl)
  have y0 : (1 : Int) ≤ s0 ∧ s0 ≤ (10 : Int) := by rw [← h0]; exact hI_ty hO (by decide) rfl
  have y : (((1 : Int) ≤ s0 ∧ s0 ≤ (1 : Int))) ∨ (((2 : Int) ≤ s0 ∧ s0 ≤ (2 : Int))) ∨ (((3 : Int) ≤ s0 ∧ s0 ≤ (3 : Int))) ∨ (((4 : Int) ≤ s0 ∧ s0 ≤ (4 : Int))) ∨ (((5 : Int) ≤ s0 ∧ s0 ≤ (5 : Int))) ∨ (((6 : Int) ≤ s0 ∧ s0 ≤ (6 : Int))) ∨ (((7 : Int) ≤ s0 ∧ s0 ≤ (7 : Int))) ∨ (((8 : Int) ≤ s0 ∧ s0 ≤ (8 : Int))) ∨ (((9 : Int) ≤ s0 ∧ s0 ≤ (9 : Int))) ∨ (((10 : Int) ≤ s0 ∧ s0 ≤ (10 : Int))) := by omega
  rcases y with y | y | y | y | y | y | y | y | y | y
  · exact poX (.head _) rfl hR (all_cons (ivO (y := s0) rfl (show (1 : Int) ≤ s0 by omega) (show s0 ≤ (1 : Int) by omega)) (all_nil)) (all_nil) (all_nil)
  · exact poX (.tail _ (.head _)) rfl hR (all_cons (ivO (y := s0) rfl (show (2 : Int) ≤ s0 by omega) (show s0 ≤ (2 : Int) by omega)) (all_nil)) (all_nil) (all_nil)
  · exact poX (.tail _ (.tail _ (.head _))) rfl hR (all_cons (ivO (y := s0) rfl (show (3 : Int) ≤ s0 by omega) (show s0 ≤ (3 : Int) by omega)) (all_nil)) (all_nil) (all_nil)
  · exact poX (.tail _ (.tail _ (.tail _ (.head _)))) rfl hR (all_cons (ivO (y := s0) rfl (show (4 : Int) ≤ s0 by omega) (show s0 ≤ (4 : Int) by omega)) (all_nil)) (all_nil) (all_nil)
  · exact poX (.tail _ (.tail _ (.tail _ (.tail _ (.head _))))) rfl hR (all_cons (ivO (y := s0) rfl (show (5 : Int) ≤ s0 by omega) (show s0 ≤ (5 : Int) by omega)) (all_nil)) (all_nil) (all_nil)
  · exact poX (.tail _ (.tail _ (.tail _ (.tail _ (.tail _ (.head _)))))) rfl hR (all_cons (ivO (y := s0) rfl (show (6 : Int) ≤ s0 by omega) (show s0 ≤ (6 : Int) by omega)) (all_nil)) (all_nil) (all_nil)
  · exact poX (.tail _ (.tail _ (.tail _ (.tail _ (.tail _ (.tail _ (.head _))))))) rfl hR (all_cons (ivO (y := s0) rfl (show (7 : Int) ≤ s0 by omega) (show s0 ≤ (7 : Int) by omega)) (all_nil)) (all_nil) (all_nil)
  · exact poX (.tail _ (.tail _ (.tail _ (.tail _ (.tail _ (.tail _ (.tail _ (.head _)))))))) rfl hR (all_cons (ivO (y := s0) rfl (show (8 : Int) ≤ s0 by omega) (show s0 ≤ (8 : Int) by omega)) (all_nil)) (all_nil) (all_nil)
  · exact poX (.tail _ (.tail _ (.tail _ (.tail _ (.tail _ (.tail _ (.tail _ (.tail _ (.head _))))))))) rfl hR (all_cons (ivO (y := s0) rfl (show (9 : Int) ≤ s0 by omega) (show s0 ≤ (9 : Int) by omega)) (all_nil)) (all_nil) (all_nil)
  · exact poX (.tail _ (.tail _ (.tail _ (.tail _ (.tail _ (.tail _ (.tail _ (.tail _ (.tail _ (.head _)))))))))) rfl hR (all_cons (ivO (y := s0) rfl (show (10 : Int) ≤ s0 by omega) (show s0 ≤ (10 : Int) by omega)) (all_nil)) (all_nil) (all_nil)
theorem rl440 : ruOk fFS gR440 := by
  intro r hp hO hN hH
  obtain ⟨s0, rfl⟩ := len1 (show r.length = 1 from hN.1)
  have hR := hN.2.1.1
  have hIv : ∀ q ∈ ([(0, .ofNat 1, .ofNat 10)] : sIv), ∃ x, ([s0] : List Int)[q.1]? = some x ∧ q.2.1 ≤ x ∧ x ≤ q.2.2 := hN.2.1.2
  have b0 : (1 : Int) ≤ s0 ∧ s0 ≤ (10 : Int) := ivX (q := (0, .ofNat 1, .ofNat 10)) (y := s0) (hIv _ (.head _)) rfl
  have hRf : ∀ q ∈ ([((98, .ofNat 15, []), (.ofNat 1, []), 1, .ofNat 0, [(.ofNat 1, 0)])] : List sRf), rfOk [s0] hp q := hH.1
  have h0 : hI hp 15 1 = s0 := rfI0 (hRf _ (.head _)) (sE_k _ _) (sE_k _ _) (sE_V rfl)
  have y0 : (1 : Int) ≤ s0 ∧ s0 ≤ (10 : Int) := by rw [← h0]; exact hI_ty hO (by decide) rfl
  have y : (((1 : Int) ≤ s0 ∧ s0 ≤ (1 : Int))) ∨ (((2 : Int) ≤ s0 ∧ s0 ≤ (2 : Int))) ∨ (((3 : Int) ≤ s0 ∧ s0 ≤ (3 : Int))) ∨ (((4 : Int) ≤ s0 ∧ s0 ≤ (4 : Int))) ∨ (((5 : Int) ≤ s0 ∧ s0 ≤ (5 : Int))) ∨ (((6 : Int) ≤ s0 ∧ s0 ≤ (6 : Int))) ∨ (((7 : Int) ≤ s0 ∧ s0 ≤ (7 : Int))) ∨ (((8 : Int) ≤ s0 ∧ s0 ≤ (8 : Int))) ∨ (((9 : Int) ≤ s0 ∧ s0 ≤ (9 : Int))) ∨ (((10 : Int) ≤ s0 ∧ s0 ≤ (10 : Int))) := by omega
  rcases y with y | y | y | y | y | y | y | y | y | y
  · exact poX (.head _) rfl hR (all_cons (ivO (y := s0) rfl (show (1 : Int) ≤ s0 by omega) (show s0 ≤ (1 : Int) by omega)) (all_nil)) (all_nil) (all_nil)
  · exact poX (.tail _ (.head _)) rfl hR (all_cons (ivO (y := s0) rfl (show (2 : Int) ≤ s0 by omega) (show s0 ≤ (2 : Int) by omega)) (all_nil)) (all_nil) (all_nil)
  · exact poX (.tail _ (.tail _ (.head _))) rfl hR (all_cons (ivO (y := s0) rfl (show (3 : Int) ≤ s0 by omega) (show s0 ≤ (3 : Int) by omega)) (all_nil)) (all_nil) (all_nil)
  · exact poX (.tail _ (.tail _ (.tail _ (.head _)))) rfl hR (all_cons (ivO (y := s0) rfl (show (4 : Int) ≤ s0 by omega) (show s0 ≤ (4 : Int) by omega)) (all_nil)) (all_nil) (all_nil)
  · exact poX (.tail _ (.tail _ (.tail _ (.tail _ (.head _))))) rfl hR (all_cons (ivO (y := s0) rfl (show (5 : Int) ≤ s0 by omega) (show s0 ≤ (5 : Int) by omega)) (all_nil)) (all_nil) (all_nil)
  · exact poX (.tail _ (.tail _ (.tail _ (.tail _ (.tail _ (.head _)))))) rfl hR (all_cons (ivO (y := s0) rfl (show (6 : Int) ≤ s0 by omega) (show s0 ≤ (6 : Int) by omega)) (all_nil)) (all_nil) (all_nil)
  · exact poX (.tail _ (.tail _ (.tail _ (.tail _ (.tail _ (.tail _ (.head _))))))) rfl hR (all_cons (ivO (y := s0) rfl (show (7 : Int) ≤ s0 by omega) (show s0 ≤ (7 : Int) by omega)) (all_nil)) (all_nil) (all_nil)
  · exact poX (.tail _ (.tail _ (.tail _ (.tail _ (.tail _ (.tail _ (.tail _ (.head _)))))))) rfl hR (all_cons (ivO (y := s0) rfl (show (8 : Int) ≤ s0 by omega) (show s0 ≤ (8 : Int) by omega)) (all_nil)) (all_nil) (all_nil)
  · exact poX (.tail _ (.tail _ (.tail _ (.tail _ (.tail _ (.tail _ (.tail _ (.tail _ (.head _))))))))) rfl hR (all_cons (ivO (y := s0) rfl (show (9 : Int) ≤ s0 by omega) (show s0 ≤ (9 : Int) by omega)) (all_nil)) (all_nil) (all_nil)
  · exact poX (.tail _ (.tail _ (.tail _ (.tail _ (.tail _ (.tail _ (.tail _ (.tail _ (.tail _ (.head _)))))))))) rfl hR (all_cons (ivO (y := s0) rfl (show (10 : Int) ≤ s0 by omega) (show s0 ≤ (10 : Int) by omega)) (all_nil)) (all_nil) (all_nil)
theorem rl441 : ruOk fFS gR441 := by
  intro r hp hO hN hH
  obtain ⟨s0, s1, rfl⟩ := len2 (show r.length = 2 from hN.1)
  have hR := hN.2.1.1
  have hIv : ∀ q ∈ ([(0, .negSucc 2147483647, .ofNat 2147483647), (1, .negSucc 2147483647, .ofNat 2147483647)] : sIv), ∃ x, ([s0, s1] : List Int)[q.1]? = some x ∧ q.2.1 ≤ x ∧ x ≤ q.2.2 := hN.2.1.2
  have hRf : ∀ q ∈ ([((0, .ofNat 0, []), (.ofNat 6, []), 114, .ofNat 15, [])] : List sRf), rfOk [s0, s1] hp q := hH.1
  have g0 : hC hp 0 6 = 15 := by
    have u := rfR0 (xv := (15 : Int)) (c0 := 0) (i0 := 6) (hRf _ (.head _)) (sE_k _ _) (sE_k _ _) (sE_k _ _)
    show hC hp (0) 6 = 15
    omega
  have hFc : ∀ q ∈ ([(197, [(.ofNat 0, [(.ofNat 1, 0)]), (.ofNat 0, [(.ofNat 1, 1)])])] : List sFc), fcOk fFS [s0, s1] hp q := hH.2
  have f0 : SAN (XT hp) (nmR hp (xnm hp)) s0 s1 := fcX (ys := [s0, s1]) (hFc _ (.head _)) ⟨sE_V rfl, sE_V rfl, trivial⟩
  exact poX (.head _) rfl hR (all_nil) (all_nil) (all_cons ⟨[s0, s1], ⟨sE_V rfl, sE_V rfl, trivial⟩, (show SAN (XT hp) (nmR hp 16) s0 s1 from (by rw [xn_B hO g0] at f0; exact f0))⟩ (all_nil))
theorem rl442 : ruOk fFS gR442 := by
  intro r hp hO hN hH
  have hr0 := len0 (show r.length = 0 from hN.1)
  subst hr0
  have hR := hN.2.1.1
  have hFc : ∀ q ∈ ([(227, []), (217, [])] : List sFc), fcOk fFS [] hp q := hH.2
  have f0 : ∀ j : Nat, j < 12 → hv hp 213 j = hv hp 16 j := fcX (ys := []) (hFc _ (.head _)) trivial
  have f1 : ∀ c L, isW L → (nmR hp 16 c L ↔ nmM hp c L) := fcX (ys := []) (hFc _ (.tail _ (.head _))) trivial
  exact poX (.head _) rfl hR (all_nil) (all_nil) (all_cons ⟨[], trivial, (show ∀ c L, isW L → (nmR hp 213 c L ↔ nmM hp c L) from alike_l f1 (nmr_eqn f0))⟩ (all_nil))
theorem rl443 : ruOk fFS gR443 := by
  intro r hp hO hN hH
  have hr0 := len0 (show r.length = 0 from hN.1)
  subst hr0
  have hR := hN.2.1.1
  have hFc : ∀ q ∈ ([(229, []), (217, [])] : List sFc), fcOk fFS [] hp q := hH.2
  have f0 : ∀ j : Nat, j < 12 → hv hp 244 j = hv hp 16 j := fcX (ys := []) (hFc _ (.head _)) trivial
  have f1 : ∀ c L, isW L → (nmR hp 16 c L ↔ nmM hp c L) := fcX (ys := []) (hFc _ (.tail _ (.head _))) trivial
  exact poX (.head _) rfl hR (all_nil) (all_nil) (all_cons ⟨[], trivial, (show ∀ c L, isW L → (nmR hp 244 c L ↔ nmM hp c L) from alike_l f1 (nmr_eqn f0))⟩ (all_nil))
theorem rl444 : ruOk fFS gR444 := by
  intro r hp hO hN hH
  have hr0 := len0 (show r.length = 0 from hN.1)
  subst hr0
  have hR := hN.2.1.1
  have hFc : ∀ q ∈ ([(226, []), (231, [])] : List sFc), fcOk fFS [] hp q := hH.2
  have f0 : ∀ j : Nat, j < 12 → hv hp 16 j = hv hp 213 j := fcX (ys := []) (hFc _ (.head _)) trivial
  have f1 : ∀ c L, isW L → (nmR hp 213 c L ↔ nmK hp 0 c L) := fcX (ys := []) (hFc _ (.tail _ (.head _))) trivial
  exact poX (.head _) rfl hR (all_nil) (all_nil) (all_cons ⟨[], trivial, (show ∀ c L, isW L → (nmR hp 16 c L ↔ nmK hp 0 c L) from alike_l f1 (nmr_eqn f0))⟩ (all_nil))
theorem rl445 : ruOk fFS gR445 := by
  intro r hp hO hN hH
  have hr0 := len0 (show r.length = 0 from hN.1)
  subst hr0
  have hR := hN.2.1.1
  have hFc : ∀ q ∈ ([(228, []), (236, [])] : List sFc), fcOk fFS [] hp q := hH.2
  have f0 : ∀ j : Nat, j < 12 → hv hp 16 j = hv hp 244 j := fcX (ys := []) (hFc _ (.head _)) trivial
  have f1 : ∀ c L, isW L → (nmR hp 244 c L ↔ nmK hp 1 c L) := fcX (ys := []) (hFc _ (.tail _ (.head _))) trivial
  exact poX (.head _) rfl hR (all_nil) (all_nil) (all_cons ⟨[], trivial, (show ∀ c L, isW L → (nmR hp 16 c L ↔ nmK hp 1 c L) from alike_l f1 (nmr_eqn f0))⟩ (all_nil))
theorem rl476 : ruOk fFS gR476 := by
  intro r hp hO hN hH
  obtain ⟨s0, s1, s2, s3, s4, s5, s6, s7, rfl⟩ := len8 (show r.length = 8 from hN.1)
  have hR := hN.2.1.1
  have hIv : ∀ q ∈ ([(0, .negSucc 2147483647, .ofNat 2147483647), (1, .negSucc 2147483647, .ofNat 2147483647), (2, .negSucc 2147483647, .ofNat 2147483647), (3, .negSucc 2147483647, .ofNat 2147483647), (4, .negSucc 2147483647, .ofNat 2147483647), (5, .negSucc 2147483647, .ofNat 2147483647), (6, .negSucc 2147483647, .ofNat 2147483647), (7, .negSucc 2147483647, .ofNat 2147483647)] : sIv), ∃ x, ([s0, s1, s2, s3, s4, s5, s6, s7] : List Int)[q.1]? = some x ∧ q.2.1 ≤ x ∧ x ≤ q.2.2 := hN.2.1.2
  have hFc : ∀ q ∈ ([(206, [(.ofNat 0, [(.ofNat 1, 0)]), (.ofNat 0, [(.ofNat 1, 1)]), (.ofNat 0, [(.ofNat 1, 2)]), (.ofNat 0, [(.ofNat 1, 3)])]), (116, [(.ofNat 0, [(.ofNat 1, 0)]), (.ofNat 0, [(.ofNat 1, 4)]), (.ofNat 0, [(.ofNat 1, 5)]), (.ofNat 0, [(.ofNat 1, 6)]), (.ofNat 0, [(.ofNat 1, 7)])])] : List sFc), fcOk fFS [s0, s1, s2, s3, s4, s5, s6, s7] hp q := hH.2
  have f0 : SG (MT hp) (nmM hp) s0 s1 s2 s3 := fcX (ys := [s0, s1, s2, s3]) (hFc _ (.head _)) ⟨sE_V rfl, sE_V rfl, sE_V rfl, sE_V rfl, trivial⟩
  have f1 : TKB (MT hp) s0 s4 s5 s6 s7 := fcX (ys := [s0, s4, s5, s6, s7]) (hFc _ (.tail _ (.head _))) ⟨sE_V rfl, sE_V rfl, sE_V rfl, sE_V rfl, sE_V rfl, trivial⟩
  exact poX (.head _) rfl hR (all_nil) (all_nil) (all_cons ⟨[s0, s1, s2, s3, s4, s5, s6, s7], ⟨sE_V rfl, sE_V rfl, sE_V rfl, sE_V rfl, sE_V rfl, sE_V rfl, sE_V rfl, sE_V rfl, trivial⟩, (show SHq (MT hp) (nmM hp) s0 s1 s2 s3 s4 s5 s6 s7 from ⟨f0, f1⟩)⟩ (all_nil))
theorem rl477 : ruOk fFS gR477 := by
  intro r hp hO hN hH
  obtain ⟨s0, s1, s2, s3, s4, s5, rfl⟩ := len6 (show r.length = 6 from hN.1)
  have hR := hN.2.1.1
  have hIv : ∀ q ∈ ([(0, .negSucc 2147483647, .ofNat 2147483647), (1, .negSucc 2147483647, .ofNat 2147483647), (2, .negSucc 2147483647, .ofNat 2147483647), (3, .negSucc 2147483647, .ofNat 2147483647), (4, .negSucc 2147483647, .ofNat 2147483647), (5, .negSucc 2147483647, .ofNat 2147483647)] : sIv), ∃ x, ([s0, s1, s2, s3, s4, s5] : List Int)[q.1]? = some x ∧ q.2.1 ≤ x ∧ x ≤ q.2.2 := hN.2.1.2
  have hFc : ∀ q ∈ ([(206, [(.ofNat 0, [(.ofNat 1, 0)]), (.ofNat 0, [(.ofNat 1, 1)]), (.ofNat 0, [(.ofNat 1, 2)]), (.ofNat 0, [(.ofNat 1, 3)])]), (117, [(.ofNat 0, [(.ofNat 1, 0)]), (.ofNat 0, [(.ofNat 1, 4)]), (.ofNat 0, [(.ofNat 1, 5)])])] : List sFc), fcOk fFS [s0, s1, s2, s3, s4, s5] hp q := hH.2
  have f0 : SG (MT hp) (nmM hp) s0 s1 s2 s3 := fcX (ys := [s0, s1, s2, s3]) (hFc _ (.head _)) ⟨sE_V rfl, sE_V rfl, sE_V rfl, sE_V rfl, trivial⟩
  have f1 : TW (MT hp) s0 s4 s5 := fcX (ys := [s0, s4, s5]) (hFc _ (.tail _ (.head _))) ⟨sE_V rfl, sE_V rfl, sE_V rfl, trivial⟩
  obtain ⟨s6, ev⟩ : ∃ y : Int, y = (wix (bs (MT hp).1 s4 s5)) := ⟨_, rfl⟩
  have u := wix_r (bs (MT hp).1 s4 s5)
  rw [← ev] at u
  exact poXu (u := [s6]) (.head _) rfl hR (by rw [wMn_eq, wMx_eq]; intro x hx; simp only [List.mem_cons, List.not_mem_nil, or_false] at hx; omega) (all_cons (ivO (y := s6) rfl (show (-1 : Int) ≤ s6 by omega) (show s6 ≤ (29 : Int) by omega)) (all_nil)) (all_nil) (all_cons ⟨[s0, s1, s2, s3, 1, s4, s5, s6], ⟨sE_V rfl, sE_V rfl, sE_V rfl, sE_V rfl, sE_k _ _, sE_V rfl, sE_V rfl, sE_V rfl, trivial⟩, (show SHq (MT hp) (nmM hp) s0 s1 s2 s3 (1 : Int) s4 s5 s6 from ⟨f0, tw_tk (MT_ok hO) f1 ev⟩)⟩ (all_nil))
theorem rl537 : ruOk fFS gR537 := by
  intro r hp hO hN hH
  obtain ⟨s0, s1, s2, s3, s4, s5, s6, s7, s8, s9, s10, rfl⟩ := len11 (show r.length = 11 from hN.1)
  have hR := hN.2.1.1
  have hIv : ∀ q ∈ ([(2, .negSucc 2147483647, .ofNat 2147483647), (3, .negSucc 2147483647, .ofNat 2147483647), (4, .negSucc 2147483647, .ofNat 2147483647), (5, .negSucc 2147483647, .ofNat 2147483647), (6, .negSucc 2147483647, .ofNat 2147483647), (7, .ofNat 1, .ofNat 1), (8, .negSucc 2147483647, .ofNat 2147483647), (9, .negSucc 2147483647, .ofNat 2147483647), (10, .negSucc 2147483647, .ofNat 2147483647)] : sIv), ∃ x, ([s0, s1, s2, s3, s4, s5, s6, s7, s8, s9, s10] : List Int)[q.1]? = some x ∧ q.2.1 ≤ x ∧ x ≤ q.2.2 := hN.2.1.2
  have b5 : (1 : Int) ≤ s7 ∧ s7 ≤ (1 : Int) := ivX (q := (7, .ofNat 1, .ofNat 1)) (y := s7) (hIv _ (.tail _ (.tail _ (.tail _ (.tail _ (.tail _ (.head _))))))) rfl
  have hCs : ∀ c ∈ ([(.ofNat 1, [(.negSucc 0, 0), (.ofNat 1, 1)])] : List sLn), ∃ x, sE [s0, s1, s2, s3, s4, s5, s6, s7, s8, s9, s10] c = some x ∧ x ≤ 0 := hN.2.2.1
  have c0 : ((1 : Int) + ((-1 : Int) * s0 + ((1 : Int) * s1 + 0))) ≤ 0 := csX (hCs _ (.head _)) rfl
  have hRf : ∀ q ∈ ([((78, .ofNat 273, []), (.ofNat 17, []), 5, .ofNat 0, [(.ofNat 1, 1)])] : List sRf), rfOk [s0, s1, s2, s3, s4, s5, s6, s7, s8, s9, s10] hp q := hH.1
  have h0 : hL hp 273 17 = s1 := rfL0 (hRf _ (.head _)) (sE_k _ _) (sE_k _ _) (sE_V rfl)
  have hFc : ∀ q ∈ ([(134, [(.ofNat 0, [(.ofNat 1, 0)]), (.ofNat 0, [(.ofNat 1, 2)])]), (207, [(.ofNat 0, [(.ofNat 1, 3)]), (.ofNat 0, [(.ofNat 1, 4)]), (.ofNat 0, [(.ofNat 1, 5)]), (.ofNat 0, [(.ofNat 1, 6)]), (.ofNat 0, [(.ofNat 1, 7)]), (.ofNat 0, [(.ofNat 1, 8)]), (.ofNat 0, [(.ofNat 1, 9)]), (.ofNat 0, [(.ofNat 1, 10)])]), (131, [(.ofNat 0, [(.ofNat 1, 8)]), (.ofNat 0, [(.ofNat 1, 9)])])] : List sFc), fcOk fFS [s0, s1, s2, s3, s4, s5, s6, s7, s8, s9, s10] hp q := hH.2
  have f0 : ∃ j : Nat, j < 30 ∧ s2 = (j : Int) ∧ s0 = cd 256 0 (wrd j) := fcX (ys := [s0, s2]) (hFc _ (.head _)) ⟨sE_V rfl, sE_V rfl, trivial⟩
  have f1 : SHq (MT hp) (nmM hp) s3 s4 s5 s6 s7 s8 s9 s10 := fcX (ys := [s3, s4, s5, s6, s7, s8, s9, s10]) (hFc _ (.tail _ (.head _))) ⟨sE_V rfl, sE_V rfl, sE_V rfl, sE_V rfl, sE_V rfl, sE_V rfl, sE_V rfl, sE_V rfl, trivial⟩
  have f2 : isW (bs (MT hp).1 s8 s9) ∧ hL hp 273 17 = cd 256 0 (bs (MT hp).1 s8 s9) := fcX (ys := [s8, s9]) (hFc _ (.tail _ (.tail _ (.head _)))) ⟨sE_V rfl, sE_V rfl, trivial⟩
  have u := isw_nS (w := s1) (MT_ok hO) f0 f1 (by omega) ⟨f2.1, by rw [← h0]; exact f2.2⟩ (by omega)
  have y : (((1 : Int) + ((-1 : Int) * s2 + ((1 : Int) * s10 + 0))) ≤ 0) ∨ (((1 : Int) + ((1 : Int) * s2 + ((-1 : Int) * s10 + 0))) ≤ 0) := by omega
  rcases y with y | y
  · exact poX (.head _) rfl hR (all_nil) (all_cons ⟨((1 : Int) + ((-1 : Int) * s2 + ((1 : Int) * s10 + 0))), rfl, (show ((1 : Int) + ((-1 : Int) * s2 + ((1 : Int) * s10 + 0))) ≤ 0 by omega)⟩ (all_nil)) (all_nil)
  · exact poX (.tail _ (.head _)) rfl hR (all_nil) (all_cons ⟨((1 : Int) + ((1 : Int) * s2 + ((-1 : Int) * s10 + 0))), rfl, (show ((1 : Int) + ((1 : Int) * s2 + ((-1 : Int) * s10 + 0))) ≤ 0 by omega)⟩ (all_nil)) (all_nil)
theorem rl538 : ruOk fFS gR538 := by
  intro r hp hO hN hH
  obtain ⟨s0, s1, s2, s3, s4, s5, s6, s7, s8, s9, s10, rfl⟩ := len11 (show r.length = 11 from hN.1)
  have hR := hN.2.1.1
  have hIv : ∀ q ∈ ([(2, .negSucc 2147483647, .ofNat 2147483647), (3, .negSucc 2147483647, .ofNat 2147483647), (4, .negSucc 2147483647, .ofNat 2147483647), (5, .negSucc 2147483647, .ofNat 2147483647), (6, .negSucc 2147483647, .ofNat 2147483647), (7, .ofNat 1, .ofNat 1), (8, .negSucc 2147483647, .ofNat 2147483647), (9, .negSucc 2147483647, .ofNat 2147483647), (10, .negSucc 2147483647, .ofNat 2147483647)] : sIv), ∃ x, ([s0, s1, s2, s3, s4, s5, s6, s7, s8, s9, s10] : List Int)[q.1]? = some x ∧ q.2.1 ≤ x ∧ x ≤ q.2.2 := hN.2.1.2
  have b5 : (1 : Int) ≤ s7 ∧ s7 ≤ (1 : Int) := ivX (q := (7, .ofNat 1, .ofNat 1)) (y := s7) (hIv _ (.tail _ (.tail _ (.tail _ (.tail _ (.tail _ (.head _))))))) rfl
  have hCs : ∀ c ∈ ([(.ofNat 1, [(.ofNat 1, 0), (.negSucc 0, 1)])] : List sLn), ∃ x, sE [s0, s1, s2, s3, s4, s5, s6, s7, s8, s9, s10] c = some x ∧ x ≤ 0 := hN.2.2.1
  have c0 : ((1 : Int) + ((1 : Int) * s0 + ((-1 : Int) * s1 + 0))) ≤ 0 := csX (hCs _ (.head _)) rfl
  have hRf : ∀ q ∈ ([((78, .ofNat 273, []), (.ofNat 17, []), 5, .ofNat 0, [(.ofNat 1, 1)])] : List sRf), rfOk [s0, s1, s2, s3, s4, s5, s6, s7, s8, s9, s10] hp q := hH.1
  have h0 : hL hp 273 17 = s1 := rfL0 (hRf _ (.head _)) (sE_k _ _) (sE_k _ _) (sE_V rfl)
  have hFc : ∀ q ∈ ([(134, [(.ofNat 0, [(.ofNat 1, 0)]), (.ofNat 0, [(.ofNat 1, 2)])]), (207, [(.ofNat 0, [(.ofNat 1, 3)]), (.ofNat 0, [(.ofNat 1, 4)]), (.ofNat 0, [(.ofNat 1, 5)]), (.ofNat 0, [(.ofNat 1, 6)]), (.ofNat 0, [(.ofNat 1, 7)]), (.ofNat 0, [(.ofNat 1, 8)]), (.ofNat 0, [(.ofNat 1, 9)]), (.ofNat 0, [(.ofNat 1, 10)])]), (131, [(.ofNat 0, [(.ofNat 1, 8)]), (.ofNat 0, [(.ofNat 1, 9)])])] : List sFc), fcOk fFS [s0, s1, s2, s3, s4, s5, s6, s7, s8, s9, s10] hp q := hH.2
  have f0 : ∃ j : Nat, j < 30 ∧ s2 = (j : Int) ∧ s0 = cd 256 0 (wrd j) := fcX (ys := [s0, s2]) (hFc _ (.head _)) ⟨sE_V rfl, sE_V rfl, trivial⟩
  have f1 : SHq (MT hp) (nmM hp) s3 s4 s5 s6 s7 s8 s9 s10 := fcX (ys := [s3, s4, s5, s6, s7, s8, s9, s10]) (hFc _ (.tail _ (.head _))) ⟨sE_V rfl, sE_V rfl, sE_V rfl, sE_V rfl, sE_V rfl, sE_V rfl, sE_V rfl, sE_V rfl, trivial⟩
  have f2 : isW (bs (MT hp).1 s8 s9) ∧ hL hp 273 17 = cd 256 0 (bs (MT hp).1 s8 s9) := fcX (ys := [s8, s9]) (hFc _ (.tail _ (.tail _ (.head _)))) ⟨sE_V rfl, sE_V rfl, trivial⟩
  have u := isw_nS (w := s1) (MT_ok hO) f0 f1 (by omega) ⟨f2.1, by rw [← h0]; exact f2.2⟩ (by omega)
  have y : (((1 : Int) + ((-1 : Int) * s2 + ((1 : Int) * s10 + 0))) ≤ 0) ∨ (((1 : Int) + ((1 : Int) * s2 + ((-1 : Int) * s10 + 0))) ≤ 0) := by omega
  rcases y with y | y
  · exact poX (.head _) rfl hR (all_nil) (all_cons ⟨((1 : Int) + ((-1 : Int) * s2 + ((1 : Int) * s10 + 0))), rfl, (show ((1 : Int) + ((-1 : Int) * s2 + ((1 : Int) * s10 + 0))) ≤ 0 by omega)⟩ (all_nil)) (all_nil)
  · exact poX (.tail _ (.head _)) rfl hR (all_nil) (all_cons ⟨((1 : Int) + ((1 : Int) * s2 + ((-1 : Int) * s10 + 0))), rfl, (show ((1 : Int) + ((1 : Int) * s2 + ((-1 : Int) * s10 + 0))) ≤ 0 by omega)⟩ (all_nil)) (all_nil)
theorem rl550 : ruOk fFS gR550 := by
  intro r hp hO hN hH
  obtain ⟨s0, s1, s2, s3, s4, s5, s6, s7, s8, s9, s10, rfl⟩ := len11 (show r.length = 11 from hN.1)
  have hR := hN.2.1.1
  have hIv : ∀ q ∈ ([(2, .negSucc 2147483647, .ofNat 2147483647), (3, .negSucc 2147483647, .ofNat 2147483647), (4, .negSucc 2147483647, .ofNat 2147483647), (5, .negSucc 2147483647, .ofNat 2147483647), (6, .negSucc 2147483647, .ofNat 2147483647), (7, .ofNat 1, .ofNat 1), (8, .negSucc 2147483647, .ofNat 2147483647), (9, .negSucc 2147483647, .ofNat 2147483647), (10, .negSucc 2147483647, .ofNat 2147483647)] : sIv), ∃ x, ([s0, s1, s2, s3, s4, s5, s6, s7, s8, s9, s10] : List Int)[q.1]? = some x ∧ q.2.1 ≤ x ∧ x ≤ q.2.2 := hN.2.1.2
  have b5 : (1 : Int) ≤ s7 ∧ s7 ≤ (1 : Int) := ivX (q := (7, .ofNat 1, .ofNat 1)) (y := s7) (hIv _ (.tail _ (.tail _ (.tail _ (.tail _ (.tail _ (.head _))))))) rfl
  have hCs : ∀ c ∈ ([(.ofNat 0, [(.negSucc 0, 0), (.ofNat 1, 1)]), (.ofNat 0, [(.ofNat 1, 0), (.negSucc 0, 1)])] : List sLn), ∃ x, sE [s0, s1, s2, s3, s4, s5, s6, s7, s8, s9, s10] c = some x ∧ x ≤ 0 := hN.2.2.1
  have c0 : ((0 : Int) + ((-1 : Int) * s0 + ((1 : Int) * s1 + 0))) ≤ 0 := csX (hCs _ (.head _)) rfl
  have c1 : ((0 : Int) + ((1 : Int) * s0 + ((-1 : Int) * s1 + 0))) ≤ 0 := csX (hCs _ (.tail _ (.head _))) rfl
  have hRf : ∀ q ∈ ([((78, .ofNat 273, []), (.ofNat 17, []), 5, .ofNat 0, [(.ofNat 1, 1)])] : List sRf), rfOk [s0, s1, s2, s3, s4, s5, s6, s7, s8, s9, s10] hp q := hH.1
  have h0 : hL hp 273 17 = s1 := rfL0 (hRf _ (.head _)) (sE_k _ _) (sE_k _ _) (sE_V rfl)
  have hFc : ∀ q ∈ ([(134, [(.ofNat 0, [(.ofNat 1, 0)]), (.ofNat 0, [(.ofNat 1, 2)])]), (207, [(.ofNat 0, [(.ofNat 1, 3)]), (.ofNat 0, [(.ofNat 1, 4)]), (.ofNat 0, [(.ofNat 1, 5)]), (.ofNat 0, [(.ofNat 1, 6)]), (.ofNat 0, [(.ofNat 1, 7)]), (.ofNat 0, [(.ofNat 1, 8)]), (.ofNat 0, [(.ofNat 1, 9)]), (.ofNat 0, [(.ofNat 1, 10)])]), (131, [(.ofNat 0, [(.ofNat 1, 8)]), (.ofNat 0, [(.ofNat 1, 9)])])] : List sFc), fcOk fFS [s0, s1, s2, s3, s4, s5, s6, s7, s8, s9, s10] hp q := hH.2
  have f0 : ∃ j : Nat, j < 30 ∧ s2 = (j : Int) ∧ s0 = cd 256 0 (wrd j) := fcX (ys := [s0, s2]) (hFc _ (.head _)) ⟨sE_V rfl, sE_V rfl, trivial⟩
  have f1 : SHq (MT hp) (nmM hp) s3 s4 s5 s6 s7 s8 s9 s10 := fcX (ys := [s3, s4, s5, s6, s7, s8, s9, s10]) (hFc _ (.tail _ (.head _))) ⟨sE_V rfl, sE_V rfl, sE_V rfl, sE_V rfl, sE_V rfl, sE_V rfl, sE_V rfl, sE_V rfl, trivial⟩
  have f2 : isW (bs (MT hp).1 s8 s9) ∧ hL hp 273 17 = cd 256 0 (bs (MT hp).1 s8 s9) := fcX (ys := [s8, s9]) (hFc _ (.tail _ (.tail _ (.head _)))) ⟨sE_V rfl, sE_V rfl, trivial⟩
  have u := isw_yS (w := s1) (MT_ok hO) f0 f1 (by omega) ⟨f2.1, by rw [← h0]; exact f2.2⟩ (by omega)
  exact poX (.head _) rfl hR (all_nil) (all_cons ⟨((0 : Int) + ((-1 : Int) * s2 + ((1 : Int) * s10 + 0))), rfl, (show ((0 : Int) + ((-1 : Int) * s2 + ((1 : Int) * s10 + 0))) ≤ 0 by omega)⟩ (all_cons ⟨((0 : Int) + ((1 : Int) * s2 + ((-1 : Int) * s10 + 0))), rfl, (show ((0 : Int) + ((1 : Int) * s2 + ((-1 : Int) * s10 + 0))) ≤ 0 by omega)⟩ (all_nil))) (all_nil)
theorem rl642 : ruOk fFS gR642 := by
  intro r hp hO hN hH
  obtain ⟨s0, s1, s2, s3, s4, s5, s6, s7, s8, s9, rfl⟩ := len10 (show r.length = 10 from hN.1)
  have hR := hN.2.1.1
  have hIv : ∀ q ∈ ([(0, .ofNat 1, .ofNat 1), (2, .negSucc 2147483647, .ofNat 2147483647), (3, .negSucc 2147483647, .ofNat 2147483647), (4, .negSucc 2147483647, .ofNat 2147483647), (5, .negSucc 2147483647, .ofNat 2147483647), (6, .ofNat 1, .ofNat 1), (7, .negSucc 2147483647, .ofNat 2147483647), (8, .negSucc 2147483647, .ofNat 2147483647), (9, .negSucc 2147483647, .ofNat 2147483647)] : sIv), ∃ x, ([s0, s1, s2, s3, s4, s5, s6, s7, s8, s9] : List Int)[q.1]? = some x ∧ q.2.1 ≤ x ∧ x ≤ q.2.2 := hN.2.1.2
  have b0 : (1 : Int) ≤ s0 ∧ s0 ≤ (1 : Int) := ivX (q := (0, .ofNat 1, .ofNat 1)) (y := s0) (hIv _ (.head _)) rfl
  have b5 : (1 : Int) ≤ s6 ∧ s6 ≤ (1 : Int) := ivX (q := (6, .ofNat 1, .ofNat 1)) (y := s6) (hIv _ (.tail _ (.tail _ (.tail _ (.tail _ (.tail _ (.head _))))))) rfl
  have b8 : (-2147483648 : Int) ≤ s9 ∧ s9 ≤ (2147483647 : Int) := ivX (q := (9, .negSucc 2147483647, .ofNat 2147483647)) (y := s9) (hIv _ (.tail _ (.tail _ (.tail _ (.tail _ (.tail _ (.tail _ (.tail _ (.tail _ (.head _)))))))))) rfl
  have hRf : ∀ q ∈ ([((78, .ofNat 273, []), (.ofNat 17, []), 5, .ofNat 0, [(.ofNat 1, 1)])] : List sRf), rfOk [s0, s1, s2, s3, s4, s5, s6, s7, s8, s9] hp q := hH.1
  have h0 : hL hp 273 17 = s1 := rfL0 (hRf _ (.head _)) (sE_k _ _) (sE_k _ _) (sE_V rfl)
  have hFc : ∀ q ∈ ([(133, [(.ofNat 30, []), (.ofNat 0, [(.ofNat 1, 0)]), (.ofNat 0, [(.ofNat 1, 1)])]), (132, []), (207, [(.ofNat 0, [(.ofNat 1, 2)]), (.ofNat 0, [(.ofNat 1, 3)]), (.ofNat 0, [(.ofNat 1, 4)]), (.ofNat 0, [(.ofNat 1, 5)]), (.ofNat 0, [(.ofNat 1, 6)]), (.ofNat 0, [(.ofNat 1, 7)]), (.ofNat 0, [(.ofNat 1, 8)]), (.ofNat 0, [(.ofNat 1, 9)])]), (131, [(.ofNat 0, [(.ofNat 1, 7)]), (.ofNat 0, [(.ofNat 1, 8)])])] : List sFc), fcOk fFS [s0, s1, s2, s3, s4, s5, s6, s7, s8, s9] hp q := hH.2
  have f0 : (s0 = 1 ∧ ∀ i : Nat, i < 30 → (i : Int) < (30 : Int) → hL hp 279 i ≠ s1) ∨ (s0 = 0 ∧ ∃ i : Nat, i < 30 ∧ (i : Int) < (30 : Int) ∧ hL hp 279 i = s1) := fcX (ys := [30, s0, s1]) (hFc _ (.head _)) ⟨sE_k _ _, sE_V rfl, sE_V rfl, trivial⟩
  have f1 : ∀ i : Nat, i < 30 → hL hp 279 i = cd 256 0 (wrd (rsv i)) := fcX (ys := []) (hFc _ (.tail _ (.head _))) trivial
  have f2 : SHq (MT hp) (nmM hp) s2 s3 s4 s5 s6 s7 s8 s9 := fcX (ys := [s2, s3, s4, s5, s6, s7, s8, s9]) (hFc _ (.tail _ (.tail _ (.head _)))) ⟨sE_V rfl, sE_V rfl, sE_V rfl, sE_V rfl, sE_V rfl, sE_V rfl, sE_V rfl, sE_V rfl, trivial⟩
  have f3 : isW (bs (MT hp).1 s7 s8) ∧ hL hp 273 17 = cd 256 0 (bs (MT hp).1 s7 s8) := fcX (ys := [s7, s8]) (hFc _ (.tail _ (.tail _ (.tail _ (.head _))))) ⟨sE_V rfl, sE_V rfl, trivial⟩
  have u := inm_eS (w := s1) (R := fun i => hL hp 279 i) (MT_ok hO) f1 f0 rfl f2 (by omega) ⟨f3.1, by rw [← h0]; exact f3.2⟩
  exact poX (.head _) rfl hR (all_cons (ivO (y := s9) rfl (show (-1 : Int) ≤ s9 by omega) (show s9 ≤ (-1 : Int) by omega)) (all_nil)) (all_nil) (all_nil)
theorem rl643 : ruOk fFS gR643 := by
  intro r hp hO hN hH
  obtain ⟨s0, s1, s2, s3, s4, s5, s6, s7, s8, s9, rfl⟩ := len10 (show r.length = 10 from hN.1)
  have hR := hN.2.1.1
  have hIv : ∀ q ∈ ([(0, .ofNat 0, .ofNat 0), (2, .negSucc 2147483647, .ofNat 2147483647), (3, .negSucc 2147483647, .ofNat 2147483647), (4, .negSucc 2147483647, .ofNat 2147483647), (5, .negSucc 2147483647, .ofNat 2147483647), (6, .ofNat 1, .ofNat 1), (7, .negSucc 2147483647, .ofNat 2147483647), (8, .negSucc 2147483647, .ofNat 2147483647), (9, .negSucc 2147483647, .ofNat 2147483647)] : sIv), ∃ x, ([s0, s1, s2, s3, s4, s5, s6, s7, s8, s9] : List Int)[q.1]? = some x ∧ q.2.1 ≤ x ∧ x ≤ q.2.2 := hN.2.1.2
  have b0 : (0 : Int) ≤ s0 ∧ s0 ≤ (0 : Int) := ivX (q := (0, .ofNat 0, .ofNat 0)) (y := s0) (hIv _ (.head _)) rfl
  have b5 : (1 : Int) ≤ s6 ∧ s6 ≤ (1 : Int) := ivX (q := (6, .ofNat 1, .ofNat 1)) (y := s6) (hIv _ (.tail _ (.tail _ (.tail _ (.tail _ (.tail _ (.head _))))))) rfl
  have b8 : (-2147483648 : Int) ≤ s9 ∧ s9 ≤ (2147483647 : Int) := ivX (q := (9, .negSucc 2147483647, .ofNat 2147483647)) (y := s9) (hIv _ (.tail _ (.tail _ (.tail _ (.tail _ (.tail _ (.tail _ (.tail _ (.tail _ (.head _)))))))))) rfl
  have hRf : ∀ q ∈ ([((78, .ofNat 273, []), (.ofNat 17, []), 5, .ofNat 0, [(.ofNat 1, 1)])] : List sRf), rfOk [s0, s1, s2, s3, s4, s5, s6, s7, s8, s9] hp q := hH.1
  have h0 : hL hp 273 17 = s1 := rfL0 (hRf _ (.head _)) (sE_k _ _) (sE_k _ _) (sE_V rfl)
  have hFc : ∀ q ∈ ([(133, [(.ofNat 30, []), (.ofNat 0, [(.ofNat 1, 0)]), (.ofNat 0, [(.ofNat 1, 1)])]), (132, []), (207, [(.ofNat 0, [(.ofNat 1, 2)]), (.ofNat 0, [(.ofNat 1, 3)]), (.ofNat 0, [(.ofNat 1, 4)]), (.ofNat 0, [(.ofNat 1, 5)]), (.ofNat 0, [(.ofNat 1, 6)]), (.ofNat 0, [(.ofNat 1, 7)]), (.ofNat 0, [(.ofNat 1, 8)]), (.ofNat 0, [(.ofNat 1, 9)])]), (131, [(.ofNat 0, [(.ofNat 1, 7)]), (.ofNat 0, [(.ofNat 1, 8)])])] : List sFc), fcOk fFS [s0, s1, s2, s3, s4, s5, s6, s7, s8, s9] hp q := hH.2
  have f0 : (s0 = 1 ∧ ∀ i : Nat, i < 30 → (i : Int) < (30 : Int) → hL hp 279 i ≠ s1) ∨ (s0 = 0 ∧ ∃ i : Nat, i < 30 ∧ (i : Int) < (30 : Int) ∧ hL hp 279 i = s1) := fcX (ys := [30, s0, s1]) (hFc _ (.head _)) ⟨sE_k _ _, sE_V rfl, sE_V rfl, trivial⟩
  have f1 : ∀ i : Nat, i < 30 → hL hp 279 i = cd 256 0 (wrd (rsv i)) := fcX (ys := []) (hFc _ (.tail _ (.head _))) trivial
  have f2 : SHq (MT hp) (nmM hp) s2 s3 s4 s5 s6 s7 s8 s9 := fcX (ys := [s2, s3, s4, s5, s6, s7, s8, s9]) (hFc _ (.tail _ (.tail _ (.head _)))) ⟨sE_V rfl, sE_V rfl, sE_V rfl, sE_V rfl, sE_V rfl, sE_V rfl, sE_V rfl, sE_V rfl, trivial⟩
  have f3 : isW (bs (MT hp).1 s7 s8) ∧ hL hp 273 17 = cd 256 0 (bs (MT hp).1 s7 s8) := fcX (ys := [s7, s8]) (hFc _ (.tail _ (.tail _ (.tail _ (.head _))))) ⟨sE_V rfl, sE_V rfl, trivial⟩
  have u := inm_eS (w := s1) (R := fun i => hL hp 279 i) (MT_ok hO) f1 f0 rfl f2 (by omega) ⟨f3.1, by rw [← h0]; exact f3.2⟩
  exact poX (.head _) rfl hR (all_cons (ivO (y := s9) rfl (show (0 : Int) ≤ s9 by omega) (show s9 ≤ (29 : Int) by omega)) (all_nil)) (all_nil) (all_nil)
theorem rl745 : ruOk fFS gR745 := by
  intro r hp hO hN hH
  obtain ⟨s0, rfl⟩ := len1 (show r.length = 1 from hN.1)
  have hR := hN.2.1.1
  have hIv : ∀ q ∈ ([(0, .ofNat 258, .ofNat 258)] : sIv), ∃ x, ([s0] : List Int)[q.1]? = some x ∧ q.2.1 ≤ x ∧ x ≤ q.2.2 := hN.2.1.2
  have b0 : (258 : Int) ≤ s0 ∧ s0 ≤ (258 : Int) := ivX (q := (0, .ofNat 258, .ofNat 258)) (y := s0) (hIv _ (.head _)) rfl
  have hFc : ∀ q ∈ ([(8, [(.ofNat 0, [(.ofNat 1, 0)])])] : List sFc), fcOk fFS [s0] hp q := hH.2
  have f0 : fEq 275 0 276 0 401 s0 hp := fcX (ys := [s0]) (hFc _ (.head _)) ⟨sE_V rfl, trivial⟩
  exact poX (.head _) rfl hR (all_nil) (all_nil) (all_cons ⟨[], trivial, (show ∀ j : Nat, 2 ≤ j → j < 5 → hI hp 275 j = hI hp 276 j from fun j h2 hj => by have u := f0 j (by omega) (by omega); rw [Nat.zero_add] at u; exact u)⟩ (all_nil))
theorem rl747 : ruOk fFS gR747 := by
  intro r hp hO hN hH
  have hr0 := len0 (show r.length = 0 from hN.1)
  subst hr0
  have hR := hN.2.1.1
  exact poX (.head _) rfl hR (all_nil) (all_nil) (all_cons ⟨[0], ⟨sE_k _ _, trivial⟩, (show ∀ j : Nat, j < 12 → (j : Int) < (0 : Int) → hL hp 278 j = hL hp 278 (12 + j) from fun j _ w => absurd w (by omega))⟩ (all_nil))
theorem rl748 : ruOk fFS gR748 := by
  intro r hp hO hN hH
  obtain ⟨s0, s1, rfl⟩ := len2 (show r.length = 2 from hN.1)
  have hR := hN.2.1.1
  have hIv : ∀ q ∈ ([(0, .ofNat 0, .ofNat 11)] : sIv), ∃ x, ([s0, s1] : List Int)[q.1]? = some x ∧ q.2.1 ≤ x ∧ x ≤ q.2.2 := hN.2.1.2
  have b0 : (0 : Int) ≤ s0 ∧ s0 ≤ (11 : Int) := ivX (q := (0, .ofNat 0, .ofNat 11)) (y := s0) (hIv _ (.head _)) rfl
  have hRf : ∀ q ∈ ([((83, .ofNat 278, []), (.ofNat 0, [(.ofNat 1, 0)]), 5, .ofNat 0, [(.ofNat 1, 1)]), ((83, .ofNat 278, []), (.ofNat 12, [(.ofNat 1, 0)]), 5, .ofNat 0, [(.ofNat 1, 1)])] : List sRf), rfOk [s0, s1] hp q := hH.1
  obtain ⟨i0, e0, l0, h0⟩ := rfL (iv := s0) (hRf _ (.head _)) (sE_k _ _) (sE_V rfl) (sE_V rfl)
  have l0 : i0 < 24 := l0
  have h0 : hL hp 278 i0 = s1 := h0
  obtain ⟨i1, e1, l1, h1⟩ := rfL (iv := (s0 + 12)) (hRf _ (.tail _ (.head _))) (sE_k _ _) (sEv (y' := ((12 : Int) + ((1 : Int) * s0 + 0))) rfl (by omega)) (sE_V rfl)
  have l1 : i1 < 24 := l1
  have h1 : hL hp 278 i1 = s1 := h1
  have hFc : ∀ q ∈ ([(221, [(.ofNat 0, [(.ofNat 1, 0)])])] : List sFc), fcOk fFS [s0, s1] hp q := hH.2
  have f0 : ∀ j : Nat, j < 12 → (j : Int) < s0 → hL hp 278 j = hL hp 278 (12 + j) := fcX (ys := [s0]) (hFc _ (.head _)) ⟨sE_V rfl, trivial⟩
  exact poX (.head _) rfl hR (all_nil) (all_nil) (all_cons ⟨[(s0 + 1)], ⟨sEv (y' := ((1 : Int) + ((1 : Int) * s0 + 0))) rfl (by omega), trivial⟩, (show ∀ j : Nat, j < 12 → (j : Int) < (s0 + 1) → hL hp 278 j = hL hp 278 (12 + j) from nmc_s (X := fun j => hL hp 278 j) (Y := fun j => hL hp 278 (12 + j)) f0 h0 (by show hL hp 278 (12 + i0) = _; rw [show 12 + i0 = i1 by omega, h1]) (by omega) (by omega))⟩ (all_nil))
theorem rl750 : ruOk fFS gR750 := by
  intro r hp hO hN hH
  obtain ⟨s0, s1, s2, s3, s4, s5, s6, s7, s8, rfl⟩ := len9 (show r.length = 9 from hN.1)
  have hR := hN.2.1.1
  have hIv : ∀ q ∈ ([(0, .ofNat 0, .ofNat 940), (1, .negSucc 2147483647, .ofNat 2147483647), (2, .negSucc 2147483647, .ofNat 2147483647), (3, .negSucc 2147483647, .ofNat 2147483647), (4, .negSucc 2147483647, .ofNat 2147483647), (5, .negSucc 2147483647, .ofNat 2147483647), (6, .negSucc 2147483647, .ofNat 2147483647), (7, .ofNat 12, .ofNat 12), (8, .negSucc 2147483647, .ofNat 2147483647)] : sIv), ∃ x, ([s0, s1, s2, s3, s4, s5, s6, s7, s8] : List Int)[q.1]? = some x ∧ q.2.1 ≤ x ∧ x ≤ q.2.2 := hN.2.1.2
  have b0 : (0 : Int) ≤ s0 ∧ s0 ≤ (940 : Int) := ivX (q := (0, .ofNat 0, .ofNat 940)) (y := s0) (hIv _ (.head _)) rfl
  have b7 : (12 : Int) ≤ s7 ∧ s7 ≤ (12 : Int) := ivX (q := (7, .ofNat 12, .ofNat 12)) (y := s7) (hIv _ (.tail _ (.tail _ (.tail _ (.tail _ (.tail _ (.tail _ (.tail _ (.head _))))))))) rfl
  have hCs : ∀ c ∈ ([(.ofNat 0, [(.ofNat 1, 0), (.negSucc 0, 8)])] : List sLn), ∃ x, sE [s0, s1, s2, s3, s4, s5, s6, s7, s8] c = some x ∧ x ≤ 0 := hN.2.2.1
  have c0 : ((0 : Int) + ((1 : Int) * s0 + ((-1 : Int) * s8 + 0))) ≤ 0 := csX (hCs _ (.head _)) rfl
  have hRf : ∀ q ∈ ([((40, .ofNat 173, []), (.ofNat 2, []), 1, .ofNat 0, [(.ofNat 1, 0)]), ((40, .ofNat 173, []), (.ofNat 3, []), 1, .ofNat 0, [(.ofNat 1, 1)]), ((78, .ofNat 273, []), (.ofNat 3, []), 1, .ofNat 0, [(.ofNat 1, 0)]), ((78, .ofNat 273, []), (.ofNat 5, []), 1, .ofNat 0, [(.ofNat 1, 1)]), ((81, .ofNat 276, []), (.ofNat 2, []), 1, .ofNat 0, [(.ofNat 1, 2)]), ((81, .ofNat 276, []), (.ofNat 3, []), 1, .ofNat 0, [(.ofNat 1, 3)]), ((81, .ofNat 276, []), (.ofNat 4, []), 1, .ofNat 0, [(.ofNat 1, 4)])] : List sRf), rfOk [s0, s1, s2, s3, s4, s5, s6, s7, s8] hp q := hH.1
  have h0 : hI hp 173 2 = s0 := rfI0 (hRf _ (.head _)) (sE_k _ _) (sE_k _ _) (sE_V rfl)
  have y0 : (0 : Int) ≤ s0 ∧ s0 ≤ (940 : Int) := by rw [← h0]; exact hI_ty hO (by decide) rfl
  have tnx : (XT hp).2.1 = s0 := h0
  have h1 : hI hp 173 3 = s1 := rfI0 (hRf _ (.tail _ (.head _))) (sE_k _ _) (sE_k _ _) (sE_V rfl)
  have y1 : (0 : Int) ≤ s1 ∧ s1 ≤ (940 : Int) := by rw [← h1]; exact hI_ty hO (by decide) rfl
  have tmx : (XT hp).2.2 = s1 := h1
  have h2 : hI hp 273 3 = s0 := rfI0 (hRf _ (.tail _ (.tail _ (.head _)))) (sE_k _ _) (sE_k _ _) (sE_V rfl)
  have y2 : (0 : Int) ≤ s0 ∧ s0 ≤ (940 : Int) := by rw [← h2]; exact hI_ty hO (by decide) rfl
  have tnm : (MT hp).2.1 = s0 := h2
  have h3 : hI hp 273 5 = s1 := rfI0 (hRf _ (.tail _ (.tail _ (.tail _ (.head _))))) (sE_k _ _) (sE_k _ _) (sE_V rfl)
  have y3 : (0 : Int) ≤ s1 ∧ s1 ≤ (940 : Int) := by rw [← h3]; exact hI_ty hO (by decide) rfl
  have tmm : (MT hp).2.2 = s1 := h3
  have h4 : hI hp 276 2 = s2 := rfI0 (hRf _ (.tail _ (.tail _ (.tail _ (.tail _ (.head _)))))) (sE_k _ _) (sE_k _ _) (sE_V rfl)
  have y4 : (0 : Int) ≤ s2 ∧ s2 ≤ (4 : Int) := by rw [← h4]; exact hI_ty hO (by decide) rfl
  have h5 : hI hp 276 3 = s3 := rfI0 (hRf _ (.tail _ (.tail _ (.tail _ (.tail _ (.tail _ (.head _))))))) (sE_k _ _) (sE_k _ _) (sE_V rfl)
  have y5 : (0 : Int) ≤ s3 ∧ s3 ≤ (3 : Int) := by rw [← h5]; exact hI_ty hO (by decide) rfl
  have h6 : hI hp 276 4 = s4 := rfI0 (hRf _ (.tail _ (.tail _ (.tail _ (.tail _ (.tail _ (.tail _ (.head _)))))))) (sE_k _ _) (sE_k _ _) (sE_V rfl)
  have y6 : (0 : Int) ≤ s4 ∧ s4 ≤ (5 : Int) := by rw [← h6]; exact hI_ty hO (by decide) rfl
  have hFc : ∀ q ∈ ([(81, [(.ofNat 0, [(.ofNat 1, 5)])]), (218, [(.ofNat 0, [(.ofNat 1, 5)])]), (129, [(.ofNat 0, [(.ofNat 1, 6)])]), (143, [(.ofNat 0, [(.ofNat 1, 2)]), (.ofNat 0, [(.ofNat 1, 6)])]), (145, [(.ofNat 0, [(.ofNat 1, 3)]), (.ofNat 0, [(.ofNat 1, 6)])]), (147, [(.ofNat 0, [(.ofNat 1, 4)]), (.ofNat 0, [(.ofNat 1, 6)])]), (220, []), (221, [(.ofNat 0, [(.ofNat 1, 7)])]), (177, [(.ofNat 0, [(.ofNat 1, 8)])])] : List sFc), fcOk fFS [s0, s1, s2, s3, s4, s5, s6, s7, s8] hp q := hH.2
  have f0 : DN (XT hp) s5 := fcX (ys := [s5]) (hFc _ (.head _)) ⟨sE_V rfl, trivial⟩
  have f1 : dF (XT hp) s5 (fun D => ∀ j : Nat, j < 12 → hL hp 3 j = cd 32 96 (nm D j)) := fcX (ys := [s5]) (hFc _ (.tail _ (.head _))) ⟨sE_V rfl, trivial⟩
  have f2 : DN (MT hp) s6 := fcX (ys := [s6]) (hFc _ (.tail _ (.tail _ (.head _)))) ⟨sE_V rfl, trivial⟩
  have f3 : dF (MT hp) s6 (fun D => s2 = (dOw D).length ∧ ∀ i : Nat, i < 4 → (i : Int) < s2 → hL hp 278 (12 + i) = cd 256 0 (nm D (0 + i))) := fcX (ys := [s2, s6]) (hFc _ (.tail _ (.tail _ (.tail _ (.head _))))) ⟨sE_V rfl, sE_V rfl, trivial⟩
  have f4 : dF (MT hp) s6 (fun D => s3 = (dSt D).length ∧ ∀ i : Nat, i < 3 → (i : Int) < s3 → hL hp 278 (16 + i) = cd 256 0 (nm D (4 + i))) := fcX (ys := [s3, s6]) (hFc _ (.tail _ (.tail _ (.tail _ (.tail _ (.head _)))))) ⟨sE_V rfl, sE_V rfl, trivial⟩
  have f5 : dF (MT hp) s6 (fun D => s4 = (dKn D).length ∧ ∀ i : Nat, i < 5 → (i : Int) < s4 → hL hp 278 (19 + i) = cd 256 0 (nm D (7 + i))) := fcX (ys := [s4, s6]) (hFc _ (.tail _ (.tail _ (.tail _ (.tail _ (.tail _ (.head _))))))) ⟨sE_V rfl, sE_V rfl, trivial⟩
  have f6 : ∀ j : Nat, 2 ≤ j → j < 5 → hI hp 275 j = hI hp 276 j := fcX (ys := []) (hFc _ (.tail _ (.tail _ (.tail _ (.tail _ (.tail _ (.tail _ (.head _)))))))) trivial
  have f7 : ∀ j : Nat, j < 12 → (j : Int) < s7 → hL hp 278 j = hL hp 278 (12 + j) := fcX (ys := [s7]) (hFc _ (.tail _ (.tail _ (.tail _ (.tail _ (.tail _ (.tail _ (.tail _ (.head _))))))))) ⟨sE_V rfl, trivial⟩
  have f8 : ∀ i : Nat, i < 940 → (i : Int) < s8 → hI hp 1 i = hI hp 274 i % 256 := fcX (ys := [s8]) (hFc _ (.tail _ (.tail _ (.tail _ (.tail _ (.tail _ (.tail _ (.tail _ (.tail _ (.head _)))))))))) ⟨sE_V rfl, trivial⟩
  exact poX (.head _) rfl hR (all_nil) (all_nil) (all_cons ⟨[], trivial, (show ∀ c L, isW L → (nmR hp 3 c L ↔ nmM hp c L) from peq_of hO f8 h0 h2 h1 h3 ⟨by omega, by omega⟩ f0 f1 f2 h4 h5 h6 f3 f4 f5 f6 f7 (by omega))⟩ (all_nil))
theorem rl751 : ruOk fFS gR751 := by
  intro r hp hO hN hH
  obtain ⟨s0, s1, s2, s3, s4, s5, s6, s7, s8, rfl⟩ := len9 (show r.length = 9 from hN.1)
  have hR := hN.2.1.1
  have hIv : ∀ q ∈ ([(0, .ofNat 0, .ofNat 940), (1, .negSucc 2147483647, .ofNat 2147483647), (2, .negSucc 2147483647, .ofNat 2147483647), (3, .negSucc 2147483647, .ofNat 2147483647), (4, .negSucc 2147483647, .ofNat 2147483647), (5, .negSucc 2147483647, .ofNat 2147483647), (6, .negSucc 2147483647, .ofNat 2147483647), (7, .ofNat 12, .ofNat 12), (8, .negSucc 2147483647, .ofNat 2147483647)] : sIv), ∃ x, ([s0, s1, s2, s3, s4, s5, s6, s7, s8] : List Int)[q.1]? = some x ∧ q.2.1 ≤ x ∧ x ≤ q.2.2 := hN.2.1.2
  have b0 : (0 : Int) ≤ s0 ∧ s0 ≤ (940 : Int) := ivX (q := (0, .ofNat 0, .ofNat 940)) (y := s0) (hIv _ (.head _)) rfl
  have b7 : (12 : Int) ≤ s7 ∧ s7 ≤ (12 : Int) := ivX (q := (7, .ofNat 12, .ofNat 12)) (y := s7) (hIv _ (.tail _ (.tail _ (.tail _ (.tail _ (.tail _ (.tail _ (.tail _ (.head _))))))))) rfl
  have hCs : ∀ c ∈ ([(.ofNat 0, [(.ofNat 1, 0), (.negSucc 0, 8)])] : List sLn), ∃ x, sE [s0, s1, s2, s3, s4, s5, s6, s7, s8] c = some x ∧ x ≤ 0 := hN.2.2.1
  have c0 : ((0 : Int) + ((1 : Int) * s0 + ((-1 : Int) * s8 + 0))) ≤ 0 := csX (hCs _ (.head _)) rfl
  have hRf : ∀ q ∈ ([((40, .ofNat 173, []), (.ofNat 2, []), 1, .ofNat 0, [(.ofNat 1, 0)]), ((40, .ofNat 173, []), (.ofNat 3, []), 1, .ofNat 0, [(.ofNat 1, 1)]), ((78, .ofNat 273, []), (.ofNat 3, []), 1, .ofNat 0, [(.ofNat 1, 0)]), ((78, .ofNat 273, []), (.ofNat 5, []), 1, .ofNat 0, [(.ofNat 1, 1)]), ((81, .ofNat 276, []), (.ofNat 2, []), 1, .ofNat 0, [(.ofNat 1, 2)]), ((81, .ofNat 276, []), (.ofNat 3, []), 1, .ofNat 0, [(.ofNat 1, 3)]), ((81, .ofNat 276, []), (.ofNat 4, []), 1, .ofNat 0, [(.ofNat 1, 4)])] : List sRf), rfOk [s0, s1, s2, s3, s4, s5, s6, s7, s8] hp q := hH.1
  have h0 : hI hp 173 2 = s0 := rfI0 (hRf _ (.head _)) (sE_k _ _) (sE_k _ _) (sE_V rfl)
  have y0 : (0 : Int) ≤ s0 ∧ s0 ≤ (940 : Int) := by rw [← h0]; exact hI_ty hO (by decide) rfl
  have tnx : (XT hp).2.1 = s0 := h0
  have h1 : hI hp 173 3 = s1 := rfI0 (hRf _ (.tail _ (.head _))) (sE_k _ _) (sE_k _ _) (sE_V rfl)
  have y1 : (0 : Int) ≤ s1 ∧ s1 ≤ (940 : Int) := by rw [← h1]; exact hI_ty hO (by decide) rfl
  have tmx : (XT hp).2.2 = s1 := h1
  have h2 : hI hp 273 3 = s0 := rfI0 (hRf _ (.tail _ (.tail _ (.head _)))) (sE_k _ _) (sE_k _ _) (sE_V rfl)
  have y2 : (0 : Int) ≤ s0 ∧ s0 ≤ (940 : Int) := by rw [← h2]; exact hI_ty hO (by decide) rfl
  have tnm : (MT hp).2.1 = s0 := h2
  have h3 : hI hp 273 5 = s1 := rfI0 (hRf _ (.tail _ (.tail _ (.tail _ (.head _))))) (sE_k _ _) (sE_k _ _) (sE_V rfl)
  have y3 : (0 : Int) ≤ s1 ∧ s1 ≤ (940 : Int) := by rw [← h3]; exact hI_ty hO (by decide) rfl
  have tmm : (MT hp).2.2 = s1 := h3
  have h4 : hI hp 276 2 = s2 := rfI0 (hRf _ (.tail _ (.tail _ (.tail _ (.tail _ (.head _)))))) (sE_k _ _) (sE_k _ _) (sE_V rfl)
  have y4 : (0 : Int) ≤ s2 ∧ s2 ≤ (4 : Int) := by rw [← h4]; exact hI_ty hO (by decide) rfl
  have h5 : hI hp 276 3 = s3 := rfI0 (hRf _ (.tail _ (.tail _ (.tail _ (.tail _ (.tail _ (.head _))))))) (sE_k _ _) (sE_k _ _) (sE_V rfl)
  have y5 : (0 : Int) ≤ s3 ∧ s3 ≤ (3 : Int) := by rw [← h5]; exact hI_ty hO (by decide) rfl
  have h6 : hI hp 276 4 = s4 := rfI0 (hRf _ (.tail _ (.tail _ (.tail _ (.tail _ (.tail _ (.tail _ (.head _)))))))) (sE_k _ _) (sE_k _ _) (sE_V rfl)
  have y6 : (0 : Int) ≤ s4 ∧ s4 ≤ (5 : Int) := by rw [← h6]; exact hI_ty hO (by decide) rfl
  have hFc : ∀ q ∈ ([(81, [(.ofNat 0, [(.ofNat 1, 5)])]), (219, [(.ofNat 0, [(.ofNat 1, 5)])]), (129, [(.ofNat 0, [(.ofNat 1, 6)])]), (143, [(.ofNat 0, [(.ofNat 1, 2)]), (.ofNat 0, [(.ofNat 1, 6)])]), (145, [(.ofNat 0, [(.ofNat 1, 3)]), (.ofNat 0, [(.ofNat 1, 6)])]), (147, [(.ofNat 0, [(.ofNat 1, 4)]), (.ofNat 0, [(.ofNat 1, 6)])]), (220, []), (221, [(.ofNat 0, [(.ofNat 1, 7)])]), (177, [(.ofNat 0, [(.ofNat 1, 8)])])] : List sFc), fcOk fFS [s0, s1, s2, s3, s4, s5, s6, s7, s8] hp q := hH.2
  have f0 : DN (XT hp) s5 := fcX (ys := [s5]) (hFc _ (.head _)) ⟨sE_V rfl, trivial⟩
  have f1 : dF (XT hp) s5 (fun D => ∀ j : Nat, j < 12 → hL hp 16 j = cd 32 96 (nm D j)) := fcX (ys := [s5]) (hFc _ (.tail _ (.head _))) ⟨sE_V rfl, trivial⟩
  have f2 : DN (MT hp) s6 := fcX (ys := [s6]) (hFc _ (.tail _ (.tail _ (.head _)))) ⟨sE_V rfl, trivial⟩
  have f3 : dF (MT hp) s6 (fun D => s2 = (dOw D).length ∧ ∀ i : Nat, i < 4 → (i : Int) < s2 → hL hp 278 (12 + i) = cd 256 0 (nm D (0 + i))) := fcX (ys := [s2, s6]) (hFc _ (.tail _ (.tail _ (.tail _ (.head _))))) ⟨sE_V rfl, sE_V rfl, trivial⟩
  have f4 : dF (MT hp) s6 (fun D => s3 = (dSt D).length ∧ ∀ i : Nat, i < 3 → (i : Int) < s3 → hL hp 278 (16 + i) = cd 256 0 (nm D (4 + i))) := fcX (ys := [s3, s6]) (hFc _ (.tail _ (.tail _ (.tail _ (.tail _ (.head _)))))) ⟨sE_V rfl, sE_V rfl, trivial⟩
  have f5 : dF (MT hp) s6 (fun D => s4 = (dKn D).length ∧ ∀ i : Nat, i < 5 → (i : Int) < s4 → hL hp 278 (19 + i) = cd 256 0 (nm D (7 + i))) := fcX (ys := [s4, s6]) (hFc _ (.tail _ (.tail _ (.tail _ (.tail _ (.tail _ (.head _))))))) ⟨sE_V rfl, sE_V rfl, trivial⟩
  have f6 : ∀ j : Nat, 2 ≤ j → j < 5 → hI hp 275 j = hI hp 276 j := fcX (ys := []) (hFc _ (.tail _ (.tail _ (.tail _ (.tail _ (.tail _ (.tail _ (.head _)))))))) trivial
  have f7 : ∀ j : Nat, j < 12 → (j : Int) < s7 → hL hp 278 j = hL hp 278 (12 + j) := fcX (ys := [s7]) (hFc _ (.tail _ (.tail _ (.tail _ (.tail _ (.tail _ (.tail _ (.tail _ (.head _))))))))) ⟨sE_V rfl, trivial⟩
  have f8 : ∀ i : Nat, i < 940 → (i : Int) < s8 → hI hp 1 i = hI hp 274 i % 256 := fcX (ys := [s8]) (hFc _ (.tail _ (.tail _ (.tail _ (.tail _ (.tail _ (.tail _ (.tail _ (.tail _ (.head _)))))))))) ⟨sE_V rfl, trivial⟩
  exact poX (.head _) rfl hR (all_nil) (all_nil) (all_cons ⟨[], trivial, (show ∀ c L, isW L → (nmR hp 16 c L ↔ nmM hp c L) from peq_of hO f8 h0 h2 h1 h3 ⟨by omega, by omega⟩ f0 f1 f2 h4 h5 h6 f3 f4 f5 f6 f7 (by omega))⟩ (all_nil))
theorem rl763 : ruOk fFS gR763 := by
  intro r hp hO hN hH
  obtain ⟨s0, s1, s2, rfl⟩ := len3 (show r.length = 3 from hN.1)
  have hR := hN.2.1.1
  have hIv : ∀ q ∈ ([(1, .negSucc 2147483647, .ofNat 2147483647), (2, .negSucc 2147483647, .ofNat 2147483647)] : sIv), ∃ x, ([s0, s1, s2] : List Int)[q.1]? = some x ∧ q.2.1 ≤ x ∧ x ≤ q.2.2 := hN.2.1.2
  have hRf : ∀ q ∈ ([((78, .ofNat 273, []), (.ofNat 17, []), 5, .ofNat 0, [(.ofNat 1, 0)])] : List sRf), rfOk [s0, s1, s2] hp q := hH.1
  have h0 : hL hp 273 17 = s0 := rfL0 (hRf _ (.head _)) (sE_k _ _) (sE_k _ _) (sE_V rfl)
  have hFc : ∀ q ∈ ([(131, [(.ofNat 0, [(.ofNat 1, 1)]), (.ofNat 0, [(.ofNat 1, 2)])])] : List sFc), fcOk fFS [s0, s1, s2] hp q := hH.2
  have f0 : isW (bs (MT hp).1 s1 s2) ∧ hL hp 273 17 = cd 256 0 (bs (MT hp).1 s1 s2) := fcX (ys := [s1, s2]) (hFc _ (.head _)) ⟨sE_V rfl, sE_V rfl, trivial⟩
  exact poX (.head _) rfl hR (all_nil) (all_nil) (all_cons ⟨[0, s0], ⟨sE_k _ _, sE_V rfl, trivial⟩, (show ∀ i : Nat, i < 5 → (i : Int) < (0 : Int) → hL hp 278 (7 + i) ≠ s0 from fun i _ w => absurd w (by omega))⟩ (all_nil))
theorem rl764 : ruOk fFS gR764 := by
  intro r hp hO hN hH
  obtain ⟨s0, s1, s2, rfl⟩ := len3 (show r.length = 3 from hN.1)
  have hR := hN.2.1.1
  have hIv : ∀ q ∈ ([(0, .ofNat 0, .ofNat 4)] : sIv), ∃ x, ([s0, s1, s2] : List Int)[q.1]? = some x ∧ q.2.1 ≤ x ∧ x ≤ q.2.2 := hN.2.1.2
  have b0 : (0 : Int) ≤ s0 ∧ s0 ≤ (4 : Int) := ivX (q := (0, .ofNat 0, .ofNat 4)) (y := s0) (hIv _ (.head _)) rfl
  have hCs : ∀ c ∈ ([(.ofNat 1, [(.ofNat 1, 1), (.negSucc 0, 2)])] : List sLn), ∃ x, sE [s0, s1, s2] c = some x ∧ x ≤ 0 := hN.2.2.1
  have c0 : ((1 : Int) + ((1 : Int) * s1 + ((-1 : Int) * s2 + 0))) ≤ 0 := csX (hCs _ (.head _)) rfl
  have hRf : ∀ q ∈ ([((78, .ofNat 273, []), (.ofNat 17, []), 5, .ofNat 0, [(.ofNat 1, 1)]), ((83, .ofNat 278, []), (.ofNat 7, [(.ofNat 1, 0)]), 5, .ofNat 0, [(.ofNat 1, 2)])] : List sRf), rfOk [s0, s1, s2] hp q := hH.1
  have h0 : hL hp 273 17 = s1 := rfL0 (hRf _ (.head _)) (sE_k _ _) (sE_k _ _) (sE_V rfl)
  obtain ⟨i1, e1, l1, h1⟩ := rfL (iv := (s0 + 7)) (hRf _ (.tail _ (.head _))) (sE_k _ _) (sEv (y' := ((7 : Int) + ((1 : Int) * s0 + 0))) rfl (by omega)) (sE_V rfl)
  have l1 : i1 < 24 := l1
  have h1 : hL hp 278 i1 = s2 := h1
  have hFc : ∀ q ∈ ([(213, [(.ofNat 0, [(.ofNat 1, 0)]), (.ofNat 0, [(.ofNat 1, 1)])])] : List sFc), fcOk fFS [s0, s1, s2] hp q := hH.2
  have f0 : ∀ i : Nat, i < 5 → (i : Int) < s0 → hL hp 278 (7 + i) ≠ s1 := fcX (ys := [s0, s1]) (hFc _ (.head _)) ⟨sE_V rfl, sE_V rfl, trivial⟩
  exact poX (.head _) rfl hR (all_nil) (all_nil) (all_cons ⟨[(s0 + 1), s1], ⟨sEv (y' := ((1 : Int) + ((1 : Int) * s0 + 0))) rfl (by omega), sE_V rfl, trivial⟩, (show ∀ i : Nat, i < 5 → (i : Int) < (s0 + 1) → hL hp 278 (7 + i) ≠ s1 from fw_s (R := fun i => hL hp 278 (7 + i)) (j := i1 - 7) f0 (by show hL hp 278 (7 + (i1 - 7)) = _; rw [show 7 + (i1 - 7) = i1 by omega, h1]) (by omega) (by omega) (by omega))⟩ (all_nil))
theorem rl765 : ruOk fFS gR765 := by
  intro r hp hO hN hH
  obtain ⟨s0, s1, s2, s3, s4, s5, s6, s7, s8, s9, s10, s11, rfl⟩ := len12 (show r.length = 12 from hN.1)
  have hR := hN.2.1.1
  have hIv : ∀ q ∈ ([(0, .negSucc 2147483647, .ofNat 2147483647), (1, .ofNat 0, .ofNat 4), (4, .negSucc 2147483647, .ofNat 2147483647), (5, .negSucc 2147483647, .ofNat 2147483647), (6, .negSucc 2147483647, .ofNat 2147483647), (7, .negSucc 2147483647, .ofNat 2147483647), (8, .negSucc 2147483647, .ofNat 2147483647), (9, .negSucc 2147483647, .ofNat 2147483647), (10, .ofNat 1, .ofNat 1), (11, .negSucc 2147483647, .ofNat 2147483647)] : sIv), ∃ x, ([s0, s1, s2, s3, s4, s5, s6, s7, s8, s9, s10, s11] : List Int)[q.1]? = some x ∧ q.2.1 ≤ x ∧ x ≤ q.2.2 := hN.2.1.2
  have b1 : (0 : Int) ≤ s1 ∧ s1 ≤ (4 : Int) := ivX (q := (1, .ofNat 0, .ofNat 4)) (y := s1) (hIv _ (.tail _ (.head _))) rfl
  have b8 : (1 : Int) ≤ s10 ∧ s10 ≤ (1 : Int) := ivX (q := (10, .ofNat 1, .ofNat 1)) (y := s10) (hIv _ (.tail _ (.tail _ (.tail _ (.tail _ (.tail _ (.tail _ (.tail _ (.tail _ (.head _)))))))))) rfl
  have hCs : ∀ c ∈ ([(.ofNat 0, [(.ofNat 1, 2), (.negSucc 0, 3)]), (.ofNat 0, [(.negSucc 0, 2), (.ofNat 1, 3)]), (.ofNat 1, [(.negSucc 0, 0), (.ofNat 1, 1)])] : List sLn), ∃ x, sE [s0, s1, s2, s3, s4, s5, s6, s7, s8, s9, s10, s11] c = some x ∧ x ≤ 0 := hN.2.2.1
  have c0 : ((0 : Int) + ((1 : Int) * s2 + ((-1 : Int) * s3 + 0))) ≤ 0 := csX (hCs _ (.head _)) rfl
  have c1 : ((0 : Int) + ((-1 : Int) * s2 + ((1 : Int) * s3 + 0))) ≤ 0 := csX (hCs _ (.tail _ (.head _))) rfl
  have c2 : ((1 : Int) + ((-1 : Int) * s0 + ((1 : Int) * s1 + 0))) ≤ 0 := csX (hCs _ (.tail _ (.tail _ (.head _)))) rfl
  have hRf : ∀ q ∈ ([((78, .ofNat 273, []), (.ofNat 17, []), 5, .ofNat 0, [(.ofNat 1, 2)]), ((83, .ofNat 278, []), (.ofNat 7, [(.ofNat 1, 1)]), 5, .ofNat 0, [(.ofNat 1, 3)]), ((80, .ofNat 275, []), (.ofNat 4, []), 1, .ofNat 0, [(.ofNat 1, 0)])] : List sRf), rfOk [s0, s1, s2, s3, s4, s5, s6, s7, s8, s9, s10, s11] hp q := hH.1
  have h0 : hL hp 273 17 = s2 := rfL0 (hRf _ (.head _)) (sE_k _ _) (sE_k _ _) (sE_V rfl)
  obtain ⟨i1, e1, l1, h1⟩ := rfL (iv := (s1 + 7)) (hRf _ (.tail _ (.head _))) (sE_k _ _) (sEv (y' := ((7 : Int) + ((1 : Int) * s1 + 0))) rfl (by omega)) (sE_V rfl)
  have l1 : i1 < 24 := l1
  have h1 : hL hp 278 i1 = s3 := h1
  have h2 : hI hp 275 4 = s0 := rfI0 (hRf _ (.tail _ (.tail _ (.head _)))) (sE_k _ _) (sE_k _ _) (sE_V rfl)
  have y2 : (0 : Int) ≤ s0 ∧ s0 ≤ (5 : Int) := by rw [← h2]; exact hI_ty hO (by decide) rfl
  have hFc : ∀ q ∈ ([(131, [(.ofNat 0, [(.ofNat 1, 4)]), (.ofNat 0, [(.ofNat 1, 5)])]), (207, [(.ofNat 0, [(.ofNat 1, 6)]), (.ofNat 0, [(.ofNat 1, 7)]), (.ofNat 0, [(.ofNat 1, 8)]), (.ofNat 0, [(.ofNat 1, 9)]), (.ofNat 0, [(.ofNat 1, 10)]), (.ofNat 0, [(.ofNat 1, 4)]), (.ofNat 0, [(.ofNat 1, 5)]), (.ofNat 0, [(.ofNat 1, 11)])])] : List sFc), fcOk fFS [s0, s1, s2, s3, s4, s5, s6, s7, s8, s9, s10, s11] hp q := hH.2
  have f0 : isW (bs (MT hp).1 s4 s5) ∧ hL hp 273 17 = cd 256 0 (bs (MT hp).1 s4 s5) := fcX (ys := [s4, s5]) (hFc _ (.head _)) ⟨sE_V rfl, sE_V rfl, trivial⟩
  have f1 : SHq (MT hp) (nmM hp) s6 s7 s8 s9 s10 s4 s5 s11 := fcX (ys := [s6, s7, s8, s9, s10, s4, s5, s11]) (hFc _ (.tail _ (.head _))) ⟨sE_V rfl, sE_V rfl, sE_V rfl, sE_V rfl, sE_V rfl, sE_V rfl, sE_V rfl, sE_V rfl, trivial⟩
  exact poX (.head _) rfl hR (all_nil) (all_nil) (all_cons ⟨[1, s4, s5, s1], ⟨sE_k _ _, sE_V rfl, sE_V rfl, sE_V rfl, trivial⟩, (show (0 ≤ s1 ∧ nmM hp (1 : Int) (bs (MT hp).1 s4 s5)) ∨ (s1 = -1 ∧ ¬ nmM hp (1 : Int) (bs (MT hp).1 s4 s5)) from fds_f (show mNx 1 7 5 4 by unfold mNx; omega) h2 f0 h0 h1 (show i1 = 7 + (i1 - 7) by omega) (by omega) (by omega) (by omega) (by omega))⟩ (all_nil))
theorem rl766 : ruOk fFS gR766 := by
  intro r hp hO hN hH
  obtain ⟨s0, s1, s2, s3, s4, s5, s6, s7, s8, s9, s10, s11, rfl⟩ := len12 (show r.length = 12 from hN.1)
  have hR := hN.2.1.1
  have hIv : ∀ q ∈ ([(0, .negSucc 2147483647, .ofNat 2147483647), (1, .ofNat 0, .ofNat 3), (4, .negSucc 2147483647, .ofNat 2147483647), (5, .negSucc 2147483647, .ofNat 2147483647), (6, .negSucc 2147483647, .ofNat 2147483647), (7, .negSucc 2147483647, .ofNat 2147483647), (8, .negSucc 2147483647, .ofNat 2147483647), (9, .negSucc 2147483647, .ofNat 2147483647), (10, .ofNat 1, .ofNat 1), (11, .negSucc 2147483647, .ofNat 2147483647)] : sIv), ∃ x, ([s0, s1, s2, s3, s4, s5, s6, s7, s8, s9, s10, s11] : List Int)[q.1]? = some x ∧ q.2.1 ≤ x ∧ x ≤ q.2.2 := hN.2.1.2
  have b1 : (0 : Int) ≤ s1 ∧ s1 ≤ (3 : Int) := ivX (q := (1, .ofNat 0, .ofNat 3)) (y := s1) (hIv _ (.tail _ (.head _))) rfl
  have b8 : (1 : Int) ≤ s10 ∧ s10 ≤ (1 : Int) := ivX (q := (10, .ofNat 1, .ofNat 1)) (y := s10) (hIv _ (.tail _ (.tail _ (.tail _ (.tail _ (.tail _ (.tail _ (.tail _ (.tail _ (.head _)))))))))) rfl
  have hCs : ∀ c ∈ ([(.ofNat 0, [(.ofNat 1, 2), (.negSucc 0, 3)]), (.ofNat 0, [(.negSucc 0, 2), (.ofNat 1, 3)]), (.ofNat 1, [(.negSucc 0, 0), (.ofNat 1, 1)])] : List sLn), ∃ x, sE [s0, s1, s2, s3, s4, s5, s6, s7, s8, s9, s10, s11] c = some x ∧ x ≤ 0 := hN.2.2.1
  have c0 : ((0 : Int) + ((1 : Int) * s2 + ((-1 : Int) * s3 + 0))) ≤ 0 := csX (hCs _ (.head _)) rfl
  have c1 : ((0 : Int) + ((-1 : Int) * s2 + ((1 : Int) * s3 + 0))) ≤ 0 := csX (hCs _ (.tail _ (.head _))) rfl
  have c2 : ((1 : Int) + ((-1 : Int) * s0 + ((1 : Int) * s1 + 0))) ≤ 0 := csX (hCs _ (.tail _ (.tail _ (.head _)))) rfl
  have hRf : ∀ q ∈ ([((78, .ofNat 273, []), (.ofNat 17, []), 5, .ofNat 0, [(.ofNat 1, 2)]), ((83, .ofNat 278, []), (.ofNat 0, [(.ofNat 1, 1)]), 5, .ofNat 0, [(.ofNat 1, 3)]), ((80, .ofNat 275, []), (.ofNat 2, []), 1, .ofNat 0, [(.ofNat 1, 0)])] : List sRf), rfOk [s0, s1, s2, s3, s4, s5, s6, s7, s8, s9, s10, s11] hp q := hH.1
  have h0 : hL hp 273 17 = s2 := rfL0 (hRf _ (.head _)) (sE_k _ _) (sE_k _ _) (sE_V rfl)
  obtain ⟨i1, e1, l1, h1⟩ := rfL (iv := s1) (hRf _ (.tail _ (.head _))) (sE_k _ _) (sE_V rfl) (sE_V rfl)
  have l1 : i1 < 24 := l1
  have h1 : hL hp 278 i1 = s3 := h1
  have h2 : hI hp 275 2 = s0 := rfI0 (hRf _ (.tail _ (.tail _ (.head _)))) (sE_k _ _) (sE_k _ _) (sE_V rfl)
  have y2 : (0 : Int) ≤ s0 ∧ s0 ≤ (4 : Int) := by rw [← h2]; exact hI_ty hO (by decide) rfl
  have hFc : ∀ q ∈ ([(131, [(.ofNat 0, [(.ofNat 1, 4)]), (.ofNat 0, [(.ofNat 1, 5)])]), (207, [(.ofNat 0, [(.ofNat 1, 6)]), (.ofNat 0, [(.ofNat 1, 7)]), (.ofNat 0, [(.ofNat 1, 8)]), (.ofNat 0, [(.ofNat 1, 9)]), (.ofNat 0, [(.ofNat 1, 10)]), (.ofNat 0, [(.ofNat 1, 4)]), (.ofNat 0, [(.ofNat 1, 5)]), (.ofNat 0, [(.ofNat 1, 11)])])] : List sFc), fcOk fFS [s0, s1, s2, s3, s4, s5, s6, s7, s8, s9, s10, s11] hp q := hH.2
  have f0 : isW (bs (MT hp).1 s4 s5) ∧ hL hp 273 17 = cd 256 0 (bs (MT hp).1 s4 s5) := fcX (ys := [s4, s5]) (hFc _ (.head _)) ⟨sE_V rfl, sE_V rfl, trivial⟩
  have f1 : SHq (MT hp) (nmM hp) s6 s7 s8 s9 s10 s4 s5 s11 := fcX (ys := [s6, s7, s8, s9, s10, s4, s5, s11]) (hFc _ (.tail _ (.head _))) ⟨sE_V rfl, sE_V rfl, sE_V rfl, sE_V rfl, sE_V rfl, sE_V rfl, sE_V rfl, sE_V rfl, trivial⟩
  exact poX (.head _) rfl hR (all_nil) (all_nil) (all_cons ⟨[2, s4, s5, s1], ⟨sE_k _ _, sE_V rfl, sE_V rfl, sE_V rfl, trivial⟩, (show (0 ≤ s1 ∧ nmM hp (2 : Int) (bs (MT hp).1 s4 s5)) ∨ (s1 = -1 ∧ ¬ nmM hp (2 : Int) (bs (MT hp).1 s4 s5)) from fds_f (show mNx 2 0 4 2 by unfold mNx; omega) h2 f0 h0 h1 (show i1 = 0 + (i1 - 0) by omega) (by omega) (by omega) (by omega) (by omega))⟩ (all_nil))
theorem rl767 : ruOk fFS gR767 := by
  intro r hp hO hN hH
  obtain ⟨s0, s1, s2, s3, s4, s5, s6, s7, s8, s9, s10, s11, rfl⟩ := len12 (show r.length = 12 from hN.1)
  have hR := hN.2.1.1
  have hIv : ∀ q ∈ ([(0, .negSucc 2147483647, .ofNat 2147483647), (1, .ofNat 0, .ofNat 2), (4, .negSucc 2147483647, .ofNat 2147483647), (5, .negSucc 2147483647, .ofNat 2147483647), (6, .negSucc 2147483647, .ofNat 2147483647), (7, .negSucc 2147483647, .ofNat 2147483647), (8, .negSucc 2147483647, .ofNat 2147483647), (9, .negSucc 2147483647, .ofNat 2147483647), (10, .ofNat 1, .ofNat 1), (11, .negSucc 2147483647, .ofNat 2147483647)] : sIv), ∃ x, ([s0, s1, s2, s3, s4, s5, s6, s7, s8, s9, s10, s11] : List Int)[q.1]? = some x ∧ q.2.1 ≤ x ∧ x ≤ q.2.2 := hN.2.1.2
  have b1 : (0 : Int) ≤ s1 ∧ s1 ≤ (2 : Int) := ivX (q := (1, .ofNat 0, .ofNat 2)) (y := s1) (hIv _ (.tail _ (.head _))) rfl
  have b8 : (1 : Int) ≤ s10 ∧ s10 ≤ (1 : Int) := ivX (q := (10, .ofNat 1, .ofNat 1)) (y := s10) (hIv _ (.tail _ (.tail _ (.tail _ (.tail _ (.tail _ (.tail _ (.tail _ (.tail _ (.head _)))))))))) rfl
  have hCs : ∀ c ∈ ([(.ofNat 0, [(.ofNat 1, 2), (.negSucc 0, 3)]), (.ofNat 0, [(.negSucc 0, 2), (.ofNat 1, 3)]), (.ofNat 1, [(.negSucc 0, 0), (.ofNat 1, 1)])] : List sLn), ∃ x, sE [s0, s1, s2, s3, s4, s5, s6, s7, s8, s9, s10, s11] c = some x ∧ x ≤ 0 := hN.2.2.1
  have c0 : ((0 : Int) + ((1 : Int) * s2 + ((-1 : Int) * s3 + 0))) ≤ 0 := csX (hCs _ (.head _)) rfl
  have c1 : ((0 : Int) + ((-1 : Int) * s2 + ((1 : Int) * s3 + 0))) ≤ 0 := csX (hCs _ (.tail _ (.head _))) rfl
  have c2 : ((1 : Int) + ((-1 : Int) * s0 + ((1 : Int) * s1 + 0))) ≤ 0 := csX (hCs _ (.tail _ (.tail _ (.head _)))) rfl
  have hRf : ∀ q ∈ ([((78, .ofNat 273, []), (.ofNat 17, []), 5, .ofNat 0, [(.ofNat 1, 2)]), ((83, .ofNat 278, []), (.ofNat 4, [(.ofNat 1, 1)]), 5, .ofNat 0, [(.ofNat 1, 3)]), ((80, .ofNat 275, []), (.ofNat 3, []), 1, .ofNat 0, [(.ofNat 1, 0)])] : List sRf), rfOk [s0, s1, s2, s3, s4, s5, s6, s7, s8, s9, s10, s11] hp q := hH.1
  have h0 : hL hp 273 17 = s2 := rfL0 (hRf _ (.head _)) (sE_k _ _) (sE_k _ _) (sE_V rfl)
  obtain ⟨i1, e1, l1, h1⟩ := rfL (iv := (s1 + 4)) (hRf _ (.tail _ (.head _))) (sE_k _ _) (sEv (y' := ((4 : Int) + ((1 : Int) * s1 + 0))) rfl (by omega)) (sE_V rfl)
  have l1 : i1 < 24 := l1
  have h1 : hL hp 278 i1 = s3 := h1
  have h2 : hI hp 275 3 = s0 := rfI0 (hRf _ (.tail _ (.tail _ (.head _)))) (sE_k _ _) (sE_k _ _) (sE_V rfl)
  have y2 : (0 : Int) ≤ s0 ∧ s0 ≤ (3 : Int) := by rw [← h2]; exact hI_ty hO (by decide) rfl
  have hFc : ∀ q ∈ ([(131, [(.ofNat 0, [(.ofNat 1, 4)]), (.ofNat 0, [(.ofNat 1, 5)])]), (207, [(.ofNat 0, [(.ofNat 1, 6)]), (.ofNat 0, [(.ofNat 1, 7)]), (.ofNat 0, [(.ofNat 1, 8)]), (.ofNat 0, [(.ofNat 1, 9)]), (.ofNat 0, [(.ofNat 1, 10)]), (.ofNat 0, [(.ofNat 1, 4)]), (.ofNat 0, [(.ofNat 1, 5)]), (.ofNat 0, [(.ofNat 1, 11)])])] : List sFc), fcOk fFS [s0, s1, s2, s3, s4, s5, s6, s7, s8, s9, s10, s11] hp q := hH.2
  have f0 : isW (bs (MT hp).1 s4 s5) ∧ hL hp 273 17 = cd 256 0 (bs (MT hp).1 s4 s5) := fcX (ys := [s4, s5]) (hFc _ (.head _)) ⟨sE_V rfl, sE_V rfl, trivial⟩
  have f1 : SHq (MT hp) (nmM hp) s6 s7 s8 s9 s10 s4 s5 s11 := fcX (ys := [s6, s7, s8, s9, s10, s4, s5, s11]) (hFc _ (.tail _ (.head _))) ⟨sE_V rfl, sE_V rfl, sE_V rfl, sE_V rfl, sE_V rfl, sE_V rfl, sE_V rfl, sE_V rfl, trivial⟩
  exact poX (.head _) rfl hR (all_nil) (all_nil) (all_cons ⟨[3, s4, s5, s1], ⟨sE_k _ _, sE_V rfl, sE_V rfl, sE_V rfl, trivial⟩, (show (0 ≤ s1 ∧ nmM hp (3 : Int) (bs (MT hp).1 s4 s5)) ∨ (s1 = -1 ∧ ¬ nmM hp (3 : Int) (bs (MT hp).1 s4 s5)) from fds_f (show mNx 3 4 3 3 by unfold mNx; omega) h2 f0 h0 h1 (show i1 = 4 + (i1 - 4) by omega) (by omega) (by omega) (by omega) (by omega))⟩ (all_nil))
theorem rl768 : ruOk fFS gR768 := by
  intro r hp hO hN hH
  obtain ⟨s0, s1, s2, rfl⟩ := len3 (show r.length = 3 from hN.1)
  have hR := hN.2.1.1
  have hIv : ∀ q ∈ ([(0, .ofNat 0, .ofNat 4)] : sIv), ∃ x, ([s0, s1, s2] : List Int)[q.1]? = some x ∧ q.2.1 ≤ x ∧ x ≤ q.2.2 := hN.2.1.2
  have b0 : (0 : Int) ≤ s0 ∧ s0 ≤ (4 : Int) := ivX (q := (0, .ofNat 0, .ofNat 4)) (y := s0) (hIv _ (.head _)) rfl
  have hCs : ∀ c ∈ ([(.ofNat 1, [(.negSucc 0, 1), (.ofNat 1, 2)])] : List sLn), ∃ x, sE [s0, s1, s2] c = some x ∧ x ≤ 0 := hN.2.2.1
  have c0 : ((1 : Int) + ((-1 : Int) * s1 + ((1 : Int) * s2 + 0))) ≤ 0 := csX (hCs _ (.head _)) rfl
  have hRf : ∀ q ∈ ([((78, .ofNat 273, []), (.ofNat 17, []), 5, .ofNat 0, [(.ofNat 1, 1)]), ((83, .ofNat 278, []), (.ofNat 7, [(.ofNat 1, 0)]), 5, .ofNat 0, [(.ofNat 1, 2)])] : List sRf), rfOk [s0, s1, s2] hp q := hH.1
  have h0 : hL hp 273 17 = s1 := rfL0 (hRf _ (.head _)) (sE_k _ _) (sE_k _ _) (sE_V rfl)
  obtain ⟨i1, e1, l1, h1⟩ := rfL (iv := (s0 + 7)) (hRf _ (.tail _ (.head _))) (sE_k _ _) (sEv (y' := ((7 : Int) + ((1 : Int) * s0 + 0))) rfl (by omega)) (sE_V rfl)
  have l1 : i1 < 24 := l1
  have h1 : hL hp 278 i1 = s2 := h1
  have hFc : ∀ q ∈ ([(213, [(.ofNat 0, [(.ofNat 1, 0)]), (.ofNat 0, [(.ofNat 1, 1)])])] : List sFc), fcOk fFS [s0, s1, s2] hp q := hH.2
  have f0 : ∀ i : Nat, i < 5 → (i : Int) < s0 → hL hp 278 (7 + i) ≠ s1 := fcX (ys := [s0, s1]) (hFc _ (.head _)) ⟨sE_V rfl, sE_V rfl, trivial⟩
  exact poX (.head _) rfl hR (all_nil) (all_nil) (all_cons ⟨[(s0 + 1), s1], ⟨sEv (y' := ((1 : Int) + ((1 : Int) * s0 + 0))) rfl (by omega), sE_V rfl, trivial⟩, (show ∀ i : Nat, i < 5 → (i : Int) < (s0 + 1) → hL hp 278 (7 + i) ≠ s1 from fw_s (R := fun i => hL hp 278 (7 + i)) (j := i1 - 7) f0 (by show hL hp 278 (7 + (i1 - 7)) = _; rw [show 7 + (i1 - 7) = i1 by omega, h1]) (by omega) (by omega) (by omega))⟩ (all_nil))
theorem rl769 : ruOk fFS gR769 := by
  intro r hp hO hN hH
  obtain ⟨s0, s1, s2, s3, s4, s5, s6, s7, s8, s9, s10, rfl⟩ := len11 (show r.length = 11 from hN.1)
  have hR := hN.2.1.1
  have hIv : ∀ q ∈ ([(0, .negSucc 2147483647, .ofNat 2147483647), (1, .negSucc 2147483647, .ofNat 2147483647), (3, .negSucc 2147483647, .ofNat 2147483647), (4, .negSucc 2147483647, .ofNat 2147483647), (5, .negSucc 2147483647, .ofNat 2147483647), (6, .negSucc 2147483647, .ofNat 2147483647), (7, .negSucc 2147483647, .ofNat 2147483647), (8, .negSucc 2147483647, .ofNat 2147483647), (9, .ofNat 1, .ofNat 1), (10, .negSucc 2147483647, .ofNat 2147483647)] : sIv), ∃ x, ([s0, s1, s2, s3, s4, s5, s6, s7, s8, s9, s10] : List Int)[q.1]? = some x ∧ q.2.1 ≤ x ∧ x ≤ q.2.2 := hN.2.1.2
  have b8 : (1 : Int) ≤ s9 ∧ s9 ≤ (1 : Int) := ivX (q := (9, .ofNat 1, .ofNat 1)) (y := s9) (hIv _ (.tail _ (.tail _ (.tail _ (.tail _ (.tail _ (.tail _ (.tail _ (.tail _ (.head _)))))))))) rfl
  have hCs : ∀ c ∈ ([(.ofNat 0, [(.ofNat 1, 0), (.negSucc 0, 1)])] : List sLn), ∃ x, sE [s0, s1, s2, s3, s4, s5, s6, s7, s8, s9, s10] c = some x ∧ x ≤ 0 := hN.2.2.1
  have c0 : ((0 : Int) + ((1 : Int) * s0 + ((-1 : Int) * s1 + 0))) ≤ 0 := csX (hCs _ (.head _)) rfl
  have hRf : ∀ q ∈ ([((78, .ofNat 273, []), (.ofNat 17, []), 5, .ofNat 0, [(.ofNat 1, 2)]), ((80, .ofNat 275, []), (.ofNat 4, []), 1, .ofNat 0, [(.ofNat 1, 0)])] : List sRf), rfOk [s0, s1, s2, s3, s4, s5, s6, s7, s8, s9, s10] hp q := hH.1
  have h0 : hL hp 273 17 = s2 := rfL0 (hRf _ (.head _)) (sE_k _ _) (sE_k _ _) (sE_V rfl)
  have h1 : hI hp 275 4 = s0 := rfI0 (hRf _ (.tail _ (.head _))) (sE_k _ _) (sE_k _ _) (sE_V rfl)
  have y1 : (0 : Int) ≤ s0 ∧ s0 ≤ (5 : Int) := by rw [← h1]; exact hI_ty hO (by decide) rfl
  have hFc : ∀ q ∈ ([(213, [(.ofNat 0, [(.ofNat 1, 1)]), (.ofNat 0, [(.ofNat 1, 2)])]), (131, [(.ofNat 0, [(.ofNat 1, 3)]), (.ofNat 0, [(.ofNat 1, 4)])]), (207, [(.ofNat 0, [(.ofNat 1, 5)]), (.ofNat 0, [(.ofNat 1, 6)]), (.ofNat 0, [(.ofNat 1, 7)]), (.ofNat 0, [(.ofNat 1, 8)]), (.ofNat 0, [(.ofNat 1, 9)]), (.ofNat 0, [(.ofNat 1, 3)]), (.ofNat 0, [(.ofNat 1, 4)]), (.ofNat 0, [(.ofNat 1, 10)])])] : List sFc), fcOk fFS [s0, s1, s2, s3, s4, s5, s6, s7, s8, s9, s10] hp q := hH.2
  have f0 : ∀ i : Nat, i < 5 → (i : Int) < s1 → hL hp 278 (7 + i) ≠ s2 := fcX (ys := [s1, s2]) (hFc _ (.head _)) ⟨sE_V rfl, sE_V rfl, trivial⟩
  have f1 : isW (bs (MT hp).1 s3 s4) ∧ hL hp 273 17 = cd 256 0 (bs (MT hp).1 s3 s4) := fcX (ys := [s3, s4]) (hFc _ (.tail _ (.head _))) ⟨sE_V rfl, sE_V rfl, trivial⟩
  have f2 : SHq (MT hp) (nmM hp) s5 s6 s7 s8 s9 s3 s4 s10 := fcX (ys := [s5, s6, s7, s8, s9, s3, s4, s10]) (hFc _ (.tail _ (.tail _ (.head _)))) ⟨sE_V rfl, sE_V rfl, sE_V rfl, sE_V rfl, sE_V rfl, sE_V rfl, sE_V rfl, sE_V rfl, trivial⟩
  exact poX (.head _) rfl hR (all_nil) (all_nil) (all_cons ⟨[1, s3, s4, (-1)], ⟨sE_k _ _, sE_V rfl, sE_V rfl, sE_k _ _, trivial⟩, (show (0 ≤ (-1 : Int) ∧ nmM hp (1 : Int) (bs (MT hp).1 s3 s4)) ∨ ((-1 : Int) = -1 ∧ ¬ nmM hp (1 : Int) (bs (MT hp).1 s3 s4)) from fds_n (show mNx 1 7 5 4 by unfold mNx; omega) h1 f1 h0 f0 (by omega) rfl)⟩ (all_nil))
theorem rl770 : ruOk fFS gR770 := by
  intro r hp hO hN hH
  obtain ⟨s0, s1, s2, s3, s4, s5, s6, s7, s8, s9, s10, rfl⟩ := len11 (show r.length = 11 from hN.1)
  have hR := hN.2.1.1
  have hIv : ∀ q ∈ ([(0, .negSucc 2147483647, .ofNat 2147483647), (1, .negSucc 2147483647, .ofNat 2147483647), (3, .negSucc 2147483647, .ofNat 2147483647), (4, .negSucc 2147483647, .ofNat 2147483647), (5, .negSucc 2147483647, .ofNat 2147483647), (6, .negSucc 2147483647, .ofNat 2147483647), (7, .negSucc 2147483647, .ofNat 2147483647), (8, .negSucc 2147483647, .ofNat 2147483647), (9, .ofNat 1, .ofNat 1), (10, .negSucc 2147483647, .ofNat 2147483647)] : sIv), ∃ x, ([s0, s1, s2, s3, s4, s5, s6, s7, s8, s9, s10] : List Int)[q.1]? = some x ∧ q.2.1 ≤ x ∧ x ≤ q.2.2 := hN.2.1.2
  have b8 : (1 : Int) ≤ s9 ∧ s9 ≤ (1 : Int) := ivX (q := (9, .ofNat 1, .ofNat 1)) (y := s9) (hIv _ (.tail _ (.tail _ (.tail _ (.tail _ (.tail _ (.tail _ (.tail _ (.tail _ (.head _)))))))))) rfl
  have hCs : ∀ c ∈ ([(.ofNat 0, [(.ofNat 1, 0), (.negSucc 0, 1)])] : List sLn), ∃ x, sE [s0, s1, s2, s3, s4, s5, s6, s7, s8, s9, s10] c = some x ∧ x ≤ 0 := hN.2.2.1
  have c0 : ((0 : Int) + ((1 : Int) * s0 + ((-1 : Int) * s1 + 0))) ≤ 0 := csX (hCs _ (.head _)) rfl
  have hRf : ∀ q ∈ ([((78, .ofNat 273, []), (.ofNat 17, []), 5, .ofNat 0, [(.ofNat 1, 2)]), ((80, .ofNat 275, []), (.ofNat 2, []), 1, .ofNat 0, [(.ofNat 1, 0)])] : List sRf), rfOk [s0, s1, s2, s3, s4, s5, s6, s7, s8, s9, s10] hp q := hH.1
  have h0 : hL hp 273 17 = s2 := rfL0 (hRf _ (.head _)) (sE_k _ _) (sE_k _ _) (sE_V rfl)
  have h1 : hI hp 275 2 = s0 := rfI0 (hRf _ (.tail _ (.head _))) (sE_k _ _) (sE_k _ _) (sE_V rfl)
  have y1 : (0 : Int) ≤ s0 ∧ s0 ≤ (4 : Int) := by rw [← h1]; exact hI_ty hO (by decide) rfl
  have hFc : ∀ q ∈ ([(214, [(.ofNat 0, [(.ofNat 1, 1)]), (.ofNat 0, [(.ofNat 1, 2)])]), (131, [(.ofNat 0, [(.ofNat 1, 3)]), (.ofNat 0, [(.ofNat 1, 4)])]), (207, [(.ofNat 0, [(.ofNat 1, 5)]), (.ofNat 0, [(.ofNat 1, 6)]), (.ofNat 0, [(.ofNat 1, 7)]), (.ofNat 0, [(.ofNat 1, 8)]), (.ofNat 0, [(.ofNat 1, 9)]), (.ofNat 0, [(.ofNat 1, 3)]), (.ofNat 0, [(.ofNat 1, 4)]), (.ofNat 0, [(.ofNat 1, 10)])])] : List sFc), fcOk fFS [s0, s1, s2, s3, s4, s5, s6, s7, s8, s9, s10] hp q := hH.2
  have f0 : ∀ i : Nat, i < 4 → (i : Int) < s1 → hL hp 278 (0 + i) ≠ s2 := fcX (ys := [s1, s2]) (hFc _ (.head _)) ⟨sE_V rfl, sE_V rfl, trivial⟩
  have f1 : isW (bs (MT hp).1 s3 s4) ∧ hL hp 273 17 = cd 256 0 (bs (MT hp).1 s3 s4) := fcX (ys := [s3, s4]) (hFc _ (.tail _ (.head _))) ⟨sE_V rfl, sE_V rfl, trivial⟩
  have f2 : SHq (MT hp) (nmM hp) s5 s6 s7 s8 s9 s3 s4 s10 := fcX (ys := [s5, s6, s7, s8, s9, s3, s4, s10]) (hFc _ (.tail _ (.tail _ (.head _)))) ⟨sE_V rfl, sE_V rfl, sE_V rfl, sE_V rfl, sE_V rfl, sE_V rfl, sE_V rfl, sE_V rfl, trivial⟩
  exact poX (.head _) rfl hR (all_nil) (all_nil) (all_cons ⟨[2, s3, s4, (-1)], ⟨sE_k _ _, sE_V rfl, sE_V rfl, sE_k _ _, trivial⟩, (show (0 ≤ (-1 : Int) ∧ nmM hp (2 : Int) (bs (MT hp).1 s3 s4)) ∨ ((-1 : Int) = -1 ∧ ¬ nmM hp (2 : Int) (bs (MT hp).1 s3 s4)) from fds_n (show mNx 2 0 4 2 by unfold mNx; omega) h1 f1 h0 f0 (by omega) rfl)⟩ (all_nil))
theorem rl771 : ruOk fFS gR771 := by
  intro r hp hO hN hH
  obtain ⟨s0, s1, s2, s3, s4, s5, s6, s7, s8, s9, s10, rfl⟩ := len11 (show r.length = 11 from hN.1)
  have hR := hN.2.1.1
  have hIv : ∀ q ∈ ([(0, .negSucc 2147483647, .ofNat 2147483647), (1, .negSucc 2147483647, .ofNat 2147483647), (3, .negSucc 2147483647, .ofNat 2147483647), (4, .negSucc 2147483647, .ofNat 2147483647), (5, .negSucc 2147483647, .ofNat 2147483647), (6, .negSucc 2147483647, .ofNat 2147483647), (7, .negSucc 2147483647, .ofNat 2147483647), (8, .negSucc 2147483647, .ofNat 2147483647), (9, .ofNat 1, .ofNat 1), (10, .negSucc 2147483647, .ofNat 2147483647)] : sIv), ∃ x, ([s0, s1, s2, s3, s4, s5, s6, s7, s8, s9, s10] : List Int)[q.1]? = some x ∧ q.2.1 ≤ x ∧ x ≤ q.2.2 := hN.2.1.2
  have b8 : (1 : Int) ≤ s9 ∧ s9 ≤ (1 : Int) := ivX (q := (9, .ofNat 1, .ofNat 1)) (y := s9) (hIv _ (.tail _ (.tail _ (.tail _ (.tail _ (.tail _ (.tail _ (.tail _ (.tail _ (.head _)))))))))) rfl
  have hCs : ∀ c ∈ ([(.ofNat 0, [(.ofNat 1, 0), (.negSucc 0, 1)])] : List sLn), ∃ x, sE [s0, s1, s2, s3, s4, s5, s6, s7, s8, s9, s10] c = some x ∧ x ≤ 0 := hN.2.2.1
  have c0 : ((0 : Int) + ((1 : Int) * s0 + ((-1 : Int) * s1 + 0))) ≤ 0 := csX (hCs _ (.head _)) rfl
  have hRf : ∀ q ∈ ([((78, .ofNat 273, []), (.ofNat 17, []), 5, .ofNat 0, [(.ofNat 1, 2)]), ((80, .ofNat 275, []), (.ofNat 3, []), 1, .ofNat 0, [(.ofNat 1, 0)])] : List sRf), rfOk [s0, s1, s2, s3, s4, s5, s6, s7, s8, s9, s10] hp q := hH.1
  have h0 : hL hp 273 17 = s2 := rfL0 (hRf _ (.head _)) (sE_k _ _) (sE_k _ _) (sE_V rfl)
  have h1 : hI hp 275 3 = s0 := rfI0 (hRf _ (.tail _ (.head _))) (sE_k _ _) (sE_k _ _) (sE_V rfl)
  have y1 : (0 : Int) ≤ s0 ∧ s0 ≤ (3 : Int) := by rw [← h1]; exact hI_ty hO (by decide) rfl
  have hFc : ∀ q ∈ ([(215, [(.ofNat 0, [(.ofNat 1, 1)]), (.ofNat 0, [(.ofNat 1, 2)])]), (131, [(.ofNat 0, [(.ofNat 1, 3)]), (.ofNat 0, [(.ofNat 1, 4)])]), (207, [(.ofNat 0, [(.ofNat 1, 5)]), (.ofNat 0, [(.ofNat 1, 6)]), (.ofNat 0, [(.ofNat 1, 7)]), (.ofNat 0, [(.ofNat 1, 8)]), (.ofNat 0, [(.ofNat 1, 9)]), (.ofNat 0, [(.ofNat 1, 3)]), (.ofNat 0, [(.ofNat 1, 4)]), (.ofNat 0, [(.ofNat 1, 10)])])] : List sFc), fcOk fFS [s0, s1, s2, s3, s4, s5, s6, s7, s8, s9, s10] hp q := hH.2
  have f0 : ∀ i : Nat, i < 3 → (i : Int) < s1 → hL hp 278 (4 + i) ≠ s2 := fcX (ys := [s1, s2]) (hFc _ (.head _)) ⟨sE_V rfl, sE_V rfl, trivial⟩
  have f1 : isW (bs (MT hp).1 s3 s4) ∧ hL hp 273 17 = cd 256 0 (bs (MT hp).1 s3 s4) := fcX (ys := [s3, s4]) (hFc _ (.tail _ (.head _))) ⟨sE_V rfl, sE_V rfl, trivial⟩
  have f2 : SHq (MT hp) (nmM hp) s5 s6 s7 s8 s9 s3 s4 s10 := fcX (ys := [s5, s6, s7, s8, s9, s3, s4, s10]) (hFc _ (.tail _ (.tail _ (.head _)))) ⟨sE_V rfl, sE_V rfl, sE_V rfl, sE_V rfl, sE_V rfl, sE_V rfl, sE_V rfl, sE_V rfl, trivial⟩
  exact poX (.head _) rfl hR (all_nil) (all_nil) (all_cons ⟨[3, s3, s4, (-1)], ⟨sE_k _ _, sE_V rfl, sE_V rfl, sE_k _ _, trivial⟩, (show (0 ≤ (-1 : Int) ∧ nmM hp (3 : Int) (bs (MT hp).1 s3 s4)) ∨ ((-1 : Int) = -1 ∧ ¬ nmM hp (3 : Int) (bs (MT hp).1 s3 s4)) from fds_n (show mNx 3 4 3 3 by unfold mNx; omega) h1 f1 h0 f0 (by omega) rfl)⟩ (all_nil))
theorem rl782 : ruOk fFS gR782 := by
  intro r hp hO hN hH
  have hr0 := len0 (show r.length = 0 from hN.1)
  subst hr0
  have hR := hN.2.1.1
  have hRf : ∀ q ∈ ([((78, .ofNat 273, []), (.ofNat 4, []), 1, .ofNat 0, []), ((78, .ofNat 273, []), (.ofNat 50, []), 1, .ofNat 0, [])] : List sRf), rfOk [] hp q := hH.1
  have h0 : hI hp 273 4 = 0 := rfI0 (hRf _ (.head _)) (sE_k _ _) (sE_k _ _) (sE_k _ _)
  have h1 : hI hp 273 50 = 0 := rfI0 (hRf _ (.tail _ (.head _))) (sE_k _ _) (sE_k _ _) (sE_k _ _)
  have hFc : ∀ q ∈ ([(132, [])] : List sFc), fcOk fFS [] hp q := hH.2
  have f0 : ∀ i : Nat, i < 30 → hL hp 279 i = cd 256 0 (wrd (rsv i)) := fcX (ys := []) (hFc _ (.head _)) trivial
  exact poX (.head _) rfl hR (all_nil) (all_nil) (all_cons ⟨[0, 0, 0, 0], ⟨sE_k _ _, sE_k _ _, sE_k _ _, sE_k _ _, trivial⟩, (show SG (MT hp) (nmM hp) (0 : Int) (0 : Int) (0 : Int) (0 : Int) from SG_0)⟩ (all_cons ⟨[0, 0], ⟨sE_k _ _, sE_k _ _, trivial⟩, (show ∃ n : Nat, (0 : Int) = (n : Int) ∧ n ≤ 45 ∧ sFo (fun j => hI hp 287 j) n (0 : Int) from stm_0 rfl rfl)⟩ (all_cons ⟨[0, 1], ⟨sE_k _ _, sE_k _ _, trivial⟩, (show (1 : Int) = dp (0 : Int) + 1 from rfl)⟩ (all_nil))))
theorem rl783 : ruOk fFS gR783 := by
  intro r hp hO hN hH
  obtain ⟨s0, s1, rfl⟩ := len2 (show r.length = 2 from hN.1)
  have hR := hN.2.1.1
  have hIv : ∀ q ∈ ([(0, .ofNat 0, .ofNat 2147483647), (1, .ofNat 1, .ofNat 9)] : sIv), ∃ x, ([s0, s1] : List Int)[q.1]? = some x ∧ q.2.1 ≤ x ∧ x ≤ q.2.2 := hN.2.1.2
  have b0 : (0 : Int) ≤ s0 ∧ s0 ≤ (2147483647 : Int) := ivX (q := (0, .ofNat 0, .ofNat 2147483647)) (y := s0) (hIv _ (.head _)) rfl
  have b1 : (1 : Int) ≤ s1 ∧ s1 ≤ (9 : Int) := ivX (q := (1, .ofNat 1, .ofNat 9)) (y := s1) (hIv _ (.tail _ (.head _))) rfl
  have hFc : ∀ q ∈ ([(199, [(.ofNat 0, [(.ofNat 1, 0)]), (.ofNat 0, [(.ofNat 1, 1)])])] : List sFc), fcOk fFS [s0, s1] hp q := hH.2
  have f0 : s1 = dp s0 + 1 := fcX (ys := [s0, s1]) (hFc _ (.head _)) ⟨sE_V rfl, sE_V rfl, trivial⟩
  have u := dp_l8 (t := s0) (by omega) (by omega)
  exact poX (.head _) rfl hR (all_cons (ivO (y := s0) rfl (show (0 : Int) ≤ s0 by omega) (show s0 ≤ (6560 : Int) by omega)) (all_nil)) (all_nil) (all_nil)
theorem rl784 : ruOk fFS gR784 := by
  intro r hp hO hN hH
  obtain ⟨s0, s1, rfl⟩ := len2 (show r.length = 2 from hN.1)
  have hR := hN.2.1.1
  have hIv : ∀ q ∈ ([(0, .ofNat 0, .ofNat 6560), (1, .negSucc 2147483647, .ofNat 2147483647)] : sIv), ∃ x, ([s0, s1] : List Int)[q.1]? = some x ∧ q.2.1 ≤ x ∧ x ≤ q.2.2 := hN.2.1.2
  have b0 : (0 : Int) ≤ s0 ∧ s0 ≤ (6560 : Int) := ivX (q := (0, .ofNat 0, .ofNat 6560)) (y := s0) (hIv _ (.head _)) rfl
  have b1 : (-2147483648 : Int) ≤ s1 ∧ s1 ≤ (2147483647 : Int) := ivX (q := (1, .negSucc 2147483647, .ofNat 2147483647)) (y := s1) (hIv _ (.tail _ (.head _))) rfl
  have hFc : ∀ q ∈ ([(200, [(.ofNat 0, [(.ofNat 1, 0)]), (.ofNat 0, [(.ofNat 1, 1)])])] : List sFc), fcOk fFS [s0, s1] hp q := hH.2
  have f0 : s1 = nr s0 := fcX (ys := [s0, s1]) (hFc _ (.head _)) ⟨sE_V rfl, sE_V rfl, trivial⟩
  have u := nr_b (t := s0) (by omega)
  rw [← f0] at u
  exact poX (.head _) rfl hR (all_cons (ivO (y := s1) rfl (show (0 : Int) ≤ s1 by omega) (show s1 ≤ (6560 : Int) by omega)) (all_nil)) (all_nil) (all_nil)
theorem rl785 : ruOk fFS gR785 := by
  intro r hp hO hN hH
  obtain ⟨s0, s1, s2, s3, s4, s5, s6, s7, rfl⟩ := len8 (show r.length = 8 from hN.1)
  have hR := hN.2.1.1
  have hIv : ∀ q ∈ ([(0, .negSucc 2147483647, .ofNat 2147483647), (1, .negSucc 2147483647, .ofNat 2147483647), (2, .negSucc 2147483647, .ofNat 2147483647), (3, .negSucc 2147483647, .ofNat 2147483647), (4, .ofNat 1, .ofNat 1), (5, .negSucc 2147483647, .ofNat 2147483647), (6, .negSucc 2147483647, .ofNat 2147483647), (7, .negSucc 0, .ofNat 29)] : sIv), ∃ x, ([s0, s1, s2, s3, s4, s5, s6, s7] : List Int)[q.1]? = some x ∧ q.2.1 ≤ x ∧ x ≤ q.2.2 := hN.2.1.2
  have b4 : (1 : Int) ≤ s4 ∧ s4 ≤ (1 : Int) := ivX (q := (4, .ofNat 1, .ofNat 1)) (y := s4) (hIv _ (.tail _ (.tail _ (.tail _ (.tail _ (.head _)))))) rfl
  have b7 : (-1 : Int) ≤ s7 ∧ s7 ≤ (29 : Int) := ivX (q := (7, .negSucc 0, .ofNat 29)) (y := s7) (hIv _ (.tail _ (.tail _ (.tail _ (.tail _ (.tail _ (.tail _ (.tail _ (.head _))))))))) rfl
  have hFc : ∀ q ∈ ([(207, [(.ofNat 0, [(.ofNat 1, 0)]), (.ofNat 0, [(.ofNat 1, 1)]), (.ofNat 0, [(.ofNat 1, 2)]), (.ofNat 0, [(.ofNat 1, 3)]), (.ofNat 0, [(.ofNat 1, 4)]), (.ofNat 0, [(.ofNat 1, 5)]), (.ofNat 0, [(.ofNat 1, 6)]), (.ofNat 0, [(.ofNat 1, 7)])])] : List sFc), fcOk fFS [s0, s1, s2, s3, s4, s5, s6, s7] hp q := hH.2
  have f0 : SHq (MT hp) (nmM hp) s0 s1 s2 s3 s4 s5 s6 s7 := fcX (ys := [s0, s1, s2, s3, s4, s5, s6, s7]) (hFc _ (.head _)) ⟨sE_V rfl, sE_V rfl, sE_V rfl, sE_V rfl, sE_V rfl, sE_V rfl, sE_V rfl, sE_V rfl, trivial⟩
  have u := sh_bd (MT_ok hO) f0
  have u3 := sh_k1 (MT_ok hO) f0 (by omega)
  have y : (((-1 : Int) ≤ s7 ∧ s7 ≤ (12 : Int))) ∨ (((13 : Int) ≤ s7 ∧ s7 ≤ (13 : Int))) ∨ (((14 : Int) ≤ s7 ∧ s7 ≤ (20 : Int))) ∨ (((21 : Int) ≤ s7 ∧ s7 ≤ (21 : Int))) ∨ (((22 : Int) ≤ s7 ∧ s7 ≤ (22 : Int))) ∨ (((23 : Int) ≤ s7 ∧ s7 ≤ (23 : Int))) ∨ (((24 : Int) ≤ s7 ∧ s7 ≤ (24 : Int))) ∨ (((25 : Int) ≤ s7 ∧ s7 ≤ (25 : Int))) ∨ (((26 : Int) ≤ s7 ∧ s7 ≤ (26 : Int))) ∨ (((27 : Int) ≤ s7 ∧ s7 ≤ (27 : Int))) ∨ (((28 : Int) ≤ s7 ∧ s7 ≤ (28 : Int))) ∨ (((29 : Int) ≤ s7 ∧ s7 ≤ (29 : Int))) := by omega
  rcases y with y | y | y | y | y | y | y | y | y | y | y | y
  · exact poX (.head _) rfl hR (all_cons (ivO (y := s7) rfl (show (-1 : Int) ≤ s7 by omega) (show s7 ≤ (12 : Int) by omega)) (all_nil)) (all_nil) (all_nil)
  · exact poX (.tail _ (.head _)) rfl hR (all_cons (ivO (y := s7) rfl (show (13 : Int) ≤ s7 by omega) (show s7 ≤ (13 : Int) by omega)) (all_nil)) (all_nil) (all_nil)
  · exact poX (.tail _ (.tail _ (.head _))) rfl hR (all_cons (ivO (y := s7) rfl (show (14 : Int) ≤ s7 by omega) (show s7 ≤ (20 : Int) by omega)) (all_nil)) (all_nil) (all_nil)
  · exact poX (.tail _ (.tail _ (.tail _ (.head _)))) rfl hR (all_cons (ivO (y := s7) rfl (show (21 : Int) ≤ s7 by omega) (show s7 ≤ (21 : Int) by omega)) (all_nil)) (all_nil) (all_nil)
  · exact poX (.tail _ (.tail _ (.tail _ (.tail _ (.head _))))) rfl hR (all_cons (ivO (y := s7) rfl (show (22 : Int) ≤ s7 by omega) (show s7 ≤ (22 : Int) by omega)) (all_nil)) (all_nil) (all_nil)
  · exact poX (.tail _ (.tail _ (.tail _ (.tail _ (.tail _ (.head _)))))) rfl hR (all_cons (ivO (y := s7) rfl (show (23 : Int) ≤ s7 by omega) (show s7 ≤ (23 : Int) by omega)) (all_nil)) (all_nil) (all_nil)
  · exact poX (.tail _ (.tail _ (.tail _ (.tail _ (.tail _ (.tail _ (.head _))))))) rfl hR (all_cons (ivO (y := s7) rfl (show (24 : Int) ≤ s7 by omega) (show s7 ≤ (24 : Int) by omega)) (all_nil)) (all_nil) (all_nil)
  · exact poX (.tail _ (.tail _ (.tail _ (.tail _ (.tail _ (.tail _ (.tail _ (.head _)))))))) rfl hR (all_cons (ivO (y := s7) rfl (show (25 : Int) ≤ s7 by omega) (show s7 ≤ (25 : Int) by omega)) (all_nil)) (all_nil) (all_nil)
  · exact poX (.tail _ (.tail _ (.tail _ (.tail _ (.tail _ (.tail _ (.tail _ (.tail _ (.head _))))))))) rfl hR (all_cons (ivO (y := s7) rfl (show (26 : Int) ≤ s7 by omega) (show s7 ≤ (26 : Int) by omega)) (all_nil)) (all_nil) (all_nil)
  · exact poX (.tail _ (.tail _ (.tail _ (.tail _ (.tail _ (.tail _ (.tail _ (.tail _ (.tail _ (.head _)))))))))) rfl hR (all_cons (ivO (y := s7) rfl (show (27 : Int) ≤ s7 by omega) (show s7 ≤ (27 : Int) by omega)) (all_nil)) (all_nil) (all_nil)
  · exact poX (.tail _ (.tail _ (.tail _ (.tail _ (.tail _ (.tail _ (.tail _ (.tail _ (.tail _ (.tail _ (.head _))))))))))) rfl hR (all_cons (ivO (y := s7) rfl (show (28 : Int) ≤ s7 by omega) (show s7 ≤ (28 : Int) by omega)) (all_nil)) (all_nil) (all_nil)
  · exact poX (.tail _ (.tail _ (.tail _ (.tail _ (.tail _ (.tail _ (.tail _ (.tail _ (.tail _ (.tail _ (.tail _ (.head _)))))))))))) rfl hR (all_cons (ivO (y := s7) rfl (show (29 : Int) ≤ s7 by omega) (show s7 ≤ (29 : Int) by omega)) (all_nil)) (all_nil) (all_nil)
theorem rl786 : ruOk fFS gR786 := by
  intro r hp hO hN hH
  obtain ⟨s0, s1, s2, s3, s4, s5, s6, s7, rfl⟩ := len8 (show r.length = 8 from hN.1)
  have hR := hN.2.1.1
  have hIv : ∀ q ∈ ([(0, .negSucc 2147483647, .ofNat 2147483647), (1, .negSucc 2147483647, .ofNat 2147483647), (2, .negSucc 2147483647, .ofNat 2147483647), (3, .negSucc 2147483647, .ofNat 2147483647), (4, .ofNat 3, .ofNat 3), (5, .negSucc 2147483647, .ofNat 2147483647), (6, .negSucc 2147483647, .ofNat 2147483647), (7, .negSucc 2147483647, .ofNat 2147483647)] : sIv), ∃ x, ([s0, s1, s2, s3, s4, s5, s6, s7] : List Int)[q.1]? = some x ∧ q.2.1 ≤ x ∧ x ≤ q.2.2 := hN.2.1.2
  have b4 : (3 : Int) ≤ s4 ∧ s4 ≤ (3 : Int) := ivX (q := (4, .ofNat 3, .ofNat 3)) (y := s4) (hIv _ (.tail _ (.tail _ (.tail _ (.tail _ (.head _)))))) rfl
  have b7 : (-2147483648 : Int) ≤ s7 ∧ s7 ≤ (2147483647 : Int) := ivX (q := (7, .negSucc 2147483647, .ofNat 2147483647)) (y := s7) (hIv _ (.tail _ (.tail _ (.tail _ (.tail _ (.tail _ (.tail _ (.tail _ (.head _))))))))) rfl
  have hFc : ∀ q ∈ ([(207, [(.ofNat 0, [(.ofNat 1, 0)]), (.ofNat 0, [(.ofNat 1, 1)]), (.ofNat 0, [(.ofNat 1, 2)]), (.ofNat 0, [(.ofNat 1, 3)]), (.ofNat 0, [(.ofNat 1, 4)]), (.ofNat 0, [(.ofNat 1, 5)]), (.ofNat 0, [(.ofNat 1, 6)]), (.ofNat 0, [(.ofNat 1, 7)])])] : List sFc), fcOk fFS [s0, s1, s2, s3, s4, s5, s6, s7] hp q := hH.2
  have f0 : SHq (MT hp) (nmM hp) s0 s1 s2 s3 s4 s5 s6 s7 := fcX (ys := [s0, s1, s2, s3, s4, s5, s6, s7]) (hFc _ (.head _)) ⟨sE_V rfl, sE_V rfl, sE_V rfl, sE_V rfl, sE_V rfl, sE_V rfl, sE_V rfl, sE_V rfl, trivial⟩
  have u := sh_bd (MT_ok hO) f0
  have y : (((-2147483648 : Int) ≤ s7 ∧ s7 ≤ (39 : Int))) ∨ (((40 : Int) ≤ s7 ∧ s7 ≤ (40 : Int))) ∨ (((41 : Int) ≤ s7 ∧ s7 ≤ (41 : Int))) ∨ (((42 : Int) ≤ s7 ∧ s7 ≤ (59 : Int))) ∨ (((60 : Int) ≤ s7 ∧ s7 ≤ (62 : Int))) ∨ (((63 : Int) ≤ s7 ∧ s7 ≤ (2147483647 : Int))) := by omega
  rcases y with y | y | y | y | y | y
  · exact poX (.head _) rfl hR (all_cons (ivO (y := s7) rfl (show (-2147483648 : Int) ≤ s7 by omega) (show s7 ≤ (39 : Int) by omega)) (all_nil)) (all_nil) (all_nil)
  · exact poX (.tail _ (.head _)) rfl hR (all_cons (ivO (y := s7) rfl (show (40 : Int) ≤ s7 by omega) (show s7 ≤ (40 : Int) by omega)) (all_nil)) (all_nil) (all_nil)
  · exact poX (.tail _ (.tail _ (.head _))) rfl hR (all_cons (ivO (y := s7) rfl (show (41 : Int) ≤ s7 by omega) (show s7 ≤ (41 : Int) by omega)) (all_nil)) (all_nil) (all_nil)
  · exact poX (.tail _ (.tail _ (.tail _ (.head _)))) rfl hR (all_cons (ivO (y := s7) rfl (show (42 : Int) ≤ s7 by omega) (show s7 ≤ (59 : Int) by omega)) (all_nil)) (all_nil) (all_nil)
  · exact poX (.tail _ (.tail _ (.tail _ (.tail _ (.head _))))) rfl hR (all_cons (ivO (y := s7) rfl (show (60 : Int) ≤ s7 by omega) (show s7 ≤ (62 : Int) by omega)) (all_nil)) (all_nil) (all_nil)
  · exact poX (.tail _ (.tail _ (.tail _ (.tail _ (.tail _ (.head _)))))) rfl hR (all_cons (ivO (y := s7) rfl (show (63 : Int) ≤ s7 by omega) (show s7 ≤ (2147483647 : Int) by omega)) (all_nil)) (all_nil) (all_nil)
theorem rl787 : ruOk fFS gR787 := by
  intro r hp hO hN hH
  have hr0 := len0 (show r.length = 0 from hN.1)
  subst hr0
  have hR := hN.2.1.1
  exact poX (.head _) rfl hR (all_nil) (all_nil) (all_cons ⟨[7237492, 21], ⟨sE_k _ _, sE_k _ _, trivial⟩, (show ∃ j : Nat, j < 30 ∧ (21 : Int) = (j : Int) ∧ (7237492 : Int) = cd 256 0 (wrd j) from rw_k (j := 21) (by decide) (by decide) (by decide))⟩ (all_nil))
theorem rl788 : ruOk fFS gR788 := by
  intro r hp hO hN hH
  obtain ⟨s0, s1, s2, s3, s4, s5, s6, s7, rfl⟩ := len8 (show r.length = 8 from hN.1)
  have hR := hN.2.1.1
  have hIv : ∀ q ∈ ([(0, .negSucc 2147483647, .ofNat 2147483647), (1, .negSucc 2147483647, .ofNat 2147483647), (2, .negSucc 2147483647, .ofNat 2147483647), (3, .negSucc 2147483647, .ofNat 2147483647), (4, .ofNat 1, .ofNat 1), (5, .negSucc 2147483647, .ofNat 2147483647), (6, .negSucc 2147483647, .ofNat 2147483647), (7, .negSucc 2147483647, .ofNat 2147483647)] : sIv), ∃ x, ([s0, s1, s2, s3, s4, s5, s6, s7] : List Int)[q.1]? = some x ∧ q.2.1 ≤ x ∧ x ≤ q.2.2 := hN.2.1.2
  have b4 : (1 : Int) ≤ s4 ∧ s4 ≤ (1 : Int) := ivX (q := (4, .ofNat 1, .ofNat 1)) (y := s4) (hIv _ (.tail _ (.tail _ (.tail _ (.tail _ (.head _)))))) rfl
  have b7 : (-2147483648 : Int) ≤ s7 ∧ s7 ≤ (2147483647 : Int) := ivX (q := (7, .negSucc 2147483647, .ofNat 2147483647)) (y := s7) (hIv _ (.tail _ (.tail _ (.tail _ (.tail _ (.tail _ (.tail _ (.tail _ (.head _))))))))) rfl
  have hFc : ∀ q ∈ ([(207, [(.ofNat 0, [(.ofNat 1, 0)]), (.ofNat 0, [(.ofNat 1, 1)]), (.ofNat 0, [(.ofNat 1, 2)]), (.ofNat 0, [(.ofNat 1, 3)]), (.ofNat 0, [(.ofNat 1, 4)]), (.ofNat 0, [(.ofNat 1, 5)]), (.ofNat 0, [(.ofNat 1, 6)]), (.ofNat 0, [(.ofNat 1, 7)])])] : List sFc), fcOk fFS [s0, s1, s2, s3, s4, s5, s6, s7] hp q := hH.2
  have f0 : SHq (MT hp) (nmM hp) s0 s1 s2 s3 s4 s5 s6 s7 := fcX (ys := [s0, s1, s2, s3, s4, s5, s6, s7]) (hFc _ (.head _)) ⟨sE_V rfl, sE_V rfl, sE_V rfl, sE_V rfl, sE_V rfl, sE_V rfl, sE_V rfl, sE_V rfl, trivial⟩
  have u := sh_bd (MT_ok hO) f0
  have u3 := sh_k1 (MT_ok hO) f0 (by omega)
  have y : (((-1 : Int) ≤ s7 ∧ s7 ≤ (12 : Int))) ∨ (((13 : Int) ≤ s7 ∧ s7 ≤ (13 : Int))) ∨ (((14 : Int) ≤ s7 ∧ s7 ≤ (21 : Int))) ∨ (((22 : Int) ≤ s7 ∧ s7 ≤ (22 : Int))) ∨ (((23 : Int) ≤ s7 ∧ s7 ≤ (23 : Int))) ∨ (((24 : Int) ≤ s7 ∧ s7 ≤ (24 : Int))) ∨ (((25 : Int) ≤ s7 ∧ s7 ≤ (25 : Int))) ∨ (((26 : Int) ≤ s7 ∧ s7 ≤ (26 : Int))) ∨ (((27 : Int) ≤ s7 ∧ s7 ≤ (27 : Int))) ∨ (((28 : Int) ≤ s7 ∧ s7 ≤ (28 : Int))) ∨ (((29 : Int) ≤ s7 ∧ s7 ≤ (29 : Int))) := by omega
  rcases y with y | y | y | y | y | y | y | y | y | y | y
  · exact poX (.head _) rfl hR (all_cons (ivO (y := s7) rfl (show (-1 : Int) ≤ s7 by omega) (show s7 ≤ (12 : Int) by omega)) (all_nil)) (all_nil) (all_nil)
  · exact poX (.tail _ (.head _)) rfl hR (all_cons (ivO (y := s7) rfl (show (13 : Int) ≤ s7 by omega) (show s7 ≤ (13 : Int) by omega)) (all_nil)) (all_nil) (all_nil)
  · exact poX (.tail _ (.tail _ (.head _))) rfl hR (all_cons (ivO (y := s7) rfl (show (14 : Int) ≤ s7 by omega) (show s7 ≤ (21 : Int) by omega)) (all_nil)) (all_nil) (all_nil)
  · exact poX (.tail _ (.tail _ (.tail _ (.head _)))) rfl hR (all_cons (ivO (y := s7) rfl (show (22 : Int) ≤ s7 by omega) (show s7 ≤ (22 : Int) by omega)) (all_nil)) (all_nil) (all_nil)
  · exact poX (.tail _ (.tail _ (.tail _ (.tail _ (.head _))))) rfl hR (all_cons (ivO (y := s7) rfl (show (23 : Int) ≤ s7 by omega) (show s7 ≤ (23 : Int) by omega)) (all_nil)) (all_nil) (all_nil)
  · exact poX (.tail _ (.tail _ (.tail _ (.tail _ (.tail _ (.head _)))))) rfl hR (all_cons (ivO (y := s7) rfl (show (24 : Int) ≤ s7 by omega) (show s7 ≤ (24 : Int) by omega)) (all_nil)) (all_nil) (all_nil)
  · exact poX (.tail _ (.tail _ (.tail _ (.tail _ (.tail _ (.tail _ (.head _))))))) rfl hR (all_cons (ivO (y := s7) rfl (show (25 : Int) ≤ s7 by omega) (show s7 ≤ (25 : Int) by omega)) (all_nil)) (all_nil) (all_nil)
  · exact poX (.tail _ (.tail _ (.tail _ (.tail _ (.tail _ (.tail _ (.tail _ (.head _)))))))) rfl hR (all_cons (ivO (y := s7) rfl (show (26 : Int) ≤ s7 by omega) (show s7 ≤ (26 : Int) by omega)) (all_nil)) (all_nil) (all_nil)
  · exact poX (.tail _ (.tail _ (.tail _ (.tail _ (.tail _ (.tail _ (.tail _ (.tail _ (.head _))))))))) rfl hR (all_cons (ivO (y := s7) rfl (show (27 : Int) ≤ s7 by omega) (show s7 ≤ (27 : Int) by omega)) (all_nil)) (all_nil) (all_nil)
  · exact poX (.tail _ (.tail _ (.tail _ (.tail _ (.tail _ (.tail _ (.tail _ (.tail _ (.tail _ (.head _)))))))))) rfl hR (all_cons (ivO (y := s7) rfl (show (28 : Int) ≤ s7 by omega) (show s7 ≤ (28 : Int) by omega)) (all_nil)) (all_nil) (all_nil)
  · exact poX (.tail _ (.tail _ (.tail _ (.tail _ (.tail _ (.tail _ (.tail _ (.tail _ (.tail _ (.tail _ (.head _))))))))))) rfl hR (all_cons (ivO (y := s7) rfl (show (29 : Int) ≤ s7 by omega) (show s7 ≤ (29 : Int) by omega)) (all_nil)) (all_nil) (all_nil)
theorem rl789 : ruOk fFS gR789 := by
  intro r hp hO hN hH
  have hr0 := len0 (show r.length = 0 from hN.1)
  subst hr0
  have hR := hN.2.1.1
  exact poX (.head _) rfl hR (all_nil) (all_nil) (all_cons ⟨[418430678629, 22], ⟨sE_k _ _, sE_k _ _, trivial⟩, (show ∃ j : Nat, j < 30 ∧ (22 : Int) = (j : Int) ∧ (418430678629 : Int) = cd 256 0 (wrd j) from rw_k (j := 22) (by decide) (by decide) (by decide))⟩ (all_nil))
theorem rl790 : ruOk fFS gR790 := by
  intro r hp hO hN hH
  have hr0 := len0 (show r.length = 0 from hN.1)
  subst hr0
  have hR := hN.2.1.1
  exact poX (.head _) rfl hR (all_nil) (all_nil) (all_cons ⟨[28518, 23], ⟨sE_k _ _, sE_k _ _, trivial⟩, (show ∃ j : Nat, j < 30 ∧ (23 : Int) = (j : Int) ∧ (28518 : Int) = cd 256 0 (wrd j) from rw_k (j := 23) (by decide) (by decide) (by decide))⟩ (all_nil))
theorem rl791 : ruOk fFS gR791 := by
  intro r hp hO hN hH
  have hr0 := len0 (show r.length = 0 from hN.1)
  subst hr0
  have hR := hN.2.1.1
  exact poX (.head _) rfl hR (all_nil) (all_nil) (all_cons ⟨[6713202, 24], ⟨sE_k _ _, sE_k _ _, trivial⟩, (show ∃ j : Nat, j < 30 ∧ (24 : Int) = (j : Int) ∧ (6713202 : Int) = cd 256 0 (wrd j) from rw_k (j := 24) (by decide) (by decide) (by decide))⟩ (all_nil))
theorem rl792 : ruOk fFS gR792 := by
  intro r hp hO hN hH
  have hr0 := len0 (show r.length = 0 from hN.1)
  subst hr0
  have hR := hN.2.1.1
  exact poX (.head _) rfl hR (all_nil) (all_nil) (all_cons ⟨[25209, 25], ⟨sE_k _ _, sE_k _ _, trivial⟩, (show ∃ j : Nat, j < 30 ∧ (25 : Int) = (j : Int) ∧ (25209 : Int) = cd 256 0 (wrd j) from rw_k (j := 25) (by decide) (by decide) (by decide))⟩ (all_nil))
theorem rl793 : ruOk fFS gR793 := by
  intro r hp hO hN hH
  have hr0 := len0 (show r.length = 0 from hN.1)
  subst hr0
  have hR := hN.2.1.1
  exact poX (.head _) rfl hR (all_nil) (all_nil) (all_cons ⟨[120, 26], ⟨sE_k _ _, sE_k _ _, trivial⟩, (show ∃ j : Nat, j < 30 ∧ (26 : Int) = (j : Int) ∧ (120 : Int) = cd 256 0 (wrd j) from rw_k (j := 26) (by decide) (by decide) (by decide))⟩ (all_nil))
theorem rl794 : ruOk fFS gR794 := by
  intro r hp hO hN hH
  have hr0 := len0 (show r.length = 0 from hN.1)
  subst hr0
  have hR := hN.2.1.1
  exact poX (.head _) rfl hR (all_nil) (all_nil) (all_cons ⟨[121, 27], ⟨sE_k _ _, sE_k _ _, trivial⟩, (show ∃ j : Nat, j < 30 ∧ (27 : Int) = (j : Int) ∧ (121 : Int) = cd 256 0 (wrd j) from rw_k (j := 27) (by decide) (by decide) (by decide))⟩ (all_nil))
theorem rl795 : ruOk fFS gR795 := by
  intro r hp hO hN hH
  have hr0 := len0 (show r.length = 0 from hN.1)
  subst hr0
  have hR := hN.2.1.1
  exact poX (.head _) rfl hR (all_nil) (all_nil) (all_cons ⟨[119182682645875, 28], ⟨sE_k _ _, sE_k _ _, trivial⟩, (show ∃ j : Nat, j < 30 ∧ (28 : Int) = (j : Int) ∧ (119182682645875 : Int) = cd 256 0 (wrd j) from rw_k (j := 28) (by decide) (by decide) (by decide))⟩ (all_nil))
theorem rl796 : ruOk fFS gR796 := by
  intro r hp hO hN hH
  have hr0 := len0 (show r.length = 0 from hN.1)
  subst hr0
  have hR := hN.2.1.1
  exact poX (.head _) rfl hR (all_nil) (all_nil) (all_cons ⟨[121450625394034, 29], ⟨sE_k _ _, sE_k _ _, trivial⟩, (show ∃ j : Nat, j < 30 ∧ (29 : Int) = (j : Int) ∧ (121450625394034 : Int) = cd 256 0 (wrd j) from rw_k (j := 29) (by decide) (by decide) (by decide))⟩ (all_nil))
theorem rl797 : ruOk fFS gR797 := by
  intro r hp hO hN hH
  obtain ⟨s0, s1, s2, s3, s4, s5, s6, s7, rfl⟩ := len8 (show r.length = 8 from hN.1)
  have hR := hN.2.1.1
  have hIv : ∀ q ∈ ([(0, .negSucc 2147483647, .ofNat 2147483647), (1, .ofNat 0, .ofNat 0), (2, .negSucc 2147483647, .ofNat 2147483647), (3, .negSucc 2147483647, .ofNat 2147483647), (4, .ofNat 0, .ofNat 0), (5, .negSucc 2147483647, .ofNat 2147483647), (6, .negSucc 2147483647, .ofNat 2147483647), (7, .negSucc 2147483647, .ofNat 2147483647)] : sIv), ∃ x, ([s0, s1, s2, s3, s4, s5, s6, s7] : List Int)[q.1]? = some x ∧ q.2.1 ≤ x ∧ x ≤ q.2.2 := hN.2.1.2
  have b1 : (0 : Int) ≤ s1 ∧ s1 ≤ (0 : Int) := ivX (q := (1, .ofNat 0, .ofNat 0)) (y := s1) (hIv _ (.tail _ (.head _))) rfl
  have b4 : (0 : Int) ≤ s4 ∧ s4 ≤ (0 : Int) := ivX (q := (4, .ofNat 0, .ofNat 0)) (y := s4) (hIv _ (.tail _ (.tail _ (.tail _ (.tail _ (.head _)))))) rfl
  have hFc : ∀ q ∈ ([(207, [(.ofNat 0, [(.ofNat 1, 0)]), (.ofNat 0, [(.ofNat 1, 1)]), (.ofNat 0, [(.ofNat 1, 2)]), (.ofNat 0, [(.ofNat 1, 3)]), (.ofNat 0, [(.ofNat 1, 4)]), (.ofNat 0, [(.ofNat 1, 5)]), (.ofNat 0, [(.ofNat 1, 6)]), (.ofNat 0, [(.ofNat 1, 7)])])] : List sFc), fcOk fFS [s0, s1, s2, s3, s4, s5, s6, s7] hp q := hH.2
  have f0 : SHq (MT hp) (nmM hp) s0 s1 s2 s3 s4 s5 s6 s7 := fcX (ys := [s0, s1, s2, s3, s4, s5, s6, s7]) (hFc _ (.head _)) ⟨sE_V rfl, sE_V rfl, sE_V rfl, sE_V rfl, sE_V rfl, sE_V rfl, sE_V rfl, sE_V rfl, trivial⟩
  exact poX (.head _) rfl hR (all_nil) (all_nil) (all_cons ⟨[1, s5], ⟨sE_k _ _, sE_V rfl, trivial⟩, (show SRS (MT hp) (nmM hp) (1 : Int) s5 from s0_f1 f0 (by omega) (by omega) (by omega))⟩ (all_nil))
theorem rl798 : ruOk fFS gR798 := by
  intro r hp hO hN hH
  obtain ⟨s0, s1, s2, s3, s4, s5, s6, s7, rfl⟩ := len8 (show r.length = 8 from hN.1)
  have hR := hN.2.1.1
  have hIv : ∀ q ∈ ([(0, .negSucc 2147483647, .ofNat 2147483647), (1, .ofNat 0, .ofNat 0), (2, .negSucc 2147483647, .ofNat 2147483647), (3, .negSucc 2147483647, .ofNat 2147483647), (4, .ofNat 2, .ofNat 2), (5, .negSucc 2147483647, .ofNat 2147483647), (6, .negSucc 2147483647, .ofNat 2147483647), (7, .negSucc 2147483647, .ofNat 2147483647)] : sIv), ∃ x, ([s0, s1, s2, s3, s4, s5, s6, s7] : List Int)[q.1]? = some x ∧ q.2.1 ≤ x ∧ x ≤ q.2.2 := hN.2.1.2
  have b1 : (0 : Int) ≤ s1 ∧ s1 ≤ (0 : Int) := ivX (q := (1, .ofNat 0, .ofNat 0)) (y := s1) (hIv _ (.tail _ (.head _))) rfl
  have b4 : (2 : Int) ≤ s4 ∧ s4 ≤ (2 : Int) := ivX (q := (4, .ofNat 2, .ofNat 2)) (y := s4) (hIv _ (.tail _ (.tail _ (.tail _ (.tail _ (.head _)))))) rfl
  have hFc : ∀ q ∈ ([(207, [(.ofNat 0, [(.ofNat 1, 0)]), (.ofNat 0, [(.ofNat 1, 1)]), (.ofNat 0, [(.ofNat 1, 2)]), (.ofNat 0, [(.ofNat 1, 3)]), (.ofNat 0, [(.ofNat 1, 4)]), (.ofNat 0, [(.ofNat 1, 5)]), (.ofNat 0, [(.ofNat 1, 6)]), (.ofNat 0, [(.ofNat 1, 7)])])] : List sFc), fcOk fFS [s0, s1, s2, s3, s4, s5, s6, s7] hp q := hH.2
  have f0 : SHq (MT hp) (nmM hp) s0 s1 s2 s3 s4 s5 s6 s7 := fcX (ys := [s0, s1, s2, s3, s4, s5, s6, s7]) (hFc _ (.head _)) ⟨sE_V rfl, sE_V rfl, sE_V rfl, sE_V rfl, sE_V rfl, sE_V rfl, sE_V rfl, sE_V rfl, trivial⟩
  exact poX (.head _) rfl hR (all_nil) (all_nil) (all_cons ⟨[1, s5], ⟨sE_k _ _, sE_V rfl, trivial⟩, (show SRS (MT hp) (nmM hp) (1 : Int) s5 from s0_f1 f0 (by omega) (by omega) (by omega))⟩ (all_nil))
theorem rl799 : ruOk fFS gR799 := by
  intro r hp hO hN hH
  obtain ⟨s0, s1, rfl⟩ := len2 (show r.length = 2 from hN.1)
  have hR := hN.2.1.1
  have hIv : ∀ q ∈ ([(0, .negSucc 2147483647, .ofNat 2147483647), (1, .negSucc 2147483647, .ofNat 2147483647)] : sIv), ∃ x, ([s0, s1] : List Int)[q.1]? = some x ∧ q.2.1 ≤ x ∧ x ≤ q.2.2 := hN.2.1.2
  have hRf : ∀ q ∈ ([((78, .ofNat 273, []), (.ofNat 15, []), 1, .ofNat 0, [(.ofNat 1, 0)]), ((78, .ofNat 273, []), (.ofNat 16, []), 1, .ofNat 0, [(.ofNat 1, 1)])] : List sRf), rfOk [s0, s1] hp q := hH.1
  have h0 : hI hp 273 15 = s0 := rfI0 (hRf _ (.head _)) (sE_k _ _) (sE_k _ _) (sE_V rfl)
  have h1 : hI hp 273 16 = s1 := rfI0 (hRf _ (.tail _ (.head _))) (sE_k _ _) (sE_k _ _) (sE_V rfl)
  have hFc : ∀ q ∈ ([(208, [(.ofNat 0, [(.ofNat 1, 0)]), (.ofNat 0, [(.ofNat 1, 1)])])] : List sFc), fcOk fFS [s0, s1] hp q := hH.2
  have f0 : SRS (MT hp) (nmM hp) s0 s1 := fcX (ys := [s0, s1]) (hFc _ (.head _)) ⟨sE_V rfl, sE_V rfl, trivial⟩
  exact poX (.head _) rfl hR (all_nil) (all_nil) (all_cons ⟨[(-s1 - 1), s0], ⟨sEv (y' := ((-1 : Int) + ((-1 : Int) * s1 + 0))) rfl (by omega), sE_V rfl, trivial⟩, (show SAN (MT hp) (nmM hp) (-s1 - 1) s0 from Or.inr ⟨s1, f0, by omega⟩)⟩ (all_nil))
theorem rl800 : ruOk fFS gR800 := by
  intro r hp hO hN hH
  obtain ⟨s0, s1, s2, s3, s4, s5, s6, rfl⟩ := len7 (show r.length = 7 from hN.1)
  have hR := hN.2.1.1
  have hIv : ∀ q ∈ ([(0, .ofNat 0, .ofNat 940), (1, .negSucc 2147483647, .ofNat 2147483647), (2, .negSucc 2147483647, .ofNat 2147483647), (3, .negSucc 2147483647, .ofNat 2147483647), (4, .negSucc 2147483647, .ofNat 2147483647), (5, .negSucc 2147483647, .ofNat 2147483647), (6, .negSucc 2147483647, .ofNat 2147483647)] : sIv), ∃ x, ([s0, s1, s2, s3, s4, s5, s6] : List Int)[q.1]? = some x ∧ q.2.1 ≤ x ∧ x ≤ q.2.2 := hN.2.1.2
  have b0 : (0 : Int) ≤ s0 ∧ s0 ≤ (940 : Int) := ivX (q := (0, .ofNat 0, .ofNat 940)) (y := s0) (hIv _ (.head _)) rfl
  have hCs : ∀ c ∈ ([(.ofNat 0, [(.ofNat 1, 0), (.negSucc 0, 6)])] : List sLn), ∃ x, sE [s0, s1, s2, s3, s4, s5, s6] c = some x ∧ x ≤ 0 := hN.2.2.1
  have c0 : ((0 : Int) + ((1 : Int) * s0 + ((-1 : Int) * s6 + 0))) ≤ 0 := csX (hCs _ (.head _)) rfl
  have hRf : ∀ q ∈ ([((40, .ofNat 173, []), (.ofNat 2, []), 1, .ofNat 0, [(.ofNat 1, 0)]), ((40, .ofNat 173, []), (.ofNat 3, []), 1, .ofNat 0, [(.ofNat 1, 1)]), ((78, .ofNat 273, []), (.ofNat 3, []), 1, .ofNat 0, [(.ofNat 1, 0)]), ((78, .ofNat 273, []), (.ofNat 5, []), 1, .ofNat 0, [(.ofNat 1, 1)])] : List sRf), rfOk [s0, s1, s2, s3, s4, s5, s6] hp q := hH.1
  have h0 : hI hp 173 2 = s0 := rfI0 (hRf _ (.head _)) (sE_k _ _) (sE_k _ _) (sE_V rfl)
  have y0 : (0 : Int) ≤ s0 ∧ s0 ≤ (940 : Int) := by rw [← h0]; exact hI_ty hO (by decide) rfl
  have tnx : (XT hp).2.1 = s0 := h0
  have h1 : hI hp 173 3 = s1 := rfI0 (hRf _ (.tail _ (.head _))) (sE_k _ _) (sE_k _ _) (sE_V rfl)
  have y1 : (0 : Int) ≤ s1 ∧ s1 ≤ (940 : Int) := by rw [← h1]; exact hI_ty hO (by decide) rfl
  have tmx : (XT hp).2.2 = s1 := h1
  have h2 : hI hp 273 3 = s0 := rfI0 (hRf _ (.tail _ (.tail _ (.head _)))) (sE_k _ _) (sE_k _ _) (sE_V rfl)
  have y2 : (0 : Int) ≤ s0 ∧ s0 ≤ (940 : Int) := by rw [← h2]; exact hI_ty hO (by decide) rfl
  have tnm : (MT hp).2.1 = s0 := h2
  have h3 : hI hp 273 5 = s1 := rfI0 (hRf _ (.tail _ (.tail _ (.tail _ (.head _))))) (sE_k _ _) (sE_k _ _) (sE_V rfl)
  have y3 : (0 : Int) ≤ s1 ∧ s1 ≤ (940 : Int) := by rw [← h3]; exact hI_ty hO (by decide) rfl
  have tmm : (MT hp).2.2 = s1 := h3
  have hFc : ∀ q ∈ ([(204, [(.ofNat 0, [(.ofNat 1, 2)]), (.ofNat 0, [(.ofNat 1, 3)])]), (210, [(.ofNat 0, [(.ofNat 1, 4)]), (.ofNat 0, [(.ofNat 1, 5)])]), (177, [(.ofNat 0, [(.ofNat 1, 6)])]), (216, [])] : List sFc), fcOk fFS [s0, s1, s2, s3, s4, s5, s6] hp q := hH.2
  have f0 : SAN (XT hp) (nmR hp 3) s2 s3 := fcX (ys := [s2, s3]) (hFc _ (.head _)) ⟨sE_V rfl, sE_V rfl, trivial⟩
  have f1 : SAN (MT hp) (nmM hp) s4 s5 := fcX (ys := [s4, s5]) (hFc _ (.tail _ (.head _))) ⟨sE_V rfl, sE_V rfl, trivial⟩
  have f2 : ∀ i : Nat, i < 940 → (i : Int) < s6 → hI hp 1 i = hI hp 274 i % 256 := fcX (ys := [s6]) (hFc _ (.tail _ (.tail _ (.head _)))) ⟨sE_V rfl, trivial⟩
  have f3 : ∀ c L, isW L → (nmR hp 3 c L ↔ nmM hp c L) := fcX (ys := []) (hFc _ (.tail _ (.tail _ (.tail _ (.head _))))) trivial
  have u := san_eq hO f2 h0 h2 h1 h3 ⟨by omega, by omega⟩ f3 f0 f1
  exact poX (.head _) rfl hR (all_nil) (all_cons ⟨((0 : Int) + ((1 : Int) * s2 + ((-1 : Int) * s4 + 0))), rfl, (show ((0 : Int) + ((1 : Int) * s2 + ((-1 : Int) * s4 + 0))) ≤ 0 by omega)⟩ (all_cons ⟨((0 : Int) + ((-1 : Int) * s2 + ((1 : Int) * s4 + 0))), rfl, (show ((0 : Int) + ((-1 : Int) * s2 + ((1 : Int) * s4 + 0))) ≤ 0 by omega)⟩ (all_cons ⟨((0 : Int) + ((1 : Int) * s3 + ((-1 : Int) * s5 + 0))), rfl, (show ((0 : Int) + ((1 : Int) * s3 + ((-1 : Int) * s5 + 0))) ≤ 0 by omega)⟩ (all_cons ⟨((0 : Int) + ((-1 : Int) * s3 + ((1 : Int) * s5 + 0))), rfl, (show ((0 : Int) + ((-1 : Int) * s3 + ((1 : Int) * s5 + 0))) ≤ 0 by omega)⟩ (all_nil))))) (all_nil)
theorem rl801 : ruOk fFS gR801 := by
  intro r hp hO hN hH
  obtain ⟨s0, s1, s2, s3, s4, s5, s6, rfl⟩ := len7 (show r.length = 7 from hN.1)
  have hR := hN.2.1.1
  have hIv : ∀ q ∈ ([(0, .ofNat 0, .ofNat 940), (1, .negSucc 2147483647, .ofNat 2147483647), (2, .negSucc 2147483647, .ofNat 2147483647), (3, .negSucc 2147483647, .ofNat 2147483647), (4, .negSucc 2147483647, .ofNat 2147483647), (5, .negSucc 2147483647, .ofNat 2147483647), (6, .negSucc 2147483647, .ofNat 2147483647)] : sIv), ∃ x, ([s0, s1, s2, s3, s4, s5, s6] : List Int)[q.1]? = some x ∧ q.2.1 ≤ x ∧ x ≤ q.2.2 := hN.2.1.2
  have b0 : (0 : Int) ≤ s0 ∧ s0 ≤ (940 : Int) := ivX (q := (0, .ofNat 0, .ofNat 940)) (y := s0) (hIv _ (.head _)) rfl
  have hCs : ∀ c ∈ ([(.ofNat 0, [(.ofNat 1, 0), (.negSucc 0, 6)])] : List sLn), ∃ x, sE [s0, s1, s2, s3, s4, s5, s6] c = some x ∧ x ≤ 0 := hN.2.2.1
  have c0 : ((0 : Int) + ((1 : Int) * s0 + ((-1 : Int) * s6 + 0))) ≤ 0 := csX (hCs _ (.head _)) rfl
  have hRf : ∀ q ∈ ([((40, .ofNat 173, []), (.ofNat 2, []), 1, .ofNat 0, [(.ofNat 1, 0)]), ((40, .ofNat 173, []), (.ofNat 3, []), 1, .ofNat 0, [(.ofNat 1, 1)]), ((78, .ofNat 273, []), (.ofNat 3, []), 1, .ofNat 0, [(.ofNat 1, 0)]), ((78, .ofNat 273, []), (.ofNat 5, []), 1, .ofNat 0, [(.ofNat 1, 1)])] : List sRf), rfOk [s0, s1, s2, s3, s4, s5, s6] hp q := hH.1
  have h0 : hI hp 173 2 = s0 := rfI0 (hRf _ (.head _)) (sE_k _ _) (sE_k _ _) (sE_V rfl)
  have y0 : (0 : Int) ≤ s0 ∧ s0 ≤ (940 : Int) := by rw [← h0]; exact hI_ty hO (by decide) rfl
  have tnx : (XT hp).2.1 = s0 := h0
  have h1 : hI hp 173 3 = s1 := rfI0 (hRf _ (.tail _ (.head _))) (sE_k _ _) (sE_k _ _) (sE_V rfl)
  have y1 : (0 : Int) ≤ s1 ∧ s1 ≤ (940 : Int) := by rw [← h1]; exact hI_ty hO (by decide) rfl
  have tmx : (XT hp).2.2 = s1 := h1
  have h2 : hI hp 273 3 = s0 := rfI0 (hRf _ (.tail _ (.tail _ (.head _)))) (sE_k _ _) (sE_k _ _) (sE_V rfl)
  have y2 : (0 : Int) ≤ s0 ∧ s0 ≤ (940 : Int) := by rw [← h2]; exact hI_ty hO (by decide) rfl
  have tnm : (MT hp).2.1 = s0 := h2
  have h3 : hI hp 273 5 = s1 := rfI0 (hRf _ (.tail _ (.tail _ (.tail _ (.head _))))) (sE_k _ _) (sE_k _ _) (sE_V rfl)
  have y3 : (0 : Int) ≤ s1 ∧ s1 ≤ (940 : Int) := by rw [← h3]; exact hI_ty hO (by decide) rfl
  have tmm : (MT hp).2.2 = s1 := h3
  have hFc : ∀ q ∈ ([(205, [(.ofNat 0, [(.ofNat 1, 2)]), (.ofNat 0, [(.ofNat 1, 3)])]), (210, [(.ofNat 0, [(.ofNat 1, 4)]), (.ofNat 0, [(.ofNat 1, 5)])]), (177, [(.ofNat 0, [(.ofNat 1, 6)])]), (217, [])] : List sFc), fcOk fFS [s0, s1, s2, s3, s4, s5, s6] hp q := hH.2
  have f0 : SAN (XT hp) (nmR hp 16) s2 s3 := fcX (ys := [s2, s3]) (hFc _ (.head _)) ⟨sE_V rfl, sE_V rfl, trivial⟩
  have f1 : SAN (MT hp) (nmM hp) s4 s5 := fcX (ys := [s4, s5]) (hFc _ (.tail _ (.head _))) ⟨sE_V rfl, sE_V rfl, trivial⟩
  have f2 : ∀ i : Nat, i < 940 → (i : Int) < s6 → hI hp 1 i = hI hp 274 i % 256 := fcX (ys := [s6]) (hFc _ (.tail _ (.tail _ (.head _)))) ⟨sE_V rfl, trivial⟩
  have f3 : ∀ c L, isW L → (nmR hp 16 c L ↔ nmM hp c L) := fcX (ys := []) (hFc _ (.tail _ (.tail _ (.tail _ (.head _))))) trivial
  have u := san_eq hO f2 h0 h2 h1 h3 ⟨by omega, by omega⟩ f3 f0 f1
  exact poX (.head _) rfl hR (all_nil) (all_cons ⟨((0 : Int) + ((1 : Int) * s2 + ((-1 : Int) * s4 + 0))), rfl, (show ((0 : Int) + ((1 : Int) * s2 + ((-1 : Int) * s4 + 0))) ≤ 0 by omega)⟩ (all_cons ⟨((0 : Int) + ((-1 : Int) * s2 + ((1 : Int) * s4 + 0))), rfl, (show ((0 : Int) + ((-1 : Int) * s2 + ((1 : Int) * s4 + 0))) ≤ 0 by omega)⟩ (all_cons ⟨((0 : Int) + ((1 : Int) * s3 + ((-1 : Int) * s5 + 0))), rfl, (show ((0 : Int) + ((1 : Int) * s3 + ((-1 : Int) * s5 + 0))) ≤ 0 by omega)⟩ (all_cons ⟨((0 : Int) + ((-1 : Int) * s3 + ((1 : Int) * s5 + 0))), rfl, (show ((0 : Int) + ((-1 : Int) * s3 + ((1 : Int) * s5 + 0))) ≤ 0 by omega)⟩ (all_nil))))) (all_nil)
theorem rl802 : ruOk fFS gR802 := by
  intro r hp hO hN hH
  obtain ⟨s0, s1, s2, s3, s4, s5, s6, s7, rfl⟩ := len8 (show r.length = 8 from hN.1)
  have hR := hN.2.1.1
  have hIv : ∀ q ∈ ([(0, .negSucc 2147483647, .ofNat 2147483647), (1, .ofNat 0, .ofNat 0), (2, .ofNat 20, .ofNat 20), (3, .negSucc 2147483647, .ofNat 2147483647), (4, .ofNat 3, .ofNat 3), (5, .negSucc 2147483647, .ofNat 2147483647), (6, .negSucc 2147483647, .ofNat 2147483647), (7, .ofNat 40, .ofNat 40)] : sIv), ∃ x, ([s0, s1, s2, s3, s4, s5, s6, s7] : List Int)[q.1]? = some x ∧ q.2.1 ≤ x ∧ x ≤ q.2.2 := hN.2.1.2
  have b1 : (0 : Int) ≤ s1 ∧ s1 ≤ (0 : Int) := ivX (q := (1, .ofNat 0, .ofNat 0)) (y := s1) (hIv _ (.tail _ (.head _))) rfl
  have b2 : (20 : Int) ≤ s2 ∧ s2 ≤ (20 : Int) := ivX (q := (2, .ofNat 20, .ofNat 20)) (y := s2) (hIv _ (.tail _ (.tail _ (.head _)))) rfl
  have b4 : (3 : Int) ≤ s4 ∧ s4 ≤ (3 : Int) := ivX (q := (4, .ofNat 3, .ofNat 3)) (y := s4) (hIv _ (.tail _ (.tail _ (.tail _ (.tail _ (.head _)))))) rfl
  have b7 : (40 : Int) ≤ s7 ∧ s7 ≤ (40 : Int) := ivX (q := (7, .ofNat 40, .ofNat 40)) (y := s7) (hIv _ (.tail _ (.tail _ (.tail _ (.tail _ (.tail _ (.tail _ (.tail _ (.head _))))))))) rfl
  have hFc : ∀ q ∈ ([(207, [(.ofNat 0, [(.ofNat 1, 0)]), (.ofNat 0, [(.ofNat 1, 1)]), (.ofNat 0, [(.ofNat 1, 2)]), (.ofNat 0, [(.ofNat 1, 3)]), (.ofNat 0, [(.ofNat 1, 4)]), (.ofNat 0, [(.ofNat 1, 5)]), (.ofNat 0, [(.ofNat 1, 6)]), (.ofNat 0, [(.ofNat 1, 7)])])] : List sFc), fcOk fFS [s0, s1, s2, s3, s4, s5, s6, s7] hp q := hH.2
  have f0 : SHq (MT hp) (nmM hp) s0 s1 s2 s3 s4 s5 s6 s7 := fcX (ys := [s0, s1, s2, s3, s4, s5, s6, s7]) (hFc _ (.head _)) ⟨sE_V rfl, sE_V rfl, sE_V rfl, sE_V rfl, sE_V rfl, sE_V rfl, sE_V rfl, sE_V rfl, trivial⟩
  exact poX (.head _) rfl hR (all_nil) (all_nil) (all_cons ⟨[4, s5], ⟨sE_k _ _, sE_V rfl, trivial⟩, (show SRS (MT hp) (nmM hp) (4 : Int) s5 from s0_f4 f0 (by omega) (by omega) (by omega))⟩ (all_nil))
theorem rl803 : ruOk fFS gR803 := by
  intro r hp hO hN hH
  obtain ⟨s0, s1, s2, s3, s4, s5, s6, s7, rfl⟩ := len8 (show r.length = 8 from hN.1)
  have hR := hN.2.1.1
  have hIv : ∀ q ∈ ([(0, .negSucc 2147483647, .ofNat 2147483647), (1, .ofNat 0, .ofNat 0), (2, .ofNat 20, .ofNat 20), (3, .negSucc 2147483647, .ofNat 2147483647), (4, .ofNat 1, .ofNat 1), (5, .negSucc 2147483647, .ofNat 2147483647), (6, .negSucc 2147483647, .ofNat 2147483647), (7, .ofNat 13, .ofNat 13)] : sIv), ∃ x, ([s0, s1, s2, s3, s4, s5, s6, s7] : List Int)[q.1]? = some x ∧ q.2.1 ≤ x ∧ x ≤ q.2.2 := hN.2.1.2
  have b1 : (0 : Int) ≤ s1 ∧ s1 ≤ (0 : Int) := ivX (q := (1, .ofNat 0, .ofNat 0)) (y := s1) (hIv _ (.tail _ (.head _))) rfl
  have b2 : (20 : Int) ≤ s2 ∧ s2 ≤ (20 : Int) := ivX (q := (2, .ofNat 20, .ofNat 20)) (y := s2) (hIv _ (.tail _ (.tail _ (.head _)))) rfl
  have b4 : (1 : Int) ≤ s4 ∧ s4 ≤ (1 : Int) := ivX (q := (4, .ofNat 1, .ofNat 1)) (y := s4) (hIv _ (.tail _ (.tail _ (.tail _ (.tail _ (.head _)))))) rfl
  have b7 : (13 : Int) ≤ s7 ∧ s7 ≤ (13 : Int) := ivX (q := (7, .ofNat 13, .ofNat 13)) (y := s7) (hIv _ (.tail _ (.tail _ (.tail _ (.tail _ (.tail _ (.tail _ (.tail _ (.head _))))))))) rfl
  have hFc : ∀ q ∈ ([(207, [(.ofNat 0, [(.ofNat 1, 0)]), (.ofNat 0, [(.ofNat 1, 1)]), (.ofNat 0, [(.ofNat 1, 2)]), (.ofNat 0, [(.ofNat 1, 3)]), (.ofNat 0, [(.ofNat 1, 4)]), (.ofNat 0, [(.ofNat 1, 5)]), (.ofNat 0, [(.ofNat 1, 6)]), (.ofNat 0, [(.ofNat 1, 7)])])] : List sFc), fcOk fFS [s0, s1, s2, s3, s4, s5, s6, s7] hp q := hH.2
  have f0 : SHq (MT hp) (nmM hp) s0 s1 s2 s3 s4 s5 s6 s7 := fcX (ys := [s0, s1, s2, s3, s4, s5, s6, s7]) (hFc _ (.head _)) ⟨sE_V rfl, sE_V rfl, sE_V rfl, sE_V rfl, sE_V rfl, sE_V rfl, sE_V rfl, sE_V rfl, trivial⟩
  exact poX (.head _) rfl hR (all_nil) (all_nil) (all_cons ⟨[4, s5], ⟨sE_k _ _, sE_V rfl, trivial⟩, (show SRS (MT hp) (nmM hp) (4 : Int) s5 from s0_f4 f0 (by omega) (by omega) (by omega))⟩ (all_nil))
theorem rl804 : ruOk fFS gR804 := by
  intro r hp hO hN hH
  obtain ⟨s0, s1, s2, s3, s4, s5, s6, s7, rfl⟩ := len8 (show r.length = 8 from hN.1)
  have hR := hN.2.1.1
  have hIv : ∀ q ∈ ([(0, .negSucc 2147483647, .ofNat 2147483647), (1, .ofNat 0, .ofNat 0), (2, .ofNat 20, .ofNat 20), (3, .negSucc 2147483647, .ofNat 2147483647), (4, .ofNat 1, .ofNat 1), (5, .negSucc 2147483647, .ofNat 2147483647), (6, .negSucc 2147483647, .ofNat 2147483647), (7, .ofNat 21, .ofNat 29)] : sIv), ∃ x, ([s0, s1, s2, s3, s4, s5, s6, s7] : List Int)[q.1]? = some x ∧ q.2.1 ≤ x ∧ x ≤ q.2.2 := hN.2.1.2
  have b1 : (0 : Int) ≤ s1 ∧ s1 ≤ (0 : Int) := ivX (q := (1, .ofNat 0, .ofNat 0)) (y := s1) (hIv _ (.tail _ (.head _))) rfl
  have b2 : (20 : Int) ≤ s2 ∧ s2 ≤ (20 : Int) := ivX (q := (2, .ofNat 20, .ofNat 20)) (y := s2) (hIv _ (.tail _ (.tail _ (.head _)))) rfl
  have b4 : (1 : Int) ≤ s4 ∧ s4 ≤ (1 : Int) := ivX (q := (4, .ofNat 1, .ofNat 1)) (y := s4) (hIv _ (.tail _ (.tail _ (.tail _ (.tail _ (.head _)))))) rfl
  have b7 : (21 : Int) ≤ s7 ∧ s7 ≤ (29 : Int) := ivX (q := (7, .ofNat 21, .ofNat 29)) (y := s7) (hIv _ (.tail _ (.tail _ (.tail _ (.tail _ (.tail _ (.tail _ (.tail _ (.head _))))))))) rfl
  have hFc : ∀ q ∈ ([(207, [(.ofNat 0, [(.ofNat 1, 0)]), (.ofNat 0, [(.ofNat 1, 1)]), (.ofNat 0, [(.ofNat 1, 2)]), (.ofNat 0, [(.ofNat 1, 3)]), (.ofNat 0, [(.ofNat 1, 4)]), (.ofNat 0, [(.ofNat 1, 5)]), (.ofNat 0, [(.ofNat 1, 6)]), (.ofNat 0, [(.ofNat 1, 7)])])] : List sFc), fcOk fFS [s0, s1, s2, s3, s4, s5, s6, s7] hp q := hH.2
  have f0 : SHq (MT hp) (nmM hp) s0 s1 s2 s3 s4 s5 s6 s7 := fcX (ys := [s0, s1, s2, s3, s4, s5, s6, s7]) (hFc _ (.head _)) ⟨sE_V rfl, sE_V rfl, sE_V rfl, sE_V rfl, sE_V rfl, sE_V rfl, sE_V rfl, sE_V rfl, trivial⟩
  exact poX (.head _) rfl hR (all_nil) (all_nil) (all_cons ⟨[4, s5], ⟨sE_k _ _, sE_V rfl, trivial⟩, (show SRS (MT hp) (nmM hp) (4 : Int) s5 from s0_f4 f0 (by omega) (by omega) (by omega))⟩ (all_nil))
theorem rl805 : ruOk fFS gR805 := by
  intro r hp hO hN hH
  obtain ⟨s0, s1, s2, s3, s4, s5, s6, s7, s8, rfl⟩ := len9 (show r.length = 9 from hN.1)
  have hR := hN.2.1.1
  have hIv : ∀ q ∈ ([(0, .negSucc 2147483647, .ofNat 2147483647), (1, .ofNat 0, .ofNat 0), (2, .negSucc 2147483647, .ofNat 2147483647), (3, .ofNat 0, .ofNat 6560), (4, .ofNat 3, .ofNat 3), (5, .negSucc 2147483647, .ofNat 2147483647), (6, .negSucc 2147483647, .ofNat 2147483647), (7, .ofNat 40, .ofNat 40), (8, .ofNat 9, .ofNat 9)] : sIv), ∃ x, ([s0, s1, s2, s3, s4, s5, s6, s7, s8] : List Int)[q.1]? = some x ∧ q.2.1 ≤ x ∧ x ≤ q.2.2 := hN.2.1.2
  have b1 : (0 : Int) ≤ s1 ∧ s1 ≤ (0 : Int) := ivX (q := (1, .ofNat 0, .ofNat 0)) (y := s1) (hIv _ (.tail _ (.head _))) rfl
  have b3 : (0 : Int) ≤ s3 ∧ s3 ≤ (6560 : Int) := ivX (q := (3, .ofNat 0, .ofNat 6560)) (y := s3) (hIv _ (.tail _ (.tail _ (.tail _ (.head _))))) rfl
  have b4 : (3 : Int) ≤ s4 ∧ s4 ≤ (3 : Int) := ivX (q := (4, .ofNat 3, .ofNat 3)) (y := s4) (hIv _ (.tail _ (.tail _ (.tail _ (.tail _ (.head _)))))) rfl
  have b7 : (40 : Int) ≤ s7 ∧ s7 ≤ (40 : Int) := ivX (q := (7, .ofNat 40, .ofNat 40)) (y := s7) (hIv _ (.tail _ (.tail _ (.tail _ (.tail _ (.tail _ (.tail _ (.tail _ (.head _))))))))) rfl
  have b8 : (9 : Int) ≤ s8 ∧ s8 ≤ (9 : Int) := ivX (q := (8, .ofNat 9, .ofNat 9)) (y := s8) (hIv _ (.tail _ (.tail _ (.tail _ (.tail _ (.tail _ (.tail _ (.tail _ (.tail _ (.head _)))))))))) rfl
  have hFc : ∀ q ∈ ([(207, [(.ofNat 0, [(.ofNat 1, 0)]), (.ofNat 0, [(.ofNat 1, 1)]), (.ofNat 0, [(.ofNat 1, 2)]), (.ofNat 0, [(.ofNat 1, 3)]), (.ofNat 0, [(.ofNat 1, 4)]), (.ofNat 0, [(.ofNat 1, 5)]), (.ofNat 0, [(.ofNat 1, 6)]), (.ofNat 0, [(.ofNat 1, 7)])]), (199, [(.ofNat 0, [(.ofNat 1, 3)]), (.ofNat 0, [(.ofNat 1, 8)])])] : List sFc), fcOk fFS [s0, s1, s2, s3, s4, s5, s6, s7, s8] hp q := hH.2
  have f0 : SHq (MT hp) (nmM hp) s0 s1 s2 s3 s4 s5 s6 s7 := fcX (ys := [s0, s1, s2, s3, s4, s5, s6, s7]) (hFc _ (.head _)) ⟨sE_V rfl, sE_V rfl, sE_V rfl, sE_V rfl, sE_V rfl, sE_V rfl, sE_V rfl, sE_V rfl, trivial⟩
  have f1 : s8 = dp s3 + 1 := fcX (ys := [s3, s8]) (hFc _ (.tail _ (.head _))) ⟨sE_V rfl, sE_V rfl, trivial⟩
  exact poX (.head _) rfl hR (all_nil) (all_nil) (all_cons ⟨[4, s5], ⟨sE_k _ _, sE_V rfl, trivial⟩, (show SRS (MT hp) (nmM hp) (4 : Int) s5 from s0_f4 f0 (by omega) (by omega) (by omega))⟩ (all_nil))
theorem rl806 : ruOk fFS gR806 := by
  intro r hp hO hN hH
  obtain ⟨s0, s1, s2, s3, s4, s5, s6, s7, s8, rfl⟩ := len9 (show r.length = 9 from hN.1)
  have hR := hN.2.1.1
  have hIv : ∀ q ∈ ([(0, .negSucc 2147483647, .ofNat 2147483647), (1, .ofNat 0, .ofNat 0), (2, .negSucc 2147483647, .ofNat 2147483647), (3, .ofNat 0, .ofNat 6560), (4, .ofNat 1, .ofNat 1), (5, .negSucc 2147483647, .ofNat 2147483647), (6, .negSucc 2147483647, .ofNat 2147483647), (7, .ofNat 13, .ofNat 13), (8, .ofNat 9, .ofNat 9)] : sIv), ∃ x, ([s0, s1, s2, s3, s4, s5, s6, s7, s8] : List Int)[q.1]? = some x ∧ q.2.1 ≤ x ∧ x ≤ q.2.2 := hN.2.1.2
  have b1 : (0 : Int) ≤ s1 ∧ s1 ≤ (0 : Int) := ivX (q := (1, .ofNat 0, .ofNat 0)) (y := s1) (hIv _ (.tail _ (.head _))) rfl
  have b3 : (0 : Int) ≤ s3 ∧ s3 ≤ (6560 : Int) := ivX (q := (3, .ofNat 0, .ofNat 6560)) (y := s3) (hIv _ (.tail _ (.tail _ (.tail _ (.head _))))) rfl
  have b4 : (1 : Int) ≤ s4 ∧ s4 ≤ (1 : Int) := ivX (q := (4, .ofNat 1, .ofNat 1)) (y := s4) (hIv _ (.tail _ (.tail _ (.tail _ (.tail _ (.head _)))))) rfl
  have b7 : (13 : Int) ≤ s7 ∧ s7 ≤ (13 : Int) := ivX (q := (7, .ofNat 13, .ofNat 13)) (y := s7) (hIv _ (.tail _ (.tail _ (.tail _ (.tail _ (.tail _ (.tail _ (.tail _ (.head _))))))))) rfl
  have b8 : (9 : Int) ≤ s8 ∧ s8 ≤ (9 : Int) := ivX (q := (8, .ofNat 9, .ofNat 9)) (y := s8) (hIv _ (.tail _ (.tail _ (.tail _ (.tail _ (.tail _ (.tail _ (.tail _ (.tail _ (.head _)))))))))) rfl
  have hFc : ∀ q ∈ ([(207, [(.ofNat 0, [(.ofNat 1, 0)]), (.ofNat 0, [(.ofNat 1, 1)]), (.ofNat 0, [(.ofNat 1, 2)]), (.ofNat 0, [(.ofNat 1, 3)]), (.ofNat 0, [(.ofNat 1, 4)]), (.ofNat 0, [(.ofNat 1, 5)]), (.ofNat 0, [(.ofNat 1, 6)]), (.ofNat 0, [(.ofNat 1, 7)])]), (199, [(.ofNat 0, [(.ofNat 1, 3)]), (.ofNat 0, [(.ofNat 1, 8)])])] : List sFc), fcOk fFS [s0, s1, s2, s3, s4, s5, s6, s7, s8] hp q := hH.2
  have f0 : SHq (MT hp) (nmM hp) s0 s1 s2 s3 s4 s5 s6 s7 := fcX (ys := [s0, s1, s2, s3, s4, s5, s6, s7]) (hFc _ (.head _)) ⟨sE_V rfl, sE_V rfl, sE_V rfl, sE_V rfl, sE_V rfl, sE_V rfl, sE_V rfl, sE_V rfl, trivial⟩
  have f1 : s8 = dp s3 + 1 := fcX (ys := [s3, s8]) (hFc _ (.tail _ (.head _))) ⟨sE_V rfl, sE_V rfl, trivial⟩
  exact poX (.head _) rfl hR (all_nil) (all_nil) (all_cons ⟨[4, s5], ⟨sE_k _ _, sE_V rfl, trivial⟩, (show SRS (MT hp) (nmM hp) (4 : Int) s5 from s0_f4 f0 (by omega) (by omega) (by omega))⟩ (all_nil))
theorem rl807 : ruOk fFS gR807 := by
  intro r hp hO hN hH
  obtain ⟨s0, s1, s2, s3, s4, s5, s6, s7, s8, rfl⟩ := len9 (show r.length = 9 from hN.1)
  have hR := hN.2.1.1
  have hIv : ∀ q ∈ ([(0, .negSucc 2147483647, .ofNat 2147483647), (1, .ofNat 0, .ofNat 0), (2, .negSucc 2147483647, .ofNat 2147483647), (3, .ofNat 0, .ofNat 6560), (4, .ofNat 1, .ofNat 1), (5, .negSucc 2147483647, .ofNat 2147483647), (6, .negSucc 2147483647, .ofNat 2147483647), (7, .ofNat 21, .ofNat 29), (8, .ofNat 9, .ofNat 9)] : sIv), ∃ x, ([s0, s1, s2, s3, s4, s5, s6, s7, s8] : List Int)[q.1]? = some x ∧ q.2.1 ≤ x ∧ x ≤ q.2.2 := hN.2.1.2
  have b1 : (0 : Int) ≤ s1 ∧ s1 ≤ (0 : Int) := ivX (q := (1, .ofNat 0, .ofNat 0)) (y := s1) (hIv _ (.tail _ (.head _))) rfl
  have b3 : (0 : Int) ≤ s3 ∧ s3 ≤ (6560 : Int) := ivX (q := (3, .ofNat 0, .ofNat 6560)) (y := s3) (hIv _ (.tail _ (.tail _ (.tail _ (.head _))))) rfl
  have b4 : (1 : Int) ≤ s4 ∧ s4 ≤ (1 : Int) := ivX (q := (4, .ofNat 1, .ofNat 1)) (y := s4) (hIv _ (.tail _ (.tail _ (.tail _ (.tail _ (.head _)))))) rfl
  have b7 : (21 : Int) ≤ s7 ∧ s7 ≤ (29 : Int) := ivX (q := (7, .ofNat 21, .ofNat 29)) (y := s7) (hIv _ (.tail _ (.tail _ (.tail _ (.tail _ (.tail _ (.tail _ (.tail _ (.head _))))))))) rfl
  have b8 : (9 : Int) ≤ s8 ∧ s8 ≤ (9 : Int) := ivX (q := (8, .ofNat 9, .ofNat 9)) (y := s8) (hIv _ (.tail _ (.tail _ (.tail _ (.tail _ (.tail _ (.tail _ (.tail _ (.tail _ (.head _)))))))))) rfl
  have hFc : ∀ q ∈ ([(207, [(.ofNat 0, [(.ofNat 1, 0)]), (.ofNat 0, [(.ofNat 1, 1)]), (.ofNat 0, [(.ofNat 1, 2)]), (.ofNat 0, [(.ofNat 1, 3)]), (.ofNat 0, [(.ofNat 1, 4)]), (.ofNat 0, [(.ofNat 1, 5)]), (.ofNat 0, [(.ofNat 1, 6)]), (.ofNat 0, [(.ofNat 1, 7)])]), (199, [(.ofNat 0, [(.ofNat 1, 3)]), (.ofNat 0, [(.ofNat 1, 8)])])] : List sFc), fcOk fFS [s0, s1, s2, s3, s4, s5, s6, s7, s8] hp q := hH.2
  have f0 : SHq (MT hp) (nmM hp) s0 s1 s2 s3 s4 s5 s6 s7 := fcX (ys := [s0, s1, s2, s3, s4, s5, s6, s7]) (hFc _ (.head _)) ⟨sE_V rfl, sE_V rfl, sE_V rfl, sE_V rfl, sE_V rfl, sE_V rfl, sE_V rfl, sE_V rfl, trivial⟩
  have f1 : s8 = dp s3 + 1 := fcX (ys := [s3, s8]) (hFc _ (.tail _ (.head _))) ⟨sE_V rfl, sE_V rfl, trivial⟩
  exact poX (.head _) rfl hR (all_nil) (all_nil) (all_cons ⟨[4, s5], ⟨sE_k _ _, sE_V rfl, trivial⟩, (show SRS (MT hp) (nmM hp) (4 : Int) s5 from s0_f4 f0 (by omega) (by omega) (by omega))⟩ (all_nil))
theorem rl808 : ruOk fFS gR808 := by
  intro r hp hO hN hH
  obtain ⟨s0, s1, rfl⟩ := len2 (show r.length = 2 from hN.1)
  have hR := hN.2.1.1
  have hIv : ∀ q ∈ ([(0, .ofNat 0, .ofNat 6560), (1, .ofNat 1, .ofNat 8)] : sIv), ∃ x, ([s0, s1] : List Int)[q.1]? = some x ∧ q.2.1 ≤ x ∧ x ≤ q.2.2 := hN.2.1.2
  have b0 : (0 : Int) ≤ s0 ∧ s0 ≤ (6560 : Int) := ivX (q := (0, .ofNat 0, .ofNat 6560)) (y := s0) (hIv _ (.head _)) rfl
  have b1 : (1 : Int) ≤ s1 ∧ s1 ≤ (8 : Int) := ivX (q := (1, .ofNat 1, .ofNat 8)) (y := s1) (hIv _ (.tail _ (.head _))) rfl
  have hFc : ∀ q ∈ ([(199, [(.ofNat 0, [(.ofNat 1, 0)]), (.ofNat 0, [(.ofNat 1, 1)])])] : List sFc), fcOk fFS [s0, s1] hp q := hH.2
  have f0 : s1 = dp s0 + 1 := fcX (ys := [s0, s1]) (hFc _ (.head _)) ⟨sE_V rfl, sE_V rfl, trivial⟩
  have u := dp_lt (t := s0) (by omega) (by omega)
  exact poX (.head _) rfl hR (all_cons (ivO (y := s0) rfl (show (0 : Int) ≤ s0 by omega) (show s0 ≤ (2186 : Int) by omega)) (all_nil)) (all_nil) (all_nil)
theorem rl809 : ruOk fFS gR809 := by
  intro r hp hO hN hH
  obtain ⟨s0, s1, s2, s3, s4, s5, s6, s7, s8, rfl⟩ := len9 (show r.length = 9 from hN.1)
  have hR := hN.2.1.1
  have hIv : ∀ q ∈ ([(0, .negSucc 2147483647, .ofNat 2147483647), (1, .ofNat 0, .ofNat 0), (2, .ofNat 0, .ofNat 19), (3, .ofNat 0, .ofNat 2186), (4, .ofNat 1, .ofNat 1), (5, .negSucc 2147483647, .ofNat 2147483647), (6, .negSucc 2147483647, .ofNat 2147483647), (7, .ofNat 21, .ofNat 21), (8, .ofNat 1, .ofNat 8)] : sIv), ∃ x, ([s0, s1, s2, s3, s4, s5, s6, s7, s8] : List Int)[q.1]? = some x ∧ q.2.1 ≤ x ∧ x ≤ q.2.2 := hN.2.1.2
  have b1 : (0 : Int) ≤ s1 ∧ s1 ≤ (0 : Int) := ivX (q := (1, .ofNat 0, .ofNat 0)) (y := s1) (hIv _ (.tail _ (.head _))) rfl
  have b2 : (0 : Int) ≤ s2 ∧ s2 ≤ (19 : Int) := ivX (q := (2, .ofNat 0, .ofNat 19)) (y := s2) (hIv _ (.tail _ (.tail _ (.head _)))) rfl
  have b3 : (0 : Int) ≤ s3 ∧ s3 ≤ (2186 : Int) := ivX (q := (3, .ofNat 0, .ofNat 2186)) (y := s3) (hIv _ (.tail _ (.tail _ (.tail _ (.head _))))) rfl
  have b4 : (1 : Int) ≤ s4 ∧ s4 ≤ (1 : Int) := ivX (q := (4, .ofNat 1, .ofNat 1)) (y := s4) (hIv _ (.tail _ (.tail _ (.tail _ (.tail _ (.head _)))))) rfl
  have b7 : (21 : Int) ≤ s7 ∧ s7 ≤ (21 : Int) := ivX (q := (7, .ofNat 21, .ofNat 21)) (y := s7) (hIv _ (.tail _ (.tail _ (.tail _ (.tail _ (.tail _ (.tail _ (.tail _ (.head _))))))))) rfl
  have b8 : (1 : Int) ≤ s8 ∧ s8 ≤ (8 : Int) := ivX (q := (8, .ofNat 1, .ofNat 8)) (y := s8) (hIv _ (.tail _ (.tail _ (.tail _ (.tail _ (.tail _ (.tail _ (.tail _ (.tail _ (.head _)))))))))) rfl
  have hFc : ∀ q ∈ ([(207, [(.ofNat 0, [(.ofNat 1, 0)]), (.ofNat 0, [(.ofNat 1, 1)]), (.ofNat 0, [(.ofNat 1, 2)]), (.ofNat 0, [(.ofNat 1, 3)]), (.ofNat 0, [(.ofNat 1, 4)]), (.ofNat 0, [(.ofNat 1, 5)]), (.ofNat 0, [(.ofNat 1, 6)]), (.ofNat 0, [(.ofNat 1, 7)])]), (199, [(.ofNat 0, [(.ofNat 1, 3)]), (.ofNat 0, [(.ofNat 1, 8)])])] : List sFc), fcOk fFS [s0, s1, s2, s3, s4, s5, s6, s7, s8] hp q := hH.2
  have f0 : SHq (MT hp) (nmM hp) s0 s1 s2 s3 s4 s5 s6 s7 := fcX (ys := [s0, s1, s2, s3, s4, s5, s6, s7]) (hFc _ (.head _)) ⟨sE_V rfl, sE_V rfl, sE_V rfl, sE_V rfl, sE_V rfl, sE_V rfl, sE_V rfl, sE_V rfl, trivial⟩
  have f1 : s8 = dp s3 + 1 := fcX (ys := [s3, s8]) (hFc _ (.tail _ (.head _))) ⟨sE_V rfl, sE_V rfl, trivial⟩
  have ud : dp s3 ≤ 7 := by omega
  have ut := dp_lt (t := s3) (by omega) ud
  exact poX (.head _) rfl hR (all_nil) (all_nil) (all_cons ⟨[s6, 0, (s2 + 1), (3 * s3 + 1)], ⟨sE_V rfl, sE_k _ _, sEv (y' := ((1 : Int) + ((1 : Int) * s2 + 0))) rfl (by omega), sEv (y' := ((1 : Int) + ((3 : Int) * s3 + 0))) rfl (by omega), trivial⟩, (show SG (MT hp) (nmM hp) s6 (0 : Int) (s2 + 1) (3 * s3 + 1) from s0_not f0 (by omega) (by omega) (by omega) (by omega) ud)⟩ (all_nil))
theorem rl810 : ruOk fFS gR810 := by
  intro r hp hO hN hH
  obtain ⟨s0, s1, s2, s3, s4, s5, s6, s7, s8, rfl⟩ := len9 (show r.length = 9 from hN.1)
  have hR := hN.2.1.1
  have hIv : ∀ q ∈ ([(0, .negSucc 2147483647, .ofNat 2147483647), (1, .ofNat 0, .ofNat 0), (2, .ofNat 0, .ofNat 19), (3, .ofNat 0, .ofNat 2186), (4, .ofNat 3, .ofNat 3), (5, .negSucc 2147483647, .ofNat 2147483647), (6, .negSucc 2147483647, .ofNat 2147483647), (7, .ofNat 40, .ofNat 40), (8, .ofNat 1, .ofNat 8)] : sIv), ∃ x, ([s0, s1, s2, s3, s4, s5, s6, s7, s8] : List Int)[q.1]? = some x ∧ q.2.1 ≤ x ∧ x ≤ q.2.2 := hN.2.1.2
  have b1 : (0 : Int) ≤ s1 ∧ s1 ≤ (0 : Int) := ivX (q := (1, .ofNat 0, .ofNat 0)) (y := s1) (hIv _ (.tail _ (.head _))) rfl
  have b2 : (0 : Int) ≤ s2 ∧ s2 ≤ (19 : Int) := ivX (q := (2, .ofNat 0, .ofNat 19)) (y := s2) (hIv _ (.tail _ (.tail _ (.head _)))) rfl
  have b3 : (0 : Int) ≤ s3 ∧ s3 ≤ (2186 : Int) := ivX (q := (3, .ofNat 0, .ofNat 2186)) (y := s3) (hIv _ (.tail _ (.tail _ (.tail _ (.head _))))) rfl
  have b4 : (3 : Int) ≤ s4 ∧ s4 ≤ (3 : Int) := ivX (q := (4, .ofNat 3, .ofNat 3)) (y := s4) (hIv _ (.tail _ (.tail _ (.tail _ (.tail _ (.head _)))))) rfl
  have b7 : (40 : Int) ≤ s7 ∧ s7 ≤ (40 : Int) := ivX (q := (7, .ofNat 40, .ofNat 40)) (y := s7) (hIv _ (.tail _ (.tail _ (.tail _ (.tail _ (.tail _ (.tail _ (.tail _ (.head _))))))))) rfl
  have b8 : (1 : Int) ≤ s8 ∧ s8 ≤ (8 : Int) := ivX (q := (8, .ofNat 1, .ofNat 8)) (y := s8) (hIv _ (.tail _ (.tail _ (.tail _ (.tail _ (.tail _ (.tail _ (.tail _ (.tail _ (.head _)))))))))) rfl
  have hFc : ∀ q ∈ ([(207, [(.ofNat 0, [(.ofNat 1, 0)]), (.ofNat 0, [(.ofNat 1, 1)]), (.ofNat 0, [(.ofNat 1, 2)]), (.ofNat 0, [(.ofNat 1, 3)]), (.ofNat 0, [(.ofNat 1, 4)]), (.ofNat 0, [(.ofNat 1, 5)]), (.ofNat 0, [(.ofNat 1, 6)]), (.ofNat 0, [(.ofNat 1, 7)])]), (199, [(.ofNat 0, [(.ofNat 1, 3)]), (.ofNat 0, [(.ofNat 1, 8)])])] : List sFc), fcOk fFS [s0, s1, s2, s3, s4, s5, s6, s7, s8] hp q := hH.2
  have f0 : SHq (MT hp) (nmM hp) s0 s1 s2 s3 s4 s5 s6 s7 := fcX (ys := [s0, s1, s2, s3, s4, s5, s6, s7]) (hFc _ (.head _)) ⟨sE_V rfl, sE_V rfl, sE_V rfl, sE_V rfl, sE_V rfl, sE_V rfl, sE_V rfl, sE_V rfl, trivial⟩
  have f1 : s8 = dp s3 + 1 := fcX (ys := [s3, s8]) (hFc _ (.tail _ (.head _))) ⟨sE_V rfl, sE_V rfl, trivial⟩
  have ud : dp s3 ≤ 7 := by omega
  have ut := dp_lt (t := s3) (by omega) ud
  exact poX (.head _) rfl hR (all_nil) (all_nil) (all_cons ⟨[s6, 0, (s2 + 1), (3 * s3 + 2)], ⟨sE_V rfl, sE_k _ _, sEv (y' := ((1 : Int) + ((1 : Int) * s2 + 0))) rfl (by omega), sEv (y' := ((2 : Int) + ((3 : Int) * s3 + 0))) rfl (by omega), trivial⟩, (show SG (MT hp) (nmM hp) s6 (0 : Int) (s2 + 1) (3 * s3 + 2) from s0_open f0 (by omega) (by omega) (by omega) (by omega) ud)⟩ (all_nil))
theorem rl811 : ruOk fFS gR811 := by
  intro r hp hO hN hH
  obtain ⟨s0, s1, s2, s3, s4, s5, s6, s7, s8, rfl⟩ := len9 (show r.length = 9 from hN.1)
  have hR := hN.2.1.1
  have hIv : ∀ q ∈ ([(0, .negSucc 2147483647, .ofNat 2147483647), (1, .ofNat 0, .ofNat 0), (2, .ofNat 0, .ofNat 19), (3, .ofNat 0, .ofNat 2186), (4, .ofNat 1, .ofNat 1), (5, .negSucc 2147483647, .ofNat 2147483647), (6, .negSucc 2147483647, .ofNat 2147483647), (7, .ofNat 13, .ofNat 13), (8, .ofNat 1, .ofNat 8)] : sIv), ∃ x, ([s0, s1, s2, s3, s4, s5, s6, s7, s8] : List Int)[q.1]? = some x ∧ q.2.1 ≤ x ∧ x ≤ q.2.2 := hN.2.1.2
  have b1 : (0 : Int) ≤ s1 ∧ s1 ≤ (0 : Int) := ivX (q := (1, .ofNat 0, .ofNat 0)) (y := s1) (hIv _ (.tail _ (.head _))) rfl
  have b2 : (0 : Int) ≤ s2 ∧ s2 ≤ (19 : Int) := ivX (q := (2, .ofNat 0, .ofNat 19)) (y := s2) (hIv _ (.tail _ (.tail _ (.head _)))) rfl
  have b3 : (0 : Int) ≤ s3 ∧ s3 ≤ (2186 : Int) := ivX (q := (3, .ofNat 0, .ofNat 2186)) (y := s3) (hIv _ (.tail _ (.tail _ (.tail _ (.head _))))) rfl
  have b4 : (1 : Int) ≤ s4 ∧ s4 ≤ (1 : Int) := ivX (q := (4, .ofNat 1, .ofNat 1)) (y := s4) (hIv _ (.tail _ (.tail _ (.tail _ (.tail _ (.head _)))))) rfl
  have b7 : (13 : Int) ≤ s7 ∧ s7 ≤ (13 : Int) := ivX (q := (7, .ofNat 13, .ofNat 13)) (y := s7) (hIv _ (.tail _ (.tail _ (.tail _ (.tail _ (.tail _ (.tail _ (.tail _ (.head _))))))))) rfl
  have b8 : (1 : Int) ≤ s8 ∧ s8 ≤ (8 : Int) := ivX (q := (8, .ofNat 1, .ofNat 8)) (y := s8) (hIv _ (.tail _ (.tail _ (.tail _ (.tail _ (.tail _ (.tail _ (.tail _ (.tail _ (.head _)))))))))) rfl
  have hFc : ∀ q ∈ ([(207, [(.ofNat 0, [(.ofNat 1, 0)]), (.ofNat 0, [(.ofNat 1, 1)]), (.ofNat 0, [(.ofNat 1, 2)]), (.ofNat 0, [(.ofNat 1, 3)]), (.ofNat 0, [(.ofNat 1, 4)]), (.ofNat 0, [(.ofNat 1, 5)]), (.ofNat 0, [(.ofNat 1, 6)]), (.ofNat 0, [(.ofNat 1, 7)])]), (199, [(.ofNat 0, [(.ofNat 1, 3)]), (.ofNat 0, [(.ofNat 1, 8)])])] : List sFc), fcOk fFS [s0, s1, s2, s3, s4, s5, s6, s7, s8] hp q := hH.2
  have f0 : SHq (MT hp) (nmM hp) s0 s1 s2 s3 s4 s5 s6 s7 := fcX (ys := [s0, s1, s2, s3, s4, s5, s6, s7]) (hFc _ (.head _)) ⟨sE_V rfl, sE_V rfl, sE_V rfl, sE_V rfl, sE_V rfl, sE_V rfl, sE_V rfl, sE_V rfl, trivial⟩
  have f1 : s8 = dp s3 + 1 := fcX (ys := [s3, s8]) (hFc _ (.tail _ (.head _))) ⟨sE_V rfl, sE_V rfl, trivial⟩
  have ud : dp s3 ≤ 7 := by omega
  have ut := dp_lt (t := s3) (by omega) ud
  obtain ⟨s9, ev⟩ : ∃ y : Int, y = nr s3 := ⟨_, rfl⟩
  have u := nr_b (t := s3) (by omega)
  rw [← ev] at u
  exact poXu (u := [s9]) (.head _) rfl hR (by rw [wMn_eq, wMx_eq]; intro x hx; simp only [List.mem_cons, List.not_mem_nil, or_false] at hx; omega) (all_cons (ivO (y := s9) rfl (show (0 : Int) ≤ s9 by omega) (show s9 ≤ (6560 : Int) by omega)) (all_nil)) (all_nil) (all_cons ⟨[s6, 6, (s2 + 1), s9], ⟨sE_V rfl, sE_k _ _, sEv (y' := ((1 : Int) + ((1 : Int) * s2 + 0))) rfl (by omega), sE_V rfl, trivial⟩, (show SG (MT hp) (nmM hp) s6 (6 : Int) (s2 + 1) s9 from sg_u ev (s0_leaf f0 (by omega) (by omega) (by omega) (by omega) ud))⟩ (all_cons ⟨[s3, s9], ⟨sE_V rfl, sE_V rfl, trivial⟩, (show s9 = nr s3 from ev)⟩ (all_nil)))
theorem rl812 : ruOk fFS gR812 := by
  intro r hp hO hN hH
  obtain ⟨s0, s1, s2, s3, s4, s5, s6, s7, s8, rfl⟩ := len9 (show r.length = 9 from hN.1)
  have hR := hN.2.1.1
  have hIv : ∀ q ∈ ([(0, .negSucc 2147483647, .ofNat 2147483647), (1, .ofNat 0, .ofNat 0), (2, .ofNat 0, .ofNat 19), (3, .ofNat 0, .ofNat 2186), (4, .ofNat 1, .ofNat 1), (5, .negSucc 2147483647, .ofNat 2147483647), (6, .negSucc 2147483647, .ofNat 2147483647), (7, .ofNat 22, .ofNat 22), (8, .ofNat 1, .ofNat 8)] : sIv), ∃ x, ([s0, s1, s2, s3, s4, s5, s6, s7, s8] : List Int)[q.1]? = some x ∧ q.2.1 ≤ x ∧ x ≤ q.2.2 := hN.2.1.2
  have b1 : (0 : Int) ≤ s1 ∧ s1 ≤ (0 : Int) := ivX (q := (1, .ofNat 0, .ofNat 0)) (y := s1) (hIv _ (.tail _ (.head _))) rfl
  have b2 : (0 : Int) ≤ s2 ∧ s2 ≤ (19 : Int) := ivX (q := (2, .ofNat 0, .ofNat 19)) (y := s2) (hIv _ (.tail _ (.tail _ (.head _)))) rfl
  have b3 : (0 : Int) ≤ s3 ∧ s3 ≤ (2186 : Int) := ivX (q := (3, .ofNat 0, .ofNat 2186)) (y := s3) (hIv _ (.tail _ (.tail _ (.tail _ (.head _))))) rfl
  have b4 : (1 : Int) ≤ s4 ∧ s4 ≤ (1 : Int) := ivX (q := (4, .ofNat 1, .ofNat 1)) (y := s4) (hIv _ (.tail _ (.tail _ (.tail _ (.tail _ (.head _)))))) rfl
  have b7 : (22 : Int) ≤ s7 ∧ s7 ≤ (22 : Int) := ivX (q := (7, .ofNat 22, .ofNat 22)) (y := s7) (hIv _ (.tail _ (.tail _ (.tail _ (.tail _ (.tail _ (.tail _ (.tail _ (.head _))))))))) rfl
  have b8 : (1 : Int) ≤ s8 ∧ s8 ≤ (8 : Int) := ivX (q := (8, .ofNat 1, .ofNat 8)) (y := s8) (hIv _ (.tail _ (.tail _ (.tail _ (.tail _ (.tail _ (.tail _ (.tail _ (.tail _ (.head _)))))))))) rfl
  have hFc : ∀ q ∈ ([(207, [(.ofNat 0, [(.ofNat 1, 0)]), (.ofNat 0, [(.ofNat 1, 1)]), (.ofNat 0, [(.ofNat 1, 2)]), (.ofNat 0, [(.ofNat 1, 3)]), (.ofNat 0, [(.ofNat 1, 4)]), (.ofNat 0, [(.ofNat 1, 5)]), (.ofNat 0, [(.ofNat 1, 6)]), (.ofNat 0, [(.ofNat 1, 7)])]), (199, [(.ofNat 0, [(.ofNat 1, 3)]), (.ofNat 0, [(.ofNat 1, 8)])])] : List sFc), fcOk fFS [s0, s1, s2, s3, s4, s5, s6, s7, s8] hp q := hH.2
  have f0 : SHq (MT hp) (nmM hp) s0 s1 s2 s3 s4 s5 s6 s7 := fcX (ys := [s0, s1, s2, s3, s4, s5, s6, s7]) (hFc _ (.head _)) ⟨sE_V rfl, sE_V rfl, sE_V rfl, sE_V rfl, sE_V rfl, sE_V rfl, sE_V rfl, sE_V rfl, trivial⟩
  have f1 : s8 = dp s3 + 1 := fcX (ys := [s3, s8]) (hFc _ (.tail _ (.head _))) ⟨sE_V rfl, sE_V rfl, trivial⟩
  have ud : dp s3 ≤ 7 := by omega
  have ut := dp_lt (t := s3) (by omega) ud
  obtain ⟨s9, ev⟩ : ∃ y : Int, y = nr s3 := ⟨_, rfl⟩
  have u := nr_b (t := s3) (by omega)
  rw [← ev] at u
  exact poXu (u := [s9]) (.head _) rfl hR (by rw [wMn_eq, wMx_eq]; intro x hx; simp only [List.mem_cons, List.not_mem_nil, or_false] at hx; omega) (all_cons (ivO (y := s9) rfl (show (0 : Int) ≤ s9 by omega) (show s9 ≤ (6560 : Int) by omega)) (all_nil)) (all_nil) (all_cons ⟨[s6, 6, (s2 + 1), s9], ⟨sE_V rfl, sE_k _ _, sEv (y' := ((1 : Int) + ((1 : Int) * s2 + 0))) rfl (by omega), sE_V rfl, trivial⟩, (show SG (MT hp) (nmM hp) s6 (6 : Int) (s2 + 1) s9 from sg_u ev (s0_leaf f0 (by omega) (by omega) (by omega) (by omega) ud))⟩ (all_cons ⟨[s3, s9], ⟨sE_V rfl, sE_V rfl, trivial⟩, (show s9 = nr s3 from ev)⟩ (all_nil)))
theorem rl813 : ruOk fFS gR813 := by
  intro r hp hO hN hH
  obtain ⟨s0, s1, s2, s3, s4, s5, s6, s7, s8, rfl⟩ := len9 (show r.length = 9 from hN.1)
  have hR := hN.2.1.1
  have hIv : ∀ q ∈ ([(0, .negSucc 2147483647, .ofNat 2147483647), (1, .ofNat 0, .ofNat 0), (2, .ofNat 0, .ofNat 19), (3, .ofNat 0, .ofNat 2186), (4, .ofNat 1, .ofNat 1), (5, .negSucc 2147483647, .ofNat 2147483647), (6, .negSucc 2147483647, .ofNat 2147483647), (7, .ofNat 23, .ofNat 23), (8, .ofNat 1, .ofNat 8)] : sIv), ∃ x, ([s0, s1, s2, s3, s4, s5, s6, s7, s8] : List Int)[q.1]? = some x ∧ q.2.1 ≤ x ∧ x ≤ q.2.2 := hN.2.1.2
  have b1 : (0 : Int) ≤ s1 ∧ s1 ≤ (0 : Int) := ivX (q := (1, .ofNat 0, .ofNat 0)) (y := s1) (hIv _ (.tail _ (.head _))) rfl
  have b2 : (0 : Int) ≤ s2 ∧ s2 ≤ (19 : Int) := ivX (q := (2, .ofNat 0, .ofNat 19)) (y := s2) (hIv _ (.tail _ (.tail _ (.head _)))) rfl
  have b3 : (0 : Int) ≤ s3 ∧ s3 ≤ (2186 : Int) := ivX (q := (3, .ofNat 0, .ofNat 2186)) (y := s3) (hIv _ (.tail _ (.tail _ (.tail _ (.head _))))) rfl
  have b4 : (1 : Int) ≤ s4 ∧ s4 ≤ (1 : Int) := ivX (q := (4, .ofNat 1, .ofNat 1)) (y := s4) (hIv _ (.tail _ (.tail _ (.tail _ (.tail _ (.head _)))))) rfl
  have b7 : (23 : Int) ≤ s7 ∧ s7 ≤ (23 : Int) := ivX (q := (7, .ofNat 23, .ofNat 23)) (y := s7) (hIv _ (.tail _ (.tail _ (.tail _ (.tail _ (.tail _ (.tail _ (.tail _ (.head _))))))))) rfl
  have b8 : (1 : Int) ≤ s8 ∧ s8 ≤ (8 : Int) := ivX (q := (8, .ofNat 1, .ofNat 8)) (y := s8) (hIv _ (.tail _ (.tail _ (.tail _ (.tail _ (.tail _ (.tail _ (.tail _ (.tail _ (.head _)))))))))) rfl
  have hFc : ∀ q ∈ ([(207, [(.ofNat 0, [(.ofNat 1, 0)]), (.ofNat 0, [(.ofNat 1, 1)]), (.ofNat 0, [(.ofNat 1, 2)]), (.ofNat 0, [(.ofNat 1, 3)]), (.ofNat 0, [(.ofNat 1, 4)]), (.ofNat 0, [(.ofNat 1, 5)]), (.ofNat 0, [(.ofNat 1, 6)]), (.ofNat 0, [(.ofNat 1, 7)])]), (199, [(.ofNat 0, [(.ofNat 1, 3)]), (.ofNat 0, [(.ofNat 1, 8)])])] : List sFc), fcOk fFS [s0, s1, s2, s3, s4, s5, s6, s7, s8] hp q := hH.2
  have f0 : SHq (MT hp) (nmM hp) s0 s1 s2 s3 s4 s5 s6 s7 := fcX (ys := [s0, s1, s2, s3, s4, s5, s6, s7]) (hFc _ (.head _)) ⟨sE_V rfl, sE_V rfl, sE_V rfl, sE_V rfl, sE_V rfl, sE_V rfl, sE_V rfl, sE_V rfl, trivial⟩
  have f1 : s8 = dp s3 + 1 := fcX (ys := [s3, s8]) (hFc _ (.tail _ (.head _))) ⟨sE_V rfl, sE_V rfl, trivial⟩
  have ud : dp s3 ≤ 7 := by omega
  have ut := dp_lt (t := s3) (by omega) ud
  exact poX (.head _) rfl hR (all_nil) (all_nil) (all_cons ⟨[s6, 1, (s2 + 1), s3], ⟨sE_V rfl, sE_k _ _, sEv (y' := ((1 : Int) + ((1 : Int) * s2 + 0))) rfl (by omega), sE_V rfl, trivial⟩, (show SG (MT hp) (nmM hp) s6 (1 : Int) (s2 + 1) s3 from s0_of f0 (by omega) (by omega) (by omega) (by omega) ud)⟩ (all_nil))
theorem rl814 : ruOk fFS gR814 := by
  intro r hp hO hN hH
  obtain ⟨s0, s1, s2, s3, s4, s5, s6, s7, s8, rfl⟩ := len9 (show r.length = 9 from hN.1)
  have hR := hN.2.1.1
  have hIv : ∀ q ∈ ([(0, .negSucc 2147483647, .ofNat 2147483647), (1, .ofNat 0, .ofNat 0), (2, .ofNat 0, .ofNat 19), (3, .ofNat 0, .ofNat 2186), (4, .ofNat 1, .ofNat 1), (5, .negSucc 2147483647, .ofNat 2147483647), (6, .negSucc 2147483647, .ofNat 2147483647), (7, .ofNat 24, .ofNat 24), (8, .ofNat 1, .ofNat 8)] : sIv), ∃ x, ([s0, s1, s2, s3, s4, s5, s6, s7, s8] : List Int)[q.1]? = some x ∧ q.2.1 ≤ x ∧ x ≤ q.2.2 := hN.2.1.2
  have b1 : (0 : Int) ≤ s1 ∧ s1 ≤ (0 : Int) := ivX (q := (1, .ofNat 0, .ofNat 0)) (y := s1) (hIv _ (.tail _ (.head _))) rfl
  have b2 : (0 : Int) ≤ s2 ∧ s2 ≤ (19 : Int) := ivX (q := (2, .ofNat 0, .ofNat 19)) (y := s2) (hIv _ (.tail _ (.tail _ (.head _)))) rfl
  have b3 : (0 : Int) ≤ s3 ∧ s3 ≤ (2186 : Int) := ivX (q := (3, .ofNat 0, .ofNat 2186)) (y := s3) (hIv _ (.tail _ (.tail _ (.tail _ (.head _))))) rfl
  have b4 : (1 : Int) ≤ s4 ∧ s4 ≤ (1 : Int) := ivX (q := (4, .ofNat 1, .ofNat 1)) (y := s4) (hIv _ (.tail _ (.tail _ (.tail _ (.tail _ (.head _)))))) rfl
  have b7 : (24 : Int) ≤ s7 ∧ s7 ≤ (24 : Int) := ivX (q := (7, .ofNat 24, .ofNat 24)) (y := s7) (hIv _ (.tail _ (.tail _ (.tail _ (.tail _ (.tail _ (.tail _ (.tail _ (.head _))))))))) rfl
  have b8 : (1 : Int) ≤ s8 ∧ s8 ≤ (8 : Int) := ivX (q := (8, .ofNat 1, .ofNat 8)) (y := s8) (hIv _ (.tail _ (.tail _ (.tail _ (.tail _ (.tail _ (.tail _ (.tail _ (.tail _ (.head _)))))))))) rfl
  have hFc : ∀ q ∈ ([(207, [(.ofNat 0, [(.ofNat 1, 0)]), (.ofNat 0, [(.ofNat 1, 1)]), (.ofNat 0, [(.ofNat 1, 2)]), (.ofNat 0, [(.ofNat 1, 3)]), (.ofNat 0, [(.ofNat 1, 4)]), (.ofNat 0, [(.ofNat 1, 5)]), (.ofNat 0, [(.ofNat 1, 6)]), (.ofNat 0, [(.ofNat 1, 7)])]), (199, [(.ofNat 0, [(.ofNat 1, 3)]), (.ofNat 0, [(.ofNat 1, 8)])])] : List sFc), fcOk fFS [s0, s1, s2, s3, s4, s5, s6, s7, s8] hp q := hH.2
  have f0 : SHq (MT hp) (nmM hp) s0 s1 s2 s3 s4 s5 s6 s7 := fcX (ys := [s0, s1, s2, s3, s4, s5, s6, s7]) (hFc _ (.head _)) ⟨sE_V rfl, sE_V rfl, sE_V rfl, sE_V rfl, sE_V rfl, sE_V rfl, sE_V rfl, sE_V rfl, trivial⟩
  have f1 : s8 = dp s3 + 1 := fcX (ys := [s3, s8]) (hFc _ (.tail _ (.head _))) ⟨sE_V rfl, sE_V rfl, trivial⟩
  have ud : dp s3 ≤ 7 := by omega
  have ut := dp_lt (t := s3) (by omega) ud
  exact poX (.head _) rfl hR (all_nil) (all_nil) (all_cons ⟨[s6, 2, (s2 + 1), s3], ⟨sE_V rfl, sE_k _ _, sEv (y' := ((1 : Int) + ((1 : Int) * s2 + 0))) rfl (by omega), sE_V rfl, trivial⟩, (show SG (MT hp) (nmM hp) s6 (2 : Int) (s2 + 1) s3 from s0_for f0 (by omega) (by omega) (by omega) (by omega) ud)⟩ (all_nil))
theorem rl815 : ruOk fFS gR815 := by
  intro r hp hO hN hH
  obtain ⟨s0, s1, s2, s3, s4, s5, s6, s7, s8, rfl⟩ := len9 (show r.length = 9 from hN.1)
  have hR := hN.2.1.1
  have hIv : ∀ q ∈ ([(0, .negSucc 2147483647, .ofNat 2147483647), (1, .ofNat 0, .ofNat 0), (2, .ofNat 0, .ofNat 19), (3, .ofNat 0, .ofNat 2186), (4, .ofNat 1, .ofNat 1), (5, .negSucc 2147483647, .ofNat 2147483647), (6, .negSucc 2147483647, .ofNat 2147483647), (7, .ofNat 25, .ofNat 25), (8, .ofNat 1, .ofNat 8)] : sIv), ∃ x, ([s0, s1, s2, s3, s4, s5, s6, s7, s8] : List Int)[q.1]? = some x ∧ q.2.1 ≤ x ∧ x ≤ q.2.2 := hN.2.1.2
  have b1 : (0 : Int) ≤ s1 ∧ s1 ≤ (0 : Int) := ivX (q := (1, .ofNat 0, .ofNat 0)) (y := s1) (hIv _ (.tail _ (.head _))) rfl
  have b2 : (0 : Int) ≤ s2 ∧ s2 ≤ (19 : Int) := ivX (q := (2, .ofNat 0, .ofNat 19)) (y := s2) (hIv _ (.tail _ (.tail _ (.head _)))) rfl
  have b3 : (0 : Int) ≤ s3 ∧ s3 ≤ (2186 : Int) := ivX (q := (3, .ofNat 0, .ofNat 2186)) (y := s3) (hIv _ (.tail _ (.tail _ (.tail _ (.head _))))) rfl
  have b4 : (1 : Int) ≤ s4 ∧ s4 ≤ (1 : Int) := ivX (q := (4, .ofNat 1, .ofNat 1)) (y := s4) (hIv _ (.tail _ (.tail _ (.tail _ (.tail _ (.head _)))))) rfl
  have b7 : (25 : Int) ≤ s7 ∧ s7 ≤ (25 : Int) := ivX (q := (7, .ofNat 25, .ofNat 25)) (y := s7) (hIv _ (.tail _ (.tail _ (.tail _ (.tail _ (.tail _ (.tail _ (.tail _ (.head _))))))))) rfl
  have b8 : (1 : Int) ≤ s8 ∧ s8 ≤ (8 : Int) := ivX (q := (8, .ofNat 1, .ofNat 8)) (y := s8) (hIv _ (.tail _ (.tail _ (.tail _ (.tail _ (.tail _ (.tail _ (.tail _ (.tail _ (.head _)))))))))) rfl
  have hFc : ∀ q ∈ ([(207, [(.ofNat 0, [(.ofNat 1, 0)]), (.ofNat 0, [(.ofNat 1, 1)]), (.ofNat 0, [(.ofNat 1, 2)]), (.ofNat 0, [(.ofNat 1, 3)]), (.ofNat 0, [(.ofNat 1, 4)]), (.ofNat 0, [(.ofNat 1, 5)]), (.ofNat 0, [(.ofNat 1, 6)]), (.ofNat 0, [(.ofNat 1, 7)])]), (199, [(.ofNat 0, [(.ofNat 1, 3)]), (.ofNat 0, [(.ofNat 1, 8)])])] : List sFc), fcOk fFS [s0, s1, s2, s3, s4, s5, s6, s7, s8] hp q := hH.2
  have f0 : SHq (MT hp) (nmM hp) s0 s1 s2 s3 s4 s5 s6 s7 := fcX (ys := [s0, s1, s2, s3, s4, s5, s6, s7]) (hFc _ (.head _)) ⟨sE_V rfl, sE_V rfl, sE_V rfl, sE_V rfl, sE_V rfl, sE_V rfl, sE_V rfl, sE_V rfl, trivial⟩
  have f1 : s8 = dp s3 + 1 := fcX (ys := [s3, s8]) (hFc _ (.tail _ (.head _))) ⟨sE_V rfl, sE_V rfl, trivial⟩
  have ud : dp s3 ≤ 7 := by omega
  have ut := dp_lt (t := s3) (by omega) ud
  exact poX (.head _) rfl hR (all_nil) (all_nil) (all_cons ⟨[s6, 3, (s2 + 1), s3], ⟨sE_V rfl, sE_k _ _, sEv (y' := ((1 : Int) + ((1 : Int) * s2 + 0))) rfl (by omega), sE_V rfl, trivial⟩, (show SG (MT hp) (nmM hp) s6 (3 : Int) (s2 + 1) s3 from s0_by f0 (by omega) (by omega) (by omega) (by omega) ud)⟩ (all_nil))
theorem rl816 : ruOk fFS gR816 := by
  intro r hp hO hN hH
  obtain ⟨s0, s1, s2, s3, s4, s5, s6, s7, s8, rfl⟩ := len9 (show r.length = 9 from hN.1)
  have hR := hN.2.1.1
  have hIv : ∀ q ∈ ([(0, .negSucc 2147483647, .ofNat 2147483647), (1, .ofNat 0, .ofNat 0), (2, .ofNat 0, .ofNat 19), (3, .ofNat 0, .ofNat 2186), (4, .ofNat 1, .ofNat 1), (5, .negSucc 2147483647, .ofNat 2147483647), (6, .negSucc 2147483647, .ofNat 2147483647), (7, .ofNat 26, .ofNat 29), (8, .ofNat 1, .ofNat 8)] : sIv), ∃ x, ([s0, s1, s2, s3, s4, s5, s6, s7, s8] : List Int)[q.1]? = some x ∧ q.2.1 ≤ x ∧ x ≤ q.2.2 := hN.2.1.2
  have b1 : (0 : Int) ≤ s1 ∧ s1 ≤ (0 : Int) := ivX (q := (1, .ofNat 0, .ofNat 0)) (y := s1) (hIv _ (.tail _ (.head _))) rfl
  have b2 : (0 : Int) ≤ s2 ∧ s2 ≤ (19 : Int) := ivX (q := (2, .ofNat 0, .ofNat 19)) (y := s2) (hIv _ (.tail _ (.tail _ (.head _)))) rfl
  have b3 : (0 : Int) ≤ s3 ∧ s3 ≤ (2186 : Int) := ivX (q := (3, .ofNat 0, .ofNat 2186)) (y := s3) (hIv _ (.tail _ (.tail _ (.tail _ (.head _))))) rfl
  have b4 : (1 : Int) ≤ s4 ∧ s4 ≤ (1 : Int) := ivX (q := (4, .ofNat 1, .ofNat 1)) (y := s4) (hIv _ (.tail _ (.tail _ (.tail _ (.tail _ (.head _)))))) rfl
  have b7 : (26 : Int) ≤ s7 ∧ s7 ≤ (29 : Int) := ivX (q := (7, .ofNat 26, .ofNat 29)) (y := s7) (hIv _ (.tail _ (.tail _ (.tail _ (.tail _ (.tail _ (.tail _ (.tail _ (.head _))))))))) rfl
  have b8 : (1 : Int) ≤ s8 ∧ s8 ≤ (8 : Int) := ivX (q := (8, .ofNat 1, .ofNat 8)) (y := s8) (hIv _ (.tail _ (.tail _ (.tail _ (.tail _ (.tail _ (.tail _ (.tail _ (.tail _ (.head _)))))))))) rfl
  have hFc : ∀ q ∈ ([(207, [(.ofNat 0, [(.ofNat 1, 0)]), (.ofNat 0, [(.ofNat 1, 1)]), (.ofNat 0, [(.ofNat 1, 2)]), (.ofNat 0, [(.ofNat 1, 3)]), (.ofNat 0, [(.ofNat 1, 4)]), (.ofNat 0, [(.ofNat 1, 5)]), (.ofNat 0, [(.ofNat 1, 6)]), (.ofNat 0, [(.ofNat 1, 7)])]), (199, [(.ofNat 0, [(.ofNat 1, 3)]), (.ofNat 0, [(.ofNat 1, 8)])])] : List sFc), fcOk fFS [s0, s1, s2, s3, s4, s5, s6, s7, s8] hp q := hH.2
  have f0 : SHq (MT hp) (nmM hp) s0 s1 s2 s3 s4 s5 s6 s7 := fcX (ys := [s0, s1, s2, s3, s4, s5, s6, s7]) (hFc _ (.head _)) ⟨sE_V rfl, sE_V rfl, sE_V rfl, sE_V rfl, sE_V rfl, sE_V rfl, sE_V rfl, sE_V rfl, trivial⟩
  have f1 : s8 = dp s3 + 1 := fcX (ys := [s3, s8]) (hFc _ (.tail _ (.head _))) ⟨sE_V rfl, sE_V rfl, trivial⟩
  have ud : dp s3 ≤ 7 := by omega
  have ut := dp_lt (t := s3) (by omega) ud
  exact poX (.head _) rfl hR (all_nil) (all_nil) (all_cons ⟨[s6, 4, (s2 + 1), s3], ⟨sE_V rfl, sE_k _ _, sEv (y' := ((1 : Int) + ((1 : Int) * s2 + 0))) rfl (by omega), sE_V rfl, trivial⟩, (show SG (MT hp) (nmM hp) s6 (4 : Int) (s2 + 1) s3 from s0_cmp f0 (by omega) (by omega) (by omega) (by omega) ud)⟩ (all_nil))
theorem rl817 : ruOk fFS gR817 := by
  intro r hp hO hN hH
  obtain ⟨s0, s1, s2, s3, s4, s5, s6, s7, rfl⟩ := len8 (show r.length = 8 from hN.1)
  have hR := hN.2.1.1
  have hIv : ∀ q ∈ ([(0, .negSucc 2147483647, .ofNat 2147483647), (1, .ofNat 4, .ofNat 4), (2, .negSucc 2147483647, .ofNat 2147483647), (3, .negSucc 2147483647, .ofNat 2147483647), (4, .ofNat 0, .ofNat 2), (5, .negSucc 2147483647, .ofNat 2147483647), (6, .negSucc 2147483647, .ofNat 2147483647), (7, .negSucc 2147483647, .ofNat 2147483647)] : sIv), ∃ x, ([s0, s1, s2, s3, s4, s5, s6, s7] : List Int)[q.1]? = some x ∧ q.2.1 ≤ x ∧ x ≤ q.2.2 := hN.2.1.2
  have b1 : (4 : Int) ≤ s1 ∧ s1 ≤ (4 : Int) := ivX (q := (1, .ofNat 4, .ofNat 4)) (y := s1) (hIv _ (.tail _ (.head _))) rfl
  have b4 : (0 : Int) ≤ s4 ∧ s4 ≤ (2 : Int) := ivX (q := (4, .ofNat 0, .ofNat 2)) (y := s4) (hIv _ (.tail _ (.tail _ (.tail _ (.tail _ (.head _)))))) rfl
  have hFc : ∀ q ∈ ([(207, [(.ofNat 0, [(.ofNat 1, 0)]), (.ofNat 0, [(.ofNat 1, 1)]), (.ofNat 0, [(.ofNat 1, 2)]), (.ofNat 0, [(.ofNat 1, 3)]), (.ofNat 0, [(.ofNat 1, 4)]), (.ofNat 0, [(.ofNat 1, 5)]), (.ofNat 0, [(.ofNat 1, 6)]), (.ofNat 0, [(.ofNat 1, 7)])])] : List sFc), fcOk fFS [s0, s1, s2, s3, s4, s5, s6, s7] hp q := hH.2
  have f0 : SHq (MT hp) (nmM hp) s0 s1 s2 s3 s4 s5 s6 s7 := fcX (ys := [s0, s1, s2, s3, s4, s5, s6, s7]) (hFc _ (.head _)) ⟨sE_V rfl, sE_V rfl, sE_V rfl, sE_V rfl, sE_V rfl, sE_V rfl, sE_V rfl, sE_V rfl, trivial⟩
  exact poX (.head _) rfl hR (all_nil) (all_nil) (all_cons ⟨[1, s5], ⟨sE_k _ _, sE_V rfl, trivial⟩, (show SRS (MT hp) (nmM hp) (1 : Int) s5 from s4_f1 f0 (by omega) (by omega))⟩ (all_nil))
theorem rl818 : ruOk fFS gR818 := by
  intro r hp hO hN hH
  obtain ⟨s0, s1, s2, s3, s4, s5, s6, s7, rfl⟩ := len8 (show r.length = 8 from hN.1)
  have hR := hN.2.1.1
  have hIv : ∀ q ∈ ([(0, .negSucc 2147483647, .ofNat 2147483647), (1, .ofNat 4, .ofNat 4), (2, .negSucc 2147483647, .ofNat 2147483647), (3, .negSucc 2147483647, .ofNat 2147483647), (4, .ofNat 3, .ofNat 3), (5, .negSucc 2147483647, .ofNat 2147483647), (6, .negSucc 2147483647, .ofNat 2147483647), (7, .ofNat 60, .ofNat 62)] : sIv), ∃ x, ([s0, s1, s2, s3, s4, s5, s6, s7] : List Int)[q.1]? = some x ∧ q.2.1 ≤ x ∧ x ≤ q.2.2 := hN.2.1.2
  have b1 : (4 : Int) ≤ s1 ∧ s1 ≤ (4 : Int) := ivX (q := (1, .ofNat 4, .ofNat 4)) (y := s1) (hIv _ (.tail _ (.head _))) rfl
  have b4 : (3 : Int) ≤ s4 ∧ s4 ≤ (3 : Int) := ivX (q := (4, .ofNat 3, .ofNat 3)) (y := s4) (hIv _ (.tail _ (.tail _ (.tail _ (.tail _ (.head _)))))) rfl
  have b7 : (60 : Int) ≤ s7 ∧ s7 ≤ (62 : Int) := ivX (q := (7, .ofNat 60, .ofNat 62)) (y := s7) (hIv _ (.tail _ (.tail _ (.tail _ (.tail _ (.tail _ (.tail _ (.tail _ (.head _))))))))) rfl
  have hFc : ∀ q ∈ ([(207, [(.ofNat 0, [(.ofNat 1, 0)]), (.ofNat 0, [(.ofNat 1, 1)]), (.ofNat 0, [(.ofNat 1, 2)]), (.ofNat 0, [(.ofNat 1, 3)]), (.ofNat 0, [(.ofNat 1, 4)]), (.ofNat 0, [(.ofNat 1, 5)]), (.ofNat 0, [(.ofNat 1, 6)]), (.ofNat 0, [(.ofNat 1, 7)])])] : List sFc), fcOk fFS [s0, s1, s2, s3, s4, s5, s6, s7] hp q := hH.2
  have f0 : SHq (MT hp) (nmM hp) s0 s1 s2 s3 s4 s5 s6 s7 := fcX (ys := [s0, s1, s2, s3, s4, s5, s6, s7]) (hFc _ (.head _)) ⟨sE_V rfl, sE_V rfl, sE_V rfl, sE_V rfl, sE_V rfl, sE_V rfl, sE_V rfl, sE_V rfl, trivial⟩
  exact poX (.head _) rfl hR (all_nil) (all_nil) (all_cons ⟨[s6, 5, s2, s3], ⟨sE_V rfl, sE_k _ _, sE_V rfl, sE_V rfl, trivial⟩, (show SG (MT hp) (nmM hp) s6 (5 : Int) s2 s3 from s4_go f0 (by omega) ⟨by omega, by omega, by omega⟩)⟩ (all_nil))
theorem rl823 : ruOk fFS gR823 := by
  intro r hp hO hN hH
  obtain ⟨s0, s1, s2, s3, s4, s5, s6, s7, rfl⟩ := len8 (show r.length = 8 from hN.1)
  have hR := hN.2.1.1
  have hIv : ∀ q ∈ ([(0, .negSucc 2147483647, .ofNat 2147483647), (1, .ofNat 5, .ofNat 5), (2, .negSucc 2147483647, .ofNat 2147483647), (3, .ofNat 0, .ofNat 6560), (4, .ofNat 2, .ofNat 2), (5, .negSucc 2147483647, .ofNat 2147483647), (6, .negSucc 2147483647, .ofNat 2147483647), (7, .negSucc 2147483647, .ofNat 2147483647)] : sIv), ∃ x, ([s0, s1, s2, s3, s4, s5, s6, s7] : List Int)[q.1]? = some x ∧ q.2.1 ≤ x ∧ x ≤ q.2.2 := hN.2.1.2
  have b1 : (5 : Int) ≤ s1 ∧ s1 ≤ (5 : Int) := ivX (q := (1, .ofNat 5, .ofNat 5)) (y := s1) (hIv _ (.tail _ (.head _))) rfl
  have b3 : (0 : Int) ≤ s3 ∧ s3 ≤ (6560 : Int) := ivX (q := (3, .ofNat 0, .ofNat 6560)) (y := s3) (hIv _ (.tail _ (.tail _ (.tail _ (.head _))))) rfl
  have b4 : (2 : Int) ≤ s4 ∧ s4 ≤ (2 : Int) := ivX (q := (4, .ofNat 2, .ofNat 2)) (y := s4) (hIv _ (.tail _ (.tail _ (.tail _ (.tail _ (.head _)))))) rfl
  have hFc : ∀ q ∈ ([(207, [(.ofNat 0, [(.ofNat 1, 0)]), (.ofNat 0, [(.ofNat 1, 1)]), (.ofNat 0, [(.ofNat 1, 2)]), (.ofNat 0, [(.ofNat 1, 3)]), (.ofNat 0, [(.ofNat 1, 4)]), (.ofNat 0, [(.ofNat 1, 5)]), (.ofNat 0, [(.ofNat 1, 6)]), (.ofNat 0, [(.ofNat 1, 7)])])] : List sFc), fcOk fFS [s0, s1, s2, s3, s4, s5, s6, s7] hp q := hH.2
  have f0 : SHq (MT hp) (nmM hp) s0 s1 s2 s3 s4 s5 s6 s7 := fcX (ys := [s0, s1, s2, s3, s4, s5, s6, s7]) (hFc _ (.head _)) ⟨sE_V rfl, sE_V rfl, sE_V rfl, sE_V rfl, sE_V rfl, sE_V rfl, sE_V rfl, sE_V rfl, trivial⟩
  obtain ⟨s8, ev⟩ : ∃ y : Int, y = nr s3 := ⟨_, rfl⟩
  have u := nr_b (t := s3) (by omega)
  rw [← ev] at u
  exact poXu (u := [s8]) (.head _) rfl hR (by rw [wMn_eq, wMx_eq]; intro x hx; simp only [List.mem_cons, List.not_mem_nil, or_false] at hx; omega) (all_cons (ivO (y := s8) rfl (show (0 : Int) ≤ s8 by omega) (show s8 ≤ (6560 : Int) by omega)) (all_nil)) (all_nil) (all_cons ⟨[s6, 6, s2, s8], ⟨sE_V rfl, sE_k _ _, sE_V rfl, sE_V rfl, trivial⟩, (show SG (MT hp) (nmM hp) s6 (6 : Int) s2 s8 from sg_u ev (s5_go f0 (by omega) (by omega)))⟩ (all_cons ⟨[s3, s8], ⟨sE_V rfl, sE_V rfl, trivial⟩, (show s8 = nr s3 from ev)⟩ (all_nil)))
theorem rl824 : ruOk fFS gR824 := by
  intro r hp hO hN hH
  obtain ⟨s0, s1, s2, s3, s4, s5, s6, s7, rfl⟩ := len8 (show r.length = 8 from hN.1)
  have hR := hN.2.1.1
  have hIv : ∀ q ∈ ([(0, .negSucc 2147483647, .ofNat 2147483647), (1, .ofNat 5, .ofNat 5), (2, .negSucc 2147483647, .ofNat 2147483647), (3, .negSucc 2147483647, .ofNat 2147483647), (4, .ofNat 0, .ofNat 1), (5, .negSucc 2147483647, .ofNat 2147483647), (6, .negSucc 2147483647, .ofNat 2147483647), (7, .negSucc 2147483647, .ofNat 2147483647)] : sIv), ∃ x, ([s0, s1, s2, s3, s4, s5, s6, s7] : List Int)[q.1]? = some x ∧ q.2.1 ≤ x ∧ x ≤ q.2.2 := hN.2.1.2
  have b1 : (5 : Int) ≤ s1 ∧ s1 ≤ (5 : Int) := ivX (q := (1, .ofNat 5, .ofNat 5)) (y := s1) (hIv _ (.tail _ (.head _))) rfl
  have b4 : (0 : Int) ≤ s4 ∧ s4 ≤ (1 : Int) := ivX (q := (4, .ofNat 0, .ofNat 1)) (y := s4) (hIv _ (.tail _ (.tail _ (.tail _ (.tail _ (.head _)))))) rfl
  have hFc : ∀ q ∈ ([(207, [(.ofNat 0, [(.ofNat 1, 0)]), (.ofNat 0, [(.ofNat 1, 1)]), (.ofNat 0, [(.ofNat 1, 2)]), (.ofNat 0, [(.ofNat 1, 3)]), (.ofNat 0, [(.ofNat 1, 4)]), (.ofNat 0, [(.ofNat 1, 5)]), (.ofNat 0, [(.ofNat 1, 6)]), (.ofNat 0, [(.ofNat 1, 7)])])] : List sFc), fcOk fFS [s0, s1, s2, s3, s4, s5, s6, s7] hp q := hH.2
  have f0 : SHq (MT hp) (nmM hp) s0 s1 s2 s3 s4 s5 s6 s7 := fcX (ys := [s0, s1, s2, s3, s4, s5, s6, s7]) (hFc _ (.head _)) ⟨sE_V rfl, sE_V rfl, sE_V rfl, sE_V rfl, sE_V rfl, sE_V rfl, sE_V rfl, sE_V rfl, trivial⟩
  exact poX (.head _) rfl hR (all_nil) (all_nil) (all_cons ⟨[1, s5], ⟨sE_k _ _, sE_V rfl, trivial⟩, (show SRS (MT hp) (nmM hp) (1 : Int) s5 from s5_f1 f0 (by omega) (by omega))⟩ (all_nil))
theorem rl825 : ruOk fFS gR825 := by
  intro r hp hO hN hH
  obtain ⟨s0, s1, s2, s3, s4, s5, s6, s7, rfl⟩ := len8 (show r.length = 8 from hN.1)
  have hR := hN.2.1.1
  have hIv : ∀ q ∈ ([(0, .negSucc 2147483647, .ofNat 2147483647), (1, .ofNat 5, .ofNat 5), (2, .negSucc 2147483647, .ofNat 2147483647), (3, .negSucc 2147483647, .ofNat 2147483647), (4, .ofNat 3, .ofNat 4), (5, .negSucc 2147483647, .ofNat 2147483647), (6, .negSucc 2147483647, .ofNat 2147483647), (7, .negSucc 2147483647, .ofNat 2147483647)] : sIv), ∃ x, ([s0, s1, s2, s3, s4, s5, s6, s7] : List Int)[q.1]? = some x ∧ q.2.1 ≤ x ∧ x ≤ q.2.2 := hN.2.1.2
  have b1 : (5 : Int) ≤ s1 ∧ s1 ≤ (5 : Int) := ivX (q := (1, .ofNat 5, .ofNat 5)) (y := s1) (hIv _ (.tail _ (.head _))) rfl
  have b4 : (3 : Int) ≤ s4 ∧ s4 ≤ (4 : Int) := ivX (q := (4, .ofNat 3, .ofNat 4)) (y := s4) (hIv _ (.tail _ (.tail _ (.tail _ (.tail _ (.head _)))))) rfl
  have hFc : ∀ q ∈ ([(207, [(.ofNat 0, [(.ofNat 1, 0)]), (.ofNat 0, [(.ofNat 1, 1)]), (.ofNat 0, [(.ofNat 1, 2)]), (.ofNat 0, [(.ofNat 1, 3)]), (.ofNat 0, [(.ofNat 1, 4)]), (.ofNat 0, [(.ofNat 1, 5)]), (.ofNat 0, [(.ofNat 1, 6)]), (.ofNat 0, [(.ofNat 1, 7)])])] : List sFc), fcOk fFS [s0, s1, s2, s3, s4, s5, s6, s7] hp q := hH.2
  have f0 : SHq (MT hp) (nmM hp) s0 s1 s2 s3 s4 s5 s6 s7 := fcX (ys := [s0, s1, s2, s3, s4, s5, s6, s7]) (hFc _ (.head _)) ⟨sE_V rfl, sE_V rfl, sE_V rfl, sE_V rfl, sE_V rfl, sE_V rfl, sE_V rfl, sE_V rfl, trivial⟩
  exact poX (.head _) rfl hR (all_nil) (all_nil) (all_cons ⟨[1, s5], ⟨sE_k _ _, sE_V rfl, trivial⟩, (show SRS (MT hp) (nmM hp) (1 : Int) s5 from s5_f1 f0 (by omega) (by omega))⟩ (all_nil))
theorem rl826 : ruOk fFS gR826 := by
  intro r hp hO hN hH
  obtain ⟨s0, s1, s2, s3, s4, s5, s6, s7, rfl⟩ := len8 (show r.length = 8 from hN.1)
  have hR := hN.2.1.1
  have hIv : ∀ q ∈ ([(0, .negSucc 2147483647, .ofNat 2147483647), (1, .ofNat 4, .ofNat 4), (2, .negSucc 2147483647, .ofNat 2147483647), (3, .negSucc 2147483647, .ofNat 2147483647), (4, .ofNat 4, .ofNat 4), (5, .negSucc 2147483647, .ofNat 2147483647), (6, .negSucc 2147483647, .ofNat 2147483647), (7, .negSucc 2147483647, .ofNat 2147483647)] : sIv), ∃ x, ([s0, s1, s2, s3, s4, s5, s6, s7] : List Int)[q.1]? = some x ∧ q.2.1 ≤ x ∧ x ≤ q.2.2 := hN.2.1.2
  have b1 : (4 : Int) ≤ s1 ∧ s1 ≤ (4 : Int) := ivX (q := (1, .ofNat 4, .ofNat 4)) (y := s1) (hIv _ (.tail _ (.head _))) rfl
  have b4 : (4 : Int) ≤ s4 ∧ s4 ≤ (4 : Int) := ivX (q := (4, .ofNat 4, .ofNat 4)) (y := s4) (hIv _ (.tail _ (.tail _ (.tail _ (.tail _ (.head _)))))) rfl
  have hFc : ∀ q ∈ ([(207, [(.ofNat 0, [(.ofNat 1, 0)]), (.ofNat 0, [(.ofNat 1, 1)]), (.ofNat 0, [(.ofNat 1, 2)]), (.ofNat 0, [(.ofNat 1, 3)]), (.ofNat 0, [(.ofNat 1, 4)]), (.ofNat 0, [(.ofNat 1, 5)]), (.ofNat 0, [(.ofNat 1, 6)]), (.ofNat 0, [(.ofNat 1, 7)])])] : List sFc), fcOk fFS [s0, s1, s2, s3, s4, s5, s6, s7] hp q := hH.2
  have f0 : SHq (MT hp) (nmM hp) s0 s1 s2 s3 s4 s5 s6 s7 := fcX (ys := [s0, s1, s2, s3, s4, s5, s6, s7]) (hFc _ (.head _)) ⟨sE_V rfl, sE_V rfl, sE_V rfl, sE_V rfl, sE_V rfl, sE_V rfl, sE_V rfl, sE_V rfl, trivial⟩
  exact poX (.head _) rfl hR (all_nil) (all_nil) (all_cons ⟨[1, s5], ⟨sE_k _ _, sE_V rfl, trivial⟩, (show SRS (MT hp) (nmM hp) (1 : Int) s5 from s4_f1 f0 (by omega) (by omega))⟩ (all_nil))
theorem rl827 : ruOk fFS gR827 := by
  intro r hp hO hN hH
  obtain ⟨s0, s1, s2, s3, s4, s5, s6, s7, rfl⟩ := len8 (show r.length = 8 from hN.1)
  have hR := hN.2.1.1
  have hIv : ∀ q ∈ ([(0, .negSucc 2147483647, .ofNat 2147483647), (1, .ofNat 4, .ofNat 4), (2, .negSucc 2147483647, .ofNat 2147483647), (3, .negSucc 2147483647, .ofNat 2147483647), (4, .ofNat 3, .ofNat 3), (5, .negSucc 2147483647, .ofNat 2147483647), (6, .negSucc 2147483647, .ofNat 2147483647), (7, .negSucc 2147483647, .ofNat 59)] : sIv), ∃ x, ([s0, s1, s2, s3, s4, s5, s6, s7] : List Int)[q.1]? = some x ∧ q.2.1 ≤ x ∧ x ≤ q.2.2 := hN.2.1.2
  have b1 : (4 : Int) ≤ s1 ∧ s1 ≤ (4 : Int) := ivX (q := (1, .ofNat 4, .ofNat 4)) (y := s1) (hIv _ (.tail _ (.head _))) rfl
  have b4 : (3 : Int) ≤ s4 ∧ s4 ≤ (3 : Int) := ivX (q := (4, .ofNat 3, .ofNat 3)) (y := s4) (hIv _ (.tail _ (.tail _ (.tail _ (.tail _ (.head _)))))) rfl
  have b7 : (-2147483648 : Int) ≤ s7 ∧ s7 ≤ (59 : Int) := ivX (q := (7, .negSucc 2147483647, .ofNat 59)) (y := s7) (hIv _ (.tail _ (.tail _ (.tail _ (.tail _ (.tail _ (.tail _ (.tail _ (.head _))))))))) rfl
  have hFc : ∀ q ∈ ([(207, [(.ofNat 0, [(.ofNat 1, 0)]), (.ofNat 0, [(.ofNat 1, 1)]), (.ofNat 0, [(.ofNat 1, 2)]), (.ofNat 0, [(.ofNat 1, 3)]), (.ofNat 0, [(.ofNat 1, 4)]), (.ofNat 0, [(.ofNat 1, 5)]), (.ofNat 0, [(.ofNat 1, 6)]), (.ofNat 0, [(.ofNat 1, 7)])])] : List sFc), fcOk fFS [s0, s1, s2, s3, s4, s5, s6, s7] hp q := hH.2
  have f0 : SHq (MT hp) (nmM hp) s0 s1 s2 s3 s4 s5 s6 s7 := fcX (ys := [s0, s1, s2, s3, s4, s5, s6, s7]) (hFc _ (.head _)) ⟨sE_V rfl, sE_V rfl, sE_V rfl, sE_V rfl, sE_V rfl, sE_V rfl, sE_V rfl, sE_V rfl, trivial⟩
  exact poX (.head _) rfl hR (all_nil) (all_nil) (all_cons ⟨[1, s5], ⟨sE_k _ _, sE_V rfl, trivial⟩, (show SRS (MT hp) (nmM hp) (1 : Int) s5 from s4_f1 f0 (by omega) (by omega))⟩ (all_nil))
theorem rl828 : ruOk fFS gR828 := by
  intro r hp hO hN hH
  obtain ⟨s0, s1, s2, s3, s4, s5, s6, s7, rfl⟩ := len8 (show r.length = 8 from hN.1)
  have hR := hN.2.1.1
  have hIv : ∀ q ∈ ([(0, .negSucc 2147483647, .ofNat 2147483647), (1, .ofNat 1, .ofNat 3), (2, .negSucc 2147483647, .ofNat 2147483647), (3, .negSucc 2147483647, .ofNat 2147483647), (4, .ofNat 0, .ofNat 0), (5, .negSucc 2147483647, .ofNat 2147483647), (6, .negSucc 2147483647, .ofNat 2147483647), (7, .negSucc 2147483647, .ofNat 2147483647)] : sIv), ∃ x, ([s0, s1, s2, s3, s4, s5, s6, s7] : List Int)[q.1]? = some x ∧ q.2.1 ≤ x ∧ x ≤ q.2.2 := hN.2.1.2
  have b1 : (1 : Int) ≤ s1 ∧ s1 ≤ (3 : Int) := ivX (q := (1, .ofNat 1, .ofNat 3)) (y := s1) (hIv _ (.tail _ (.head _))) rfl
  have b4 : (0 : Int) ≤ s4 ∧ s4 ≤ (0 : Int) := ivX (q := (4, .ofNat 0, .ofNat 0)) (y := s4) (hIv _ (.tail _ (.tail _ (.tail _ (.tail _ (.head _)))))) rfl
  have hFc : ∀ q ∈ ([(207, [(.ofNat 0, [(.ofNat 1, 0)]), (.ofNat 0, [(.ofNat 1, 1)]), (.ofNat 0, [(.ofNat 1, 2)]), (.ofNat 0, [(.ofNat 1, 3)]), (.ofNat 0, [(.ofNat 1, 4)]), (.ofNat 0, [(.ofNat 1, 5)]), (.ofNat 0, [(.ofNat 1, 6)]), (.ofNat 0, [(.ofNat 1, 7)])])] : List sFc), fcOk fFS [s0, s1, s2, s3, s4, s5, s6, s7] hp q := hH.2
  have f0 : SHq (MT hp) (nmM hp) s0 s1 s2 s3 s4 s5 s6 s7 := fcX (ys := [s0, s1, s2, s3, s4, s5, s6, s7]) (hFc _ (.head _)) ⟨sE_V rfl, sE_V rfl, sE_V rfl, sE_V rfl, sE_V rfl, sE_V rfl, sE_V rfl, sE_V rfl, trivial⟩
  exact poX (.head _) rfl hR (all_nil) (all_nil) (all_cons ⟨[1, s5], ⟨sE_k _ _, sE_V rfl, trivial⟩, (show SRS (MT hp) (nmM hp) (1 : Int) s5 from sn_f1 f0 (by unfold sNc; omega) (by omega))⟩ (all_nil))
theorem rl829 : ruOk fFS gR829 := by
  intro r hp hO hN hH
  obtain ⟨s0, s1, s2, s3, s4, s5, s6, s7, rfl⟩ := len8 (show r.length = 8 from hN.1)
  have hR := hN.2.1.1
  have hIv : ∀ q ∈ ([(0, .negSucc 2147483647, .ofNat 2147483647), (1, .ofNat 1, .ofNat 3), (2, .negSucc 2147483647, .ofNat 2147483647), (3, .negSucc 2147483647, .ofNat 2147483647), (4, .ofNat 2, .ofNat 4), (5, .negSucc 2147483647, .ofNat 2147483647), (6, .negSucc 2147483647, .ofNat 2147483647), (7, .negSucc 2147483647, .ofNat 2147483647)] : sIv), ∃ x, ([s0, s1, s2, s3, s4, s5, s6, s7] : List Int)[q.1]? = some x ∧ q.2.1 ≤ x ∧ x ≤ q.2.2 := hN.2.1.2
  have b1 : (1 : Int) ≤ s1 ∧ s1 ≤ (3 : Int) := ivX (q := (1, .ofNat 1, .ofNat 3)) (y := s1) (hIv _ (.tail _ (.head _))) rfl
  have b4 : (2 : Int) ≤ s4 ∧ s4 ≤ (4 : Int) := ivX (q := (4, .ofNat 2, .ofNat 4)) (y := s4) (hIv _ (.tail _ (.tail _ (.tail _ (.tail _ (.head _)))))) rfl
  have hFc : ∀ q ∈ ([(207, [(.ofNat 0, [(.ofNat 1, 0)]), (.ofNat 0, [(.ofNat 1, 1)]), (.ofNat 0, [(.ofNat 1, 2)]), (.ofNat 0, [(.ofNat 1, 3)]), (.ofNat 0, [(.ofNat 1, 4)]), (.ofNat 0, [(.ofNat 1, 5)]), (.ofNat 0, [(.ofNat 1, 6)]), (.ofNat 0, [(.ofNat 1, 7)])])] : List sFc), fcOk fFS [s0, s1, s2, s3, s4, s5, s6, s7] hp q := hH.2
  have f0 : SHq (MT hp) (nmM hp) s0 s1 s2 s3 s4 s5 s6 s7 := fcX (ys := [s0, s1, s2, s3, s4, s5, s6, s7]) (hFc _ (.head _)) ⟨sE_V rfl, sE_V rfl, sE_V rfl, sE_V rfl, sE_V rfl, sE_V rfl, sE_V rfl, sE_V rfl, trivial⟩
  exact poX (.head _) rfl hR (all_nil) (all_nil) (all_cons ⟨[1, s5], ⟨sE_k _ _, sE_V rfl, trivial⟩, (show SRS (MT hp) (nmM hp) (1 : Int) s5 from sn_f1 f0 (by unfold sNc; omega) (by omega))⟩ (all_nil))
theorem rl830 : ruOk fFS gR830 := by
  intro r hp hO hN hH
  obtain ⟨s0, s1, s2, s3, s4, s5, s6, s7, rfl⟩ := len8 (show r.length = 8 from hN.1)
  have hR := hN.2.1.1
  have hIv : ∀ q ∈ ([(0, .negSucc 2147483647, .ofNat 2147483647), (1, .ofNat 1, .ofNat 3), (2, .negSucc 2147483647, .ofNat 2147483647), (3, .negSucc 2147483647, .ofNat 2147483647), (4, .ofNat 1, .ofNat 1), (5, .negSucc 2147483647, .ofNat 2147483647), (6, .negSucc 2147483647, .ofNat 2147483647), (7, .ofNat 0, .ofNat 29)] : sIv), ∃ x, ([s0, s1, s2, s3, s4, s5, s6, s7] : List Int)[q.1]? = some x ∧ q.2.1 ≤ x ∧ x ≤ q.2.2 := hN.2.1.2
  have b1 : (1 : Int) ≤ s1 ∧ s1 ≤ (3 : Int) := ivX (q := (1, .ofNat 1, .ofNat 3)) (y := s1) (hIv _ (.tail _ (.head _))) rfl
  have b4 : (1 : Int) ≤ s4 ∧ s4 ≤ (1 : Int) := ivX (q := (4, .ofNat 1, .ofNat 1)) (y := s4) (hIv _ (.tail _ (.tail _ (.tail _ (.tail _ (.head _)))))) rfl
  have b7 : (0 : Int) ≤ s7 ∧ s7 ≤ (29 : Int) := ivX (q := (7, .ofNat 0, .ofNat 29)) (y := s7) (hIv _ (.tail _ (.tail _ (.tail _ (.tail _ (.tail _ (.tail _ (.tail _ (.head _))))))))) rfl
  have hFc : ∀ q ∈ ([(207, [(.ofNat 0, [(.ofNat 1, 0)]), (.ofNat 0, [(.ofNat 1, 1)]), (.ofNat 0, [(.ofNat 1, 2)]), (.ofNat 0, [(.ofNat 1, 3)]), (.ofNat 0, [(.ofNat 1, 4)]), (.ofNat 0, [(.ofNat 1, 5)]), (.ofNat 0, [(.ofNat 1, 6)]), (.ofNat 0, [(.ofNat 1, 7)])])] : List sFc), fcOk fFS [s0, s1, s2, s3, s4, s5, s6, s7] hp q := hH.2
  have f0 : SHq (MT hp) (nmM hp) s0 s1 s2 s3 s4 s5 s6 s7 := fcX (ys := [s0, s1, s2, s3, s4, s5, s6, s7]) (hFc _ (.head _)) ⟨sE_V rfl, sE_V rfl, sE_V rfl, sE_V rfl, sE_V rfl, sE_V rfl, sE_V rfl, sE_V rfl, trivial⟩
  exact poX (.head _) rfl hR (all_nil) (all_nil) (all_cons ⟨[1, s5], ⟨sE_k _ _, sE_V rfl, trivial⟩, (show SRS (MT hp) (nmM hp) (1 : Int) s5 from sn_f1 f0 (by unfold sNc; omega) (by omega))⟩ (all_nil))
theorem rl831 : ruOk fFS gR831 := by
  intro r hp hO hN hH
  obtain ⟨s0, s1, s2, rfl⟩ := len3 (show r.length = 3 from hN.1)
  have hR := hN.2.1.1
  have hIv : ∀ q ∈ ([(1, .negSucc 2147483647, .ofNat 2147483647), (2, .negSucc 2147483647, .ofNat 2147483647)] : sIv), ∃ x, ([s0, s1, s2] : List Int)[q.1]? = some x ∧ q.2.1 ≤ x ∧ x ≤ q.2.2 := hN.2.1.2
  have hRf : ∀ q ∈ ([((78, .ofNat 273, []), (.ofNat 17, []), 5, .ofNat 0, [(.ofNat 1, 0)])] : List sRf), rfOk [s0, s1, s2] hp q := hH.1
  have h0 : hL hp 273 17 = s0 := rfL0 (hRf _ (.head _)) (sE_k _ _) (sE_k _ _) (sE_V rfl)
  have hFc : ∀ q ∈ ([(131, [(.ofNat 0, [(.ofNat 1, 1)]), (.ofNat 0, [(.ofNat 1, 2)])])] : List sFc), fcOk fFS [s0, s1, s2] hp q := hH.2
  have f0 : isW (bs (MT hp).1 s1 s2) ∧ hL hp 273 17 = cd 256 0 (bs (MT hp).1 s1 s2) := fcX (ys := [s1, s2]) (hFc _ (.head _)) ⟨sE_V rfl, sE_V rfl, trivial⟩
  exact poX (.head _) rfl hR (all_nil) (all_nil) (all_cons ⟨[0, s0], ⟨sE_k _ _, sE_V rfl, trivial⟩, (show ∀ i : Nat, i < 4 → (i : Int) < (0 : Int) → hL hp 278 (0 + i) ≠ s0 from fun i _ w => absurd w (by omega))⟩ (all_nil))
theorem rl832 : ruOk fFS gR832 := by
  intro r hp hO hN hH
  obtain ⟨s0, s1, s2, rfl⟩ := len3 (show r.length = 3 from hN.1)
  have hR := hN.2.1.1
  have hIv : ∀ q ∈ ([(1, .negSucc 2147483647, .ofNat 2147483647), (2, .negSucc 2147483647, .ofNat 2147483647)] : sIv), ∃ x, ([s0, s1, s2] : List Int)[q.1]? = some x ∧ q.2.1 ≤ x ∧ x ≤ q.2.2 := hN.2.1.2
  have hRf : ∀ q ∈ ([((78, .ofNat 273, []), (.ofNat 17, []), 5, .ofNat 0, [(.ofNat 1, 0)])] : List sRf), rfOk [s0, s1, s2] hp q := hH.1
  have h0 : hL hp 273 17 = s0 := rfL0 (hRf _ (.head _)) (sE_k _ _) (sE_k _ _) (sE_V rfl)
  have hFc : ∀ q ∈ ([(131, [(.ofNat 0, [(.ofNat 1, 1)]), (.ofNat 0, [(.ofNat 1, 2)])])] : List sFc), fcOk fFS [s0, s1, s2] hp q := hH.2
  have f0 : isW (bs (MT hp).1 s1 s2) ∧ hL hp 273 17 = cd 256 0 (bs (MT hp).1 s1 s2) := fcX (ys := [s1, s2]) (hFc _ (.head _)) ⟨sE_V rfl, sE_V rfl, trivial⟩
  exact poX (.head _) rfl hR (all_nil) (all_nil) (all_cons ⟨[0, s0], ⟨sE_k _ _, sE_V rfl, trivial⟩, (show ∀ i : Nat, i < 3 → (i : Int) < (0 : Int) → hL hp 278 (4 + i) ≠ s0 from fun i _ w => absurd w (by omega))⟩ (all_nil))
theorem rl833 : ruOk fFS gR833 := by
  intro r hp hO hN hH
  obtain ⟨s0, s1, s2, rfl⟩ := len3 (show r.length = 3 from hN.1)
  have hR := hN.2.1.1
  have hIv : ∀ q ∈ ([(0, .ofNat 0, .ofNat 3)] : sIv), ∃ x, ([s0, s1, s2] : List Int)[q.1]? = some x ∧ q.2.1 ≤ x ∧ x ≤ q.2.2 := hN.2.1.2
  have b0 : (0 : Int) ≤ s0 ∧ s0 ≤ (3 : Int) := ivX (q := (0, .ofNat 0, .ofNat 3)) (y := s0) (hIv _ (.head _)) rfl
  have hCs : ∀ c ∈ ([(.ofNat 1, [(.ofNat 1, 1), (.negSucc 0, 2)])] : List sLn), ∃ x, sE [s0, s1, s2] c = some x ∧ x ≤ 0 := hN.2.2.1
  have c0 : ((1 : Int) + ((1 : Int) * s1 + ((-1 : Int) * s2 + 0))) ≤ 0 := csX (hCs _ (.head _)) rfl
  have hRf : ∀ q ∈ ([((78, .ofNat 273, []), (.ofNat 17, []), 5, .ofNat 0, [(.ofNat 1, 1)]), ((83, .ofNat 278, []), (.ofNat 0, [(.ofNat 1, 0)]), 5, .ofNat 0, [(.ofNat 1, 2)])] : List sRf), rfOk [s0, s1, s2] hp q := hH.1
  have h0 : hL hp 273 17 = s1 := rfL0 (hRf _ (.head _)) (sE_k _ _) (sE_k _ _) (sE_V rfl)
  obtain ⟨i1, e1, l1, h1⟩ := rfL (iv := s0) (hRf _ (.tail _ (.head _))) (sE_k _ _) (sE_V rfl) (sE_V rfl)
  have l1 : i1 < 24 := l1
  have h1 : hL hp 278 i1 = s2 := h1
  have hFc : ∀ q ∈ ([(214, [(.ofNat 0, [(.ofNat 1, 0)]), (.ofNat 0, [(.ofNat 1, 1)])])] : List sFc), fcOk fFS [s0, s1, s2] hp q := hH.2
  have f0 : ∀ i : Nat, i < 4 → (i : Int) < s0 → hL hp 278 (0 + i) ≠ s1 := fcX (ys := [s0, s1]) (hFc _ (.head _)) ⟨sE_V rfl, sE_V rfl, trivial⟩
  exact poX (.head _) rfl hR (all_nil) (all_nil) (all_cons ⟨[(s0 + 1), s1], ⟨sEv (y' := ((1 : Int) + ((1 : Int) * s0 + 0))) rfl (by omega), sE_V rfl, trivial⟩, (show ∀ i : Nat, i < 4 → (i : Int) < (s0 + 1) → hL hp 278 (0 + i) ≠ s1 from fw_s (R := fun i => hL hp 278 (0 + i)) (j := i1 - 0) f0 (by show hL hp 278 (0 + (i1 - 0)) = _; rw [show 0 + (i1 - 0) = i1 by omega, h1]) (by omega) (by omega) (by omega))⟩ (all_nil))
theorem rl834 : ruOk fFS gR834 := by
  intro r hp hO hN hH
  obtain ⟨s0, s1, s2, rfl⟩ := len3 (show r.length = 3 from hN.1)
  have hR := hN.2.1.1
  have hIv : ∀ q ∈ ([(0, .ofNat 0, .ofNat 3)] : sIv), ∃ x, ([s0, s1, s2] : List Int)[q.1]? = some x ∧ q.2.1 ≤ x ∧ x ≤ q.2.2 := hN.2.1.2
  have b0 : (0 : Int) ≤ s0 ∧ s0 ≤ (3 : Int) := ivX (q := (0, .ofNat 0, .ofNat 3)) (y := s0) (hIv _ (.head _)) rfl
  have hCs : ∀ c ∈ ([(.ofNat 1, [(.negSucc 0, 1), (.ofNat 1, 2)])] : List sLn), ∃ x, sE [s0, s1, s2] c = some x ∧ x ≤ 0 := hN.2.2.1
  have c0 : ((1 : Int) + ((-1 : Int) * s1 + ((1 : Int) * s2 + 0))) ≤ 0 := csX (hCs _ (.head _)) rfl
  have hRf : ∀ q ∈ ([((78, .ofNat 273, []), (.ofNat 17, []), 5, .ofNat 0, [(.ofNat 1, 1)]), ((83, .ofNat 278, []), (.ofNat 0, [(.ofNat 1, 0)]), 5, .ofNat 0, [(.ofNat 1, 2)])] : List sRf), rfOk [s0, s1, s2] hp q := hH.1
  have h0 : hL hp 273 17 = s1 := rfL0 (hRf _ (.head _)) (sE_k _ _) (sE_k _ _) (sE_V rfl)
  obtain ⟨i1, e1, l1, h1⟩ := rfL (iv := s0) (hRf _ (.tail _ (.head _))) (sE_k _ _) (sE_V rfl) (sE_V rfl)
  have l1 : i1 < 24 := l1
  have h1 : hL hp 278 i1 = s2 := h1
  have hFc : ∀ q ∈ ([(214, [(.ofNat 0, [(.ofNat 1, 0)]), (.ofNat 0, [(.ofNat 1, 1)])])] : List sFc), fcOk fFS [s0, s1, s2] hp q := hH.2
  have f0 : ∀ i : Nat, i < 4 → (i : Int) < s0 → hL hp 278 (0 + i) ≠ s1 := fcX (ys := [s0, s1]) (hFc _ (.head _)) ⟨sE_V rfl, sE_V rfl, trivial⟩
  exact poX (.head _) rfl hR (all_nil) (all_nil) (all_cons ⟨[(s0 + 1), s1], ⟨sEv (y' := ((1 : Int) + ((1 : Int) * s0 + 0))) rfl (by omega), sE_V rfl, trivial⟩, (show ∀ i : Nat, i < 4 → (i : Int) < (s0 + 1) → hL hp 278 (0 + i) ≠ s1 from fw_s (R := fun i => hL hp 278 (0 + i)) (j := i1 - 0) f0 (by show hL hp 278 (0 + (i1 - 0)) = _; rw [show 0 + (i1 - 0) = i1 by omega, h1]) (by omega) (by omega) (by omega))⟩ (all_nil))
theorem rl835 : ruOk fFS gR835 := by
  intro r hp hO hN hH
  obtain ⟨s0, s1, s2, rfl⟩ := len3 (show r.length = 3 from hN.1)
  have hR := hN.2.1.1
  have hIv : ∀ q ∈ ([(0, .ofNat 0, .ofNat 2)] : sIv), ∃ x, ([s0, s1, s2] : List Int)[q.1]? = some x ∧ q.2.1 ≤ x ∧ x ≤ q.2.2 := hN.2.1.2
  have b0 : (0 : Int) ≤ s0 ∧ s0 ≤ (2 : Int) := ivX (q := (0, .ofNat 0, .ofNat 2)) (y := s0) (hIv _ (.head _)) rfl
  have hCs : ∀ c ∈ ([(.ofNat 1, [(.ofNat 1, 1), (.negSucc 0, 2)])] : List sLn), ∃ x, sE [s0, s1, s2] c = some x ∧ x ≤ 0 := hN.2.2.1
  have c0 : ((1 : Int) + ((1 : Int) * s1 + ((-1 : Int) * s2 + 0))) ≤ 0 := csX (hCs _ (.head _)) rfl
  have hRf : ∀ q ∈ ([((78, .ofNat 273, []), (.ofNat 17, []), 5, .ofNat 0, [(.ofNat 1, 1)]), ((83, .ofNat 278, []), (.ofNat 4, [(.ofNat 1, 0)]), 5, .ofNat 0, [(.ofNat 1, 2)])] : List sRf), rfOk [s0, s1, s2] hp q := hH.1
  have h0 : hL hp 273 17 = s1 := rfL0 (hRf _ (.head _)) (sE_k _ _) (sE_k _ _) (sE_V rfl)
  obtain ⟨i1, e1, l1, h1⟩ := rfL (iv := (s0 + 4)) (hRf _ (.tail _ (.head _))) (sE_k _ _) (sEv (y' := ((4 : Int) + ((1 : Int) * s0 + 0))) rfl (by omega)) (sE_V rfl)
  have l1 : i1 < 24 := l1
  have h1 : hL hp 278 i1 = s2 := h1
  have hFc : ∀ q ∈ ([(215, [(.ofNat 0, [(.ofNat 1, 0)]), (.ofNat 0, [(.ofNat 1, 1)])])] : List sFc), fcOk fFS [s0, s1, s2] hp q := hH.2
  have f0 : ∀ i : Nat, i < 3 → (i : Int) < s0 → hL hp 278 (4 + i) ≠ s1 := fcX (ys := [s0, s1]) (hFc _ (.head _)) ⟨sE_V rfl, sE_V rfl, trivial⟩
  exact poX (.head _) rfl hR (all_nil) (all_nil) (all_cons ⟨[(s0 + 1), s1], ⟨sEv (y' := ((1 : Int) + ((1 : Int) * s0 + 0))) rfl (by omega), sE_V rfl, trivial⟩, (show ∀ i : Nat, i < 3 → (i : Int) < (s0 + 1) → hL hp 278 (4 + i) ≠ s1 from fw_s (R := fun i => hL hp 278 (4 + i)) (j := i1 - 4) f0 (by show hL hp 278 (4 + (i1 - 4)) = _; rw [show 4 + (i1 - 4) = i1 by omega, h1]) (by omega) (by omega) (by omega))⟩ (all_nil))
theorem rl836 : ruOk fFS gR836 := by
  intro r hp hO hN hH
  obtain ⟨s0, s1, s2, rfl⟩ := len3 (show r.length = 3 from hN.1)
  have hR := hN.2.1.1
  have hIv : ∀ q ∈ ([(0, .ofNat 0, .ofNat 2)] : sIv), ∃ x, ([s0, s1, s2] : List Int)[q.1]? = some x ∧ q.2.1 ≤ x ∧ x ≤ q.2.2 := hN.2.1.2
  have b0 : (0 : Int) ≤ s0 ∧ s0 ≤ (2 : Int) := ivX (q := (0, .ofNat 0, .ofNat 2)) (y := s0) (hIv _ (.head _)) rfl
  have hCs : ∀ c ∈ ([(.ofNat 1, [(.negSucc 0, 1), (.ofNat 1, 2)])] : List sLn), ∃ x, sE [s0, s1, s2] c = some x ∧ x ≤ 0 := hN.2.2.1
  have c0 : ((1 : Int) + ((-1 : Int) * s1 + ((1 : Int) * s2 + 0))) ≤ 0 := csX (hCs _ (.head _)) rfl
  have hRf : ∀ q ∈ ([((78, .ofNat 273, []), (.ofNat 17, []), 5, .ofNat 0, [(.ofNat 1, 1)]), ((83, .ofNat 278, []), (.ofNat 4, [(.ofNat 1, 0)]), 5, .ofNat 0, [(.ofNat 1, 2)])] : List sRf), rfOk [s0, s1, s2] hp q := hH.1
  have h0 : hL hp 273 17 = s1 := rfL0 (hRf _ (.head _)) (sE_k _ _) (sE_k _ _) (sE_V rfl)
  obtain ⟨i1, e1, l1, h1⟩ := rfL (iv := (s0 + 4)) (hRf _ (.tail _ (.head _))) (sE_k _ _) (sEv (y' := ((4 : Int) + ((1 : Int) * s0 + 0))) rfl (by omega)) (sE_V rfl)
  have l1 : i1 < 24 := l1
  have h1 : hL hp 278 i1 = s2 := h1
  have hFc : ∀ q ∈ ([(215, [(.ofNat 0, [(.ofNat 1, 0)]), (.ofNat 0, [(.ofNat 1, 1)])])] : List sFc), fcOk fFS [s0, s1, s2] hp q := hH.2
  have f0 : ∀ i : Nat, i < 3 → (i : Int) < s0 → hL hp 278 (4 + i) ≠ s1 := fcX (ys := [s0, s1]) (hFc _ (.head _)) ⟨sE_V rfl, sE_V rfl, trivial⟩
  exact poX (.head _) rfl hR (all_nil) (all_nil) (all_cons ⟨[(s0 + 1), s1], ⟨sEv (y' := ((1 : Int) + ((1 : Int) * s0 + 0))) rfl (by omega), sE_V rfl, trivial⟩, (show ∀ i : Nat, i < 3 → (i : Int) < (s0 + 1) → hL hp 278 (4 + i) ≠ s1 from fw_s (R := fun i => hL hp 278 (4 + i)) (j := i1 - 4) f0 (by show hL hp 278 (4 + (i1 - 4)) = _; rw [show 4 + (i1 - 4) = i1 by omega, h1]) (by omega) (by omega) (by omega))⟩ (all_nil))
theorem rl837 : ruOk fFS gR837 := by
  intro r hp hO hN hH
  obtain ⟨s0, s1, s2, s3, s4, s5, s6, s7, s8, rfl⟩ := len9 (show r.length = 9 from hN.1)
  have hR := hN.2.1.1
  have hIv : ∀ q ∈ ([(0, .negSucc 2147483647, .ofNat 2147483647), (1, .ofNat 1, .ofNat 1), (2, .negSucc 2147483647, .ofNat 2147483647), (3, .negSucc 2147483647, .ofNat 2147483647), (4, .ofNat 1, .ofNat 1), (5, .negSucc 2147483647, .ofNat 2147483647), (6, .negSucc 2147483647, .ofNat 2147483647), (7, .negSucc 0, .negSucc 0), (8, .negSucc 0, .negSucc 0)] : sIv), ∃ x, ([s0, s1, s2, s3, s4, s5, s6, s7, s8] : List Int)[q.1]? = some x ∧ q.2.1 ≤ x ∧ x ≤ q.2.2 := hN.2.1.2
  have b1 : (1 : Int) ≤ s1 ∧ s1 ≤ (1 : Int) := ivX (q := (1, .ofNat 1, .ofNat 1)) (y := s1) (hIv _ (.tail _ (.head _))) rfl
  have b4 : (1 : Int) ≤ s4 ∧ s4 ≤ (1 : Int) := ivX (q := (4, .ofNat 1, .ofNat 1)) (y := s4) (hIv _ (.tail _ (.tail _ (.tail _ (.tail _ (.head _)))))) rfl
  have b7 : (-1 : Int) ≤ s7 ∧ s7 ≤ (-1 : Int) := ivX (q := (7, .negSucc 0, .negSucc 0)) (y := s7) (hIv _ (.tail _ (.tail _ (.tail _ (.tail _ (.tail _ (.tail _ (.tail _ (.head _))))))))) rfl
  have b8 : (-1 : Int) ≤ s8 ∧ s8 ≤ (-1 : Int) := ivX (q := (8, .negSucc 0, .negSucc 0)) (y := s8) (hIv _ (.tail _ (.tail _ (.tail _ (.tail _ (.tail _ (.tail _ (.tail _ (.tail _ (.head _)))))))))) rfl
  have hFc : ∀ q ∈ ([(207, [(.ofNat 0, [(.ofNat 1, 0)]), (.ofNat 0, [(.ofNat 1, 1)]), (.ofNat 0, [(.ofNat 1, 2)]), (.ofNat 0, [(.ofNat 1, 3)]), (.ofNat 0, [(.ofNat 1, 4)]), (.ofNat 0, [(.ofNat 1, 5)]), (.ofNat 0, [(.ofNat 1, 6)]), (.ofNat 0, [(.ofNat 1, 7)])]), (211, [(.ofNat 1, []), (.ofNat 0, [(.ofNat 1, 5)]), (.ofNat 0, [(.ofNat 1, 6)]), (.ofNat 0, [(.ofNat 1, 8)])])] : List sFc), fcOk fFS [s0, s1, s2, s3, s4, s5, s6, s7, s8] hp q := hH.2
  have f0 : SHq (MT hp) (nmM hp) s0 s1 s2 s3 s4 s5 s6 s7 := fcX (ys := [s0, s1, s2, s3, s4, s5, s6, s7]) (hFc _ (.head _)) ⟨sE_V rfl, sE_V rfl, sE_V rfl, sE_V rfl, sE_V rfl, sE_V rfl, sE_V rfl, sE_V rfl, trivial⟩
  have f1 : (0 ≤ s8 ∧ nmM hp (1 : Int) (bs (MT hp).1 s5 s6)) ∨ (s8 = -1 ∧ ¬ nmM hp (1 : Int) (bs (MT hp).1 s5 s6)) := fcX (ys := [1, s5, s6, s8]) (hFc _ (.tail _ (.head _))) ⟨sE_k _ _, sE_V rfl, sE_V rfl, sE_V rfl, trivial⟩
  have ec : s1 = 1 := by omega
  exact poX (.head _) rfl hR (all_nil) (all_nil) (all_cons ⟨[3, s5], ⟨sE_k _ _, sE_V rfl, trivial⟩, (show SRS (MT hp) (nmM hp) (3 : Int) s5 from sn_f3 f0 (by unfold sNc; omega) (by omega) (by omega) (by rw [ec]; exact fds_0 f1 (by omega)))⟩ (all_nil))
theorem rl838 : ruOk fFS gR838 := by
  intro r hp hO hN hH
  obtain ⟨s0, s1, s2, s3, s4, s5, s6, s7, s8, rfl⟩ := len9 (show r.length = 9 from hN.1)
  have hR := hN.2.1.1
  have hIv : ∀ q ∈ ([(0, .negSucc 2147483647, .ofNat 2147483647), (1, .ofNat 2, .ofNat 2), (2, .negSucc 2147483647, .ofNat 2147483647), (3, .negSucc 2147483647, .ofNat 2147483647), (4, .ofNat 1, .ofNat 1), (5, .negSucc 2147483647, .ofNat 2147483647), (6, .negSucc 2147483647, .ofNat 2147483647), (7, .negSucc 0, .negSucc 0), (8, .negSucc 0, .negSucc 0)] : sIv), ∃ x, ([s0, s1, s2, s3, s4, s5, s6, s7, s8] : List Int)[q.1]? = some x ∧ q.2.1 ≤ x ∧ x ≤ q.2.2 := hN.2.1.2
  have b1 : (2 : Int) ≤ s1 ∧ s1 ≤ (2 : Int) := ivX (q := (1, .ofNat 2, .ofNat 2)) (y := s1) (hIv _ (.tail _ (.head _))) rfl
  have b4 : (1 : Int) ≤ s4 ∧ s4 ≤ (1 : Int) := ivX (q := (4, .ofNat 1, .ofNat 1)) (y := s4) (hIv _ (.tail _ (.tail _ (.tail _ (.tail _ (.head _)))))) rfl
  have b7 : (-1 : Int) ≤ s7 ∧ s7 ≤ (-1 : Int) := ivX (q := (7, .negSucc 0, .negSucc 0)) (y := s7) (hIv _ (.tail _ (.tail _ (.tail _ (.tail _ (.tail _ (.tail _ (.tail _ (.head _))))))))) rfl
  have b8 : (-1 : Int) ≤ s8 ∧ s8 ≤ (-1 : Int) := ivX (q := (8, .negSucc 0, .negSucc 0)) (y := s8) (hIv _ (.tail _ (.tail _ (.tail _ (.tail _ (.tail _ (.tail _ (.tail _ (.tail _ (.head _)))))))))) rfl
  have hFc : ∀ q ∈ ([(207, [(.ofNat 0, [(.ofNat 1, 0)]), (.ofNat 0, [(.ofNat 1, 1)]), (.ofNat 0, [(.ofNat 1, 2)]), (.ofNat 0, [(.ofNat 1, 3)]), (.ofNat 0, [(.ofNat 1, 4)]), (.ofNat 0, [(.ofNat 1, 5)]), (.ofNat 0, [(.ofNat 1, 6)]), (.ofNat 0, [(.ofNat 1, 7)])]), (211, [(.ofNat 2, []), (.ofNat 0, [(.ofNat 1, 5)]), (.ofNat 0, [(.ofNat 1, 6)]), (.ofNat 0, [(.ofNat 1, 8)])])] : List sFc), fcOk fFS [s0, s1, s2, s3, s4, s5, s6, s7, s8] hp q := hH.2
  have f0 : SHq (MT hp) (nmM hp) s0 s1 s2 s3 s4 s5 s6 s7 := fcX (ys := [s0, s1, s2, s3, s4, s5, s6, s7]) (hFc _ (.head _)) ⟨sE_V rfl, sE_V rfl, sE_V rfl, sE_V rfl, sE_V rfl, sE_V rfl, sE_V rfl, sE_V rfl, trivial⟩
  have f1 : (0 ≤ s8 ∧ nmM hp (2 : Int) (bs (MT hp).1 s5 s6)) ∨ (s8 = -1 ∧ ¬ nmM hp (2 : Int) (bs (MT hp).1 s5 s6)) := fcX (ys := [2, s5, s6, s8]) (hFc _ (.tail _ (.head _))) ⟨sE_k _ _, sE_V rfl, sE_V rfl, sE_V rfl, trivial⟩
  have ec : s1 = 2 := by omega
  exact poX (.head _) rfl hR (all_nil) (all_nil) (all_cons ⟨[3, s5], ⟨sE_k _ _, sE_V rfl, trivial⟩, (show SRS (MT hp) (nmM hp) (3 : Int) s5 from sn_f3 f0 (by unfold sNc; omega) (by omega) (by omega) (by rw [ec]; exact fds_0 f1 (by omega)))⟩ (all_nil))
theorem rl839 : ruOk fFS gR839 := by
  intro r hp hO hN hH
  obtain ⟨s0, s1, s2, s3, s4, s5, s6, s7, s8, rfl⟩ := len9 (show r.length = 9 from hN.1)
  have hR := hN.2.1.1
  have hIv : ∀ q ∈ ([(0, .negSucc 2147483647, .ofNat 2147483647), (1, .ofNat 3, .ofNat 3), (2, .negSucc 2147483647, .ofNat 2147483647), (3, .negSucc 2147483647, .ofNat 2147483647), (4, .ofNat 1, .ofNat 1), (5, .negSucc 2147483647, .ofNat 2147483647), (6, .negSucc 2147483647, .ofNat 2147483647), (7, .negSucc 0, .negSucc 0), (8, .negSucc 0, .negSucc 0)] : sIv), ∃ x, ([s0, s1, s2, s3, s4, s5, s6, s7, s8] : List Int)[q.1]? = some x ∧ q.2.1 ≤ x ∧ x ≤ q.2.2 := hN.2.1.2
  have b1 : (3 : Int) ≤ s1 ∧ s1 ≤ (3 : Int) := ivX (q := (1, .ofNat 3, .ofNat 3)) (y := s1) (hIv _ (.tail _ (.head _))) rfl
  have b4 : (1 : Int) ≤ s4 ∧ s4 ≤ (1 : Int) := ivX (q := (4, .ofNat 1, .ofNat 1)) (y := s4) (hIv _ (.tail _ (.tail _ (.tail _ (.tail _ (.head _)))))) rfl
  have b7 : (-1 : Int) ≤ s7 ∧ s7 ≤ (-1 : Int) := ivX (q := (7, .negSucc 0, .negSucc 0)) (y := s7) (hIv _ (.tail _ (.tail _ (.tail _ (.tail _ (.tail _ (.tail _ (.tail _ (.head _))))))))) rfl
  have b8 : (-1 : Int) ≤ s8 ∧ s8 ≤ (-1 : Int) := ivX (q := (8, .negSucc 0, .negSucc 0)) (y := s8) (hIv _ (.tail _ (.tail _ (.tail _ (.tail _ (.tail _ (.tail _ (.tail _ (.tail _ (.head _)))))))))) rfl
  have hFc : ∀ q ∈ ([(207, [(.ofNat 0, [(.ofNat 1, 0)]), (.ofNat 0, [(.ofNat 1, 1)]), (.ofNat 0, [(.ofNat 1, 2)]), (.ofNat 0, [(.ofNat 1, 3)]), (.ofNat 0, [(.ofNat 1, 4)]), (.ofNat 0, [(.ofNat 1, 5)]), (.ofNat 0, [(.ofNat 1, 6)]), (.ofNat 0, [(.ofNat 1, 7)])]), (211, [(.ofNat 3, []), (.ofNat 0, [(.ofNat 1, 5)]), (.ofNat 0, [(.ofNat 1, 6)]), (.ofNat 0, [(.ofNat 1, 8)])])] : List sFc), fcOk fFS [s0, s1, s2, s3, s4, s5, s6, s7, s8] hp q := hH.2
  have f0 : SHq (MT hp) (nmM hp) s0 s1 s2 s3 s4 s5 s6 s7 := fcX (ys := [s0, s1, s2, s3, s4, s5, s6, s7]) (hFc _ (.head _)) ⟨sE_V rfl, sE_V rfl, sE_V rfl, sE_V rfl, sE_V rfl, sE_V rfl, sE_V rfl, sE_V rfl, trivial⟩
  have f1 : (0 ≤ s8 ∧ nmM hp (3 : Int) (bs (MT hp).1 s5 s6)) ∨ (s8 = -1 ∧ ¬ nmM hp (3 : Int) (bs (MT hp).1 s5 s6)) := fcX (ys := [3, s5, s6, s8]) (hFc _ (.tail _ (.head _))) ⟨sE_k _ _, sE_V rfl, sE_V rfl, sE_V rfl, trivial⟩
  have ec : s1 = 3 := by omega
  exact poX (.head _) rfl hR (all_nil) (all_nil) (all_cons ⟨[3, s5], ⟨sE_k _ _, sE_V rfl, trivial⟩, (show SRS (MT hp) (nmM hp) (3 : Int) s5 from sn_f3 f0 (by unfold sNc; omega) (by omega) (by omega) (by rw [ec]; exact fds_0 f1 (by omega)))⟩ (all_nil))
theorem rl841 : ruOk fFS gR841 := by
  intro r hp hO hN hH
  obtain ⟨s0, s1, s2, s3, s4, s5, s6, s7, s8, rfl⟩ := len9 (show r.length = 9 from hN.1)
  have hR := hN.2.1.1
  have hIv : ∀ q ∈ ([(0, .negSucc 2147483647, .ofNat 2147483647), (1, .ofNat 1, .ofNat 1), (2, .negSucc 2147483647, .ofNat 2147483647), (3, .ofNat 0, .ofNat 6560), (4, .ofNat 1, .ofNat 1), (5, .negSucc 2147483647, .ofNat 2147483647), (6, .negSucc 2147483647, .ofNat 2147483647), (7, .negSucc 0, .negSucc 0), (8, .ofNat 0, .ofNat 4)] : sIv), ∃ x, ([s0, s1, s2, s3, s4, s5, s6, s7, s8] : List Int)[q.1]? = some x ∧ q.2.1 ≤ x ∧ x ≤ q.2.2 := hN.2.1.2
  have b1 : (1 : Int) ≤ s1 ∧ s1 ≤ (1 : Int) := ivX (q := (1, .ofNat 1, .ofNat 1)) (y := s1) (hIv _ (.tail _ (.head _))) rfl
  have b3 : (0 : Int) ≤ s3 ∧ s3 ≤ (6560 : Int) := ivX (q := (3, .ofNat 0, .ofNat 6560)) (y := s3) (hIv _ (.tail _ (.tail _ (.tail _ (.head _))))) rfl
  have b4 : (1 : Int) ≤ s4 ∧ s4 ≤ (1 : Int) := ivX (q := (4, .ofNat 1, .ofNat 1)) (y := s4) (hIv _ (.tail _ (.tail _ (.tail _ (.tail _ (.head _)))))) rfl
  have b7 : (-1 : Int) ≤ s7 ∧ s7 ≤ (-1 : Int) := ivX (q := (7, .negSucc 0, .negSucc 0)) (y := s7) (hIv _ (.tail _ (.tail _ (.tail _ (.tail _ (.tail _ (.tail _ (.tail _ (.head _))))))))) rfl
  have b8 : (0 : Int) ≤ s8 ∧ s8 ≤ (4 : Int) := ivX (q := (8, .ofNat 0, .ofNat 4)) (y := s8) (hIv _ (.tail _ (.tail _ (.tail _ (.tail _ (.tail _ (.tail _ (.tail _ (.tail _ (.head _)))))))))) rfl
  have hFc : ∀ q ∈ ([(207, [(.ofNat 0, [(.ofNat 1, 0)]), (.ofNat 0, [(.ofNat 1, 1)]), (.ofNat 0, [(.ofNat 1, 2)]), (.ofNat 0, [(.ofNat 1, 3)]), (.ofNat 0, [(.ofNat 1, 4)]), (.ofNat 0, [(.ofNat 1, 5)]), (.ofNat 0, [(.ofNat 1, 6)]), (.ofNat 0, [(.ofNat 1, 7)])]), (211, [(.ofNat 1, []), (.ofNat 0, [(.ofNat 1, 5)]), (.ofNat 0, [(.ofNat 1, 6)]), (.ofNat 0, [(.ofNat 1, 8)])])] : List sFc), fcOk fFS [s0, s1, s2, s3, s4, s5, s6, s7, s8] hp q := hH.2
  have f0 : SHq (MT hp) (nmM hp) s0 s1 s2 s3 s4 s5 s6 s7 := fcX (ys := [s0, s1, s2, s3, s4, s5, s6, s7]) (hFc _ (.head _)) ⟨sE_V rfl, sE_V rfl, sE_V rfl, sE_V rfl, sE_V rfl, sE_V rfl, sE_V rfl, sE_V rfl, trivial⟩
  have f1 : (0 ≤ s8 ∧ nmM hp (1 : Int) (bs (MT hp).1 s5 s6)) ∨ (s8 = -1 ∧ ¬ nmM hp (1 : Int) (bs (MT hp).1 s5 s6)) := fcX (ys := [1, s5, s6, s8]) (hFc _ (.tail _ (.head _))) ⟨sE_k _ _, sE_V rfl, sE_V rfl, sE_V rfl, trivial⟩
  obtain ⟨s9, ev⟩ : ∃ y : Int, y = nr s3 := ⟨_, rfl⟩
  have u := nr_b (t := s3) (by omega)
  rw [← ev] at u
  have ec : s1 = 1 := by omega
  exact poXu (u := [s9]) (.head _) rfl hR (by rw [wMn_eq, wMx_eq]; intro x hx; simp only [List.mem_cons, List.not_mem_nil, or_false] at hx; omega) (all_cons (ivO (y := s9) rfl (show (0 : Int) ≤ s9 by omega) (show s9 ≤ (6560 : Int) by omega)) (all_nil)) (all_nil) (all_cons ⟨[s6, 6, s2, s9], ⟨sE_V rfl, sE_k _ _, sE_V rfl, sE_V rfl, trivial⟩, (show SG (MT hp) (nmM hp) s6 (6 : Int) s2 s9 from sg_u ev (sn_go f0 (by unfold sNc; omega) (by omega) (by omega) (by rw [ec]; exact fds_y f1 (by omega))))⟩ (all_cons ⟨[s3, s9], ⟨sE_V rfl, sE_V rfl, trivial⟩, (show s9 = nr s3 from ev)⟩ (all_nil)))
theorem rl842 : ruOk fFS gR842 := by
  intro r hp hO hN hH
  obtain ⟨s0, s1, s2, s3, s4, s5, s6, s7, s8, rfl⟩ := len9 (show r.length = 9 from hN.1)
  have hR := hN.2.1.1
  have hIv : ∀ q ∈ ([(0, .negSucc 2147483647, .ofNat 2147483647), (1, .ofNat 2, .ofNat 2), (2, .negSucc 2147483647, .ofNat 2147483647), (3, .ofNat 0, .ofNat 6560), (4, .ofNat 1, .ofNat 1), (5, .negSucc 2147483647, .ofNat 2147483647), (6, .negSucc 2147483647, .ofNat 2147483647), (7, .negSucc 0, .negSucc 0), (8, .ofNat 0, .ofNat 4)] : sIv), ∃ x, ([s0, s1, s2, s3, s4, s5, s6, s7, s8] : List Int)[q.1]? = some x ∧ q.2.1 ≤ x ∧ x ≤ q.2.2 := hN.2.1.2
  have b1 : (2 : Int) ≤ s1 ∧ s1 ≤ (2 : Int) := ivX (q := (1, .ofNat 2, .ofNat 2)) (y := s1) (hIv _ (.tail _ (.head _))) rfl
  have b3 : (0 : Int) ≤ s3 ∧ s3 ≤ (6560 : Int) := ivX (q := (3, .ofNat 0, .ofNat 6560)) (y := s3) (hIv _ (.tail _ (.tail _ (.tail _ (.head _))))) rfl
  have b4 : (1 : Int) ≤ s4 ∧ s4 ≤ (1 : Int) := ivX (q := (4, .ofNat 1, .ofNat 1)) (y := s4) (hIv _ (.tail _ (.tail _ (.tail _ (.tail _ (.head _)))))) rfl
  have b7 : (-1 : Int) ≤ s7 ∧ s7 ≤ (-1 : Int) := ivX (q := (7, .negSucc 0, .negSucc 0)) (y := s7) (hIv _ (.tail _ (.tail _ (.tail _ (.tail _ (.tail _ (.tail _ (.tail _ (.head _))))))))) rfl
  have b8 : (0 : Int) ≤ s8 ∧ s8 ≤ (4 : Int) := ivX (q := (8, .ofNat 0, .ofNat 4)) (y := s8) (hIv _ (.tail _ (.tail _ (.tail _ (.tail _ (.tail _ (.tail _ (.tail _ (.tail _ (.head _)))))))))) rfl
  have hFc : ∀ q ∈ ([(207, [(.ofNat 0, [(.ofNat 1, 0)]), (.ofNat 0, [(.ofNat 1, 1)]), (.ofNat 0, [(.ofNat 1, 2)]), (.ofNat 0, [(.ofNat 1, 3)]), (.ofNat 0, [(.ofNat 1, 4)]), (.ofNat 0, [(.ofNat 1, 5)]), (.ofNat 0, [(.ofNat 1, 6)]), (.ofNat 0, [(.ofNat 1, 7)])]), (211, [(.ofNat 2, []), (.ofNat 0, [(.ofNat 1, 5)]), (.ofNat 0, [(.ofNat 1, 6)]), (.ofNat 0, [(.ofNat 1, 8)])])] : List sFc), fcOk fFS [s0, s1, s2, s3, s4, s5, s6, s7, s8] hp q := hH.2
  have f0 : SHq (MT hp) (nmM hp) s0 s1 s2 s3 s4 s5 s6 s7 := fcX (ys := [s0, s1, s2, s3, s4, s5, s6, s7]) (hFc _ (.head _)) ⟨sE_V rfl, sE_V rfl, sE_V rfl, sE_V rfl, sE_V rfl, sE_V rfl, sE_V rfl, sE_V rfl, trivial⟩
  have f1 : (0 ≤ s8 ∧ nmM hp (2 : Int) (bs (MT hp).1 s5 s6)) ∨ (s8 = -1 ∧ ¬ nmM hp (2 : Int) (bs (MT hp).1 s5 s6)) := fcX (ys := [2, s5, s6, s8]) (hFc _ (.tail _ (.head _))) ⟨sE_k _ _, sE_V rfl, sE_V rfl, sE_V rfl, trivial⟩
  obtain ⟨s9, ev⟩ : ∃ y : Int, y = nr s3 := ⟨_, rfl⟩
  have u := nr_b (t := s3) (by omega)
  rw [← ev] at u
  have ec : s1 = 2 := by omega
  exact poXu (u := [s9]) (.head _) rfl hR (by rw [wMn_eq, wMx_eq]; intro x hx; simp only [List.mem_cons, List.not_mem_nil, or_false] at hx; omega) (all_cons (ivO (y := s9) rfl (show (0 : Int) ≤ s9 by omega) (show s9 ≤ (6560 : Int) by omega)) (all_nil)) (all_nil) (all_cons ⟨[s6, 6, s2, s9], ⟨sE_V rfl, sE_k _ _, sE_V rfl, sE_V rfl, trivial⟩, (show SG (MT hp) (nmM hp) s6 (6 : Int) s2 s9 from sg_u ev (sn_go f0 (by unfold sNc; omega) (by omega) (by omega) (by rw [ec]; exact fds_y f1 (by omega))))⟩ (all_cons ⟨[s3, s9], ⟨sE_V rfl, sE_V rfl, trivial⟩, (show s9 = nr s3 from ev)⟩ (all_nil)))
theorem rl843 : ruOk fFS gR843 := by
  intro r hp hO hN hH
  obtain ⟨s0, s1, s2, s3, s4, s5, s6, s7, s8, rfl⟩ := len9 (show r.length = 9 from hN.1)
  have hR := hN.2.1.1
  have hIv : ∀ q ∈ ([(0, .negSucc 2147483647, .ofNat 2147483647), (1, .ofNat 3, .ofNat 3), (2, .negSucc 2147483647, .ofNat 2147483647), (3, .ofNat 0, .ofNat 6560), (4, .ofNat 1, .ofNat 1), (5, .negSucc 2147483647, .ofNat 2147483647), (6, .negSucc 2147483647, .ofNat 2147483647), (7, .negSucc 0, .negSucc 0), (8, .ofNat 0, .ofNat 4)] : sIv), ∃ x, ([s0, s1, s2, s3, s4, s5, s6, s7, s8] : List Int)[q.1]? = some x ∧ q.2.1 ≤ x ∧ x ≤ q.2.2 := hN.2.1.2
  have b1 : (3 : Int) ≤ s1 ∧ s1 ≤ (3 : Int) := ivX (q := (1, .ofNat 3, .ofNat 3)) (y := s1) (hIv _ (.tail _ (.head _))) rfl
  have b3 : (0 : Int) ≤ s3 ∧ s3 ≤ (6560 : Int) := ivX (q := (3, .ofNat 0, .ofNat 6560)) (y := s3) (hIv _ (.tail _ (.tail _ (.tail _ (.head _))))) rfl
  have b4 : (1 : Int) ≤ s4 ∧ s4 ≤ (1 : Int) := ivX (q := (4, .ofNat 1, .ofNat 1)) (y := s4) (hIv _ (.tail _ (.tail _ (.tail _ (.tail _ (.head _)))))) rfl
  have b7 : (-1 : Int) ≤ s7 ∧ s7 ≤ (-1 : Int) := ivX (q := (7, .negSucc 0, .negSucc 0)) (y := s7) (hIv _ (.tail _ (.tail _ (.tail _ (.tail _ (.tail _ (.tail _ (.tail _ (.head _))))))))) rfl
  have b8 : (0 : Int) ≤ s8 ∧ s8 ≤ (4 : Int) := ivX (q := (8, .ofNat 0, .ofNat 4)) (y := s8) (hIv _ (.tail _ (.tail _ (.tail _ (.tail _ (.tail _ (.tail _ (.tail _ (.tail _ (.head _)))))))))) rfl
  have hFc : ∀ q ∈ ([(207, [(.ofNat 0, [(.ofNat 1, 0)]), (.ofNat 0, [(.ofNat 1, 1)]), (.ofNat 0, [(.ofNat 1, 2)]), (.ofNat 0, [(.ofNat 1, 3)]), (.ofNat 0, [(.ofNat 1, 4)]), (.ofNat 0, [(.ofNat 1, 5)]), (.ofNat 0, [(.ofNat 1, 6)]), (.ofNat 0, [(.ofNat 1, 7)])]), (211, [(.ofNat 3, []), (.ofNat 0, [(.ofNat 1, 5)]), (.ofNat 0, [(.ofNat 1, 6)]), (.ofNat 0, [(.ofNat 1, 8)])])] : List sFc), fcOk fFS [s0, s1, s2, s3, s4, s5, s6, s7, s8] hp q := hH.2
  have f0 : SHq (MT hp) (nmM hp) s0 s1 s2 s3 s4 s5 s6 s7 := fcX (ys := [s0, s1, s2, s3, s4, s5, s6, s7]) (hFc _ (.head _)) ⟨sE_V rfl, sE_V rfl, sE_V rfl, sE_V rfl, sE_V rfl, sE_V rfl, sE_V rfl, sE_V rfl, trivial⟩
  have f1 : (0 ≤ s8 ∧ nmM hp (3 : Int) (bs (MT hp).1 s5 s6)) ∨ (s8 = -1 ∧ ¬ nmM hp (3 : Int) (bs (MT hp).1 s5 s6)) := fcX (ys := [3, s5, s6, s8]) (hFc _ (.tail _ (.head _))) ⟨sE_k _ _, sE_V rfl, sE_V rfl, sE_V rfl, trivial⟩
  obtain ⟨s9, ev⟩ : ∃ y : Int, y = nr s3 := ⟨_, rfl⟩
  have u := nr_b (t := s3) (by omega)
  rw [← ev] at u
  have ec : s1 = 3 := by omega
  exact poXu (u := [s9]) (.head _) rfl hR (by rw [wMn_eq, wMx_eq]; intro x hx; simp only [List.mem_cons, List.not_mem_nil, or_false] at hx; omega) (all_cons (ivO (y := s9) rfl (show (0 : Int) ≤ s9 by omega) (show s9 ≤ (6560 : Int) by omega)) (all_nil)) (all_nil) (all_cons ⟨[s6, 6, s2, s9], ⟨sE_V rfl, sE_k _ _, sE_V rfl, sE_V rfl, trivial⟩, (show SG (MT hp) (nmM hp) s6 (6 : Int) s2 s9 from sg_u ev (sn_go f0 (by unfold sNc; omega) (by omega) (by omega) (by rw [ec]; exact fds_y f1 (by omega))))⟩ (all_cons ⟨[s3, s9], ⟨sE_V rfl, sE_V rfl, trivial⟩, (show s9 = nr s3 from ev)⟩ (all_nil)))
theorem rl845 : ruOk fFS gR845 := by
  intro r hp hO hN hH
  obtain ⟨s0, s1, s2, s3, rfl⟩ := len4 (show r.length = 4 from hN.1)
  have hR := hN.2.1.1
  have hIv : ∀ q ∈ ([(0, .ofNat 0, .ofNat 44), (1, .ofNat 20, .ofNat 20), (2, .ofNat 0, .ofNat 2186), (3, .ofNat 1, .ofNat 8)] : sIv), ∃ x, ([s0, s1, s2, s3] : List Int)[q.1]? = some x ∧ q.2.1 ≤ x ∧ x ≤ q.2.2 := hN.2.1.2
  have b0 : (0 : Int) ≤ s0 ∧ s0 ≤ (44 : Int) := ivX (q := (0, .ofNat 0, .ofNat 44)) (y := s0) (hIv _ (.head _)) rfl
  have b1 : (20 : Int) ≤ s1 ∧ s1 ≤ (20 : Int) := ivX (q := (1, .ofNat 20, .ofNat 20)) (y := s1) (hIv _ (.tail _ (.head _))) rfl
  have b2 : (0 : Int) ≤ s2 ∧ s2 ≤ (2186 : Int) := ivX (q := (2, .ofNat 0, .ofNat 2186)) (y := s2) (hIv _ (.tail _ (.tail _ (.head _)))) rfl
  have b3 : (1 : Int) ≤ s3 ∧ s3 ≤ (8 : Int) := ivX (q := (3, .ofNat 1, .ofNat 8)) (y := s3) (hIv _ (.tail _ (.tail _ (.tail _ (.head _))))) rfl
  have hRf : ∀ q ∈ ([((78, .ofNat 273, []), (.ofNat 50, []), 1, .ofNat 0, [(.ofNat 1, 0)]), ((92, .ofNat 287, []), (.ofNat 0, [(.ofNat 1, 0)]), 1, .ofNat 0, [(.ofNat 1, 1)])] : List sRf), rfOk [s0, s1, s2, s3] hp q := hH.1
  have h0 : hI hp 273 50 = s0 := rfI0 (hRf _ (.head _)) (sE_k _ _) (sE_k _ _) (sE_V rfl)
  have y0 : (0 : Int) ≤ s0 ∧ s0 ≤ (45 : Int) := by rw [← h0]; exact hI_ty hO (by decide) rfl
  obtain ⟨i1, e1, l1, h1⟩ := rfI (xv := s1) (iv := s0) (hRf _ (.tail _ (.head _))) (sE_k _ _) (sE_V rfl) (sE_V rfl)
  have l1 : i1 < 45 := l1
  have h1 : hI hp 287 i1 = s1 := h1
  have hFc : ∀ q ∈ ([(212, [(.ofNat 0, [(.ofNat 1, 0)]), (.ofNat 0, [(.ofNat 1, 2)])]), (199, [(.ofNat 0, [(.ofNat 1, 2)]), (.ofNat 0, [(.ofNat 1, 3)])])] : List sFc), fcOk fFS [s0, s1, s2, s3] hp q := hH.2
  have f0 : ∃ n : Nat, s0 = (n : Int) ∧ n ≤ 45 ∧ sFo (fun j => hI hp 287 j) n s2 := fcX (ys := [s0, s2]) (hFc _ (.head _)) ⟨sE_V rfl, sE_V rfl, trivial⟩
  have f1 : s3 = dp s2 + 1 := fcX (ys := [s2, s3]) (hFc _ (.tail _ (.head _))) ⟨sE_V rfl, sE_V rfl, trivial⟩
  exact poX (.head _) rfl hR (all_nil) (all_nil) (all_cons ⟨[(s0 + 1), (3 * s2 + 1)], ⟨sEv (y' := ((1 : Int) + ((1 : Int) * s0 + 0))) rfl (by omega), sEv (y' := ((1 : Int) + ((3 : Int) * s2 + 0))) rfl (by omega), trivial⟩, (show ∃ n : Nat, (s0 + 1) = (n : Int) ∧ n ≤ 45 ∧ sFo (fun j => hI hp 287 j) n (3 * s2 + 1) from stm_psh f0 h1 (by omega) (by omega) (by omega) rfl)⟩ (all_cons ⟨[(3 * s2 + 1), (s3 + 1)], ⟨sEv (y' := ((1 : Int) + ((3 : Int) * s2 + 0))) rfl (by omega), sEv (y' := ((1 : Int) + ((1 : Int) * s3 + 0))) rfl (by omega), trivial⟩, (show (s3 + 1) = dp (3 * s2 + 1) + 1 from dp_31 (by omega) (by omega) f1 rfl rfl)⟩ (all_nil)))
theorem rl846 : ruOk fFS gR846 := by
  intro r hp hO hN hH
  obtain ⟨s0, s1, s2, s3, s4, s5, s6, s7, rfl⟩ := len8 (show r.length = 8 from hN.1)
  have hR := hN.2.1.1
  have hIv : ∀ q ∈ ([(0, .negSucc 2147483647, .ofNat 2147483647), (1, .ofNat 0, .ofNat 0), (2, .negSucc 2147483647, .ofNat 2147483647), (3, .negSucc 2147483647, .ofNat 2147483647), (4, .ofNat 4, .ofNat 4), (5, .negSucc 2147483647, .ofNat 2147483647), (6, .negSucc 2147483647, .ofNat 2147483647), (7, .negSucc 2147483647, .ofNat 2147483647)] : sIv), ∃ x, ([s0, s1, s2, s3, s4, s5, s6, s7] : List Int)[q.1]? = some x ∧ q.2.1 ≤ x ∧ x ≤ q.2.2 := hN.2.1.2
  have b1 : (0 : Int) ≤ s1 ∧ s1 ≤ (0 : Int) := ivX (q := (1, .ofNat 0, .ofNat 0)) (y := s1) (hIv _ (.tail _ (.head _))) rfl
  have b4 : (4 : Int) ≤ s4 ∧ s4 ≤ (4 : Int) := ivX (q := (4, .ofNat 4, .ofNat 4)) (y := s4) (hIv _ (.tail _ (.tail _ (.tail _ (.tail _ (.head _)))))) rfl
  have hFc : ∀ q ∈ ([(207, [(.ofNat 0, [(.ofNat 1, 0)]), (.ofNat 0, [(.ofNat 1, 1)]), (.ofNat 0, [(.ofNat 1, 2)]), (.ofNat 0, [(.ofNat 1, 3)]), (.ofNat 0, [(.ofNat 1, 4)]), (.ofNat 0, [(.ofNat 1, 5)]), (.ofNat 0, [(.ofNat 1, 6)]), (.ofNat 0, [(.ofNat 1, 7)])])] : List sFc), fcOk fFS [s0, s1, s2, s3, s4, s5, s6, s7] hp q := hH.2
  have f0 : SHq (MT hp) (nmM hp) s0 s1 s2 s3 s4 s5 s6 s7 := fcX (ys := [s0, s1, s2, s3, s4, s5, s6, s7]) (hFc _ (.head _)) ⟨sE_V rfl, sE_V rfl, sE_V rfl, sE_V rfl, sE_V rfl, sE_V rfl, sE_V rfl, sE_V rfl, trivial⟩
  exact poX (.head _) rfl hR (all_nil) (all_nil) (all_cons ⟨[1, s5], ⟨sE_k _ _, sE_V rfl, trivial⟩, (show SRS (MT hp) (nmM hp) (1 : Int) s5 from s0_f1 f0 (by omega) (by omega) (by omega))⟩ (all_nil))
theorem rl847 : ruOk fFS gR847 := by
  intro r hp hO hN hH
  obtain ⟨s0, s1, s2, s3, s4, s5, s6, s7, rfl⟩ := len8 (show r.length = 8 from hN.1)
  have hR := hN.2.1.1
  have hIv : ∀ q ∈ ([(0, .negSucc 2147483647, .ofNat 2147483647), (1, .ofNat 0, .ofNat 0), (2, .negSucc 2147483647, .ofNat 2147483647), (3, .negSucc 2147483647, .ofNat 2147483647), (4, .ofNat 3, .ofNat 3), (5, .negSucc 2147483647, .ofNat 2147483647), (6, .negSucc 2147483647, .ofNat 2147483647), (7, .negSucc 2147483647, .ofNat 39)] : sIv), ∃ x, ([s0, s1, s2, s3, s4, s5, s6, s7] : List Int)[q.1]? = some x ∧ q.2.1 ≤ x ∧ x ≤ q.2.2 := hN.2.1.2
  have b1 : (0 : Int) ≤ s1 ∧ s1 ≤ (0 : Int) := ivX (q := (1, .ofNat 0, .ofNat 0)) (y := s1) (hIv _ (.tail _ (.head _))) rfl
  have b4 : (3 : Int) ≤ s4 ∧ s4 ≤ (3 : Int) := ivX (q := (4, .ofNat 3, .ofNat 3)) (y := s4) (hIv _ (.tail _ (.tail _ (.tail _ (.tail _ (.head _)))))) rfl
  have b7 : (-2147483648 : Int) ≤ s7 ∧ s7 ≤ (39 : Int) := ivX (q := (7, .negSucc 2147483647, .ofNat 39)) (y := s7) (hIv _ (.tail _ (.tail _ (.tail _ (.tail _ (.tail _ (.tail _ (.tail _ (.head _))))))))) rfl
  have hFc : ∀ q ∈ ([(207, [(.ofNat 0, [(.ofNat 1, 0)]), (.ofNat 0, [(.ofNat 1, 1)]), (.ofNat 0, [(.ofNat 1, 2)]), (.ofNat 0, [(.ofNat 1, 3)]), (.ofNat 0, [(.ofNat 1, 4)]), (.ofNat 0, [(.ofNat 1, 5)]), (.ofNat 0, [(.ofNat 1, 6)]), (.ofNat 0, [(.ofNat 1, 7)])])] : List sFc), fcOk fFS [s0, s1, s2, s3, s4, s5, s6, s7] hp q := hH.2
  have f0 : SHq (MT hp) (nmM hp) s0 s1 s2 s3 s4 s5 s6 s7 := fcX (ys := [s0, s1, s2, s3, s4, s5, s6, s7]) (hFc _ (.head _)) ⟨sE_V rfl, sE_V rfl, sE_V rfl, sE_V rfl, sE_V rfl, sE_V rfl, sE_V rfl, sE_V rfl, trivial⟩
  exact poX (.head _) rfl hR (all_nil) (all_nil) (all_cons ⟨[1, s5], ⟨sE_k _ _, sE_V rfl, trivial⟩, (show SRS (MT hp) (nmM hp) (1 : Int) s5 from s0_f1 f0 (by omega) (by omega) (by omega))⟩ (all_nil))
theorem rl848 : ruOk fFS gR848 := by
  intro r hp hO hN hH
  obtain ⟨s0, s1, s2, s3, s4, s5, s6, s7, rfl⟩ := len8 (show r.length = 8 from hN.1)
  have hR := hN.2.1.1
  have hIv : ∀ q ∈ ([(0, .negSucc 2147483647, .ofNat 2147483647), (1, .ofNat 0, .ofNat 0), (2, .negSucc 2147483647, .ofNat 2147483647), (3, .negSucc 2147483647, .ofNat 2147483647), (4, .ofNat 3, .ofNat 3), (5, .negSucc 2147483647, .ofNat 2147483647), (6, .negSucc 2147483647, .ofNat 2147483647), (7, .ofNat 41, .ofNat 2147483647)] : sIv), ∃ x, ([s0, s1, s2, s3, s4, s5, s6, s7] : List Int)[q.1]? = some x ∧ q.2.1 ≤ x ∧ x ≤ q.2.2 := hN.2.1.2
  have b1 : (0 : Int) ≤ s1 ∧ s1 ≤ (0 : Int) := ivX (q := (1, .ofNat 0, .ofNat 0)) (y := s1) (hIv _ (.tail _ (.head _))) rfl
  have b4 : (3 : Int) ≤ s4 ∧ s4 ≤ (3 : Int) := ivX (q := (4, .ofNat 3, .ofNat 3)) (y := s4) (hIv _ (.tail _ (.tail _ (.tail _ (.tail _ (.head _)))))) rfl
  have b7 : (41 : Int) ≤ s7 ∧ s7 ≤ (2147483647 : Int) := ivX (q := (7, .ofNat 41, .ofNat 2147483647)) (y := s7) (hIv _ (.tail _ (.tail _ (.tail _ (.tail _ (.tail _ (.tail _ (.tail _ (.head _))))))))) rfl
  have hFc : ∀ q ∈ ([(207, [(.ofNat 0, [(.ofNat 1, 0)]), (.ofNat 0, [(.ofNat 1, 1)]), (.ofNat 0, [(.ofNat 1, 2)]), (.ofNat 0, [(.ofNat 1, 3)]), (.ofNat 0, [(.ofNat 1, 4)]), (.ofNat 0, [(.ofNat 1, 5)]), (.ofNat 0, [(.ofNat 1, 6)]), (.ofNat 0, [(.ofNat 1, 7)])])] : List sFc), fcOk fFS [s0, s1, s2, s3, s4, s5, s6, s7] hp q := hH.2
  have f0 : SHq (MT hp) (nmM hp) s0 s1 s2 s3 s4 s5 s6 s7 := fcX (ys := [s0, s1, s2, s3, s4, s5, s6, s7]) (hFc _ (.head _)) ⟨sE_V rfl, sE_V rfl, sE_V rfl, sE_V rfl, sE_V rfl, sE_V rfl, sE_V rfl, sE_V rfl, trivial⟩
  exact poX (.head _) rfl hR (all_nil) (all_nil) (all_cons ⟨[1, s5], ⟨sE_k _ _, sE_V rfl, trivial⟩, (show SRS (MT hp) (nmM hp) (1 : Int) s5 from s0_f1 f0 (by omega) (by omega) (by omega))⟩ (all_nil))
theorem rl849 : ruOk fFS gR849 := by
  intro r hp hO hN hH
  obtain ⟨s0, s1, s2, s3, s4, s5, s6, s7, rfl⟩ := len8 (show r.length = 8 from hN.1)
  have hR := hN.2.1.1
  have hIv : ∀ q ∈ ([(0, .negSucc 2147483647, .ofNat 2147483647), (1, .ofNat 0, .ofNat 0), (2, .negSucc 2147483647, .ofNat 2147483647), (3, .negSucc 2147483647, .ofNat 2147483647), (4, .ofNat 1, .ofNat 1), (5, .negSucc 2147483647, .ofNat 2147483647), (6, .negSucc 2147483647, .ofNat 2147483647), (7, .negSucc 0, .ofNat 12)] : sIv), ∃ x, ([s0, s1, s2, s3, s4, s5, s6, s7] : List Int)[q.1]? = some x ∧ q.2.1 ≤ x ∧ x ≤ q.2.2 := hN.2.1.2
  have b1 : (0 : Int) ≤ s1 ∧ s1 ≤ (0 : Int) := ivX (q := (1, .ofNat 0, .ofNat 0)) (y := s1) (hIv _ (.tail _ (.head _))) rfl
  have b4 : (1 : Int) ≤ s4 ∧ s4 ≤ (1 : Int) := ivX (q := (4, .ofNat 1, .ofNat 1)) (y := s4) (hIv _ (.tail _ (.tail _ (.tail _ (.tail _ (.head _)))))) rfl
  have b7 : (-1 : Int) ≤ s7 ∧ s7 ≤ (12 : Int) := ivX (q := (7, .negSucc 0, .ofNat 12)) (y := s7) (hIv _ (.tail _ (.tail _ (.tail _ (.tail _ (.tail _ (.tail _ (.tail _ (.head _))))))))) rfl
  have hFc : ∀ q ∈ ([(207, [(.ofNat 0, [(.ofNat 1, 0)]), (.ofNat 0, [(.ofNat 1, 1)]), (.ofNat 0, [(.ofNat 1, 2)]), (.ofNat 0, [(.ofNat 1, 3)]), (.ofNat 0, [(.ofNat 1, 4)]), (.ofNat 0, [(.ofNat 1, 5)]), (.ofNat 0, [(.ofNat 1, 6)]), (.ofNat 0, [(.ofNat 1, 7)])])] : List sFc), fcOk fFS [s0, s1, s2, s3, s4, s5, s6, s7] hp q := hH.2
  have f0 : SHq (MT hp) (nmM hp) s0 s1 s2 s3 s4 s5 s6 s7 := fcX (ys := [s0, s1, s2, s3, s4, s5, s6, s7]) (hFc _ (.head _)) ⟨sE_V rfl, sE_V rfl, sE_V rfl, sE_V rfl, sE_V rfl, sE_V rfl, sE_V rfl, sE_V rfl, trivial⟩
  exact poX (.head _) rfl hR (all_nil) (all_nil) (all_cons ⟨[1, s5], ⟨sE_k _ _, sE_V rfl, trivial⟩, (show SRS (MT hp) (nmM hp) (1 : Int) s5 from s0_f1 f0 (by omega) (by omega) (by omega))⟩ (all_nil))
theorem rl850 : ruOk fFS gR850 := by
  intro r hp hO hN hH
  obtain ⟨s0, s1, s2, s3, s4, s5, s6, s7, rfl⟩ := len8 (show r.length = 8 from hN.1)
  have hR := hN.2.1.1
  have hIv : ∀ q ∈ ([(0, .negSucc 2147483647, .ofNat 2147483647), (1, .ofNat 0, .ofNat 0), (2, .negSucc 2147483647, .ofNat 2147483647), (3, .negSucc 2147483647, .ofNat 2147483647), (4, .ofNat 1, .ofNat 1), (5, .negSucc 2147483647, .ofNat 2147483647), (6, .negSucc 2147483647, .ofNat 2147483647), (7, .ofNat 14, .ofNat 20)] : sIv), ∃ x, ([s0, s1, s2, s3, s4, s5, s6, s7] : List Int)[q.1]? = some x ∧ q.2.1 ≤ x ∧ x ≤ q.2.2 := hN.2.1.2
  have b1 : (0 : Int) ≤ s1 ∧ s1 ≤ (0 : Int) := ivX (q := (1, .ofNat 0, .ofNat 0)) (y := s1) (hIv _ (.tail _ (.head _))) rfl
  have b4 : (1 : Int) ≤ s4 ∧ s4 ≤ (1 : Int) := ivX (q := (4, .ofNat 1, .ofNat 1)) (y := s4) (hIv _ (.tail _ (.tail _ (.tail _ (.tail _ (.head _)))))) rfl
  have b7 : (14 : Int) ≤ s7 ∧ s7 ≤ (20 : Int) := ivX (q := (7, .ofNat 14, .ofNat 20)) (y := s7) (hIv _ (.tail _ (.tail _ (.tail _ (.tail _ (.tail _ (.tail _ (.tail _ (.head _))))))))) rfl
  have hFc : ∀ q ∈ ([(207, [(.ofNat 0, [(.ofNat 1, 0)]), (.ofNat 0, [(.ofNat 1, 1)]), (.ofNat 0, [(.ofNat 1, 2)]), (.ofNat 0, [(.ofNat 1, 3)]), (.ofNat 0, [(.ofNat 1, 4)]), (.ofNat 0, [(.ofNat 1, 5)]), (.ofNat 0, [(.ofNat 1, 6)]), (.ofNat 0, [(.ofNat 1, 7)])])] : List sFc), fcOk fFS [s0, s1, s2, s3, s4, s5, s6, s7] hp q := hH.2
  have f0 : SHq (MT hp) (nmM hp) s0 s1 s2 s3 s4 s5 s6 s7 := fcX (ys := [s0, s1, s2, s3, s4, s5, s6, s7]) (hFc _ (.head _)) ⟨sE_V rfl, sE_V rfl, sE_V rfl, sE_V rfl, sE_V rfl, sE_V rfl, sE_V rfl, sE_V rfl, trivial⟩
  exact poX (.head _) rfl hR (all_nil) (all_nil) (all_cons ⟨[1, s5], ⟨sE_k _ _, sE_V rfl, trivial⟩, (show SRS (MT hp) (nmM hp) (1 : Int) s5 from s0_f1 f0 (by omega) (by omega) (by omega))⟩ (all_nil))
theorem rl852 : ruOk fFS gR852 := by
  intro r hp hO hN hH
  obtain ⟨s0, s1, s2, s3, rfl⟩ := len4 (show r.length = 4 from hN.1)
  have hR := hN.2.1.1
  have hIv : ∀ q ∈ ([(0, .ofNat 0, .ofNat 44), (1, .ofNat 23, .ofNat 23), (2, .ofNat 0, .ofNat 2186), (3, .ofNat 1, .ofNat 8)] : sIv), ∃ x, ([s0, s1, s2, s3] : List Int)[q.1]? = some x ∧ q.2.1 ≤ x ∧ x ≤ q.2.2 := hN.2.1.2
  have b0 : (0 : Int) ≤ s0 ∧ s0 ≤ (44 : Int) := ivX (q := (0, .ofNat 0, .ofNat 44)) (y := s0) (hIv _ (.head _)) rfl
  have b1 : (23 : Int) ≤ s1 ∧ s1 ≤ (23 : Int) := ivX (q := (1, .ofNat 23, .ofNat 23)) (y := s1) (hIv _ (.tail _ (.head _))) rfl
  have b2 : (0 : Int) ≤ s2 ∧ s2 ≤ (2186 : Int) := ivX (q := (2, .ofNat 0, .ofNat 2186)) (y := s2) (hIv _ (.tail _ (.tail _ (.head _)))) rfl
  have b3 : (1 : Int) ≤ s3 ∧ s3 ≤ (8 : Int) := ivX (q := (3, .ofNat 1, .ofNat 8)) (y := s3) (hIv _ (.tail _ (.tail _ (.tail _ (.head _))))) rfl
  have hRf : ∀ q ∈ ([((78, .ofNat 273, []), (.ofNat 50, []), 1, .ofNat 0, [(.ofNat 1, 0)]), ((92, .ofNat 287, []), (.ofNat 0, [(.ofNat 1, 0)]), 1, .ofNat 0, [(.ofNat 1, 1)])] : List sRf), rfOk [s0, s1, s2, s3] hp q := hH.1
  have h0 : hI hp 273 50 = s0 := rfI0 (hRf _ (.head _)) (sE_k _ _) (sE_k _ _) (sE_V rfl)
  have y0 : (0 : Int) ≤ s0 ∧ s0 ≤ (45 : Int) := by rw [← h0]; exact hI_ty hO (by decide) rfl
  obtain ⟨i1, e1, l1, h1⟩ := rfI (xv := s1) (iv := s0) (hRf _ (.tail _ (.head _))) (sE_k _ _) (sE_V rfl) (sE_V rfl)
  have l1 : i1 < 45 := l1
  have h1 : hI hp 287 i1 = s1 := h1
  have hFc : ∀ q ∈ ([(212, [(.ofNat 0, [(.ofNat 1, 0)]), (.ofNat 0, [(.ofNat 1, 2)])]), (199, [(.ofNat 0, [(.ofNat 1, 2)]), (.ofNat 0, [(.ofNat 1, 3)])])] : List sFc), fcOk fFS [s0, s1, s2, s3] hp q := hH.2
  have f0 : ∃ n : Nat, s0 = (n : Int) ∧ n ≤ 45 ∧ sFo (fun j => hI hp 287 j) n s2 := fcX (ys := [s0, s2]) (hFc _ (.head _)) ⟨sE_V rfl, sE_V rfl, trivial⟩
  have f1 : s3 = dp s2 + 1 := fcX (ys := [s2, s3]) (hFc _ (.tail _ (.head _))) ⟨sE_V rfl, sE_V rfl, trivial⟩
  exact poX (.head _) rfl hR (all_nil) (all_nil) (all_cons ⟨[(s0 + 1), (3 * s2 + 2)], ⟨sEv (y' := ((1 : Int) + ((1 : Int) * s0 + 0))) rfl (by omega), sEv (y' := ((2 : Int) + ((3 : Int) * s2 + 0))) rfl (by omega), trivial⟩, (show ∃ n : Nat, (s0 + 1) = (n : Int) ∧ n ≤ 45 ∧ sFo (fun j => hI hp 287 j) n (3 * s2 + 2) from stm_psh f0 h1 (by omega) (by omega) (by omega) rfl)⟩ (all_cons ⟨[(3 * s2 + 2), (s3 + 1)], ⟨sEv (y' := ((2 : Int) + ((3 : Int) * s2 + 0))) rfl (by omega), sEv (y' := ((1 : Int) + ((1 : Int) * s3 + 0))) rfl (by omega), trivial⟩, (show (s3 + 1) = dp (3 * s2 + 2) + 1 from dp_32 (by omega) (by omega) f1 rfl rfl)⟩ (all_nil)))
theorem rl853 : ruOk fFS gR853 := by
  intro r hp hO hN hH
  obtain ⟨s0, s1, s2, s3, s4, s5, s6, s7, rfl⟩ := len8 (show r.length = 8 from hN.1)
  have hR := hN.2.1.1
  have hIv : ∀ q ∈ ([(0, .negSucc 2147483647, .ofNat 2147483647), (1, .negSucc 2147483647, .ofNat 2147483647), (2, .negSucc 2147483647, .ofNat 2147483647), (3, .negSucc 2147483647, .ofNat 2147483647), (4, .ofNat 1, .ofNat 1), (5, .negSucc 2147483647, .ofNat 2147483647), (6, .negSucc 2147483647, .ofNat 2147483647), (7, .negSucc 0, .ofNat 29)] : sIv), ∃ x, ([s0, s1, s2, s3, s4, s5, s6, s7] : List Int)[q.1]? = some x ∧ q.2.1 ≤ x ∧ x ≤ q.2.2 := hN.2.1.2
  have b4 : (1 : Int) ≤ s4 ∧ s4 ≤ (1 : Int) := ivX (q := (4, .ofNat 1, .ofNat 1)) (y := s4) (hIv _ (.tail _ (.tail _ (.tail _ (.tail _ (.head _)))))) rfl
  have b7 : (-1 : Int) ≤ s7 ∧ s7 ≤ (29 : Int) := ivX (q := (7, .negSucc 0, .ofNat 29)) (y := s7) (hIv _ (.tail _ (.tail _ (.tail _ (.tail _ (.tail _ (.tail _ (.tail _ (.head _))))))))) rfl
  have hFc : ∀ q ∈ ([(207, [(.ofNat 0, [(.ofNat 1, 0)]), (.ofNat 0, [(.ofNat 1, 1)]), (.ofNat 0, [(.ofNat 1, 2)]), (.ofNat 0, [(.ofNat 1, 3)]), (.ofNat 0, [(.ofNat 1, 4)]), (.ofNat 0, [(.ofNat 1, 5)]), (.ofNat 0, [(.ofNat 1, 6)]), (.ofNat 0, [(.ofNat 1, 7)])])] : List sFc), fcOk fFS [s0, s1, s2, s3, s4, s5, s6, s7] hp q := hH.2
  have f0 : SHq (MT hp) (nmM hp) s0 s1 s2 s3 s4 s5 s6 s7 := fcX (ys := [s0, s1, s2, s3, s4, s5, s6, s7]) (hFc _ (.head _)) ⟨sE_V rfl, sE_V rfl, sE_V rfl, sE_V rfl, sE_V rfl, sE_V rfl, sE_V rfl, sE_V rfl, trivial⟩
  have u := sh_bd (MT_ok hO) f0
  have u3 := sh_k1 (MT_ok hO) f0 (by omega)
  have y : (((-1 : Int) ≤ s7 ∧ s7 ≤ (18 : Int))) ∨ (((19 : Int) ≤ s7 ∧ s7 ≤ (19 : Int))) ∨ (((20 : Int) ≤ s7 ∧ s7 ≤ (20 : Int))) ∨ (((21 : Int) ≤ s7 ∧ s7 ≤ (29 : Int))) := by omega
  rcases y with y | y | y | y
  · exact poX (.head _) rfl hR (all_cons (ivO (y := s7) rfl (show (-1 : Int) ≤ s7 by omega) (show s7 ≤ (18 : Int) by omega)) (all_nil)) (all_nil) (all_nil)
  · exact poX (.tail _ (.head _)) rfl hR (all_cons (ivO (y := s7) rfl (show (19 : Int) ≤ s7 by omega) (show s7 ≤ (19 : Int) by omega)) (all_nil)) (all_nil) (all_nil)
  · exact poX (.tail _ (.tail _ (.head _))) rfl hR (all_cons (ivO (y := s7) rfl (show (20 : Int) ≤ s7 by omega) (show s7 ≤ (20 : Int) by omega)) (all_nil)) (all_nil) (all_nil)
  · exact poX (.tail _ (.tail _ (.tail _ (.head _)))) rfl hR (all_cons (ivO (y := s7) rfl (show (21 : Int) ≤ s7 by omega) (show s7 ≤ (29 : Int) by omega)) (all_nil)) (all_nil) (all_nil)
theorem rl854 : ruOk fFS gR854 := by
  intro r hp hO hN hH
  obtain ⟨s0, s1, s2, s3, s4, s5, s6, s7, rfl⟩ := len8 (show r.length = 8 from hN.1)
  have hR := hN.2.1.1
  have hIv : ∀ q ∈ ([(0, .negSucc 2147483647, .ofNat 2147483647), (1, .negSucc 2147483647, .ofNat 2147483647), (2, .negSucc 2147483647, .ofNat 2147483647), (3, .negSucc 2147483647, .ofNat 2147483647), (4, .ofNat 3, .ofNat 3), (5, .negSucc 2147483647, .ofNat 2147483647), (6, .negSucc 2147483647, .ofNat 2147483647), (7, .negSucc 2147483647, .ofNat 2147483647)] : sIv), ∃ x, ([s0, s1, s2, s3, s4, s5, s6, s7] : List Int)[q.1]? = some x ∧ q.2.1 ≤ x ∧ x ≤ q.2.2 := hN.2.1.2
  have b4 : (3 : Int) ≤ s4 ∧ s4 ≤ (3 : Int) := ivX (q := (4, .ofNat 3, .ofNat 3)) (y := s4) (hIv _ (.tail _ (.tail _ (.tail _ (.tail _ (.head _)))))) rfl
  have b7 : (-2147483648 : Int) ≤ s7 ∧ s7 ≤ (2147483647 : Int) := ivX (q := (7, .negSucc 2147483647, .ofNat 2147483647)) (y := s7) (hIv _ (.tail _ (.tail _ (.tail _ (.tail _ (.tail _ (.tail _ (.tail _ (.head _))))))))) rfl
  have hFc : ∀ q ∈ ([(207, [(.ofNat 0, [(.ofNat 1, 0)]), (.ofNat 0, [(.ofNat 1, 1)]), (.ofNat 0, [(.ofNat 1, 2)]), (.ofNat 0, [(.ofNat 1, 3)]), (.ofNat 0, [(.ofNat 1, 4)]), (.ofNat 0, [(.ofNat 1, 5)]), (.ofNat 0, [(.ofNat 1, 6)]), (.ofNat 0, [(.ofNat 1, 7)])])] : List sFc), fcOk fFS [s0, s1, s2, s3, s4, s5, s6, s7] hp q := hH.2
  have f0 : SHq (MT hp) (nmM hp) s0 s1 s2 s3 s4 s5 s6 s7 := fcX (ys := [s0, s1, s2, s3, s4, s5, s6, s7]) (hFc _ (.head _)) ⟨sE_V rfl, sE_V rfl, sE_V rfl, sE_V rfl, sE_V rfl, sE_V rfl, sE_V rfl, sE_V rfl, trivial⟩
  have u := sh_bd (MT_ok hO) f0
  have y : (((-2147483648 : Int) ≤ s7 ∧ s7 ≤ (40 : Int))) ∨ (((41 : Int) ≤ s7 ∧ s7 ≤ (41 : Int))) ∨ (((42 : Int) ≤ s7 ∧ s7 ≤ (2147483647 : Int))) := by omega
  rcases y with y | y | y
  · exact poX (.head _) rfl hR (all_cons (ivO (y := s7) rfl (show (-2147483648 : Int) ≤ s7 by omega) (show s7 ≤ (40 : Int) by omega)) (all_nil)) (all_nil) (all_nil)
  · exact poX (.tail _ (.head _)) rfl hR (all_cons (ivO (y := s7) rfl (show (41 : Int) ≤ s7 by omega) (show s7 ≤ (41 : Int) by omega)) (all_nil)) (all_nil) (all_nil)
  · exact poX (.tail _ (.tail _ (.head _))) rfl hR (all_cons (ivO (y := s7) rfl (show (42 : Int) ≤ s7 by omega) (show s7 ≤ (2147483647 : Int) by omega)) (all_nil)) (all_nil) (all_nil)
theorem rl855 : ruOk fFS gR855 := by
  intro r hp hO hN hH
  obtain ⟨s0, s1, s2, rfl⟩ := len3 (show r.length = 3 from hN.1)
  have hR := hN.2.1.1
  have hIv : ∀ q ∈ ([(0, .negSucc 2147483647, .ofNat 2147483647), (1, .ofNat 0, .ofNat 6560), (2, .negSucc 2147483647, .ofNat 2147483647)] : sIv), ∃ x, ([s0, s1, s2] : List Int)[q.1]? = some x ∧ q.2.1 ≤ x ∧ x ≤ q.2.2 := hN.2.1.2
  have b1 : (0 : Int) ≤ s1 ∧ s1 ≤ (6560 : Int) := ivX (q := (1, .ofNat 0, .ofNat 6560)) (y := s1) (hIv _ (.tail _ (.head _))) rfl
  have b2 : (-2147483648 : Int) ≤ s2 ∧ s2 ≤ (2147483647 : Int) := ivX (q := (2, .negSucc 2147483647, .ofNat 2147483647)) (y := s2) (hIv _ (.tail _ (.tail _ (.head _)))) rfl
  have hFc : ∀ q ∈ ([(212, [(.ofNat 0, [(.ofNat 1, 0)]), (.ofNat 0, [(.ofNat 1, 1)])]), (199, [(.ofNat 0, [(.ofNat 1, 1)]), (.ofNat 0, [(.ofNat 1, 2)])])] : List sFc), fcOk fFS [s0, s1, s2] hp q := hH.2
  have f0 : ∃ n : Nat, s0 = (n : Int) ∧ n ≤ 45 ∧ sFo (fun j => hI hp 287 j) n s1 := fcX (ys := [s0, s1]) (hFc _ (.head _)) ⟨sE_V rfl, sE_V rfl, trivial⟩
  have f1 : s2 = dp s1 + 1 := fcX (ys := [s1, s2]) (hFc _ (.tail _ (.head _))) ⟨sE_V rfl, sE_V rfl, trivial⟩
  have u := dp_8 (t := s1) (by omega)
  have u2 := dp_nn s1
  exact poX (.head _) rfl hR (all_cons (ivO (y := s2) rfl (show (1 : Int) ≤ s2 by omega) (show s2 ≤ (9 : Int) by omega)) (all_nil)) (all_nil) (all_nil)
theorem rl856 : ruOk fFS gR856 := by
  intro r hp hO hN hH
  obtain ⟨s0, s1, rfl⟩ := len2 (show r.length = 2 from hN.1)
  have hR := hN.2.1.1
  have hIv : ∀ q ∈ ([(0, .ofNat 1, .ofNat 45), (1, .negSucc 2147483647, .ofNat 2147483647)] : sIv), ∃ x, ([s0, s1] : List Int)[q.1]? = some x ∧ q.2.1 ≤ x ∧ x ≤ q.2.2 := hN.2.1.2
  have b0 : (1 : Int) ≤ s0 ∧ s0 ≤ (45 : Int) := ivX (q := (0, .ofNat 1, .ofNat 45)) (y := s0) (hIv _ (.head _)) rfl
  have b1 : (-2147483648 : Int) ≤ s1 ∧ s1 ≤ (2147483647 : Int) := ivX (q := (1, .negSucc 2147483647, .ofNat 2147483647)) (y := s1) (hIv _ (.tail _ (.head _))) rfl
  have hRf : ∀ q ∈ ([((78, .ofNat 273, []), (.ofNat 50, []), 1, .ofNat 0, [(.ofNat 1, 0)]), ((92, .ofNat 287, []), (.negSucc 0, [(.ofNat 1, 0)]), 1, .ofNat 0, [(.ofNat 1, 1)])] : List sRf), rfOk [s0, s1] hp q := hH.1
  have h0 : hI hp 273 50 = s0 := rfI0 (hRf _ (.head _)) (sE_k _ _) (sE_k _ _) (sE_V rfl)
  have y0 : (0 : Int) ≤ s0 ∧ s0 ≤ (45 : Int) := by rw [← h0]; exact hI_ty hO (by decide) rfl
  obtain ⟨i1, e1, l1, h1⟩ := rfI (xv := s1) (iv := (s0 - 1)) (hRf _ (.tail _ (.head _))) (sE_k _ _) (sEv (y' := ((-1 : Int) + ((1 : Int) * s0 + 0))) rfl (by omega)) (sE_V rfl)
  have l1 : i1 < 45 := l1
  have h1 : hI hp 287 i1 = s1 := h1
  have y : (((-2147483648 : Int) ≤ s1 ∧ s1 ≤ (19 : Int))) ∨ (((20 : Int) ≤ s1 ∧ s1 ≤ (20 : Int))) ∨ (((21 : Int) ≤ s1 ∧ s1 ≤ (2147483647 : Int))) := by omega
  rcases y with y | y | y
  · exact poX (.head _) rfl hR (all_cons (ivO (y := s1) rfl (show (-2147483648 : Int) ≤ s1 by omega) (show s1 ≤ (19 : Int) by omega)) (all_nil)) (all_nil) (all_nil)
  · exact poX (.tail _ (.head _)) rfl hR (all_cons (ivO (y := s1) rfl (show (20 : Int) ≤ s1 by omega) (show s1 ≤ (20 : Int) by omega)) (all_nil)) (all_nil) (all_nil)
  · exact poX (.tail _ (.tail _ (.head _))) rfl hR (all_cons (ivO (y := s1) rfl (show (21 : Int) ≤ s1 by omega) (show s1 ≤ (2147483647 : Int) by omega)) (all_nil)) (all_nil) (all_nil)
theorem rl857 : ruOk fFS gR857 := by
  intro r hp hO hN hH
  obtain ⟨s0, s1, s2, rfl⟩ := len3 (show r.length = 3 from hN.1)
  have hR := hN.2.1.1
  have hIv : ∀ q ∈ ([(0, .ofNat 0, .ofNat 0), (1, .negSucc 2147483647, .ofNat 2147483647), (2, .negSucc 2147483647, .ofNat 2147483647)] : sIv), ∃ x, ([s0, s1, s2] : List Int)[q.1]? = some x ∧ q.2.1 ≤ x ∧ x ≤ q.2.2 := hN.2.1.2
  have b0 : (0 : Int) ≤ s0 ∧ s0 ≤ (0 : Int) := ivX (q := (0, .ofNat 0, .ofNat 0)) (y := s0) (hIv _ (.head _)) rfl
  have hRf : ∀ q ∈ ([((78, .ofNat 273, []), (.ofNat 50, []), 1, .ofNat 0, [(.ofNat 1, 0)])] : List sRf), rfOk [s0, s1, s2] hp q := hH.1
  have h0 : hI hp 273 50 = s0 := rfI0 (hRf _ (.head _)) (sE_k _ _) (sE_k _ _) (sE_V rfl)
  have y0 : (0 : Int) ≤ s0 ∧ s0 ≤ (45 : Int) := by rw [← h0]; exact hI_ty hO (by decide) rfl
  have hFc : ∀ q ∈ ([(212, [(.ofNat 0, [(.ofNat 1, 0)]), (.ofNat 0, [(.ofNat 1, 1)])]), (200, [(.ofNat 0, [(.ofNat 1, 1)]), (.ofNat 0, [(.ofNat 1, 2)])])] : List sFc), fcOk fFS [s0, s1, s2] hp q := hH.2
  have f0 : ∃ n : Nat, s0 = (n : Int) ∧ n ≤ 45 ∧ sFo (fun j => hI hp 287 j) n s1 := fcX (ys := [s0, s1]) (hFc _ (.head _)) ⟨sE_V rfl, sE_V rfl, trivial⟩
  have f1 : s2 = nr s1 := fcX (ys := [s1, s2]) (hFc _ (.tail _ (.head _))) ⟨sE_V rfl, sE_V rfl, trivial⟩
  have u := stm_z f0 (by omega)
  have un := f1
  rw [u, nr_0] at un
  exact poX (.head _) rfl hR (all_nil) (all_cons ⟨((0 : Int) + ((1 : Int) * s1 + ((-1 : Int) * s2 + 0))), rfl, (show ((0 : Int) + ((1 : Int) * s1 + ((-1 : Int) * s2 + 0))) ≤ 0 by omega)⟩ (all_cons ⟨((0 : Int) + ((-1 : Int) * s1 + ((1 : Int) * s2 + 0))), rfl, (show ((0 : Int) + ((-1 : Int) * s1 + ((1 : Int) * s2 + 0))) ≤ 0 by omega)⟩ (all_nil))) (all_nil)
theorem rl858 : ruOk fFS gR858 := by
  intro r hp hO hN hH
  obtain ⟨s0, s1, s2, s3, rfl⟩ := len4 (show r.length = 4 from hN.1)
  have hR := hN.2.1.1
  have hIv : ∀ q ∈ ([(0, .ofNat 1, .ofNat 45), (1, .negSucc 2147483647, .ofNat 19), (2, .ofNat 0, .ofNat 6560), (3, .negSucc 2147483647, .ofNat 2147483647)] : sIv), ∃ x, ([s0, s1, s2, s3] : List Int)[q.1]? = some x ∧ q.2.1 ≤ x ∧ x ≤ q.2.2 := hN.2.1.2
  have b0 : (1 : Int) ≤ s0 ∧ s0 ≤ (45 : Int) := ivX (q := (0, .ofNat 1, .ofNat 45)) (y := s0) (hIv _ (.head _)) rfl
  have b1 : (-2147483648 : Int) ≤ s1 ∧ s1 ≤ (19 : Int) := ivX (q := (1, .negSucc 2147483647, .ofNat 19)) (y := s1) (hIv _ (.tail _ (.head _))) rfl
  have b2 : (0 : Int) ≤ s2 ∧ s2 ≤ (6560 : Int) := ivX (q := (2, .ofNat 0, .ofNat 6560)) (y := s2) (hIv _ (.tail _ (.tail _ (.head _)))) rfl
  have hRf : ∀ q ∈ ([((78, .ofNat 273, []), (.ofNat 50, []), 1, .ofNat 0, [(.ofNat 1, 0)]), ((92, .ofNat 287, []), (.negSucc 0, [(.ofNat 1, 0)]), 1, .ofNat 0, [(.ofNat 1, 1)])] : List sRf), rfOk [s0, s1, s2, s3] hp q := hH.1
  have h0 : hI hp 273 50 = s0 := rfI0 (hRf _ (.head _)) (sE_k _ _) (sE_k _ _) (sE_V rfl)
  have y0 : (0 : Int) ≤ s0 ∧ s0 ≤ (45 : Int) := by rw [← h0]; exact hI_ty hO (by decide) rfl
  obtain ⟨i1, e1, l1, h1⟩ := rfI (xv := s1) (iv := (s0 - 1)) (hRf _ (.tail _ (.head _))) (sE_k _ _) (sEv (y' := ((-1 : Int) + ((1 : Int) * s0 + 0))) rfl (by omega)) (sE_V rfl)
  have l1 : i1 < 45 := l1
  have h1 : hI hp 287 i1 = s1 := h1
  have hFc : ∀ q ∈ ([(212, [(.ofNat 0, [(.ofNat 1, 0)]), (.ofNat 0, [(.ofNat 1, 2)])]), (200, [(.ofNat 0, [(.ofNat 1, 2)]), (.ofNat 0, [(.ofNat 1, 3)])])] : List sFc), fcOk fFS [s0, s1, s2, s3] hp q := hH.2
  have f0 : ∃ n : Nat, s0 = (n : Int) ∧ n ≤ 45 ∧ sFo (fun j => hI hp 287 j) n s2 := fcX (ys := [s0, s2]) (hFc _ (.head _)) ⟨sE_V rfl, sE_V rfl, trivial⟩
  have f1 : s3 = nr s2 := fcX (ys := [s2, s3]) (hFc _ (.tail _ (.head _))) ⟨sE_V rfl, sE_V rfl, trivial⟩
  have u := stm_n1 f0 h1 (by omega) (by omega)
  have un := f1
  rw [nr_n1 u] at un
  exact poX (.head _) rfl hR (all_nil) (all_cons ⟨((0 : Int) + ((1 : Int) * s2 + ((-1 : Int) * s3 + 0))), rfl, (show ((0 : Int) + ((1 : Int) * s2 + ((-1 : Int) * s3 + 0))) ≤ 0 by omega)⟩ (all_cons ⟨((0 : Int) + ((-1 : Int) * s2 + ((1 : Int) * s3 + 0))), rfl, (show ((0 : Int) + ((-1 : Int) * s2 + ((1 : Int) * s3 + 0))) ≤ 0 by omega)⟩ (all_nil))) (all_nil)
theorem rl859 : ruOk fFS gR859 := by
  intro r hp hO hN hH
  obtain ⟨s0, s1, s2, s3, rfl⟩ := len4 (show r.length = 4 from hN.1)
  have hR := hN.2.1.1
  have hIv : ∀ q ∈ ([(0, .ofNat 1, .ofNat 45), (1, .ofNat 21, .ofNat 2147483647), (2, .ofNat 0, .ofNat 6560), (3, .negSucc 2147483647, .ofNat 2147483647)] : sIv), ∃ x, ([s0, s1, s2, s3] : List Int)[q.1]? = some x ∧ q.2.1 ≤ x ∧ x ≤ q.2.2 := hN.2.1.2
  have b0 : (1 : Int) ≤ s0 ∧ s0 ≤ (45 : Int) := ivX (q := (0, .ofNat 1, .ofNat 45)) (y := s0) (hIv _ (.head _)) rfl
  have b1 : (21 : Int) ≤ s1 ∧ s1 ≤ (2147483647 : Int) := ivX (q := (1, .ofNat 21, .ofNat 2147483647)) (y := s1) (hIv _ (.tail _ (.head _))) rfl
  have b2 : (0 : Int) ≤ s2 ∧ s2 ≤ (6560 : Int) := ivX (q := (2, .ofNat 0, .ofNat 6560)) (y := s2) (hIv _ (.tail _ (.tail _ (.head _)))) rfl
  have hRf : ∀ q ∈ ([((78, .ofNat 273, []), (.ofNat 50, []), 1, .ofNat 0, [(.ofNat 1, 0)]), ((92, .ofNat 287, []), (.negSucc 0, [(.ofNat 1, 0)]), 1, .ofNat 0, [(.ofNat 1, 1)])] : List sRf), rfOk [s0, s1, s2, s3] hp q := hH.1
  have h0 : hI hp 273 50 = s0 := rfI0 (hRf _ (.head _)) (sE_k _ _) (sE_k _ _) (sE_V rfl)
  have y0 : (0 : Int) ≤ s0 ∧ s0 ≤ (45 : Int) := by rw [← h0]; exact hI_ty hO (by decide) rfl
  obtain ⟨i1, e1, l1, h1⟩ := rfI (xv := s1) (iv := (s0 - 1)) (hRf _ (.tail _ (.head _))) (sE_k _ _) (sEv (y' := ((-1 : Int) + ((1 : Int) * s0 + 0))) rfl (by omega)) (sE_V rfl)
  have l1 : i1 < 45 := l1
  have h1 : hI hp 287 i1 = s1 := h1
  have hFc : ∀ q ∈ ([(212, [(.ofNat 0, [(.ofNat 1, 0)]), (.ofNat 0, [(.ofNat 1, 2)])]), (200, [(.ofNat 0, [(.ofNat 1, 2)]), (.ofNat 0, [(.ofNat 1, 3)])])] : List sFc), fcOk fFS [s0, s1, s2, s3] hp q := hH.2
  have f0 : ∃ n : Nat, s0 = (n : Int) ∧ n ≤ 45 ∧ sFo (fun j => hI hp 287 j) n s2 := fcX (ys := [s0, s2]) (hFc _ (.head _)) ⟨sE_V rfl, sE_V rfl, trivial⟩
  have f1 : s3 = nr s2 := fcX (ys := [s2, s3]) (hFc _ (.tail _ (.head _))) ⟨sE_V rfl, sE_V rfl, trivial⟩
  have u := stm_n1 f0 h1 (by omega) (by omega)
  have un := f1
  rw [nr_n1 u] at un
  exact poX (.head _) rfl hR (all_nil) (all_cons ⟨((0 : Int) + ((1 : Int) * s2 + ((-1 : Int) * s3 + 0))), rfl, (show ((0 : Int) + ((1 : Int) * s2 + ((-1 : Int) * s3 + 0))) ≤ 0 by omega)⟩ (all_cons ⟨((0 : Int) + ((-1 : Int) * s2 + ((1 : Int) * s3 + 0))), rfl, (show ((0 : Int) + ((-1 : Int) * s2 + ((1 : Int) * s3 + 0))) ≤ 0 by omega)⟩ (all_nil))) (all_nil)
theorem rl860 : ruOk fFS gR860 := by
  intro r hp hO hN hH
  obtain ⟨s0, s1, s2, s3, rfl⟩ := len4 (show r.length = 4 from hN.1)
  have hR := hN.2.1.1
  have hIv : ∀ q ∈ ([(0, .negSucc 2147483647, .ofNat 2147483647), (1, .negSucc 2147483647, .ofNat 2147483647), (2, .negSucc 2147483647, .ofNat 2147483647), (3, .negSucc 2147483647, .ofNat 2147483647)] : sIv), ∃ x, ([s0, s1, s2, s3] : List Int)[q.1]? = some x ∧ q.2.1 ≤ x ∧ x ≤ q.2.2 := hN.2.1.2
  have hCs : ∀ c ∈ ([(.ofNat 0, [(.ofNat 1, 1), (.negSucc 0, 3)]), (.ofNat 0, [(.negSucc 0, 1), (.ofNat 1, 3)])] : List sLn), ∃ x, sE [s0, s1, s2, s3] c = some x ∧ x ≤ 0 := hN.2.2.1
  have c0 : ((0 : Int) + ((1 : Int) * s1 + ((-1 : Int) * s3 + 0))) ≤ 0 := csX (hCs _ (.head _)) rfl
  have c1 : ((0 : Int) + ((-1 : Int) * s1 + ((1 : Int) * s3 + 0))) ≤ 0 := csX (hCs _ (.tail _ (.head _))) rfl
  have hFc : ∀ q ∈ ([(212, [(.ofNat 0, [(.ofNat 1, 0)]), (.ofNat 0, [(.ofNat 1, 1)])]), (199, [(.ofNat 0, [(.ofNat 1, 1)]), (.ofNat 0, [(.ofNat 1, 2)])]), (200, [(.ofNat 0, [(.ofNat 1, 1)]), (.ofNat 0, [(.ofNat 1, 3)])])] : List sFc), fcOk fFS [s0, s1, s2, s3] hp q := hH.2
  have f0 : ∃ n : Nat, s0 = (n : Int) ∧ n ≤ 45 ∧ sFo (fun j => hI hp 287 j) n s1 := fcX (ys := [s0, s1]) (hFc _ (.head _)) ⟨sE_V rfl, sE_V rfl, trivial⟩
  have f1 : s2 = dp s1 + 1 := fcX (ys := [s1, s2]) (hFc _ (.tail _ (.head _))) ⟨sE_V rfl, sE_V rfl, trivial⟩
  have f2 : s3 = nr s1 := fcX (ys := [s1, s3]) (hFc _ (.tail _ (.tail _ (.head _)))) ⟨sE_V rfl, sE_V rfl, trivial⟩
  have e : s1 = s3 := by omega
  exact poX (.head _) rfl hR (all_nil) (all_nil) (all_cons ⟨[s0, s3], ⟨sE_V rfl, sE_V rfl, trivial⟩, (show ∃ n : Nat, s0 = (n : Int) ∧ n ≤ 45 ∧ sFo (fun j => hI hp 287 j) n s3 from (by rw [← e]; exact f0))⟩ (all_cons ⟨[s3, s2], ⟨sE_V rfl, sE_V rfl, trivial⟩, (show s2 = dp s3 + 1 from (by rw [← e]; exact f1))⟩ (all_nil)))
theorem rl862 : ruOk fFS gR862 := by
  intro r hp hO hN hH
  obtain ⟨s0, s1, s2, s3, s4, rfl⟩ := len5 (show r.length = 5 from hN.1)
  have hR := hN.2.1.1
  have hIv : ∀ q ∈ ([(0, .ofNat 1, .ofNat 45), (1, .ofNat 20, .ofNat 20), (2, .ofNat 0, .ofNat 6560), (3, .negSucc 2147483647, .ofNat 2147483647), (4, .negSucc 2147483647, .ofNat 2147483647)] : sIv), ∃ x, ([s0, s1, s2, s3, s4] : List Int)[q.1]? = some x ∧ q.2.1 ≤ x ∧ x ≤ q.2.2 := hN.2.1.2
  have b0 : (1 : Int) ≤ s0 ∧ s0 ≤ (45 : Int) := ivX (q := (0, .ofNat 1, .ofNat 45)) (y := s0) (hIv _ (.head _)) rfl
  have b1 : (20 : Int) ≤ s1 ∧ s1 ≤ (20 : Int) := ivX (q := (1, .ofNat 20, .ofNat 20)) (y := s1) (hIv _ (.tail _ (.head _))) rfl
  have b2 : (0 : Int) ≤ s2 ∧ s2 ≤ (6560 : Int) := ivX (q := (2, .ofNat 0, .ofNat 6560)) (y := s2) (hIv _ (.tail _ (.tail _ (.head _)))) rfl
  have b3 : (-2147483648 : Int) ≤ s3 ∧ s3 ≤ (2147483647 : Int) := ivX (q := (3, .negSucc 2147483647, .ofNat 2147483647)) (y := s3) (hIv _ (.tail _ (.tail _ (.tail _ (.head _))))) rfl
  have hRf : ∀ q ∈ ([((78, .ofNat 273, []), (.ofNat 50, []), 1, .ofNat 0, [(.ofNat 1, 0)]), ((92, .ofNat 287, []), (.negSucc 0, [(.ofNat 1, 0)]), 1, .ofNat 0, [(.ofNat 1, 1)])] : List sRf), rfOk [s0, s1, s2, s3, s4] hp q := hH.1
  have h0 : hI hp 273 50 = s0 := rfI0 (hRf _ (.head _)) (sE_k _ _) (sE_k _ _) (sE_V rfl)
  have y0 : (0 : Int) ≤ s0 ∧ s0 ≤ (45 : Int) := by rw [← h0]; exact hI_ty hO (by decide) rfl
  obtain ⟨i1, e1, l1, h1⟩ := rfI (xv := s1) (iv := (s0 - 1)) (hRf _ (.tail _ (.head _))) (sE_k _ _) (sEv (y' := ((-1 : Int) + ((1 : Int) * s0 + 0))) rfl (by omega)) (sE_V rfl)
  have l1 : i1 < 45 := l1
  have h1 : hI hp 287 i1 = s1 := h1
  have hFc : ∀ q ∈ ([(212, [(.ofNat 0, [(.ofNat 1, 0)]), (.ofNat 0, [(.ofNat 1, 2)])]), (199, [(.ofNat 0, [(.ofNat 1, 2)]), (.ofNat 0, [(.ofNat 1, 3)])]), (200, [(.ofNat 0, [(.ofNat 1, 2)]), (.ofNat 0, [(.ofNat 1, 4)])])] : List sFc), fcOk fFS [s0, s1, s2, s3, s4] hp q := hH.2
  have f0 : ∃ n : Nat, s0 = (n : Int) ∧ n ≤ 45 ∧ sFo (fun j => hI hp 287 j) n s2 := fcX (ys := [s0, s2]) (hFc _ (.head _)) ⟨sE_V rfl, sE_V rfl, trivial⟩
  have f1 : s3 = dp s2 + 1 := fcX (ys := [s2, s3]) (hFc _ (.tail _ (.head _))) ⟨sE_V rfl, sE_V rfl, trivial⟩
  have f2 : s4 = nr s2 := fcX (ys := [s2, s4]) (hFc _ (.tail _ (.tail _ (.head _)))) ⟨sE_V rfl, sE_V rfl, trivial⟩
  obtain ⟨s5, w0, w1, w2⟩ := stm_p20 f0 h1 (by omega) (by omega)
  have ud := f1
  rw [w2] at ud
  have u3 := dp_3 (t := s5) (j := 1) (by omega) (by omega) (Or.inl rfl)
  have u4 := dp_nn s5
  have u5 := dp_7 (t := s5) (by omega)
  have un := f2
  rw [w2, nr_31 w0 (by omega)] at un
  exact poXu (u := [s5]) (.head _) rfl hR (by rw [wMn_eq, wMx_eq]; intro x hx; simp only [List.mem_cons, List.not_mem_nil, or_false] at hx; omega) (all_cons (ivO (y := s3) rfl (show (2 : Int) ≤ s3 by omega) (show s3 ≤ (9 : Int) by omega)) (all_cons (ivO (y := s5) rfl (show (0 : Int) ≤ s5 by omega) (show s5 ≤ (2186 : Int) by omega)) (all_nil))) (all_nil) (all_cons ⟨[(s0 - 1), s5], ⟨sEv (y' := ((-1 : Int) + ((1 : Int) * s0 + 0))) rfl (by omega), sE_V rfl, trivial⟩, (show ∃ n : Nat, (s0 - 1) = (n : Int) ∧ n ≤ 45 ∧ sFo (fun j => hI hp 287 j) n s5 from w1)⟩ (all_cons ⟨[s5, (s3 - 1)], ⟨sE_V rfl, sEv (y' := ((-1 : Int) + ((1 : Int) * s3 + 0))) rfl (by omega), trivial⟩, (show (s3 - 1) = dp s5 + 1 from (show _ = dp s5 + 1 by omega))⟩ (all_cons ⟨[s5, s4], ⟨sE_V rfl, sE_V rfl, trivial⟩, (show s4 = nr s5 from un)⟩ (all_nil))))
theorem rl863 : ruOk fFS gR863 := by
  intro r hp hO hN hH
  have hr0 := len0 (show r.length = 0 from hN.1)
  subst hr0
  have hR := hN.2.1.1
  exact poX (.head _) rfl hR (all_nil) (all_nil) (all_cons ⟨[6385252, 20], ⟨sE_k _ _, sE_k _ _, trivial⟩, (show ∃ j : Nat, j < 30 ∧ (20 : Int) = (j : Int) ∧ (6385252 : Int) = cd 256 0 (wrd j) from rw_k (j := 20) (by decide) (by decide) (by decide))⟩ (all_nil))
theorem rl864 : ruOk fFS gR864 := by
  intro r hp hO hN hH
  have hr0 := len0 (show r.length = 0 from hN.1)
  subst hr0
  have hR := hN.2.1.1
  exact poX (.head _) rfl hR (all_nil) (all_nil) (all_cons ⟨[28530, 19], ⟨sE_k _ _, sE_k _ _, trivial⟩, (show ∃ j : Nat, j < 30 ∧ (19 : Int) = (j : Int) ∧ (28530 : Int) = cd 256 0 (wrd j) from rw_k (j := 19) (by decide) (by decide) (by decide))⟩ (all_nil))
theorem rl870 : ruOk fFS gR870 := by
  intro r hp hO hN hH
  obtain ⟨s0, s1, s2, rfl⟩ := len3 (show r.length = 3 from hN.1)
  have hR := hN.2.1.1
  have hIv : ∀ q ∈ ([(0, .ofNat 1, .ofNat 45), (1, .ofNat 21, .ofNat 22), (2, .negSucc 2147483647, .ofNat 2147483647)] : sIv), ∃ x, ([s0, s1, s2] : List Int)[q.1]? = some x ∧ q.2.1 ≤ x ∧ x ≤ q.2.2 := hN.2.1.2
  have b0 : (1 : Int) ≤ s0 ∧ s0 ≤ (45 : Int) := ivX (q := (0, .ofNat 1, .ofNat 45)) (y := s0) (hIv _ (.head _)) rfl
  have b1 : (21 : Int) ≤ s1 ∧ s1 ≤ (22 : Int) := ivX (q := (1, .ofNat 21, .ofNat 22)) (y := s1) (hIv _ (.tail _ (.head _))) rfl
  have hRf : ∀ q ∈ ([((78, .ofNat 273, []), (.ofNat 50, []), 1, .ofNat 0, [(.ofNat 1, 0)]), ((92, .ofNat 287, []), (.negSucc 0, [(.ofNat 1, 0)]), 1, .ofNat 0, [(.ofNat 1, 1)])] : List sRf), rfOk [s0, s1, s2] hp q := hH.1
  have h0 : hI hp 273 50 = s0 := rfI0 (hRf _ (.head _)) (sE_k _ _) (sE_k _ _) (sE_V rfl)
  have y0 : (0 : Int) ≤ s0 ∧ s0 ≤ (45 : Int) := by rw [← h0]; exact hI_ty hO (by decide) rfl
  obtain ⟨i1, e1, l1, h1⟩ := rfI (xv := s1) (iv := (s0 - 1)) (hRf _ (.tail _ (.head _))) (sE_k _ _) (sEv (y' := ((-1 : Int) + ((1 : Int) * s0 + 0))) rfl (by omega)) (sE_V rfl)
  have l1 : i1 < 45 := l1
  have h1 : hI hp 287 i1 = s1 := h1
  have hFc : ∀ q ∈ ([(212, [(.ofNat 0, [(.ofNat 1, 0)]), (.ofNat 0, [(.ofNat 1, 2)])])] : List sFc), fcOk fFS [s0, s1, s2] hp q := hH.2
  have f0 : ∃ n : Nat, s0 = (n : Int) ∧ n ≤ 45 ∧ sFo (fun j => hI hp 287 j) n s2 := fcX (ys := [s0, s2]) (hFc _ (.head _)) ⟨sE_V rfl, sE_V rfl, trivial⟩
  exact poX (.head _) rfl hR (all_nil) (all_nil) (all_cons ⟨[(s0 - 1), s2], ⟨sEv (y' := ((-1 : Int) + ((1 : Int) * s0 + 0))) rfl (by omega), sE_V rfl, trivial⟩, (show ∃ n : Nat, (s0 - 1) = (n : Int) ∧ n ≤ 45 ∧ sFo (fun j => hI hp 287 j) n s2 from stm_pj f0 h1 (by omega) (by omega))⟩ (all_nil))
theorem rl871 : ruOk fFS gR871 := by
  intro r hp hO hN hH
  obtain ⟨s0, s1, s2, s3, s4, s5, s6, s7, rfl⟩ := len8 (show r.length = 8 from hN.1)
  have hR := hN.2.1.1
  have hIv : ∀ q ∈ ([(0, .negSucc 2147483647, .ofNat 2147483647), (1, .ofNat 6, .ofNat 6), (2, .negSucc 2147483647, .ofNat 2147483647), (3, .negSucc 2147483647, .ofNat 2147483647), (4, .ofNat 2, .ofNat 2), (5, .negSucc 2147483647, .ofNat 2147483647), (6, .negSucc 2147483647, .ofNat 2147483647), (7, .negSucc 2147483647, .ofNat 2147483647)] : sIv), ∃ x, ([s0, s1, s2, s3, s4, s5, s6, s7] : List Int)[q.1]? = some x ∧ q.2.1 ≤ x ∧ x ≤ q.2.2 := hN.2.1.2
  have b1 : (6 : Int) ≤ s1 ∧ s1 ≤ (6 : Int) := ivX (q := (1, .ofNat 6, .ofNat 6)) (y := s1) (hIv _ (.tail _ (.head _))) rfl
  have b4 : (2 : Int) ≤ s4 ∧ s4 ≤ (2 : Int) := ivX (q := (4, .ofNat 2, .ofNat 2)) (y := s4) (hIv _ (.tail _ (.tail _ (.tail _ (.tail _ (.head _)))))) rfl
  have hFc : ∀ q ∈ ([(207, [(.ofNat 0, [(.ofNat 1, 0)]), (.ofNat 0, [(.ofNat 1, 1)]), (.ofNat 0, [(.ofNat 1, 2)]), (.ofNat 0, [(.ofNat 1, 3)]), (.ofNat 0, [(.ofNat 1, 4)]), (.ofNat 0, [(.ofNat 1, 5)]), (.ofNat 0, [(.ofNat 1, 6)]), (.ofNat 0, [(.ofNat 1, 7)])])] : List sFc), fcOk fFS [s0, s1, s2, s3, s4, s5, s6, s7] hp q := hH.2
  have f0 : SHq (MT hp) (nmM hp) s0 s1 s2 s3 s4 s5 s6 s7 := fcX (ys := [s0, s1, s2, s3, s4, s5, s6, s7]) (hFc _ (.head _)) ⟨sE_V rfl, sE_V rfl, sE_V rfl, sE_V rfl, sE_V rfl, sE_V rfl, sE_V rfl, sE_V rfl, trivial⟩
  exact poX (.head _) rfl hR (all_nil) (all_nil) (all_cons ⟨[1, s5], ⟨sE_k _ _, sE_V rfl, trivial⟩, (show SRS (MT hp) (nmM hp) (1 : Int) s5 from s6_f1 f0 (by omega) (by omega) (by omega) (by omega))⟩ (all_nil))
theorem rl872 : ruOk fFS gR872 := by
  intro r hp hO hN hH
  obtain ⟨s0, s1, s2, s3, s4, s5, s6, s7, rfl⟩ := len8 (show r.length = 8 from hN.1)
  have hR := hN.2.1.1
  have hIv : ∀ q ∈ ([(0, .negSucc 2147483647, .ofNat 2147483647), (1, .ofNat 6, .ofNat 6), (2, .negSucc 2147483647, .ofNat 2147483647), (3, .negSucc 2147483647, .ofNat 2147483647), (4, .ofNat 4, .ofNat 4), (5, .negSucc 2147483647, .ofNat 2147483647), (6, .negSucc 2147483647, .ofNat 2147483647), (7, .negSucc 2147483647, .ofNat 2147483647)] : sIv), ∃ x, ([s0, s1, s2, s3, s4, s5, s6, s7] : List Int)[q.1]? = some x ∧ q.2.1 ≤ x ∧ x ≤ q.2.2 := hN.2.1.2
  have b1 : (6 : Int) ≤ s1 ∧ s1 ≤ (6 : Int) := ivX (q := (1, .ofNat 6, .ofNat 6)) (y := s1) (hIv _ (.tail _ (.head _))) rfl
  have b4 : (4 : Int) ≤ s4 ∧ s4 ≤ (4 : Int) := ivX (q := (4, .ofNat 4, .ofNat 4)) (y := s4) (hIv _ (.tail _ (.tail _ (.tail _ (.tail _ (.head _)))))) rfl
  have hFc : ∀ q ∈ ([(207, [(.ofNat 0, [(.ofNat 1, 0)]), (.ofNat 0, [(.ofNat 1, 1)]), (.ofNat 0, [(.ofNat 1, 2)]), (.ofNat 0, [(.ofNat 1, 3)]), (.ofNat 0, [(.ofNat 1, 4)]), (.ofNat 0, [(.ofNat 1, 5)]), (.ofNat 0, [(.ofNat 1, 6)]), (.ofNat 0, [(.ofNat 1, 7)])])] : List sFc), fcOk fFS [s0, s1, s2, s3, s4, s5, s6, s7] hp q := hH.2
  have f0 : SHq (MT hp) (nmM hp) s0 s1 s2 s3 s4 s5 s6 s7 := fcX (ys := [s0, s1, s2, s3, s4, s5, s6, s7]) (hFc _ (.head _)) ⟨sE_V rfl, sE_V rfl, sE_V rfl, sE_V rfl, sE_V rfl, sE_V rfl, sE_V rfl, sE_V rfl, trivial⟩
  exact poX (.head _) rfl hR (all_nil) (all_nil) (all_cons ⟨[1, s5], ⟨sE_k _ _, sE_V rfl, trivial⟩, (show SRS (MT hp) (nmM hp) (1 : Int) s5 from s6_f1 f0 (by omega) (by omega) (by omega) (by omega))⟩ (all_nil))
theorem rl873 : ruOk fFS gR873 := by
  intro r hp hO hN hH
  obtain ⟨s0, s1, s2, s3, s4, s5, s6, s7, s8, rfl⟩ := len9 (show r.length = 9 from hN.1)
  have hR := hN.2.1.1
  have hIv : ∀ q ∈ ([(0, .ofNat 0, .ofNat 0), (1, .negSucc 2147483647, .ofNat 2147483647), (2, .ofNat 6, .ofNat 6), (3, .negSucc 2147483647, .ofNat 2147483647), (4, .negSucc 2147483647, .ofNat 2147483647), (5, .ofNat 0, .ofNat 0), (6, .negSucc 2147483647, .ofNat 2147483647), (7, .negSucc 2147483647, .ofNat 2147483647), (8, .negSucc 2147483647, .ofNat 2147483647)] : sIv), ∃ x, ([s0, s1, s2, s3, s4, s5, s6, s7, s8] : List Int)[q.1]? = some x ∧ q.2.1 ≤ x ∧ x ≤ q.2.2 := hN.2.1.2
  have b0 : (0 : Int) ≤ s0 ∧ s0 ≤ (0 : Int) := ivX (q := (0, .ofNat 0, .ofNat 0)) (y := s0) (hIv _ (.head _)) rfl
  have b2 : (6 : Int) ≤ s2 ∧ s2 ≤ (6 : Int) := ivX (q := (2, .ofNat 6, .ofNat 6)) (y := s2) (hIv _ (.tail _ (.tail _ (.head _)))) rfl
  have b5 : (0 : Int) ≤ s5 ∧ s5 ≤ (0 : Int) := ivX (q := (5, .ofNat 0, .ofNat 0)) (y := s5) (hIv _ (.tail _ (.tail _ (.tail _ (.tail _ (.tail _ (.head _))))))) rfl
  have hRf : ∀ q ∈ ([((78, .ofNat 273, []), (.ofNat 50, []), 1, .ofNat 0, [(.ofNat 1, 0)])] : List sRf), rfOk [s0, s1, s2, s3, s4, s5, s6, s7, s8] hp q := hH.1
  have h0 : hI hp 273 50 = s0 := rfI0 (hRf _ (.head _)) (sE_k _ _) (sE_k _ _) (sE_V rfl)
  have y0 : (0 : Int) ≤ s0 ∧ s0 ≤ (45 : Int) := by rw [← h0]; exact hI_ty hO (by decide) rfl
  have hFc : ∀ q ∈ ([(207, [(.ofNat 0, [(.ofNat 1, 1)]), (.ofNat 0, [(.ofNat 1, 2)]), (.ofNat 0, [(.ofNat 1, 3)]), (.ofNat 0, [(.ofNat 1, 4)]), (.ofNat 0, [(.ofNat 1, 5)]), (.ofNat 0, [(.ofNat 1, 6)]), (.ofNat 0, [(.ofNat 1, 7)]), (.ofNat 0, [(.ofNat 1, 8)])]), (212, [(.ofNat 0, [(.ofNat 1, 0)]), (.ofNat 0, [(.ofNat 1, 4)])])] : List sFc), fcOk fFS [s0, s1, s2, s3, s4, s5, s6, s7, s8] hp q := hH.2
  have f0 : SHq (MT hp) (nmM hp) s1 s2 s3 s4 s5 s6 s7 s8 := fcX (ys := [s1, s2, s3, s4, s5, s6, s7, s8]) (hFc _ (.head _)) ⟨sE_V rfl, sE_V rfl, sE_V rfl, sE_V rfl, sE_V rfl, sE_V rfl, sE_V rfl, sE_V rfl, trivial⟩
  have f1 : ∃ n : Nat, s0 = (n : Int) ∧ n ≤ 45 ∧ sFo (fun j => hI hp 287 j) n s4 := fcX (ys := [s0, s4]) (hFc _ (.tail _ (.head _))) ⟨sE_V rfl, sE_V rfl, trivial⟩
  have u := stm_z f1 (by omega)
  exact poX (.head _) rfl hR (all_nil) (all_nil) (all_cons ⟨[s3], ⟨sE_V rfl, trivial⟩, (show SDN (MT hp) (nmM hp) s3 from s6_end f0 (by omega) (by omega) (by omega))⟩ (all_nil))
theorem rl874 : ruOk fFS gR874 := by
  intro r hp hO hN hH
  obtain ⟨s0, s1, s2, s3, s4, s5, s6, s7, rfl⟩ := len8 (show r.length = 8 from hN.1)
  have hR := hN.2.1.1
  have hIv : ∀ q ∈ ([(0, .negSucc 2147483647, .ofNat 2147483647), (1, .ofNat 6, .ofNat 6), (2, .negSucc 2147483647, .ofNat 2147483647), (3, .negSucc 2147483647, .ofNat 2147483647), (4, .ofNat 1, .ofNat 1), (5, .negSucc 2147483647, .ofNat 2147483647), (6, .negSucc 2147483647, .ofNat 2147483647), (7, .negSucc 0, .ofNat 18)] : sIv), ∃ x, ([s0, s1, s2, s3, s4, s5, s6, s7] : List Int)[q.1]? = some x ∧ q.2.1 ≤ x ∧ x ≤ q.2.2 := hN.2.1.2
  have b1 : (6 : Int) ≤ s1 ∧ s1 ≤ (6 : Int) := ivX (q := (1, .ofNat 6, .ofNat 6)) (y := s1) (hIv _ (.tail _ (.head _))) rfl
  have b4 : (1 : Int) ≤ s4 ∧ s4 ≤ (1 : Int) := ivX (q := (4, .ofNat 1, .ofNat 1)) (y := s4) (hIv _ (.tail _ (.tail _ (.tail _ (.tail _ (.head _)))))) rfl
  have b7 : (-1 : Int) ≤ s7 ∧ s7 ≤ (18 : Int) := ivX (q := (7, .negSucc 0, .ofNat 18)) (y := s7) (hIv _ (.tail _ (.tail _ (.tail _ (.tail _ (.tail _ (.tail _ (.tail _ (.head _))))))))) rfl
  have hFc : ∀ q ∈ ([(207, [(.ofNat 0, [(.ofNat 1, 0)]), (.ofNat 0, [(.ofNat 1, 1)]), (.ofNat 0, [(.ofNat 1, 2)]), (.ofNat 0, [(.ofNat 1, 3)]), (.ofNat 0, [(.ofNat 1, 4)]), (.ofNat 0, [(.ofNat 1, 5)]), (.ofNat 0, [(.ofNat 1, 6)]), (.ofNat 0, [(.ofNat 1, 7)])])] : List sFc), fcOk fFS [s0, s1, s2, s3, s4, s5, s6, s7] hp q := hH.2
  have f0 : SHq (MT hp) (nmM hp) s0 s1 s2 s3 s4 s5 s6 s7 := fcX (ys := [s0, s1, s2, s3, s4, s5, s6, s7]) (hFc _ (.head _)) ⟨sE_V rfl, sE_V rfl, sE_V rfl, sE_V rfl, sE_V rfl, sE_V rfl, sE_V rfl, sE_V rfl, trivial⟩
  exact poX (.head _) rfl hR (all_nil) (all_nil) (all_cons ⟨[1, s5], ⟨sE_k _ _, sE_V rfl, trivial⟩, (show SRS (MT hp) (nmM hp) (1 : Int) s5 from s6_f1 f0 (by omega) (by omega) (by omega) (by omega))⟩ (all_nil))
theorem rl875 : ruOk fFS gR875 := by
  intro r hp hO hN hH
  obtain ⟨s0, s1, s2, s3, s4, s5, s6, s7, rfl⟩ := len8 (show r.length = 8 from hN.1)
  have hR := hN.2.1.1
  have hIv : ∀ q ∈ ([(0, .negSucc 2147483647, .ofNat 2147483647), (1, .ofNat 6, .ofNat 6), (2, .negSucc 2147483647, .ofNat 2147483647), (3, .negSucc 2147483647, .ofNat 2147483647), (4, .ofNat 1, .ofNat 1), (5, .negSucc 2147483647, .ofNat 2147483647), (6, .negSucc 2147483647, .ofNat 2147483647), (7, .ofNat 21, .ofNat 29)] : sIv), ∃ x, ([s0, s1, s2, s3, s4, s5, s6, s7] : List Int)[q.1]? = some x ∧ q.2.1 ≤ x ∧ x ≤ q.2.2 := hN.2.1.2
  have b1 : (6 : Int) ≤ s1 ∧ s1 ≤ (6 : Int) := ivX (q := (1, .ofNat 6, .ofNat 6)) (y := s1) (hIv _ (.tail _ (.head _))) rfl
  have b4 : (1 : Int) ≤ s4 ∧ s4 ≤ (1 : Int) := ivX (q := (4, .ofNat 1, .ofNat 1)) (y := s4) (hIv _ (.tail _ (.tail _ (.tail _ (.tail _ (.head _)))))) rfl
  have b7 : (21 : Int) ≤ s7 ∧ s7 ≤ (29 : Int) := ivX (q := (7, .ofNat 21, .ofNat 29)) (y := s7) (hIv _ (.tail _ (.tail _ (.tail _ (.tail _ (.tail _ (.tail _ (.tail _ (.head _))))))))) rfl
  have hFc : ∀ q ∈ ([(207, [(.ofNat 0, [(.ofNat 1, 0)]), (.ofNat 0, [(.ofNat 1, 1)]), (.ofNat 0, [(.ofNat 1, 2)]), (.ofNat 0, [(.ofNat 1, 3)]), (.ofNat 0, [(.ofNat 1, 4)]), (.ofNat 0, [(.ofNat 1, 5)]), (.ofNat 0, [(.ofNat 1, 6)]), (.ofNat 0, [(.ofNat 1, 7)])])] : List sFc), fcOk fFS [s0, s1, s2, s3, s4, s5, s6, s7] hp q := hH.2
  have f0 : SHq (MT hp) (nmM hp) s0 s1 s2 s3 s4 s5 s6 s7 := fcX (ys := [s0, s1, s2, s3, s4, s5, s6, s7]) (hFc _ (.head _)) ⟨sE_V rfl, sE_V rfl, sE_V rfl, sE_V rfl, sE_V rfl, sE_V rfl, sE_V rfl, sE_V rfl, trivial⟩
  exact poX (.head _) rfl hR (all_nil) (all_nil) (all_cons ⟨[1, s5], ⟨sE_k _ _, sE_V rfl, trivial⟩, (show SRS (MT hp) (nmM hp) (1 : Int) s5 from s6_f1 f0 (by omega) (by omega) (by omega) (by omega))⟩ (all_nil))
theorem rl876 : ruOk fFS gR876 := by
  intro r hp hO hN hH
  obtain ⟨s0, s1, s2, s3, s4, s5, s6, s7, rfl⟩ := len8 (show r.length = 8 from hN.1)
  have hR := hN.2.1.1
  have hIv : ∀ q ∈ ([(0, .negSucc 2147483647, .ofNat 2147483647), (1, .ofNat 6, .ofNat 6), (2, .negSucc 2147483647, .ofNat 2147483647), (3, .negSucc 2147483647, .ofNat 2147483647), (4, .ofNat 3, .ofNat 3), (5, .negSucc 2147483647, .ofNat 2147483647), (6, .negSucc 2147483647, .ofNat 2147483647), (7, .negSucc 2147483647, .ofNat 40)] : sIv), ∃ x, ([s0, s1, s2, s3, s4, s5, s6, s7] : List Int)[q.1]? = some x ∧ q.2.1 ≤ x ∧ x ≤ q.2.2 := hN.2.1.2
  have b1 : (6 : Int) ≤ s1 ∧ s1 ≤ (6 : Int) := ivX (q := (1, .ofNat 6, .ofNat 6)) (y := s1) (hIv _ (.tail _ (.head _))) rfl
  have b4 : (3 : Int) ≤ s4 ∧ s4 ≤ (3 : Int) := ivX (q := (4, .ofNat 3, .ofNat 3)) (y := s4) (hIv _ (.tail _ (.tail _ (.tail _ (.tail _ (.head _)))))) rfl
  have b7 : (-2147483648 : Int) ≤ s7 ∧ s7 ≤ (40 : Int) := ivX (q := (7, .negSucc 2147483647, .ofNat 40)) (y := s7) (hIv _ (.tail _ (.tail _ (.tail _ (.tail _ (.tail _ (.tail _ (.tail _ (.head _))))))))) rfl
  have hFc : ∀ q ∈ ([(207, [(.ofNat 0, [(.ofNat 1, 0)]), (.ofNat 0, [(.ofNat 1, 1)]), (.ofNat 0, [(.ofNat 1, 2)]), (.ofNat 0, [(.ofNat 1, 3)]), (.ofNat 0, [(.ofNat 1, 4)]), (.ofNat 0, [(.ofNat 1, 5)]), (.ofNat 0, [(.ofNat 1, 6)]), (.ofNat 0, [(.ofNat 1, 7)])])] : List sFc), fcOk fFS [s0, s1, s2, s3, s4, s5, s6, s7] hp q := hH.2
  have f0 : SHq (MT hp) (nmM hp) s0 s1 s2 s3 s4 s5 s6 s7 := fcX (ys := [s0, s1, s2, s3, s4, s5, s6, s7]) (hFc _ (.head _)) ⟨sE_V rfl, sE_V rfl, sE_V rfl, sE_V rfl, sE_V rfl, sE_V rfl, sE_V rfl, sE_V rfl, trivial⟩
  exact poX (.head _) rfl hR (all_nil) (all_nil) (all_cons ⟨[1, s5], ⟨sE_k _ _, sE_V rfl, trivial⟩, (show SRS (MT hp) (nmM hp) (1 : Int) s5 from s6_f1 f0 (by omega) (by omega) (by omega) (by omega))⟩ (all_nil))
theorem rl877 : ruOk fFS gR877 := by
  intro r hp hO hN hH
  obtain ⟨s0, s1, s2, s3, s4, s5, s6, s7, rfl⟩ := len8 (show r.length = 8 from hN.1)
  have hR := hN.2.1.1
  have hIv : ∀ q ∈ ([(0, .negSucc 2147483647, .ofNat 2147483647), (1, .ofNat 6, .ofNat 6), (2, .negSucc 2147483647, .ofNat 2147483647), (3, .negSucc 2147483647, .ofNat 2147483647), (4, .ofNat 3, .ofNat 3), (5, .negSucc 2147483647, .ofNat 2147483647), (6, .negSucc 2147483647, .ofNat 2147483647), (7, .ofNat 42, .ofNat 2147483647)] : sIv), ∃ x, ([s0, s1, s2, s3, s4, s5, s6, s7] : List Int)[q.1]? = some x ∧ q.2.1 ≤ x ∧ x ≤ q.2.2 := hN.2.1.2
  have b1 : (6 : Int) ≤ s1 ∧ s1 ≤ (6 : Int) := ivX (q := (1, .ofNat 6, .ofNat 6)) (y := s1) (hIv _ (.tail _ (.head _))) rfl
  have b4 : (3 : Int) ≤ s4 ∧ s4 ≤ (3 : Int) := ivX (q := (4, .ofNat 3, .ofNat 3)) (y := s4) (hIv _ (.tail _ (.tail _ (.tail _ (.tail _ (.head _)))))) rfl
  have b7 : (42 : Int) ≤ s7 ∧ s7 ≤ (2147483647 : Int) := ivX (q := (7, .ofNat 42, .ofNat 2147483647)) (y := s7) (hIv _ (.tail _ (.tail _ (.tail _ (.tail _ (.tail _ (.tail _ (.tail _ (.head _))))))))) rfl
  have hFc : ∀ q ∈ ([(207, [(.ofNat 0, [(.ofNat 1, 0)]), (.ofNat 0, [(.ofNat 1, 1)]), (.ofNat 0, [(.ofNat 1, 2)]), (.ofNat 0, [(.ofNat 1, 3)]), (.ofNat 0, [(.ofNat 1, 4)]), (.ofNat 0, [(.ofNat 1, 5)]), (.ofNat 0, [(.ofNat 1, 6)]), (.ofNat 0, [(.ofNat 1, 7)])])] : List sFc), fcOk fFS [s0, s1, s2, s3, s4, s5, s6, s7] hp q := hH.2
  have f0 : SHq (MT hp) (nmM hp) s0 s1 s2 s3 s4 s5 s6 s7 := fcX (ys := [s0, s1, s2, s3, s4, s5, s6, s7]) (hFc _ (.head _)) ⟨sE_V rfl, sE_V rfl, sE_V rfl, sE_V rfl, sE_V rfl, sE_V rfl, sE_V rfl, sE_V rfl, trivial⟩
  exact poX (.head _) rfl hR (all_nil) (all_nil) (all_cons ⟨[1, s5], ⟨sE_k _ _, sE_V rfl, trivial⟩, (show SRS (MT hp) (nmM hp) (1 : Int) s5 from s6_f1 f0 (by omega) (by omega) (by omega) (by omega))⟩ (all_nil))
theorem rl878 : ruOk fFS gR878 := by
  intro r hp hO hN hH
  obtain ⟨s0, s1, s2, s3, s4, s5, s6, s7, s8, rfl⟩ := len9 (show r.length = 9 from hN.1)
  have hR := hN.2.1.1
  have hIv : ∀ q ∈ ([(0, .ofNat 0, .ofNat 0), (1, .negSucc 2147483647, .ofNat 2147483647), (2, .ofNat 6, .ofNat 6), (3, .negSucc 2147483647, .ofNat 2147483647), (4, .negSucc 2147483647, .ofNat 2147483647), (5, .ofNat 3, .ofNat 3), (6, .negSucc 2147483647, .ofNat 2147483647), (7, .negSucc 2147483647, .ofNat 2147483647), (8, .ofNat 41, .ofNat 41)] : sIv), ∃ x, ([s0, s1, s2, s3, s4, s5, s6, s7, s8] : List Int)[q.1]? = some x ∧ q.2.1 ≤ x ∧ x ≤ q.2.2 := hN.2.1.2
  have b0 : (0 : Int) ≤ s0 ∧ s0 ≤ (0 : Int) := ivX (q := (0, .ofNat 0, .ofNat 0)) (y := s0) (hIv _ (.head _)) rfl
  have b2 : (6 : Int) ≤ s2 ∧ s2 ≤ (6 : Int) := ivX (q := (2, .ofNat 6, .ofNat 6)) (y := s2) (hIv _ (.tail _ (.tail _ (.head _)))) rfl
  have b5 : (3 : Int) ≤ s5 ∧ s5 ≤ (3 : Int) := ivX (q := (5, .ofNat 3, .ofNat 3)) (y := s5) (hIv _ (.tail _ (.tail _ (.tail _ (.tail _ (.tail _ (.head _))))))) rfl
  have b8 : (41 : Int) ≤ s8 ∧ s8 ≤ (41 : Int) := ivX (q := (8, .ofNat 41, .ofNat 41)) (y := s8) (hIv _ (.tail _ (.tail _ (.tail _ (.tail _ (.tail _ (.tail _ (.tail _ (.tail _ (.head _)))))))))) rfl
  have hRf : ∀ q ∈ ([((78, .ofNat 273, []), (.ofNat 50, []), 1, .ofNat 0, [(.ofNat 1, 0)])] : List sRf), rfOk [s0, s1, s2, s3, s4, s5, s6, s7, s8] hp q := hH.1
  have h0 : hI hp 273 50 = s0 := rfI0 (hRf _ (.head _)) (sE_k _ _) (sE_k _ _) (sE_V rfl)
  have y0 : (0 : Int) ≤ s0 ∧ s0 ≤ (45 : Int) := by rw [← h0]; exact hI_ty hO (by decide) rfl
  have hFc : ∀ q ∈ ([(207, [(.ofNat 0, [(.ofNat 1, 1)]), (.ofNat 0, [(.ofNat 1, 2)]), (.ofNat 0, [(.ofNat 1, 3)]), (.ofNat 0, [(.ofNat 1, 4)]), (.ofNat 0, [(.ofNat 1, 5)]), (.ofNat 0, [(.ofNat 1, 6)]), (.ofNat 0, [(.ofNat 1, 7)]), (.ofNat 0, [(.ofNat 1, 8)])]), (212, [(.ofNat 0, [(.ofNat 1, 0)]), (.ofNat 0, [(.ofNat 1, 4)])])] : List sFc), fcOk fFS [s0, s1, s2, s3, s4, s5, s6, s7, s8] hp q := hH.2
  have f0 : SHq (MT hp) (nmM hp) s1 s2 s3 s4 s5 s6 s7 s8 := fcX (ys := [s1, s2, s3, s4, s5, s6, s7, s8]) (hFc _ (.head _)) ⟨sE_V rfl, sE_V rfl, sE_V rfl, sE_V rfl, sE_V rfl, sE_V rfl, sE_V rfl, sE_V rfl, trivial⟩
  have f1 : ∃ n : Nat, s0 = (n : Int) ∧ n ≤ 45 ∧ sFo (fun j => hI hp 287 j) n s4 := fcX (ys := [s0, s4]) (hFc _ (.tail _ (.head _))) ⟨sE_V rfl, sE_V rfl, trivial⟩
  have u := stm_z f1 (by omega)
  exact poX (.head _) rfl hR (all_nil) (all_nil) (all_cons ⟨[1, s6], ⟨sE_k _ _, sE_V rfl, trivial⟩, (show SRS (MT hp) (nmM hp) (1 : Int) s6 from s6_f1 f0 (by omega) (by omega) (by omega) (by omega))⟩ (all_nil))
theorem rl879 : ruOk fFS gR879 := by
  intro r hp hO hN hH
  obtain ⟨s0, s1, s2, s3, s4, s5, s6, s7, s8, s9, s10, rfl⟩ := len11 (show r.length = 11 from hN.1)
  have hR := hN.2.1.1
  have hIv : ∀ q ∈ ([(0, .ofNat 1, .ofNat 45), (1, .negSucc 2147483647, .ofNat 2147483647), (2, .ofNat 6, .ofNat 6), (3, .negSucc 2147483647, .ofNat 2147483647), (4, .ofNat 0, .ofNat 6560), (5, .ofNat 3, .ofNat 3), (6, .negSucc 2147483647, .ofNat 2147483647), (7, .negSucc 2147483647, .ofNat 2147483647), (8, .ofNat 41, .ofNat 41), (9, .ofNat 0, .ofNat 6560), (10, .negSucc 2147483647, .ofNat 2147483647)] : sIv), ∃ x, ([s0, s1, s2, s3, s4, s5, s6, s7, s8, s9, s10] : List Int)[q.1]? = some x ∧ q.2.1 ≤ x ∧ x ≤ q.2.2 := hN.2.1.2
  have b0 : (1 : Int) ≤ s0 ∧ s0 ≤ (45 : Int) := ivX (q := (0, .ofNat 1, .ofNat 45)) (y := s0) (hIv _ (.head _)) rfl
  have b2 : (6 : Int) ≤ s2 ∧ s2 ≤ (6 : Int) := ivX (q := (2, .ofNat 6, .ofNat 6)) (y := s2) (hIv _ (.tail _ (.tail _ (.head _)))) rfl
  have b4 : (0 : Int) ≤ s4 ∧ s4 ≤ (6560 : Int) := ivX (q := (4, .ofNat 0, .ofNat 6560)) (y := s4) (hIv _ (.tail _ (.tail _ (.tail _ (.tail _ (.head _)))))) rfl
  have b5 : (3 : Int) ≤ s5 ∧ s5 ≤ (3 : Int) := ivX (q := (5, .ofNat 3, .ofNat 3)) (y := s5) (hIv _ (.tail _ (.tail _ (.tail _ (.tail _ (.tail _ (.head _))))))) rfl
  have b8 : (41 : Int) ≤ s8 ∧ s8 ≤ (41 : Int) := ivX (q := (8, .ofNat 41, .ofNat 41)) (y := s8) (hIv _ (.tail _ (.tail _ (.tail _ (.tail _ (.tail _ (.tail _ (.tail _ (.tail _ (.head _)))))))))) rfl
  have b9 : (0 : Int) ≤ s9 ∧ s9 ≤ (6560 : Int) := ivX (q := (9, .ofNat 0, .ofNat 6560)) (y := s9) (hIv _ (.tail _ (.tail _ (.tail _ (.tail _ (.tail _ (.tail _ (.tail _ (.tail _ (.tail _ (.head _))))))))))) rfl
  have b10 : (-2147483648 : Int) ≤ s10 ∧ s10 ≤ (2147483647 : Int) := ivX (q := (10, .negSucc 2147483647, .ofNat 2147483647)) (y := s10) (hIv _ (.tail _ (.tail _ (.tail _ (.tail _ (.tail _ (.tail _ (.tail _ (.tail _ (.tail _ (.tail _ (.head _)))))))))))) rfl
  have hRf : ∀ q ∈ ([((78, .ofNat 273, []), (.ofNat 50, []), 1, .ofNat 0, [(.ofNat 1, 0)])] : List sRf), rfOk [s0, s1, s2, s3, s4, s5, s6, s7, s8, s9, s10] hp q := hH.1
  have h0 : hI hp 273 50 = s0 := rfI0 (hRf _ (.head _)) (sE_k _ _) (sE_k _ _) (sE_V rfl)
  have y0 : (0 : Int) ≤ s0 ∧ s0 ≤ (45 : Int) := by rw [← h0]; exact hI_ty hO (by decide) rfl
  have hFc : ∀ q ∈ ([(207, [(.ofNat 0, [(.ofNat 1, 1)]), (.ofNat 0, [(.ofNat 1, 2)]), (.ofNat 0, [(.ofNat 1, 3)]), (.ofNat 0, [(.ofNat 1, 4)]), (.ofNat 0, [(.ofNat 1, 5)]), (.ofNat 0, [(.ofNat 1, 6)]), (.ofNat 0, [(.ofNat 1, 7)]), (.ofNat 0, [(.ofNat 1, 8)])]), (212, [(.ofNat 0, [(.ofNat 1, 0)]), (.ofNat 0, [(.ofNat 1, 4)])]), (23, [(.ofNat 0, [(.ofNat 1, 0)])]), (200, [(.ofNat 0, [(.ofNat 1, 9)]), (.ofNat 0, [(.ofNat 1, 4)])]), (199, [(.ofNat 0, [(.ofNat 1, 4)]), (.ofNat 0, [(.ofNat 1, 10)])])] : List sFc), fcOk fFS [s0, s1, s2, s3, s4, s5, s6, s7, s8, s9, s10] hp q := hH.2
  have f0 : SHq (MT hp) (nmM hp) s1 s2 s3 s4 s5 s6 s7 s8 := fcX (ys := [s1, s2, s3, s4, s5, s6, s7, s8]) (hFc _ (.head _)) ⟨sE_V rfl, sE_V rfl, sE_V rfl, sE_V rfl, sE_V rfl, sE_V rfl, sE_V rfl, sE_V rfl, trivial⟩
  have f1 : ∃ n : Nat, s0 = (n : Int) ∧ n ≤ 45 ∧ sFo (fun j => hI hp 287 j) n s4 := fcX (ys := [s0, s4]) (hFc _ (.tail _ (.head _))) ⟨sE_V rfl, sE_V rfl, trivial⟩
  have f2 : fNj s0 hp := fcX (ys := [s0]) (hFc _ (.tail _ (.tail _ (.head _)))) ⟨sE_V rfl, trivial⟩
  have f3 : s4 = nr s9 := fcX (ys := [s9, s4]) (hFc _ (.tail _ (.tail _ (.tail _ (.head _))))) ⟨sE_V rfl, sE_V rfl, trivial⟩
  have f4 : s10 = dp s4 + 1 := fcX (ys := [s4, s10]) (hFc _ (.tail _ (.tail _ (.tail _ (.tail _ (.head _)))))) ⟨sE_V rfl, sE_V rfl, trivial⟩
  have u0 := f3
  have u1 := nr_3 (t := s9) (by omega) (by omega)
  rw [← u0] at u1
  obtain ⟨s11, w0, w1, w2⟩ := stm_nj f1 f2 (by omega) u1
  obtain ⟨s12, ev⟩ : ∃ y : Int, y = nr s11 := ⟨_, rfl⟩
  have u2 := nr_b (t := s11) (by omega)
  rw [← ev] at u2
  have ud := f4
  rw [w2] at ud
  have u3 := dp_3 (t := s11) (j := 2) (by omega) (by omega) (Or.inr rfl)
  have u4 := dp_nn s11
  have u5 := dp_7 (t := s11) (by omega)
  have hz := s6_cl f0 (by omega) (by omega) (by omega) (by omega)
  rw [show s4 / 3 = s11 by omega] at hz
  exact poXu (u := [s11, s12]) (.head _) rfl hR (by rw [wMn_eq, wMx_eq]; intro x hx; simp only [List.mem_cons, List.not_mem_nil, or_false] at hx; omega) (all_cons (ivO (y := s10) rfl (show (2 : Int) ≤ s10 by omega) (show s10 ≤ (9 : Int) by omega)) (all_cons (ivO (y := s11) rfl (show (0 : Int) ≤ s11 by omega) (show s11 ≤ (2186 : Int) by omega)) (all_cons (ivO (y := s12) rfl (show (0 : Int) ≤ s12 by omega) (show s12 ≤ (6560 : Int) by omega)) (all_nil)))) (all_nil) (all_cons ⟨[(s0 - 1), s11], ⟨sEv (y' := ((-1 : Int) + ((1 : Int) * s0 + 0))) rfl (by omega), sE_V rfl, trivial⟩, (show ∃ n : Nat, (s0 - 1) = (n : Int) ∧ n ≤ 45 ∧ sFo (fun j => hI hp 287 j) n s11 from w1)⟩ (all_cons ⟨[s11, (s10 - 1)], ⟨sE_V rfl, sEv (y' := ((-1 : Int) + ((1 : Int) * s10 + 0))) rfl (by omega), trivial⟩, (show (s10 - 1) = dp s11 + 1 from (show _ = dp s11 + 1 by omega))⟩ (all_cons ⟨[s7, 6, s3, s12], ⟨sE_V rfl, sE_k _ _, sE_V rfl, sE_V rfl, trivial⟩, (show SG (MT hp) (nmM hp) s7 (6 : Int) s3 s12 from sg_u ev hz)⟩ (all_cons ⟨[s11, s12], ⟨sE_V rfl, sE_V rfl, trivial⟩, (show s12 = nr s11 from ev)⟩ (all_nil)))))
theorem rl882 : ruOk fFS gR882 := by
  intro r hp hO hN hH
  obtain ⟨s0, s1, s2, s3, rfl⟩ := len4 (show r.length = 4 from hN.1)
  have hR := hN.2.1.1
  have hIv : ∀ q ∈ ([(0, .ofNat 0, .ofNat 44), (1, .ofNat 21, .ofNat 22), (2, .negSucc 2147483647, .ofNat 2147483647), (3, .ofNat 0, .ofNat 6560)] : sIv), ∃ x, ([s0, s1, s2, s3] : List Int)[q.1]? = some x ∧ q.2.1 ≤ x ∧ x ≤ q.2.2 := hN.2.1.2
  have b0 : (0 : Int) ≤ s0 ∧ s0 ≤ (44 : Int) := ivX (q := (0, .ofNat 0, .ofNat 44)) (y := s0) (hIv _ (.head _)) rfl
  have b1 : (21 : Int) ≤ s1 ∧ s1 ≤ (22 : Int) := ivX (q := (1, .ofNat 21, .ofNat 22)) (y := s1) (hIv _ (.tail _ (.head _))) rfl
  have b3 : (0 : Int) ≤ s3 ∧ s3 ≤ (6560 : Int) := ivX (q := (3, .ofNat 0, .ofNat 6560)) (y := s3) (hIv _ (.tail _ (.tail _ (.tail _ (.head _))))) rfl
  have hRf : ∀ q ∈ ([((78, .ofNat 273, []), (.ofNat 50, []), 1, .ofNat 0, [(.ofNat 1, 0)]), ((92, .ofNat 287, []), (.ofNat 0, [(.ofNat 1, 0)]), 1, .ofNat 0, [(.ofNat 1, 1)])] : List sRf), rfOk [s0, s1, s2, s3] hp q := hH.1
  have h0 : hI hp 273 50 = s0 := rfI0 (hRf _ (.head _)) (sE_k _ _) (sE_k _ _) (sE_V rfl)
  have y0 : (0 : Int) ≤ s0 ∧ s0 ≤ (45 : Int) := by rw [← h0]; exact hI_ty hO (by decide) rfl
  obtain ⟨i1, e1, l1, h1⟩ := rfI (xv := s1) (iv := s0) (hRf _ (.tail _ (.head _))) (sE_k _ _) (sE_V rfl) (sE_V rfl)
  have l1 : i1 < 45 := l1
  have h1 : hI hp 287 i1 = s1 := h1
  have hFc : ∀ q ∈ ([(212, [(.ofNat 0, [(.ofNat 1, 0)]), (.ofNat 0, [(.ofNat 1, 2)])]), (200, [(.ofNat 0, [(.ofNat 1, 3)]), (.ofNat 0, [(.ofNat 1, 2)])])] : List sFc), fcOk fFS [s0, s1, s2, s3] hp q := hH.2
  have f0 : ∃ n : Nat, s0 = (n : Int) ∧ n ≤ 45 ∧ sFo (fun j => hI hp 287 j) n s2 := fcX (ys := [s0, s2]) (hFc _ (.head _)) ⟨sE_V rfl, sE_V rfl, trivial⟩
  have f1 : s2 = nr s3 := fcX (ys := [s3, s2]) (hFc _ (.tail _ (.head _))) ⟨sE_V rfl, sE_V rfl, trivial⟩
  have u1 := nr_3 (t := s3) (by omega) (by omega)
  rw [← f1] at u1
  exact poX (.head _) rfl hR (all_nil) (all_nil) (all_cons ⟨[(s0 + 1), s2], ⟨sEv (y' := ((1 : Int) + ((1 : Int) * s0 + 0))) rfl (by omega), sE_V rfl, trivial⟩, (show ∃ n : Nat, (s0 + 1) = (n : Int) ∧ n ≤ 45 ∧ sFo (fun j => hI hp 287 j) n s2 from stm_psh f0 h1 (by omega) (by omega) (Or.inr (Or.inr ⟨by omega, rfl, u1⟩)) rfl)⟩ (all_nil))
theorem rl883 : ruOk fFS gR883 := by
  intro r hp hO hN hH
  obtain ⟨s0, s1, s2, s3, s4, s5, s6, s7, rfl⟩ := len8 (show r.length = 8 from hN.1)
  have hR := hN.2.1.1
  have hIv : ∀ q ∈ ([(0, .negSucc 2147483647, .ofNat 2147483647), (1, .ofNat 6, .ofNat 6), (2, .negSucc 2147483647, .ofNat 2147483647), (3, .negSucc 2147483647, .ofNat 2147483647), (4, .ofNat 1, .ofNat 1), (5, .negSucc 2147483647, .ofNat 2147483647), (6, .negSucc 2147483647, .ofNat 2147483647), (7, .ofNat 19, .ofNat 20)] : sIv), ∃ x, ([s0, s1, s2, s3, s4, s5, s6, s7] : List Int)[q.1]? = some x ∧ q.2.1 ≤ x ∧ x ≤ q.2.2 := hN.2.1.2
  have b1 : (6 : Int) ≤ s1 ∧ s1 ≤ (6 : Int) := ivX (q := (1, .ofNat 6, .ofNat 6)) (y := s1) (hIv _ (.tail _ (.head _))) rfl
  have b4 : (1 : Int) ≤ s4 ∧ s4 ≤ (1 : Int) := ivX (q := (4, .ofNat 1, .ofNat 1)) (y := s4) (hIv _ (.tail _ (.tail _ (.tail _ (.tail _ (.head _)))))) rfl
  have b7 : (19 : Int) ≤ s7 ∧ s7 ≤ (20 : Int) := ivX (q := (7, .ofNat 19, .ofNat 20)) (y := s7) (hIv _ (.tail _ (.tail _ (.tail _ (.tail _ (.tail _ (.tail _ (.tail _ (.head _))))))))) rfl
  have hFc : ∀ q ∈ ([(207, [(.ofNat 0, [(.ofNat 1, 0)]), (.ofNat 0, [(.ofNat 1, 1)]), (.ofNat 0, [(.ofNat 1, 2)]), (.ofNat 0, [(.ofNat 1, 3)]), (.ofNat 0, [(.ofNat 1, 4)]), (.ofNat 0, [(.ofNat 1, 5)]), (.ofNat 0, [(.ofNat 1, 6)]), (.ofNat 0, [(.ofNat 1, 7)])])] : List sFc), fcOk fFS [s0, s1, s2, s3, s4, s5, s6, s7] hp q := hH.2
  have f0 : SHq (MT hp) (nmM hp) s0 s1 s2 s3 s4 s5 s6 s7 := fcX (ys := [s0, s1, s2, s3, s4, s5, s6, s7]) (hFc _ (.head _)) ⟨sE_V rfl, sE_V rfl, sE_V rfl, sE_V rfl, sE_V rfl, sE_V rfl, sE_V rfl, sE_V rfl, trivial⟩
  exact poX (.head _) rfl hR (all_nil) (all_nil) (all_cons ⟨[s6, 0, s2, s3], ⟨sE_V rfl, sE_k _ _, sE_V rfl, sE_V rfl, trivial⟩, (show SG (MT hp) (nmM hp) s6 (0 : Int) s2 s3 from s6_join f0 (by omega) (by omega) (by omega))⟩ (all_nil))
theorem rl884 : ruOk fFS gR884 := by
  intro r hp hO hN hH
  obtain ⟨s0, s1, s2, s3, s4, s5, s6, s7, s8, s9, rfl⟩ := len10 (show r.length = 10 from hN.1)
  have hR := hN.2.1.1
  have hIv : ∀ q ∈ ([(0, .ofNat 1, .ofNat 45), (1, .negSucc 2147483647, .ofNat 2147483647), (2, .ofNat 6, .ofNat 6), (3, .negSucc 2147483647, .ofNat 2147483647), (4, .ofNat 0, .ofNat 6560), (5, .ofNat 0, .ofNat 0), (6, .negSucc 2147483647, .ofNat 2147483647), (7, .negSucc 2147483647, .ofNat 2147483647), (8, .negSucc 2147483647, .ofNat 2147483647), (9, .ofNat 0, .ofNat 6560)] : sIv), ∃ x, ([s0, s1, s2, s3, s4, s5, s6, s7, s8, s9] : List Int)[q.1]? = some x ∧ q.2.1 ≤ x ∧ x ≤ q.2.2 := hN.2.1.2
  have b0 : (1 : Int) ≤ s0 ∧ s0 ≤ (45 : Int) := ivX (q := (0, .ofNat 1, .ofNat 45)) (y := s0) (hIv _ (.head _)) rfl
  have b2 : (6 : Int) ≤ s2 ∧ s2 ≤ (6 : Int) := ivX (q := (2, .ofNat 6, .ofNat 6)) (y := s2) (hIv _ (.tail _ (.tail _ (.head _)))) rfl
  have b4 : (0 : Int) ≤ s4 ∧ s4 ≤ (6560 : Int) := ivX (q := (4, .ofNat 0, .ofNat 6560)) (y := s4) (hIv _ (.tail _ (.tail _ (.tail _ (.tail _ (.head _)))))) rfl
  have b5 : (0 : Int) ≤ s5 ∧ s5 ≤ (0 : Int) := ivX (q := (5, .ofNat 0, .ofNat 0)) (y := s5) (hIv _ (.tail _ (.tail _ (.tail _ (.tail _ (.tail _ (.head _))))))) rfl
  have b9 : (0 : Int) ≤ s9 ∧ s9 ≤ (6560 : Int) := ivX (q := (9, .ofNat 0, .ofNat 6560)) (y := s9) (hIv _ (.tail _ (.tail _ (.tail _ (.tail _ (.tail _ (.tail _ (.tail _ (.tail _ (.tail _ (.head _))))))))))) rfl
  have hRf : ∀ q ∈ ([((78, .ofNat 273, []), (.ofNat 50, []), 1, .ofNat 0, [(.ofNat 1, 0)])] : List sRf), rfOk [s0, s1, s2, s3, s4, s5, s6, s7, s8, s9] hp q := hH.1
  have h0 : hI hp 273 50 = s0 := rfI0 (hRf _ (.head _)) (sE_k _ _) (sE_k _ _) (sE_V rfl)
  have y0 : (0 : Int) ≤ s0 ∧ s0 ≤ (45 : Int) := by rw [← h0]; exact hI_ty hO (by decide) rfl
  have hFc : ∀ q ∈ ([(207, [(.ofNat 0, [(.ofNat 1, 1)]), (.ofNat 0, [(.ofNat 1, 2)]), (.ofNat 0, [(.ofNat 1, 3)]), (.ofNat 0, [(.ofNat 1, 4)]), (.ofNat 0, [(.ofNat 1, 5)]), (.ofNat 0, [(.ofNat 1, 6)]), (.ofNat 0, [(.ofNat 1, 7)]), (.ofNat 0, [(.ofNat 1, 8)])]), (212, [(.ofNat 0, [(.ofNat 1, 0)]), (.ofNat 0, [(.ofNat 1, 4)])]), (23, [(.ofNat 0, [(.ofNat 1, 0)])]), (200, [(.ofNat 0, [(.ofNat 1, 9)]), (.ofNat 0, [(.ofNat 1, 4)])])] : List sFc), fcOk fFS [s0, s1, s2, s3, s4, s5, s6, s7, s8, s9] hp q := hH.2
  have f0 : SHq (MT hp) (nmM hp) s1 s2 s3 s4 s5 s6 s7 s8 := fcX (ys := [s1, s2, s3, s4, s5, s6, s7, s8]) (hFc _ (.head _)) ⟨sE_V rfl, sE_V rfl, sE_V rfl, sE_V rfl, sE_V rfl, sE_V rfl, sE_V rfl, sE_V rfl, trivial⟩
  have f1 : ∃ n : Nat, s0 = (n : Int) ∧ n ≤ 45 ∧ sFo (fun j => hI hp 287 j) n s4 := fcX (ys := [s0, s4]) (hFc _ (.tail _ (.head _))) ⟨sE_V rfl, sE_V rfl, trivial⟩
  have f2 : fNj s0 hp := fcX (ys := [s0]) (hFc _ (.tail _ (.tail _ (.head _)))) ⟨sE_V rfl, trivial⟩
  have f3 : s4 = nr s9 := fcX (ys := [s9, s4]) (hFc _ (.tail _ (.tail _ (.tail _ (.head _))))) ⟨sE_V rfl, sE_V rfl, trivial⟩
  have u0 := f3
  have u1 := nr_3 (t := s9) (by omega) (by omega)
  rw [← u0] at u1
  obtain ⟨w, w0, -, w2⟩ := stm_nj f1 f2 (by omega) u1
  exact poX (.head _) rfl hR (all_nil) (all_nil) (all_cons ⟨[1, s6], ⟨sE_k _ _, sE_V rfl, trivial⟩, (show SRS (MT hp) (nmM hp) (1 : Int) s6 from s6_f1 f0 (by omega) (by omega) (by omega) (by omega))⟩ (all_nil))
theorem rl889 : ruOk fFS gR889 := by
  intro r hp hO hN hH
  obtain ⟨s0, rfl⟩ := len1 (show r.length = 1 from hN.1)
  have hR := hN.2.1.1
  have hIv : ∀ q ∈ ([(0, .negSucc 2147483647, .ofNat 2147483647)] : sIv), ∃ x, ([s0] : List Int)[q.1]? = some x ∧ q.2.1 ≤ x ∧ x ≤ q.2.2 := hN.2.1.2
  have hRf : ∀ q ∈ ([((78, .ofNat 273, []), (.ofNat 49, []), 1, .ofNat 0, [(.ofNat 1, 0)])] : List sRf), rfOk [s0] hp q := hH.1
  have h0 : hI hp 273 49 = s0 := rfI0 (hRf _ (.head _)) (sE_k _ _) (sE_k _ _) (sE_V rfl)
  have y0 : (0 : Int) ≤ s0 ∧ s0 ≤ (20 : Int) := by rw [← h0]; exact hI_ty hO (by decide) rfl
  have hFc : ∀ q ∈ ([(209, [(.ofNat 0, [(.ofNat 1, 0)])])] : List sFc), fcOk fFS [s0] hp q := hH.2
  have f0 : SDN (MT hp) (nmM hp) s0 := fcX (ys := [s0]) (hFc _ (.head _)) ⟨sE_V rfl, trivial⟩
  exact poX (.head _) rfl hR (all_nil) (all_nil) (all_cons ⟨[s0, 0], ⟨sE_V rfl, sE_k _ _, trivial⟩, (show SAN (MT hp) (nmM hp) s0 (0 : Int) from Or.inl ⟨f0, rfl⟩)⟩ (all_nil))
theorem rl901 : ruOk fFS gR901 := by
  intro r hp hO hN hH
  have hr0 := len0 (show r.length = 0 from hN.1)
  subst hr0
  have hR := hN.2.1.1
  exact poX (.head _) rfl hR (all_nil) (all_nil) (all_cons ⟨[0], ⟨sE_k _ _, trivial⟩, (show ∀ j : Nat, j < 12 → (j : Int) < (0 : Int) → hL hp 290 (12 + j) = hL hp 278 j from fun j _ w => absurd w (by omega))⟩ (all_nil))
theorem rl902 : ruOk fFS gR902 := by
  intro r hp hO hN hH
  have hr0 := len0 (show r.length = 0 from hN.1)
  subst hr0
  have hR := hN.2.1.1
  exact poX (.head _) rfl hR (all_nil) (all_nil) (all_cons ⟨[0], ⟨sE_k _ _, trivial⟩, (show ∀ j : Nat, j < 12 → (j : Int) < (0 : Int) → hL hp 290 (0 + j) = hL hp 278 j from fun j _ w => absurd w (by omega))⟩ (all_nil))
theorem rl903 : ruOk fFS gR903 := by
  intro r hp hO hN hH
  obtain ⟨s0, s1, rfl⟩ := len2 (show r.length = 2 from hN.1)
  have hR := hN.2.1.1
  have hIv : ∀ q ∈ ([(0, .ofNat 0, .ofNat 11)] : sIv), ∃ x, ([s0, s1] : List Int)[q.1]? = some x ∧ q.2.1 ≤ x ∧ x ≤ q.2.2 := hN.2.1.2
  have b0 : (0 : Int) ≤ s0 ∧ s0 ≤ (11 : Int) := ivX (q := (0, .ofNat 0, .ofNat 11)) (y := s0) (hIv _ (.head _)) rfl
  have hRf : ∀ q ∈ ([((95, .ofNat 290, []), (.ofNat 12, [(.ofNat 1, 0)]), 5, .ofNat 0, [(.ofNat 1, 1)]), ((83, .ofNat 278, []), (.ofNat 0, [(.ofNat 1, 0)]), 5, .ofNat 0, [(.ofNat 1, 1)])] : List sRf), rfOk [s0, s1] hp q := hH.1
  obtain ⟨i0, e0, l0, h0⟩ := rfL (iv := (s0 + 12)) (hRf _ (.head _)) (sE_k _ _) (sEv (y' := ((12 : Int) + ((1 : Int) * s0 + 0))) rfl (by omega)) (sE_V rfl)
  have l0 : i0 < 24 := l0
  have h0 : hL hp 290 i0 = s1 := h0
  obtain ⟨i1, e1, l1, h1⟩ := rfL (iv := s0) (hRf _ (.tail _ (.head _))) (sE_k _ _) (sE_V rfl) (sE_V rfl)
  have l1 : i1 < 24 := l1
  have h1 : hL hp 278 i1 = s1 := h1
  have hFc : ∀ q ∈ ([(239, [(.ofNat 0, [(.ofNat 1, 0)])])] : List sFc), fcOk fFS [s0, s1] hp q := hH.2
  have f0 : ∀ j : Nat, j < 12 → (j : Int) < s0 → hL hp 290 (12 + j) = hL hp 278 j := fcX (ys := [s0]) (hFc _ (.head _)) ⟨sE_V rfl, trivial⟩
  exact poX (.head _) rfl hR (all_nil) (all_nil) (all_cons ⟨[(s0 + 1)], ⟨sEv (y' := ((1 : Int) + ((1 : Int) * s0 + 0))) rfl (by omega), trivial⟩, (show ∀ j : Nat, j < 12 → (j : Int) < (s0 + 1) → hL hp 290 (12 + j) = hL hp 278 j from nmc_s (X := fun j => hL hp 290 (12 + j)) (Y := fun j => hL hp 278 j) (j0 := i1) f0 (by show hL hp 290 (12 + i1) = _; rw [show 12 + i1 = i0 by omega, h0]) h1 (by omega) (by omega))⟩ (all_nil))
theorem rl904 : ruOk fFS gR904 := by
  intro r hp hO hN hH
  obtain ⟨s0, s1, rfl⟩ := len2 (show r.length = 2 from hN.1)
  have hR := hN.2.1.1
  have hIv : ∀ q ∈ ([(0, .ofNat 0, .ofNat 11)] : sIv), ∃ x, ([s0, s1] : List Int)[q.1]? = some x ∧ q.2.1 ≤ x ∧ x ≤ q.2.2 := hN.2.1.2
  have b0 : (0 : Int) ≤ s0 ∧ s0 ≤ (11 : Int) := ivX (q := (0, .ofNat 0, .ofNat 11)) (y := s0) (hIv _ (.head _)) rfl
  have hRf : ∀ q ∈ ([((95, .ofNat 290, []), (.ofNat 0, [(.ofNat 1, 0)]), 5, .ofNat 0, [(.ofNat 1, 1)]), ((83, .ofNat 278, []), (.ofNat 0, [(.ofNat 1, 0)]), 5, .ofNat 0, [(.ofNat 1, 1)])] : List sRf), rfOk [s0, s1] hp q := hH.1
  obtain ⟨i0, e0, l0, h0⟩ := rfL (iv := s0) (hRf _ (.head _)) (sE_k _ _) (sE_V rfl) (sE_V rfl)
  have l0 : i0 < 24 := l0
  have h0 : hL hp 290 i0 = s1 := h0
  obtain ⟨i1, e1, l1, h1⟩ := rfL (iv := s0) (hRf _ (.tail _ (.head _))) (sE_k _ _) (sE_V rfl) (sE_V rfl)
  have l1 : i1 < 24 := l1
  have h1 : hL hp 278 i1 = s1 := h1
  have hFc : ∀ q ∈ ([(234, [(.ofNat 0, [(.ofNat 1, 0)])])] : List sFc), fcOk fFS [s0, s1] hp q := hH.2
  have f0 : ∀ j : Nat, j < 12 → (j : Int) < s0 → hL hp 290 (0 + j) = hL hp 278 j := fcX (ys := [s0]) (hFc _ (.head _)) ⟨sE_V rfl, trivial⟩
  exact poX (.head _) rfl hR (all_nil) (all_nil) (all_cons ⟨[(s0 + 1)], ⟨sEv (y' := ((1 : Int) + ((1 : Int) * s0 + 0))) rfl (by omega), trivial⟩, (show ∀ j : Nat, j < 12 → (j : Int) < (s0 + 1) → hL hp 290 (0 + j) = hL hp 278 j from nmc_s (X := fun j => hL hp 290 (0 + j)) (Y := fun j => hL hp 278 j) (j0 := i1) f0 (by show hL hp 290 (0 + i1) = _; rw [show 0 + i1 = i0 by omega, h0]) h1 (by omega) (by omega))⟩ (all_nil))
theorem rl906 : ruOk fFS gR906 := by
  intro r hp hO hN hH
  obtain ⟨s0, s1, rfl⟩ := len2 (show r.length = 2 from hN.1)
  have hR := hN.2.1.1
  have hIv : ∀ q ∈ ([(0, .ofNat 871, .ofNat 871), (1, .ofNat 12, .ofNat 12)] : sIv), ∃ x, ([s0, s1] : List Int)[q.1]? = some x ∧ q.2.1 ≤ x ∧ x ≤ q.2.2 := hN.2.1.2
  have b0 : (871 : Int) ≤ s0 ∧ s0 ≤ (871 : Int) := ivX (q := (0, .ofNat 871, .ofNat 871)) (y := s0) (hIv _ (.head _)) rfl
  have b1 : (12 : Int) ≤ s1 ∧ s1 ≤ (12 : Int) := ivX (q := (1, .ofNat 12, .ofNat 12)) (y := s1) (hIv _ (.tail _ (.head _))) rfl
  have hFc : ∀ q ∈ ([(235, []), (20, [(.ofNat 0, [(.ofNat 1, 0)])]), (239, [(.ofNat 0, [(.ofNat 1, 1)])])] : List sFc), fcOk fFS [s0, s1] hp q := hH.2
  have f0 : ∀ c L, isW L → (nmR hp 244 c L ↔ nmM hp c L) := fcX (ys := []) (hFc _ (.head _)) trivial
  have f1 : fEq 289 871 275 0 871 s0 hp := fcX (ys := [s0]) (hFc _ (.tail _ (.head _))) ⟨sE_V rfl, trivial⟩
  have f2 : ∀ j : Nat, j < 12 → (j : Int) < s1 → hL hp 290 (12 + j) = hL hp 278 j := fcX (ys := [s1]) (hFc _ (.tail _ (.tail _ (.head _)))) ⟨sE_V rfl, trivial⟩
  exact poX (.head _) rfl hR (all_nil) (all_nil) (all_cons ⟨[], trivial, (show ∀ c L, isW L → (nmR hp 244 c L ↔ nmK hp 1 c L) from alike_r f0 (nmm_k (k' := 1) f1 (by omega) f2 (by omega)))⟩ (all_nil))
theorem rl908 : ruOk fFS gR908 := by
  intro r hp hO hN hH
  obtain ⟨s0, s1, rfl⟩ := len2 (show r.length = 2 from hN.1)
  have hR := hN.2.1.1
  have hIv : ∀ q ∈ ([(0, .ofNat 871, .ofNat 871), (1, .ofNat 12, .ofNat 12)] : sIv), ∃ x, ([s0, s1] : List Int)[q.1]? = some x ∧ q.2.1 ≤ x ∧ x ≤ q.2.2 := hN.2.1.2
  have b0 : (871 : Int) ≤ s0 ∧ s0 ≤ (871 : Int) := ivX (q := (0, .ofNat 871, .ofNat 871)) (y := s0) (hIv _ (.head _)) rfl
  have b1 : (12 : Int) ≤ s1 ∧ s1 ≤ (12 : Int) := ivX (q := (1, .ofNat 12, .ofNat 12)) (y := s1) (hIv _ (.tail _ (.head _))) rfl
  have hFc : ∀ q ∈ ([(230, []), (18, [(.ofNat 0, [(.ofNat 1, 0)])]), (234, [(.ofNat 0, [(.ofNat 1, 1)])])] : List sFc), fcOk fFS [s0, s1] hp q := hH.2
  have f0 : ∀ c L, isW L → (nmR hp 213 c L ↔ nmM hp c L) := fcX (ys := []) (hFc _ (.head _)) trivial
  have f1 : fEq 289 0 275 0 871 s0 hp := fcX (ys := [s0]) (hFc _ (.tail _ (.head _))) ⟨sE_V rfl, trivial⟩
  have f2 : ∀ j : Nat, j < 12 → (j : Int) < s1 → hL hp 290 (0 + j) = hL hp 278 j := fcX (ys := [s1]) (hFc _ (.tail _ (.tail _ (.head _)))) ⟨sE_V rfl, trivial⟩
  exact poX (.head _) rfl hR (all_nil) (all_nil) (all_cons ⟨[], trivial, (show ∀ c L, isW L → (nmR hp 213 c L ↔ nmK hp 0 c L) from alike_r f0 (nmm_k (k' := 0) f1 (by omega) f2 (by omega)))⟩ (all_nil))
theorem rl913 : ruOk fFS gR913 := by
  intro r hp hO hN hH
  obtain ⟨s0, s1, rfl⟩ := len2 (show r.length = 2 from hN.1)
  have hR := hN.2.1.1
  have hIv : ∀ q ∈ ([(0, .ofNat 871, .ofNat 871), (1, .ofNat 12, .ofNat 12)] : sIv), ∃ x, ([s0, s1] : List Int)[q.1]? = some x ∧ q.2.1 ≤ x ∧ x ≤ q.2.2 := hN.2.1.2
  have b0 : (871 : Int) ≤ s0 ∧ s0 ≤ (871 : Int) := ivX (q := (0, .ofNat 871, .ofNat 871)) (y := s0) (hIv _ (.head _)) rfl
  have b1 : (12 : Int) ≤ s1 ∧ s1 ≤ (12 : Int) := ivX (q := (1, .ofNat 12, .ofNat 12)) (y := s1) (hIv _ (.tail _ (.head _))) rfl
  have hFc : ∀ q ∈ ([(237, []), (20, [(.ofNat 0, [(.ofNat 1, 0)])]), (239, [(.ofNat 0, [(.ofNat 1, 1)])])] : List sFc), fcOk fFS [s0, s1] hp q := hH.2
  have f0 : ∀ c L, isW L → (nmR hp 3 c L ↔ nmK hp 1 c L) := fcX (ys := []) (hFc _ (.head _)) trivial
  have f1 : fEq 289 871 275 0 871 s0 hp := fcX (ys := [s0]) (hFc _ (.tail _ (.head _))) ⟨sE_V rfl, trivial⟩
  have f2 : ∀ j : Nat, j < 12 → (j : Int) < s1 → hL hp 290 (12 + j) = hL hp 278 j := fcX (ys := [s1]) (hFc _ (.tail _ (.tail _ (.head _)))) ⟨sE_V rfl, trivial⟩
  exact poX (.head _) rfl hR (all_nil) (all_nil) (all_cons ⟨[], trivial, (show ∀ c L, isW L → (nmR hp 3 c L ↔ nmM hp c L) from alike_r f0 (nmm_k (k' := 1) f1 (by omega) f2 (by omega)).symm)⟩ (all_nil))
theorem rl914 : ruOk fFS gR914 := by
  intro r hp hO hN hH
  obtain ⟨s0, s1, rfl⟩ := len2 (show r.length = 2 from hN.1)
  have hR := hN.2.1.1
  have hIv : ∀ q ∈ ([(0, .ofNat 871, .ofNat 871), (1, .ofNat 12, .ofNat 12)] : sIv), ∃ x, ([s0, s1] : List Int)[q.1]? = some x ∧ q.2.1 ≤ x ∧ x ≤ q.2.2 := hN.2.1.2
  have b0 : (871 : Int) ≤ s0 ∧ s0 ≤ (871 : Int) := ivX (q := (0, .ofNat 871, .ofNat 871)) (y := s0) (hIv _ (.head _)) rfl
  have b1 : (12 : Int) ≤ s1 ∧ s1 ≤ (12 : Int) := ivX (q := (1, .ofNat 12, .ofNat 12)) (y := s1) (hIv _ (.tail _ (.head _))) rfl
  have hFc : ∀ q ∈ ([(238, []), (20, [(.ofNat 0, [(.ofNat 1, 0)])]), (239, [(.ofNat 0, [(.ofNat 1, 1)])])] : List sFc), fcOk fFS [s0, s1] hp q := hH.2
  have f0 : ∀ c L, isW L → (nmR hp 16 c L ↔ nmK hp 1 c L) := fcX (ys := []) (hFc _ (.head _)) trivial
  have f1 : fEq 289 871 275 0 871 s0 hp := fcX (ys := [s0]) (hFc _ (.tail _ (.head _))) ⟨sE_V rfl, trivial⟩
  have f2 : ∀ j : Nat, j < 12 → (j : Int) < s1 → hL hp 290 (12 + j) = hL hp 278 j := fcX (ys := [s1]) (hFc _ (.tail _ (.tail _ (.head _)))) ⟨sE_V rfl, trivial⟩
  exact poX (.head _) rfl hR (all_nil) (all_nil) (all_cons ⟨[], trivial, (show ∀ c L, isW L → (nmR hp 16 c L ↔ nmM hp c L) from alike_r f0 (nmm_k (k' := 1) f1 (by omega) f2 (by omega)).symm)⟩ (all_nil))
theorem rl915 : ruOk fFS gR915 := by
  intro r hp hO hN hH
  obtain ⟨s0, s1, rfl⟩ := len2 (show r.length = 2 from hN.1)
  have hR := hN.2.1.1
  have hIv : ∀ q ∈ ([(0, .ofNat 871, .ofNat 871), (1, .ofNat 12, .ofNat 12)] : sIv), ∃ x, ([s0, s1] : List Int)[q.1]? = some x ∧ q.2.1 ≤ x ∧ x ≤ q.2.2 := hN.2.1.2
  have b0 : (871 : Int) ≤ s0 ∧ s0 ≤ (871 : Int) := ivX (q := (0, .ofNat 871, .ofNat 871)) (y := s0) (hIv _ (.head _)) rfl
  have b1 : (12 : Int) ≤ s1 ∧ s1 ≤ (12 : Int) := ivX (q := (1, .ofNat 12, .ofNat 12)) (y := s1) (hIv _ (.tail _ (.head _))) rfl
  have hFc : ∀ q ∈ ([(232, []), (18, [(.ofNat 0, [(.ofNat 1, 0)])]), (234, [(.ofNat 0, [(.ofNat 1, 1)])])] : List sFc), fcOk fFS [s0, s1] hp q := hH.2
  have f0 : ∀ c L, isW L → (nmR hp 3 c L ↔ nmK hp 0 c L) := fcX (ys := []) (hFc _ (.head _)) trivial
  have f1 : fEq 289 0 275 0 871 s0 hp := fcX (ys := [s0]) (hFc _ (.tail _ (.head _))) ⟨sE_V rfl, trivial⟩
  have f2 : ∀ j : Nat, j < 12 → (j : Int) < s1 → hL hp 290 (0 + j) = hL hp 278 j := fcX (ys := [s1]) (hFc _ (.tail _ (.tail _ (.head _)))) ⟨sE_V rfl, trivial⟩
  exact poX (.head _) rfl hR (all_nil) (all_nil) (all_cons ⟨[], trivial, (show ∀ c L, isW L → (nmR hp 3 c L ↔ nmM hp c L) from alike_r f0 (nmm_k (k' := 0) f1 (by omega) f2 (by omega)).symm)⟩ (all_nil))
theorem rl916 : ruOk fFS gR916 := by
  intro r hp hO hN hH
  obtain ⟨s0, s1, rfl⟩ := len2 (show r.length = 2 from hN.1)
  have hR := hN.2.1.1
  have hIv : ∀ q ∈ ([(0, .ofNat 871, .ofNat 871), (1, .ofNat 12, .ofNat 12)] : sIv), ∃ x, ([s0, s1] : List Int)[q.1]? = some x ∧ q.2.1 ≤ x ∧ x ≤ q.2.2 := hN.2.1.2
  have b0 : (871 : Int) ≤ s0 ∧ s0 ≤ (871 : Int) := ivX (q := (0, .ofNat 871, .ofNat 871)) (y := s0) (hIv _ (.head _)) rfl
  have b1 : (12 : Int) ≤ s1 ∧ s1 ≤ (12 : Int) := ivX (q := (1, .ofNat 12, .ofNat 12)) (y := s1) (hIv _ (.tail _ (.head _))) rfl
  have hFc : ∀ q ∈ ([(233, []), (18, [(.ofNat 0, [(.ofNat 1, 0)])]), (234, [(.ofNat 0, [(.ofNat 1, 1)])])] : List sFc), fcOk fFS [s0, s1] hp q := hH.2
  have f0 : ∀ c L, isW L → (nmR hp 16 c L ↔ nmK hp 0 c L) := fcX (ys := []) (hFc _ (.head _)) trivial
  have f1 : fEq 289 0 275 0 871 s0 hp := fcX (ys := [s0]) (hFc _ (.tail _ (.head _))) ⟨sE_V rfl, trivial⟩
  have f2 : ∀ j : Nat, j < 12 → (j : Int) < s1 → hL hp 290 (0 + j) = hL hp 278 j := fcX (ys := [s1]) (hFc _ (.tail _ (.tail _ (.head _)))) ⟨sE_V rfl, trivial⟩
  exact poX (.head _) rfl hR (all_nil) (all_nil) (all_cons ⟨[], trivial, (show ∀ c L, isW L → (nmR hp 16 c L ↔ nmM hp c L) from alike_r f0 (nmm_k (k' := 0) f1 (by omega) f2 (by omega)).symm)⟩ (all_nil))
end CkRul0
