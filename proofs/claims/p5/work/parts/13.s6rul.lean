section CkRul6
theorem rl480 : ruOk fFS gR480 := by
  intro r hp hO hN hH
  obtain ⟨s0, s1, s2, s3, s4, s5, s6, s7, s8, rfl⟩ := len9 (show r.length = 9 from hN.1)
  have hR := hN.2.1.1
  have hIv : ∀ q ∈ ([(0, .negSucc 2147483647, .ofNat 2147483647), (1, .negSucc 2147483647, .ofNat 2147483647), (2, .ofNat 0, .ofNat 7), (5, .negSucc 2147483647, .ofNat 2147483647), (6, .negSucc 2147483647, .ofNat 2147483647), (7, .negSucc 2147483647, .ofNat 2147483647), (8, .negSucc 2147483647, .ofNat 2147483647)] : sIv), ∃ x, ([s0, s1, s2, s3, s4, s5, s6, s7, s8] : List Int)[q.1]? = some x ∧ q.2.1 ≤ x ∧ x ≤ q.2.2 := hN.2.1.2
  have b2 : (0 : Int) ≤ s2 ∧ s2 ≤ (7 : Int) := ivX (q := (2, .ofNat 0, .ofNat 7)) (y := s2) (hIv _ (.tail _ (.tail _ (.head _)))) rfl
  have hCs : ∀ c ∈ ([(.ofNat 1, [(.negSucc 0, 1), (.ofNat 1, 6)])] : List sLn), ∃ x, sE [s0, s1, s2, s3, s4, s5, s6, s7, s8] c = some x ∧ x ≤ 0 := hN.2.2.1
  have c0 : ((1 : Int) + ((-1 : Int) * s1 + ((1 : Int) * s6 + 0))) ≤ 0 := csX (hCs _ (.head _)) rfl
  have hRf : ∀ q ∈ ([((43, .ofNat 176, []), (.ofNat 1, []), 18, .ofNat 2, []), ((2, .ofNat 2, []), (.ofNat 16, []), 28, .ofNat 0, [(.ofNat 1, 3)]), ((2, .ofNat 2, []), (.ofNat 17, []), 29, .ofNat 0, [(.ofNat 1, 4)]), ((12, .ofNat 0, [(.ofNat 1, 3)]), (.ofNat 0, [(.ofNat 1, 2)]), 1, .ofNat 0, [(.ofNat 1, 5)]), ((13, .ofNat 0, [(.ofNat 1, 4)]), (.ofNat 0, [(.ofNat 1, 2)]), 1, .ofNat 0, [(.ofNat 1, 6)]), ((2, .ofNat 2, []), (.ofNat 5, []), 1, .ofNat 0, [(.ofNat 1, 7)])] : List sRf), rfOk [s0, s1, s2, s3, s4, s5, s6, s7, s8] hp q := hH.1
  have g0 : hC hp 176 1 = 2 := by
    have u := rfR0 (xv := (2 : Int)) (c0 := 176) (i0 := 1) (hRf _ (.head _)) (sE_k _ _) (sE_k _ _) (sE_k _ _)
    show hC hp (176) 1 = 2
    omega
  have g1 : s3 = ((rr hp 1 16 : Nat) : Int) := rfR0 (c0 := hC hp 176 1) (hRf _ (.tail _ (.head _))) (by rw [g0]; exact sE_k _ _) (sE_k _ _) (sE_V rfl)
  have g2 : s4 = ((rr hp 1 17 : Nat) : Int) := rfR0 (c0 := hC hp 176 1) (hRf _ (.tail _ (.tail _ (.head _)))) (by rw [g0]; exact sE_k _ _) (sE_k _ _) (sE_V rfl)
  obtain ⟨i3, e3, l3, h3⟩ := rfI (xv := s5) (iv := s2) (hRf _ (.tail _ (.tail _ (.tail _ (.head _))))) (sEv (sE_V rfl) g1.symm) (sE_V rfl) (sE_V rfl)
  have l3 : i3 < 8 := l3
  have h3 : hI hp (rr hp 1 16) i3 = s5 := h3
  obtain ⟨i4, e4, l4, h4⟩ := rfI (xv := s6) (iv := s2) (hRf _ (.tail _ (.tail _ (.tail _ (.tail _ (.head _)))))) (sEv (sE_V rfl) g2.symm) (sE_V rfl) (sE_V rfl)
  have l4 : i4 < 8 := l4
  have h4 : hI hp (rr hp 1 17) i4 = s6 := h4
  have h5 : hI hp (hC hp 176 1) 5 = s7 := rfI0 (c0 := hC hp 176 1) (hRf _ (.tail _ (.tail _ (.tail _ (.tail _ (.tail _ (.head _))))))) (by rw [g0]; exact sE_k _ _) (sE_k _ _) (sE_V rfl)
  have hFc : ∀ q ∈ ([(95, [(.ofNat 0, [(.ofNat 1, 2)]), (.ofNat 0, [(.ofNat 1, 8)]), (.ofNat 0, [(.ofNat 1, 0)]), (.ofNat 0, [(.ofNat 1, 1)])])] : List sFc), fcOk fFS [s0, s1, s2, s3, s4, s5, s6, s7, s8] hp q := hH.2
  have f0 : ∀ i : Nat, i < 8 → (i : Int) < s2 → ¬ (hI hp (rr hp 1 16) i = s0 ∧ hI hp (rr hp 1 17) i = s1) := fcX (ys := [s2, s8, s0, s1]) (hFc _ (.head _)) ⟨sE_V rfl, sE_V rfl, sE_V rfl, sE_V rfl, trivial⟩
  exact poX (.head _) rfl hR (all_nil) (all_nil) (all_cons ⟨[(s2 + 1), s8, s0, s1], ⟨sEv (y' := ((1 : Int) + ((1 : Int) * s2 + 0))) rfl (by omega), sE_V rfl, sE_V rfl, sE_V rfl, trivial⟩, (show ∀ i : Nat, i < 8 → (i : Int) < (s2 + 1) → ¬ (hI hp (rr hp 1 16) i = s0 ∧ hI hp (rr hp 1 17) i = s1) from nn_s f0 h3 h4 (by omega) (by omega) (by omega) (by omega))⟩ (all_nil))
theorem rl481 : ruOk fFS gR481 := by
  intro r hp hO hN hH
  obtain ⟨s0, s1, s2, s3, s4, s5, s6, s7, s8, rfl⟩ := len9 (show r.length = 9 from hN.1)
  have hR := hN.2.1.1
  have hIv : ∀ q ∈ ([(0, .negSucc 2147483647, .ofNat 2147483647), (1, .negSucc 2147483647, .ofNat 2147483647), (2, .ofNat 0, .ofNat 7), (5, .negSucc 2147483647, .ofNat 2147483647), (6, .negSucc 2147483647, .ofNat 2147483647), (7, .negSucc 2147483647, .ofNat 2147483647), (8, .negSucc 2147483647, .ofNat 2147483647)] : sIv), ∃ x, ([s0, s1, s2, s3, s4, s5, s6, s7, s8] : List Int)[q.1]? = some x ∧ q.2.1 ≤ x ∧ x ≤ q.2.2 := hN.2.1.2
  have b2 : (0 : Int) ≤ s2 ∧ s2 ≤ (7 : Int) := ivX (q := (2, .ofNat 0, .ofNat 7)) (y := s2) (hIv _ (.tail _ (.tail _ (.head _)))) rfl
  have hCs : ∀ c ∈ ([(.ofNat 1, [(.ofNat 1, 1), (.negSucc 0, 6)])] : List sLn), ∃ x, sE [s0, s1, s2, s3, s4, s5, s6, s7, s8] c = some x ∧ x ≤ 0 := hN.2.2.1
  have c0 : ((1 : Int) + ((1 : Int) * s1 + ((-1 : Int) * s6 + 0))) ≤ 0 := csX (hCs _ (.head _)) rfl
  have hRf : ∀ q ∈ ([((43, .ofNat 176, []), (.ofNat 1, []), 18, .ofNat 2, []), ((2, .ofNat 2, []), (.ofNat 16, []), 28, .ofNat 0, [(.ofNat 1, 3)]), ((2, .ofNat 2, []), (.ofNat 17, []), 29, .ofNat 0, [(.ofNat 1, 4)]), ((12, .ofNat 0, [(.ofNat 1, 3)]), (.ofNat 0, [(.ofNat 1, 2)]), 1, .ofNat 0, [(.ofNat 1, 5)]), ((13, .ofNat 0, [(.ofNat 1, 4)]), (.ofNat 0, [(.ofNat 1, 2)]), 1, .ofNat 0, [(.ofNat 1, 6)]), ((2, .ofNat 2, []), (.ofNat 5, []), 1, .ofNat 0, [(.ofNat 1, 7)])] : List sRf), rfOk [s0, s1, s2, s3, s4, s5, s6, s7, s8] hp q := hH.1
  have g0 : hC hp 176 1 = 2 := by
    have u := rfR0 (xv := (2 : Int)) (c0 := 176) (i0 := 1) (hRf _ (.head _)) (sE_k _ _) (sE_k _ _) (sE_k _ _)
    show hC hp (176) 1 = 2
    omega
  have g1 : s3 = ((rr hp 1 16 : Nat) : Int) := rfR0 (c0 := hC hp 176 1) (hRf _ (.tail _ (.head _))) (by rw [g0]; exact sE_k _ _) (sE_k _ _) (sE_V rfl)
  have g2 : s4 = ((rr hp 1 17 : Nat) : Int) := rfR0 (c0 := hC hp 176 1) (hRf _ (.tail _ (.tail _ (.head _)))) (by rw [g0]; exact sE_k _ _) (sE_k _ _) (sE_V rfl)
  obtain ⟨i3, e3, l3, h3⟩ := rfI (xv := s5) (iv := s2) (hRf _ (.tail _ (.tail _ (.tail _ (.head _))))) (sEv (sE_V rfl) g1.symm) (sE_V rfl) (sE_V rfl)
  have l3 : i3 < 8 := l3
  have h3 : hI hp (rr hp 1 16) i3 = s5 := h3
  obtain ⟨i4, e4, l4, h4⟩ := rfI (xv := s6) (iv := s2) (hRf _ (.tail _ (.tail _ (.tail _ (.tail _ (.head _)))))) (sEv (sE_V rfl) g2.symm) (sE_V rfl) (sE_V rfl)
  have l4 : i4 < 8 := l4
  have h4 : hI hp (rr hp 1 17) i4 = s6 := h4
  have h5 : hI hp (hC hp 176 1) 5 = s7 := rfI0 (c0 := hC hp 176 1) (hRf _ (.tail _ (.tail _ (.tail _ (.tail _ (.tail _ (.head _))))))) (by rw [g0]; exact sE_k _ _) (sE_k _ _) (sE_V rfl)
  have hFc : ∀ q ∈ ([(95, [(.ofNat 0, [(.ofNat 1, 2)]), (.ofNat 0, [(.ofNat 1, 8)]), (.ofNat 0, [(.ofNat 1, 0)]), (.ofNat 0, [(.ofNat 1, 1)])])] : List sFc), fcOk fFS [s0, s1, s2, s3, s4, s5, s6, s7, s8] hp q := hH.2
  have f0 : ∀ i : Nat, i < 8 → (i : Int) < s2 → ¬ (hI hp (rr hp 1 16) i = s0 ∧ hI hp (rr hp 1 17) i = s1) := fcX (ys := [s2, s8, s0, s1]) (hFc _ (.head _)) ⟨sE_V rfl, sE_V rfl, sE_V rfl, sE_V rfl, trivial⟩
  exact poX (.head _) rfl hR (all_nil) (all_nil) (all_cons ⟨[(s2 + 1), s8, s0, s1], ⟨sEv (y' := ((1 : Int) + ((1 : Int) * s2 + 0))) rfl (by omega), sE_V rfl, sE_V rfl, sE_V rfl, trivial⟩, (show ∀ i : Nat, i < 8 → (i : Int) < (s2 + 1) → ¬ (hI hp (rr hp 1 16) i = s0 ∧ hI hp (rr hp 1 17) i = s1) from nn_s f0 h3 h4 (by omega) (by omega) (by omega) (by omega))⟩ (all_nil))
theorem rl482 : ruOk fFS gR482 := by
  intro r hp hO hN hH
  obtain ⟨s0, s1, s2, s3, s4, s5, s6, s7, s8, rfl⟩ := len9 (show r.length = 9 from hN.1)
  have hR := hN.2.1.1
  have hIv : ∀ q ∈ ([(0, .negSucc 2147483647, .ofNat 2147483647), (1, .negSucc 2147483647, .ofNat 2147483647), (2, .ofNat 0, .ofNat 7), (5, .negSucc 2147483647, .ofNat 2147483647), (6, .negSucc 2147483647, .ofNat 2147483647), (7, .negSucc 2147483647, .ofNat 2147483647), (8, .negSucc 2147483647, .ofNat 2147483647)] : sIv), ∃ x, ([s0, s1, s2, s3, s4, s5, s6, s7, s8] : List Int)[q.1]? = some x ∧ q.2.1 ≤ x ∧ x ≤ q.2.2 := hN.2.1.2
  have b2 : (0 : Int) ≤ s2 ∧ s2 ≤ (7 : Int) := ivX (q := (2, .ofNat 0, .ofNat 7)) (y := s2) (hIv _ (.tail _ (.tail _ (.head _)))) rfl
  have hCs : ∀ c ∈ ([(.ofNat 1, [(.ofNat 1, 2), (.negSucc 0, 7)]), (.ofNat 0, [(.negSucc 0, 0), (.ofNat 1, 5)]), (.ofNat 0, [(.ofNat 1, 0), (.negSucc 0, 5)]), (.ofNat 0, [(.negSucc 0, 1), (.ofNat 1, 6)]), (.ofNat 0, [(.ofNat 1, 1), (.negSucc 0, 6)])] : List sLn), ∃ x, sE [s0, s1, s2, s3, s4, s5, s6, s7, s8] c = some x ∧ x ≤ 0 := hN.2.2.1
  have c0 : ((1 : Int) + ((1 : Int) * s2 + ((-1 : Int) * s7 + 0))) ≤ 0 := csX (hCs _ (.head _)) rfl
  have c1 : ((0 : Int) + ((-1 : Int) * s0 + ((1 : Int) * s5 + 0))) ≤ 0 := csX (hCs _ (.tail _ (.head _))) rfl
  have c2 : ((0 : Int) + ((1 : Int) * s0 + ((-1 : Int) * s5 + 0))) ≤ 0 := csX (hCs _ (.tail _ (.tail _ (.head _)))) rfl
  have c3 : ((0 : Int) + ((-1 : Int) * s1 + ((1 : Int) * s6 + 0))) ≤ 0 := csX (hCs _ (.tail _ (.tail _ (.tail _ (.head _))))) rfl
  have c4 : ((0 : Int) + ((1 : Int) * s1 + ((-1 : Int) * s6 + 0))) ≤ 0 := csX (hCs _ (.tail _ (.tail _ (.tail _ (.tail _ (.head _)))))) rfl
  have hRf : ∀ q ∈ ([((43, .ofNat 176, []), (.ofNat 1, []), 18, .ofNat 2, []), ((2, .ofNat 2, []), (.ofNat 16, []), 28, .ofNat 0, [(.ofNat 1, 3)]), ((2, .ofNat 2, []), (.ofNat 17, []), 29, .ofNat 0, [(.ofNat 1, 4)]), ((12, .ofNat 0, [(.ofNat 1, 3)]), (.ofNat 0, [(.ofNat 1, 2)]), 1, .ofNat 0, [(.ofNat 1, 5)]), ((13, .ofNat 0, [(.ofNat 1, 4)]), (.ofNat 0, [(.ofNat 1, 2)]), 1, .ofNat 0, [(.ofNat 1, 6)]), ((2, .ofNat 2, []), (.ofNat 5, []), 1, .ofNat 0, [(.ofNat 1, 7)])] : List sRf), rfOk [s0, s1, s2, s3, s4, s5, s6, s7, s8] hp q := hH.1
  have g0 : hC hp 176 1 = 2 := by
    have u := rfR0 (xv := (2 : Int)) (c0 := 176) (i0 := 1) (hRf _ (.head _)) (sE_k _ _) (sE_k _ _) (sE_k _ _)
    show hC hp (176) 1 = 2
    omega
  have g1 : s3 = ((rr hp 1 16 : Nat) : Int) := rfR0 (c0 := hC hp 176 1) (hRf _ (.tail _ (.head _))) (by rw [g0]; exact sE_k _ _) (sE_k _ _) (sE_V rfl)
  have g2 : s4 = ((rr hp 1 17 : Nat) : Int) := rfR0 (c0 := hC hp 176 1) (hRf _ (.tail _ (.tail _ (.head _)))) (by rw [g0]; exact sE_k _ _) (sE_k _ _) (sE_V rfl)
  obtain ⟨i3, e3, l3, h3⟩ := rfI (xv := s5) (iv := s2) (hRf _ (.tail _ (.tail _ (.tail _ (.head _))))) (sEv (sE_V rfl) g1.symm) (sE_V rfl) (sE_V rfl)
  have l3 : i3 < 8 := l3
  have h3 : hI hp (rr hp 1 16) i3 = s5 := h3
  obtain ⟨i4, e4, l4, h4⟩ := rfI (xv := s6) (iv := s2) (hRf _ (.tail _ (.tail _ (.tail _ (.tail _ (.head _)))))) (sEv (sE_V rfl) g2.symm) (sE_V rfl) (sE_V rfl)
  have l4 : i4 < 8 := l4
  have h4 : hI hp (rr hp 1 17) i4 = s6 := h4
  have h5 : hI hp (hC hp 176 1) 5 = s7 := rfI0 (c0 := hC hp 176 1) (hRf _ (.tail _ (.tail _ (.tail _ (.tail _ (.tail _ (.head _))))))) (by rw [g0]; exact sE_k _ _) (sE_k _ _) (sE_V rfl)
  have hFc : ∀ q ∈ ([(75, [(.ofNat 0, [(.ofNat 1, 7)]), (.ofNat 0, [(.ofNat 1, 8)])])] : List sFc), fcOk fFS [s0, s1, s2, s3, s4, s5, s6, s7, s8] hp q := hH.2
  have f0 : dF (XT hp) s8 (fun D => s7 = (dWi D).length ∧ ∀ i : Nat, i < 8 → (i : Int) < s7 → (dWi D)[i]? = some (hI hp (rr hp 1 16) i, hI hp (rr hp 1 17) i)) := fcX (ys := [s7, s8]) (hFc _ (.head _)) ⟨sE_V rfl, sE_V rfl, trivial⟩
  exact poX (.head _) rfl hR (all_nil) (all_nil) (all_cons ⟨[s8, s0, s1, 1], ⟨sE_V rfl, sE_V rfl, sE_V rfl, sE_k _ _, trivial⟩, (show dF (XT hp) s8 (fun D => bP (1 : Int) ((s0, s1) ∈ dWi D)) from dF_mp f0 (fun D h => bP_i1 (lst_mem h (by rw [h3]; omega) (by rw [h4]; omega) (by omega) (by omega) (by omega)) rfl))⟩ (all_nil))
theorem rl483 : ruOk fFS gR483 := by
  intro r hp hO hN hH
  obtain ⟨s0, s1, s2, s3, s4, rfl⟩ := len5 (show r.length = 5 from hN.1)
  have hR := hN.2.1.1
  have hIv : ∀ q ∈ ([(0, .negSucc 2147483647, .ofNat 2147483647), (1, .negSucc 2147483647, .ofNat 2147483647), (2, .negSucc 2147483647, .ofNat 2147483647), (3, .negSucc 2147483647, .ofNat 2147483647), (4, .negSucc 2147483647, .ofNat 2147483647)] : sIv), ∃ x, ([s0, s1, s2, s3, s4] : List Int)[q.1]? = some x ∧ q.2.1 ≤ x ∧ x ≤ q.2.2 := hN.2.1.2
  have hCs : ∀ c ∈ ([(.ofNat 0, [(.negSucc 0, 2), (.ofNat 1, 3)])] : List sLn), ∃ x, sE [s0, s1, s2, s3, s4] c = some x ∧ x ≤ 0 := hN.2.2.1
  have c0 : ((0 : Int) + ((-1 : Int) * s2 + ((1 : Int) * s3 + 0))) ≤ 0 := csX (hCs _ (.head _)) rfl
  have hRf : ∀ q ∈ ([((43, .ofNat 176, []), (.ofNat 1, []), 18, .ofNat 2, []), ((2, .ofNat 2, []), (.ofNat 5, []), 1, .ofNat 0, [(.ofNat 1, 3)])] : List sRf), rfOk [s0, s1, s2, s3, s4] hp q := hH.1
  have g0 : hC hp 176 1 = 2 := by
    have u := rfR0 (xv := (2 : Int)) (c0 := 176) (i0 := 1) (hRf _ (.head _)) (sE_k _ _) (sE_k _ _) (sE_k _ _)
    show hC hp (176) 1 = 2
    omega
  have h1 : hI hp (hC hp 176 1) 5 = s3 := rfI0 (c0 := hC hp 176 1) (hRf _ (.tail _ (.head _))) (by rw [g0]; exact sE_k _ _) (sE_k _ _) (sE_V rfl)
  have hFc : ∀ q ∈ ([(95, [(.ofNat 0, [(.ofNat 1, 2)]), (.ofNat 0, [(.ofNat 1, 4)]), (.ofNat 0, [(.ofNat 1, 0)]), (.ofNat 0, [(.ofNat 1, 1)])]), (75, [(.ofNat 0, [(.ofNat 1, 3)]), (.ofNat 0, [(.ofNat 1, 4)])])] : List sFc), fcOk fFS [s0, s1, s2, s3, s4] hp q := hH.2
  have f0 : ∀ i : Nat, i < 8 → (i : Int) < s2 → ¬ (hI hp (rr hp 1 16) i = s0 ∧ hI hp (rr hp 1 17) i = s1) := fcX (ys := [s2, s4, s0, s1]) (hFc _ (.head _)) ⟨sE_V rfl, sE_V rfl, sE_V rfl, sE_V rfl, trivial⟩
  have f1 : dF (XT hp) s4 (fun D => s3 = (dWi D).length ∧ ∀ i : Nat, i < 8 → (i : Int) < s3 → (dWi D)[i]? = some (hI hp (rr hp 1 16) i, hI hp (rr hp 1 17) i)) := fcX (ys := [s3, s4]) (hFc _ (.tail _ (.head _))) ⟨sE_V rfl, sE_V rfl, trivial⟩
  exact poX (.head _) rfl hR (all_nil) (all_nil) (all_cons ⟨[s4, s0, s1, 0], ⟨sE_V rfl, sE_V rfl, sE_V rfl, sE_k _ _, trivial⟩, (show dF (XT hp) s4 (fun D => bP (0 : Int) ((s0, s1) ∈ dWi D)) from dF_mp (dF_I (XT_ok hO) f1) (fun D h => bP_i0 (lst_no h.2 f0 (by omega) (by have h1 := h.1.1.2.2.2.2.2.2.2; have h2 := h.2.1; omega)) rfl))⟩ (all_nil))
theorem rl484 : ruOk fFS gR484 := by
  intro r hp hO hN hH
  obtain ⟨s0, s1, s2, s3, s4, s5, s6, s7, s8, s9, s10, s11, s12, s13, s14, s15, s16, s17, s18, s19, s20, s21, s22, s23, s24, s25, s26, rfl⟩ := len27 (show r.length = 27 from hN.1)
  have hR := hN.2.1.1
  have hIv : ∀ q ∈ ([(0, .negSucc 2147483647, .ofNat 2147483647), (1, .negSucc 2147483647, .ofNat 2147483647), (4, .ofNat 0, .ofNat 7), (5, .negSucc 2147483647, .ofNat 2147483647), (6, .negSucc 2147483647, .ofNat 2147483647), (7, .negSucc 2147483647, .ofNat 2147483647), (8, .ofNat 25, .ofNat 25), (9, .negSucc 2147483647, .ofNat 2147483647), (10, .negSucc 2147483647, .ofNat 2147483647), (11, .negSucc 2147483647, .ofNat 2147483647), (12, .negSucc 2147483647, .ofNat 2147483647), (13, .negSucc 2147483647, .ofNat 2147483647), (14, .ofNat 2, .ofNat 2), (15, .negSucc 2147483647, .ofNat 2147483647), (16, .negSucc 2147483647, .ofNat 2147483647), (17, .negSucc 2147483647, .ofNat 2147483647), (18, .negSucc 2147483647, .ofNat 2147483647), (19, .negSucc 2147483647, .ofNat 2147483647), (20, .negSucc 2147483647, .ofNat 2147483647), (21, .negSucc 2147483647, .ofNat 2147483647), (22, .negSucc 2147483647, .ofNat 2147483647), (23, .negSucc 2147483647, .ofNat 2147483647), (24, .negSucc 2147483647, .ofNat 2147483647), (25, .negSucc 2147483647, .ofNat 2147483647), (26, .negSucc 2147483647, .ofNat 2147483647)] : sIv), ∃ x, ([s0, s1, s2, s3, s4, s5, s6, s7, s8, s9, s10, s11, s12, s13, s14, s15, s16, s17, s18, s19, s20, s21, s22, s23, s24, s25, s26] : List Int)[q.1]? = some x ∧ q.2.1 ≤ x ∧ x ≤ q.2.2 := hN.2.1.2
  have b2 : (0 : Int) ≤ s4 ∧ s4 ≤ (7 : Int) := ivX (q := (4, .ofNat 0, .ofNat 7)) (y := s4) (hIv _ (.tail _ (.tail _ (.head _)))) rfl
  have b6 : (25 : Int) ≤ s8 ∧ s8 ≤ (25 : Int) := ivX (q := (8, .ofNat 25, .ofNat 25)) (y := s8) (hIv _ (.tail _ (.tail _ (.tail _ (.tail _ (.tail _ (.tail _ (.head _)))))))) rfl
  have b12 : (2 : Int) ≤ s14 ∧ s14 ≤ (2 : Int) := ivX (q := (14, .ofNat 2, .ofNat 2)) (y := s14) (hIv _ (.tail _ (.tail _ (.tail _ (.tail _ (.tail _ (.tail _ (.tail _ (.tail _ (.tail _ (.tail _ (.tail _ (.tail _ (.head _)))))))))))))) rfl
  have hCs : ∀ c ∈ ([(.ofNat 0, [(.negSucc 0, 0), (.ofNat 1, 5)]), (.ofNat 0, [(.ofNat 1, 0), (.negSucc 0, 5)]), (.ofNat 0, [(.negSucc 0, 1), (.ofNat 1, 6)]), (.ofNat 0, [(.ofNat 1, 1), (.negSucc 0, 6)])] : List sLn), ∃ x, sE [s0, s1, s2, s3, s4, s5, s6, s7, s8, s9, s10, s11, s12, s13, s14, s15, s16, s17, s18, s19, s20, s21, s22, s23, s24, s25, s26] c = some x ∧ x ≤ 0 := hN.2.2.1
  have c0 : ((0 : Int) + ((-1 : Int) * s0 + ((1 : Int) * s5 + 0))) ≤ 0 := csX (hCs _ (.head _)) rfl
  have c1 : ((0 : Int) + ((1 : Int) * s0 + ((-1 : Int) * s5 + 0))) ≤ 0 := csX (hCs _ (.tail _ (.head _))) rfl
  have c2 : ((0 : Int) + ((-1 : Int) * s1 + ((1 : Int) * s6 + 0))) ≤ 0 := csX (hCs _ (.tail _ (.tail _ (.head _)))) rfl
  have c3 : ((0 : Int) + ((1 : Int) * s1 + ((-1 : Int) * s6 + 0))) ≤ 0 := csX (hCs _ (.tail _ (.tail _ (.tail _ (.head _))))) rfl
  have hRf : ∀ q ∈ ([((40, .ofNat 173, []), (.ofNat 9, []), 1, .ofNat 0, []), ((43, .ofNat 176, []), (.ofNat 1, []), 18, .ofNat 2, []), ((2, .ofNat 2, []), (.ofNat 16, []), 28, .ofNat 0, [(.ofNat 1, 2)]), ((2, .ofNat 2, []), (.ofNat 17, []), 29, .ofNat 0, [(.ofNat 1, 3)]), ((2, .ofNat 2, []), (.ofNat 5, []), 1, .ofNat 0, [(.ofNat 1, 4)]), ((12, .ofNat 0, [(.ofNat 1, 2)]), (.ofNat 0, [(.ofNat 1, 4)]), 1, .ofNat 0, [(.ofNat 1, 5)]), ((13, .ofNat 0, [(.ofNat 1, 3)]), (.ofNat 0, [(.ofNat 1, 4)]), 1, .ofNat 0, [(.ofNat 1, 6)])] : List sRf), rfOk [s0, s1, s2, s3, s4, s5, s6, s7, s8, s9, s10, s11, s12, s13, s14, s15, s16, s17, s18, s19, s20, s21, s22, s23, s24, s25, s26] hp q := hH.1
  have h0 : hI hp 173 9 = 0 := rfI0 (hRf _ (.head _)) (sE_k _ _) (sE_k _ _) (sE_k _ _)
  have g1 : hC hp 176 1 = 2 := by
    have u := rfR0 (xv := (2 : Int)) (c0 := 176) (i0 := 1) (hRf _ (.tail _ (.head _))) (sE_k _ _) (sE_k _ _) (sE_k _ _)
    show hC hp (176) 1 = 2
    omega
  have g2 : s2 = ((rr hp 1 16 : Nat) : Int) := rfR0 (c0 := hC hp 176 1) (hRf _ (.tail _ (.tail _ (.head _)))) (by rw [g1]; exact sE_k _ _) (sE_k _ _) (sE_V rfl)
  have g3 : s3 = ((rr hp 1 17 : Nat) : Int) := rfR0 (c0 := hC hp 176 1) (hRf _ (.tail _ (.tail _ (.tail _ (.head _))))) (by rw [g1]; exact sE_k _ _) (sE_k _ _) (sE_V rfl)
  have h4 : hI hp (hC hp 176 1) 5 = s4 := rfI0 (c0 := hC hp 176 1) (hRf _ (.tail _ (.tail _ (.tail _ (.tail _ (.head _)))))) (by rw [g1]; exact sE_k _ _) (sE_k _ _) (sE_V rfl)
  obtain ⟨i5, e5, l5, h5⟩ := rfI (xv := s5) (iv := s4) (hRf _ (.tail _ (.tail _ (.tail _ (.tail _ (.tail _ (.head _))))))) (sEv (sE_V rfl) g2.symm) (sE_V rfl) (sE_V rfl)
  have l5 : i5 < 8 := l5
  have h5 : hI hp (rr hp 1 16) i5 = s5 := h5
  obtain ⟨i6, e6, l6, h6⟩ := rfI (xv := s6) (iv := s4) (hRf _ (.tail _ (.tail _ (.tail _ (.tail _ (.tail _ (.tail _ (.head _)))))))) (sEv (sE_V rfl) g3.symm) (sE_V rfl) (sE_V rfl)
  have l6 : i6 < 8 := l6
  have h6 : hI hp (rr hp 1 17) i6 = s6 := h6
  have hFc : ∀ q ∈ ([(53, [(.ofNat 0, [(.ofNat 1, 7)]), (.ofNat 0, [(.ofNat 1, 8)]), (.ofNat 0, [(.ofNat 1, 9)]), (.ofNat 0, [(.ofNat 1, 0)]), (.ofNat 0, [(.ofNat 1, 1)]), (.ofNat 0, [(.ofNat 1, 10)]), (.ofNat 0, [(.ofNat 1, 11)]), (.ofNat 0, [(.ofNat 1, 12)]), (.ofNat 0, [(.ofNat 1, 13)]), (.ofNat 0, [(.ofNat 1, 14)]), (.ofNat 0, [(.ofNat 1, 15)]), (.ofNat 0, [(.ofNat 1, 16)]), (.ofNat 0, [(.ofNat 1, 17)])]), (59, [(.ofNat 0, [(.ofNat 1, 9)]), (.ofNat 0, [(.ofNat 1, 18)]), (.ofNat 0, [(.ofNat 1, 19)]), (.ofNat 0, [(.ofNat 1, 20)]), (.ofNat 0, [(.ofNat 1, 4)]), (.ofNat 0, [(.ofNat 1, 21)]), (.ofNat 0, [(.ofNat 1, 22)]), (.ofNat 0, [(.ofNat 1, 23)]), (.ofNat 0, [(.ofNat 1, 24)]), (.ofNat 0, [(.ofNat 1, 25)]), (.ofNat 0, [(.ofNat 1, 26)])]), (61, [(.ofNat 0, [(.ofNat 1, 9)])]), (68, [(.ofNat 0, [(.ofNat 1, 9)])]), (72, [(.ofNat 0, [(.ofNat 1, 21)]), (.ofNat 0, [(.ofNat 1, 9)])]), (74, [(.ofNat 0, [(.ofNat 1, 9)])]), (73, [(.ofNat 0, [(.ofNat 1, 21)])]), (75, [(.ofNat 0, [(.ofNat 1, 4)]), (.ofNat 0, [(.ofNat 1, 9)])]), (60, [(.ofNat 0, [(.ofNat 1, 7)])])] : List sFc), fcOk fFS [s0, s1, s2, s3, s4, s5, s6, s7, s8, s9, s10, s11, s12, s13, s14, s15, s16, s17, s18, s19, s20, s21, s22, s23, s24, s25, s26] hp q := hH.2
  have f0 : Hq (XT hp) s7 s8 s9 s0 s1 s10 s11 s12 s13 s14 s15 s16 s17 ∧ s14 ≠ 4 := fcX (ys := [s7, s8, s9, s0, s1, s10, s11, s12, s13, s14, s15, s16, s17]) (hFc _ (.head _)) ⟨sE_V rfl, sE_V rfl, sE_V rfl, sE_V rfl, sE_V rfl, sE_V rfl, sE_V rfl, sE_V rfl, sE_V rfl, sE_V rfl, sE_V rfl, sE_V rfl, sE_V rfl, trivial⟩
  have f1 : CT (XT hp) s9 s18 s19 s20 s4 s21 s22 s23 s24 s25 s26 := fcX (ys := [s9, s18, s19, s20, s4, s21, s22, s23, s24, s25, s26]) (hFc _ (.tail _ (.head _))) ⟨sE_V rfl, sE_V rfl, sE_V rfl, sE_V rfl, sE_V rfl, sE_V rfl, sE_V rfl, sE_V rfl, sE_V rfl, sE_V rfl, sE_V rfl, trivial⟩
  have f2 : dF (XT hp) s9 (fun D => ∀ j : Nat, j < 12 → hL hp (rr hp 1 7) j = cd 32 96 (nm D j)) := fcX (ys := [s9]) (hFc _ (.tail _ (.tail _ (.head _)))) ⟨sE_V rfl, trivial⟩
  have f3 : dF (XT hp) s9 (fun D => ∀ p : Nat, p < 100 → (fX hp p ↔ ¬ tkI D p)) := fcX (ys := [s9]) (hFc _ (.tail _ (.tail _ (.tail _ (.head _))))) ⟨sE_V rfl, trivial⟩
  have f4 : dF (XT hp) s9 (fun D => s21 = (dTr D).length ∧ ∀ i : Nat, i < 14 → (i : Int) < s21 → (dTr D)[i]? = some (hI hp (rr hp 2 6) i, hI hp (rr hp 2 7) i)) := fcX (ys := [s21, s9]) (hFc _ (.tail _ (.tail _ (.tail _ (.tail _ (.head _)))))) ⟨sE_V rfl, sE_V rfl, trivial⟩
  have f5 : dF (XT hp) s9 (fun D => ∀ j : Nat, j < 10 → wR (hI hp (rr hp 2 10) j) D j) := fcX (ys := [s9]) (hFc _ (.tail _ (.tail _ (.tail _ (.tail _ (.tail _ (.head _))))))) ⟨sE_V rfl, trivial⟩
  have f6 : ∀ i : Nat, i < 14 → (i : Int) < s21 → bt (hI hp (hC hp 176 2) 2) i := fcX (ys := [s21]) (hFc _ (.tail _ (.tail _ (.tail _ (.tail _ (.tail _ (.tail _ (.head _)))))))) ⟨sE_V rfl, trivial⟩
  have f7 : dF (XT hp) s9 (fun D => s4 = (dWi D).length ∧ ∀ i : Nat, i < 8 → (i : Int) < s4 → (dWi D)[i]? = some (hI hp (rr hp 1 16) i, hI hp (rr hp 1 17) i)) := fcX (ys := [s4, s9]) (hFc _ (.tail _ (.tail _ (.tail _ (.tail _ (.tail _ (.tail _ (.tail _ (.head _))))))))) ⟨sE_V rfl, sE_V rfl, trivial⟩
  have f8 : NO (XT hp) s7 := fcX (ys := [s7]) (hFc _ (.tail _ (.tail _ (.tail _ (.tail _ (.tail _ (.tail _ (.tail _ (.tail _ (.head _)))))))))) ⟨sE_V rfl, trivial⟩
  have u := hN25 (XT_ok hO) f0.1 (by omega) (by omega) f8
  have hd := u.2
  have hw1 : hI hp (rr hp 1 16) i5 = s0 := by rw [h5]; omega
  have hw2 : hI hp (rr hp 1 17) i6 = s1 := by rw [h6]; omega
  exact poX (.head _) rfl hR (all_nil) (all_nil) (all_cons ⟨[s16, 26, (s9 + 1), 0, 0, 0, 0, 0, 0], ⟨sE_V rfl, sE_k _ _, sEv (y' := ((1 : Int) + ((1 : Int) * s9 + 0))) rfl (by omega), sE_k _ _, sE_k _ _, sE_k _ _, sE_k _ _, sE_k _ _, sE_k _ _, trivial⟩, (show Gq (XT hp) s16 (26 : Int) (s9 + 1) (0 : Int) (0 : Int) (0 : Int) (0 : Int) (0 : Int) (0 : Int) from u.1)⟩ (all_cons ⟨[(s9 + 1), s18, s19, s20, (s4 + 1), s21, s22, s23, s24, s25, s26], ⟨sEv (y' := ((1 : Int) + ((1 : Int) * s9 + 0))) rfl (by omega), sE_V rfl, sE_V rfl, sE_V rfl, sEv (y' := ((1 : Int) + ((1 : Int) * s4 + 0))) rfl (by omega), sE_V rfl, sE_V rfl, sE_V rfl, sE_V rfl, sE_V rfl, sE_V rfl, trivial⟩, (show CT (XT hp) (s9 + 1) s18 s19 s20 (s4 + 1) s21 s22 s23 s24 s25 s26 from carry (XT_ok hO) hd f1 (fun D h => ct_aWi (by omega) h) (by omega))⟩ (all_cons ⟨[(s9 + 1)], ⟨sEv (y' := ((1 : Int) + ((1 : Int) * s9 + 0))) rfl (by omega), trivial⟩, (show dF (XT hp) (s9 + 1) (fun D => ∀ j : Nat, j < 12 → hL hp (rr hp 1 7) j = cd 32 96 (nm D j)) from carry (XT_ok hO) hd f2 (fun D h => h) (by omega))⟩ (all_cons ⟨[(s9 + 1)], ⟨sEv (y' := ((1 : Int) + ((1 : Int) * s9 + 0))) rfl (by omega), trivial⟩, (show dF (XT hp) (s9 + 1) (fun D => ∀ p : Nat, p < 100 → (fX hp p ↔ ¬ tkI D p)) from carry (XT_ok hO) hd f3 (fun D h => h) (by omega))⟩ (all_cons ⟨[s21, (s9 + 1)], ⟨sE_V rfl, sEv (y' := ((1 : Int) + ((1 : Int) * s9 + 0))) rfl (by omega), trivial⟩, (show dF (XT hp) (s9 + 1) (fun D => s21 = (dTr D).length ∧ ∀ i : Nat, i < 14 → (i : Int) < s21 → (dTr D)[i]? = some (hI hp (rr hp 2 6) i, hI hp (rr hp 2 7) i)) from carry (XT_ok hO) hd f4 (fun D h => h) (by omega))⟩ (all_cons ⟨[(s9 + 1)], ⟨sEv (y' := ((1 : Int) + ((1 : Int) * s9 + 0))) rfl (by omega), trivial⟩, (show dF (XT hp) (s9 + 1) (fun D => ∀ j : Nat, j < 10 → wR (hI hp (rr hp 2 10) j) D j) from carry (XT_ok hO) hd f5 (fun D h => h) (by omega))⟩ (all_cons ⟨[s21], ⟨sE_V rfl, trivial⟩, (show ∀ i : Nat, i < 14 → (i : Int) < s21 → bt (hI hp (hC hp 176 2) 2) i from f6)⟩ (all_cons ⟨[(s4 + 1), (s9 + 1)], ⟨sEv (y' := ((1 : Int) + ((1 : Int) * s4 + 0))) rfl (by omega), sEv (y' := ((1 : Int) + ((1 : Int) * s9 + 0))) rfl (by omega), trivial⟩, (show dF (XT hp) (s9 + 1) (fun D => (s4 + 1) = (dWi D).length ∧ ∀ i : Nat, i < 8 → (i : Int) < (s4 + 1) → (dWi D)[i]? = some (hI hp (rr hp 1 16) i, hI hp (rr hp 1 17) i)) from carry (XT_ok hO) hd f7 (fun D h => lst_add h hw1 hw2 (by omega) (by omega) (by omega)) (by omega))⟩ (all_nil)))))))))
theorem rl485 : ruOk fFS gR485 := by
  intro r hp hO hN hH
  obtain ⟨s0, s1, s2, s3, s4, s5, s6, s7, s8, s9, s10, s11, s12, s13, s14, rfl⟩ := len15 (show r.length = 15 from hN.1)
  have hR := hN.2.1.1
  have hIv : ∀ q ∈ ([(0, .ofNat 0, .ofNat 11), (2, .negSucc 2147483647, .ofNat 2147483647), (3, .negSucc 2147483647, .ofNat 2147483647), (4, .negSucc 2147483647, .ofNat 2147483647), (5, .negSucc 2147483647, .ofNat 2147483647), (6, .negSucc 2147483647, .ofNat 2147483647), (7, .negSucc 2147483647, .ofNat 2147483647), (8, .negSucc 2147483647, .ofNat 2147483647), (9, .negSucc 2147483647, .ofNat 2147483647), (10, .negSucc 2147483647, .ofNat 2147483647), (11, .negSucc 2147483647, .ofNat 2147483647), (12, .negSucc 2147483647, .ofNat 2147483647), (13, .negSucc 2147483647, .ofNat 2147483647), (14, .negSucc 2147483647, .ofNat 2147483647)] : sIv), ∃ x, ([s0, s1, s2, s3, s4, s5, s6, s7, s8, s9, s10, s11, s12, s13, s14] : List Int)[q.1]? = some x ∧ q.2.1 ≤ x ∧ x ≤ q.2.2 := hN.2.1.2
  have b0 : (0 : Int) ≤ s0 ∧ s0 ≤ (11 : Int) := ivX (q := (0, .ofNat 0, .ofNat 11)) (y := s0) (hIv _ (.head _)) rfl
  have hRf : ∀ q ∈ ([((43, .ofNat 176, []), (.ofNat 1, []), 18, .ofNat 2, []), ((2, .ofNat 2, []), (.ofNat 7, []), 19, .ofNat 3, []), ((3, .ofNat 3, []), (.ofNat 0, [(.ofNat 1, 0)]), 5, .ofNat 0, [(.ofNat 1, 1)]), ((40, .ofNat 173, []), (.ofNat 8, []), 5, .ofNat 0, [(.ofNat 1, 1)])] : List sRf), rfOk [s0, s1, s2, s3, s4, s5, s6, s7, s8, s9, s10, s11, s12, s13, s14] hp q := hH.1
  have g0 : hC hp 176 1 = 2 := by
    have u := rfR0 (xv := (2 : Int)) (c0 := 176) (i0 := 1) (hRf _ (.head _)) (sE_k _ _) (sE_k _ _) (sE_k _ _)
    show hC hp (176) 1 = 2
    omega
  have g1 : rr hp 1 7 = 3 := by
    have u := rfR0 (xv := (3 : Int)) (c0 := hC hp 176 1) (i0 := 7) (hRf _ (.tail _ (.head _))) (by rw [g0]; exact sE_k _ _) (sE_k _ _) (sE_k _ _)
    show hC hp (hC hp 176 1) 7 = 3
    omega
  obtain ⟨i2, e2, l2, h2⟩ := rfL (c0 := rr hp 1 7) (iv := s0) (hRf _ (.tail _ (.tail _ (.head _)))) (by rw [g1]; exact sE_k _ _) (sE_V rfl) (sE_V rfl)
  have l2 : i2 < 12 := l2
  have h2 : hL hp (rr hp 1 7) i2 = s1 := h2
  have h3 : hL hp 173 8 = s1 := rfL0 (hRf _ (.tail _ (.tail _ (.tail _ (.head _))))) (sE_k _ _) (sE_k _ _) (sE_V rfl)
  have hFc : ∀ q ∈ ([(62, [(.ofNat 0, [(.ofNat 1, 0)]), (.ofNat 0, [(.ofNat 1, 2)])]), (63, [(.ofNat 1, [(.ofNat 1, 0)]), (.ofNat 0, [(.ofNat 1, 2)])]), (53, [(.ofNat 0, [(.ofNat 1, 3)]), (.ofNat 0, [(.ofNat 1, 4)]), (.ofNat 0, [(.ofNat 1, 2)]), (.ofNat 0, [(.ofNat 1, 5)]), (.ofNat 0, [(.ofNat 1, 6)]), (.ofNat 0, [(.ofNat 1, 7)]), (.ofNat 0, [(.ofNat 1, 8)]), (.ofNat 0, [(.ofNat 1, 9)]), (.ofNat 0, [(.ofNat 1, 10)]), (.ofNat 0, [(.ofNat 1, 11)]), (.ofNat 0, [(.ofNat 1, 12)]), (.ofNat 0, [(.ofNat 1, 13)]), (.ofNat 0, [(.ofNat 1, 14)])]), (48, [(.ofNat 0, [(.ofNat 1, 12)]), (.ofNat 0, [(.ofNat 1, 13)])])] : List sFc), fcOk fFS [s0, s1, s2, s3, s4, s5, s6, s7, s8, s9, s10, s11, s12, s13, s14] hp q := hH.2
  have f0 : dF (XT hp) s2 (fun D => ∀ j : Nat, j < 12 → (j : Int) < s0 → hL hp (rr hp 1 7) j = cd 32 96 (nm D j)) := fcX (ys := [s0, s2]) (hFc _ (.head _)) ⟨sE_V rfl, sE_V rfl, trivial⟩
  have f1 : dF (XT hp) s2 (fun D => ∀ j : Nat, j < 12 → (s0 + 1) ≤ (j : Int) → hL hp (rr hp 1 7) j = cd 32 96 (nm D j)) := fcX (ys := [(s0 + 1), s2]) (hFc _ (.tail _ (.head _))) ⟨sEv (y' := ((1 : Int) + ((1 : Int) * s0 + 0))) rfl (by omega), sE_V rfl, trivial⟩
  have f2 : Hq (XT hp) s3 s4 s2 s5 s6 s7 s8 s9 s10 s11 s12 s13 s14 ∧ s11 ≠ 4 := fcX (ys := [s3, s4, s2, s5, s6, s7, s8, s9, s10, s11, s12, s13, s14]) (hFc _ (.tail _ (.tail _ (.head _)))) ⟨sE_V rfl, sE_V rfl, sE_V rfl, sE_V rfl, sE_V rfl, sE_V rfl, sE_V rfl, sE_V rfl, sE_V rfl, sE_V rfl, sE_V rfl, sE_V rfl, sE_V rfl, trivial⟩
  have f3 : isW (bs (XB hp) s12 s13) ∧ hL hp 173 8 = cd 32 96 (bs (XB hp) s12 s13) := fcX (ys := [s12, s13]) (hFc _ (.tail _ (.tail _ (.tail _ (.head _))))) ⟨sE_V rfl, sE_V rfl, trivial⟩
  exact poX (.head _) rfl hR (all_nil) (all_nil) (all_cons ⟨[s0, s2, s12, s13], ⟨sE_V rfl, sE_V rfl, sE_V rfl, sE_V rfl, trivial⟩, (show dF (XT hp) s2 (fun D => ∀ j : Nat, j < 12 → hL hp (rr hp 1 7) j = if (j : Int) = s0 then cd 32 96 (bs (XT hp).1 s12 s13) else cd 32 96 (nm D j)) from nb_x hO f0 f1 h2 h3 f2 f3 (by omega) (by omega))⟩ (all_nil))
theorem rl486 : ruOk fFS gR486 := by
  intro r hp hO hN hH
  obtain ⟨s0, s1, s2, s3, rfl⟩ := len4 (show r.length = 4 from hN.1)
  have hR := hN.2.1.1
  have hIv : ∀ q ∈ ([(0, .ofNat 0, .ofNat 99), (2, .ofNat 0, .ofNat 3), (3, .negSucc 2147483647, .ofNat 2147483647)] : sIv), ∃ x, ([s0, s1, s2, s3] : List Int)[q.1]? = some x ∧ q.2.1 ≤ x ∧ x ≤ q.2.2 := hN.2.1.2
  have b0 : (0 : Int) ≤ s0 ∧ s0 ≤ (99 : Int) := ivX (q := (0, .ofNat 0, .ofNat 99)) (y := s0) (hIv _ (.head _)) rfl
  have b1 : (0 : Int) ≤ s2 ∧ s2 ≤ (3 : Int) := ivX (q := (2, .ofNat 0, .ofNat 3)) (y := s2) (hIv _ (.tail _ (.head _))) rfl
  have hRf : ∀ q ∈ ([((43, .ofNat 176, []), (.ofNat 1, []), 18, .ofNat 2, []), ((2, .ofNat 2, []), (.ofNat 8, []), 20, .ofNat 0, [(.ofNat 1, 1)]), ((4, .ofNat 0, [(.ofNat 1, 1)]), (.ofNat 0, [(.ofNat 1, 0)]), 1, .ofNat 0, [(.ofNat 1, 2)])] : List sRf), rfOk [s0, s1, s2, s3] hp q := hH.1
  have g0 : hC hp 176 1 = 2 := by
    have u := rfR0 (xv := (2 : Int)) (c0 := 176) (i0 := 1) (hRf _ (.head _)) (sE_k _ _) (sE_k _ _) (sE_k _ _)
    show hC hp (176) 1 = 2
    omega
  have g1 : s1 = ((rr hp 1 8 : Nat) : Int) := rfR0 (c0 := hC hp 176 1) (hRf _ (.tail _ (.head _))) (by rw [g0]; exact sE_k _ _) (sE_k _ _) (sE_V rfl)
  obtain ⟨i2, e2, l2, h2⟩ := rfI (xv := s2) (iv := s0) (hRf _ (.tail _ (.tail _ (.head _)))) (sEv (sE_V rfl) g1.symm) (sE_V rfl) (sE_V rfl)
  have l2 : i2 < 100 := l2
  have h2 : hI hp (rr hp 1 8) i2 = s2 := h2
  have hFc : ∀ q ∈ ([(68, [(.ofNat 0, [(.ofNat 1, 3)])])] : List sFc), fcOk fFS [s0, s1, s2, s3] hp q := hH.2
  have f0 : dF (XT hp) s3 (fun D => ∀ p : Nat, p < 100 → (fX hp p ↔ ¬ tkI D p)) := fcX (ys := [s3]) (hFc _ (.head _)) ⟨sE_V rfl, trivial⟩
  exact poX (.head _) rfl hR (all_nil) (all_nil) (all_cons ⟨[s3, s0, 1], ⟨sE_V rfl, sE_V rfl, sE_k _ _, trivial⟩, (show dF (XT hp) s3 (fun D => bP (1 : Int) (tkI D s0)) from ce_1 f0 l2 (fX_o h2 (by omega)) e2 rfl)⟩ (all_nil))
theorem rl487 : ruOk fFS gR487 := by
  intro r hp hO hN hH
  obtain ⟨s0, s1, s2, s3, rfl⟩ := len4 (show r.length = 4 from hN.1)
  have hR := hN.2.1.1
  have hIv : ∀ q ∈ ([(0, .ofNat 0, .ofNat 99), (2, .ofNat 0, .ofNat 3), (3, .negSucc 2147483647, .ofNat 2147483647)] : sIv), ∃ x, ([s0, s1, s2, s3] : List Int)[q.1]? = some x ∧ q.2.1 ≤ x ∧ x ≤ q.2.2 := hN.2.1.2
  have b0 : (0 : Int) ≤ s0 ∧ s0 ≤ (99 : Int) := ivX (q := (0, .ofNat 0, .ofNat 99)) (y := s0) (hIv _ (.head _)) rfl
  have b1 : (0 : Int) ≤ s2 ∧ s2 ≤ (3 : Int) := ivX (q := (2, .ofNat 0, .ofNat 3)) (y := s2) (hIv _ (.tail _ (.head _))) rfl
  have hRf : ∀ q ∈ ([((43, .ofNat 176, []), (.ofNat 1, []), 18, .ofNat 2, []), ((2, .ofNat 2, []), (.ofNat 9, []), 21, .ofNat 0, [(.ofNat 1, 1)]), ((5, .ofNat 0, [(.ofNat 1, 1)]), (.ofNat 0, [(.ofNat 1, 0)]), 1, .ofNat 0, [(.ofNat 1, 2)])] : List sRf), rfOk [s0, s1, s2, s3] hp q := hH.1
  have g0 : hC hp 176 1 = 2 := by
    have u := rfR0 (xv := (2 : Int)) (c0 := 176) (i0 := 1) (hRf _ (.head _)) (sE_k _ _) (sE_k _ _) (sE_k _ _)
    show hC hp (176) 1 = 2
    omega
  have g1 : s1 = ((rr hp 1 9 : Nat) : Int) := rfR0 (c0 := hC hp 176 1) (hRf _ (.tail _ (.head _))) (by rw [g0]; exact sE_k _ _) (sE_k _ _) (sE_V rfl)
  obtain ⟨i2, e2, l2, h2⟩ := rfI (xv := s2) (iv := s0) (hRf _ (.tail _ (.tail _ (.head _)))) (sEv (sE_V rfl) g1.symm) (sE_V rfl) (sE_V rfl)
  have l2 : i2 < 100 := l2
  have h2 : hI hp (rr hp 1 9) i2 = s2 := h2
  have hFc : ∀ q ∈ ([(68, [(.ofNat 0, [(.ofNat 1, 3)])])] : List sFc), fcOk fFS [s0, s1, s2, s3] hp q := hH.2
  have f0 : dF (XT hp) s3 (fun D => ∀ p : Nat, p < 100 → (fX hp p ↔ ¬ tkI D p)) := fcX (ys := [s3]) (hFc _ (.head _)) ⟨sE_V rfl, trivial⟩
  exact poX (.head _) rfl hR (all_nil) (all_nil) (all_cons ⟨[s3, s0, 1], ⟨sE_V rfl, sE_V rfl, sE_k _ _, trivial⟩, (show dF (XT hp) s3 (fun D => bP (1 : Int) (tkI D s0)) from ce_1 f0 l2 (fX_s h2 (by omega)) e2 rfl)⟩ (all_nil))
theorem rl488 : ruOk fFS gR488 := by
  intro r hp hO hN hH
  obtain ⟨s0, s1, s2, s3, s4, s5, rfl⟩ := len6 (show r.length = 6 from hN.1)
  have hR := hN.2.1.1
  have hIv : ∀ q ∈ ([(0, .ofNat 0, .ofNat 99), (3, .negSucc 0, .negSucc 0), (4, .negSucc 0, .negSucc 0), (5, .negSucc 2147483647, .ofNat 2147483647)] : sIv), ∃ x, ([s0, s1, s2, s3, s4, s5] : List Int)[q.1]? = some x ∧ q.2.1 ≤ x ∧ x ≤ q.2.2 := hN.2.1.2
  have b0 : (0 : Int) ≤ s0 ∧ s0 ≤ (99 : Int) := ivX (q := (0, .ofNat 0, .ofNat 99)) (y := s0) (hIv _ (.head _)) rfl
  have b1 : (-1 : Int) ≤ s3 ∧ s3 ≤ (-1 : Int) := ivX (q := (3, .negSucc 0, .negSucc 0)) (y := s3) (hIv _ (.tail _ (.head _))) rfl
  have b2 : (-1 : Int) ≤ s4 ∧ s4 ≤ (-1 : Int) := ivX (q := (4, .negSucc 0, .negSucc 0)) (y := s4) (hIv _ (.tail _ (.tail _ (.head _)))) rfl
  have hRf : ∀ q ∈ ([((43, .ofNat 176, []), (.ofNat 1, []), 18, .ofNat 2, []), ((2, .ofNat 2, []), (.ofNat 8, []), 20, .ofNat 0, [(.ofNat 1, 1)]), ((2, .ofNat 2, []), (.ofNat 9, []), 21, .ofNat 0, [(.ofNat 1, 2)]), ((4, .ofNat 0, [(.ofNat 1, 1)]), (.ofNat 0, [(.ofNat 1, 0)]), 1, .ofNat 0, [(.ofNat 1, 3)]), ((5, .ofNat 0, [(.ofNat 1, 2)]), (.ofNat 0, [(.ofNat 1, 0)]), 1, .ofNat 0, [(.ofNat 1, 4)])] : List sRf), rfOk [s0, s1, s2, s3, s4, s5] hp q := hH.1
  have g0 : hC hp 176 1 = 2 := by
    have u := rfR0 (xv := (2 : Int)) (c0 := 176) (i0 := 1) (hRf _ (.head _)) (sE_k _ _) (sE_k _ _) (sE_k _ _)
    show hC hp (176) 1 = 2
    omega
  have g1 : s1 = ((rr hp 1 8 : Nat) : Int) := rfR0 (c0 := hC hp 176 1) (hRf _ (.tail _ (.head _))) (by rw [g0]; exact sE_k _ _) (sE_k _ _) (sE_V rfl)
  have g2 : s2 = ((rr hp 1 9 : Nat) : Int) := rfR0 (c0 := hC hp 176 1) (hRf _ (.tail _ (.tail _ (.head _)))) (by rw [g0]; exact sE_k _ _) (sE_k _ _) (sE_V rfl)
  obtain ⟨i3, e3, l3, h3⟩ := rfI (xv := s3) (iv := s0) (hRf _ (.tail _ (.tail _ (.tail _ (.head _))))) (sEv (sE_V rfl) g1.symm) (sE_V rfl) (sE_V rfl)
  have l3 : i3 < 100 := l3
  have h3 : hI hp (rr hp 1 8) i3 = s3 := h3
  obtain ⟨i4, e4, l4, h4⟩ := rfI (xv := s4) (iv := s0) (hRf _ (.tail _ (.tail _ (.tail _ (.tail _ (.head _)))))) (sEv (sE_V rfl) g2.symm) (sE_V rfl) (sE_V rfl)
  have l4 : i4 < 100 := l4
  have h4 : hI hp (rr hp 1 9) i4 = s4 := h4
  have hFc : ∀ q ∈ ([(68, [(.ofNat 0, [(.ofNat 1, 5)])])] : List sFc), fcOk fFS [s0, s1, s2, s3, s4, s5] hp q := hH.2
  have f0 : dF (XT hp) s5 (fun D => ∀ p : Nat, p < 100 → (fX hp p ↔ ¬ tkI D p)) := fcX (ys := [s5]) (hFc _ (.head _)) ⟨sE_V rfl, trivial⟩
  exact poX (.head _) rfl hR (all_nil) (all_nil) (all_cons ⟨[s5, s0, 0], ⟨sE_V rfl, sE_V rfl, sE_k _ _, trivial⟩, (show dF (XT hp) s5 (fun D => bP (0 : Int) (tkI D s0)) from ce_0 f0 l3 (fX_b h3 h4 (by omega) (by omega) (by omega)) e3 rfl)⟩ (all_nil))
theorem rl489 : ruOk fFS gR489 := by
  intro r hp hO hN hH
  obtain ⟨s0, s1, s2, s3, s4, s5, s6, s7, s8, s9, s10, rfl⟩ := len11 (show r.length = 11 from hN.1)
  have hR := hN.2.1.1
  have hIv : ∀ q ∈ ([(0, .negSucc 2147483647, .ofNat 2147483647), (1, .negSucc 2147483647, .ofNat 2147483647), (2, .negSucc 2147483647, .ofNat 2147483647), (3, .negSucc 2147483647, .ofNat 2147483647), (4, .ofNat 0, .ofNat 9), (5, .ofNat 0, .ofNat 9), (8, .negSucc 0, .ofNat 3), (9, .negSucc 0, .ofNat 2), (10, .negSucc 2147483647, .ofNat 2147483647)] : sIv), ∃ x, ([s0, s1, s2, s3, s4, s5, s6, s7, s8, s9, s10] : List Int)[q.1]? = some x ∧ q.2.1 ≤ x ∧ x ≤ q.2.2 := hN.2.1.2
  have b4 : (0 : Int) ≤ s4 ∧ s4 ≤ (9 : Int) := ivX (q := (4, .ofNat 0, .ofNat 9)) (y := s4) (hIv _ (.tail _ (.tail _ (.tail _ (.tail _ (.head _)))))) rfl
  have b5 : (0 : Int) ≤ s5 ∧ s5 ≤ (9 : Int) := ivX (q := (5, .ofNat 0, .ofNat 9)) (y := s5) (hIv _ (.tail _ (.tail _ (.tail _ (.tail _ (.tail _ (.head _))))))) rfl
  have b6 : (-1 : Int) ≤ s8 ∧ s8 ≤ (3 : Int) := ivX (q := (8, .negSucc 0, .ofNat 3)) (y := s8) (hIv _ (.tail _ (.tail _ (.tail _ (.tail _ (.tail _ (.tail _ (.head _)))))))) rfl
  have b7 : (-1 : Int) ≤ s9 ∧ s9 ≤ (2 : Int) := ivX (q := (9, .negSucc 0, .ofNat 2)) (y := s9) (hIv _ (.tail _ (.tail _ (.tail _ (.tail _ (.tail _ (.tail _ (.tail _ (.head _))))))))) rfl
  have hCs : ∀ c ∈ ([(.ofNat 0, [(.ofNat 1, 1), (.negSucc 0, 4)]), (.ofNat 1, [(.negSucc 0, 1), (.negSucc 0, 3), (.ofNat 1, 4)]), (.ofNat 0, [(.ofNat 1, 0), (.negSucc 0, 5)]), (.ofNat 1, [(.negSucc 0, 0), (.negSucc 0, 2), (.ofNat 1, 5)]), (.negSucc 0, [(.negSucc 0, 8), (.negSucc 0, 9)])] : List sLn), ∃ x, sE [s0, s1, s2, s3, s4, s5, s6, s7, s8, s9, s10] c = some x ∧ x ≤ 0 := hN.2.2.1
  have c0 : ((0 : Int) + ((1 : Int) * s1 + ((-1 : Int) * s4 + 0))) ≤ 0 := csX (hCs _ (.head _)) rfl
  have c1 : ((1 : Int) + ((-1 : Int) * s1 + ((-1 : Int) * s3 + ((1 : Int) * s4 + 0)))) ≤ 0 := csX (hCs _ (.tail _ (.head _))) rfl
  have c2 : ((0 : Int) + ((1 : Int) * s0 + ((-1 : Int) * s5 + 0))) ≤ 0 := csX (hCs _ (.tail _ (.tail _ (.head _)))) rfl
  have c3 : ((1 : Int) + ((-1 : Int) * s0 + ((-1 : Int) * s2 + ((1 : Int) * s5 + 0)))) ≤ 0 := csX (hCs _ (.tail _ (.tail _ (.tail _ (.head _))))) rfl
  have c4 : ((-1 : Int) + ((-1 : Int) * s8 + ((-1 : Int) * s9 + 0))) ≤ 0 := csX (hCs _ (.tail _ (.tail _ (.tail _ (.tail _ (.head _)))))) rfl
  have hRf : ∀ q ∈ ([((43, .ofNat 176, []), (.ofNat 1, []), 18, .ofNat 2, []), ((2, .ofNat 2, []), (.ofNat 8, []), 20, .ofNat 0, [(.ofNat 1, 6)]), ((2, .ofNat 2, []), (.ofNat 9, []), 21, .ofNat 0, [(.ofNat 1, 7)]), ((4, .ofNat 0, [(.ofNat 1, 6)]), (.ofNat 0, [(.ofNat 10, 4), (.ofNat 1, 5)]), 1, .ofNat 0, [(.ofNat 1, 8)]), ((5, .ofNat 0, [(.ofNat 1, 7)]), (.ofNat 0, [(.ofNat 10, 4), (.ofNat 1, 5)]), 1, .ofNat 0, [(.ofNat 1, 9)])] : List sRf), rfOk [s0, s1, s2, s3, s4, s5, s6, s7, s8, s9, s10] hp q := hH.1
  have g0 : hC hp 176 1 = 2 := by
    have u := rfR0 (xv := (2 : Int)) (c0 := 176) (i0 := 1) (hRf _ (.head _)) (sE_k _ _) (sE_k _ _) (sE_k _ _)
    show hC hp (176) 1 = 2
    omega
  have g1 : s6 = ((rr hp 1 8 : Nat) : Int) := rfR0 (c0 := hC hp 176 1) (hRf _ (.tail _ (.head _))) (by rw [g0]; exact sE_k _ _) (sE_k _ _) (sE_V rfl)
  have g2 : s7 = ((rr hp 1 9 : Nat) : Int) := rfR0 (c0 := hC hp 176 1) (hRf _ (.tail _ (.tail _ (.head _)))) (by rw [g0]; exact sE_k _ _) (sE_k _ _) (sE_V rfl)
  obtain ⟨i3, e3, l3, h3⟩ := rfI (xv := s8) (iv := (10 * s4 + s5)) (hRf _ (.tail _ (.tail _ (.tail _ (.head _))))) (sEv (sE_V rfl) g1.symm) (sEv (y' := ((0 : Int) + ((10 : Int) * s4 + ((1 : Int) * s5 + 0)))) rfl (by omega)) (sE_V rfl)
  have l3 : i3 < 100 := l3
  have h3 : hI hp (rr hp 1 8) i3 = s8 := h3
  obtain ⟨i4, e4, l4, h4⟩ := rfI (xv := s9) (iv := (10 * s4 + s5)) (hRf _ (.tail _ (.tail _ (.tail _ (.tail _ (.head _)))))) (sEv (sE_V rfl) g2.symm) (sEv (y' := ((0 : Int) + ((10 : Int) * s4 + ((1 : Int) * s5 + 0)))) rfl (by omega)) (sE_V rfl)
  have l4 : i4 < 100 := l4
  have h4 : hI hp (rr hp 1 9) i4 = s9 := h4
  have hFc : ∀ q ∈ ([(69, [(.ofNat 0, [(.ofNat 10, 4), (.ofNat 1, 5)]), (.ofNat 0, [(.ofNat 1, 10)]), (.ofNat 0, [(.ofNat 1, 0)]), (.ofNat 0, [(.ofNat 1, 1)]), (.ofNat 0, [(.ofNat 1, 2)]), (.ofNat 0, [(.ofNat 1, 3)])])] : List sFc), fcOk fFS [s0, s1, s2, s3, s4, s5, s6, s7, s8, s9, s10] hp q := hH.2
  have f0 : dF (XT hp) s10 (fun D => ∀ p : Nat, p < 100 → (p : Int) < (10 * s4 + s5) → (fX hp p ↔ ¬ (tkI D p ∨ inR s0 s1 s2 s3 p))) := fcX (ys := [(10 * s4 + s5), s10, s0, s1, s2, s3]) (hFc _ (.head _)) ⟨sEv (y' := ((0 : Int) + ((10 : Int) * s4 + ((1 : Int) * s5 + 0)))) rfl (by omega), sE_V rfl, sE_V rfl, sE_V rfl, sE_V rfl, sE_V rfl, trivial⟩
  exact poX (.head _) rfl hR (all_nil) (all_nil) (all_cons ⟨[(10 * s4 + s5 + 1), s10, s0, s1, s2, s3], ⟨sEv (y' := ((1 : Int) + ((10 : Int) * s4 + ((1 : Int) * s5 + 0)))) rfl (by omega), sE_V rfl, sE_V rfl, sE_V rfl, sE_V rfl, sE_V rfl, trivial⟩, (show dF (XT hp) s10 (fun D => ∀ p : Nat, p < 100 → (p : Int) < (10 * s4 + s5 + 1) → (fX hp p ↔ ¬ (tkI D p ∨ inR s0 s1 s2 s3 p))) from dF_mp f0 (fun D h => tl_s (j := i3) h (fun w => by have w1 := w.1; have w2 := w.2; rw [h3] at w1; rw [show i3 = i4 by omega, h4] at w2; omega) (by omega) (by omega) (by unfold inR; omega)))⟩ (all_nil))
theorem rl490 : ruOk fFS gR490 := by
  intro r hp hO hN hH
  obtain ⟨s0, s1, s2, s3, s4, s5, s6, s7, s8, s9, s10, rfl⟩ := len11 (show r.length = 11 from hN.1)
  have hR := hN.2.1.1
  have hIv : ∀ q ∈ ([(0, .negSucc 2147483647, .ofNat 2147483647), (1, .negSucc 2147483647, .ofNat 2147483647), (2, .negSucc 2147483647, .ofNat 2147483647), (3, .negSucc 2147483647, .ofNat 2147483647), (4, .negSucc 2147483647, .ofNat 2147483647), (5, .negSucc 2147483647, .ofNat 2147483647), (6, .negSucc 2147483647, .ofNat 2147483647), (7, .negSucc 2147483647, .ofNat 2147483647), (8, .negSucc 2147483647, .ofNat 2147483647), (9, .negSucc 2147483647, .ofNat 2147483647), (10, .negSucc 2147483647, .ofNat 2147483647)] : sIv), ∃ x, ([s0, s1, s2, s3, s4, s5, s6, s7, s8, s9, s10] : List Int)[q.1]? = some x ∧ q.2.1 ≤ x ∧ x ≤ q.2.2 := hN.2.1.2
  have hRf : ∀ q ∈ ([((43, .ofNat 176, []), (.ofNat 1, []), 18, .ofNat 2, []), ((2, .ofNat 2, []), (.ofNat 0, []), 1, .ofNat 0, [(.ofNat 1, 0)]), ((2, .ofNat 2, []), (.ofNat 1, []), 1, .ofNat 0, [(.ofNat 1, 1)])] : List sRf), rfOk [s0, s1, s2, s3, s4, s5, s6, s7, s8, s9, s10] hp q := hH.1
  have g0 : hC hp 176 1 = 2 := by
    have u := rfR0 (xv := (2 : Int)) (c0 := 176) (i0 := 1) (hRf _ (.head _)) (sE_k _ _) (sE_k _ _) (sE_k _ _)
    show hC hp (176) 1 = 2
    omega
  have h1 : hI hp (hC hp 176 1) 0 = s0 := rfI0 (c0 := hC hp 176 1) (hRf _ (.tail _ (.head _))) (by rw [g0]; exact sE_k _ _) (sE_k _ _) (sE_V rfl)
  have h2 : hI hp (hC hp 176 1) 1 = s1 := rfI0 (c0 := hC hp 176 1) (hRf _ (.tail _ (.tail _ (.head _)))) (by rw [g0]; exact sE_k _ _) (sE_k _ _) (sE_V rfl)
  have hFc : ∀ q ∈ ([(61, [(.ofNat 0, [(.ofNat 1, 2)])]), (59, [(.ofNat 0, [(.ofNat 1, 2)]), (.ofNat 0, [(.ofNat 1, 3)]), (.ofNat 0, [(.ofNat 1, 4)]), (.ofNat 0, [(.ofNat 1, 5)]), (.ofNat 0, [(.ofNat 1, 6)]), (.ofNat 0, [(.ofNat 1, 7)]), (.ofNat 0, [(.ofNat 1, 8)]), (.ofNat 0, [(.ofNat 1, 9)]), (.ofNat 0, [(.ofNat 1, 10)]), (.ofNat 0, [(.ofNat 1, 0)]), (.ofNat 0, [(.ofNat 1, 1)])])] : List sFc), fcOk fFS [s0, s1, s2, s3, s4, s5, s6, s7, s8, s9, s10] hp q := hH.2
  have f0 : dF (XT hp) s2 (fun D => ∀ j : Nat, j < 12 → hL hp (rr hp 1 7) j = cd 32 96 (nm D j)) := fcX (ys := [s2]) (hFc _ (.head _)) ⟨sE_V rfl, trivial⟩
  have f1 : CT (XT hp) s2 s3 s4 s5 s6 s7 s8 s9 s10 s0 s1 := fcX (ys := [s2, s3, s4, s5, s6, s7, s8, s9, s10, s0, s1]) (hFc _ (.tail _ (.head _))) ⟨sE_V rfl, sE_V rfl, sE_V rfl, sE_V rfl, sE_V rfl, sE_V rfl, sE_V rfl, sE_V rfl, sE_V rfl, sE_V rfl, sE_V rfl, trivial⟩
  have g1x := h1
  have g2x := h2
  rw [g0] at g1x g2x
  exact poX (.head _) rfl hR (all_nil) (all_nil) (all_cons ⟨[s2], ⟨sE_V rfl, trivial⟩, (show dF (XT hp) s2 (fun D => (∀ j : Nat, j < 12 → hL hp 3 j = cd 32 96 (nm D j)) ∧ hI hp 2 0 = dCx D ∧ hI hp 2 1 = dCy D) from (by have u := f0; rw [rr_A hO g0] at u; exact np_of hO u f1 g1x g2x))⟩ (all_nil))
theorem rl491 : ruOk fFS gR491 := by
  intro r hp hO hN hH
  obtain ⟨s0, rfl⟩ := len1 (show r.length = 1 from hN.1)
  have hR := hN.2.1.1
  have hIv : ∀ q ∈ ([(0, .ofNat 1, .ofNat 10)] : sIv), ∃ x, ([s0] : List Int)[q.1]? = some x ∧ q.2.1 ≤ x ∧ x ≤ q.2.2 := hN.2.1.2
  have b0 : (1 : Int) ≤ s0 ∧ s0 ≤ (10 : Int) := ivX (q := (0, .ofNat 1, .ofNat 10)) (y := s0) (hIv _ (.head _)) rfl
  have hRf : ∀ q ∈ ([((98, .ofNat 15, []), (.ofNat 0, []), 1, .ofNat 0, [(.ofNat 1, 0)])] : List sRf), rfOk [s0] hp q := hH.1
  have h0 : hI hp 15 0 = s0 := rfI0 (hRf _ (.head _)) (sE_k _ _) (sE_k _ _) (sE_V rfl)
  have y0 : (1 : Int) ≤ s0 ∧ s0 ≤ (10 : Int) := by rw [← h0]; exact hI_ty hO (by decide) rfl
  have y : (((1 : Int) ≤ s0 ∧ s0 ≤ (1 : Int))) ∨ (((2 : Int) ≤ s0 ∧ s0 ≤ (2 : Int))) ∨ (((3 : Int) ≤ s0 ∧ s0 ≤ (3 : Int))) ∨ (((4 : Int) ≤ s0 ∧ s0 ≤ (4 : Int))) ∨ (((5 : Int) ≤ s0 ∧ s0 ≤ (5 : Int))) ∨ (((6 : Int) ≤ s0 ∧ s0 ≤ (6 : Int))) ∨ (((7 : Int) ≤ s0 ∧ s0 ≤ (7 : Int))) ∨ (((8 : Int) ≤ s0 ∧ s0 ≤ (8 : Int))) ∨ (((9 : Int) ≤ s0 ∧ s0 ≤ (9 : Int))) ∨ (((10 : Int) ≤ s0 ∧ s0 ≤ (10 : Int))) := by omega
  rcases y with y | y | y | y | y | y | y | y | y | y
  · exact poX (.head _) rfl hR (all_cons (ivO (y := s0) rfl (show (1 : Int) ≤ s0 by omega) (show s0 ≤ (1 : Int) by omega)) (all_nil)) (all_nil) (all_nil)
  · exact poX (.tail _ (.head _)) rfl hR (all_cons (ivO (y := s0) rfl (show (2 : Int) ≤ s0 by omega) (show s0 ≤ (2 : Int) by omega)) (all_nil)) (all_nil) (all_nil)
  · exact poX (.tail _ (.tail _ (.head _))) rfl hR (all_cons (ivO (y := s0) rfl (show (3 : Int) ≤ s0 by omega) (show s0 ≤ (3 : Int) by omega)) (all_nil)) (all_nil) (all_nil)
  · exact poX (.tail _ (.tail _ (.tail _ (.head _)))) rfl hR (all_cons (ivO (y := s0) rfl (show (4 : Int) ≤ s0 by omega) (show s0 ≤ (4 : Int) by omega)) (all_nil)) (all_nil) (all_nil)
  · exact poX (.tail _ (.tail _ (.tail _ (.tail _ (.head _))))) rfl hR (all_cons (ivO (y := s0) rfl (show (5 : Int) ≤ s0 by omega) (show s0 ≤ (5 : Int) by omega)) (all_nil)) (all_nil) (all_nil)
  · exact poX (.tail _ (.tail _ (.tail _ (.tail _ (.tail _ (.head _)))))) rfl hR (all_cons (ivO (y := s0) rfl (show (6 : Int) ≤ s0 by omega) (show s0 ≤ (6 : Int) by omega)) (all_nil)) (all_nil) (all_nil)
  · exact poX (.tail _ (.tail _ (.tail _ (.tail _ (.tail _ (.tail _ (.head _))))))) rfl hR (all_cons (ivO (y := s0) rfl (show (7 : Int) ≤ s0 by omega) (show s0 ≤ (7 : Int) by omega)) (all_nil)) (all_nil) (all_nil)
  · exact poX (.tail _ (.tail _ (.tail _ (.tail _ (.tail _ (.tail _ (.tail _ (.head _)))))))) rfl hR (all_cons (ivO (y := s0) rfl (show (8 : Int) ≤ s0 by omega) (show s0 ≤ (8 : Int) by omega)) (all_nil)) (all_nil) (all_nil)
  · exact poX (.tail _ (.tail _ (.tail _ (.tail _ (.tail _ (.tail _ (.tail _ (.tail _ (.head _))))))))) rfl hR (all_cons (ivO (y := s0) rfl (show (9 : Int) ≤ s0 by omega) (show s0 ≤ (9 : Int) by omega)) (all_nil)) (all_nil) (all_nil)
  · exact poX (.tail _ (.tail _ (.tail _ (.tail _ (.tail _ (.tail _ (.tail _ (.tail _ (.tail _ (.head _)))))))))) rfl hR (all_cons (ivO (y := s0) rfl (show (10 : Int) ≤ s0 by omega) (show s0 ≤ (10 : Int) by omega)) (all_nil)) (all_nil) (all_nil)
theorem rl492 : ruOk fFS gR492 := by
  intro r hp hO hN hH
  obtain ⟨s0, rfl⟩ := len1 (show r.length = 1 from hN.1)
  have hR := hN.2.1.1
  have hIv : ∀ q ∈ ([(0, .ofNat 1, .ofNat 10)] : sIv), ∃ x, ([s0] : List Int)[q.1]? = some x ∧ q.2.1 ≤ x ∧ x ≤ q.2.2 := hN.2.1.2
  have b0 : (1 : Int) ≤ s0 ∧ s0 ≤ (10 : Int) := ivX (q := (0, .ofNat 1, .ofNat 10)) (y := s0) (hIv _ (.head _)) rfl
  have hRf : ∀ q ∈ ([((98, .ofNat 15, []), (.ofNat 1, []), 1, .ofNat 0, [(.ofNat 1, 0)])] : List sRf), rfOk [s0] hp q := hH.1
  have h0 : hI hp 15 1 = s0 := rfI0 (hRf _ (.head _)) (sE_k _ _) (sE_k _ _) (sE_V rfl)
  have y0 : (1 : Int) ≤ s0 ∧ s0 ≤ (10 : Int) := by rw [← h0]; exact hI_ty hO (by decide) rfl
  have y : (((1 : Int) ≤ s0 ∧ s0 ≤ (1 : Int))) ∨ (((2 : Int) ≤ s0 ∧ s0 ≤ (2 : Int))) ∨ (((3 : Int) ≤ s0 ∧ s0 ≤ (3 : Int))) ∨ (((4 : Int) ≤ s0 ∧ s0 ≤ (4 : Int))) ∨ (((5 : Int) ≤ s0 ∧ s0 ≤ (5 : Int))) ∨ (((6 : Int) ≤ s0 ∧ s0 ≤ (6 : Int))) ∨ (((7 : Int) ≤ s0 ∧ s0 ≤ (7 : Int))) ∨ (((8 : Int) ≤ s0 ∧ s0 ≤ (8 : Int))) ∨ (((9 : Int) ≤ s0 ∧ s0 ≤ (9 : Int))) ∨ (((10 : Int) ≤ s0 ∧ s0 ≤ (10 : Int))) := by omega
  rcases y with y | y | y | y | y | y | y | y | y | y
  · exact poX (.head _) rfl hR (all_cons (ivO (y := s0) rfl (show (1 : Int) ≤ s0 by omega) (show s0 ≤ (1 : Int) by omega)) (all_nil)) (all_nil) (all_nil)
  · exact poX (.tail _ (.head _)) rfl hR (all_cons (ivO (y := s0) rfl (show (2 : Int) ≤ s0 by omega) (show s0 ≤ (2 : Int) by omega)) (all_nil)) (all_nil) (all_nil)
  · exact poX (.tail _ (.tail _ (.head _))) rfl hR (all_cons (ivO (y := s0) rfl (show (3 : Int) ≤ s0 by omega) (show s0 ≤ (3 : Int) by omega)) (all_nil)) (all_nil) (all_nil)
  · exact poX (.tail _ (.tail _ (.tail _ (.head _)))) rfl hR (all_cons (ivO (y := s0) rfl (show (4 : Int) ≤ s0 by omega) (show s0 ≤ (4 : Int) by omega)) (all_nil)) (all_nil) (all_nil)
  · exact poX (.tail _ (.tail _ (.tail _ (.tail _ (.head _))))) rfl hR (all_cons (ivO (y := s0) rfl (show (5 : Int) ≤ s0 by omega) (show s0 ≤ (5 : Int) by omega)) (all_nil)) (all_nil) (all_nil)
  · exact poX (.tail _ (.tail _ (.tail _ (.tail _ (.tail _ (.head _)))))) rfl hR (all_cons (ivO (y := s0) rfl (show (6 : Int) ≤ s0 by omega) (show s0 ≤ (6 : Int) by omega)) (all_nil)) (all_nil) (all_nil)
  · exact poX (.tail _ (.tail _ (.tail _ (.tail _ (.tail _ (.tail _ (.head _))))))) rfl hR (all_cons (ivO (y := s0) rfl (show (7 : Int) ≤ s0 by omega) (show s0 ≤ (7 : Int) by omega)) (all_nil)) (all_nil) (all_nil)
  · exact poX (.tail _ (.tail _ (.tail _ (.tail _ (.tail _ (.tail _ (.tail _ (.head _)))))))) rfl hR (all_cons (ivO (y := s0) rfl (show (8 : Int) ≤ s0 by omega) (show s0 ≤ (8 : Int) by omega)) (all_nil)) (all_nil) (all_nil)
  · exact poX (.tail _ (.tail _ (.tail _ (.tail _ (.tail _ (.tail _ (.tail _ (.tail _ (.head _))))))))) rfl hR (all_cons (ivO (y := s0) rfl (show (9 : Int) ≤ s0 by omega) (show s0 ≤ (9 : Int) by omega)) (all_nil)) (all_nil) (all_nil)
  · exact poX (.tail _ (.tail _ (.tail _ (.tail _ (.tail _ (.tail _ (.tail _ (.tail _ (.tail _ (.head _)))))))))) rfl hR (all_cons (ivO (y := s0) rfl (show (10 : Int) ≤ s0 by omega) (show s0 ≤ (10 : Int) by omega)) (all_nil)) (all_nil) (all_nil)
theorem rl493 : ruOk fFS gR493 := by
  intro r hp hO hN hH
  obtain ⟨s0, s1, s2, rfl⟩ := len3 (show r.length = 3 from hN.1)
  have hR := hN.2.1.1
  have hIv : ∀ q ∈ ([(0, .negSucc 2147483647, .ofNat 2147483647), (1, .negSucc 2147483647, .ofNat 2147483647), (2, .negSucc 2147483647, .ofNat 2147483647)] : sIv), ∃ x, ([s0, s1, s2] : List Int)[q.1]? = some x ∧ q.2.1 ≤ x ∧ x ≤ q.2.2 := hN.2.1.2
  have hRf : ∀ q ∈ ([((40, .ofNat 173, []), (.ofNat 9, []), 1, .ofNat 0, []), ((0, .ofNat 0, []), (.ofNat 6, []), 114, .ofNat 15, []), ((98, .ofNat 15, []), (.ofNat 0, []), 1, .ofNat 0, [(.ofNat 1, 0)])] : List sRf), rfOk [s0, s1, s2] hp q := hH.1
  have h0 : hI hp 173 9 = 0 := rfI0 (hRf _ (.head _)) (sE_k _ _) (sE_k _ _) (sE_k _ _)
  have g1 : hC hp 0 6 = 15 := by
    have u := rfR0 (xv := (15 : Int)) (c0 := 0) (i0 := 6) (hRf _ (.tail _ (.head _))) (sE_k _ _) (sE_k _ _) (sE_k _ _)
    show hC hp (0) 6 = 15
    omega
  have h2 : hI hp (hC hp 0 6) 0 = s0 := rfI0 (c0 := hC hp 0 6) (hRf _ (.tail _ (.tail _ (.head _)))) (by rw [g1]; exact sE_k _ _) (sE_k _ _) (sE_V rfl)
  have hFc : ∀ q ∈ ([(240, [(.ofNat 0, [(.ofNat 1, 1)]), (.ofNat 5, []), (.ofNat 0, [(.ofNat 1, 2)])])] : List sFc), fcOk fFS [s0, s1, s2] hp q := hH.2
  have f0 : roG (XT hp) (nmR hp (xnm hp)) (hI hp (hC hp 0 6) 0) (hI hp (hC hp 0 6) 1) s1 (5 : Int) s2 := fcX (ys := [s1, 5, s2]) (hFc _ (.head _)) ⟨sE_V rfl, sE_k _ _, sE_V rfl, trivial⟩
  exact poX (.head _) rfl hR (all_nil) (all_nil) (all_cons ⟨[s1, 0, (s0 - 1)], ⟨sE_V rfl, sE_k _ _, sEv (y' := ((-1 : Int) + ((1 : Int) * s0 + 0))) rfl (by omega), trivial⟩, (show roB (XT hp) (nmR hp (xnm hp)) (hI hp (hC hp 0 6) 0) (hI hp (hC hp 0 6) 1) s1 (0 : Int) (s0 - 1) from roB_5 f0 (by omega) rfl (by show _ = hI hp (hC hp 0 6) 0 - 1; rw [h2]))⟩ (all_nil))
theorem rl494 : ruOk fFS gR494 := by
  intro r hp hO hN hH
  obtain ⟨s0, s1, s2, rfl⟩ := len3 (show r.length = 3 from hN.1)
  have hR := hN.2.1.1
  have hIv : ∀ q ∈ ([(0, .negSucc 2147483647, .ofNat 2147483647), (1, .negSucc 2147483647, .ofNat 2147483647), (2, .negSucc 2147483647, .ofNat 2147483647)] : sIv), ∃ x, ([s0, s1, s2] : List Int)[q.1]? = some x ∧ q.2.1 ≤ x ∧ x ≤ q.2.2 := hN.2.1.2
  have hRf : ∀ q ∈ ([((40, .ofNat 173, []), (.ofNat 9, []), 1, .ofNat 0, []), ((0, .ofNat 0, []), (.ofNat 6, []), 114, .ofNat 15, []), ((98, .ofNat 15, []), (.ofNat 1, []), 1, .ofNat 0, [(.ofNat 1, 0)])] : List sRf), rfOk [s0, s1, s2] hp q := hH.1
  have h0 : hI hp 173 9 = 0 := rfI0 (hRf _ (.head _)) (sE_k _ _) (sE_k _ _) (sE_k _ _)
  have g1 : hC hp 0 6 = 15 := by
    have u := rfR0 (xv := (15 : Int)) (c0 := 0) (i0 := 6) (hRf _ (.tail _ (.head _))) (sE_k _ _) (sE_k _ _) (sE_k _ _)
    show hC hp (0) 6 = 15
    omega
  have h2 : hI hp (hC hp 0 6) 1 = s0 := rfI0 (c0 := hC hp 0 6) (hRf _ (.tail _ (.tail _ (.head _)))) (by rw [g1]; exact sE_k _ _) (sE_k _ _) (sE_V rfl)
  have hFc : ∀ q ∈ ([(240, [(.ofNat 0, [(.ofNat 1, 1)]), (.ofNat 6, []), (.ofNat 0, [(.ofNat 1, 2)])])] : List sFc), fcOk fFS [s0, s1, s2] hp q := hH.2
  have f0 : roG (XT hp) (nmR hp (xnm hp)) (hI hp (hC hp 0 6) 0) (hI hp (hC hp 0 6) 1) s1 (6 : Int) s2 := fcX (ys := [s1, 6, s2]) (hFc _ (.head _)) ⟨sE_V rfl, sE_k _ _, sE_V rfl, trivial⟩
  exact poX (.head _) rfl hR (all_nil) (all_nil) (all_cons ⟨[s1, 0, (s0 - 1)], ⟨sE_V rfl, sE_k _ _, sEv (y' := ((-1 : Int) + ((1 : Int) * s0 + 0))) rfl (by omega), trivial⟩, (show roB (XT hp) (nmR hp (xnm hp)) (hI hp (hC hp 0 6) 0) (hI hp (hC hp 0 6) 1) s1 (0 : Int) (s0 - 1) from roB_6 f0 (by omega) rfl (by show _ = hI hp (hC hp 0 6) 1 - 1; rw [h2]))⟩ (all_nil))
theorem rl495 : ruOk fFS gR495 := by
  intro r hp hO hN hH
  obtain ⟨s0, rfl⟩ := len1 (show r.length = 1 from hN.1)
  have hR := hN.2.1.1
  have hIv : ∀ q ∈ ([(0, .negSucc 2147483647, .ofNat 2147483647)] : sIv), ∃ x, ([s0] : List Int)[q.1]? = some x ∧ q.2.1 ≤ x ∧ x ≤ q.2.2 := hN.2.1.2
  have hRf : ∀ q ∈ ([((0, .ofNat 0, []), (.ofNat 6, []), 114, .ofNat 15, [])] : List sRf), rfOk [s0] hp q := hH.1
  have g0 : hC hp 0 6 = 15 := by
    have u := rfR0 (xv := (15 : Int)) (c0 := 0) (i0 := 6) (hRf _ (.head _)) (sE_k _ _) (sE_k _ _) (sE_k _ _)
    show hC hp (0) 6 = 15
    omega
  have hFc : ∀ q ∈ ([(244, [(.ofNat 0, [(.ofNat 1, 0)])])] : List sFc), fcOk fFS [s0] hp q := hH.2
  have f0 : roA (XT hp) (nmR hp (xnm hp)) (hI hp (hC hp 0 6) 0) (hI hp (hC hp 0 6) 1) s0 := fcX (ys := [s0]) (hFc _ (.head _)) ⟨sE_V rfl, trivial⟩
  exact poX (.head _) rfl hR (all_nil) (all_nil) (all_cons ⟨[s0], ⟨sE_V rfl, trivial⟩, (show roA (XT hp) (nmR hp 16) (hI hp 15 0) (hI hp 15 1) s0 from (by rw [xn_B hO g0, g0] at f0; exact f0))⟩ (all_nil))
theorem rl496 : ruOk fFS gR496 := by
  intro r hp hO hN hH
  obtain ⟨s0, s1, rfl⟩ := len2 (show r.length = 2 from hN.1)
  have hR := hN.2.1.1
  have hIv : ∀ q ∈ ([(0, .negSucc 2147483647, .ofNat 2147483647), (1, .negSucc 2147483647, .ofNat 2147483647)] : sIv), ∃ x, ([s0, s1] : List Int)[q.1]? = some x ∧ q.2.1 ≤ x ∧ x ≤ q.2.2 := hN.2.1.2
  have hRf : ∀ q ∈ ([((0, .ofNat 0, []), (.ofNat 6, []), 114, .ofNat 15, [])] : List sRf), rfOk [s0, s1] hp q := hH.1
  have g0 : hC hp 0 6 = 15 := by
    have u := rfR0 (xv := (15 : Int)) (c0 := 0) (i0 := 6) (hRf _ (.head _)) (sE_k _ _) (sE_k _ _) (sE_k _ _)
    show hC hp (0) 6 = 15
    omega
  have hFc : ∀ q ∈ ([(197, [(.ofNat 0, [(.ofNat 1, 0)]), (.ofNat 0, [(.ofNat 1, 1)])])] : List sFc), fcOk fFS [s0, s1] hp q := hH.2
  have f0 : SAN (XT hp) (nmR hp (xnm hp)) s0 s1 := fcX (ys := [s0, s1]) (hFc _ (.head _)) ⟨sE_V rfl, sE_V rfl, trivial⟩
  exact poX (.head _) rfl hR (all_nil) (all_nil) (all_cons ⟨[s0, s1], ⟨sE_V rfl, sE_V rfl, trivial⟩, (show SAN (XT hp) (nmR hp 16) s0 s1 from (by rw [xn_B hO g0] at f0; exact f0))⟩ (all_nil))
theorem rl497 : ruOk fFS gR497 := by
  intro r hp hO hN hH
  obtain ⟨s0, s1, rfl⟩ := len2 (show r.length = 2 from hN.1)
  have hR := hN.2.1.1
  have hIv : ∀ q ∈ ([(0, .negSucc 2147483647, .ofNat 2147483647), (1, .negSucc 2147483647, .ofNat 2147483647)] : sIv), ∃ x, ([s0, s1] : List Int)[q.1]? = some x ∧ q.2.1 ≤ x ∧ x ≤ q.2.2 := hN.2.1.2
  have hRf : ∀ q ∈ ([((100, .ofNat 212, []), (.ofNat 0, []), 1, .ofNat 0, [(.ofNat 1, 0)]), ((98, .ofNat 15, []), (.ofNat 0, []), 1, .ofNat 0, [(.ofNat 1, 0)]), ((100, .ofNat 212, []), (.ofNat 1, []), 1, .ofNat 0, [(.ofNat 1, 1)]), ((98, .ofNat 15, []), (.ofNat 1, []), 1, .ofNat 0, [(.ofNat 1, 1)])] : List sRf), rfOk [s0, s1] hp q := hH.1
  have h0 : hI hp 212 0 = s0 := rfI0 (hRf _ (.head _)) (sE_k _ _) (sE_k _ _) (sE_V rfl)
  have y0 : (1 : Int) ≤ s0 ∧ s0 ≤ (10 : Int) := by rw [← h0]; exact hI_ty hO (by decide) rfl
  have h1 : hI hp 15 0 = s0 := rfI0 (hRf _ (.tail _ (.head _))) (sE_k _ _) (sE_k _ _) (sE_V rfl)
  have y1 : (1 : Int) ≤ s0 ∧ s0 ≤ (10 : Int) := by rw [← h1]; exact hI_ty hO (by decide) rfl
  have h2 : hI hp 212 1 = s1 := rfI0 (hRf _ (.tail _ (.tail _ (.head _)))) (sE_k _ _) (sE_k _ _) (sE_V rfl)
  have y2 : (1 : Int) ≤ s1 ∧ s1 ≤ (10 : Int) := by rw [← h2]; exact hI_ty hO (by decide) rfl
  have h3 : hI hp 15 1 = s1 := rfI0 (hRf _ (.tail _ (.tail _ (.tail _ (.head _))))) (sE_k _ _) (sE_k _ _) (sE_V rfl)
  have y3 : (1 : Int) ≤ s1 ∧ s1 ≤ (10 : Int) := by rw [← h3]; exact hI_ty hO (by decide) rfl
  have hFc : ∀ q ∈ ([(227, []), (217, [])] : List sFc), fcOk fFS [s0, s1] hp q := hH.2
  have f0 : ∀ j : Nat, j < 12 → hv hp 213 j = hv hp 16 j := fcX (ys := []) (hFc _ (.head _)) trivial
  have f1 : (∀ c L, isW L → (nmR hp 16 c L ↔ nmM hp c L)) ∧ hI hp 15 0 = hI hp 275 0 ∧ hI hp 15 1 = hI hp 275 1 := fcX (ys := []) (hFc _ (.tail _ (.head _))) trivial
  exact poX (.head _) rfl hR (all_nil) (all_nil) (all_cons ⟨[], trivial, (show (∀ c L, isW L → (nmR hp 213 c L ↔ nmM hp c L)) ∧ hI hp 212 0 = hI hp 275 0 ∧ hI hp 212 1 = hI hp 275 1 from al_l f1 (nmr_eqn f0) (h0.trans h1.symm) (h2.trans h3.symm))⟩ (all_nil))
theorem rl498 : ruOk fFS gR498 := by
  intro r hp hO hN hH
  obtain ⟨s0, s1, rfl⟩ := len2 (show r.length = 2 from hN.1)
  have hR := hN.2.1.1
  have hIv : ∀ q ∈ ([(0, .negSucc 2147483647, .ofNat 2147483647), (1, .negSucc 2147483647, .ofNat 2147483647)] : sIv), ∃ x, ([s0, s1] : List Int)[q.1]? = some x ∧ q.2.1 ≤ x ∧ x ≤ q.2.2 := hN.2.1.2
  have hRf : ∀ q ∈ ([((102, .ofNat 243, []), (.ofNat 0, []), 1, .ofNat 0, [(.ofNat 1, 0)]), ((98, .ofNat 15, []), (.ofNat 0, []), 1, .ofNat 0, [(.ofNat 1, 0)]), ((102, .ofNat 243, []), (.ofNat 1, []), 1, .ofNat 0, [(.ofNat 1, 1)]), ((98, .ofNat 15, []), (.ofNat 1, []), 1, .ofNat 0, [(.ofNat 1, 1)])] : List sRf), rfOk [s0, s1] hp q := hH.1
  have h0 : hI hp 243 0 = s0 := rfI0 (hRf _ (.head _)) (sE_k _ _) (sE_k _ _) (sE_V rfl)
  have y0 : (1 : Int) ≤ s0 ∧ s0 ≤ (10 : Int) := by rw [← h0]; exact hI_ty hO (by decide) rfl
  have h1 : hI hp 15 0 = s0 := rfI0 (hRf _ (.tail _ (.head _))) (sE_k _ _) (sE_k _ _) (sE_V rfl)
  have y1 : (1 : Int) ≤ s0 ∧ s0 ≤ (10 : Int) := by rw [← h1]; exact hI_ty hO (by decide) rfl
  have h2 : hI hp 243 1 = s1 := rfI0 (hRf _ (.tail _ (.tail _ (.head _)))) (sE_k _ _) (sE_k _ _) (sE_V rfl)
  have y2 : (1 : Int) ≤ s1 ∧ s1 ≤ (10 : Int) := by rw [← h2]; exact hI_ty hO (by decide) rfl
  have h3 : hI hp 15 1 = s1 := rfI0 (hRf _ (.tail _ (.tail _ (.tail _ (.head _))))) (sE_k _ _) (sE_k _ _) (sE_V rfl)
  have y3 : (1 : Int) ≤ s1 ∧ s1 ≤ (10 : Int) := by rw [← h3]; exact hI_ty hO (by decide) rfl
  have hFc : ∀ q ∈ ([(229, []), (217, [])] : List sFc), fcOk fFS [s0, s1] hp q := hH.2
  have f0 : ∀ j : Nat, j < 12 → hv hp 244 j = hv hp 16 j := fcX (ys := []) (hFc _ (.head _)) trivial
  have f1 : (∀ c L, isW L → (nmR hp 16 c L ↔ nmM hp c L)) ∧ hI hp 15 0 = hI hp 275 0 ∧ hI hp 15 1 = hI hp 275 1 := fcX (ys := []) (hFc _ (.tail _ (.head _))) trivial
  exact poX (.head _) rfl hR (all_nil) (all_nil) (all_cons ⟨[], trivial, (show (∀ c L, isW L → (nmR hp 244 c L ↔ nmM hp c L)) ∧ hI hp 243 0 = hI hp 275 0 ∧ hI hp 243 1 = hI hp 275 1 from al_l f1 (nmr_eqn f0) (h0.trans h1.symm) (h2.trans h3.symm))⟩ (all_nil))
theorem rl499 : ruOk fFS gR499 := by
  intro r hp hO hN hH
  obtain ⟨s0, s1, rfl⟩ := len2 (show r.length = 2 from hN.1)
  have hR := hN.2.1.1
  have hIv : ∀ q ∈ ([(0, .negSucc 2147483647, .ofNat 2147483647), (1, .negSucc 2147483647, .ofNat 2147483647)] : sIv), ∃ x, ([s0, s1] : List Int)[q.1]? = some x ∧ q.2.1 ≤ x ∧ x ≤ q.2.2 := hN.2.1.2
  have hRf : ∀ q ∈ ([((98, .ofNat 15, []), (.ofNat 0, []), 1, .ofNat 0, [(.ofNat 1, 0)]), ((100, .ofNat 212, []), (.ofNat 0, []), 1, .ofNat 0, [(.ofNat 1, 0)]), ((98, .ofNat 15, []), (.ofNat 1, []), 1, .ofNat 0, [(.ofNat 1, 1)]), ((100, .ofNat 212, []), (.ofNat 1, []), 1, .ofNat 0, [(.ofNat 1, 1)])] : List sRf), rfOk [s0, s1] hp q := hH.1
  have h0 : hI hp 15 0 = s0 := rfI0 (hRf _ (.head _)) (sE_k _ _) (sE_k _ _) (sE_V rfl)
  have y0 : (1 : Int) ≤ s0 ∧ s0 ≤ (10 : Int) := by rw [← h0]; exact hI_ty hO (by decide) rfl
  have h1 : hI hp 212 0 = s0 := rfI0 (hRf _ (.tail _ (.head _))) (sE_k _ _) (sE_k _ _) (sE_V rfl)
  have y1 : (1 : Int) ≤ s0 ∧ s0 ≤ (10 : Int) := by rw [← h1]; exact hI_ty hO (by decide) rfl
  have h2 : hI hp 15 1 = s1 := rfI0 (hRf _ (.tail _ (.tail _ (.head _)))) (sE_k _ _) (sE_k _ _) (sE_V rfl)
  have y2 : (1 : Int) ≤ s1 ∧ s1 ≤ (10 : Int) := by rw [← h2]; exact hI_ty hO (by decide) rfl
  have h3 : hI hp 212 1 = s1 := rfI0 (hRf _ (.tail _ (.tail _ (.tail _ (.head _))))) (sE_k _ _) (sE_k _ _) (sE_V rfl)
  have y3 : (1 : Int) ≤ s1 ∧ s1 ≤ (10 : Int) := by rw [← h3]; exact hI_ty hO (by decide) rfl
  have hFc : ∀ q ∈ ([(226, []), (231, [])] : List sFc), fcOk fFS [s0, s1] hp q := hH.2
  have f0 : ∀ j : Nat, j < 12 → hv hp 16 j = hv hp 213 j := fcX (ys := []) (hFc _ (.head _)) trivial
  have f1 : (∀ c L, isW L → (nmR hp 213 c L ↔ nmK hp 0 c L)) ∧ (hI hp 289 0 = 0 ∨ (hI hp 212 0 = hI hp 289 0 ∧ hI hp 212 1 = hI hp 289 1)) := fcX (ys := []) (hFc _ (.tail _ (.head _))) trivial
  exact poX (.head _) rfl hR (all_nil) (all_nil) (all_cons ⟨[], trivial, (show (∀ c L, isW L → (nmR hp 16 c L ↔ nmK hp 0 c L)) ∧ (hI hp 289 0 = 0 ∨ (hI hp 15 0 = hI hp 289 0 ∧ hI hp 15 1 = hI hp 289 1)) from ⟨alike_l f1.1 (nmr_eqn f0), f1.2.elim Or.inl (fun u => Or.inr ⟨(h0.trans h1.symm).trans u.1, (h2.trans h3.symm).trans u.2⟩)⟩)⟩ (all_nil))
theorem rl500 : ruOk fFS gR500 := by
  intro r hp hO hN hH
  obtain ⟨s0, s1, rfl⟩ := len2 (show r.length = 2 from hN.1)
  have hR := hN.2.1.1
  have hIv : ∀ q ∈ ([(0, .negSucc 2147483647, .ofNat 2147483647), (1, .negSucc 2147483647, .ofNat 2147483647)] : sIv), ∃ x, ([s0, s1] : List Int)[q.1]? = some x ∧ q.2.1 ≤ x ∧ x ≤ q.2.2 := hN.2.1.2
  have hRf : ∀ q ∈ ([((98, .ofNat 15, []), (.ofNat 0, []), 1, .ofNat 0, [(.ofNat 1, 0)]), ((102, .ofNat 243, []), (.ofNat 0, []), 1, .ofNat 0, [(.ofNat 1, 0)]), ((98, .ofNat 15, []), (.ofNat 1, []), 1, .ofNat 0, [(.ofNat 1, 1)]), ((102, .ofNat 243, []), (.ofNat 1, []), 1, .ofNat 0, [(.ofNat 1, 1)])] : List sRf), rfOk [s0, s1] hp q := hH.1
  have h0 : hI hp 15 0 = s0 := rfI0 (hRf _ (.head _)) (sE_k _ _) (sE_k _ _) (sE_V rfl)
  have y0 : (1 : Int) ≤ s0 ∧ s0 ≤ (10 : Int) := by rw [← h0]; exact hI_ty hO (by decide) rfl
  have h1 : hI hp 243 0 = s0 := rfI0 (hRf _ (.tail _ (.head _))) (sE_k _ _) (sE_k _ _) (sE_V rfl)
  have y1 : (1 : Int) ≤ s0 ∧ s0 ≤ (10 : Int) := by rw [← h1]; exact hI_ty hO (by decide) rfl
  have h2 : hI hp 15 1 = s1 := rfI0 (hRf _ (.tail _ (.tail _ (.head _)))) (sE_k _ _) (sE_k _ _) (sE_V rfl)
  have y2 : (1 : Int) ≤ s1 ∧ s1 ≤ (10 : Int) := by rw [← h2]; exact hI_ty hO (by decide) rfl
  have h3 : hI hp 243 1 = s1 := rfI0 (hRf _ (.tail _ (.tail _ (.tail _ (.head _))))) (sE_k _ _) (sE_k _ _) (sE_V rfl)
  have y3 : (1 : Int) ≤ s1 ∧ s1 ≤ (10 : Int) := by rw [← h3]; exact hI_ty hO (by decide) rfl
  have hFc : ∀ q ∈ ([(228, []), (236, [])] : List sFc), fcOk fFS [s0, s1] hp q := hH.2
  have f0 : ∀ j : Nat, j < 12 → hv hp 16 j = hv hp 244 j := fcX (ys := []) (hFc _ (.head _)) trivial
  have f1 : (∀ c L, isW L → (nmR hp 244 c L ↔ nmK hp 1 c L)) ∧ (hI hp 289 871 = 0 ∨ (hI hp 243 0 = hI hp 289 871 ∧ hI hp 243 1 = hI hp 289 872)) := fcX (ys := []) (hFc _ (.tail _ (.head _))) trivial
  exact poX (.head _) rfl hR (all_nil) (all_nil) (all_cons ⟨[], trivial, (show (∀ c L, isW L → (nmR hp 16 c L ↔ nmK hp 1 c L)) ∧ (hI hp 289 871 = 0 ∨ (hI hp 15 0 = hI hp 289 871 ∧ hI hp 15 1 = hI hp 289 872)) from ⟨alike_l f1.1 (nmr_eqn f0), f1.2.elim Or.inl (fun u => Or.inr ⟨(h0.trans h1.symm).trans u.1, (h2.trans h3.symm).trans u.2⟩)⟩)⟩ (all_nil))
theorem rl501 : ruOk fFS gR501 := by
  intro r hp hO hN hH
  obtain ⟨s0, s1, rfl⟩ := len2 (show r.length = 2 from hN.1)
  have hR := hN.2.1.1
  have hIv : ∀ q ∈ ([(0, .ofNat 0, .ofNat 940), (1, .negSucc 2147483647, .ofNat 2147483647)] : sIv), ∃ x, ([s0, s1] : List Int)[q.1]? = some x ∧ q.2.1 ≤ x ∧ x ≤ q.2.2 := hN.2.1.2
  have b0 : (0 : Int) ≤ s0 ∧ s0 ≤ (940 : Int) := ivX (q := (0, .ofNat 0, .ofNat 940)) (y := s0) (hIv _ (.head _)) rfl
  have hCs : ∀ c ∈ ([(.ofNat 0, [(.ofNat 1, 0), (.negSucc 0, 1)])] : List sLn), ∃ x, sE [s0, s1] c = some x ∧ x ≤ 0 := hN.2.2.1
  have c0 : ((0 : Int) + ((1 : Int) * s0 + ((-1 : Int) * s1 + 0))) ≤ 0 := csX (hCs _ (.head _)) rfl
  have hRf : ∀ q ∈ ([((78, .ofNat 273, []), (.ofNat 2, []), 1, .ofNat 0, [(.ofNat 1, 0)])] : List sRf), rfOk [s0, s1] hp q := hH.1
  have h0 : hI hp 273 2 = s0 := rfI0 (hRf _ (.head _)) (sE_k _ _) (sE_k _ _) (sE_V rfl)
  have y0 : (0 : Int) ≤ s0 ∧ s0 ≤ (940 : Int) := by rw [← h0]; exact hI_ty hO (by decide) rfl
  have hFc : ∀ q ∈ ([(177, [(.ofNat 0, [(.ofNat 1, 1)])])] : List sFc), fcOk fFS [s0, s1] hp q := hH.2
  have f0 : ∀ i : Nat, i < 940 → (i : Int) < s1 → hI hp 1 i = hI hp 274 i % 256 := fcX (ys := [s1]) (hFc _ (.head _)) ⟨sE_V rfl, trivial⟩
  exact poX (.head _) rfl hR (all_nil) (all_nil) (all_cons ⟨[s0], ⟨sE_V rfl, trivial⟩, (show ∀ i : Nat, i < 940 → (i : Int) < s0 → hI hp 1 i = hI hp 274 i % 256 from fun i hi hs => f0 i hi (by omega))⟩ (all_nil))
theorem rl502 : ruOk fFS gR502 := by
  intro r hp hO hN hH
  obtain ⟨s0, s1, s2, s3, rfl⟩ := len4 (show r.length = 4 from hN.1)
  have hR := hN.2.1.1
  have hIv : ∀ q ∈ ([(0, .negSucc 2147483647, .ofNat 2147483647), (1, .ofNat 1, .ofNat 940), (2, .negSucc 2147483647, .ofNat 2147483647), (3, .negSucc 2147483647, .ofNat 2147483647)] : sIv), ∃ x, ([s0, s1, s2, s3] : List Int)[q.1]? = some x ∧ q.2.1 ≤ x ∧ x ≤ q.2.2 := hN.2.1.2
  have b1 : (1 : Int) ≤ s1 ∧ s1 ≤ (940 : Int) := ivX (q := (1, .ofNat 1, .ofNat 940)) (y := s1) (hIv _ (.tail _ (.head _))) rfl
  have hRf : ∀ q ∈ ([((78, .ofNat 273, []), (.ofNat 2, []), 1, .ofNat 0, [(.ofNat 1, 1)]), ((79, .ofNat 274, []), (.negSucc 0, [(.ofNat 1, 1)]), 1, .ofNat 0, [(.ofNat 1, 2)])] : List sRf), rfOk [s0, s1, s2, s3] hp q := hH.1
  have h0 : hI hp 273 2 = s1 := rfI0 (hRf _ (.head _)) (sE_k _ _) (sE_k _ _) (sE_V rfl)
  have y0 : (0 : Int) ≤ s1 ∧ s1 ≤ (940 : Int) := by rw [← h0]; exact hI_ty hO (by decide) rfl
  obtain ⟨i1, e1, l1, h1⟩ := rfI (xv := s2) (iv := (s1 - 1)) (hRf _ (.tail _ (.head _))) (sE_k _ _) (sEv (y' := ((-1 : Int) + ((1 : Int) * s1 + 0))) rfl (by omega)) (sE_V rfl)
  have l1 : i1 < 940 := l1
  have h1 : hI hp 274 i1 = s2 := h1
  have hFc : ∀ q ∈ ([(84, [(.ofNat 0, [(.ofNat 1, 0)]), (.ofNat 24, []), (.ofNat 0, [(.ofNat 1, 3)])]), (89, [(.ofNat 0, [(.ofNat 1, 3)]), (.ofNat 0, [(.ofNat 1, 2)])])] : List sFc), fcOk fFS [s0, s1, s2, s3] hp q := hH.2
  have f0 : 0 ≤ (24 : Int) → (24 : Int) ≤ 31 → s3 = s0 / 2 ^ (24 : Int).toNat := fcX (ys := [s0, 24, s3]) (hFc _ (.head _)) ⟨sE_V rfl, sE_k _ _, sE_V rfl, trivial⟩
  have f1 : s2 % 256 = s3 % 256 := fcX (ys := [s3, s2]) (hFc _ (.tail _ (.head _))) ⟨sE_V rfl, sE_V rfl, trivial⟩
  exact poX (.head _) rfl hR (all_nil) (all_nil) (all_cons ⟨[s1, 1, s0], ⟨sE_V rfl, sE_k _ _, sE_V rfl, trivial⟩, (show pxD (fun i => hI hp 274 i % 256) s1 (1 : Int) s0 from px_0 (j := i1) (show (fun i => hI hp 274 i % 256) i1 = s2 % 256 from by show hI hp 274 i1 % 256 = _; rw [h1]) (by omega) ⟨by omega, by omega⟩ (by show s2 % 256 = _; rw [b8_0]; have u : s3 = s0 / 16777216 := f0 (by decide) (by decide); have w : s2 % 256 = s3 % 256 := f1; omega) (by omega))⟩ (all_nil))
theorem rl503 : ruOk fFS gR503 := by
  intro r hp hO hN hH
  obtain ⟨s0, s1, s2, s3, rfl⟩ := len4 (show r.length = 4 from hN.1)
  have hR := hN.2.1.1
  have hIv : ∀ q ∈ ([(0, .negSucc 2147483647, .ofNat 2147483647), (1, .ofNat 1, .ofNat 940), (2, .negSucc 2147483647, .ofNat 2147483647), (3, .negSucc 2147483647, .ofNat 2147483647)] : sIv), ∃ x, ([s0, s1, s2, s3] : List Int)[q.1]? = some x ∧ q.2.1 ≤ x ∧ x ≤ q.2.2 := hN.2.1.2
  have b1 : (1 : Int) ≤ s1 ∧ s1 ≤ (940 : Int) := ivX (q := (1, .ofNat 1, .ofNat 940)) (y := s1) (hIv _ (.tail _ (.head _))) rfl
  have hRf : ∀ q ∈ ([((78, .ofNat 273, []), (.ofNat 2, []), 1, .ofNat 0, [(.ofNat 1, 1)]), ((79, .ofNat 274, []), (.negSucc 0, [(.ofNat 1, 1)]), 1, .ofNat 0, [(.ofNat 1, 2)])] : List sRf), rfOk [s0, s1, s2, s3] hp q := hH.1
  have h0 : hI hp 273 2 = s1 := rfI0 (hRf _ (.head _)) (sE_k _ _) (sE_k _ _) (sE_V rfl)
  have y0 : (0 : Int) ≤ s1 ∧ s1 ≤ (940 : Int) := by rw [← h0]; exact hI_ty hO (by decide) rfl
  obtain ⟨i1, e1, l1, h1⟩ := rfI (xv := s2) (iv := (s1 - 1)) (hRf _ (.tail _ (.head _))) (sE_k _ _) (sEv (y' := ((-1 : Int) + ((1 : Int) * s1 + 0))) rfl (by omega)) (sE_V rfl)
  have l1 : i1 < 940 := l1
  have h1 : hI hp 274 i1 = s2 := h1
  have hFc : ∀ q ∈ ([(84, [(.ofNat 0, [(.ofNat 1, 0)]), (.ofNat 16, []), (.ofNat 0, [(.ofNat 1, 3)])]), (89, [(.ofNat 0, [(.ofNat 1, 3)]), (.ofNat 0, [(.ofNat 1, 2)])]), (184, [(.negSucc 0, [(.ofNat 1, 1)]), (.ofNat 1, []), (.ofNat 0, [(.ofNat 1, 0)])])] : List sFc), fcOk fFS [s0, s1, s2, s3] hp q := hH.2
  have f0 : 0 ≤ (16 : Int) → (16 : Int) ≤ 31 → s3 = s0 / 2 ^ (16 : Int).toNat := fcX (ys := [s0, 16, s3]) (hFc _ (.head _)) ⟨sE_V rfl, sE_k _ _, sE_V rfl, trivial⟩
  have f1 : s2 % 256 = s3 % 256 := fcX (ys := [s3, s2]) (hFc _ (.tail _ (.head _))) ⟨sE_V rfl, sE_V rfl, trivial⟩
  have f2 : pxD (fun i => hI hp 274 i % 256) (s1 - 1) (1 : Int) s0 := fcX (ys := [(s1 - 1), 1, s0]) (hFc _ (.tail _ (.tail _ (.head _)))) ⟨sEv (y' := ((-1 : Int) + ((1 : Int) * s1 + 0))) rfl (by omega), sE_k _ _, sE_V rfl, trivial⟩
  exact poX (.head _) rfl hR (all_nil) (all_nil) (all_cons ⟨[s1, 2, s0], ⟨sE_V rfl, sE_k _ _, sE_V rfl, trivial⟩, (show pxD (fun i => hI hp 274 i % 256) s1 (2 : Int) s0 from px_s (r := 1) f2 (j := i1) (show (fun i => hI hp 274 i % 256) i1 = s2 % 256 from by show hI hp 274 i1 % 256 = _; rw [h1]) (by omega) (by omega) ⟨by omega, by omega⟩ (by show s2 % 256 = _; rw [b8_1]; have u : s3 = s0 / 65536 := f0 (by decide) (by decide); have w : s2 % 256 = s3 % 256 := f1; omega) (by omega) (by omega) (by decide))⟩ (all_nil))
theorem rl504 : ruOk fFS gR504 := by
  intro r hp hO hN hH
  obtain ⟨s0, s1, s2, s3, rfl⟩ := len4 (show r.length = 4 from hN.1)
  have hR := hN.2.1.1
  have hIv : ∀ q ∈ ([(0, .negSucc 2147483647, .ofNat 2147483647), (1, .ofNat 1, .ofNat 940), (2, .negSucc 2147483647, .ofNat 2147483647), (3, .negSucc 2147483647, .ofNat 2147483647)] : sIv), ∃ x, ([s0, s1, s2, s3] : List Int)[q.1]? = some x ∧ q.2.1 ≤ x ∧ x ≤ q.2.2 := hN.2.1.2
  have b1 : (1 : Int) ≤ s1 ∧ s1 ≤ (940 : Int) := ivX (q := (1, .ofNat 1, .ofNat 940)) (y := s1) (hIv _ (.tail _ (.head _))) rfl
  have hRf : ∀ q ∈ ([((78, .ofNat 273, []), (.ofNat 2, []), 1, .ofNat 0, [(.ofNat 1, 1)]), ((79, .ofNat 274, []), (.negSucc 0, [(.ofNat 1, 1)]), 1, .ofNat 0, [(.ofNat 1, 2)])] : List sRf), rfOk [s0, s1, s2, s3] hp q := hH.1
  have h0 : hI hp 273 2 = s1 := rfI0 (hRf _ (.head _)) (sE_k _ _) (sE_k _ _) (sE_V rfl)
  have y0 : (0 : Int) ≤ s1 ∧ s1 ≤ (940 : Int) := by rw [← h0]; exact hI_ty hO (by decide) rfl
  obtain ⟨i1, e1, l1, h1⟩ := rfI (xv := s2) (iv := (s1 - 1)) (hRf _ (.tail _ (.head _))) (sE_k _ _) (sEv (y' := ((-1 : Int) + ((1 : Int) * s1 + 0))) rfl (by omega)) (sE_V rfl)
  have l1 : i1 < 940 := l1
  have h1 : hI hp 274 i1 = s2 := h1
  have hFc : ∀ q ∈ ([(84, [(.ofNat 0, [(.ofNat 1, 0)]), (.ofNat 8, []), (.ofNat 0, [(.ofNat 1, 3)])]), (89, [(.ofNat 0, [(.ofNat 1, 3)]), (.ofNat 0, [(.ofNat 1, 2)])]), (184, [(.negSucc 0, [(.ofNat 1, 1)]), (.ofNat 2, []), (.ofNat 0, [(.ofNat 1, 0)])])] : List sFc), fcOk fFS [s0, s1, s2, s3] hp q := hH.2
  have f0 : 0 ≤ (8 : Int) → (8 : Int) ≤ 31 → s3 = s0 / 2 ^ (8 : Int).toNat := fcX (ys := [s0, 8, s3]) (hFc _ (.head _)) ⟨sE_V rfl, sE_k _ _, sE_V rfl, trivial⟩
  have f1 : s2 % 256 = s3 % 256 := fcX (ys := [s3, s2]) (hFc _ (.tail _ (.head _))) ⟨sE_V rfl, sE_V rfl, trivial⟩
  have f2 : pxD (fun i => hI hp 274 i % 256) (s1 - 1) (2 : Int) s0 := fcX (ys := [(s1 - 1), 2, s0]) (hFc _ (.tail _ (.tail _ (.head _)))) ⟨sEv (y' := ((-1 : Int) + ((1 : Int) * s1 + 0))) rfl (by omega), sE_k _ _, sE_V rfl, trivial⟩
  exact poX (.head _) rfl hR (all_nil) (all_nil) (all_cons ⟨[s1, 3, s0], ⟨sE_V rfl, sE_k _ _, sE_V rfl, trivial⟩, (show pxD (fun i => hI hp 274 i % 256) s1 (3 : Int) s0 from px_s (r := 2) f2 (j := i1) (show (fun i => hI hp 274 i % 256) i1 = s2 % 256 from by show hI hp 274 i1 % 256 = _; rw [h1]) (by omega) (by omega) ⟨by omega, by omega⟩ (by show s2 % 256 = _; rw [b8_2]; have u : s3 = s0 / 256 := f0 (by decide) (by decide); have w : s2 % 256 = s3 % 256 := f1; omega) (by omega) (by omega) (by decide))⟩ (all_nil))
theorem rl505 : ruOk fFS gR505 := by
  intro r hp hO hN hH
  obtain ⟨s0, s1, s2, s3, rfl⟩ := len4 (show r.length = 4 from hN.1)
  have hR := hN.2.1.1
  have hIv : ∀ q ∈ ([(0, .negSucc 2147483647, .ofNat 2147483647), (1, .ofNat 1, .ofNat 940), (2, .negSucc 2147483647, .ofNat 2147483647), (3, .negSucc 2147483647, .ofNat 2147483647)] : sIv), ∃ x, ([s0, s1, s2, s3] : List Int)[q.1]? = some x ∧ q.2.1 ≤ x ∧ x ≤ q.2.2 := hN.2.1.2
  have b1 : (1 : Int) ≤ s1 ∧ s1 ≤ (940 : Int) := ivX (q := (1, .ofNat 1, .ofNat 940)) (y := s1) (hIv _ (.tail _ (.head _))) rfl
  have hRf : ∀ q ∈ ([((78, .ofNat 273, []), (.ofNat 2, []), 1, .ofNat 0, [(.ofNat 1, 1)]), ((79, .ofNat 274, []), (.negSucc 0, [(.ofNat 1, 1)]), 1, .ofNat 0, [(.ofNat 1, 2)])] : List sRf), rfOk [s0, s1, s2, s3] hp q := hH.1
  have h0 : hI hp 273 2 = s1 := rfI0 (hRf _ (.head _)) (sE_k _ _) (sE_k _ _) (sE_V rfl)
  have y0 : (0 : Int) ≤ s1 ∧ s1 ≤ (940 : Int) := by rw [← h0]; exact hI_ty hO (by decide) rfl
  obtain ⟨i1, e1, l1, h1⟩ := rfI (xv := s2) (iv := (s1 - 1)) (hRf _ (.tail _ (.head _))) (sE_k _ _) (sEv (y' := ((-1 : Int) + ((1 : Int) * s1 + 0))) rfl (by omega)) (sE_V rfl)
  have l1 : i1 < 940 := l1
  have h1 : hI hp 274 i1 = s2 := h1
  have hFc : ∀ q ∈ ([(84, [(.ofNat 0, [(.ofNat 1, 0)]), (.ofNat 0, []), (.ofNat 0, [(.ofNat 1, 3)])]), (89, [(.ofNat 0, [(.ofNat 1, 3)]), (.ofNat 0, [(.ofNat 1, 2)])]), (184, [(.negSucc 0, [(.ofNat 1, 1)]), (.ofNat 3, []), (.ofNat 0, [(.ofNat 1, 0)])])] : List sFc), fcOk fFS [s0, s1, s2, s3] hp q := hH.2
  have f0 : 0 ≤ (0 : Int) → (0 : Int) ≤ 31 → s3 = s0 / 2 ^ (0 : Int).toNat := fcX (ys := [s0, 0, s3]) (hFc _ (.head _)) ⟨sE_V rfl, sE_k _ _, sE_V rfl, trivial⟩
  have f1 : s2 % 256 = s3 % 256 := fcX (ys := [s3, s2]) (hFc _ (.tail _ (.head _))) ⟨sE_V rfl, sE_V rfl, trivial⟩
  have f2 : pxD (fun i => hI hp 274 i % 256) (s1 - 1) (3 : Int) s0 := fcX (ys := [(s1 - 1), 3, s0]) (hFc _ (.tail _ (.tail _ (.head _)))) ⟨sEv (y' := ((-1 : Int) + ((1 : Int) * s1 + 0))) rfl (by omega), sE_k _ _, sE_V rfl, trivial⟩
  exact poX (.head _) rfl hR (all_nil) (all_nil) (all_cons ⟨[s1, 4, s0], ⟨sE_V rfl, sE_k _ _, sE_V rfl, trivial⟩, (show pxD (fun i => hI hp 274 i % 256) s1 (4 : Int) s0 from px_s (r := 3) f2 (j := i1) (show (fun i => hI hp 274 i % 256) i1 = s2 % 256 from by show hI hp 274 i1 % 256 = _; rw [h1]) (by omega) (by omega) ⟨by omega, by omega⟩ (by show s2 % 256 = _; rw [b8_3]; have u : s3 = s0 / 1 := f0 (by decide) (by decide); have w : s2 % 256 = s3 % 256 := f1; omega) (by omega) (by omega) (by decide))⟩ (all_nil))
theorem rl506 : ruOk fFS gR506 := by
  intro r hp hO hN hH
  obtain ⟨s0, s1, rfl⟩ := len2 (show r.length = 2 from hN.1)
  have hR := hN.2.1.1
  have hIv : ∀ q ∈ ([(0, .negSucc 2147483647, .ofNat 2147483647), (1, .negSucc 2147483647, .ofNat 2147483647)] : sIv), ∃ x, ([s0, s1] : List Int)[q.1]? = some x ∧ q.2.1 ≤ x ∧ x ≤ q.2.2 := hN.2.1.2
  have hFc : ∀ q ∈ ([(184, [(.ofNat 0, [(.ofNat 1, 0)]), (.ofNat 4, []), (.ofNat 0, [(.ofNat 1, 1)])])] : List sFc), fcOk fFS [s0, s1] hp q := hH.2
  have f0 : pxD (fun i => hI hp 274 i % 256) s0 (4 : Int) s1 := fcX (ys := [s0, 4, s1]) (hFc _ (.head _)) ⟨sE_V rfl, sE_k _ _, sE_V rfl, trivial⟩
  exact poX (.head _) rfl hR (all_nil) (all_nil) (all_cons ⟨[s0, s1], ⟨sE_V rfl, sE_V rfl, trivial⟩, (show pxD (fun i => hI hp 274 i % 256) s0 4 s1 from f0)⟩ (all_nil))
theorem rl507 : ruOk fFS gR507 := by
  intro r hp hO hN hH
  obtain ⟨s0, s1, rfl⟩ := len2 (show r.length = 2 from hN.1)
  have hR := hN.2.1.1
  have hIv : ∀ q ∈ ([(0, .negSucc 2147483647, .ofNat 2147483647), (1, .negSucc 2147483647, .ofNat 2147483647)] : sIv), ∃ x, ([s0, s1] : List Int)[q.1]? = some x ∧ q.2.1 ≤ x ∧ x ≤ q.2.2 := hN.2.1.2
  have hFc : ∀ q ∈ ([(184, [(.ofNat 0, [(.ofNat 1, 0)]), (.ofNat 4, []), (.ofNat 0, [(.ofNat 1, 1)])])] : List sFc), fcOk fFS [s0, s1] hp q := hH.2
  have f0 : pxD (fun i => hI hp 274 i % 256) s0 (4 : Int) s1 := fcX (ys := [s0, 4, s1]) (hFc _ (.head _)) ⟨sE_V rfl, sE_k _ _, sE_V rfl, trivial⟩
  exact poX (.head _) rfl hR (all_nil) (all_nil) (all_cons ⟨[s0, s1], ⟨sE_V rfl, sE_V rfl, trivial⟩, (show pxD (fun i => hI hp 274 i % 256) s0 4 s1 from f0)⟩ (all_nil))
theorem rl508 : ruOk fFS gR508 := by
  intro r hp hO hN hH
  obtain ⟨s0, s1, rfl⟩ := len2 (show r.length = 2 from hN.1)
  have hR := hN.2.1.1
  have hIv : ∀ q ∈ ([(0, .negSucc 2147483647, .ofNat 2147483647), (1, .negSucc 2147483647, .ofNat 2147483647)] : sIv), ∃ x, ([s0, s1] : List Int)[q.1]? = some x ∧ q.2.1 ≤ x ∧ x ≤ q.2.2 := hN.2.1.2
  have hFc : ∀ q ∈ ([(184, [(.ofNat 0, [(.ofNat 1, 0)]), (.ofNat 4, []), (.ofNat 0, [(.ofNat 1, 1)])])] : List sFc), fcOk fFS [s0, s1] hp q := hH.2
  have f0 : pxD (fun i => hI hp 274 i % 256) s0 (4 : Int) s1 := fcX (ys := [s0, 4, s1]) (hFc _ (.head _)) ⟨sE_V rfl, sE_k _ _, sE_V rfl, trivial⟩
  exact poX (.head _) rfl hR (all_nil) (all_nil) (all_cons ⟨[s0, s1], ⟨sE_V rfl, sE_V rfl, trivial⟩, (show pxD (fun i => hI hp 274 i % 256) s0 4 s1 from f0)⟩ (all_nil))
theorem rl509 : ruOk fFS gR509 := by
  intro r hp hO hN hH
  obtain ⟨s0, s1, rfl⟩ := len2 (show r.length = 2 from hN.1)
  have hR := hN.2.1.1
  have hIv : ∀ q ∈ ([(0, .negSucc 2147483647, .ofNat 2147483647), (1, .negSucc 2147483647, .ofNat 2147483647)] : sIv), ∃ x, ([s0, s1] : List Int)[q.1]? = some x ∧ q.2.1 ≤ x ∧ x ≤ q.2.2 := hN.2.1.2
  have hFc : ∀ q ∈ ([(184, [(.ofNat 0, [(.ofNat 1, 0)]), (.ofNat 4, []), (.ofNat 0, [(.ofNat 1, 1)])])] : List sFc), fcOk fFS [s0, s1] hp q := hH.2
  have f0 : pxD (fun i => hI hp 274 i % 256) s0 (4 : Int) s1 := fcX (ys := [s0, 4, s1]) (hFc _ (.head _)) ⟨sE_V rfl, sE_k _ _, sE_V rfl, trivial⟩
  exact poX (.head _) rfl hR (all_nil) (all_nil) (all_cons ⟨[s0, s1], ⟨sE_V rfl, sE_V rfl, trivial⟩, (show pxD (fun i => hI hp 274 i % 256) s0 4 s1 from f0)⟩ (all_nil))
theorem rl510 : ruOk fFS gR510 := by
  intro r hp hO hN hH
  obtain ⟨s0, s1, rfl⟩ := len2 (show r.length = 2 from hN.1)
  have hR := hN.2.1.1
  have hIv : ∀ q ∈ ([(0, .negSucc 2147483647, .ofNat 2147483647), (1, .negSucc 2147483647, .ofNat 2147483647)] : sIv), ∃ x, ([s0, s1] : List Int)[q.1]? = some x ∧ q.2.1 ≤ x ∧ x ≤ q.2.2 := hN.2.1.2
  have hFc : ∀ q ∈ ([(184, [(.ofNat 0, [(.ofNat 1, 0)]), (.ofNat 4, []), (.ofNat 0, [(.ofNat 1, 1)])])] : List sFc), fcOk fFS [s0, s1] hp q := hH.2
  have f0 : pxD (fun i => hI hp 274 i % 256) s0 (4 : Int) s1 := fcX (ys := [s0, 4, s1]) (hFc _ (.head _)) ⟨sE_V rfl, sE_k _ _, sE_V rfl, trivial⟩
  exact poX (.head _) rfl hR (all_nil) (all_nil) (all_cons ⟨[s0, s1], ⟨sE_V rfl, sE_V rfl, trivial⟩, (show pxD (fun i => hI hp 274 i % 256) s0 4 s1 from f0)⟩ (all_nil))
theorem rl511 : ruOk fFS gR511 := by
  intro r hp hO hN hH
  obtain ⟨s0, s1, s2, s3, s4, s5, rfl⟩ := len6 (show r.length = 6 from hN.1)
  have hR := hN.2.1.1
  have hIv : ∀ q ∈ ([(0, .negSucc 2147483647, .ofNat 2147483647), (1, .negSucc 2147483647, .ofNat 2147483647), (2, .negSucc 2147483647, .ofNat 2147483647), (3, .negSucc 2147483647, .ofNat 2147483647), (4, .negSucc 2147483647, .ofNat 2147483647), (5, .ofNat 20, .ofNat 940)] : sIv), ∃ x, ([s0, s1, s2, s3, s4, s5] : List Int)[q.1]? = some x ∧ q.2.1 ≤ x ∧ x ≤ q.2.2 := hN.2.1.2
  have b5 : (20 : Int) ≤ s5 ∧ s5 ≤ (940 : Int) := ivX (q := (5, .ofNat 20, .ofNat 940)) (y := s5) (hIv _ (.tail _ (.tail _ (.tail _ (.tail _ (.tail _ (.head _))))))) rfl
  have hRf : ∀ q ∈ ([((78, .ofNat 273, []), (.ofNat 2, []), 1, .ofNat 0, [(.ofNat 1, 5)])] : List sRf), rfOk [s0, s1, s2, s3, s4, s5] hp q := hH.1
  have h0 : hI hp 273 2 = s5 := rfI0 (hRf _ (.head _)) (sE_k _ _) (sE_k _ _) (sE_V rfl)
  have y0 : (0 : Int) ≤ s5 ∧ s5 ≤ (940 : Int) := by rw [← h0]; exact hI_ty hO (by decide) rfl
  have hFc : ∀ q ∈ ([(177, [(.negSucc 19, [(.ofNat 1, 5)])]), (190, [(.negSucc 19, [(.ofNat 1, 5)]), (.ofNat 0, [(.ofNat 1, 0)]), (.ofNat 0, [(.ofNat 1, 1)]), (.ofNat 0, [(.ofNat 1, 2)]), (.ofNat 0, [(.ofNat 1, 3)]), (.ofNat 0, [(.ofNat 1, 4)])]), (185, [(.negSucc 15, [(.ofNat 1, 5)]), (.ofNat 0, [(.ofNat 1, 0)])]), (186, [(.negSucc 11, [(.ofNat 1, 5)]), (.ofNat 0, [(.ofNat 1, 1)])]), (187, [(.negSucc 7, [(.ofNat 1, 5)]), (.ofNat 0, [(.ofNat 1, 2)])]), (188, [(.negSucc 3, [(.ofNat 1, 5)]), (.ofNat 0, [(.ofNat 1, 3)])]), (189, [(.ofNat 0, [(.ofNat 1, 5)]), (.ofNat 0, [(.ofNat 1, 4)])])] : List sFc), fcOk fFS [s0, s1, s2, s3, s4, s5] hp q := hH.2
  have f0 : ∀ i : Nat, i < 940 → (i : Int) < (s5 - 20) → hI hp 1 i = hI hp 274 i % 256 := fcX (ys := [(s5 - 20)]) (hFc _ (.head _)) ⟨sEv (y' := ((-20 : Int) + ((1 : Int) * s5 + 0))) rfl (by omega), trivial⟩
  have f1 : 0 ≤ (s5 - 20) ∧ (s5 - 20) + 20 ≤ 940 ∧ ∀ k : Nat, k < 4 → hI hp 1 ((s5 - 20).toNat + k) = b8 s0 k ∧ hI hp 1 ((s5 - 20).toNat + 4 + k) = b8 s1 k ∧ hI hp 1 ((s5 - 20).toNat + 8 + k) = b8 s2 k ∧ hI hp 1 ((s5 - 20).toNat + 12 + k) = b8 s3 k ∧ hI hp 1 ((s5 - 20).toNat + 16 + k) = b8 s4 k := fcX (ys := [(s5 - 20), s0, s1, s2, s3, s4]) (hFc _ (.tail _ (.head _))) ⟨sEv (y' := ((-20 : Int) + ((1 : Int) * s5 + 0))) rfl (by omega), sE_V rfl, sE_V rfl, sE_V rfl, sE_V rfl, sE_V rfl, trivial⟩
  have f2 : pxD (fun i => hI hp 274 i % 256) (s5 - 16) 4 s0 := fcX (ys := [(s5 - 16), s0]) (hFc _ (.tail _ (.tail _ (.head _)))) ⟨sEv (y' := ((-16 : Int) + ((1 : Int) * s5 + 0))) rfl (by omega), sE_V rfl, trivial⟩
  have f3 : pxD (fun i => hI hp 274 i % 256) (s5 - 12) 4 s1 := fcX (ys := [(s5 - 12), s1]) (hFc _ (.tail _ (.tail _ (.tail _ (.head _))))) ⟨sEv (y' := ((-12 : Int) + ((1 : Int) * s5 + 0))) rfl (by omega), sE_V rfl, trivial⟩
  have f4 : pxD (fun i => hI hp 274 i % 256) (s5 - 8) 4 s2 := fcX (ys := [(s5 - 8), s2]) (hFc _ (.tail _ (.tail _ (.tail _ (.tail _ (.head _)))))) ⟨sEv (y' := ((-8 : Int) + ((1 : Int) * s5 + 0))) rfl (by omega), sE_V rfl, trivial⟩
  have f5 : pxD (fun i => hI hp 274 i % 256) (s5 - 4) 4 s3 := fcX (ys := [(s5 - 4), s3]) (hFc _ (.tail _ (.tail _ (.tail _ (.tail _ (.tail _ (.head _))))))) ⟨sEv (y' := ((-4 : Int) + ((1 : Int) * s5 + 0))) rfl (by omega), sE_V rfl, trivial⟩
  have f6 : pxD (fun i => hI hp 274 i % 256) s5 4 s4 := fcX (ys := [s5, s4]) (hFc _ (.tail _ (.tail _ (.tail _ (.tail _ (.tail _ (.tail _ (.head _)))))))) ⟨sE_V rfl, sE_V rfl, trivial⟩
  exact poX (.head _) rfl hR (all_nil) (all_nil) (all_cons ⟨[s5], ⟨sE_V rfl, trivial⟩, (show ∀ i : Nat, i < 940 → (i : Int) < s5 → hI hp 1 i = hI hp 274 i % 256 from teq_20 f0 f1 f2 f3 f4 f5 f6 (by omega) (by omega))⟩ (all_nil))
theorem rl512 : ruOk fFS gR512 := by
  intro r hp hO hN hH
  have hr0 := len0 (show r.length = 0 from hN.1)
  subst hr0
  have hR := hN.2.1.1
  exact poX (.head _) rfl hR (all_nil) (all_nil) (all_cons ⟨[0], ⟨sE_k _ _, trivial⟩, (show ∀ j : Nat, j < 401 → (j : Int) < (0 : Int) → hI hp 276 j = 0 from fun j _ w => absurd w (by omega))⟩ (all_nil))
theorem rl513 : ruOk fFS gR513 := by
  intro r hp hO hN hH
  obtain ⟨s0, rfl⟩ := len1 (show r.length = 1 from hN.1)
  have hR := hN.2.1.1
  have hIv : ∀ q ∈ ([(0, .ofNat 0, .ofNat 400)] : sIv), ∃ x, ([s0] : List Int)[q.1]? = some x ∧ q.2.1 ≤ x ∧ x ≤ q.2.2 := hN.2.1.2
  have b0 : (0 : Int) ≤ s0 ∧ s0 ≤ (400 : Int) := ivX (q := (0, .ofNat 0, .ofNat 400)) (y := s0) (hIv _ (.head _)) rfl
  have hRf : ∀ q ∈ ([((81, .ofNat 276, []), (.ofNat 0, [(.ofNat 1, 0)]), 1, .ofNat 0, [])] : List sRf), rfOk [s0] hp q := hH.1
  obtain ⟨i0, e0, l0, h0⟩ := rfI (xv := 0) (iv := s0) (hRf _ (.head _)) (sE_k _ _) (sE_V rfl) (sE_k _ _)
  have l0 : i0 < 401 := l0
  have h0 : hI hp 276 i0 = 0 := h0
  have hFc : ∀ q ∈ ([(173, [(.ofNat 0, [(.ofNat 1, 0)])])] : List sFc), fcOk fFS [s0] hp q := hH.2
  have f0 : ∀ j : Nat, j < 401 → (j : Int) < s0 → hI hp 276 j = 0 := fcX (ys := [s0]) (hFc _ (.head _)) ⟨sE_V rfl, trivial⟩
  exact poX (.head _) rfl hR (all_nil) (all_nil) (all_cons ⟨[(s0 + 1)], ⟨sEv (y' := ((1 : Int) + ((1 : Int) * s0 + 0))) rfl (by omega), trivial⟩, (show ∀ j : Nat, j < 401 → (j : Int) < (s0 + 1) → hI hp 276 j = 0 from fl_s f0 h0 (by omega) (by omega) (by omega))⟩ (all_nil))
theorem rl514 : ruOk fFS gR514 := by
  intro r hp hO hN hH
  obtain ⟨s0, rfl⟩ := len1 (show r.length = 1 from hN.1)
  have hR := hN.2.1.1
  have hIv : ∀ q ∈ ([(0, .ofNat 401, .ofNat 2147483647)] : sIv), ∃ x, ([s0] : List Int)[q.1]? = some x ∧ q.2.1 ≤ x ∧ x ≤ q.2.2 := hN.2.1.2
  have b0 : (401 : Int) ≤ s0 ∧ s0 ≤ (2147483647 : Int) := ivX (q := (0, .ofNat 401, .ofNat 2147483647)) (y := s0) (hIv _ (.head _)) rfl
  have hFc : ∀ q ∈ ([(173, [(.ofNat 0, [(.ofNat 1, 0)])])] : List sFc), fcOk fFS [s0] hp q := hH.2
  have f0 : ∀ j : Nat, j < 401 → (j : Int) < s0 → hI hp 276 j = 0 := fcX (ys := [s0]) (hFc _ (.head _)) ⟨sE_V rfl, trivial⟩
  exact poX (.head _) rfl hR (all_nil) (all_nil) (all_cons ⟨[], trivial, (show ∀ j : Nat, 2 ≤ j → j < 401 → hI hp 276 j = 0 from fun j _ hj => f0 j hj (by omega))⟩ (all_nil))
theorem rl515 : ruOk fFS gR515 := by
  intro r hp hO hN hH
  have hr0 := len0 (show r.length = 0 from hN.1)
  subst hr0
  have hR := hN.2.1.1
  exact poX (.head _) rfl hR (all_nil) (all_nil) (all_cons ⟨[0], ⟨sE_k _ _, trivial⟩, (show fCh 276 250 0 hp from ch0 (by omega))⟩ (all_nil))
theorem rl516 : ruOk fFS gR516 := by
  intro r hp hO hN hH
  obtain ⟨s0, rfl⟩ := len1 (show r.length = 1 from hN.1)
  have hR := hN.2.1.1
  have hIv : ∀ q ∈ ([(0, .negSucc 2147483647, .ofNat 2147483647)] : sIv), ∃ x, ([s0] : List Int)[q.1]? = some x ∧ q.2.1 ≤ x ∧ x ≤ q.2.2 := hN.2.1.2
  have b0 : (-2147483648 : Int) ≤ s0 ∧ s0 ≤ (2147483647 : Int) := ivX (q := (0, .negSucc 2147483647, .ofNat 2147483647)) (y := s0) (hIv _ (.head _)) rfl
  have hRf : ∀ q ∈ ([((81, .ofNat 276, []), (.ofNat 400, []), 1, .ofNat 0, [(.ofNat 1, 0)])] : List sRf), rfOk [s0] hp q := hH.1
  have h0 : hI hp 276 400 = s0 := rfI0 (hRf _ (.head _)) (sE_k _ _) (sE_k _ _) (sE_V rfl)
  have y0 : (0 : Int) ≤ s0 ∧ s0 ≤ (10 : Int) := by rw [← h0]; exact hI_ty hO (by decide) rfl
  have hFc : ∀ q ∈ ([(174, [])] : List sFc), fcOk fFS [s0] hp q := hH.2
  have f0 : ∀ j : Nat, 2 ≤ j → j < 401 → hI hp 276 j = 0 := fcX (ys := []) (hFc _ (.head _)) trivial
  have u := f0 400 (by decide) (by decide)
  exact poX (.head _) rfl hR (all_cons (ivO (y := s0) rfl (show (0 : Int) ≤ s0 by omega) (show s0 ≤ (0 : Int) by omega)) (all_nil)) (all_nil) (all_nil)
theorem rl517 : ruOk fFS gR517 := by
  intro r hp hO hN hH
  have hr0 := len0 (show r.length = 0 from hN.1)
  subst hr0
  have hR := hN.2.1.1
  have hRf : ∀ q ∈ ([((78, .ofNat 273, []), (.ofNat 4, []), 1, .ofNat 0, [])] : List sRf), rfOk [] hp q := hH.1
  have h0 : hI hp 273 4 = 0 := rfI0 (hRf _ (.head _)) (sE_k _ _) (sE_k _ _) (sE_k _ _)
  have hFc : ∀ q ∈ ([(174, []), (132, [])] : List sFc), fcOk fFS [] hp q := hH.2
  have f0 : ∀ j : Nat, 2 ≤ j → j < 401 → hI hp 276 j = 0 := fcX (ys := []) (hFc _ (.head _)) trivial
  have f1 : ∀ i : Nat, i < 30 → hL hp 279 i = cd 256 0 (wrd (rsv i)) := fcX (ys := []) (hFc _ (.tail _ (.head _))) trivial
  exact poX (.head _) rfl hR (all_nil) (all_nil) (all_cons ⟨[0, 0, 0, 0, 0, 0, 0, 0, 0], ⟨sE_k _ _, sE_k _ _, sE_k _ _, sE_k _ _, sE_k _ _, sE_k _ _, sE_k _ _, sE_k _ _, sE_k _ _, trivial⟩, (show Gq (MT hp) (0 : Int) (0 : Int) (0 : Int) (0 : Int) (0 : Int) (0 : Int) (0 : Int) (0 : Int) (0 : Int) from ⟨d0, G_0⟩)⟩ (all_cons ⟨[0, 0, 0, 0, 0, 0, 0, 0, 0, 6, 6], ⟨sE_k _ _, sE_k _ _, sE_k _ _, sE_k _ _, sE_k _ _, sE_k _ _, sE_k _ _, sE_k _ _, sE_k _ _, sE_k _ _, sE_k _ _, trivial⟩, (show CT (MT hp) (0 : Int) (0 : Int) (0 : Int) (0 : Int) (0 : Int) (0 : Int) (0 : Int) (0 : Int) (0 : Int) (6 : Int) (6 : Int) from ⟨d0, dat_0, rfl, rfl, rfl, rfl, rfl, rfl, rfl, rfl, rfl, rfl⟩)⟩ (all_cons ⟨[0, 0], ⟨sE_k _ _, sE_k _ _, trivial⟩, (show dF (MT hp) (0 : Int) (fun D => bP (0 : Int) (szl D)) from ⟨d0, dat_0, Or.inr ⟨rfl, szl_0⟩⟩)⟩ (all_cons ⟨[0, 0], ⟨sE_k _ _, sE_k _ _, trivial⟩, (show dF (MT hp) (0 : Int) (fun D => (0 : Int) = (dOw D).length ∧ ∀ i : Nat, i < 4 → (i : Int) < (0 : Int) → hL hp 278 (12 + i) = cd 256 0 (nm D (0 + i))) from ⟨d0, dat_0, rfl, fun i _ w => absurd w (by omega)⟩)⟩ (all_cons ⟨[0, 0], ⟨sE_k _ _, sE_k _ _, trivial⟩, (show dF (MT hp) (0 : Int) (fun D => (0 : Int) = (dSt D).length ∧ ∀ i : Nat, i < 3 → (i : Int) < (0 : Int) → hL hp 278 (16 + i) = cd 256 0 (nm D (4 + i))) from ⟨d0, dat_0, rfl, fun i _ w => absurd w (by omega)⟩)⟩ (all_cons ⟨[0, 0], ⟨sE_k _ _, sE_k _ _, trivial⟩, (show dF (MT hp) (0 : Int) (fun D => (0 : Int) = (dKn D).length ∧ ∀ i : Nat, i < 5 → (i : Int) < (0 : Int) → hL hp 278 (19 + i) = cd 256 0 (nm D (7 + i))) from ⟨d0, dat_0, rfl, fun i _ w => absurd w (by omega)⟩)⟩ (all_cons ⟨[0], ⟨sE_k _ _, trivial⟩, (show dF (MT hp) (0 : Int) (fun D => ∀ p : Nat, p < 100 → (fM hp p ↔ ¬ tkI D p)) from ⟨d0, dat_0, fun p hp_ => ⟨fun _ => tk_0, fun _ => ⟨f0 _ (by omega) (by omega), f0 _ (by omega) (by omega)⟩⟩⟩)⟩ (all_cons ⟨[0, 0], ⟨sE_k _ _, sE_k _ _, trivial⟩, (show dF (MT hp) (0 : Int) (fun D => (0 : Int) = (dTr D).length ∧ ∀ i : Nat, i < 14 → (i : Int) < (0 : Int) → (dTr D)[i]? = some (hI hp 276 (272 + i), hI hp 276 (286 + i))) from ⟨d0, dat_0, rfl, fun i _ w => absurd w (by omega)⟩)⟩ (all_cons ⟨[0], ⟨sE_k _ _, trivial⟩, (show dF (MT hp) (0 : Int) (fun D => ∀ p : Nat, p < 100 → (hI hp 276 (300 + p) = 1 ↔ wlI D p)) from ⟨d0, dat_0, fun p hp_ => wm_0 (f0 _ (by omega) (by omega))⟩)⟩ (all_cons ⟨[0, 0], ⟨sE_k _ _, sE_k _ _, trivial⟩, (show dF (MT hp) (0 : Int) (fun D => (0 : Int) = (dWi D).length ∧ ∀ i : Nat, i < 8 → (i : Int) < (0 : Int) → (dWi D)[i]? = some (hI hp 276 (234 + i), hI hp 276 (242 + i))) from ⟨d0, dat_0, rfl, fun i _ w => absurd w (by omega)⟩)⟩ (all_nil)))))))))))
theorem rl518 : ruOk fFS gR518 := by
  intro r hp hO hN hH
  obtain ⟨s0, s1, rfl⟩ := len2 (show r.length = 2 from hN.1)
  have hR := hN.2.1.1
  have hIv : ∀ q ∈ ([(0, .negSucc 2147483647, .ofNat 2147483647), (1, .negSucc 2147483647, .ofNat 2147483647)] : sIv), ∃ x, ([s0, s1] : List Int)[q.1]? = some x ∧ q.2.1 ≤ x ∧ x ≤ q.2.2 := hN.2.1.2
  have hRf : ∀ q ∈ ([((78, .ofNat 273, []), (.ofNat 4, []), 1, .ofNat 0, [(.ofNat 1, 0)])] : List sRf), rfOk [s0, s1] hp q := hH.1
  have h0 : hI hp 273 4 = s0 := rfI0 (hRf _ (.head _)) (sE_k _ _) (sE_k _ _) (sE_V rfl)
  have y0 : (0 : Int) ≤ s0 ∧ s0 ≤ (940 : Int) := by rw [← h0]; exact hI_ty hO (by decide) rfl
  have hFc : ∀ q ∈ ([(109, [(.ofNat 0, [(.ofNat 1, 1)]), (.ofNat 0, [(.ofNat 1, 0)])])] : List sFc), fcOk fFS [s0, s1] hp q := hH.2
  have f0 : SK (MT hp).1 (MT hp).2.1 s1 s0 := fcX (ys := [s1, s0]) (hFc _ (.head _)) ⟨sE_V rfl, sE_V rfl, trivial⟩
  exact poX (.head _) rfl hR (all_nil) (all_nil) (all_cons ⟨[s1, s0], ⟨sE_V rfl, sE_V rfl, trivial⟩, (show SK (MT hp).1 (MT hp).2.1 s1 s0 from f0)⟩ (all_nil))
theorem rl519 : ruOk fFS gR519 := by
  intro r hp hO hN hH
  obtain ⟨s0, rfl⟩ := len1 (show r.length = 1 from hN.1)
  have hR := hN.2.1.1
  have hIv : ∀ q ∈ ([(0, .negSucc 2147483647, .ofNat 2147483647)] : sIv), ∃ x, ([s0] : List Int)[q.1]? = some x ∧ q.2.1 ≤ x ∧ x ≤ q.2.2 := hN.2.1.2
  have hRf : ∀ q ∈ ([((78, .ofNat 273, []), (.ofNat 4, []), 1, .ofNat 0, [(.ofNat 1, 0)])] : List sRf), rfOk [s0] hp q := hH.1
  have h0 : hI hp 273 4 = s0 := rfI0 (hRf _ (.head _)) (sE_k _ _) (sE_k _ _) (sE_V rfl)
  have y0 : (0 : Int) ≤ s0 ∧ s0 ≤ (940 : Int) := by rw [← h0]; exact hI_ty hO (by decide) rfl
  exact poX (.head _) rfl hR (all_nil) (all_nil) (all_cons ⟨[s0, s0], ⟨sE_V rfl, sE_V rfl, trivial⟩, (show SK (MT hp).1 (MT hp).2.1 s0 s0 from sk_0 (by omega))⟩ (all_nil))
theorem rl520 : ruOk fFS gR520 := by
  intro r hp hO hN hH
  obtain ⟨s0, s1, s2, rfl⟩ := len3 (show r.length = 3 from hN.1)
  have hR := hN.2.1.1
  have hIv : ∀ q ∈ ([(0, .ofNat 0, .ofNat 939), (1, .negSucc 2147483647, .ofNat 2147483647), (2, .negSucc 2147483647, .ofNat 2147483647)] : sIv), ∃ x, ([s0, s1, s2] : List Int)[q.1]? = some x ∧ q.2.1 ≤ x ∧ x ≤ q.2.2 := hN.2.1.2
  have b0 : (0 : Int) ≤ s0 ∧ s0 ≤ (939 : Int) := ivX (q := (0, .ofNat 0, .ofNat 939)) (y := s0) (hIv _ (.head _)) rfl
  have hRf : ∀ q ∈ ([((78, .ofNat 273, []), (.ofNat 4, []), 1, .ofNat 0, [(.ofNat 1, 0)]), ((79, .ofNat 274, []), (.ofNat 0, [(.ofNat 1, 0)]), 1, .ofNat 0, [(.ofNat 1, 1)])] : List sRf), rfOk [s0, s1, s2] hp q := hH.1
  have h0 : hI hp 273 4 = s0 := rfI0 (hRf _ (.head _)) (sE_k _ _) (sE_k _ _) (sE_V rfl)
  have y0 : (0 : Int) ≤ s0 ∧ s0 ≤ (940 : Int) := by rw [← h0]; exact hI_ty hO (by decide) rfl
  obtain ⟨i1, e1, l1, h1⟩ := rfI (xv := s1) (iv := s0) (hRf _ (.tail _ (.head _))) (sE_k _ _) (sE_V rfl) (sE_V rfl)
  have l1 : i1 < 940 := l1
  have h1 : hI hp 274 i1 = s1 := h1
  have hFc : ∀ q ∈ ([(87, [(.ofNat 0, [(.ofNat 1, 1)]), (.ofNat 255, []), (.ofNat 0, [(.ofNat 1, 2)])])] : List sFc), fcOk fFS [s0, s1, s2] hp q := hH.2
  have f0 : ((255 : Int) = 255 → s2 = s1 % 256) ∧ ((255 : Int) = 1 → s2 = s1 % 2) := fcX (ys := [s1, 255, s2]) (hFc _ (.head _)) ⟨sE_V rfl, sE_k _ _, sE_V rfl, trivial⟩
  exact poX (.head _) rfl hR (all_nil) (all_nil) (all_cons ⟨[s0, s2], ⟨sE_V rfl, sE_V rfl, trivial⟩, (show 0 ≤ s0 ∧ s0 < 940 ∧ s2 = MB hp s0 from tpm hO h1 l1 e1 (f0.1))⟩ (all_nil))
theorem rl521 : ruOk fFS gR521 := by
  intro r hp hO hN hH
  obtain ⟨s0, s1, s2, rfl⟩ := len3 (show r.length = 3 from hN.1)
  have hR := hN.2.1.1
  have hIv : ∀ q ∈ ([(0, .negSucc 2147483647, .ofNat 2147483647), (1, .negSucc 2147483647, .ofNat 2147483647), (2, .negSucc 2147483647, .ofNat 2147483647)] : sIv), ∃ x, ([s0, s1, s2] : List Int)[q.1]? = some x ∧ q.2.1 ≤ x ∧ x ≤ q.2.2 := hN.2.1.2
  have hRf : ∀ q ∈ ([((78, .ofNat 273, []), (.ofNat 4, []), 1, .ofNat 0, [(.ofNat 1, 0)])] : List sRf), rfOk [s0, s1, s2] hp q := hH.1
  have h0 : hI hp 273 4 = s0 := rfI0 (hRf _ (.head _)) (sE_k _ _) (sE_k _ _) (sE_V rfl)
  have y0 : (0 : Int) ≤ s0 ∧ s0 ≤ (940 : Int) := by rw [← h0]; exact hI_ty hO (by decide) rfl
  have hFc : ∀ q ∈ ([(113, [(.ofNat 0, [(.ofNat 1, 0)]), (.ofNat 0, [(.ofNat 1, 1)])]), (112, [(.ofNat 0, [(.ofNat 1, 0)]), (.ofNat 0, [(.ofNat 1, 2)])])] : List sFc), fcOk fFS [s0, s1, s2] hp q := hH.2
  have f0 : 0 ≤ s0 ∧ s0 < 940 ∧ s1 = MB hp s0 := fcX (ys := [s0, s1]) (hFc _ (.head _)) ⟨sE_V rfl, sE_V rfl, trivial⟩
  have f1 : 0 ≤ s0 ∧ s0 < 940 ∧ s2 = MB hp s0 := fcX (ys := [s0, s2]) (hFc _ (.tail _ (.head _))) ⟨sE_V rfl, sE_V rfl, trivial⟩
  have u := f0.2.2
  have w := f1.2.2
  rw [← w] at u
  exact poX (.head _) rfl hR (all_nil) (all_cons ⟨((0 : Int) + ((1 : Int) * s1 + ((-1 : Int) * s2 + 0))), rfl, (show ((0 : Int) + ((1 : Int) * s1 + ((-1 : Int) * s2 + 0))) ≤ 0 by omega)⟩ (all_cons ⟨((0 : Int) + ((-1 : Int) * s1 + ((1 : Int) * s2 + 0))), rfl, (show ((0 : Int) + ((-1 : Int) * s1 + ((1 : Int) * s2 + 0))) ≤ 0 by omega)⟩ (all_nil))) (all_nil)
theorem rl522 : ruOk fFS gR522 := by
  intro r hp hO hN hH
  obtain ⟨s0, s1, rfl⟩ := len2 (show r.length = 2 from hN.1)
  have hR := hN.2.1.1
  have hIv : ∀ q ∈ ([(0, .negSucc 2147483647, .ofNat 2147483647), (1, .negSucc 2147483647, .ofNat 2147483647)] : sIv), ∃ x, ([s0, s1] : List Int)[q.1]? = some x ∧ q.2.1 ≤ x ∧ x ≤ q.2.2 := hN.2.1.2
  have hRf : ∀ q ∈ ([((78, .ofNat 273, []), (.ofNat 4, []), 1, .ofNat 0, [(.ofNat 1, 0)])] : List sRf), rfOk [s0, s1] hp q := hH.1
  have h0 : hI hp 273 4 = s0 := rfI0 (hRf _ (.head _)) (sE_k _ _) (sE_k _ _) (sE_V rfl)
  have y0 : (0 : Int) ≤ s0 ∧ s0 ≤ (940 : Int) := by rw [← h0]; exact hI_ty hO (by decide) rfl
  have hFc : ∀ q ∈ ([(112, [(.ofNat 0, [(.ofNat 1, 0)]), (.ofNat 0, [(.ofNat 1, 1)])])] : List sFc), fcOk fFS [s0, s1] hp q := hH.2
  have f0 : 0 ≤ s0 ∧ s0 < 940 ∧ s1 = MB hp s0 := fcX (ys := [s0, s1]) (hFc _ (.head _)) ⟨sE_V rfl, sE_V rfl, trivial⟩
  exact poX (.head _) rfl hR (all_nil) (all_nil) (all_cons ⟨[s0, s1], ⟨sE_V rfl, sE_V rfl, trivial⟩, (show 0 ≤ s0 ∧ s0 < 940 ∧ s1 = MB hp s0 from f0)⟩ (all_nil))
theorem rl523 : ruOk fFS gR523 := by
  intro r hp hO hN hH
  obtain ⟨s0, s1, rfl⟩ := len2 (show r.length = 2 from hN.1)
  have hR := hN.2.1.1
  have hIv : ∀ q ∈ ([(0, .negSucc 2147483647, .ofNat 2147483647), (1, .ofNat 0, .ofNat 255)] : sIv), ∃ x, ([s0, s1] : List Int)[q.1]? = some x ∧ q.2.1 ≤ x ∧ x ≤ q.2.2 := hN.2.1.2
  have b1 : (0 : Int) ≤ s1 ∧ s1 ≤ (255 : Int) := ivX (q := (1, .ofNat 0, .ofNat 255)) (y := s1) (hIv _ (.tail _ (.head _))) rfl
  have hRf : ∀ q ∈ ([((78, .ofNat 273, []), (.ofNat 4, []), 1, .ofNat 0, [(.ofNat 1, 0)])] : List sRf), rfOk [s0, s1] hp q := hH.1
  have h0 : hI hp 273 4 = s0 := rfI0 (hRf _ (.head _)) (sE_k _ _) (sE_k _ _) (sE_V rfl)
  have y0 : (0 : Int) ≤ s0 ∧ s0 ≤ (940 : Int) := by rw [← h0]; exact hI_ty hO (by decide) rfl
  have hFc : ∀ q ∈ ([(113, [(.ofNat 0, [(.ofNat 1, 0)]), (.ofNat 0, [(.ofNat 1, 1)])])] : List sFc), fcOk fFS [s0, s1] hp q := hH.2
  have f0 : 0 ≤ s0 ∧ s0 < 940 ∧ s1 = MB hp s0 := fcX (ys := [s0, s1]) (hFc _ (.head _)) ⟨sE_V rfl, sE_V rfl, trivial⟩
  have y : (((0 : Int) ≤ s1 ∧ s1 ≤ (9 : Int))) ∨ (((10 : Int) ≤ s1 ∧ s1 ≤ (10 : Int))) ∨ (((11 : Int) ≤ s1 ∧ s1 ≤ (31 : Int))) ∨ (((32 : Int) ≤ s1 ∧ s1 ≤ (32 : Int))) ∨ (((33 : Int) ≤ s1 ∧ s1 ≤ (255 : Int))) := by omega
  rcases y with y | y | y | y | y
  · exact poX (.head _) rfl hR (all_cons (ivO (y := s1) rfl (show (0 : Int) ≤ s1 by omega) (show s1 ≤ (9 : Int) by omega)) (all_nil)) (all_nil) (all_nil)
  · exact poX (.tail _ (.head _)) rfl hR (all_cons (ivO (y := s1) rfl (show (10 : Int) ≤ s1 by omega) (show s1 ≤ (10 : Int) by omega)) (all_nil)) (all_nil) (all_nil)
  · exact poX (.tail _ (.tail _ (.head _))) rfl hR (all_cons (ivO (y := s1) rfl (show (11 : Int) ≤ s1 by omega) (show s1 ≤ (31 : Int) by omega)) (all_nil)) (all_nil) (all_nil)
  · exact poX (.tail _ (.tail _ (.tail _ (.head _)))) rfl hR (all_cons (ivO (y := s1) rfl (show (32 : Int) ≤ s1 by omega) (show s1 ≤ (32 : Int) by omega)) (all_nil)) (all_nil) (all_nil)
  · exact poX (.tail _ (.tail _ (.tail _ (.tail _ (.head _))))) rfl hR (all_cons (ivO (y := s1) rfl (show (33 : Int) ≤ s1 by omega) (show s1 ≤ (255 : Int) by omega)) (all_nil)) (all_nil) (all_nil)
theorem rl524 : ruOk fFS gR524 := by
  intro r hp hO hN hH
  obtain ⟨s0, s1, s2, rfl⟩ := len3 (show r.length = 3 from hN.1)
  have hR := hN.2.1.1
  have hIv : ∀ q ∈ ([(0, .negSucc 2147483647, .ofNat 2147483647), (1, .negSucc 2147483647, .ofNat 2147483647), (2, .ofNat 0, .ofNat 9)] : sIv), ∃ x, ([s0, s1, s2] : List Int)[q.1]? = some x ∧ q.2.1 ≤ x ∧ x ≤ q.2.2 := hN.2.1.2
  have b2 : (0 : Int) ≤ s2 ∧ s2 ≤ (9 : Int) := ivX (q := (2, .ofNat 0, .ofNat 9)) (y := s2) (hIv _ (.tail _ (.tail _ (.head _)))) rfl
  have hRf : ∀ q ∈ ([((78, .ofNat 273, []), (.ofNat 4, []), 1, .ofNat 0, [(.ofNat 1, 0)])] : List sRf), rfOk [s0, s1, s2] hp q := hH.1
  have h0 : hI hp 273 4 = s0 := rfI0 (hRf _ (.head _)) (sE_k _ _) (sE_k _ _) (sE_V rfl)
  have y0 : (0 : Int) ≤ s0 ∧ s0 ≤ (940 : Int) := by rw [← h0]; exact hI_ty hO (by decide) rfl
  have hFc : ∀ q ∈ ([(109, [(.ofNat 0, [(.ofNat 1, 1)]), (.ofNat 0, [(.ofNat 1, 0)])]), (113, [(.ofNat 0, [(.ofNat 1, 0)]), (.ofNat 0, [(.ofNat 1, 2)])])] : List sFc), fcOk fFS [s0, s1, s2] hp q := hH.2
  have f0 : SK (MT hp).1 (MT hp).2.1 s1 s0 := fcX (ys := [s1, s0]) (hFc _ (.head _)) ⟨sE_V rfl, sE_V rfl, trivial⟩
  have f1 : 0 ≤ s0 ∧ s0 < 940 ∧ s2 = MB hp s0 := fcX (ys := [s0, s2]) (hFc _ (.tail _ (.head _))) ⟨sE_V rfl, sE_V rfl, trivial⟩
  exact poX (.head _) rfl hR (all_nil) (all_nil) (all_cons ⟨[s1, s0], ⟨sE_V rfl, sE_V rfl, trivial⟩, (show P1q (MT hp).1 (MT hp).2.1 s1 s0 from p1_m f0 f1 (by omega))⟩ (all_nil))
theorem rl525 : ruOk fFS gR525 := by
  intro r hp hO hN hH
  obtain ⟨s0, s1, s2, rfl⟩ := len3 (show r.length = 3 from hN.1)
  have hR := hN.2.1.1
  have hIv : ∀ q ∈ ([(0, .negSucc 2147483647, .ofNat 2147483647), (1, .negSucc 2147483647, .ofNat 2147483647), (2, .ofNat 11, .ofNat 31)] : sIv), ∃ x, ([s0, s1, s2] : List Int)[q.1]? = some x ∧ q.2.1 ≤ x ∧ x ≤ q.2.2 := hN.2.1.2
  have b2 : (11 : Int) ≤ s2 ∧ s2 ≤ (31 : Int) := ivX (q := (2, .ofNat 11, .ofNat 31)) (y := s2) (hIv _ (.tail _ (.tail _ (.head _)))) rfl
  have hRf : ∀ q ∈ ([((78, .ofNat 273, []), (.ofNat 4, []), 1, .ofNat 0, [(.ofNat 1, 0)])] : List sRf), rfOk [s0, s1, s2] hp q := hH.1
  have h0 : hI hp 273 4 = s0 := rfI0 (hRf _ (.head _)) (sE_k _ _) (sE_k _ _) (sE_V rfl)
  have y0 : (0 : Int) ≤ s0 ∧ s0 ≤ (940 : Int) := by rw [← h0]; exact hI_ty hO (by decide) rfl
  have hFc : ∀ q ∈ ([(109, [(.ofNat 0, [(.ofNat 1, 1)]), (.ofNat 0, [(.ofNat 1, 0)])]), (113, [(.ofNat 0, [(.ofNat 1, 0)]), (.ofNat 0, [(.ofNat 1, 2)])])] : List sFc), fcOk fFS [s0, s1, s2] hp q := hH.2
  have f0 : SK (MT hp).1 (MT hp).2.1 s1 s0 := fcX (ys := [s1, s0]) (hFc _ (.head _)) ⟨sE_V rfl, sE_V rfl, trivial⟩
  have f1 : 0 ≤ s0 ∧ s0 < 940 ∧ s2 = MB hp s0 := fcX (ys := [s0, s2]) (hFc _ (.tail _ (.head _))) ⟨sE_V rfl, sE_V rfl, trivial⟩
  exact poX (.head _) rfl hR (all_nil) (all_nil) (all_cons ⟨[s1, s0], ⟨sE_V rfl, sE_V rfl, trivial⟩, (show P1q (MT hp).1 (MT hp).2.1 s1 s0 from p1_m f0 f1 (by omega))⟩ (all_nil))
theorem rl526 : ruOk fFS gR526 := by
  intro r hp hO hN hH
  obtain ⟨s0, s1, s2, rfl⟩ := len3 (show r.length = 3 from hN.1)
  have hR := hN.2.1.1
  have hIv : ∀ q ∈ ([(0, .negSucc 2147483647, .ofNat 2147483647), (1, .negSucc 2147483647, .ofNat 2147483647), (2, .ofNat 33, .ofNat 255)] : sIv), ∃ x, ([s0, s1, s2] : List Int)[q.1]? = some x ∧ q.2.1 ≤ x ∧ x ≤ q.2.2 := hN.2.1.2
  have b2 : (33 : Int) ≤ s2 ∧ s2 ≤ (255 : Int) := ivX (q := (2, .ofNat 33, .ofNat 255)) (y := s2) (hIv _ (.tail _ (.tail _ (.head _)))) rfl
  have hRf : ∀ q ∈ ([((78, .ofNat 273, []), (.ofNat 4, []), 1, .ofNat 0, [(.ofNat 1, 0)])] : List sRf), rfOk [s0, s1, s2] hp q := hH.1
  have h0 : hI hp 273 4 = s0 := rfI0 (hRf _ (.head _)) (sE_k _ _) (sE_k _ _) (sE_V rfl)
  have y0 : (0 : Int) ≤ s0 ∧ s0 ≤ (940 : Int) := by rw [← h0]; exact hI_ty hO (by decide) rfl
  have hFc : ∀ q ∈ ([(109, [(.ofNat 0, [(.ofNat 1, 1)]), (.ofNat 0, [(.ofNat 1, 0)])]), (113, [(.ofNat 0, [(.ofNat 1, 0)]), (.ofNat 0, [(.ofNat 1, 2)])])] : List sFc), fcOk fFS [s0, s1, s2] hp q := hH.2
  have f0 : SK (MT hp).1 (MT hp).2.1 s1 s0 := fcX (ys := [s1, s0]) (hFc _ (.head _)) ⟨sE_V rfl, sE_V rfl, trivial⟩
  have f1 : 0 ≤ s0 ∧ s0 < 940 ∧ s2 = MB hp s0 := fcX (ys := [s0, s2]) (hFc _ (.tail _ (.head _))) ⟨sE_V rfl, sE_V rfl, trivial⟩
  exact poX (.head _) rfl hR (all_nil) (all_nil) (all_cons ⟨[s1, s0], ⟨sE_V rfl, sE_V rfl, trivial⟩, (show P1q (MT hp).1 (MT hp).2.1 s1 s0 from p1_m f0 f1 (by omega))⟩ (all_nil))
theorem rl527 : ruOk fFS gR527 := by
  intro r hp hO hN hH
  obtain ⟨s0, s1, s2, rfl⟩ := len3 (show r.length = 3 from hN.1)
  have hR := hN.2.1.1
  have hIv : ∀ q ∈ ([(0, .negSucc 2147483647, .ofNat 2147483647), (1, .negSucc 2147483647, .ofNat 2147483647), (2, .negSucc 2147483647, .ofNat 2147483647)] : sIv), ∃ x, ([s0, s1, s2] : List Int)[q.1]? = some x ∧ q.2.1 ≤ x ∧ x ≤ q.2.2 := hN.2.1.2
  have hCs : ∀ c ∈ ([(.ofNat 0, [(.negSucc 0, 0), (.ofNat 1, 1)])] : List sLn), ∃ x, sE [s0, s1, s2] c = some x ∧ x ≤ 0 := hN.2.2.1
  have c0 : ((0 : Int) + ((-1 : Int) * s0 + ((1 : Int) * s1 + 0))) ≤ 0 := csX (hCs _ (.head _)) rfl
  have hRf : ∀ q ∈ ([((78, .ofNat 273, []), (.ofNat 4, []), 1, .ofNat 0, [(.ofNat 1, 0)]), ((78, .ofNat 273, []), (.ofNat 3, []), 1, .ofNat 0, [(.ofNat 1, 1)])] : List sRf), rfOk [s0, s1, s2] hp q := hH.1
  have h0 : hI hp 273 4 = s0 := rfI0 (hRf _ (.head _)) (sE_k _ _) (sE_k _ _) (sE_V rfl)
  have y0 : (0 : Int) ≤ s0 ∧ s0 ≤ (940 : Int) := by rw [← h0]; exact hI_ty hO (by decide) rfl
  have h1 : hI hp 273 3 = s1 := rfI0 (hRf _ (.tail _ (.head _))) (sE_k _ _) (sE_k _ _) (sE_V rfl)
  have y1 : (0 : Int) ≤ s1 ∧ s1 ≤ (940 : Int) := by rw [← h1]; exact hI_ty hO (by decide) rfl
  have tnm : (MT hp).2.1 = s1 := h1
  have hFc : ∀ q ∈ ([(109, [(.ofNat 0, [(.ofNat 1, 2)]), (.ofNat 0, [(.ofNat 1, 0)])])] : List sFc), fcOk fFS [s0, s1, s2] hp q := hH.2
  have f0 : SK (MT hp).1 (MT hp).2.1 s2 s0 := fcX (ys := [s2, s0]) (hFc _ (.head _)) ⟨sE_V rfl, sE_V rfl, trivial⟩
  exact poX (.head _) rfl hR (all_nil) (all_nil) (all_cons ⟨[s2, s0], ⟨sE_V rfl, sE_V rfl, trivial⟩, (show P1q (MT hp).1 (MT hp).2.1 s2 s0 from ⟨f0, fun w => absurd w (by omega)⟩)⟩ (all_nil))
theorem rl528 : ruOk fFS gR528 := by
  intro r hp hO hN hH
  obtain ⟨s0, s1, s2, s3, rfl⟩ := len4 (show r.length = 4 from hN.1)
  have hR := hN.2.1.1
  have hIv : ∀ q ∈ ([(0, .negSucc 2147483647, .ofNat 2147483647), (1, .negSucc 2147483647, .ofNat 2147483647), (2, .negSucc 2147483647, .ofNat 2147483647), (3, .negSucc 2147483647, .ofNat 2147483647)] : sIv), ∃ x, ([s0, s1, s2, s3] : List Int)[q.1]? = some x ∧ q.2.1 ≤ x ∧ x ≤ q.2.2 := hN.2.1.2
  have hCs : ∀ c ∈ ([(.ofNat 0, [(.negSucc 0, 0), (.ofNat 1, 2)]), (.ofNat 1, [(.negSucc 0, 1), (.ofNat 1, 2)])] : List sLn), ∃ x, sE [s0, s1, s2, s3] c = some x ∧ x ≤ 0 := hN.2.2.1
  have c0 : ((0 : Int) + ((-1 : Int) * s0 + ((1 : Int) * s2 + 0))) ≤ 0 := csX (hCs _ (.head _)) rfl
  have c1 : ((1 : Int) + ((-1 : Int) * s1 + ((1 : Int) * s2 + 0))) ≤ 0 := csX (hCs _ (.tail _ (.head _))) rfl
  have hRf : ∀ q ∈ ([((78, .ofNat 273, []), (.ofNat 4, []), 1, .ofNat 0, [(.ofNat 1, 0)]), ((78, .ofNat 273, []), (.ofNat 3, []), 1, .ofNat 0, [(.ofNat 1, 1)]), ((78, .ofNat 273, []), (.ofNat 5, []), 1, .ofNat 0, [(.ofNat 1, 2)])] : List sRf), rfOk [s0, s1, s2, s3] hp q := hH.1
  have h0 : hI hp 273 4 = s0 := rfI0 (hRf _ (.head _)) (sE_k _ _) (sE_k _ _) (sE_V rfl)
  have y0 : (0 : Int) ≤ s0 ∧ s0 ≤ (940 : Int) := by rw [← h0]; exact hI_ty hO (by decide) rfl
  have h1 : hI hp 273 3 = s1 := rfI0 (hRf _ (.tail _ (.head _))) (sE_k _ _) (sE_k _ _) (sE_V rfl)
  have y1 : (0 : Int) ≤ s1 ∧ s1 ≤ (940 : Int) := by rw [← h1]; exact hI_ty hO (by decide) rfl
  have tnm : (MT hp).2.1 = s1 := h1
  have h2 : hI hp 273 5 = s2 := rfI0 (hRf _ (.tail _ (.tail _ (.head _)))) (sE_k _ _) (sE_k _ _) (sE_V rfl)
  have y2 : (0 : Int) ≤ s2 ∧ s2 ≤ (940 : Int) := by rw [← h2]; exact hI_ty hO (by decide) rfl
  have tmm : (MT hp).2.2 = s2 := h2
  have hFc : ∀ q ∈ ([(110, [(.ofNat 0, [(.ofNat 1, 3)]), (.ofNat 0, [(.ofNat 1, 0)])])] : List sFc), fcOk fFS [s0, s1, s2, s3] hp q := hH.2
  have f0 : P1q (MT hp).1 (MT hp).2.1 s3 s0 := fcX (ys := [s3, s0]) (hFc _ (.head _)) ⟨sE_V rfl, sE_V rfl, trivial⟩
  exact poX (.head _) rfl hR (all_nil) (all_nil) (all_cons ⟨[s3, 4, s2, s0, (-1)], ⟨sE_V rfl, sE_k _ _, sE_V rfl, sE_V rfl, sE_k _ _, trivial⟩, (show TKB (MT hp) s3 (4 : Int) s2 s0 (-1 : Int) from tk_lim f0 (by omega) (by omega) (by omega) (by omega))⟩ (all_nil))
theorem rl529 : ruOk fFS gR529 := by
  intro r hp hO hN hH
  obtain ⟨s0, s1, s2, s3, s4, s5, s6, s7, s8, s9, s10, s11, s12, rfl⟩ := len13 (show r.length = 13 from hN.1)
  have hR := hN.2.1.1
  have hIv : ∀ q ∈ ([(0, .negSucc 2147483647, .ofNat 2147483647), (1, .negSucc 2147483647, .ofNat 2147483647), (2, .negSucc 2147483647, .ofNat 2147483647), (3, .negSucc 2147483647, .ofNat 2147483647), (4, .negSucc 2147483647, .ofNat 2147483647), (5, .negSucc 2147483647, .ofNat 2147483647), (6, .negSucc 2147483647, .ofNat 2147483647), (7, .negSucc 2147483647, .ofNat 2147483647), (8, .negSucc 2147483647, .ofNat 2147483647), (9, .negSucc 2147483647, .ofNat 2147483647), (10, .negSucc 2147483647, .ofNat 2147483647), (11, .negSucc 2147483647, .ofNat 2147483647), (12, .negSucc 2147483647, .ofNat 2147483647)] : sIv), ∃ x, ([s0, s1, s2, s3, s4, s5, s6, s7, s8, s9, s10, s11, s12] : List Int)[q.1]? = some x ∧ q.2.1 ≤ x ∧ x ≤ q.2.2 := hN.2.1.2
  have hFc : ∀ q ∈ ([(118, [(.ofNat 0, [(.ofNat 1, 0)]), (.ofNat 0, [(.ofNat 1, 1)]), (.ofNat 0, [(.ofNat 1, 2)]), (.ofNat 0, [(.ofNat 1, 3)]), (.ofNat 0, [(.ofNat 1, 4)]), (.ofNat 0, [(.ofNat 1, 5)]), (.ofNat 0, [(.ofNat 1, 6)]), (.ofNat 0, [(.ofNat 1, 7)]), (.ofNat 0, [(.ofNat 1, 8)])]), (116, [(.ofNat 0, [(.ofNat 1, 0)]), (.ofNat 0, [(.ofNat 1, 9)]), (.ofNat 0, [(.ofNat 1, 10)]), (.ofNat 0, [(.ofNat 1, 11)]), (.ofNat 0, [(.ofNat 1, 12)])])] : List sFc), fcOk fFS [s0, s1, s2, s3, s4, s5, s6, s7, s8, s9, s10, s11, s12] hp q := hH.2
  have f0 : Gq (MT hp) s0 s1 s2 s3 s4 s5 s6 s7 s8 := fcX (ys := [s0, s1, s2, s3, s4, s5, s6, s7, s8]) (hFc _ (.head _)) ⟨sE_V rfl, sE_V rfl, sE_V rfl, sE_V rfl, sE_V rfl, sE_V rfl, sE_V rfl, sE_V rfl, sE_V rfl, trivial⟩
  have f1 : TKB (MT hp) s0 s9 s10 s11 s12 := fcX (ys := [s0, s9, s10, s11, s12]) (hFc _ (.tail _ (.head _))) ⟨sE_V rfl, sE_V rfl, sE_V rfl, sE_V rfl, sE_V rfl, trivial⟩
  exact poX (.head _) rfl hR (all_nil) (all_nil) (all_cons ⟨[s0, s1, s2, s3, s4, s5, s6, s7, s8, s9, s10, s11, s12], ⟨sE_V rfl, sE_V rfl, sE_V rfl, sE_V rfl, sE_V rfl, sE_V rfl, sE_V rfl, sE_V rfl, sE_V rfl, sE_V rfl, sE_V rfl, sE_V rfl, sE_V rfl, trivial⟩, (show Hq (MT hp) s0 s1 s2 s3 s4 s5 s6 s7 s8 s9 s10 s11 s12 from ⟨f0, f1⟩)⟩ (all_nil))
theorem rl530 : ruOk fFS gR530 := by
  intro r hp hO hN hH
  obtain ⟨s0, s1, s2, s3, s4, s5, s6, s7, s8, s9, s10, rfl⟩ := len11 (show r.length = 11 from hN.1)
  have hR := hN.2.1.1
  have hIv : ∀ q ∈ ([(0, .negSucc 2147483647, .ofNat 2147483647), (1, .negSucc 2147483647, .ofNat 2147483647), (2, .negSucc 2147483647, .ofNat 2147483647), (3, .negSucc 2147483647, .ofNat 2147483647), (4, .negSucc 2147483647, .ofNat 2147483647), (5, .negSucc 2147483647, .ofNat 2147483647), (6, .negSucc 2147483647, .ofNat 2147483647), (7, .negSucc 2147483647, .ofNat 2147483647), (8, .negSucc 2147483647, .ofNat 2147483647), (9, .negSucc 2147483647, .ofNat 2147483647), (10, .negSucc 2147483647, .ofNat 2147483647)] : sIv), ∃ x, ([s0, s1, s2, s3, s4, s5, s6, s7, s8, s9, s10] : List Int)[q.1]? = some x ∧ q.2.1 ≤ x ∧ x ≤ q.2.2 := hN.2.1.2
  have hFc : ∀ q ∈ ([(118, [(.ofNat 0, [(.ofNat 1, 0)]), (.ofNat 0, [(.ofNat 1, 1)]), (.ofNat 0, [(.ofNat 1, 2)]), (.ofNat 0, [(.ofNat 1, 3)]), (.ofNat 0, [(.ofNat 1, 4)]), (.ofNat 0, [(.ofNat 1, 5)]), (.ofNat 0, [(.ofNat 1, 6)]), (.ofNat 0, [(.ofNat 1, 7)]), (.ofNat 0, [(.ofNat 1, 8)])]), (117, [(.ofNat 0, [(.ofNat 1, 0)]), (.ofNat 0, [(.ofNat 1, 9)]), (.ofNat 0, [(.ofNat 1, 10)])])] : List sFc), fcOk fFS [s0, s1, s2, s3, s4, s5, s6, s7, s8, s9, s10] hp q := hH.2
  have f0 : Gq (MT hp) s0 s1 s2 s3 s4 s5 s6 s7 s8 := fcX (ys := [s0, s1, s2, s3, s4, s5, s6, s7, s8]) (hFc _ (.head _)) ⟨sE_V rfl, sE_V rfl, sE_V rfl, sE_V rfl, sE_V rfl, sE_V rfl, sE_V rfl, sE_V rfl, sE_V rfl, trivial⟩
  have f1 : TW (MT hp) s0 s9 s10 := fcX (ys := [s0, s9, s10]) (hFc _ (.tail _ (.head _))) ⟨sE_V rfl, sE_V rfl, sE_V rfl, trivial⟩
  have u := wix_r (bs (MT hp).1 s9 s10)
  exact poX1 (v := (wix (bs (MT hp).1 s9 s10))) (.head _) rfl hR (by rw [wMn_eq, wMx_eq]; omega) (all_cons (ivO (y := (wix (bs (MT hp).1 s9 s10))) rfl (show (-1 : Int) ≤ (wix (bs (MT hp).1 s9 s10)) by omega) (show (wix (bs (MT hp).1 s9 s10)) ≤ (29 : Int) by omega)) (all_nil)) (all_nil) (all_cons ⟨[s0, s1, s2, s3, s4, s5, s6, s7, s8, 1, s9, s10, (wix (bs (MT hp).1 s9 s10))], ⟨sE_V rfl, sE_V rfl, sE_V rfl, sE_V rfl, sE_V rfl, sE_V rfl, sE_V rfl, sE_V rfl, sE_V rfl, sE_k _ _, sE_V rfl, sE_V rfl, sE_V rfl, trivial⟩, (show Hq (MT hp) s0 s1 s2 s3 s4 s5 s6 s7 s8 1 s9 s10 (wix (bs (MT hp).1 s9 s10)) from ⟨f0, tw_tk (MT_ok hO) f1 rfl⟩)⟩ all_nil)
theorem rl531 : ruOk fFS gR531 := by
  intro r hp hO hN hH
  obtain ⟨s0, s1, s2, s3, s4, s5, s6, s7, rfl⟩ := len8 (show r.length = 8 from hN.1)
  have hR := hN.2.1.1
  have hIv : ∀ q ∈ ([(0, .negSucc 2147483647, .ofNat 2147483647), (1, .negSucc 2147483647, .ofNat 2147483647), (2, .negSucc 2147483647, .ofNat 2147483647), (3, .negSucc 2147483647, .ofNat 2147483647), (4, .negSucc 2147483647, .ofNat 2147483647), (5, .negSucc 2147483647, .ofNat 2147483647), (6, .negSucc 2147483647, .ofNat 2147483647), (7, .negSucc 2147483647, .ofNat 2147483647)] : sIv), ∃ x, ([s0, s1, s2, s3, s4, s5, s6, s7] : List Int)[q.1]? = some x ∧ q.2.1 ≤ x ∧ x ≤ q.2.2 := hN.2.1.2
  have hFc : ∀ q ∈ ([(206, [(.ofNat 0, [(.ofNat 1, 0)]), (.ofNat 0, [(.ofNat 1, 1)]), (.ofNat 0, [(.ofNat 1, 2)]), (.ofNat 0, [(.ofNat 1, 3)])]), (116, [(.ofNat 0, [(.ofNat 1, 0)]), (.ofNat 0, [(.ofNat 1, 4)]), (.ofNat 0, [(.ofNat 1, 5)]), (.ofNat 0, [(.ofNat 1, 6)]), (.ofNat 0, [(.ofNat 1, 7)])])] : List sFc), fcOk fFS [s0, s1, s2, s3, s4, s5, s6, s7] hp q := hH.2
  have f0 : SG (MT hp) (nmM hp) s0 s1 s2 s3 := fcX (ys := [s0, s1, s2, s3]) (hFc _ (.head _)) ⟨sE_V rfl, sE_V rfl, sE_V rfl, sE_V rfl, trivial⟩
  have f1 : TKB (MT hp) s0 s4 s5 s6 s7 := fcX (ys := [s0, s4, s5, s6, s7]) (hFc _ (.tail _ (.head _))) ⟨sE_V rfl, sE_V rfl, sE_V rfl, sE_V rfl, sE_V rfl, trivial⟩
  exact poX (.head _) rfl hR (all_nil) (all_nil) (all_cons ⟨[s0, s1, s2, s3, s4, s5, s6, s7], ⟨sE_V rfl, sE_V rfl, sE_V rfl, sE_V rfl, sE_V rfl, sE_V rfl, sE_V rfl, sE_V rfl, trivial⟩, (show SHq (MT hp) (nmM hp) s0 s1 s2 s3 s4 s5 s6 s7 from ⟨f0, f1⟩)⟩ (all_nil))
theorem rl532 : ruOk fFS gR532 := by
  intro r hp hO hN hH
  obtain ⟨s0, s1, s2, s3, s4, s5, rfl⟩ := len6 (show r.length = 6 from hN.1)
  have hR := hN.2.1.1
  have hIv : ∀ q ∈ ([(0, .negSucc 2147483647, .ofNat 2147483647), (1, .negSucc 2147483647, .ofNat 2147483647), (2, .negSucc 2147483647, .ofNat 2147483647), (3, .negSucc 2147483647, .ofNat 2147483647), (4, .negSucc 2147483647, .ofNat 2147483647), (5, .negSucc 2147483647, .ofNat 2147483647)] : sIv), ∃ x, ([s0, s1, s2, s3, s4, s5] : List Int)[q.1]? = some x ∧ q.2.1 ≤ x ∧ x ≤ q.2.2 := hN.2.1.2
  have hFc : ∀ q ∈ ([(206, [(.ofNat 0, [(.ofNat 1, 0)]), (.ofNat 0, [(.ofNat 1, 1)]), (.ofNat 0, [(.ofNat 1, 2)]), (.ofNat 0, [(.ofNat 1, 3)])]), (117, [(.ofNat 0, [(.ofNat 1, 0)]), (.ofNat 0, [(.ofNat 1, 4)]), (.ofNat 0, [(.ofNat 1, 5)])])] : List sFc), fcOk fFS [s0, s1, s2, s3, s4, s5] hp q := hH.2
  have f0 : SG (MT hp) (nmM hp) s0 s1 s2 s3 := fcX (ys := [s0, s1, s2, s3]) (hFc _ (.head _)) ⟨sE_V rfl, sE_V rfl, sE_V rfl, sE_V rfl, trivial⟩
  have f1 : TW (MT hp) s0 s4 s5 := fcX (ys := [s0, s4, s5]) (hFc _ (.tail _ (.head _))) ⟨sE_V rfl, sE_V rfl, sE_V rfl, trivial⟩
  obtain ⟨s6, ev⟩ : ∃ y : Int, y = (wix (bs (MT hp).1 s4 s5)) := ⟨_, rfl⟩
  have u := wix_r (bs (MT hp).1 s4 s5)
  rw [← ev] at u
  exact poXu (u := [s6]) (.head _) rfl hR (by rw [wMn_eq, wMx_eq]; intro x hx; simp only [List.mem_cons, List.not_mem_nil, or_false] at hx; omega) (all_cons (ivO (y := s6) rfl (show (-1 : Int) ≤ s6 by omega) (show s6 ≤ (29 : Int) by omega)) (all_nil)) (all_nil) (all_cons ⟨[s0, s1, s2, s3, 1, s4, s5, s6], ⟨sE_V rfl, sE_V rfl, sE_V rfl, sE_V rfl, sE_k _ _, sE_V rfl, sE_V rfl, sE_V rfl, trivial⟩, (show SHq (MT hp) (nmM hp) s0 s1 s2 s3 (1 : Int) s4 s5 s6 from ⟨f0, tw_tk (MT_ok hO) f1 ev⟩)⟩ (all_nil))
theorem rl533 : ruOk fFS gR533 := by
  intro r hp hO hN hH
  obtain ⟨s0, s1, s2, s3, s4, s5, s6, rfl⟩ := len7 (show r.length = 7 from hN.1)
  have hR := hN.2.1.1
  have hIv : ∀ q ∈ ([(0, .negSucc 2147483647, .ofNat 2147483647), (1, .negSucc 2147483647, .ofNat 2147483647), (2, .negSucc 2147483647, .ofNat 2147483647), (3, .negSucc 2147483647, .ofNat 2147483647), (4, .negSucc 2147483647, .ofNat 2147483647), (5, .negSucc 2147483647, .ofNat 2147483647), (6, .negSucc 2147483647, .ofNat 2147483647)] : sIv), ∃ x, ([s0, s1, s2, s3, s4, s5, s6] : List Int)[q.1]? = some x ∧ q.2.1 ≤ x ∧ x ≤ q.2.2 := hN.2.1.2
  have hFc : ∀ q ∈ ([(249, [(.ofNat 0, [(.ofNat 1, 0)]), (.ofNat 0, [(.ofNat 1, 1)]), (.ofNat 0, [(.ofNat 1, 2)])]), (116, [(.ofNat 0, [(.ofNat 1, 0)]), (.ofNat 0, [(.ofNat 1, 3)]), (.ofNat 0, [(.ofNat 1, 4)]), (.ofNat 0, [(.ofNat 1, 5)]), (.ofNat 0, [(.ofNat 1, 6)])])] : List sFc), fcOk fFS [s0, s1, s2, s3, s4, s5, s6] hp q := hH.2
  have f0 : roG (MT hp) (nmM hp) (hI hp 275 0) (hI hp 275 1) s0 s1 s2 := fcX (ys := [s0, s1, s2]) (hFc _ (.head _)) ⟨sE_V rfl, sE_V rfl, sE_V rfl, trivial⟩
  have f1 : TKB (MT hp) s0 s3 s4 s5 s6 := fcX (ys := [s0, s3, s4, s5, s6]) (hFc _ (.tail _ (.head _))) ⟨sE_V rfl, sE_V rfl, sE_V rfl, sE_V rfl, sE_V rfl, trivial⟩
  exact poX (.head _) rfl hR (all_nil) (all_nil) (all_cons ⟨[s0, s1, s2, s3, s4, s5, s6], ⟨sE_V rfl, sE_V rfl, sE_V rfl, sE_V rfl, sE_V rfl, sE_V rfl, sE_V rfl, trivial⟩, (show roH (MT hp) (nmM hp) (hI hp 275 0) (hI hp 275 1) s0 s1 s2 s3 s4 s5 s6 from ⟨f0, f1⟩)⟩ (all_nil))
theorem rl534 : ruOk fFS gR534 := by
  intro r hp hO hN hH
  obtain ⟨s0, s1, s2, s3, s4, rfl⟩ := len5 (show r.length = 5 from hN.1)
  have hR := hN.2.1.1
  have hIv : ∀ q ∈ ([(0, .negSucc 2147483647, .ofNat 2147483647), (1, .negSucc 2147483647, .ofNat 2147483647), (2, .negSucc 2147483647, .ofNat 2147483647), (3, .negSucc 2147483647, .ofNat 2147483647), (4, .negSucc 2147483647, .ofNat 2147483647)] : sIv), ∃ x, ([s0, s1, s2, s3, s4] : List Int)[q.1]? = some x ∧ q.2.1 ≤ x ∧ x ≤ q.2.2 := hN.2.1.2
  have hFc : ∀ q ∈ ([(249, [(.ofNat 0, [(.ofNat 1, 0)]), (.ofNat 0, [(.ofNat 1, 1)]), (.ofNat 0, [(.ofNat 1, 2)])]), (117, [(.ofNat 0, [(.ofNat 1, 0)]), (.ofNat 0, [(.ofNat 1, 3)]), (.ofNat 0, [(.ofNat 1, 4)])])] : List sFc), fcOk fFS [s0, s1, s2, s3, s4] hp q := hH.2
  have f0 : roG (MT hp) (nmM hp) (hI hp 275 0) (hI hp 275 1) s0 s1 s2 := fcX (ys := [s0, s1, s2]) (hFc _ (.head _)) ⟨sE_V rfl, sE_V rfl, sE_V rfl, trivial⟩
  have f1 : TW (MT hp) s0 s3 s4 := fcX (ys := [s0, s3, s4]) (hFc _ (.tail _ (.head _))) ⟨sE_V rfl, sE_V rfl, sE_V rfl, trivial⟩
  obtain ⟨s5, ev⟩ : ∃ y : Int, y = (wix (bs (MT hp).1 s3 s4)) := ⟨_, rfl⟩
  have u := wix_r (bs (MT hp).1 s3 s4)
  rw [← ev] at u
  exact poXu (u := [s5]) (.head _) rfl hR (by rw [wMn_eq, wMx_eq]; intro x hx; simp only [List.mem_cons, List.not_mem_nil, or_false] at hx; omega) (all_cons (ivO (y := s5) rfl (show (-1 : Int) ≤ s5 by omega) (show s5 ≤ (29 : Int) by omega)) (all_nil)) (all_nil) (all_cons ⟨[s0, s1, s2, 1, s3, s4, s5], ⟨sE_V rfl, sE_V rfl, sE_V rfl, sE_k _ _, sE_V rfl, sE_V rfl, sE_V rfl, trivial⟩, (show roH (MT hp) (nmM hp) (hI hp 275 0) (hI hp 275 1) s0 s1 s2 (1 : Int) s3 s4 s5 from ⟨f0, tw_tk (MT_ok hO) f1 ev⟩)⟩ (all_nil))
theorem rl535 : ruOk fFS gR535 := by
  intro r hp hO hN hH
  obtain ⟨s0, s1, s2, s3, rfl⟩ := len4 (show r.length = 4 from hN.1)
  have hR := hN.2.1.1
  have hIv : ∀ q ∈ ([(0, .negSucc 2147483647, .ofNat 2147483647), (1, .negSucc 2147483647, .ofNat 2147483647), (2, .negSucc 2147483647, .ofNat 2147483647), (3, .negSucc 2147483647, .ofNat 2147483647)] : sIv), ∃ x, ([s0, s1, s2, s3] : List Int)[q.1]? = some x ∧ q.2.1 ≤ x ∧ x ≤ q.2.2 := hN.2.1.2
  have hCs : ∀ c ∈ ([(.ofNat 0, [(.negSucc 0, 0), (.ofNat 1, 1)]), (.ofNat 0, [(.ofNat 1, 1), (.negSucc 0, 2)])] : List sLn), ∃ x, sE [s0, s1, s2, s3] c = some x ∧ x ≤ 0 := hN.2.2.1
  have c0 : ((0 : Int) + ((-1 : Int) * s0 + ((1 : Int) * s1 + 0))) ≤ 0 := csX (hCs _ (.head _)) rfl
  have c1 : ((0 : Int) + ((1 : Int) * s1 + ((-1 : Int) * s2 + 0))) ≤ 0 := csX (hCs _ (.tail _ (.head _))) rfl
  have hRf : ∀ q ∈ ([((78, .ofNat 273, []), (.ofNat 4, []), 1, .ofNat 0, [(.ofNat 1, 0)]), ((78, .ofNat 273, []), (.ofNat 3, []), 1, .ofNat 0, [(.ofNat 1, 1)]), ((78, .ofNat 273, []), (.ofNat 5, []), 1, .ofNat 0, [(.ofNat 1, 2)])] : List sRf), rfOk [s0, s1, s2, s3] hp q := hH.1
  have h0 : hI hp 273 4 = s0 := rfI0 (hRf _ (.head _)) (sE_k _ _) (sE_k _ _) (sE_V rfl)
  have y0 : (0 : Int) ≤ s0 ∧ s0 ≤ (940 : Int) := by rw [← h0]; exact hI_ty hO (by decide) rfl
  have h1 : hI hp 273 3 = s1 := rfI0 (hRf _ (.tail _ (.head _))) (sE_k _ _) (sE_k _ _) (sE_V rfl)
  have y1 : (0 : Int) ≤ s1 ∧ s1 ≤ (940 : Int) := by rw [← h1]; exact hI_ty hO (by decide) rfl
  have tnm : (MT hp).2.1 = s1 := h1
  have h2 : hI hp 273 5 = s2 := rfI0 (hRf _ (.tail _ (.tail _ (.head _)))) (sE_k _ _) (sE_k _ _) (sE_V rfl)
  have y2 : (0 : Int) ≤ s2 ∧ s2 ≤ (940 : Int) := by rw [← h2]; exact hI_ty hO (by decide) rfl
  have tmm : (MT hp).2.2 = s2 := h2
  have hFc : ∀ q ∈ ([(110, [(.ofNat 0, [(.ofNat 1, 3)]), (.ofNat 0, [(.ofNat 1, 0)])])] : List sFc), fcOk fFS [s0, s1, s2, s3] hp q := hH.2
  have f0 : P1q (MT hp).1 (MT hp).2.1 s3 s0 := fcX (ys := [s3, s0]) (hFc _ (.head _)) ⟨sE_V rfl, sE_V rfl, trivial⟩
  exact poX (.head _) rfl hR (all_nil) (all_nil) (all_cons ⟨[s3, 0, s0, s0, (-1)], ⟨sE_V rfl, sE_k _ _, sE_V rfl, sE_V rfl, sE_k _ _, trivial⟩, (show TKB (MT hp) s3 (0 : Int) s0 s0 (-1 : Int) from tk_end f0 (by omega) (by omega) (by omega))⟩ (all_nil))
theorem rl536 : ruOk fFS gR536 := by
  intro r hp hO hN hH
  obtain ⟨s0, s1, s2, s3, rfl⟩ := len4 (show r.length = 4 from hN.1)
  have hR := hN.2.1.1
  have hIv : ∀ q ∈ ([(0, .negSucc 2147483647, .ofNat 2147483647), (1, .negSucc 2147483647, .ofNat 2147483647), (2, .negSucc 2147483647, .ofNat 2147483647), (3, .negSucc 2147483647, .ofNat 2147483647)] : sIv), ∃ x, ([s0, s1, s2, s3] : List Int)[q.1]? = some x ∧ q.2.1 ≤ x ∧ x ≤ q.2.2 := hN.2.1.2
  have hCs : ∀ c ∈ ([(.ofNat 1, [(.ofNat 1, 0), (.negSucc 0, 1)]), (.ofNat 0, [(.ofNat 1, 1), (.negSucc 0, 2)])] : List sLn), ∃ x, sE [s0, s1, s2, s3] c = some x ∧ x ≤ 0 := hN.2.2.1
  have c0 : ((1 : Int) + ((1 : Int) * s0 + ((-1 : Int) * s1 + 0))) ≤ 0 := csX (hCs _ (.head _)) rfl
  have c1 : ((0 : Int) + ((1 : Int) * s1 + ((-1 : Int) * s2 + 0))) ≤ 0 := csX (hCs _ (.tail _ (.head _))) rfl
  have hRf : ∀ q ∈ ([((78, .ofNat 273, []), (.ofNat 4, []), 1, .ofNat 0, [(.ofNat 1, 0)]), ((78, .ofNat 273, []), (.ofNat 3, []), 1, .ofNat 0, [(.ofNat 1, 1)]), ((78, .ofNat 273, []), (.ofNat 5, []), 1, .ofNat 0, [(.ofNat 1, 2)])] : List sRf), rfOk [s0, s1, s2, s3] hp q := hH.1
  have h0 : hI hp 273 4 = s0 := rfI0 (hRf _ (.head _)) (sE_k _ _) (sE_k _ _) (sE_V rfl)
  have y0 : (0 : Int) ≤ s0 ∧ s0 ≤ (940 : Int) := by rw [← h0]; exact hI_ty hO (by decide) rfl
  have h1 : hI hp 273 3 = s1 := rfI0 (hRf _ (.tail _ (.head _))) (sE_k _ _) (sE_k _ _) (sE_V rfl)
  have y1 : (0 : Int) ≤ s1 ∧ s1 ≤ (940 : Int) := by rw [← h1]; exact hI_ty hO (by decide) rfl
  have tnm : (MT hp).2.1 = s1 := h1
  have h2 : hI hp 273 5 = s2 := rfI0 (hRf _ (.tail _ (.tail _ (.head _)))) (sE_k _ _) (sE_k _ _) (sE_V rfl)
  have y2 : (0 : Int) ≤ s2 ∧ s2 ≤ (940 : Int) := by rw [← h2]; exact hI_ty hO (by decide) rfl
  have tmm : (MT hp).2.2 = s2 := h2
  have hFc : ∀ q ∈ ([(110, [(.ofNat 0, [(.ofNat 1, 3)]), (.ofNat 0, [(.ofNat 1, 0)])])] : List sFc), fcOk fFS [s0, s1, s2, s3] hp q := hH.2
  have f0 : P1q (MT hp).1 (MT hp).2.1 s3 s0 := fcX (ys := [s3, s0]) (hFc _ (.head _)) ⟨sE_V rfl, sE_V rfl, trivial⟩
  exact poX (.head _) rfl hR (all_nil) (all_nil) (all_cons ⟨[s3, s0], ⟨sE_V rfl, sE_V rfl, trivial⟩, (show P2 (MT hp) s3 s0 from ⟨f0, by omega, by omega⟩)⟩ (all_nil))
theorem rl537 : ruOk fFS gR537 := by
  intro r hp hO hN hH
  obtain ⟨s0, s1, s2, s3, rfl⟩ := len4 (show r.length = 4 from hN.1)
  have hR := hN.2.1.1
  have hIv : ∀ q ∈ ([(0, .negSucc 2147483647, .ofNat 2147483647), (1, .negSucc 2147483647, .ofNat 2147483647), (2, .negSucc 2147483647, .ofNat 2147483647), (3, .negSucc 2147483647, .ofNat 2147483647)] : sIv), ∃ x, ([s0, s1, s2, s3] : List Int)[q.1]? = some x ∧ q.2.1 ≤ x ∧ x ≤ q.2.2 := hN.2.1.2
  have hCs : ∀ c ∈ ([(.ofNat 1, [(.ofNat 1, 0), (.negSucc 0, 1)]), (.ofNat 1, [(.ofNat 1, 0), (.negSucc 0, 2)])] : List sLn), ∃ x, sE [s0, s1, s2, s3] c = some x ∧ x ≤ 0 := hN.2.2.1
  have c0 : ((1 : Int) + ((1 : Int) * s0 + ((-1 : Int) * s1 + 0))) ≤ 0 := csX (hCs _ (.head _)) rfl
  have c1 : ((1 : Int) + ((1 : Int) * s0 + ((-1 : Int) * s2 + 0))) ≤ 0 := csX (hCs _ (.tail _ (.head _))) rfl
  have hRf : ∀ q ∈ ([((78, .ofNat 273, []), (.ofNat 4, []), 1, .ofNat 0, [(.ofNat 1, 0)]), ((78, .ofNat 273, []), (.ofNat 3, []), 1, .ofNat 0, [(.ofNat 1, 1)]), ((78, .ofNat 273, []), (.ofNat 5, []), 1, .ofNat 0, [(.ofNat 1, 2)])] : List sRf), rfOk [s0, s1, s2, s3] hp q := hH.1
  have h0 : hI hp 273 4 = s0 := rfI0 (hRf _ (.head _)) (sE_k _ _) (sE_k _ _) (sE_V rfl)
  have y0 : (0 : Int) ≤ s0 ∧ s0 ≤ (940 : Int) := by rw [← h0]; exact hI_ty hO (by decide) rfl
  have h1 : hI hp 273 3 = s1 := rfI0 (hRf _ (.tail _ (.head _))) (sE_k _ _) (sE_k _ _) (sE_V rfl)
  have y1 : (0 : Int) ≤ s1 ∧ s1 ≤ (940 : Int) := by rw [← h1]; exact hI_ty hO (by decide) rfl
  have tnm : (MT hp).2.1 = s1 := h1
  have h2 : hI hp 273 5 = s2 := rfI0 (hRf _ (.tail _ (.tail _ (.head _)))) (sE_k _ _) (sE_k _ _) (sE_V rfl)
  have y2 : (0 : Int) ≤ s2 ∧ s2 ≤ (940 : Int) := by rw [← h2]; exact hI_ty hO (by decide) rfl
  have tmm : (MT hp).2.2 = s2 := h2
  have hFc : ∀ q ∈ ([(110, [(.ofNat 0, [(.ofNat 1, 3)]), (.ofNat 0, [(.ofNat 1, 0)])])] : List sFc), fcOk fFS [s0, s1, s2, s3] hp q := hH.2
  have f0 : P1q (MT hp).1 (MT hp).2.1 s3 s0 := fcX (ys := [s3, s0]) (hFc _ (.head _)) ⟨sE_V rfl, sE_V rfl, trivial⟩
  exact poX (.head _) rfl hR (all_nil) (all_nil) (all_cons ⟨[s3, s0], ⟨sE_V rfl, sE_V rfl, trivial⟩, (show P2 (MT hp) s3 s0 from ⟨f0, by omega, by omega⟩)⟩ (all_nil))
theorem rl538 : ruOk fFS gR538 := by
  intro r hp hO hN hH
  obtain ⟨s0, rfl⟩ := len1 (show r.length = 1 from hN.1)
  have hR := hN.2.1.1
  have hIv : ∀ q ∈ ([(0, .ofNat 0, .ofNat 255)] : sIv), ∃ x, ([s0] : List Int)[q.1]? = some x ∧ q.2.1 ≤ x ∧ x ≤ q.2.2 := hN.2.1.2
  have b0 : (0 : Int) ≤ s0 ∧ s0 ≤ (255 : Int) := ivX (q := (0, .ofNat 0, .ofNat 255)) (y := s0) (hIv _ (.head _)) rfl
  have y : (((0 : Int) ≤ s0 ∧ s0 ≤ (39 : Int))) ∨ (((40 : Int) ≤ s0 ∧ s0 ≤ (40 : Int))) ∨ (((41 : Int) ≤ s0 ∧ s0 ≤ (41 : Int))) ∨ (((42 : Int) ≤ s0 ∧ s0 ≤ (47 : Int))) ∨ (((48 : Int) ≤ s0 ∧ s0 ≤ (57 : Int))) ∨ (((58 : Int) ≤ s0 ∧ s0 ≤ (58 : Int))) ∨ (((59 : Int) ≤ s0 ∧ s0 ≤ (59 : Int))) ∨ (((60 : Int) ≤ s0 ∧ s0 ≤ (62 : Int))) ∨ (((63 : Int) ≤ s0 ∧ s0 ≤ (96 : Int))) ∨ (((97 : Int) ≤ s0 ∧ s0 ≤ (122 : Int))) ∨ (((123 : Int) ≤ s0 ∧ s0 ≤ (255 : Int))) := by omega
  rcases y with y | y | y | y | y | y | y | y | y | y | y
  · exact poX (.head _) rfl hR (all_cons (ivO (y := s0) rfl (show (0 : Int) ≤ s0 by omega) (show s0 ≤ (39 : Int) by omega)) (all_nil)) (all_nil) (all_nil)
  · exact poX (.tail _ (.head _)) rfl hR (all_cons (ivO (y := s0) rfl (show (40 : Int) ≤ s0 by omega) (show s0 ≤ (40 : Int) by omega)) (all_nil)) (all_nil) (all_nil)
  · exact poX (.tail _ (.tail _ (.head _))) rfl hR (all_cons (ivO (y := s0) rfl (show (41 : Int) ≤ s0 by omega) (show s0 ≤ (41 : Int) by omega)) (all_nil)) (all_nil) (all_nil)
  · exact poX (.tail _ (.tail _ (.tail _ (.head _)))) rfl hR (all_cons (ivO (y := s0) rfl (show (42 : Int) ≤ s0 by omega) (show s0 ≤ (47 : Int) by omega)) (all_nil)) (all_nil) (all_nil)
  · exact poX (.tail _ (.tail _ (.tail _ (.tail _ (.head _))))) rfl hR (all_cons (ivO (y := s0) rfl (show (48 : Int) ≤ s0 by omega) (show s0 ≤ (57 : Int) by omega)) (all_nil)) (all_nil) (all_nil)
  · exact poX (.tail _ (.tail _ (.tail _ (.tail _ (.tail _ (.head _)))))) rfl hR (all_cons (ivO (y := s0) rfl (show (58 : Int) ≤ s0 by omega) (show s0 ≤ (58 : Int) by omega)) (all_nil)) (all_nil) (all_nil)
  · exact poX (.tail _ (.tail _ (.tail _ (.tail _ (.tail _ (.tail _ (.head _))))))) rfl hR (all_cons (ivO (y := s0) rfl (show (59 : Int) ≤ s0 by omega) (show s0 ≤ (59 : Int) by omega)) (all_nil)) (all_nil) (all_nil)
  · exact poX (.tail _ (.tail _ (.tail _ (.tail _ (.tail _ (.tail _ (.tail _ (.head _)))))))) rfl hR (all_cons (ivO (y := s0) rfl (show (60 : Int) ≤ s0 by omega) (show s0 ≤ (62 : Int) by omega)) (all_nil)) (all_nil) (all_nil)
  · exact poX (.tail _ (.tail _ (.tail _ (.tail _ (.tail _ (.tail _ (.tail _ (.tail _ (.head _))))))))) rfl hR (all_cons (ivO (y := s0) rfl (show (63 : Int) ≤ s0 by omega) (show s0 ≤ (96 : Int) by omega)) (all_nil)) (all_nil) (all_nil)
  · exact poX (.tail _ (.tail _ (.tail _ (.tail _ (.tail _ (.tail _ (.tail _ (.tail _ (.tail _ (.head _)))))))))) rfl hR (all_cons (ivO (y := s0) rfl (show (97 : Int) ≤ s0 by omega) (show s0 ≤ (122 : Int) by omega)) (all_nil)) (all_nil) (all_nil)
  · exact poX (.tail _ (.tail _ (.tail _ (.tail _ (.tail _ (.tail _ (.tail _ (.tail _ (.tail _ (.tail _ (.head _))))))))))) rfl hR (all_cons (ivO (y := s0) rfl (show (123 : Int) ≤ s0 by omega) (show s0 ≤ (255 : Int) by omega)) (all_nil)) (all_nil) (all_nil)
theorem rl539 : ruOk fFS gR539 := by
  intro r hp hO hN hH
  obtain ⟨s0, rfl⟩ := len1 (show r.length = 1 from hN.1)
  have hR := hN.2.1.1
  have hIv : ∀ q ∈ ([(0, .negSucc 2147483647, .ofNat 2147483647)] : sIv), ∃ x, ([s0] : List Int)[q.1]? = some x ∧ q.2.1 ≤ x ∧ x ≤ q.2.2 := hN.2.1.2
  have b0 : (-2147483648 : Int) ≤ s0 ∧ s0 ≤ (2147483647 : Int) := ivX (q := (0, .negSucc 2147483647, .ofNat 2147483647)) (y := s0) (hIv _ (.head _)) rfl
  have y : (((-2147483648 : Int) ≤ s0 ∧ s0 ≤ (96 : Int))) ∨ (((97 : Int) ≤ s0 ∧ s0 ≤ (122 : Int))) ∨ (((123 : Int) ≤ s0 ∧ s0 ≤ (2147483647 : Int))) := by omega
  rcases y with y | y | y
  · exact poX (.head _) rfl hR (all_cons (ivO (y := s0) rfl (show (-2147483648 : Int) ≤ s0 by omega) (show s0 ≤ (96 : Int) by omega)) (all_nil)) (all_nil) (all_nil)
  · exact poX (.tail _ (.head _)) rfl hR (all_cons (ivO (y := s0) rfl (show (97 : Int) ≤ s0 by omega) (show s0 ≤ (122 : Int) by omega)) (all_nil)) (all_nil) (all_nil)
  · exact poX (.tail _ (.tail _ (.head _))) rfl hR (all_cons (ivO (y := s0) rfl (show (123 : Int) ≤ s0 by omega) (show s0 ≤ (2147483647 : Int) by omega)) (all_nil)) (all_nil) (all_nil)
theorem rl540 : ruOk fFS gR540 := by
  intro r hp hO hN hH
  obtain ⟨s0, rfl⟩ := len1 (show r.length = 1 from hN.1)
  have hR := hN.2.1.1
  have hIv : ∀ q ∈ ([(0, .negSucc 2147483647, .ofNat 2147483647)] : sIv), ∃ x, ([s0] : List Int)[q.1]? = some x ∧ q.2.1 ≤ x ∧ x ≤ q.2.2 := hN.2.1.2
  have b0 : (-2147483648 : Int) ≤ s0 ∧ s0 ≤ (2147483647 : Int) := ivX (q := (0, .negSucc 2147483647, .ofNat 2147483647)) (y := s0) (hIv _ (.head _)) rfl
  have y : (((-2147483648 : Int) ≤ s0 ∧ s0 ≤ (47 : Int))) ∨ (((48 : Int) ≤ s0 ∧ s0 ≤ (57 : Int))) ∨ (((58 : Int) ≤ s0 ∧ s0 ≤ (2147483647 : Int))) := by omega
  rcases y with y | y | y
  · exact poX (.head _) rfl hR (all_cons (ivO (y := s0) rfl (show (-2147483648 : Int) ≤ s0 by omega) (show s0 ≤ (47 : Int) by omega)) (all_nil)) (all_nil) (all_nil)
  · exact poX (.tail _ (.head _)) rfl hR (all_cons (ivO (y := s0) rfl (show (48 : Int) ≤ s0 by omega) (show s0 ≤ (57 : Int) by omega)) (all_nil)) (all_nil) (all_nil)
  · exact poX (.tail _ (.tail _ (.head _))) rfl hR (all_cons (ivO (y := s0) rfl (show (58 : Int) ≤ s0 by omega) (show s0 ≤ (2147483647 : Int) by omega)) (all_nil)) (all_nil) (all_nil)
theorem rl541 : ruOk fFS gR541 := by
  intro r hp hO hN hH
  obtain ⟨s0, s1, s2, rfl⟩ := len3 (show r.length = 3 from hN.1)
  have hR := hN.2.1.1
  have hIv : ∀ q ∈ ([(0, .ofNat 40, .ofNat 41), (1, .negSucc 2147483647, .ofNat 2147483647), (2, .negSucc 2147483647, .ofNat 2147483647)] : sIv), ∃ x, ([s0, s1, s2] : List Int)[q.1]? = some x ∧ q.2.1 ≤ x ∧ x ≤ q.2.2 := hN.2.1.2
  have b0 : (40 : Int) ≤ s0 ∧ s0 ≤ (41 : Int) := ivX (q := (0, .ofNat 40, .ofNat 41)) (y := s0) (hIv _ (.head _)) rfl
  have hRf : ∀ q ∈ ([((78, .ofNat 273, []), (.ofNat 4, []), 1, .ofNat 0, [(.ofNat 1, 1)])] : List sRf), rfOk [s0, s1, s2] hp q := hH.1
  have h0 : hI hp 273 4 = s1 := rfI0 (hRf _ (.head _)) (sE_k _ _) (sE_k _ _) (sE_V rfl)
  have y0 : (0 : Int) ≤ s1 ∧ s1 ≤ (940 : Int) := by rw [← h0]; exact hI_ty hO (by decide) rfl
  have hFc : ∀ q ∈ ([(111, [(.ofNat 0, [(.ofNat 1, 2)]), (.ofNat 0, [(.ofNat 1, 1)])]), (113, [(.ofNat 0, [(.ofNat 1, 1)]), (.ofNat 0, [(.ofNat 1, 0)])])] : List sFc), fcOk fFS [s0, s1, s2] hp q := hH.2
  have f0 : P2 (MT hp) s2 s1 := fcX (ys := [s2, s1]) (hFc _ (.head _)) ⟨sE_V rfl, sE_V rfl, trivial⟩
  have f1 : 0 ≤ s1 ∧ s1 < 940 ∧ s0 = MB hp s1 := fcX (ys := [s1, s0]) (hFc _ (.tail _ (.head _))) ⟨sE_V rfl, sE_V rfl, trivial⟩
  exact poX (.head _) rfl hR (all_nil) (all_nil) (all_cons ⟨[s2, 3, s1, (s1 + 1), s0], ⟨sE_V rfl, sE_k _ _, sE_V rfl, sEv (y' := ((1 : Int) + ((1 : Int) * s1 + 0))) rfl (by omega), sE_V rfl, trivial⟩, (show TKB (MT hp) s2 (3 : Int) s1 (s1 + 1) s0 from tks_m hO f0 f1 (by omega) (by omega))⟩ (all_nil))
theorem rl542 : ruOk fFS gR542 := by
  intro r hp hO hN hH
  obtain ⟨s0, s1, s2, rfl⟩ := len3 (show r.length = 3 from hN.1)
  have hR := hN.2.1.1
  have hIv : ∀ q ∈ ([(0, .ofNat 59, .ofNat 62), (1, .negSucc 2147483647, .ofNat 2147483647), (2, .negSucc 2147483647, .ofNat 2147483647)] : sIv), ∃ x, ([s0, s1, s2] : List Int)[q.1]? = some x ∧ q.2.1 ≤ x ∧ x ≤ q.2.2 := hN.2.1.2
  have b0 : (59 : Int) ≤ s0 ∧ s0 ≤ (62 : Int) := ivX (q := (0, .ofNat 59, .ofNat 62)) (y := s0) (hIv _ (.head _)) rfl
  have hRf : ∀ q ∈ ([((78, .ofNat 273, []), (.ofNat 4, []), 1, .ofNat 0, [(.ofNat 1, 1)])] : List sRf), rfOk [s0, s1, s2] hp q := hH.1
  have h0 : hI hp 273 4 = s1 := rfI0 (hRf _ (.head _)) (sE_k _ _) (sE_k _ _) (sE_V rfl)
  have y0 : (0 : Int) ≤ s1 ∧ s1 ≤ (940 : Int) := by rw [← h0]; exact hI_ty hO (by decide) rfl
  have hFc : ∀ q ∈ ([(111, [(.ofNat 0, [(.ofNat 1, 2)]), (.ofNat 0, [(.ofNat 1, 1)])]), (113, [(.ofNat 0, [(.ofNat 1, 1)]), (.ofNat 0, [(.ofNat 1, 0)])])] : List sFc), fcOk fFS [s0, s1, s2] hp q := hH.2
  have f0 : P2 (MT hp) s2 s1 := fcX (ys := [s2, s1]) (hFc _ (.head _)) ⟨sE_V rfl, sE_V rfl, trivial⟩
  have f1 : 0 ≤ s1 ∧ s1 < 940 ∧ s0 = MB hp s1 := fcX (ys := [s1, s0]) (hFc _ (.tail _ (.head _))) ⟨sE_V rfl, sE_V rfl, trivial⟩
  exact poX (.head _) rfl hR (all_nil) (all_nil) (all_cons ⟨[s2, 3, s1, (s1 + 1), s0], ⟨sE_V rfl, sE_k _ _, sE_V rfl, sEv (y' := ((1 : Int) + ((1 : Int) * s1 + 0))) rfl (by omega), sE_V rfl, trivial⟩, (show TKB (MT hp) s2 (3 : Int) s1 (s1 + 1) s0 from tks_m hO f0 f1 (by omega) (by omega))⟩ (all_nil))
theorem rl543 : ruOk fFS gR543 := by
  intro r hp hO hN hH
  obtain ⟨s0, s1, s2, rfl⟩ := len3 (show r.length = 3 from hN.1)
  have hR := hN.2.1.1
  have hIv : ∀ q ∈ ([(0, .ofNat 0, .ofNat 39), (1, .negSucc 2147483647, .ofNat 2147483647), (2, .negSucc 2147483647, .ofNat 2147483647)] : sIv), ∃ x, ([s0, s1, s2] : List Int)[q.1]? = some x ∧ q.2.1 ≤ x ∧ x ≤ q.2.2 := hN.2.1.2
  have b0 : (0 : Int) ≤ s0 ∧ s0 ≤ (39 : Int) := ivX (q := (0, .ofNat 0, .ofNat 39)) (y := s0) (hIv _ (.head _)) rfl
  have hRf : ∀ q ∈ ([((78, .ofNat 273, []), (.ofNat 4, []), 1, .ofNat 0, [(.ofNat 1, 1)])] : List sRf), rfOk [s0, s1, s2] hp q := hH.1
  have h0 : hI hp 273 4 = s1 := rfI0 (hRf _ (.head _)) (sE_k _ _) (sE_k _ _) (sE_V rfl)
  have y0 : (0 : Int) ≤ s1 ∧ s1 ≤ (940 : Int) := by rw [← h0]; exact hI_ty hO (by decide) rfl
  have hFc : ∀ q ∈ ([(111, [(.ofNat 0, [(.ofNat 1, 2)]), (.ofNat 0, [(.ofNat 1, 1)])]), (113, [(.ofNat 0, [(.ofNat 1, 1)]), (.ofNat 0, [(.ofNat 1, 0)])])] : List sFc), fcOk fFS [s0, s1, s2] hp q := hH.2
  have f0 : P2 (MT hp) s2 s1 := fcX (ys := [s2, s1]) (hFc _ (.head _)) ⟨sE_V rfl, sE_V rfl, trivial⟩
  have f1 : 0 ≤ s1 ∧ s1 < 940 ∧ s0 = MB hp s1 := fcX (ys := [s1, s0]) (hFc _ (.tail _ (.head _))) ⟨sE_V rfl, sE_V rfl, trivial⟩
  exact poX (.head _) rfl hR (all_nil) (all_nil) (all_cons ⟨[s2, 4, s1, (s1 + 1), (-1)], ⟨sE_V rfl, sE_k _ _, sE_V rfl, sEv (y' := ((1 : Int) + ((1 : Int) * s1 + 0))) rfl (by omega), sE_k _ _, trivial⟩, (show TKB (MT hp) s2 (4 : Int) s1 (s1 + 1) (-1 : Int) from tkn_m hO f0 f1 (by omega) (by omega))⟩ (all_nil))
theorem rl544 : ruOk fFS gR544 := by
  intro r hp hO hN hH
  obtain ⟨s0, s1, s2, rfl⟩ := len3 (show r.length = 3 from hN.1)
  have hR := hN.2.1.1
  have hIv : ∀ q ∈ ([(0, .ofNat 42, .ofNat 47), (1, .negSucc 2147483647, .ofNat 2147483647), (2, .negSucc 2147483647, .ofNat 2147483647)] : sIv), ∃ x, ([s0, s1, s2] : List Int)[q.1]? = some x ∧ q.2.1 ≤ x ∧ x ≤ q.2.2 := hN.2.1.2
  have b0 : (42 : Int) ≤ s0 ∧ s0 ≤ (47 : Int) := ivX (q := (0, .ofNat 42, .ofNat 47)) (y := s0) (hIv _ (.head _)) rfl
  have hRf : ∀ q ∈ ([((78, .ofNat 273, []), (.ofNat 4, []), 1, .ofNat 0, [(.ofNat 1, 1)])] : List sRf), rfOk [s0, s1, s2] hp q := hH.1
  have h0 : hI hp 273 4 = s1 := rfI0 (hRf _ (.head _)) (sE_k _ _) (sE_k _ _) (sE_V rfl)
  have y0 : (0 : Int) ≤ s1 ∧ s1 ≤ (940 : Int) := by rw [← h0]; exact hI_ty hO (by decide) rfl
  have hFc : ∀ q ∈ ([(111, [(.ofNat 0, [(.ofNat 1, 2)]), (.ofNat 0, [(.ofNat 1, 1)])]), (113, [(.ofNat 0, [(.ofNat 1, 1)]), (.ofNat 0, [(.ofNat 1, 0)])])] : List sFc), fcOk fFS [s0, s1, s2] hp q := hH.2
  have f0 : P2 (MT hp) s2 s1 := fcX (ys := [s2, s1]) (hFc _ (.head _)) ⟨sE_V rfl, sE_V rfl, trivial⟩
  have f1 : 0 ≤ s1 ∧ s1 < 940 ∧ s0 = MB hp s1 := fcX (ys := [s1, s0]) (hFc _ (.tail _ (.head _))) ⟨sE_V rfl, sE_V rfl, trivial⟩
  exact poX (.head _) rfl hR (all_nil) (all_nil) (all_cons ⟨[s2, 4, s1, (s1 + 1), (-1)], ⟨sE_V rfl, sE_k _ _, sE_V rfl, sEv (y' := ((1 : Int) + ((1 : Int) * s1 + 0))) rfl (by omega), sE_k _ _, trivial⟩, (show TKB (MT hp) s2 (4 : Int) s1 (s1 + 1) (-1 : Int) from tkn_m hO f0 f1 (by omega) (by omega))⟩ (all_nil))
theorem rl545 : ruOk fFS gR545 := by
  intro r hp hO hN hH
  obtain ⟨s0, s1, s2, rfl⟩ := len3 (show r.length = 3 from hN.1)
  have hR := hN.2.1.1
  have hIv : ∀ q ∈ ([(0, .ofNat 58, .ofNat 58), (1, .negSucc 2147483647, .ofNat 2147483647), (2, .negSucc 2147483647, .ofNat 2147483647)] : sIv), ∃ x, ([s0, s1, s2] : List Int)[q.1]? = some x ∧ q.2.1 ≤ x ∧ x ≤ q.2.2 := hN.2.1.2
  have b0 : (58 : Int) ≤ s0 ∧ s0 ≤ (58 : Int) := ivX (q := (0, .ofNat 58, .ofNat 58)) (y := s0) (hIv _ (.head _)) rfl
  have hRf : ∀ q ∈ ([((78, .ofNat 273, []), (.ofNat 4, []), 1, .ofNat 0, [(.ofNat 1, 1)])] : List sRf), rfOk [s0, s1, s2] hp q := hH.1
  have h0 : hI hp 273 4 = s1 := rfI0 (hRf _ (.head _)) (sE_k _ _) (sE_k _ _) (sE_V rfl)
  have y0 : (0 : Int) ≤ s1 ∧ s1 ≤ (940 : Int) := by rw [← h0]; exact hI_ty hO (by decide) rfl
  have hFc : ∀ q ∈ ([(111, [(.ofNat 0, [(.ofNat 1, 2)]), (.ofNat 0, [(.ofNat 1, 1)])]), (113, [(.ofNat 0, [(.ofNat 1, 1)]), (.ofNat 0, [(.ofNat 1, 0)])])] : List sFc), fcOk fFS [s0, s1, s2] hp q := hH.2
  have f0 : P2 (MT hp) s2 s1 := fcX (ys := [s2, s1]) (hFc _ (.head _)) ⟨sE_V rfl, sE_V rfl, trivial⟩
  have f1 : 0 ≤ s1 ∧ s1 < 940 ∧ s0 = MB hp s1 := fcX (ys := [s1, s0]) (hFc _ (.tail _ (.head _))) ⟨sE_V rfl, sE_V rfl, trivial⟩
  exact poX (.head _) rfl hR (all_nil) (all_nil) (all_cons ⟨[s2, 4, s1, (s1 + 1), (-1)], ⟨sE_V rfl, sE_k _ _, sE_V rfl, sEv (y' := ((1 : Int) + ((1 : Int) * s1 + 0))) rfl (by omega), sE_k _ _, trivial⟩, (show TKB (MT hp) s2 (4 : Int) s1 (s1 + 1) (-1 : Int) from tkn_m hO f0 f1 (by omega) (by omega))⟩ (all_nil))
theorem rl546 : ruOk fFS gR546 := by
  intro r hp hO hN hH
  obtain ⟨s0, s1, s2, rfl⟩ := len3 (show r.length = 3 from hN.1)
  have hR := hN.2.1.1
  have hIv : ∀ q ∈ ([(0, .ofNat 63, .ofNat 96), (1, .negSucc 2147483647, .ofNat 2147483647), (2, .negSucc 2147483647, .ofNat 2147483647)] : sIv), ∃ x, ([s0, s1, s2] : List Int)[q.1]? = some x ∧ q.2.1 ≤ x ∧ x ≤ q.2.2 := hN.2.1.2
  have b0 : (63 : Int) ≤ s0 ∧ s0 ≤ (96 : Int) := ivX (q := (0, .ofNat 63, .ofNat 96)) (y := s0) (hIv _ (.head _)) rfl
  have hRf : ∀ q ∈ ([((78, .ofNat 273, []), (.ofNat 4, []), 1, .ofNat 0, [(.ofNat 1, 1)])] : List sRf), rfOk [s0, s1, s2] hp q := hH.1
  have h0 : hI hp 273 4 = s1 := rfI0 (hRf _ (.head _)) (sE_k _ _) (sE_k _ _) (sE_V rfl)
  have y0 : (0 : Int) ≤ s1 ∧ s1 ≤ (940 : Int) := by rw [← h0]; exact hI_ty hO (by decide) rfl
  have hFc : ∀ q ∈ ([(111, [(.ofNat 0, [(.ofNat 1, 2)]), (.ofNat 0, [(.ofNat 1, 1)])]), (113, [(.ofNat 0, [(.ofNat 1, 1)]), (.ofNat 0, [(.ofNat 1, 0)])])] : List sFc), fcOk fFS [s0, s1, s2] hp q := hH.2
  have f0 : P2 (MT hp) s2 s1 := fcX (ys := [s2, s1]) (hFc _ (.head _)) ⟨sE_V rfl, sE_V rfl, trivial⟩
  have f1 : 0 ≤ s1 ∧ s1 < 940 ∧ s0 = MB hp s1 := fcX (ys := [s1, s0]) (hFc _ (.tail _ (.head _))) ⟨sE_V rfl, sE_V rfl, trivial⟩
  exact poX (.head _) rfl hR (all_nil) (all_nil) (all_cons ⟨[s2, 4, s1, (s1 + 1), (-1)], ⟨sE_V rfl, sE_k _ _, sE_V rfl, sEv (y' := ((1 : Int) + ((1 : Int) * s1 + 0))) rfl (by omega), sE_k _ _, trivial⟩, (show TKB (MT hp) s2 (4 : Int) s1 (s1 + 1) (-1 : Int) from tkn_m hO f0 f1 (by omega) (by omega))⟩ (all_nil))
theorem rl547 : ruOk fFS gR547 := by
  intro r hp hO hN hH
  obtain ⟨s0, s1, s2, rfl⟩ := len3 (show r.length = 3 from hN.1)
  have hR := hN.2.1.1
  have hIv : ∀ q ∈ ([(0, .ofNat 123, .ofNat 255), (1, .negSucc 2147483647, .ofNat 2147483647), (2, .negSucc 2147483647, .ofNat 2147483647)] : sIv), ∃ x, ([s0, s1, s2] : List Int)[q.1]? = some x ∧ q.2.1 ≤ x ∧ x ≤ q.2.2 := hN.2.1.2
  have b0 : (123 : Int) ≤ s0 ∧ s0 ≤ (255 : Int) := ivX (q := (0, .ofNat 123, .ofNat 255)) (y := s0) (hIv _ (.head _)) rfl
  have hRf : ∀ q ∈ ([((78, .ofNat 273, []), (.ofNat 4, []), 1, .ofNat 0, [(.ofNat 1, 1)])] : List sRf), rfOk [s0, s1, s2] hp q := hH.1
  have h0 : hI hp 273 4 = s1 := rfI0 (hRf _ (.head _)) (sE_k _ _) (sE_k _ _) (sE_V rfl)
  have y0 : (0 : Int) ≤ s1 ∧ s1 ≤ (940 : Int) := by rw [← h0]; exact hI_ty hO (by decide) rfl
  have hFc : ∀ q ∈ ([(111, [(.ofNat 0, [(.ofNat 1, 2)]), (.ofNat 0, [(.ofNat 1, 1)])]), (113, [(.ofNat 0, [(.ofNat 1, 1)]), (.ofNat 0, [(.ofNat 1, 0)])])] : List sFc), fcOk fFS [s0, s1, s2] hp q := hH.2
  have f0 : P2 (MT hp) s2 s1 := fcX (ys := [s2, s1]) (hFc _ (.head _)) ⟨sE_V rfl, sE_V rfl, trivial⟩
  have f1 : 0 ≤ s1 ∧ s1 < 940 ∧ s0 = MB hp s1 := fcX (ys := [s1, s0]) (hFc _ (.tail _ (.head _))) ⟨sE_V rfl, sE_V rfl, trivial⟩
  exact poX (.head _) rfl hR (all_nil) (all_nil) (all_cons ⟨[s2, 4, s1, (s1 + 1), (-1)], ⟨sE_V rfl, sE_k _ _, sE_V rfl, sEv (y' := ((1 : Int) + ((1 : Int) * s1 + 0))) rfl (by omega), sE_k _ _, trivial⟩, (show TKB (MT hp) s2 (4 : Int) s1 (s1 + 1) (-1 : Int) from tkn_m hO f0 f1 (by omega) (by omega))⟩ (all_nil))
theorem rl548 : ruOk fFS gR548 := by
  intro r hp hO hN hH
  obtain ⟨s0, s1, s2, s3, rfl⟩ := len4 (show r.length = 4 from hN.1)
  have hR := hN.2.1.1
  have hIv : ∀ q ∈ ([(0, .ofNat 1, .ofNat 1), (1, .negSucc 2147483647, .ofNat 2147483647), (2, .negSucc 2147483647, .ofNat 2147483647), (3, .ofNat 97, .ofNat 122)] : sIv), ∃ x, ([s0, s1, s2, s3] : List Int)[q.1]? = some x ∧ q.2.1 ≤ x ∧ x ≤ q.2.2 := hN.2.1.2
  have b0 : (1 : Int) ≤ s0 ∧ s0 ≤ (1 : Int) := ivX (q := (0, .ofNat 1, .ofNat 1)) (y := s0) (hIv _ (.head _)) rfl
  have b3 : (97 : Int) ≤ s3 ∧ s3 ≤ (122 : Int) := ivX (q := (3, .ofNat 97, .ofNat 122)) (y := s3) (hIv _ (.tail _ (.tail _ (.tail _ (.head _))))) rfl
  have hRf : ∀ q ∈ ([((78, .ofNat 273, []), (.ofNat 4, []), 1, .ofNat 0, [(.ofNat 1, 1)])] : List sRf), rfOk [s0, s1, s2, s3] hp q := hH.1
  have h0 : hI hp 273 4 = s1 := rfI0 (hRf _ (.head _)) (sE_k _ _) (sE_k _ _) (sE_V rfl)
  have y0 : (0 : Int) ≤ s1 ∧ s1 ≤ (940 : Int) := by rw [← h0]; exact hI_ty hO (by decide) rfl
  have hFc : ∀ q ∈ ([(111, [(.ofNat 0, [(.ofNat 1, 2)]), (.ofNat 0, [(.ofNat 1, 1)])]), (113, [(.ofNat 0, [(.ofNat 1, 1)]), (.ofNat 0, [(.ofNat 1, 3)])])] : List sFc), fcOk fFS [s0, s1, s2, s3] hp q := hH.2
  have f0 : P2 (MT hp) s2 s1 := fcX (ys := [s2, s1]) (hFc _ (.head _)) ⟨sE_V rfl, sE_V rfl, trivial⟩
  have f1 : 0 ≤ s1 ∧ s1 < 940 ∧ s3 = MB hp s1 := fcX (ys := [s1, s3]) (hFc _ (.tail _ (.head _))) ⟨sE_V rfl, sE_V rfl, trivial⟩
  exact poX (.head _) rfl hR (all_nil) (all_nil) (all_cons ⟨[s1, s1, 0, s0, 1, 0, 0], ⟨sE_V rfl, sE_V rfl, sE_k _ _, sE_V rfl, sE_k _ _, sE_k _ _, sE_k _ _, trivial⟩, (show RNm (MT hp) s1 s1 (0 : Int) s0 (1 : Int) (0 : Int) (0 : Int) from rm0_m f0 f1 (by omega))⟩ (all_nil))
theorem rl549 : ruOk fFS gR549 := by
  intro r hp hO hN hH
  obtain ⟨s0, s1, s2, s3, rfl⟩ := len4 (show r.length = 4 from hN.1)
  have hR := hN.2.1.1
  have hIv : ∀ q ∈ ([(0, .ofNat 0, .ofNat 0), (1, .negSucc 2147483647, .ofNat 2147483647), (2, .negSucc 2147483647, .ofNat 2147483647), (3, .ofNat 48, .ofNat 57)] : sIv), ∃ x, ([s0, s1, s2, s3] : List Int)[q.1]? = some x ∧ q.2.1 ≤ x ∧ x ≤ q.2.2 := hN.2.1.2
  have b0 : (0 : Int) ≤ s0 ∧ s0 ≤ (0 : Int) := ivX (q := (0, .ofNat 0, .ofNat 0)) (y := s0) (hIv _ (.head _)) rfl
  have b3 : (48 : Int) ≤ s3 ∧ s3 ≤ (57 : Int) := ivX (q := (3, .ofNat 48, .ofNat 57)) (y := s3) (hIv _ (.tail _ (.tail _ (.tail _ (.head _))))) rfl
  have hRf : ∀ q ∈ ([((78, .ofNat 273, []), (.ofNat 4, []), 1, .ofNat 0, [(.ofNat 1, 1)])] : List sRf), rfOk [s0, s1, s2, s3] hp q := hH.1
  have h0 : hI hp 273 4 = s1 := rfI0 (hRf _ (.head _)) (sE_k _ _) (sE_k _ _) (sE_V rfl)
  have y0 : (0 : Int) ≤ s1 ∧ s1 ≤ (940 : Int) := by rw [← h0]; exact hI_ty hO (by decide) rfl
  have hFc : ∀ q ∈ ([(111, [(.ofNat 0, [(.ofNat 1, 2)]), (.ofNat 0, [(.ofNat 1, 1)])]), (113, [(.ofNat 0, [(.ofNat 1, 1)]), (.ofNat 0, [(.ofNat 1, 3)])])] : List sFc), fcOk fFS [s0, s1, s2, s3] hp q := hH.2
  have f0 : P2 (MT hp) s2 s1 := fcX (ys := [s2, s1]) (hFc _ (.head _)) ⟨sE_V rfl, sE_V rfl, trivial⟩
  have f1 : 0 ≤ s1 ∧ s1 < 940 ∧ s3 = MB hp s1 := fcX (ys := [s1, s3]) (hFc _ (.tail _ (.head _))) ⟨sE_V rfl, sE_V rfl, trivial⟩
  exact poX (.head _) rfl hR (all_nil) (all_nil) (all_cons ⟨[s1, s1, 0, s0, 1, 0, 0], ⟨sE_V rfl, sE_V rfl, sE_k _ _, sE_V rfl, sE_k _ _, sE_k _ _, sE_k _ _, trivial⟩, (show RNm (MT hp) s1 s1 (0 : Int) s0 (1 : Int) (0 : Int) (0 : Int) from rm0_m f0 f1 (by omega))⟩ (all_nil))
theorem rl550 : ruOk fFS gR550 := by
  intro r hp hO hN hH
  obtain ⟨s0, s1, s2, s3, rfl⟩ := len4 (show r.length = 4 from hN.1)
  have hR := hN.2.1.1
  have hIv : ∀ q ∈ ([(0, .negSucc 2147483647, .ofNat 2147483647), (1, .negSucc 2147483647, .ofNat 2147483647), (2, .negSucc 2147483647, .ofNat 2147483647), (3, .ofNat 32, .ofNat 32)] : sIv), ∃ x, ([s0, s1, s2, s3] : List Int)[q.1]? = some x ∧ q.2.1 ≤ x ∧ x ≤ q.2.2 := hN.2.1.2
  have b3 : (32 : Int) ≤ s3 ∧ s3 ≤ (32 : Int) := ivX (q := (3, .ofNat 32, .ofNat 32)) (y := s3) (hIv _ (.tail _ (.tail _ (.tail _ (.head _))))) rfl
  have hCs : ∀ c ∈ ([(.ofNat 1, [(.ofNat 1, 0), (.negSucc 0, 1)])] : List sLn), ∃ x, sE [s0, s1, s2, s3] c = some x ∧ x ≤ 0 := hN.2.2.1
  have c0 : ((1 : Int) + ((1 : Int) * s0 + ((-1 : Int) * s1 + 0))) ≤ 0 := csX (hCs _ (.head _)) rfl
  have hRf : ∀ q ∈ ([((78, .ofNat 273, []), (.ofNat 4, []), 1, .ofNat 0, [(.ofNat 1, 0)]), ((78, .ofNat 273, []), (.ofNat 3, []), 1, .ofNat 0, [(.ofNat 1, 1)])] : List sRf), rfOk [s0, s1, s2, s3] hp q := hH.1
  have h0 : hI hp 273 4 = s0 := rfI0 (hRf _ (.head _)) (sE_k _ _) (sE_k _ _) (sE_V rfl)
  have y0 : (0 : Int) ≤ s0 ∧ s0 ≤ (940 : Int) := by rw [← h0]; exact hI_ty hO (by decide) rfl
  have h1 : hI hp 273 3 = s1 := rfI0 (hRf _ (.tail _ (.head _))) (sE_k _ _) (sE_k _ _) (sE_V rfl)
  have y1 : (0 : Int) ≤ s1 ∧ s1 ≤ (940 : Int) := by rw [← h1]; exact hI_ty hO (by decide) rfl
  have tnm : (MT hp).2.1 = s1 := h1
  have hFc : ∀ q ∈ ([(109, [(.ofNat 0, [(.ofNat 1, 2)]), (.ofNat 0, [(.ofNat 1, 0)])]), (113, [(.ofNat 0, [(.ofNat 1, 0)]), (.ofNat 0, [(.ofNat 1, 3)])])] : List sFc), fcOk fFS [s0, s1, s2, s3] hp q := hH.2
  have f0 : SK (MT hp).1 (MT hp).2.1 s2 s0 := fcX (ys := [s2, s0]) (hFc _ (.head _)) ⟨sE_V rfl, sE_V rfl, trivial⟩
  have f1 : 0 ≤ s0 ∧ s0 < 940 ∧ s3 = MB hp s0 := fcX (ys := [s0, s3]) (hFc _ (.tail _ (.head _))) ⟨sE_V rfl, sE_V rfl, trivial⟩
  exact poX (.head _) rfl hR (all_nil) (all_nil) (all_cons ⟨[s2, (s0 + 1)], ⟨sE_V rfl, sEv (y' := ((1 : Int) + ((1 : Int) * s0 + 0))) rfl (by omega), trivial⟩, (show SK (MT hp).1 (MT hp).2.1 s2 (s0 + 1) from sk_m f0 f1 (by omega) (by omega) (by omega))⟩ (all_nil))
theorem rl551 : ruOk fFS gR551 := by
  intro r hp hO hN hH
  obtain ⟨s0, s1, s2, s3, rfl⟩ := len4 (show r.length = 4 from hN.1)
  have hR := hN.2.1.1
  have hIv : ∀ q ∈ ([(0, .negSucc 2147483647, .ofNat 2147483647), (1, .negSucc 2147483647, .ofNat 2147483647), (2, .negSucc 2147483647, .ofNat 2147483647), (3, .ofNat 10, .ofNat 10)] : sIv), ∃ x, ([s0, s1, s2, s3] : List Int)[q.1]? = some x ∧ q.2.1 ≤ x ∧ x ≤ q.2.2 := hN.2.1.2
  have b3 : (10 : Int) ≤ s3 ∧ s3 ≤ (10 : Int) := ivX (q := (3, .ofNat 10, .ofNat 10)) (y := s3) (hIv _ (.tail _ (.tail _ (.tail _ (.head _))))) rfl
  have hCs : ∀ c ∈ ([(.ofNat 1, [(.ofNat 1, 0), (.negSucc 0, 1)])] : List sLn), ∃ x, sE [s0, s1, s2, s3] c = some x ∧ x ≤ 0 := hN.2.2.1
  have c0 : ((1 : Int) + ((1 : Int) * s0 + ((-1 : Int) * s1 + 0))) ≤ 0 := csX (hCs _ (.head _)) rfl
  have hRf : ∀ q ∈ ([((78, .ofNat 273, []), (.ofNat 4, []), 1, .ofNat 0, [(.ofNat 1, 0)]), ((78, .ofNat 273, []), (.ofNat 3, []), 1, .ofNat 0, [(.ofNat 1, 1)])] : List sRf), rfOk [s0, s1, s2, s3] hp q := hH.1
  have h0 : hI hp 273 4 = s0 := rfI0 (hRf _ (.head _)) (sE_k _ _) (sE_k _ _) (sE_V rfl)
  have y0 : (0 : Int) ≤ s0 ∧ s0 ≤ (940 : Int) := by rw [← h0]; exact hI_ty hO (by decide) rfl
  have h1 : hI hp 273 3 = s1 := rfI0 (hRf _ (.tail _ (.head _))) (sE_k _ _) (sE_k _ _) (sE_V rfl)
  have y1 : (0 : Int) ≤ s1 ∧ s1 ≤ (940 : Int) := by rw [← h1]; exact hI_ty hO (by decide) rfl
  have tnm : (MT hp).2.1 = s1 := h1
  have hFc : ∀ q ∈ ([(109, [(.ofNat 0, [(.ofNat 1, 2)]), (.ofNat 0, [(.ofNat 1, 0)])]), (113, [(.ofNat 0, [(.ofNat 1, 0)]), (.ofNat 0, [(.ofNat 1, 3)])])] : List sFc), fcOk fFS [s0, s1, s2, s3] hp q := hH.2
  have f0 : SK (MT hp).1 (MT hp).2.1 s2 s0 := fcX (ys := [s2, s0]) (hFc _ (.head _)) ⟨sE_V rfl, sE_V rfl, trivial⟩
  have f1 : 0 ≤ s0 ∧ s0 < 940 ∧ s3 = MB hp s0 := fcX (ys := [s0, s3]) (hFc _ (.tail _ (.head _))) ⟨sE_V rfl, sE_V rfl, trivial⟩
  exact poX (.head _) rfl hR (all_nil) (all_nil) (all_cons ⟨[s2, (s0 + 1)], ⟨sE_V rfl, sEv (y' := ((1 : Int) + ((1 : Int) * s0 + 0))) rfl (by omega), trivial⟩, (show SK (MT hp).1 (MT hp).2.1 s2 (s0 + 1) from sk_m f0 f1 (by omega) (by omega) (by omega))⟩ (all_nil))
theorem rl552 : ruOk fFS gR552 := by
  intro r hp hO hN hH
  obtain ⟨s0, s1, s2, s3, s4, s5, s6, rfl⟩ := len7 (show r.length = 7 from hN.1)
  have hR := hN.2.1.1
  have hIv : ∀ q ∈ ([(0, .negSucc 2147483647, .ofNat 2147483647), (1, .negSucc 2147483647, .ofNat 2147483647), (2, .negSucc 2147483647, .ofNat 2147483647), (3, .negSucc 2147483647, .ofNat 2147483647), (4, .negSucc 2147483647, .ofNat 2147483647), (6, .negSucc 2147483647, .ofNat 2147483647)] : sIv), ∃ x, ([s0, s1, s2, s3, s4, s5, s6] : List Int)[q.1]? = some x ∧ q.2.1 ≤ x ∧ x ≤ q.2.2 := hN.2.1.2
  have b0 : (-2147483648 : Int) ≤ s0 ∧ s0 ≤ (2147483647 : Int) := ivX (q := (0, .negSucc 2147483647, .ofNat 2147483647)) (y := s0) (hIv _ (.head _)) rfl
  have b1 : (-2147483648 : Int) ≤ s1 ∧ s1 ≤ (2147483647 : Int) := ivX (q := (1, .negSucc 2147483647, .ofNat 2147483647)) (y := s1) (hIv _ (.tail _ (.head _))) rfl
  have b3 : (-2147483648 : Int) ≤ s3 ∧ s3 ≤ (2147483647 : Int) := ivX (q := (3, .negSucc 2147483647, .ofNat 2147483647)) (y := s3) (hIv _ (.tail _ (.tail _ (.tail _ (.head _))))) rfl
  have b5 : (-2147483648 : Int) ≤ s6 ∧ s6 ≤ (2147483647 : Int) := ivX (q := (6, .negSucc 2147483647, .ofNat 2147483647)) (y := s6) (hIv _ (.tail _ (.tail _ (.tail _ (.tail _ (.tail _ (.head _))))))) rfl
  have hRf : ∀ q ∈ ([((78, .ofNat 273, []), (.ofNat 4, []), 1, .ofNat 0, [(.ofNat 1, 2)]), ((78, .ofNat 273, []), (.ofNat 13, []), 1, .ofNat 0, [(.ofNat 1, 3)]), ((78, .ofNat 273, []), (.ofNat 14, []), 1, .ofNat 0, [(.ofNat 1, 4)]), ((78, .ofNat 273, []), (.ofNat 17, []), 5, .ofNat 0, [(.ofNat 1, 5)])] : List sRf), rfOk [s0, s1, s2, s3, s4, s5, s6] hp q := hH.1
  have h0 : hI hp 273 4 = s2 := rfI0 (hRf _ (.head _)) (sE_k _ _) (sE_k _ _) (sE_V rfl)
  have y0 : (0 : Int) ≤ s2 ∧ s2 ≤ (940 : Int) := by rw [← h0]; exact hI_ty hO (by decide) rfl
  have h1 : hI hp 273 13 = s3 := rfI0 (hRf _ (.tail _ (.head _))) (sE_k _ _) (sE_k _ _) (sE_V rfl)
  have h2 : hI hp 273 14 = s4 := rfI0 (hRf _ (.tail _ (.tail _ (.head _)))) (sE_k _ _) (sE_k _ _) (sE_V rfl)
  have h3 : hL hp 273 17 = s5 := rfL0 (hRf _ (.tail _ (.tail _ (.tail _ (.head _))))) (sE_k _ _) (sE_k _ _) (sE_V rfl)
  have hFc : ∀ q ∈ ([(114, [(.ofNat 0, [(.ofNat 1, 6)]), (.ofNat 0, [(.ofNat 1, 2)]), (.ofNat 0, [(.ofNat 1, 3)]), (.ofNat 0, [(.ofNat 1, 0)]), (.ofNat 0, [(.ofNat 1, 1)]), (.ofNat 0, [(.ofNat 1, 4)]), (.ofNat 0, [(.ofNat 1, 5)])])] : List sFc), fcOk fFS [s0, s1, s2, s3, s4, s5, s6] hp q := hH.2
  have f0 : RNm (MT hp) s6 s2 s3 s0 s1 s4 s5 := fcX (ys := [s6, s2, s3, s0, s1, s4, s5]) (hFc _ (.head _)) ⟨sE_V rfl, sE_V rfl, sE_V rfl, sE_V rfl, sE_V rfl, sE_V rfl, sE_V rfl, trivial⟩
  have u := rm_b (MT_ok hO) f0 (by omega)
  exact poX (.head _) rfl hR (all_cons (ivO (y := s0) rfl (show (0 : Int) ≤ s0 by omega) (show s0 ≤ (1 : Int) by omega)) (all_cons (ivO (y := s1) rfl (show (0 : Int) ≤ s1 by omega) (show s1 ≤ (1 : Int) by omega)) (all_cons (ivO (y := s3) rfl (show (0 : Int) ≤ s3 by omega) (show s3 ≤ (940 : Int) by omega)) (all_cons (ivO (y := s6) rfl (show (0 : Int) ≤ s6 by omega) (show s6 ≤ (940 : Int) by omega)) (all_nil))))) (all_cons ⟨((0 : Int) + ((1 : Int) * s2 + ((-1 : Int) * s3 + ((-1 : Int) * s6 + 0)))), rfl, (show ((0 : Int) + ((1 : Int) * s2 + ((-1 : Int) * s3 + ((-1 : Int) * s6 + 0)))) ≤ 0 by omega)⟩ (all_cons ⟨((0 : Int) + ((-1 : Int) * s2 + ((1 : Int) * s3 + ((1 : Int) * s6 + 0)))), rfl, (show ((0 : Int) + ((-1 : Int) * s2 + ((1 : Int) * s3 + ((1 : Int) * s6 + 0)))) ≤ 0 by omega)⟩ (all_nil))) (all_nil)
theorem rl553 : ruOk fFS gR553 := by
  intro r hp hO hN hH
  obtain ⟨s0, rfl⟩ := len1 (show r.length = 1 from hN.1)
  have hR := hN.2.1.1
  have hIv : ∀ q ∈ ([(0, .ofNat 0, .ofNat 1)] : sIv), ∃ x, ([s0] : List Int)[q.1]? = some x ∧ q.2.1 ≤ x ∧ x ≤ q.2.2 := hN.2.1.2
  have b0 : (0 : Int) ≤ s0 ∧ s0 ≤ (1 : Int) := ivX (q := (0, .ofNat 0, .ofNat 1)) (y := s0) (hIv _ (.head _)) rfl
  have y : (((0 : Int) ≤ s0 ∧ s0 ≤ (0 : Int))) ∨ (((1 : Int) ≤ s0 ∧ s0 ≤ (1 : Int))) := by omega
  rcases y with y | y
  · exact poX (.head _) rfl hR (all_cons (ivO (y := s0) rfl (show (0 : Int) ≤ s0 by omega) (show s0 ≤ (0 : Int) by omega)) (all_nil)) (all_nil) (all_nil)
  · exact poX (.tail _ (.head _)) rfl hR (all_cons (ivO (y := s0) rfl (show (1 : Int) ≤ s0 by omega) (show s0 ≤ (1 : Int) by omega)) (all_nil)) (all_nil) (all_nil)
theorem rl554 : ruOk fFS gR554 := by
  intro r hp hO hN hH
  obtain ⟨s0, rfl⟩ := len1 (show r.length = 1 from hN.1)
  have hR := hN.2.1.1
  have hIv : ∀ q ∈ ([(0, .ofNat 0, .ofNat 940)] : sIv), ∃ x, ([s0] : List Int)[q.1]? = some x ∧ q.2.1 ≤ x ∧ x ≤ q.2.2 := hN.2.1.2
  have b0 : (0 : Int) ≤ s0 ∧ s0 ≤ (940 : Int) := ivX (q := (0, .ofNat 0, .ofNat 940)) (y := s0) (hIv _ (.head _)) rfl
  have hRf : ∀ q ∈ ([((78, .ofNat 273, []), (.ofNat 13, []), 1, .ofNat 0, [(.ofNat 1, 0)])] : List sRf), rfOk [s0] hp q := hH.1
  have h0 : hI hp 273 13 = s0 := rfI0 (hRf _ (.head _)) (sE_k _ _) (sE_k _ _) (sE_V rfl)
  have y : (((0 : Int) ≤ s0 ∧ s0 ≤ (1 : Int))) ∨ (((2 : Int) ≤ s0 ∧ s0 ≤ (6 : Int))) ∨ (((7 : Int) ≤ s0 ∧ s0 ≤ (940 : Int))) := by omega
  rcases y with y | y | y
  · exact poX (.head _) rfl hR (all_cons (ivO (y := s0) rfl (show (0 : Int) ≤ s0 by omega) (show s0 ≤ (1 : Int) by omega)) (all_nil)) (all_nil) (all_nil)
  · exact poX (.tail _ (.head _)) rfl hR (all_cons (ivO (y := s0) rfl (show (2 : Int) ≤ s0 by omega) (show s0 ≤ (6 : Int) by omega)) (all_nil)) (all_nil) (all_nil)
  · exact poX (.tail _ (.tail _ (.head _))) rfl hR (all_cons (ivO (y := s0) rfl (show (7 : Int) ≤ s0 by omega) (show s0 ≤ (940 : Int) by omega)) (all_nil)) (all_nil) (all_nil)
theorem rl555 : ruOk fFS gR555 := by
  intro r hp hO hN hH
  obtain ⟨s0, s1, s2, s3, s4, s5, s6, rfl⟩ := len7 (show r.length = 7 from hN.1)
  have hR := hN.2.1.1
  have hIv : ∀ q ∈ ([(0, .negSucc 2147483647, .ofNat 2147483647), (1, .negSucc 2147483647, .ofNat 2147483647), (2, .negSucc 2147483647, .ofNat 2147483647), (3, .ofNat 0, .ofNat 6), (4, .negSucc 2147483647, .ofNat 2147483647), (6, .negSucc 2147483647, .ofNat 2147483647)] : sIv), ∃ x, ([s0, s1, s2, s3, s4, s5, s6] : List Int)[q.1]? = some x ∧ q.2.1 ≤ x ∧ x ≤ q.2.2 := hN.2.1.2
  have b3 : (0 : Int) ≤ s3 ∧ s3 ≤ (6 : Int) := ivX (q := (3, .ofNat 0, .ofNat 6)) (y := s3) (hIv _ (.tail _ (.tail _ (.tail _ (.head _))))) rfl
  have hRf : ∀ q ∈ ([((78, .ofNat 273, []), (.ofNat 4, []), 1, .ofNat 0, [(.ofNat 1, 2)]), ((78, .ofNat 273, []), (.ofNat 13, []), 1, .ofNat 0, [(.ofNat 1, 3)]), ((78, .ofNat 273, []), (.ofNat 14, []), 1, .ofNat 0, [(.ofNat 1, 4)]), ((78, .ofNat 273, []), (.ofNat 17, []), 5, .ofNat 0, [(.ofNat 1, 5)])] : List sRf), rfOk [s0, s1, s2, s3, s4, s5, s6] hp q := hH.1
  have h0 : hI hp 273 4 = s2 := rfI0 (hRf _ (.head _)) (sE_k _ _) (sE_k _ _) (sE_V rfl)
  have y0 : (0 : Int) ≤ s2 ∧ s2 ≤ (940 : Int) := by rw [← h0]; exact hI_ty hO (by decide) rfl
  have h1 : hI hp 273 13 = s3 := rfI0 (hRf _ (.tail _ (.head _))) (sE_k _ _) (sE_k _ _) (sE_V rfl)
  have h2 : hI hp 273 14 = s4 := rfI0 (hRf _ (.tail _ (.tail _ (.head _)))) (sE_k _ _) (sE_k _ _) (sE_V rfl)
  have h3 : hL hp 273 17 = s5 := rfL0 (hRf _ (.tail _ (.tail _ (.tail _ (.head _))))) (sE_k _ _) (sE_k _ _) (sE_V rfl)
  have hFc : ∀ q ∈ ([(114, [(.ofNat 0, [(.ofNat 1, 6)]), (.ofNat 0, [(.ofNat 1, 2)]), (.ofNat 0, [(.ofNat 1, 3)]), (.ofNat 0, [(.ofNat 1, 0)]), (.ofNat 0, [(.ofNat 1, 1)]), (.ofNat 0, [(.ofNat 1, 4)]), (.ofNat 0, [(.ofNat 1, 5)])])] : List sFc), fcOk fFS [s0, s1, s2, s3, s4, s5, s6] hp q := hH.2
  have f0 : RNm (MT hp) s6 s2 s3 s0 s1 s4 s5 := fcX (ys := [s6, s2, s3, s0, s1, s4, s5]) (hFc _ (.head _)) ⟨sE_V rfl, sE_V rfl, sE_V rfl, sE_V rfl, sE_V rfl, sE_V rfl, sE_V rfl, trivial⟩
  have u := rm_w f0 (by omega)
  exact poX (.head _) rfl hR (all_cons (ivO (y := s5) rfl (show (0 : Int) ≤ s5 by omega) (show s5 ≤ (281474976710655 : Int) by omega)) (all_nil)) (all_nil) (all_nil)
theorem rl556 : ruOk fFS gR556 := by
  intro r hp hO hN hH
  obtain ⟨s0, s1, s2, s3, s4, s5, s6, rfl⟩ := len7 (show r.length = 7 from hN.1)
  have hR := hN.2.1.1
  have hIv : ∀ q ∈ ([(0, .negSucc 2147483647, .ofNat 2147483647), (1, .negSucc 2147483647, .ofNat 2147483647), (2, .negSucc 2147483647, .ofNat 2147483647), (3, .ofNat 0, .ofNat 1), (4, .negSucc 2147483647, .ofNat 2147483647), (6, .negSucc 2147483647, .ofNat 2147483647)] : sIv), ∃ x, ([s0, s1, s2, s3, s4, s5, s6] : List Int)[q.1]? = some x ∧ q.2.1 ≤ x ∧ x ≤ q.2.2 := hN.2.1.2
  have b3 : (0 : Int) ≤ s3 ∧ s3 ≤ (1 : Int) := ivX (q := (3, .ofNat 0, .ofNat 1)) (y := s3) (hIv _ (.tail _ (.tail _ (.tail _ (.head _))))) rfl
  have b4 : (-2147483648 : Int) ≤ s4 ∧ s4 ≤ (2147483647 : Int) := ivX (q := (4, .negSucc 2147483647, .ofNat 2147483647)) (y := s4) (hIv _ (.tail _ (.tail _ (.tail _ (.tail _ (.head _)))))) rfl
  have hRf : ∀ q ∈ ([((78, .ofNat 273, []), (.ofNat 4, []), 1, .ofNat 0, [(.ofNat 1, 2)]), ((78, .ofNat 273, []), (.ofNat 13, []), 1, .ofNat 0, [(.ofNat 1, 3)]), ((78, .ofNat 273, []), (.ofNat 14, []), 1, .ofNat 0, [(.ofNat 1, 4)]), ((78, .ofNat 273, []), (.ofNat 17, []), 5, .ofNat 0, [(.ofNat 1, 5)])] : List sRf), rfOk [s0, s1, s2, s3, s4, s5, s6] hp q := hH.1
  have h0 : hI hp 273 4 = s2 := rfI0 (hRf _ (.head _)) (sE_k _ _) (sE_k _ _) (sE_V rfl)
  have y0 : (0 : Int) ≤ s2 ∧ s2 ≤ (940 : Int) := by rw [← h0]; exact hI_ty hO (by decide) rfl
  have h1 : hI hp 273 13 = s3 := rfI0 (hRf _ (.tail _ (.head _))) (sE_k _ _) (sE_k _ _) (sE_V rfl)
  have h2 : hI hp 273 14 = s4 := rfI0 (hRf _ (.tail _ (.tail _ (.head _)))) (sE_k _ _) (sE_k _ _) (sE_V rfl)
  have h3 : hL hp 273 17 = s5 := rfL0 (hRf _ (.tail _ (.tail _ (.tail _ (.head _))))) (sE_k _ _) (sE_k _ _) (sE_V rfl)
  have hFc : ∀ q ∈ ([(114, [(.ofNat 0, [(.ofNat 1, 6)]), (.ofNat 0, [(.ofNat 1, 2)]), (.ofNat 0, [(.ofNat 1, 3)]), (.ofNat 0, [(.ofNat 1, 0)]), (.ofNat 0, [(.ofNat 1, 1)]), (.ofNat 0, [(.ofNat 1, 4)]), (.ofNat 0, [(.ofNat 1, 5)])])] : List sFc), fcOk fFS [s0, s1, s2, s3, s4, s5, s6] hp q := hH.2
  have f0 : RNm (MT hp) s6 s2 s3 s0 s1 s4 s5 := fcX (ys := [s6, s2, s3, s0, s1, s4, s5]) (hFc _ (.head _)) ⟨sE_V rfl, sE_V rfl, sE_V rfl, sE_V rfl, sE_V rfl, sE_V rfl, sE_V rfl, trivial⟩
  have u := rm_n f0 (by omega)
  exact poX (.head _) rfl hR (all_cons (ivO (y := s4) rfl (show (0 : Int) ≤ s4 by omega) (show s4 ≤ (74 : Int) by omega)) (all_nil)) (all_nil) (all_nil)
theorem rl557 : ruOk fFS gR557 := by
  intro r hp hO hN hH
  obtain ⟨s0, s1, rfl⟩ := len2 (show r.length = 2 from hN.1)
  have hR := hN.2.1.1
  have hIv : ∀ q ∈ ([(0, .negSucc 2147483647, .ofNat 2147483647), (1, .ofNat 0, .ofNat 255)] : sIv), ∃ x, ([s0, s1] : List Int)[q.1]? = some x ∧ q.2.1 ≤ x ∧ x ≤ q.2.2 := hN.2.1.2
  have b1 : (0 : Int) ≤ s1 ∧ s1 ≤ (255 : Int) := ivX (q := (1, .ofNat 0, .ofNat 255)) (y := s1) (hIv _ (.tail _ (.head _))) rfl
  have hRf : ∀ q ∈ ([((78, .ofNat 273, []), (.ofNat 4, []), 1, .ofNat 0, [(.ofNat 1, 0)])] : List sRf), rfOk [s0, s1] hp q := hH.1
  have h0 : hI hp 273 4 = s0 := rfI0 (hRf _ (.head _)) (sE_k _ _) (sE_k _ _) (sE_V rfl)
  have y0 : (0 : Int) ≤ s0 ∧ s0 ≤ (940 : Int) := by rw [← h0]; exact hI_ty hO (by decide) rfl
  have hFc : ∀ q ∈ ([(113, [(.ofNat 0, [(.ofNat 1, 0)]), (.ofNat 0, [(.ofNat 1, 1)])])] : List sFc), fcOk fFS [s0, s1] hp q := hH.2
  have f0 : 0 ≤ s0 ∧ s0 < 940 ∧ s1 = MB hp s0 := fcX (ys := [s0, s1]) (hFc _ (.head _)) ⟨sE_V rfl, sE_V rfl, trivial⟩
  have y : (((0 : Int) ≤ s1 ∧ s1 ≤ (47 : Int))) ∨ (((48 : Int) ≤ s1 ∧ s1 ≤ (57 : Int))) ∨ (((58 : Int) ≤ s1 ∧ s1 ≤ (96 : Int))) ∨ (((97 : Int) ≤ s1 ∧ s1 ≤ (122 : Int))) ∨ (((123 : Int) ≤ s1 ∧ s1 ≤ (255 : Int))) := by omega
  rcases y with y | y | y | y | y
  · exact poX (.head _) rfl hR (all_cons (ivO (y := s1) rfl (show (0 : Int) ≤ s1 by omega) (show s1 ≤ (47 : Int) by omega)) (all_nil)) (all_nil) (all_nil)
  · exact poX (.tail _ (.head _)) rfl hR (all_cons (ivO (y := s1) rfl (show (48 : Int) ≤ s1 by omega) (show s1 ≤ (57 : Int) by omega)) (all_nil)) (all_nil) (all_nil)
  · exact poX (.tail _ (.tail _ (.head _))) rfl hR (all_cons (ivO (y := s1) rfl (show (58 : Int) ≤ s1 by omega) (show s1 ≤ (96 : Int) by omega)) (all_nil)) (all_nil) (all_nil)
  · exact poX (.tail _ (.tail _ (.tail _ (.head _)))) rfl hR (all_cons (ivO (y := s1) rfl (show (97 : Int) ≤ s1 by omega) (show s1 ≤ (122 : Int) by omega)) (all_nil)) (all_nil) (all_nil)
  · exact poX (.tail _ (.tail _ (.tail _ (.tail _ (.head _))))) rfl hR (all_cons (ivO (y := s1) rfl (show (123 : Int) ≤ s1 by omega) (show s1 ≤ (255 : Int) by omega)) (all_nil)) (all_nil) (all_nil)
theorem rl558 : ruOk fFS gR558 := by
  intro r hp hO hN hH
  obtain ⟨s0, s1, s2, s3, s4, s5, s6, s7, rfl⟩ := len8 (show r.length = 8 from hN.1)
  have hR := hN.2.1.1
  have hIv : ∀ q ∈ ([(0, .negSucc 2147483647, .ofNat 2147483647), (1, .negSucc 2147483647, .ofNat 2147483647), (2, .negSucc 2147483647, .ofNat 2147483647), (3, .negSucc 2147483647, .ofNat 2147483647), (4, .negSucc 2147483647, .ofNat 2147483647), (5, .ofNat 0, .ofNat 1), (6, .negSucc 2147483647, .ofNat 2147483647), (7, .negSucc 2147483647, .ofNat 2147483647)] : sIv), ∃ x, ([s0, s1, s2, s3, s4, s5, s6, s7] : List Int)[q.1]? = some x ∧ q.2.1 ≤ x ∧ x ≤ q.2.2 := hN.2.1.2
  have b5 : (0 : Int) ≤ s5 ∧ s5 ≤ (1 : Int) := ivX (q := (5, .ofNat 0, .ofNat 1)) (y := s5) (hIv _ (.tail _ (.tail _ (.tail _ (.tail _ (.tail _ (.head _))))))) rfl
  have hFc : ∀ q ∈ ([(114, [(.ofNat 0, [(.ofNat 1, 1)]), (.ofNat 0, [(.ofNat 1, 2)]), (.ofNat 0, [(.ofNat 1, 3)]), (.ofNat 0, [(.ofNat 1, 4)]), (.ofNat 0, [(.ofNat 1, 5)]), (.ofNat 0, [(.ofNat 1, 6)]), (.ofNat 0, [(.ofNat 1, 7)])])] : List sFc), fcOk fFS [s0, s1, s2, s3, s4, s5, s6, s7] hp q := hH.2
  have f0 : RNm (MT hp) s1 s2 s3 s4 s5 s6 s7 := fcX (ys := [s1, s2, s3, s4, s5, s6, s7]) (hFc _ (.head _)) ⟨sE_V rfl, sE_V rfl, sE_V rfl, sE_V rfl, sE_V rfl, sE_V rfl, sE_V rfl, trivial⟩
  have y : (((0 : Int) ≤ s5 ∧ s5 ≤ (0 : Int))) ∨ (((1 : Int) ≤ s5 ∧ s5 ≤ (1 : Int))) := by omega
  rcases y with y | y
  · exact poX (.head _) rfl hR (all_cons (ivO (y := s5) rfl (show (0 : Int) ≤ s5 by omega) (show s5 ≤ (0 : Int) by omega)) (all_nil)) (all_nil) (all_nil)
  · exact poX (.tail _ (.head _)) rfl hR (all_cons (ivO (y := s5) rfl (show (1 : Int) ≤ s5 by omega) (show s5 ≤ (1 : Int) by omega)) (all_nil)) (all_nil) (all_nil)
theorem rl559 : ruOk fFS gR559 := by
  intro r hp hO hN hH
  obtain ⟨s0, s1, s2, s3, s4, s5, s6, s7, s8, s9, s10, s11, rfl⟩ := len12 (show r.length = 12 from hN.1)
  have hR := hN.2.1.1
  have hIv : ∀ q ∈ ([(0, .ofNat 0, .ofNat 1), (1, .ofNat 0, .ofNat 0), (2, .negSucc 2147483647, .ofNat 2147483647), (3, .ofNat 1, .ofNat 2), (4, .negSucc 2147483647, .ofNat 2147483647), (6, .negSucc 2147483647, .ofNat 2147483647), (7, .negSucc 2147483647, .ofNat 2147483647), (8, .ofNat 0, .ofNat 0), (9, .negSucc 2147483647, .ofNat 2147483647), (11, .ofNat 48, .ofNat 57)] : sIv), ∃ x, ([s0, s1, s2, s3, s4, s5, s6, s7, s8, s9, s10, s11] : List Int)[q.1]? = some x ∧ q.2.1 ≤ x ∧ x ≤ q.2.2 := hN.2.1.2
  have b0 : (0 : Int) ≤ s0 ∧ s0 ≤ (1 : Int) := ivX (q := (0, .ofNat 0, .ofNat 1)) (y := s0) (hIv _ (.head _)) rfl
  have b1 : (0 : Int) ≤ s1 ∧ s1 ≤ (0 : Int) := ivX (q := (1, .ofNat 0, .ofNat 0)) (y := s1) (hIv _ (.tail _ (.head _))) rfl
  have b3 : (1 : Int) ≤ s3 ∧ s3 ≤ (2 : Int) := ivX (q := (3, .ofNat 1, .ofNat 2)) (y := s3) (hIv _ (.tail _ (.tail _ (.tail _ (.head _))))) rfl
  have b7 : (0 : Int) ≤ s8 ∧ s8 ≤ (0 : Int) := ivX (q := (8, .ofNat 0, .ofNat 0)) (y := s8) (hIv _ (.tail _ (.tail _ (.tail _ (.tail _ (.tail _ (.tail _ (.tail _ (.head _))))))))) rfl
  have b9 : (48 : Int) ≤ s11 ∧ s11 ≤ (57 : Int) := ivX (q := (11, .ofNat 48, .ofNat 57)) (y := s11) (hIv _ (.tail _ (.tail _ (.tail _ (.tail _ (.tail _ (.tail _ (.tail _ (.tail _ (.tail _ (.head _))))))))))) rfl
  have hCs : ∀ c ∈ ([(.ofNat 1, [(.ofNat 1, 2), (.negSucc 0, 6)]), (.ofNat 0, [(.ofNat 1, 5), (.negSucc 255, 10), (.negSucc 0, 11)]), (.ofNat 0, [(.negSucc 0, 5), (.ofNat 256, 10), (.ofNat 1, 11)]), (.ofNat 48, [(.ofNat 1, 4), (.negSucc 9, 9), (.negSucc 0, 11)]), (.negSucc 47, [(.negSucc 0, 4), (.ofNat 10, 9), (.ofNat 1, 11)])] : List sLn), ∃ x, sE [s0, s1, s2, s3, s4, s5, s6, s7, s8, s9, s10, s11] c = some x ∧ x ≤ 0 := hN.2.2.1
  have c0 : ((1 : Int) + ((1 : Int) * s2 + ((-1 : Int) * s6 + 0))) ≤ 0 := csX (hCs _ (.head _)) rfl
  have c1 : ((0 : Int) + ((1 : Int) * s5 + ((-256 : Int) * s10 + ((-1 : Int) * s11 + 0)))) ≤ 0 := csX (hCs _ (.tail _ (.head _))) rfl
  have c2 : ((0 : Int) + ((-1 : Int) * s5 + ((256 : Int) * s10 + ((1 : Int) * s11 + 0)))) ≤ 0 := csX (hCs _ (.tail _ (.tail _ (.head _)))) rfl
  have c3 : ((48 : Int) + ((1 : Int) * s4 + ((-10 : Int) * s9 + ((-1 : Int) * s11 + 0)))) ≤ 0 := csX (hCs _ (.tail _ (.tail _ (.tail _ (.head _))))) rfl
  have c4 : ((-48 : Int) + ((-1 : Int) * s4 + ((10 : Int) * s9 + ((1 : Int) * s11 + 0)))) ≤ 0 := csX (hCs _ (.tail _ (.tail _ (.tail _ (.tail _ (.head _)))))) rfl
  have hRf : ∀ q ∈ ([((78, .ofNat 273, []), (.ofNat 4, []), 1, .ofNat 0, [(.ofNat 1, 2)]), ((78, .ofNat 273, []), (.ofNat 13, []), 1, .ofNat 0, [(.ofNat 1, 3)]), ((78, .ofNat 273, []), (.ofNat 14, []), 1, .ofNat 0, [(.ofNat 1, 4)]), ((78, .ofNat 273, []), (.ofNat 17, []), 5, .ofNat 0, [(.ofNat 1, 5)]), ((78, .ofNat 273, []), (.ofNat 3, []), 1, .ofNat 0, [(.ofNat 1, 6)])] : List sRf), rfOk [s0, s1, s2, s3, s4, s5, s6, s7, s8, s9, s10, s11] hp q := hH.1
  have h0 : hI hp 273 4 = s2 := rfI0 (hRf _ (.head _)) (sE_k _ _) (sE_k _ _) (sE_V rfl)
  have y0 : (0 : Int) ≤ s2 ∧ s2 ≤ (940 : Int) := by rw [← h0]; exact hI_ty hO (by decide) rfl
  have h1 : hI hp 273 13 = s3 := rfI0 (hRf _ (.tail _ (.head _))) (sE_k _ _) (sE_k _ _) (sE_V rfl)
  have h2 : hI hp 273 14 = s4 := rfI0 (hRf _ (.tail _ (.tail _ (.head _)))) (sE_k _ _) (sE_k _ _) (sE_V rfl)
  have h3 : hL hp 273 17 = s5 := rfL0 (hRf _ (.tail _ (.tail _ (.tail _ (.head _))))) (sE_k _ _) (sE_k _ _) (sE_V rfl)
  have h4 : hI hp 273 3 = s6 := rfI0 (hRf _ (.tail _ (.tail _ (.tail _ (.tail _ (.head _)))))) (sE_k _ _) (sE_k _ _) (sE_V rfl)
  have y4 : (0 : Int) ≤ s6 ∧ s6 ≤ (940 : Int) := by rw [← h4]; exact hI_ty hO (by decide) rfl
  have tnm : (MT hp).2.1 = s6 := h4
  have hFc : ∀ q ∈ ([(114, [(.ofNat 0, [(.ofNat 1, 7)]), (.ofNat 0, [(.ofNat 1, 2)]), (.negSucc 0, [(.ofNat 1, 3)]), (.ofNat 0, [(.ofNat 1, 0)]), (.ofNat 0, [(.ofNat 1, 8)]), (.ofNat 0, [(.ofNat 1, 9)]), (.ofNat 0, [(.ofNat 1, 10)])]), (113, [(.ofNat 0, [(.ofNat 1, 2)]), (.ofNat 0, [(.ofNat 1, 11)])])] : List sFc), fcOk fFS [s0, s1, s2, s3, s4, s5, s6, s7, s8, s9, s10, s11] hp q := hH.2
  have f0 : RNm (MT hp) s7 s2 (s3 - 1) s0 s8 s9 s10 := fcX (ys := [s7, s2, (s3 - 1), s0, s8, s9, s10]) (hFc _ (.head _)) ⟨sE_V rfl, sE_V rfl, sEv (y' := ((-1 : Int) + ((1 : Int) * s3 + 0))) rfl (by omega), sE_V rfl, sE_V rfl, sE_V rfl, sE_V rfl, trivial⟩
  have f1 : 0 ≤ s2 ∧ s2 < 940 ∧ s11 = MB hp s2 := fcX (ys := [s2, s11]) (hFc _ (.tail _ (.head _))) ⟨sE_V rfl, sE_V rfl, trivial⟩
  exact poX (.head _) rfl hR (all_nil) (all_nil) (all_cons ⟨[s7, (s2 + 1), s3, s0, s1, s4, s5], ⟨sE_V rfl, sEv (y' := ((1 : Int) + ((1 : Int) * s2 + 0))) rfl (by omega), sE_V rfl, sE_V rfl, sE_V rfl, sE_V rfl, sE_V rfl, trivial⟩, (show RNm (MT hp) s7 (s2 + 1) s3 s0 s1 s4 s5 from rms_m f0 f1 (by omega) (by omega) (by omega) (by omega) (fun _ => by omega) (fun _ => by omega))⟩ (all_nil))
end CkRul6
