section CkRul5
theorem rl400 : ruOk fFS gR400 := by
  intro r hp hO hN hH
  obtain ⟨s0, s1, s2, s3, s4, s5, s6, s7, s8, rfl⟩ := len9 (show r.length = 9 from hN.1)
  have hR := hN.2.1.1
  have hIv : ∀ q ∈ ([(0, .negSucc 2147483647, .ofNat 2147483647), (1, .ofNat 0, .ofNat 0), (2, .ofNat 0, .ofNat 19), (3, .ofNat 0, .ofNat 6560), (4, .ofNat 1, .ofNat 1), (5, .negSucc 2147483647, .ofNat 2147483647), (6, .negSucc 2147483647, .ofNat 2147483647), (7, .ofNat 24, .ofNat 24), (8, .negSucc 2147483647, .ofNat 2147483647)] : sIv), ∃ x, ([s0, s1, s2, s3, s4, s5, s6, s7, s8] : List Int)[q.1]? = some x ∧ q.2.1 ≤ x ∧ x ≤ q.2.2 := hN.2.1.2
  have b1 : (0 : Int) ≤ s1 ∧ s1 ≤ (0 : Int) := ivX (q := (1, .ofNat 0, .ofNat 0)) (y := s1) (hIv _ (.tail _ (.head _))) rfl
  have b2 : (0 : Int) ≤ s2 ∧ s2 ≤ (19 : Int) := ivX (q := (2, .ofNat 0, .ofNat 19)) (y := s2) (hIv _ (.tail _ (.tail _ (.head _)))) rfl
  have b3 : (0 : Int) ≤ s3 ∧ s3 ≤ (6560 : Int) := ivX (q := (3, .ofNat 0, .ofNat 6560)) (y := s3) (hIv _ (.tail _ (.tail _ (.tail _ (.head _))))) rfl
  have b4 : (1 : Int) ≤ s4 ∧ s4 ≤ (1 : Int) := ivX (q := (4, .ofNat 1, .ofNat 1)) (y := s4) (hIv _ (.tail _ (.tail _ (.tail _ (.tail _ (.head _)))))) rfl
  have b7 : (24 : Int) ≤ s7 ∧ s7 ≤ (24 : Int) := ivX (q := (7, .ofNat 24, .ofNat 24)) (y := s7) (hIv _ (.tail _ (.tail _ (.tail _ (.tail _ (.tail _ (.tail _ (.tail _ (.head _))))))))) rfl
  have hRf : ∀ q ∈ ([((40, .ofNat 173, []), (.ofNat 9, []), 1, .ofNat 0, [])] : List sRf), rfOk [s0, s1, s2, s3, s4, s5, s6, s7, s8] hp q := hH.1
  have h0 : hI hp 173 9 = 0 := rfI0 (hRf _ (.head _)) (sE_k _ _) (sE_k _ _) (sE_k _ _)
  have hFc : ∀ q ∈ ([(192, [(.ofNat 0, [(.ofNat 1, 0)]), (.ofNat 0, [(.ofNat 1, 1)]), (.ofNat 0, [(.ofNat 1, 2)]), (.ofNat 0, [(.ofNat 1, 3)]), (.ofNat 0, [(.ofNat 1, 4)]), (.ofNat 0, [(.ofNat 1, 5)]), (.ofNat 0, [(.ofNat 1, 6)]), (.ofNat 0, [(.ofNat 1, 7)])]), (199, [(.ofNat 0, [(.ofNat 1, 3)]), (.ofNat 8, [])]), (200, [(.ofNat 0, [(.ofNat 1, 3)]), (.ofNat 0, [(.ofNat 1, 8)])])] : List sFc), fcOk fFS [s0, s1, s2, s3, s4, s5, s6, s7, s8] hp q := hH.2
  have f0 : SHq (XT hp) (nmR hp (xnm hp)) s0 s1 s2 s3 s4 s5 s6 s7 ∧ s4 ≠ 4 := fcX (ys := [s0, s1, s2, s3, s4, s5, s6, s7]) (hFc _ (.head _)) ⟨sE_V rfl, sE_V rfl, sE_V rfl, sE_V rfl, sE_V rfl, sE_V rfl, sE_V rfl, sE_V rfl, trivial⟩
  have f1 : (8 : Int) = dp s3 + 1 := fcX (ys := [s3, 8]) (hFc _ (.tail _ (.head _))) ⟨sE_V rfl, sE_k _ _, trivial⟩
  have f2 : s8 = nr s3 := fcX (ys := [s3, s8]) (hFc _ (.tail _ (.tail _ (.head _)))) ⟨sE_V rfl, sE_V rfl, trivial⟩
  have ud : dp s3 ≤ 7 := by omega
  have ut := dp_lt (t := s3) (by omega) ud
  exact poX (.head _) rfl hR (all_nil) (all_nil) (all_cons ⟨[s6, 2, (s2 + 1), s3], ⟨sE_V rfl, sE_k _ _, sEv (y' := ((1 : Int) + ((1 : Int) * s2 + 0))) rfl (by omega), sE_V rfl, trivial⟩, (show SG (XT hp) (nmR hp (xnm hp)) s6 (2 : Int) (s2 + 1) s3 from s0_for f0.1 (by omega) (by omega) (by omega) (by omega) ud)⟩ (all_nil))
theorem rl401 : ruOk fFS gR401 := by
  intro r hp hO hN hH
  obtain ⟨s0, s1, s2, s3, s4, s5, s6, s7, s8, rfl⟩ := len9 (show r.length = 9 from hN.1)
  have hR := hN.2.1.1
  have hIv : ∀ q ∈ ([(0, .negSucc 2147483647, .ofNat 2147483647), (1, .ofNat 0, .ofNat 0), (2, .ofNat 0, .ofNat 19), (3, .ofNat 0, .ofNat 6560), (4, .ofNat 1, .ofNat 1), (5, .negSucc 2147483647, .ofNat 2147483647), (6, .negSucc 2147483647, .ofNat 2147483647), (7, .ofNat 25, .ofNat 25), (8, .negSucc 2147483647, .ofNat 2147483647)] : sIv), ∃ x, ([s0, s1, s2, s3, s4, s5, s6, s7, s8] : List Int)[q.1]? = some x ∧ q.2.1 ≤ x ∧ x ≤ q.2.2 := hN.2.1.2
  have b1 : (0 : Int) ≤ s1 ∧ s1 ≤ (0 : Int) := ivX (q := (1, .ofNat 0, .ofNat 0)) (y := s1) (hIv _ (.tail _ (.head _))) rfl
  have b2 : (0 : Int) ≤ s2 ∧ s2 ≤ (19 : Int) := ivX (q := (2, .ofNat 0, .ofNat 19)) (y := s2) (hIv _ (.tail _ (.tail _ (.head _)))) rfl
  have b3 : (0 : Int) ≤ s3 ∧ s3 ≤ (6560 : Int) := ivX (q := (3, .ofNat 0, .ofNat 6560)) (y := s3) (hIv _ (.tail _ (.tail _ (.tail _ (.head _))))) rfl
  have b4 : (1 : Int) ≤ s4 ∧ s4 ≤ (1 : Int) := ivX (q := (4, .ofNat 1, .ofNat 1)) (y := s4) (hIv _ (.tail _ (.tail _ (.tail _ (.tail _ (.head _)))))) rfl
  have b7 : (25 : Int) ≤ s7 ∧ s7 ≤ (25 : Int) := ivX (q := (7, .ofNat 25, .ofNat 25)) (y := s7) (hIv _ (.tail _ (.tail _ (.tail _ (.tail _ (.tail _ (.tail _ (.tail _ (.head _))))))))) rfl
  have hRf : ∀ q ∈ ([((40, .ofNat 173, []), (.ofNat 9, []), 1, .ofNat 0, [])] : List sRf), rfOk [s0, s1, s2, s3, s4, s5, s6, s7, s8] hp q := hH.1
  have h0 : hI hp 173 9 = 0 := rfI0 (hRf _ (.head _)) (sE_k _ _) (sE_k _ _) (sE_k _ _)
  have hFc : ∀ q ∈ ([(192, [(.ofNat 0, [(.ofNat 1, 0)]), (.ofNat 0, [(.ofNat 1, 1)]), (.ofNat 0, [(.ofNat 1, 2)]), (.ofNat 0, [(.ofNat 1, 3)]), (.ofNat 0, [(.ofNat 1, 4)]), (.ofNat 0, [(.ofNat 1, 5)]), (.ofNat 0, [(.ofNat 1, 6)]), (.ofNat 0, [(.ofNat 1, 7)])]), (199, [(.ofNat 0, [(.ofNat 1, 3)]), (.ofNat 1, [])]), (200, [(.ofNat 0, [(.ofNat 1, 3)]), (.ofNat 0, [(.ofNat 1, 8)])])] : List sFc), fcOk fFS [s0, s1, s2, s3, s4, s5, s6, s7, s8] hp q := hH.2
  have f0 : SHq (XT hp) (nmR hp (xnm hp)) s0 s1 s2 s3 s4 s5 s6 s7 ∧ s4 ≠ 4 := fcX (ys := [s0, s1, s2, s3, s4, s5, s6, s7]) (hFc _ (.head _)) ⟨sE_V rfl, sE_V rfl, sE_V rfl, sE_V rfl, sE_V rfl, sE_V rfl, sE_V rfl, sE_V rfl, trivial⟩
  have f1 : (1 : Int) = dp s3 + 1 := fcX (ys := [s3, 1]) (hFc _ (.tail _ (.head _))) ⟨sE_V rfl, sE_k _ _, trivial⟩
  have f2 : s8 = nr s3 := fcX (ys := [s3, s8]) (hFc _ (.tail _ (.tail _ (.head _)))) ⟨sE_V rfl, sE_V rfl, trivial⟩
  have ud : dp s3 ≤ 7 := by omega
  have ut := dp_lt (t := s3) (by omega) ud
  exact poX (.head _) rfl hR (all_nil) (all_nil) (all_cons ⟨[s6, 3, (s2 + 1), s3], ⟨sE_V rfl, sE_k _ _, sEv (y' := ((1 : Int) + ((1 : Int) * s2 + 0))) rfl (by omega), sE_V rfl, trivial⟩, (show SG (XT hp) (nmR hp (xnm hp)) s6 (3 : Int) (s2 + 1) s3 from s0_by f0.1 (by omega) (by omega) (by omega) (by omega) ud)⟩ (all_nil))
theorem rl402 : ruOk fFS gR402 := by
  intro r hp hO hN hH
  obtain ⟨s0, s1, s2, s3, s4, s5, s6, s7, s8, rfl⟩ := len9 (show r.length = 9 from hN.1)
  have hR := hN.2.1.1
  have hIv : ∀ q ∈ ([(0, .negSucc 2147483647, .ofNat 2147483647), (1, .ofNat 0, .ofNat 0), (2, .ofNat 0, .ofNat 19), (3, .ofNat 0, .ofNat 6560), (4, .ofNat 1, .ofNat 1), (5, .negSucc 2147483647, .ofNat 2147483647), (6, .negSucc 2147483647, .ofNat 2147483647), (7, .ofNat 25, .ofNat 25), (8, .negSucc 2147483647, .ofNat 2147483647)] : sIv), ∃ x, ([s0, s1, s2, s3, s4, s5, s6, s7, s8] : List Int)[q.1]? = some x ∧ q.2.1 ≤ x ∧ x ≤ q.2.2 := hN.2.1.2
  have b1 : (0 : Int) ≤ s1 ∧ s1 ≤ (0 : Int) := ivX (q := (1, .ofNat 0, .ofNat 0)) (y := s1) (hIv _ (.tail _ (.head _))) rfl
  have b2 : (0 : Int) ≤ s2 ∧ s2 ≤ (19 : Int) := ivX (q := (2, .ofNat 0, .ofNat 19)) (y := s2) (hIv _ (.tail _ (.tail _ (.head _)))) rfl
  have b3 : (0 : Int) ≤ s3 ∧ s3 ≤ (6560 : Int) := ivX (q := (3, .ofNat 0, .ofNat 6560)) (y := s3) (hIv _ (.tail _ (.tail _ (.tail _ (.head _))))) rfl
  have b4 : (1 : Int) ≤ s4 ∧ s4 ≤ (1 : Int) := ivX (q := (4, .ofNat 1, .ofNat 1)) (y := s4) (hIv _ (.tail _ (.tail _ (.tail _ (.tail _ (.head _)))))) rfl
  have b7 : (25 : Int) ≤ s7 ∧ s7 ≤ (25 : Int) := ivX (q := (7, .ofNat 25, .ofNat 25)) (y := s7) (hIv _ (.tail _ (.tail _ (.tail _ (.tail _ (.tail _ (.tail _ (.tail _ (.head _))))))))) rfl
  have hRf : ∀ q ∈ ([((40, .ofNat 173, []), (.ofNat 9, []), 1, .ofNat 0, [])] : List sRf), rfOk [s0, s1, s2, s3, s4, s5, s6, s7, s8] hp q := hH.1
  have h0 : hI hp 173 9 = 0 := rfI0 (hRf _ (.head _)) (sE_k _ _) (sE_k _ _) (sE_k _ _)
  have hFc : ∀ q ∈ ([(192, [(.ofNat 0, [(.ofNat 1, 0)]), (.ofNat 0, [(.ofNat 1, 1)]), (.ofNat 0, [(.ofNat 1, 2)]), (.ofNat 0, [(.ofNat 1, 3)]), (.ofNat 0, [(.ofNat 1, 4)]), (.ofNat 0, [(.ofNat 1, 5)]), (.ofNat 0, [(.ofNat 1, 6)]), (.ofNat 0, [(.ofNat 1, 7)])]), (199, [(.ofNat 0, [(.ofNat 1, 3)]), (.ofNat 2, [])]), (200, [(.ofNat 0, [(.ofNat 1, 3)]), (.ofNat 0, [(.ofNat 1, 8)])])] : List sFc), fcOk fFS [s0, s1, s2, s3, s4, s5, s6, s7, s8] hp q := hH.2
  have f0 : SHq (XT hp) (nmR hp (xnm hp)) s0 s1 s2 s3 s4 s5 s6 s7 ∧ s4 ≠ 4 := fcX (ys := [s0, s1, s2, s3, s4, s5, s6, s7]) (hFc _ (.head _)) ⟨sE_V rfl, sE_V rfl, sE_V rfl, sE_V rfl, sE_V rfl, sE_V rfl, sE_V rfl, sE_V rfl, trivial⟩
  have f1 : (2 : Int) = dp s3 + 1 := fcX (ys := [s3, 2]) (hFc _ (.tail _ (.head _))) ⟨sE_V rfl, sE_k _ _, trivial⟩
  have f2 : s8 = nr s3 := fcX (ys := [s3, s8]) (hFc _ (.tail _ (.tail _ (.head _)))) ⟨sE_V rfl, sE_V rfl, trivial⟩
  have ud : dp s3 ≤ 7 := by omega
  have ut := dp_lt (t := s3) (by omega) ud
  exact poX (.head _) rfl hR (all_nil) (all_nil) (all_cons ⟨[s6, 3, (s2 + 1), s3], ⟨sE_V rfl, sE_k _ _, sEv (y' := ((1 : Int) + ((1 : Int) * s2 + 0))) rfl (by omega), sE_V rfl, trivial⟩, (show SG (XT hp) (nmR hp (xnm hp)) s6 (3 : Int) (s2 + 1) s3 from s0_by f0.1 (by omega) (by omega) (by omega) (by omega) ud)⟩ (all_nil))
theorem rl403 : ruOk fFS gR403 := by
  intro r hp hO hN hH
  obtain ⟨s0, s1, s2, s3, s4, s5, s6, s7, s8, rfl⟩ := len9 (show r.length = 9 from hN.1)
  have hR := hN.2.1.1
  have hIv : ∀ q ∈ ([(0, .negSucc 2147483647, .ofNat 2147483647), (1, .ofNat 0, .ofNat 0), (2, .ofNat 0, .ofNat 19), (3, .ofNat 0, .ofNat 6560), (4, .ofNat 1, .ofNat 1), (5, .negSucc 2147483647, .ofNat 2147483647), (6, .negSucc 2147483647, .ofNat 2147483647), (7, .ofNat 25, .ofNat 25), (8, .negSucc 2147483647, .ofNat 2147483647)] : sIv), ∃ x, ([s0, s1, s2, s3, s4, s5, s6, s7, s8] : List Int)[q.1]? = some x ∧ q.2.1 ≤ x ∧ x ≤ q.2.2 := hN.2.1.2
  have b1 : (0 : Int) ≤ s1 ∧ s1 ≤ (0 : Int) := ivX (q := (1, .ofNat 0, .ofNat 0)) (y := s1) (hIv _ (.tail _ (.head _))) rfl
  have b2 : (0 : Int) ≤ s2 ∧ s2 ≤ (19 : Int) := ivX (q := (2, .ofNat 0, .ofNat 19)) (y := s2) (hIv _ (.tail _ (.tail _ (.head _)))) rfl
  have b3 : (0 : Int) ≤ s3 ∧ s3 ≤ (6560 : Int) := ivX (q := (3, .ofNat 0, .ofNat 6560)) (y := s3) (hIv _ (.tail _ (.tail _ (.tail _ (.head _))))) rfl
  have b4 : (1 : Int) ≤ s4 ∧ s4 ≤ (1 : Int) := ivX (q := (4, .ofNat 1, .ofNat 1)) (y := s4) (hIv _ (.tail _ (.tail _ (.tail _ (.tail _ (.head _)))))) rfl
  have b7 : (25 : Int) ≤ s7 ∧ s7 ≤ (25 : Int) := ivX (q := (7, .ofNat 25, .ofNat 25)) (y := s7) (hIv _ (.tail _ (.tail _ (.tail _ (.tail _ (.tail _ (.tail _ (.tail _ (.head _))))))))) rfl
  have hRf : ∀ q ∈ ([((40, .ofNat 173, []), (.ofNat 9, []), 1, .ofNat 0, [])] : List sRf), rfOk [s0, s1, s2, s3, s4, s5, s6, s7, s8] hp q := hH.1
  have h0 : hI hp 173 9 = 0 := rfI0 (hRf _ (.head _)) (sE_k _ _) (sE_k _ _) (sE_k _ _)
  have hFc : ∀ q ∈ ([(192, [(.ofNat 0, [(.ofNat 1, 0)]), (.ofNat 0, [(.ofNat 1, 1)]), (.ofNat 0, [(.ofNat 1, 2)]), (.ofNat 0, [(.ofNat 1, 3)]), (.ofNat 0, [(.ofNat 1, 4)]), (.ofNat 0, [(.ofNat 1, 5)]), (.ofNat 0, [(.ofNat 1, 6)]), (.ofNat 0, [(.ofNat 1, 7)])]), (199, [(.ofNat 0, [(.ofNat 1, 3)]), (.ofNat 3, [])]), (200, [(.ofNat 0, [(.ofNat 1, 3)]), (.ofNat 0, [(.ofNat 1, 8)])])] : List sFc), fcOk fFS [s0, s1, s2, s3, s4, s5, s6, s7, s8] hp q := hH.2
  have f0 : SHq (XT hp) (nmR hp (xnm hp)) s0 s1 s2 s3 s4 s5 s6 s7 ∧ s4 ≠ 4 := fcX (ys := [s0, s1, s2, s3, s4, s5, s6, s7]) (hFc _ (.head _)) ⟨sE_V rfl, sE_V rfl, sE_V rfl, sE_V rfl, sE_V rfl, sE_V rfl, sE_V rfl, sE_V rfl, trivial⟩
  have f1 : (3 : Int) = dp s3 + 1 := fcX (ys := [s3, 3]) (hFc _ (.tail _ (.head _))) ⟨sE_V rfl, sE_k _ _, trivial⟩
  have f2 : s8 = nr s3 := fcX (ys := [s3, s8]) (hFc _ (.tail _ (.tail _ (.head _)))) ⟨sE_V rfl, sE_V rfl, trivial⟩
  have ud : dp s3 ≤ 7 := by omega
  have ut := dp_lt (t := s3) (by omega) ud
  exact poX (.head _) rfl hR (all_nil) (all_nil) (all_cons ⟨[s6, 3, (s2 + 1), s3], ⟨sE_V rfl, sE_k _ _, sEv (y' := ((1 : Int) + ((1 : Int) * s2 + 0))) rfl (by omega), sE_V rfl, trivial⟩, (show SG (XT hp) (nmR hp (xnm hp)) s6 (3 : Int) (s2 + 1) s3 from s0_by f0.1 (by omega) (by omega) (by omega) (by omega) ud)⟩ (all_nil))
theorem rl404 : ruOk fFS gR404 := by
  intro r hp hO hN hH
  obtain ⟨s0, s1, s2, s3, s4, s5, s6, s7, s8, rfl⟩ := len9 (show r.length = 9 from hN.1)
  have hR := hN.2.1.1
  have hIv : ∀ q ∈ ([(0, .negSucc 2147483647, .ofNat 2147483647), (1, .ofNat 0, .ofNat 0), (2, .ofNat 0, .ofNat 19), (3, .ofNat 0, .ofNat 6560), (4, .ofNat 1, .ofNat 1), (5, .negSucc 2147483647, .ofNat 2147483647), (6, .negSucc 2147483647, .ofNat 2147483647), (7, .ofNat 25, .ofNat 25), (8, .negSucc 2147483647, .ofNat 2147483647)] : sIv), ∃ x, ([s0, s1, s2, s3, s4, s5, s6, s7, s8] : List Int)[q.1]? = some x ∧ q.2.1 ≤ x ∧ x ≤ q.2.2 := hN.2.1.2
  have b1 : (0 : Int) ≤ s1 ∧ s1 ≤ (0 : Int) := ivX (q := (1, .ofNat 0, .ofNat 0)) (y := s1) (hIv _ (.tail _ (.head _))) rfl
  have b2 : (0 : Int) ≤ s2 ∧ s2 ≤ (19 : Int) := ivX (q := (2, .ofNat 0, .ofNat 19)) (y := s2) (hIv _ (.tail _ (.tail _ (.head _)))) rfl
  have b3 : (0 : Int) ≤ s3 ∧ s3 ≤ (6560 : Int) := ivX (q := (3, .ofNat 0, .ofNat 6560)) (y := s3) (hIv _ (.tail _ (.tail _ (.tail _ (.head _))))) rfl
  have b4 : (1 : Int) ≤ s4 ∧ s4 ≤ (1 : Int) := ivX (q := (4, .ofNat 1, .ofNat 1)) (y := s4) (hIv _ (.tail _ (.tail _ (.tail _ (.tail _ (.head _)))))) rfl
  have b7 : (25 : Int) ≤ s7 ∧ s7 ≤ (25 : Int) := ivX (q := (7, .ofNat 25, .ofNat 25)) (y := s7) (hIv _ (.tail _ (.tail _ (.tail _ (.tail _ (.tail _ (.tail _ (.tail _ (.head _))))))))) rfl
  have hRf : ∀ q ∈ ([((40, .ofNat 173, []), (.ofNat 9, []), 1, .ofNat 0, [])] : List sRf), rfOk [s0, s1, s2, s3, s4, s5, s6, s7, s8] hp q := hH.1
  have h0 : hI hp 173 9 = 0 := rfI0 (hRf _ (.head _)) (sE_k _ _) (sE_k _ _) (sE_k _ _)
  have hFc : ∀ q ∈ ([(192, [(.ofNat 0, [(.ofNat 1, 0)]), (.ofNat 0, [(.ofNat 1, 1)]), (.ofNat 0, [(.ofNat 1, 2)]), (.ofNat 0, [(.ofNat 1, 3)]), (.ofNat 0, [(.ofNat 1, 4)]), (.ofNat 0, [(.ofNat 1, 5)]), (.ofNat 0, [(.ofNat 1, 6)]), (.ofNat 0, [(.ofNat 1, 7)])]), (199, [(.ofNat 0, [(.ofNat 1, 3)]), (.ofNat 4, [])]), (200, [(.ofNat 0, [(.ofNat 1, 3)]), (.ofNat 0, [(.ofNat 1, 8)])])] : List sFc), fcOk fFS [s0, s1, s2, s3, s4, s5, s6, s7, s8] hp q := hH.2
  have f0 : SHq (XT hp) (nmR hp (xnm hp)) s0 s1 s2 s3 s4 s5 s6 s7 ∧ s4 ≠ 4 := fcX (ys := [s0, s1, s2, s3, s4, s5, s6, s7]) (hFc _ (.head _)) ⟨sE_V rfl, sE_V rfl, sE_V rfl, sE_V rfl, sE_V rfl, sE_V rfl, sE_V rfl, sE_V rfl, trivial⟩
  have f1 : (4 : Int) = dp s3 + 1 := fcX (ys := [s3, 4]) (hFc _ (.tail _ (.head _))) ⟨sE_V rfl, sE_k _ _, trivial⟩
  have f2 : s8 = nr s3 := fcX (ys := [s3, s8]) (hFc _ (.tail _ (.tail _ (.head _)))) ⟨sE_V rfl, sE_V rfl, trivial⟩
  have ud : dp s3 ≤ 7 := by omega
  have ut := dp_lt (t := s3) (by omega) ud
  exact poX (.head _) rfl hR (all_nil) (all_nil) (all_cons ⟨[s6, 3, (s2 + 1), s3], ⟨sE_V rfl, sE_k _ _, sEv (y' := ((1 : Int) + ((1 : Int) * s2 + 0))) rfl (by omega), sE_V rfl, trivial⟩, (show SG (XT hp) (nmR hp (xnm hp)) s6 (3 : Int) (s2 + 1) s3 from s0_by f0.1 (by omega) (by omega) (by omega) (by omega) ud)⟩ (all_nil))
theorem rl405 : ruOk fFS gR405 := by
  intro r hp hO hN hH
  obtain ⟨s0, s1, s2, s3, s4, s5, s6, s7, s8, rfl⟩ := len9 (show r.length = 9 from hN.1)
  have hR := hN.2.1.1
  have hIv : ∀ q ∈ ([(0, .negSucc 2147483647, .ofNat 2147483647), (1, .ofNat 0, .ofNat 0), (2, .ofNat 0, .ofNat 19), (3, .ofNat 0, .ofNat 6560), (4, .ofNat 1, .ofNat 1), (5, .negSucc 2147483647, .ofNat 2147483647), (6, .negSucc 2147483647, .ofNat 2147483647), (7, .ofNat 25, .ofNat 25), (8, .negSucc 2147483647, .ofNat 2147483647)] : sIv), ∃ x, ([s0, s1, s2, s3, s4, s5, s6, s7, s8] : List Int)[q.1]? = some x ∧ q.2.1 ≤ x ∧ x ≤ q.2.2 := hN.2.1.2
  have b1 : (0 : Int) ≤ s1 ∧ s1 ≤ (0 : Int) := ivX (q := (1, .ofNat 0, .ofNat 0)) (y := s1) (hIv _ (.tail _ (.head _))) rfl
  have b2 : (0 : Int) ≤ s2 ∧ s2 ≤ (19 : Int) := ivX (q := (2, .ofNat 0, .ofNat 19)) (y := s2) (hIv _ (.tail _ (.tail _ (.head _)))) rfl
  have b3 : (0 : Int) ≤ s3 ∧ s3 ≤ (6560 : Int) := ivX (q := (3, .ofNat 0, .ofNat 6560)) (y := s3) (hIv _ (.tail _ (.tail _ (.tail _ (.head _))))) rfl
  have b4 : (1 : Int) ≤ s4 ∧ s4 ≤ (1 : Int) := ivX (q := (4, .ofNat 1, .ofNat 1)) (y := s4) (hIv _ (.tail _ (.tail _ (.tail _ (.tail _ (.head _)))))) rfl
  have b7 : (25 : Int) ≤ s7 ∧ s7 ≤ (25 : Int) := ivX (q := (7, .ofNat 25, .ofNat 25)) (y := s7) (hIv _ (.tail _ (.tail _ (.tail _ (.tail _ (.tail _ (.tail _ (.tail _ (.head _))))))))) rfl
  have hRf : ∀ q ∈ ([((40, .ofNat 173, []), (.ofNat 9, []), 1, .ofNat 0, [])] : List sRf), rfOk [s0, s1, s2, s3, s4, s5, s6, s7, s8] hp q := hH.1
  have h0 : hI hp 173 9 = 0 := rfI0 (hRf _ (.head _)) (sE_k _ _) (sE_k _ _) (sE_k _ _)
  have hFc : ∀ q ∈ ([(192, [(.ofNat 0, [(.ofNat 1, 0)]), (.ofNat 0, [(.ofNat 1, 1)]), (.ofNat 0, [(.ofNat 1, 2)]), (.ofNat 0, [(.ofNat 1, 3)]), (.ofNat 0, [(.ofNat 1, 4)]), (.ofNat 0, [(.ofNat 1, 5)]), (.ofNat 0, [(.ofNat 1, 6)]), (.ofNat 0, [(.ofNat 1, 7)])]), (199, [(.ofNat 0, [(.ofNat 1, 3)]), (.ofNat 5, [])]), (200, [(.ofNat 0, [(.ofNat 1, 3)]), (.ofNat 0, [(.ofNat 1, 8)])])] : List sFc), fcOk fFS [s0, s1, s2, s3, s4, s5, s6, s7, s8] hp q := hH.2
  have f0 : SHq (XT hp) (nmR hp (xnm hp)) s0 s1 s2 s3 s4 s5 s6 s7 ∧ s4 ≠ 4 := fcX (ys := [s0, s1, s2, s3, s4, s5, s6, s7]) (hFc _ (.head _)) ⟨sE_V rfl, sE_V rfl, sE_V rfl, sE_V rfl, sE_V rfl, sE_V rfl, sE_V rfl, sE_V rfl, trivial⟩
  have f1 : (5 : Int) = dp s3 + 1 := fcX (ys := [s3, 5]) (hFc _ (.tail _ (.head _))) ⟨sE_V rfl, sE_k _ _, trivial⟩
  have f2 : s8 = nr s3 := fcX (ys := [s3, s8]) (hFc _ (.tail _ (.tail _ (.head _)))) ⟨sE_V rfl, sE_V rfl, trivial⟩
  have ud : dp s3 ≤ 7 := by omega
  have ut := dp_lt (t := s3) (by omega) ud
  exact poX (.head _) rfl hR (all_nil) (all_nil) (all_cons ⟨[s6, 3, (s2 + 1), s3], ⟨sE_V rfl, sE_k _ _, sEv (y' := ((1 : Int) + ((1 : Int) * s2 + 0))) rfl (by omega), sE_V rfl, trivial⟩, (show SG (XT hp) (nmR hp (xnm hp)) s6 (3 : Int) (s2 + 1) s3 from s0_by f0.1 (by omega) (by omega) (by omega) (by omega) ud)⟩ (all_nil))
theorem rl406 : ruOk fFS gR406 := by
  intro r hp hO hN hH
  obtain ⟨s0, s1, s2, s3, s4, s5, s6, s7, s8, rfl⟩ := len9 (show r.length = 9 from hN.1)
  have hR := hN.2.1.1
  have hIv : ∀ q ∈ ([(0, .negSucc 2147483647, .ofNat 2147483647), (1, .ofNat 0, .ofNat 0), (2, .ofNat 0, .ofNat 19), (3, .ofNat 0, .ofNat 6560), (4, .ofNat 1, .ofNat 1), (5, .negSucc 2147483647, .ofNat 2147483647), (6, .negSucc 2147483647, .ofNat 2147483647), (7, .ofNat 25, .ofNat 25), (8, .negSucc 2147483647, .ofNat 2147483647)] : sIv), ∃ x, ([s0, s1, s2, s3, s4, s5, s6, s7, s8] : List Int)[q.1]? = some x ∧ q.2.1 ≤ x ∧ x ≤ q.2.2 := hN.2.1.2
  have b1 : (0 : Int) ≤ s1 ∧ s1 ≤ (0 : Int) := ivX (q := (1, .ofNat 0, .ofNat 0)) (y := s1) (hIv _ (.tail _ (.head _))) rfl
  have b2 : (0 : Int) ≤ s2 ∧ s2 ≤ (19 : Int) := ivX (q := (2, .ofNat 0, .ofNat 19)) (y := s2) (hIv _ (.tail _ (.tail _ (.head _)))) rfl
  have b3 : (0 : Int) ≤ s3 ∧ s3 ≤ (6560 : Int) := ivX (q := (3, .ofNat 0, .ofNat 6560)) (y := s3) (hIv _ (.tail _ (.tail _ (.tail _ (.head _))))) rfl
  have b4 : (1 : Int) ≤ s4 ∧ s4 ≤ (1 : Int) := ivX (q := (4, .ofNat 1, .ofNat 1)) (y := s4) (hIv _ (.tail _ (.tail _ (.tail _ (.tail _ (.head _)))))) rfl
  have b7 : (25 : Int) ≤ s7 ∧ s7 ≤ (25 : Int) := ivX (q := (7, .ofNat 25, .ofNat 25)) (y := s7) (hIv _ (.tail _ (.tail _ (.tail _ (.tail _ (.tail _ (.tail _ (.tail _ (.head _))))))))) rfl
  have hRf : ∀ q ∈ ([((40, .ofNat 173, []), (.ofNat 9, []), 1, .ofNat 0, [])] : List sRf), rfOk [s0, s1, s2, s3, s4, s5, s6, s7, s8] hp q := hH.1
  have h0 : hI hp 173 9 = 0 := rfI0 (hRf _ (.head _)) (sE_k _ _) (sE_k _ _) (sE_k _ _)
  have hFc : ∀ q ∈ ([(192, [(.ofNat 0, [(.ofNat 1, 0)]), (.ofNat 0, [(.ofNat 1, 1)]), (.ofNat 0, [(.ofNat 1, 2)]), (.ofNat 0, [(.ofNat 1, 3)]), (.ofNat 0, [(.ofNat 1, 4)]), (.ofNat 0, [(.ofNat 1, 5)]), (.ofNat 0, [(.ofNat 1, 6)]), (.ofNat 0, [(.ofNat 1, 7)])]), (199, [(.ofNat 0, [(.ofNat 1, 3)]), (.ofNat 6, [])]), (200, [(.ofNat 0, [(.ofNat 1, 3)]), (.ofNat 0, [(.ofNat 1, 8)])])] : List sFc), fcOk fFS [s0, s1, s2, s3, s4, s5, s6, s7, s8] hp q := hH.2
  have f0 : SHq (XT hp) (nmR hp (xnm hp)) s0 s1 s2 s3 s4 s5 s6 s7 ∧ s4 ≠ 4 := fcX (ys := [s0, s1, s2, s3, s4, s5, s6, s7]) (hFc _ (.head _)) ⟨sE_V rfl, sE_V rfl, sE_V rfl, sE_V rfl, sE_V rfl, sE_V rfl, sE_V rfl, sE_V rfl, trivial⟩
  have f1 : (6 : Int) = dp s3 + 1 := fcX (ys := [s3, 6]) (hFc _ (.tail _ (.head _))) ⟨sE_V rfl, sE_k _ _, trivial⟩
  have f2 : s8 = nr s3 := fcX (ys := [s3, s8]) (hFc _ (.tail _ (.tail _ (.head _)))) ⟨sE_V rfl, sE_V rfl, trivial⟩
  have ud : dp s3 ≤ 7 := by omega
  have ut := dp_lt (t := s3) (by omega) ud
  exact poX (.head _) rfl hR (all_nil) (all_nil) (all_cons ⟨[s6, 3, (s2 + 1), s3], ⟨sE_V rfl, sE_k _ _, sEv (y' := ((1 : Int) + ((1 : Int) * s2 + 0))) rfl (by omega), sE_V rfl, trivial⟩, (show SG (XT hp) (nmR hp (xnm hp)) s6 (3 : Int) (s2 + 1) s3 from s0_by f0.1 (by omega) (by omega) (by omega) (by omega) ud)⟩ (all_nil))
theorem rl407 : ruOk fFS gR407 := by
  intro r hp hO hN hH
  obtain ⟨s0, s1, s2, s3, s4, s5, s6, s7, s8, rfl⟩ := len9 (show r.length = 9 from hN.1)
  have hR := hN.2.1.1
  have hIv : ∀ q ∈ ([(0, .negSucc 2147483647, .ofNat 2147483647), (1, .ofNat 0, .ofNat 0), (2, .ofNat 0, .ofNat 19), (3, .ofNat 0, .ofNat 6560), (4, .ofNat 1, .ofNat 1), (5, .negSucc 2147483647, .ofNat 2147483647), (6, .negSucc 2147483647, .ofNat 2147483647), (7, .ofNat 25, .ofNat 25), (8, .negSucc 2147483647, .ofNat 2147483647)] : sIv), ∃ x, ([s0, s1, s2, s3, s4, s5, s6, s7, s8] : List Int)[q.1]? = some x ∧ q.2.1 ≤ x ∧ x ≤ q.2.2 := hN.2.1.2
  have b1 : (0 : Int) ≤ s1 ∧ s1 ≤ (0 : Int) := ivX (q := (1, .ofNat 0, .ofNat 0)) (y := s1) (hIv _ (.tail _ (.head _))) rfl
  have b2 : (0 : Int) ≤ s2 ∧ s2 ≤ (19 : Int) := ivX (q := (2, .ofNat 0, .ofNat 19)) (y := s2) (hIv _ (.tail _ (.tail _ (.head _)))) rfl
  have b3 : (0 : Int) ≤ s3 ∧ s3 ≤ (6560 : Int) := ivX (q := (3, .ofNat 0, .ofNat 6560)) (y := s3) (hIv _ (.tail _ (.tail _ (.tail _ (.head _))))) rfl
  have b4 : (1 : Int) ≤ s4 ∧ s4 ≤ (1 : Int) := ivX (q := (4, .ofNat 1, .ofNat 1)) (y := s4) (hIv _ (.tail _ (.tail _ (.tail _ (.tail _ (.head _)))))) rfl
  have b7 : (25 : Int) ≤ s7 ∧ s7 ≤ (25 : Int) := ivX (q := (7, .ofNat 25, .ofNat 25)) (y := s7) (hIv _ (.tail _ (.tail _ (.tail _ (.tail _ (.tail _ (.tail _ (.tail _ (.head _))))))))) rfl
  have hRf : ∀ q ∈ ([((40, .ofNat 173, []), (.ofNat 9, []), 1, .ofNat 0, [])] : List sRf), rfOk [s0, s1, s2, s3, s4, s5, s6, s7, s8] hp q := hH.1
  have h0 : hI hp 173 9 = 0 := rfI0 (hRf _ (.head _)) (sE_k _ _) (sE_k _ _) (sE_k _ _)
  have hFc : ∀ q ∈ ([(192, [(.ofNat 0, [(.ofNat 1, 0)]), (.ofNat 0, [(.ofNat 1, 1)]), (.ofNat 0, [(.ofNat 1, 2)]), (.ofNat 0, [(.ofNat 1, 3)]), (.ofNat 0, [(.ofNat 1, 4)]), (.ofNat 0, [(.ofNat 1, 5)]), (.ofNat 0, [(.ofNat 1, 6)]), (.ofNat 0, [(.ofNat 1, 7)])]), (199, [(.ofNat 0, [(.ofNat 1, 3)]), (.ofNat 7, [])]), (200, [(.ofNat 0, [(.ofNat 1, 3)]), (.ofNat 0, [(.ofNat 1, 8)])])] : List sFc), fcOk fFS [s0, s1, s2, s3, s4, s5, s6, s7, s8] hp q := hH.2
  have f0 : SHq (XT hp) (nmR hp (xnm hp)) s0 s1 s2 s3 s4 s5 s6 s7 ∧ s4 ≠ 4 := fcX (ys := [s0, s1, s2, s3, s4, s5, s6, s7]) (hFc _ (.head _)) ⟨sE_V rfl, sE_V rfl, sE_V rfl, sE_V rfl, sE_V rfl, sE_V rfl, sE_V rfl, sE_V rfl, trivial⟩
  have f1 : (7 : Int) = dp s3 + 1 := fcX (ys := [s3, 7]) (hFc _ (.tail _ (.head _))) ⟨sE_V rfl, sE_k _ _, trivial⟩
  have f2 : s8 = nr s3 := fcX (ys := [s3, s8]) (hFc _ (.tail _ (.tail _ (.head _)))) ⟨sE_V rfl, sE_V rfl, trivial⟩
  have ud : dp s3 ≤ 7 := by omega
  have ut := dp_lt (t := s3) (by omega) ud
  exact poX (.head _) rfl hR (all_nil) (all_nil) (all_cons ⟨[s6, 3, (s2 + 1), s3], ⟨sE_V rfl, sE_k _ _, sEv (y' := ((1 : Int) + ((1 : Int) * s2 + 0))) rfl (by omega), sE_V rfl, trivial⟩, (show SG (XT hp) (nmR hp (xnm hp)) s6 (3 : Int) (s2 + 1) s3 from s0_by f0.1 (by omega) (by omega) (by omega) (by omega) ud)⟩ (all_nil))
theorem rl408 : ruOk fFS gR408 := by
  intro r hp hO hN hH
  obtain ⟨s0, s1, s2, s3, s4, s5, s6, s7, s8, rfl⟩ := len9 (show r.length = 9 from hN.1)
  have hR := hN.2.1.1
  have hIv : ∀ q ∈ ([(0, .negSucc 2147483647, .ofNat 2147483647), (1, .ofNat 0, .ofNat 0), (2, .ofNat 0, .ofNat 19), (3, .ofNat 0, .ofNat 6560), (4, .ofNat 1, .ofNat 1), (5, .negSucc 2147483647, .ofNat 2147483647), (6, .negSucc 2147483647, .ofNat 2147483647), (7, .ofNat 25, .ofNat 25), (8, .negSucc 2147483647, .ofNat 2147483647)] : sIv), ∃ x, ([s0, s1, s2, s3, s4, s5, s6, s7, s8] : List Int)[q.1]? = some x ∧ q.2.1 ≤ x ∧ x ≤ q.2.2 := hN.2.1.2
  have b1 : (0 : Int) ≤ s1 ∧ s1 ≤ (0 : Int) := ivX (q := (1, .ofNat 0, .ofNat 0)) (y := s1) (hIv _ (.tail _ (.head _))) rfl
  have b2 : (0 : Int) ≤ s2 ∧ s2 ≤ (19 : Int) := ivX (q := (2, .ofNat 0, .ofNat 19)) (y := s2) (hIv _ (.tail _ (.tail _ (.head _)))) rfl
  have b3 : (0 : Int) ≤ s3 ∧ s3 ≤ (6560 : Int) := ivX (q := (3, .ofNat 0, .ofNat 6560)) (y := s3) (hIv _ (.tail _ (.tail _ (.tail _ (.head _))))) rfl
  have b4 : (1 : Int) ≤ s4 ∧ s4 ≤ (1 : Int) := ivX (q := (4, .ofNat 1, .ofNat 1)) (y := s4) (hIv _ (.tail _ (.tail _ (.tail _ (.tail _ (.head _)))))) rfl
  have b7 : (25 : Int) ≤ s7 ∧ s7 ≤ (25 : Int) := ivX (q := (7, .ofNat 25, .ofNat 25)) (y := s7) (hIv _ (.tail _ (.tail _ (.tail _ (.tail _ (.tail _ (.tail _ (.tail _ (.head _))))))))) rfl
  have hRf : ∀ q ∈ ([((40, .ofNat 173, []), (.ofNat 9, []), 1, .ofNat 0, [])] : List sRf), rfOk [s0, s1, s2, s3, s4, s5, s6, s7, s8] hp q := hH.1
  have h0 : hI hp 173 9 = 0 := rfI0 (hRf _ (.head _)) (sE_k _ _) (sE_k _ _) (sE_k _ _)
  have hFc : ∀ q ∈ ([(192, [(.ofNat 0, [(.ofNat 1, 0)]), (.ofNat 0, [(.ofNat 1, 1)]), (.ofNat 0, [(.ofNat 1, 2)]), (.ofNat 0, [(.ofNat 1, 3)]), (.ofNat 0, [(.ofNat 1, 4)]), (.ofNat 0, [(.ofNat 1, 5)]), (.ofNat 0, [(.ofNat 1, 6)]), (.ofNat 0, [(.ofNat 1, 7)])]), (199, [(.ofNat 0, [(.ofNat 1, 3)]), (.ofNat 8, [])]), (200, [(.ofNat 0, [(.ofNat 1, 3)]), (.ofNat 0, [(.ofNat 1, 8)])])] : List sFc), fcOk fFS [s0, s1, s2, s3, s4, s5, s6, s7, s8] hp q := hH.2
  have f0 : SHq (XT hp) (nmR hp (xnm hp)) s0 s1 s2 s3 s4 s5 s6 s7 ∧ s4 ≠ 4 := fcX (ys := [s0, s1, s2, s3, s4, s5, s6, s7]) (hFc _ (.head _)) ⟨sE_V rfl, sE_V rfl, sE_V rfl, sE_V rfl, sE_V rfl, sE_V rfl, sE_V rfl, sE_V rfl, trivial⟩
  have f1 : (8 : Int) = dp s3 + 1 := fcX (ys := [s3, 8]) (hFc _ (.tail _ (.head _))) ⟨sE_V rfl, sE_k _ _, trivial⟩
  have f2 : s8 = nr s3 := fcX (ys := [s3, s8]) (hFc _ (.tail _ (.tail _ (.head _)))) ⟨sE_V rfl, sE_V rfl, trivial⟩
  have ud : dp s3 ≤ 7 := by omega
  have ut := dp_lt (t := s3) (by omega) ud
  exact poX (.head _) rfl hR (all_nil) (all_nil) (all_cons ⟨[s6, 3, (s2 + 1), s3], ⟨sE_V rfl, sE_k _ _, sEv (y' := ((1 : Int) + ((1 : Int) * s2 + 0))) rfl (by omega), sE_V rfl, trivial⟩, (show SG (XT hp) (nmR hp (xnm hp)) s6 (3 : Int) (s2 + 1) s3 from s0_by f0.1 (by omega) (by omega) (by omega) (by omega) ud)⟩ (all_nil))
theorem rl409 : ruOk fFS gR409 := by
  intro r hp hO hN hH
  obtain ⟨s0, s1, s2, s3, s4, s5, s6, s7, s8, rfl⟩ := len9 (show r.length = 9 from hN.1)
  have hR := hN.2.1.1
  have hIv : ∀ q ∈ ([(0, .negSucc 2147483647, .ofNat 2147483647), (1, .ofNat 0, .ofNat 0), (2, .ofNat 0, .ofNat 19), (3, .ofNat 0, .ofNat 6560), (4, .ofNat 1, .ofNat 1), (5, .negSucc 2147483647, .ofNat 2147483647), (6, .negSucc 2147483647, .ofNat 2147483647), (7, .ofNat 26, .ofNat 29), (8, .negSucc 2147483647, .ofNat 2147483647)] : sIv), ∃ x, ([s0, s1, s2, s3, s4, s5, s6, s7, s8] : List Int)[q.1]? = some x ∧ q.2.1 ≤ x ∧ x ≤ q.2.2 := hN.2.1.2
  have b1 : (0 : Int) ≤ s1 ∧ s1 ≤ (0 : Int) := ivX (q := (1, .ofNat 0, .ofNat 0)) (y := s1) (hIv _ (.tail _ (.head _))) rfl
  have b2 : (0 : Int) ≤ s2 ∧ s2 ≤ (19 : Int) := ivX (q := (2, .ofNat 0, .ofNat 19)) (y := s2) (hIv _ (.tail _ (.tail _ (.head _)))) rfl
  have b3 : (0 : Int) ≤ s3 ∧ s3 ≤ (6560 : Int) := ivX (q := (3, .ofNat 0, .ofNat 6560)) (y := s3) (hIv _ (.tail _ (.tail _ (.tail _ (.head _))))) rfl
  have b4 : (1 : Int) ≤ s4 ∧ s4 ≤ (1 : Int) := ivX (q := (4, .ofNat 1, .ofNat 1)) (y := s4) (hIv _ (.tail _ (.tail _ (.tail _ (.tail _ (.head _)))))) rfl
  have b7 : (26 : Int) ≤ s7 ∧ s7 ≤ (29 : Int) := ivX (q := (7, .ofNat 26, .ofNat 29)) (y := s7) (hIv _ (.tail _ (.tail _ (.tail _ (.tail _ (.tail _ (.tail _ (.tail _ (.head _))))))))) rfl
  have hRf : ∀ q ∈ ([((40, .ofNat 173, []), (.ofNat 9, []), 1, .ofNat 0, [])] : List sRf), rfOk [s0, s1, s2, s3, s4, s5, s6, s7, s8] hp q := hH.1
  have h0 : hI hp 173 9 = 0 := rfI0 (hRf _ (.head _)) (sE_k _ _) (sE_k _ _) (sE_k _ _)
  have hFc : ∀ q ∈ ([(192, [(.ofNat 0, [(.ofNat 1, 0)]), (.ofNat 0, [(.ofNat 1, 1)]), (.ofNat 0, [(.ofNat 1, 2)]), (.ofNat 0, [(.ofNat 1, 3)]), (.ofNat 0, [(.ofNat 1, 4)]), (.ofNat 0, [(.ofNat 1, 5)]), (.ofNat 0, [(.ofNat 1, 6)]), (.ofNat 0, [(.ofNat 1, 7)])]), (199, [(.ofNat 0, [(.ofNat 1, 3)]), (.ofNat 1, [])]), (200, [(.ofNat 0, [(.ofNat 1, 3)]), (.ofNat 0, [(.ofNat 1, 8)])])] : List sFc), fcOk fFS [s0, s1, s2, s3, s4, s5, s6, s7, s8] hp q := hH.2
  have f0 : SHq (XT hp) (nmR hp (xnm hp)) s0 s1 s2 s3 s4 s5 s6 s7 ∧ s4 ≠ 4 := fcX (ys := [s0, s1, s2, s3, s4, s5, s6, s7]) (hFc _ (.head _)) ⟨sE_V rfl, sE_V rfl, sE_V rfl, sE_V rfl, sE_V rfl, sE_V rfl, sE_V rfl, sE_V rfl, trivial⟩
  have f1 : (1 : Int) = dp s3 + 1 := fcX (ys := [s3, 1]) (hFc _ (.tail _ (.head _))) ⟨sE_V rfl, sE_k _ _, trivial⟩
  have f2 : s8 = nr s3 := fcX (ys := [s3, s8]) (hFc _ (.tail _ (.tail _ (.head _)))) ⟨sE_V rfl, sE_V rfl, trivial⟩
  have ud : dp s3 ≤ 7 := by omega
  have ut := dp_lt (t := s3) (by omega) ud
  exact poX (.head _) rfl hR (all_nil) (all_nil) (all_cons ⟨[s6, 4, (s2 + 1), s3], ⟨sE_V rfl, sE_k _ _, sEv (y' := ((1 : Int) + ((1 : Int) * s2 + 0))) rfl (by omega), sE_V rfl, trivial⟩, (show SG (XT hp) (nmR hp (xnm hp)) s6 (4 : Int) (s2 + 1) s3 from s0_cmp f0.1 (by omega) (by omega) (by omega) (by omega) ud)⟩ (all_nil))
theorem rl410 : ruOk fFS gR410 := by
  intro r hp hO hN hH
  obtain ⟨s0, s1, s2, s3, s4, s5, s6, s7, s8, rfl⟩ := len9 (show r.length = 9 from hN.1)
  have hR := hN.2.1.1
  have hIv : ∀ q ∈ ([(0, .negSucc 2147483647, .ofNat 2147483647), (1, .ofNat 0, .ofNat 0), (2, .ofNat 0, .ofNat 19), (3, .ofNat 0, .ofNat 6560), (4, .ofNat 1, .ofNat 1), (5, .negSucc 2147483647, .ofNat 2147483647), (6, .negSucc 2147483647, .ofNat 2147483647), (7, .ofNat 26, .ofNat 29), (8, .negSucc 2147483647, .ofNat 2147483647)] : sIv), ∃ x, ([s0, s1, s2, s3, s4, s5, s6, s7, s8] : List Int)[q.1]? = some x ∧ q.2.1 ≤ x ∧ x ≤ q.2.2 := hN.2.1.2
  have b1 : (0 : Int) ≤ s1 ∧ s1 ≤ (0 : Int) := ivX (q := (1, .ofNat 0, .ofNat 0)) (y := s1) (hIv _ (.tail _ (.head _))) rfl
  have b2 : (0 : Int) ≤ s2 ∧ s2 ≤ (19 : Int) := ivX (q := (2, .ofNat 0, .ofNat 19)) (y := s2) (hIv _ (.tail _ (.tail _ (.head _)))) rfl
  have b3 : (0 : Int) ≤ s3 ∧ s3 ≤ (6560 : Int) := ivX (q := (3, .ofNat 0, .ofNat 6560)) (y := s3) (hIv _ (.tail _ (.tail _ (.tail _ (.head _))))) rfl
  have b4 : (1 : Int) ≤ s4 ∧ s4 ≤ (1 : Int) := ivX (q := (4, .ofNat 1, .ofNat 1)) (y := s4) (hIv _ (.tail _ (.tail _ (.tail _ (.tail _ (.head _)))))) rfl
  have b7 : (26 : Int) ≤ s7 ∧ s7 ≤ (29 : Int) := ivX (q := (7, .ofNat 26, .ofNat 29)) (y := s7) (hIv _ (.tail _ (.tail _ (.tail _ (.tail _ (.tail _ (.tail _ (.tail _ (.head _))))))))) rfl
  have hRf : ∀ q ∈ ([((40, .ofNat 173, []), (.ofNat 9, []), 1, .ofNat 0, [])] : List sRf), rfOk [s0, s1, s2, s3, s4, s5, s6, s7, s8] hp q := hH.1
  have h0 : hI hp 173 9 = 0 := rfI0 (hRf _ (.head _)) (sE_k _ _) (sE_k _ _) (sE_k _ _)
  have hFc : ∀ q ∈ ([(192, [(.ofNat 0, [(.ofNat 1, 0)]), (.ofNat 0, [(.ofNat 1, 1)]), (.ofNat 0, [(.ofNat 1, 2)]), (.ofNat 0, [(.ofNat 1, 3)]), (.ofNat 0, [(.ofNat 1, 4)]), (.ofNat 0, [(.ofNat 1, 5)]), (.ofNat 0, [(.ofNat 1, 6)]), (.ofNat 0, [(.ofNat 1, 7)])]), (199, [(.ofNat 0, [(.ofNat 1, 3)]), (.ofNat 2, [])]), (200, [(.ofNat 0, [(.ofNat 1, 3)]), (.ofNat 0, [(.ofNat 1, 8)])])] : List sFc), fcOk fFS [s0, s1, s2, s3, s4, s5, s6, s7, s8] hp q := hH.2
  have f0 : SHq (XT hp) (nmR hp (xnm hp)) s0 s1 s2 s3 s4 s5 s6 s7 ∧ s4 ≠ 4 := fcX (ys := [s0, s1, s2, s3, s4, s5, s6, s7]) (hFc _ (.head _)) ⟨sE_V rfl, sE_V rfl, sE_V rfl, sE_V rfl, sE_V rfl, sE_V rfl, sE_V rfl, sE_V rfl, trivial⟩
  have f1 : (2 : Int) = dp s3 + 1 := fcX (ys := [s3, 2]) (hFc _ (.tail _ (.head _))) ⟨sE_V rfl, sE_k _ _, trivial⟩
  have f2 : s8 = nr s3 := fcX (ys := [s3, s8]) (hFc _ (.tail _ (.tail _ (.head _)))) ⟨sE_V rfl, sE_V rfl, trivial⟩
  have ud : dp s3 ≤ 7 := by omega
  have ut := dp_lt (t := s3) (by omega) ud
  exact poX (.head _) rfl hR (all_nil) (all_nil) (all_cons ⟨[s6, 4, (s2 + 1), s3], ⟨sE_V rfl, sE_k _ _, sEv (y' := ((1 : Int) + ((1 : Int) * s2 + 0))) rfl (by omega), sE_V rfl, trivial⟩, (show SG (XT hp) (nmR hp (xnm hp)) s6 (4 : Int) (s2 + 1) s3 from s0_cmp f0.1 (by omega) (by omega) (by omega) (by omega) ud)⟩ (all_nil))
theorem rl411 : ruOk fFS gR411 := by
  intro r hp hO hN hH
  obtain ⟨s0, s1, s2, s3, s4, s5, s6, s7, s8, rfl⟩ := len9 (show r.length = 9 from hN.1)
  have hR := hN.2.1.1
  have hIv : ∀ q ∈ ([(0, .negSucc 2147483647, .ofNat 2147483647), (1, .ofNat 0, .ofNat 0), (2, .ofNat 0, .ofNat 19), (3, .ofNat 0, .ofNat 6560), (4, .ofNat 1, .ofNat 1), (5, .negSucc 2147483647, .ofNat 2147483647), (6, .negSucc 2147483647, .ofNat 2147483647), (7, .ofNat 26, .ofNat 29), (8, .negSucc 2147483647, .ofNat 2147483647)] : sIv), ∃ x, ([s0, s1, s2, s3, s4, s5, s6, s7, s8] : List Int)[q.1]? = some x ∧ q.2.1 ≤ x ∧ x ≤ q.2.2 := hN.2.1.2
  have b1 : (0 : Int) ≤ s1 ∧ s1 ≤ (0 : Int) := ivX (q := (1, .ofNat 0, .ofNat 0)) (y := s1) (hIv _ (.tail _ (.head _))) rfl
  have b2 : (0 : Int) ≤ s2 ∧ s2 ≤ (19 : Int) := ivX (q := (2, .ofNat 0, .ofNat 19)) (y := s2) (hIv _ (.tail _ (.tail _ (.head _)))) rfl
  have b3 : (0 : Int) ≤ s3 ∧ s3 ≤ (6560 : Int) := ivX (q := (3, .ofNat 0, .ofNat 6560)) (y := s3) (hIv _ (.tail _ (.tail _ (.tail _ (.head _))))) rfl
  have b4 : (1 : Int) ≤ s4 ∧ s4 ≤ (1 : Int) := ivX (q := (4, .ofNat 1, .ofNat 1)) (y := s4) (hIv _ (.tail _ (.tail _ (.tail _ (.tail _ (.head _)))))) rfl
  have b7 : (26 : Int) ≤ s7 ∧ s7 ≤ (29 : Int) := ivX (q := (7, .ofNat 26, .ofNat 29)) (y := s7) (hIv _ (.tail _ (.tail _ (.tail _ (.tail _ (.tail _ (.tail _ (.tail _ (.head _))))))))) rfl
  have hRf : ∀ q ∈ ([((40, .ofNat 173, []), (.ofNat 9, []), 1, .ofNat 0, [])] : List sRf), rfOk [s0, s1, s2, s3, s4, s5, s6, s7, s8] hp q := hH.1
  have h0 : hI hp 173 9 = 0 := rfI0 (hRf _ (.head _)) (sE_k _ _) (sE_k _ _) (sE_k _ _)
  have hFc : ∀ q ∈ ([(192, [(.ofNat 0, [(.ofNat 1, 0)]), (.ofNat 0, [(.ofNat 1, 1)]), (.ofNat 0, [(.ofNat 1, 2)]), (.ofNat 0, [(.ofNat 1, 3)]), (.ofNat 0, [(.ofNat 1, 4)]), (.ofNat 0, [(.ofNat 1, 5)]), (.ofNat 0, [(.ofNat 1, 6)]), (.ofNat 0, [(.ofNat 1, 7)])]), (199, [(.ofNat 0, [(.ofNat 1, 3)]), (.ofNat 3, [])]), (200, [(.ofNat 0, [(.ofNat 1, 3)]), (.ofNat 0, [(.ofNat 1, 8)])])] : List sFc), fcOk fFS [s0, s1, s2, s3, s4, s5, s6, s7, s8] hp q := hH.2
  have f0 : SHq (XT hp) (nmR hp (xnm hp)) s0 s1 s2 s3 s4 s5 s6 s7 ∧ s4 ≠ 4 := fcX (ys := [s0, s1, s2, s3, s4, s5, s6, s7]) (hFc _ (.head _)) ⟨sE_V rfl, sE_V rfl, sE_V rfl, sE_V rfl, sE_V rfl, sE_V rfl, sE_V rfl, sE_V rfl, trivial⟩
  have f1 : (3 : Int) = dp s3 + 1 := fcX (ys := [s3, 3]) (hFc _ (.tail _ (.head _))) ⟨sE_V rfl, sE_k _ _, trivial⟩
  have f2 : s8 = nr s3 := fcX (ys := [s3, s8]) (hFc _ (.tail _ (.tail _ (.head _)))) ⟨sE_V rfl, sE_V rfl, trivial⟩
  have ud : dp s3 ≤ 7 := by omega
  have ut := dp_lt (t := s3) (by omega) ud
  exact poX (.head _) rfl hR (all_nil) (all_nil) (all_cons ⟨[s6, 4, (s2 + 1), s3], ⟨sE_V rfl, sE_k _ _, sEv (y' := ((1 : Int) + ((1 : Int) * s2 + 0))) rfl (by omega), sE_V rfl, trivial⟩, (show SG (XT hp) (nmR hp (xnm hp)) s6 (4 : Int) (s2 + 1) s3 from s0_cmp f0.1 (by omega) (by omega) (by omega) (by omega) ud)⟩ (all_nil))
theorem rl412 : ruOk fFS gR412 := by
  intro r hp hO hN hH
  obtain ⟨s0, s1, s2, s3, s4, s5, s6, s7, s8, rfl⟩ := len9 (show r.length = 9 from hN.1)
  have hR := hN.2.1.1
  have hIv : ∀ q ∈ ([(0, .negSucc 2147483647, .ofNat 2147483647), (1, .ofNat 0, .ofNat 0), (2, .ofNat 0, .ofNat 19), (3, .ofNat 0, .ofNat 6560), (4, .ofNat 1, .ofNat 1), (5, .negSucc 2147483647, .ofNat 2147483647), (6, .negSucc 2147483647, .ofNat 2147483647), (7, .ofNat 26, .ofNat 29), (8, .negSucc 2147483647, .ofNat 2147483647)] : sIv), ∃ x, ([s0, s1, s2, s3, s4, s5, s6, s7, s8] : List Int)[q.1]? = some x ∧ q.2.1 ≤ x ∧ x ≤ q.2.2 := hN.2.1.2
  have b1 : (0 : Int) ≤ s1 ∧ s1 ≤ (0 : Int) := ivX (q := (1, .ofNat 0, .ofNat 0)) (y := s1) (hIv _ (.tail _ (.head _))) rfl
  have b2 : (0 : Int) ≤ s2 ∧ s2 ≤ (19 : Int) := ivX (q := (2, .ofNat 0, .ofNat 19)) (y := s2) (hIv _ (.tail _ (.tail _ (.head _)))) rfl
  have b3 : (0 : Int) ≤ s3 ∧ s3 ≤ (6560 : Int) := ivX (q := (3, .ofNat 0, .ofNat 6560)) (y := s3) (hIv _ (.tail _ (.tail _ (.tail _ (.head _))))) rfl
  have b4 : (1 : Int) ≤ s4 ∧ s4 ≤ (1 : Int) := ivX (q := (4, .ofNat 1, .ofNat 1)) (y := s4) (hIv _ (.tail _ (.tail _ (.tail _ (.tail _ (.head _)))))) rfl
  have b7 : (26 : Int) ≤ s7 ∧ s7 ≤ (29 : Int) := ivX (q := (7, .ofNat 26, .ofNat 29)) (y := s7) (hIv _ (.tail _ (.tail _ (.tail _ (.tail _ (.tail _ (.tail _ (.tail _ (.head _))))))))) rfl
  have hRf : ∀ q ∈ ([((40, .ofNat 173, []), (.ofNat 9, []), 1, .ofNat 0, [])] : List sRf), rfOk [s0, s1, s2, s3, s4, s5, s6, s7, s8] hp q := hH.1
  have h0 : hI hp 173 9 = 0 := rfI0 (hRf _ (.head _)) (sE_k _ _) (sE_k _ _) (sE_k _ _)
  have hFc : ∀ q ∈ ([(192, [(.ofNat 0, [(.ofNat 1, 0)]), (.ofNat 0, [(.ofNat 1, 1)]), (.ofNat 0, [(.ofNat 1, 2)]), (.ofNat 0, [(.ofNat 1, 3)]), (.ofNat 0, [(.ofNat 1, 4)]), (.ofNat 0, [(.ofNat 1, 5)]), (.ofNat 0, [(.ofNat 1, 6)]), (.ofNat 0, [(.ofNat 1, 7)])]), (199, [(.ofNat 0, [(.ofNat 1, 3)]), (.ofNat 4, [])]), (200, [(.ofNat 0, [(.ofNat 1, 3)]), (.ofNat 0, [(.ofNat 1, 8)])])] : List sFc), fcOk fFS [s0, s1, s2, s3, s4, s5, s6, s7, s8] hp q := hH.2
  have f0 : SHq (XT hp) (nmR hp (xnm hp)) s0 s1 s2 s3 s4 s5 s6 s7 ∧ s4 ≠ 4 := fcX (ys := [s0, s1, s2, s3, s4, s5, s6, s7]) (hFc _ (.head _)) ⟨sE_V rfl, sE_V rfl, sE_V rfl, sE_V rfl, sE_V rfl, sE_V rfl, sE_V rfl, sE_V rfl, trivial⟩
  have f1 : (4 : Int) = dp s3 + 1 := fcX (ys := [s3, 4]) (hFc _ (.tail _ (.head _))) ⟨sE_V rfl, sE_k _ _, trivial⟩
  have f2 : s8 = nr s3 := fcX (ys := [s3, s8]) (hFc _ (.tail _ (.tail _ (.head _)))) ⟨sE_V rfl, sE_V rfl, trivial⟩
  have ud : dp s3 ≤ 7 := by omega
  have ut := dp_lt (t := s3) (by omega) ud
  exact poX (.head _) rfl hR (all_nil) (all_nil) (all_cons ⟨[s6, 4, (s2 + 1), s3], ⟨sE_V rfl, sE_k _ _, sEv (y' := ((1 : Int) + ((1 : Int) * s2 + 0))) rfl (by omega), sE_V rfl, trivial⟩, (show SG (XT hp) (nmR hp (xnm hp)) s6 (4 : Int) (s2 + 1) s3 from s0_cmp f0.1 (by omega) (by omega) (by omega) (by omega) ud)⟩ (all_nil))
theorem rl413 : ruOk fFS gR413 := by
  intro r hp hO hN hH
  obtain ⟨s0, s1, s2, s3, s4, s5, s6, s7, s8, rfl⟩ := len9 (show r.length = 9 from hN.1)
  have hR := hN.2.1.1
  have hIv : ∀ q ∈ ([(0, .negSucc 2147483647, .ofNat 2147483647), (1, .ofNat 0, .ofNat 0), (2, .ofNat 0, .ofNat 19), (3, .ofNat 0, .ofNat 6560), (4, .ofNat 1, .ofNat 1), (5, .negSucc 2147483647, .ofNat 2147483647), (6, .negSucc 2147483647, .ofNat 2147483647), (7, .ofNat 26, .ofNat 29), (8, .negSucc 2147483647, .ofNat 2147483647)] : sIv), ∃ x, ([s0, s1, s2, s3, s4, s5, s6, s7, s8] : List Int)[q.1]? = some x ∧ q.2.1 ≤ x ∧ x ≤ q.2.2 := hN.2.1.2
  have b1 : (0 : Int) ≤ s1 ∧ s1 ≤ (0 : Int) := ivX (q := (1, .ofNat 0, .ofNat 0)) (y := s1) (hIv _ (.tail _ (.head _))) rfl
  have b2 : (0 : Int) ≤ s2 ∧ s2 ≤ (19 : Int) := ivX (q := (2, .ofNat 0, .ofNat 19)) (y := s2) (hIv _ (.tail _ (.tail _ (.head _)))) rfl
  have b3 : (0 : Int) ≤ s3 ∧ s3 ≤ (6560 : Int) := ivX (q := (3, .ofNat 0, .ofNat 6560)) (y := s3) (hIv _ (.tail _ (.tail _ (.tail _ (.head _))))) rfl
  have b4 : (1 : Int) ≤ s4 ∧ s4 ≤ (1 : Int) := ivX (q := (4, .ofNat 1, .ofNat 1)) (y := s4) (hIv _ (.tail _ (.tail _ (.tail _ (.tail _ (.head _)))))) rfl
  have b7 : (26 : Int) ≤ s7 ∧ s7 ≤ (29 : Int) := ivX (q := (7, .ofNat 26, .ofNat 29)) (y := s7) (hIv _ (.tail _ (.tail _ (.tail _ (.tail _ (.tail _ (.tail _ (.tail _ (.head _))))))))) rfl
  have hRf : ∀ q ∈ ([((40, .ofNat 173, []), (.ofNat 9, []), 1, .ofNat 0, [])] : List sRf), rfOk [s0, s1, s2, s3, s4, s5, s6, s7, s8] hp q := hH.1
  have h0 : hI hp 173 9 = 0 := rfI0 (hRf _ (.head _)) (sE_k _ _) (sE_k _ _) (sE_k _ _)
  have hFc : ∀ q ∈ ([(192, [(.ofNat 0, [(.ofNat 1, 0)]), (.ofNat 0, [(.ofNat 1, 1)]), (.ofNat 0, [(.ofNat 1, 2)]), (.ofNat 0, [(.ofNat 1, 3)]), (.ofNat 0, [(.ofNat 1, 4)]), (.ofNat 0, [(.ofNat 1, 5)]), (.ofNat 0, [(.ofNat 1, 6)]), (.ofNat 0, [(.ofNat 1, 7)])]), (199, [(.ofNat 0, [(.ofNat 1, 3)]), (.ofNat 5, [])]), (200, [(.ofNat 0, [(.ofNat 1, 3)]), (.ofNat 0, [(.ofNat 1, 8)])])] : List sFc), fcOk fFS [s0, s1, s2, s3, s4, s5, s6, s7, s8] hp q := hH.2
  have f0 : SHq (XT hp) (nmR hp (xnm hp)) s0 s1 s2 s3 s4 s5 s6 s7 ∧ s4 ≠ 4 := fcX (ys := [s0, s1, s2, s3, s4, s5, s6, s7]) (hFc _ (.head _)) ⟨sE_V rfl, sE_V rfl, sE_V rfl, sE_V rfl, sE_V rfl, sE_V rfl, sE_V rfl, sE_V rfl, trivial⟩
  have f1 : (5 : Int) = dp s3 + 1 := fcX (ys := [s3, 5]) (hFc _ (.tail _ (.head _))) ⟨sE_V rfl, sE_k _ _, trivial⟩
  have f2 : s8 = nr s3 := fcX (ys := [s3, s8]) (hFc _ (.tail _ (.tail _ (.head _)))) ⟨sE_V rfl, sE_V rfl, trivial⟩
  have ud : dp s3 ≤ 7 := by omega
  have ut := dp_lt (t := s3) (by omega) ud
  exact poX (.head _) rfl hR (all_nil) (all_nil) (all_cons ⟨[s6, 4, (s2 + 1), s3], ⟨sE_V rfl, sE_k _ _, sEv (y' := ((1 : Int) + ((1 : Int) * s2 + 0))) rfl (by omega), sE_V rfl, trivial⟩, (show SG (XT hp) (nmR hp (xnm hp)) s6 (4 : Int) (s2 + 1) s3 from s0_cmp f0.1 (by omega) (by omega) (by omega) (by omega) ud)⟩ (all_nil))
theorem rl414 : ruOk fFS gR414 := by
  intro r hp hO hN hH
  obtain ⟨s0, s1, s2, s3, s4, s5, s6, s7, s8, rfl⟩ := len9 (show r.length = 9 from hN.1)
  have hR := hN.2.1.1
  have hIv : ∀ q ∈ ([(0, .negSucc 2147483647, .ofNat 2147483647), (1, .ofNat 0, .ofNat 0), (2, .ofNat 0, .ofNat 19), (3, .ofNat 0, .ofNat 6560), (4, .ofNat 1, .ofNat 1), (5, .negSucc 2147483647, .ofNat 2147483647), (6, .negSucc 2147483647, .ofNat 2147483647), (7, .ofNat 26, .ofNat 29), (8, .negSucc 2147483647, .ofNat 2147483647)] : sIv), ∃ x, ([s0, s1, s2, s3, s4, s5, s6, s7, s8] : List Int)[q.1]? = some x ∧ q.2.1 ≤ x ∧ x ≤ q.2.2 := hN.2.1.2
  have b1 : (0 : Int) ≤ s1 ∧ s1 ≤ (0 : Int) := ivX (q := (1, .ofNat 0, .ofNat 0)) (y := s1) (hIv _ (.tail _ (.head _))) rfl
  have b2 : (0 : Int) ≤ s2 ∧ s2 ≤ (19 : Int) := ivX (q := (2, .ofNat 0, .ofNat 19)) (y := s2) (hIv _ (.tail _ (.tail _ (.head _)))) rfl
  have b3 : (0 : Int) ≤ s3 ∧ s3 ≤ (6560 : Int) := ivX (q := (3, .ofNat 0, .ofNat 6560)) (y := s3) (hIv _ (.tail _ (.tail _ (.tail _ (.head _))))) rfl
  have b4 : (1 : Int) ≤ s4 ∧ s4 ≤ (1 : Int) := ivX (q := (4, .ofNat 1, .ofNat 1)) (y := s4) (hIv _ (.tail _ (.tail _ (.tail _ (.tail _ (.head _)))))) rfl
  have b7 : (26 : Int) ≤ s7 ∧ s7 ≤ (29 : Int) := ivX (q := (7, .ofNat 26, .ofNat 29)) (y := s7) (hIv _ (.tail _ (.tail _ (.tail _ (.tail _ (.tail _ (.tail _ (.tail _ (.head _))))))))) rfl
  have hRf : ∀ q ∈ ([((40, .ofNat 173, []), (.ofNat 9, []), 1, .ofNat 0, [])] : List sRf), rfOk [s0, s1, s2, s3, s4, s5, s6, s7, s8] hp q := hH.1
  have h0 : hI hp 173 9 = 0 := rfI0 (hRf _ (.head _)) (sE_k _ _) (sE_k _ _) (sE_k _ _)
  have hFc : ∀ q ∈ ([(192, [(.ofNat 0, [(.ofNat 1, 0)]), (.ofNat 0, [(.ofNat 1, 1)]), (.ofNat 0, [(.ofNat 1, 2)]), (.ofNat 0, [(.ofNat 1, 3)]), (.ofNat 0, [(.ofNat 1, 4)]), (.ofNat 0, [(.ofNat 1, 5)]), (.ofNat 0, [(.ofNat 1, 6)]), (.ofNat 0, [(.ofNat 1, 7)])]), (199, [(.ofNat 0, [(.ofNat 1, 3)]), (.ofNat 6, [])]), (200, [(.ofNat 0, [(.ofNat 1, 3)]), (.ofNat 0, [(.ofNat 1, 8)])])] : List sFc), fcOk fFS [s0, s1, s2, s3, s4, s5, s6, s7, s8] hp q := hH.2
  have f0 : SHq (XT hp) (nmR hp (xnm hp)) s0 s1 s2 s3 s4 s5 s6 s7 ∧ s4 ≠ 4 := fcX (ys := [s0, s1, s2, s3, s4, s5, s6, s7]) (hFc _ (.head _)) ⟨sE_V rfl, sE_V rfl, sE_V rfl, sE_V rfl, sE_V rfl, sE_V rfl, sE_V rfl, sE_V rfl, trivial⟩
  have f1 : (6 : Int) = dp s3 + 1 := fcX (ys := [s3, 6]) (hFc _ (.tail _ (.head _))) ⟨sE_V rfl, sE_k _ _, trivial⟩
  have f2 : s8 = nr s3 := fcX (ys := [s3, s8]) (hFc _ (.tail _ (.tail _ (.head _)))) ⟨sE_V rfl, sE_V rfl, trivial⟩
  have ud : dp s3 ≤ 7 := by omega
  have ut := dp_lt (t := s3) (by omega) ud
  exact poX (.head _) rfl hR (all_nil) (all_nil) (all_cons ⟨[s6, 4, (s2 + 1), s3], ⟨sE_V rfl, sE_k _ _, sEv (y' := ((1 : Int) + ((1 : Int) * s2 + 0))) rfl (by omega), sE_V rfl, trivial⟩, (show SG (XT hp) (nmR hp (xnm hp)) s6 (4 : Int) (s2 + 1) s3 from s0_cmp f0.1 (by omega) (by omega) (by omega) (by omega) ud)⟩ (all_nil))
theorem rl415 : ruOk fFS gR415 := by
  intro r hp hO hN hH
  obtain ⟨s0, s1, s2, s3, s4, s5, s6, s7, s8, rfl⟩ := len9 (show r.length = 9 from hN.1)
  have hR := hN.2.1.1
  have hIv : ∀ q ∈ ([(0, .negSucc 2147483647, .ofNat 2147483647), (1, .ofNat 0, .ofNat 0), (2, .ofNat 0, .ofNat 19), (3, .ofNat 0, .ofNat 6560), (4, .ofNat 1, .ofNat 1), (5, .negSucc 2147483647, .ofNat 2147483647), (6, .negSucc 2147483647, .ofNat 2147483647), (7, .ofNat 26, .ofNat 29), (8, .negSucc 2147483647, .ofNat 2147483647)] : sIv), ∃ x, ([s0, s1, s2, s3, s4, s5, s6, s7, s8] : List Int)[q.1]? = some x ∧ q.2.1 ≤ x ∧ x ≤ q.2.2 := hN.2.1.2
  have b1 : (0 : Int) ≤ s1 ∧ s1 ≤ (0 : Int) := ivX (q := (1, .ofNat 0, .ofNat 0)) (y := s1) (hIv _ (.tail _ (.head _))) rfl
  have b2 : (0 : Int) ≤ s2 ∧ s2 ≤ (19 : Int) := ivX (q := (2, .ofNat 0, .ofNat 19)) (y := s2) (hIv _ (.tail _ (.tail _ (.head _)))) rfl
  have b3 : (0 : Int) ≤ s3 ∧ s3 ≤ (6560 : Int) := ivX (q := (3, .ofNat 0, .ofNat 6560)) (y := s3) (hIv _ (.tail _ (.tail _ (.tail _ (.head _))))) rfl
  have b4 : (1 : Int) ≤ s4 ∧ s4 ≤ (1 : Int) := ivX (q := (4, .ofNat 1, .ofNat 1)) (y := s4) (hIv _ (.tail _ (.tail _ (.tail _ (.tail _ (.head _)))))) rfl
  have b7 : (26 : Int) ≤ s7 ∧ s7 ≤ (29 : Int) := ivX (q := (7, .ofNat 26, .ofNat 29)) (y := s7) (hIv _ (.tail _ (.tail _ (.tail _ (.tail _ (.tail _ (.tail _ (.tail _ (.head _))))))))) rfl
  have hRf : ∀ q ∈ ([((40, .ofNat 173, []), (.ofNat 9, []), 1, .ofNat 0, [])] : List sRf), rfOk [s0, s1, s2, s3, s4, s5, s6, s7, s8] hp q := hH.1
  have h0 : hI hp 173 9 = 0 := rfI0 (hRf _ (.head _)) (sE_k _ _) (sE_k _ _) (sE_k _ _)
  have hFc : ∀ q ∈ ([(192, [(.ofNat 0, [(.ofNat 1, 0)]), (.ofNat 0, [(.ofNat 1, 1)]), (.ofNat 0, [(.ofNat 1, 2)]), (.ofNat 0, [(.ofNat 1, 3)]), (.ofNat 0, [(.ofNat 1, 4)]), (.ofNat 0, [(.ofNat 1, 5)]), (.ofNat 0, [(.ofNat 1, 6)]), (.ofNat 0, [(.ofNat 1, 7)])]), (199, [(.ofNat 0, [(.ofNat 1, 3)]), (.ofNat 7, [])]), (200, [(.ofNat 0, [(.ofNat 1, 3)]), (.ofNat 0, [(.ofNat 1, 8)])])] : List sFc), fcOk fFS [s0, s1, s2, s3, s4, s5, s6, s7, s8] hp q := hH.2
  have f0 : SHq (XT hp) (nmR hp (xnm hp)) s0 s1 s2 s3 s4 s5 s6 s7 ∧ s4 ≠ 4 := fcX (ys := [s0, s1, s2, s3, s4, s5, s6, s7]) (hFc _ (.head _)) ⟨sE_V rfl, sE_V rfl, sE_V rfl, sE_V rfl, sE_V rfl, sE_V rfl, sE_V rfl, sE_V rfl, trivial⟩
  have f1 : (7 : Int) = dp s3 + 1 := fcX (ys := [s3, 7]) (hFc _ (.tail _ (.head _))) ⟨sE_V rfl, sE_k _ _, trivial⟩
  have f2 : s8 = nr s3 := fcX (ys := [s3, s8]) (hFc _ (.tail _ (.tail _ (.head _)))) ⟨sE_V rfl, sE_V rfl, trivial⟩
  have ud : dp s3 ≤ 7 := by omega
  have ut := dp_lt (t := s3) (by omega) ud
  exact poX (.head _) rfl hR (all_nil) (all_nil) (all_cons ⟨[s6, 4, (s2 + 1), s3], ⟨sE_V rfl, sE_k _ _, sEv (y' := ((1 : Int) + ((1 : Int) * s2 + 0))) rfl (by omega), sE_V rfl, trivial⟩, (show SG (XT hp) (nmR hp (xnm hp)) s6 (4 : Int) (s2 + 1) s3 from s0_cmp f0.1 (by omega) (by omega) (by omega) (by omega) ud)⟩ (all_nil))
theorem rl416 : ruOk fFS gR416 := by
  intro r hp hO hN hH
  obtain ⟨s0, s1, s2, s3, s4, s5, s6, s7, s8, rfl⟩ := len9 (show r.length = 9 from hN.1)
  have hR := hN.2.1.1
  have hIv : ∀ q ∈ ([(0, .negSucc 2147483647, .ofNat 2147483647), (1, .ofNat 0, .ofNat 0), (2, .ofNat 0, .ofNat 19), (3, .ofNat 0, .ofNat 6560), (4, .ofNat 1, .ofNat 1), (5, .negSucc 2147483647, .ofNat 2147483647), (6, .negSucc 2147483647, .ofNat 2147483647), (7, .ofNat 26, .ofNat 29), (8, .negSucc 2147483647, .ofNat 2147483647)] : sIv), ∃ x, ([s0, s1, s2, s3, s4, s5, s6, s7, s8] : List Int)[q.1]? = some x ∧ q.2.1 ≤ x ∧ x ≤ q.2.2 := hN.2.1.2
  have b1 : (0 : Int) ≤ s1 ∧ s1 ≤ (0 : Int) := ivX (q := (1, .ofNat 0, .ofNat 0)) (y := s1) (hIv _ (.tail _ (.head _))) rfl
  have b2 : (0 : Int) ≤ s2 ∧ s2 ≤ (19 : Int) := ivX (q := (2, .ofNat 0, .ofNat 19)) (y := s2) (hIv _ (.tail _ (.tail _ (.head _)))) rfl
  have b3 : (0 : Int) ≤ s3 ∧ s3 ≤ (6560 : Int) := ivX (q := (3, .ofNat 0, .ofNat 6560)) (y := s3) (hIv _ (.tail _ (.tail _ (.tail _ (.head _))))) rfl
  have b4 : (1 : Int) ≤ s4 ∧ s4 ≤ (1 : Int) := ivX (q := (4, .ofNat 1, .ofNat 1)) (y := s4) (hIv _ (.tail _ (.tail _ (.tail _ (.tail _ (.head _)))))) rfl
  have b7 : (26 : Int) ≤ s7 ∧ s7 ≤ (29 : Int) := ivX (q := (7, .ofNat 26, .ofNat 29)) (y := s7) (hIv _ (.tail _ (.tail _ (.tail _ (.tail _ (.tail _ (.tail _ (.tail _ (.head _))))))))) rfl
  have hRf : ∀ q ∈ ([((40, .ofNat 173, []), (.ofNat 9, []), 1, .ofNat 0, [])] : List sRf), rfOk [s0, s1, s2, s3, s4, s5, s6, s7, s8] hp q := hH.1
  have h0 : hI hp 173 9 = 0 := rfI0 (hRf _ (.head _)) (sE_k _ _) (sE_k _ _) (sE_k _ _)
  have hFc : ∀ q ∈ ([(192, [(.ofNat 0, [(.ofNat 1, 0)]), (.ofNat 0, [(.ofNat 1, 1)]), (.ofNat 0, [(.ofNat 1, 2)]), (.ofNat 0, [(.ofNat 1, 3)]), (.ofNat 0, [(.ofNat 1, 4)]), (.ofNat 0, [(.ofNat 1, 5)]), (.ofNat 0, [(.ofNat 1, 6)]), (.ofNat 0, [(.ofNat 1, 7)])]), (199, [(.ofNat 0, [(.ofNat 1, 3)]), (.ofNat 8, [])]), (200, [(.ofNat 0, [(.ofNat 1, 3)]), (.ofNat 0, [(.ofNat 1, 8)])])] : List sFc), fcOk fFS [s0, s1, s2, s3, s4, s5, s6, s7, s8] hp q := hH.2
  have f0 : SHq (XT hp) (nmR hp (xnm hp)) s0 s1 s2 s3 s4 s5 s6 s7 ∧ s4 ≠ 4 := fcX (ys := [s0, s1, s2, s3, s4, s5, s6, s7]) (hFc _ (.head _)) ⟨sE_V rfl, sE_V rfl, sE_V rfl, sE_V rfl, sE_V rfl, sE_V rfl, sE_V rfl, sE_V rfl, trivial⟩
  have f1 : (8 : Int) = dp s3 + 1 := fcX (ys := [s3, 8]) (hFc _ (.tail _ (.head _))) ⟨sE_V rfl, sE_k _ _, trivial⟩
  have f2 : s8 = nr s3 := fcX (ys := [s3, s8]) (hFc _ (.tail _ (.tail _ (.head _)))) ⟨sE_V rfl, sE_V rfl, trivial⟩
  have ud : dp s3 ≤ 7 := by omega
  have ut := dp_lt (t := s3) (by omega) ud
  exact poX (.head _) rfl hR (all_nil) (all_nil) (all_cons ⟨[s6, 4, (s2 + 1), s3], ⟨sE_V rfl, sE_k _ _, sEv (y' := ((1 : Int) + ((1 : Int) * s2 + 0))) rfl (by omega), sE_V rfl, trivial⟩, (show SG (XT hp) (nmR hp (xnm hp)) s6 (4 : Int) (s2 + 1) s3 from s0_cmp f0.1 (by omega) (by omega) (by omega) (by omega) ud)⟩ (all_nil))
theorem rl417 : ruOk fFS gR417 := by
  intro r hp hO hN hH
  obtain ⟨s0, rfl⟩ := len1 (show r.length = 1 from hN.1)
  have hR := hN.2.1.1
  have hIv : ∀ q ∈ ([(0, .negSucc 2147483647, .ofNat 2147483647)] : sIv), ∃ x, ([s0] : List Int)[q.1]? = some x ∧ q.2.1 ≤ x ∧ x ≤ q.2.2 := hN.2.1.2
  have b0 : (-2147483648 : Int) ≤ s0 ∧ s0 ≤ (2147483647 : Int) := ivX (q := (0, .negSucc 2147483647, .ofNat 2147483647)) (y := s0) (hIv _ (.head _)) rfl
  have y : (((-2147483648 : Int) ≤ s0 ∧ s0 ≤ (22 : Int))) ∨ (((23 : Int) ≤ s0 ∧ s0 ≤ (23 : Int))) ∨ (((24 : Int) ≤ s0 ∧ s0 ≤ (24 : Int))) ∨ (((25 : Int) ≤ s0 ∧ s0 ≤ (25 : Int))) ∨ (((26 : Int) ≤ s0 ∧ s0 ≤ (2147483647 : Int))) := by omega
  rcases y with y | y | y | y | y
  · exact poX (.head _) rfl hR (all_cons (ivO (y := s0) rfl (show (-2147483648 : Int) ≤ s0 by omega) (show s0 ≤ (22 : Int) by omega)) (all_nil)) (all_nil) (all_nil)
  · exact poX (.tail _ (.head _)) rfl hR (all_cons (ivO (y := s0) rfl (show (23 : Int) ≤ s0 by omega) (show s0 ≤ (23 : Int) by omega)) (all_nil)) (all_nil) (all_nil)
  · exact poX (.tail _ (.tail _ (.head _))) rfl hR (all_cons (ivO (y := s0) rfl (show (24 : Int) ≤ s0 by omega) (show s0 ≤ (24 : Int) by omega)) (all_nil)) (all_nil) (all_nil)
  · exact poX (.tail _ (.tail _ (.tail _ (.head _)))) rfl hR (all_cons (ivO (y := s0) rfl (show (25 : Int) ≤ s0 by omega) (show s0 ≤ (25 : Int) by omega)) (all_nil)) (all_nil) (all_nil)
  · exact poX (.tail _ (.tail _ (.tail _ (.tail _ (.head _))))) rfl hR (all_cons (ivO (y := s0) rfl (show (26 : Int) ≤ s0 by omega) (show s0 ≤ (2147483647 : Int) by omega)) (all_nil)) (all_nil) (all_nil)
theorem rl418 : ruOk fFS gR418 := by
  intro r hp hO hN hH
  obtain ⟨s0, s1, s2, s3, s4, s5, s6, s7, rfl⟩ := len8 (show r.length = 8 from hN.1)
  have hR := hN.2.1.1
  have hIv : ∀ q ∈ ([(0, .negSucc 2147483647, .ofNat 2147483647), (1, .ofNat 4, .ofNat 4), (2, .negSucc 2147483647, .ofNat 2147483647), (3, .negSucc 2147483647, .ofNat 2147483647), (4, .ofNat 0, .ofNat 2), (5, .negSucc 2147483647, .ofNat 2147483647), (6, .negSucc 2147483647, .ofNat 2147483647), (7, .negSucc 2147483647, .ofNat 2147483647)] : sIv), ∃ x, ([s0, s1, s2, s3, s4, s5, s6, s7] : List Int)[q.1]? = some x ∧ q.2.1 ≤ x ∧ x ≤ q.2.2 := hN.2.1.2
  have b1 : (4 : Int) ≤ s1 ∧ s1 ≤ (4 : Int) := ivX (q := (1, .ofNat 4, .ofNat 4)) (y := s1) (hIv _ (.tail _ (.head _))) rfl
  have b4 : (0 : Int) ≤ s4 ∧ s4 ≤ (2 : Int) := ivX (q := (4, .ofNat 0, .ofNat 2)) (y := s4) (hIv _ (.tail _ (.tail _ (.tail _ (.tail _ (.head _)))))) rfl
  have hRf : ∀ q ∈ ([((40, .ofNat 173, []), (.ofNat 9, []), 1, .ofNat 0, [])] : List sRf), rfOk [s0, s1, s2, s3, s4, s5, s6, s7] hp q := hH.1
  have h0 : hI hp 173 9 = 0 := rfI0 (hRf _ (.head _)) (sE_k _ _) (sE_k _ _) (sE_k _ _)
  have hFc : ∀ q ∈ ([(192, [(.ofNat 0, [(.ofNat 1, 0)]), (.ofNat 0, [(.ofNat 1, 1)]), (.ofNat 0, [(.ofNat 1, 2)]), (.ofNat 0, [(.ofNat 1, 3)]), (.ofNat 0, [(.ofNat 1, 4)]), (.ofNat 0, [(.ofNat 1, 5)]), (.ofNat 0, [(.ofNat 1, 6)]), (.ofNat 0, [(.ofNat 1, 7)])])] : List sFc), fcOk fFS [s0, s1, s2, s3, s4, s5, s6, s7] hp q := hH.2
  have f0 : SHq (XT hp) (nmR hp (xnm hp)) s0 s1 s2 s3 s4 s5 s6 s7 ∧ s4 ≠ 4 := fcX (ys := [s0, s1, s2, s3, s4, s5, s6, s7]) (hFc _ (.head _)) ⟨sE_V rfl, sE_V rfl, sE_V rfl, sE_V rfl, sE_V rfl, sE_V rfl, sE_V rfl, sE_V rfl, trivial⟩
  exact poX (.head _) rfl hR (all_nil) (all_nil) (all_cons ⟨[1, s5], ⟨sE_k _ _, sE_V rfl, trivial⟩, (show SRS (XT hp) (nmR hp (xnm hp)) (1 : Int) s5 from s4_f1 f0.1 (by omega) (by omega))⟩ (all_nil))
theorem rl419 : ruOk fFS gR419 := by
  intro r hp hO hN hH
  obtain ⟨s0, s1, s2, s3, s4, s5, s6, s7, rfl⟩ := len8 (show r.length = 8 from hN.1)
  have hR := hN.2.1.1
  have hIv : ∀ q ∈ ([(0, .negSucc 2147483647, .ofNat 2147483647), (1, .ofNat 4, .ofNat 4), (2, .negSucc 2147483647, .ofNat 2147483647), (3, .negSucc 2147483647, .ofNat 2147483647), (4, .ofNat 3, .ofNat 3), (5, .negSucc 2147483647, .ofNat 2147483647), (6, .negSucc 2147483647, .ofNat 2147483647), (7, .ofNat 60, .ofNat 62)] : sIv), ∃ x, ([s0, s1, s2, s3, s4, s5, s6, s7] : List Int)[q.1]? = some x ∧ q.2.1 ≤ x ∧ x ≤ q.2.2 := hN.2.1.2
  have b1 : (4 : Int) ≤ s1 ∧ s1 ≤ (4 : Int) := ivX (q := (1, .ofNat 4, .ofNat 4)) (y := s1) (hIv _ (.tail _ (.head _))) rfl
  have b4 : (3 : Int) ≤ s4 ∧ s4 ≤ (3 : Int) := ivX (q := (4, .ofNat 3, .ofNat 3)) (y := s4) (hIv _ (.tail _ (.tail _ (.tail _ (.tail _ (.head _)))))) rfl
  have b7 : (60 : Int) ≤ s7 ∧ s7 ≤ (62 : Int) := ivX (q := (7, .ofNat 60, .ofNat 62)) (y := s7) (hIv _ (.tail _ (.tail _ (.tail _ (.tail _ (.tail _ (.tail _ (.tail _ (.head _))))))))) rfl
  have hRf : ∀ q ∈ ([((40, .ofNat 173, []), (.ofNat 9, []), 1, .ofNat 0, [])] : List sRf), rfOk [s0, s1, s2, s3, s4, s5, s6, s7] hp q := hH.1
  have h0 : hI hp 173 9 = 0 := rfI0 (hRf _ (.head _)) (sE_k _ _) (sE_k _ _) (sE_k _ _)
  have hFc : ∀ q ∈ ([(192, [(.ofNat 0, [(.ofNat 1, 0)]), (.ofNat 0, [(.ofNat 1, 1)]), (.ofNat 0, [(.ofNat 1, 2)]), (.ofNat 0, [(.ofNat 1, 3)]), (.ofNat 0, [(.ofNat 1, 4)]), (.ofNat 0, [(.ofNat 1, 5)]), (.ofNat 0, [(.ofNat 1, 6)]), (.ofNat 0, [(.ofNat 1, 7)])])] : List sFc), fcOk fFS [s0, s1, s2, s3, s4, s5, s6, s7] hp q := hH.2
  have f0 : SHq (XT hp) (nmR hp (xnm hp)) s0 s1 s2 s3 s4 s5 s6 s7 ∧ s4 ≠ 4 := fcX (ys := [s0, s1, s2, s3, s4, s5, s6, s7]) (hFc _ (.head _)) ⟨sE_V rfl, sE_V rfl, sE_V rfl, sE_V rfl, sE_V rfl, sE_V rfl, sE_V rfl, sE_V rfl, trivial⟩
  exact poX (.head _) rfl hR (all_nil) (all_nil) (all_cons ⟨[s6, 5, s2, s3], ⟨sE_V rfl, sE_k _ _, sE_V rfl, sE_V rfl, trivial⟩, (show SG (XT hp) (nmR hp (xnm hp)) s6 (5 : Int) s2 s3 from s4_go f0.1 (by omega) ⟨by omega, by omega, by omega⟩)⟩ (all_cons ⟨[0, 99], ⟨sE_k _ _, sE_k _ _, trivial⟩, (show (0 : Int) ≤ 0 ∧ 99 ≤ (99 : Int) from ⟨by omega, by omega⟩)⟩ (all_nil)))
theorem rl420 : ruOk fFS gR420 := by
  intro r hp hO hN hH
  obtain ⟨s0, s1, s2, s3, s4, s5, s6, s7, s8, rfl⟩ := len9 (show r.length = 9 from hN.1)
  have hR := hN.2.1.1
  have hIv : ∀ q ∈ ([(0, .negSucc 2147483647, .ofNat 2147483647), (1, .ofNat 5, .ofNat 5), (2, .negSucc 2147483647, .ofNat 2147483647), (3, .negSucc 2147483647, .ofNat 2147483647), (4, .ofNat 2, .ofNat 2), (5, .negSucc 2147483647, .ofNat 2147483647), (6, .negSucc 2147483647, .ofNat 2147483647), (7, .negSucc 2147483647, .ofNat 2147483647), (8, .negSucc 2147483647, .ofNat 2147483647)] : sIv), ∃ x, ([s0, s1, s2, s3, s4, s5, s6, s7, s8] : List Int)[q.1]? = some x ∧ q.2.1 ≤ x ∧ x ≤ q.2.2 := hN.2.1.2
  have b1 : (5 : Int) ≤ s1 ∧ s1 ≤ (5 : Int) := ivX (q := (1, .ofNat 5, .ofNat 5)) (y := s1) (hIv _ (.tail _ (.head _))) rfl
  have b4 : (2 : Int) ≤ s4 ∧ s4 ≤ (2 : Int) := ivX (q := (4, .ofNat 2, .ofNat 2)) (y := s4) (hIv _ (.tail _ (.tail _ (.tail _ (.tail _ (.head _)))))) rfl
  have hRf : ∀ q ∈ ([((40, .ofNat 173, []), (.ofNat 9, []), 1, .ofNat 0, [])] : List sRf), rfOk [s0, s1, s2, s3, s4, s5, s6, s7, s8] hp q := hH.1
  have h0 : hI hp 173 9 = 0 := rfI0 (hRf _ (.head _)) (sE_k _ _) (sE_k _ _) (sE_k _ _)
  have hFc : ∀ q ∈ ([(192, [(.ofNat 0, [(.ofNat 1, 0)]), (.ofNat 0, [(.ofNat 1, 1)]), (.ofNat 0, [(.ofNat 1, 2)]), (.ofNat 0, [(.ofNat 1, 3)]), (.ofNat 0, [(.ofNat 1, 4)]), (.ofNat 0, [(.ofNat 1, 5)]), (.ofNat 0, [(.ofNat 1, 6)]), (.ofNat 0, [(.ofNat 1, 7)])]), (200, [(.ofNat 0, [(.ofNat 1, 3)]), (.ofNat 0, [(.ofNat 1, 8)])])] : List sFc), fcOk fFS [s0, s1, s2, s3, s4, s5, s6, s7, s8] hp q := hH.2
  have f0 : SHq (XT hp) (nmR hp (xnm hp)) s0 s1 s2 s3 s4 s5 s6 s7 ∧ s4 ≠ 4 := fcX (ys := [s0, s1, s2, s3, s4, s5, s6, s7]) (hFc _ (.head _)) ⟨sE_V rfl, sE_V rfl, sE_V rfl, sE_V rfl, sE_V rfl, sE_V rfl, sE_V rfl, sE_V rfl, trivial⟩
  have f1 : s8 = nr s3 := fcX (ys := [s3, s8]) (hFc _ (.tail _ (.head _))) ⟨sE_V rfl, sE_V rfl, trivial⟩
  exact poX (.head _) rfl hR (all_nil) (all_nil) (all_cons ⟨[s6, 6, s2, s8], ⟨sE_V rfl, sE_k _ _, sE_V rfl, sE_V rfl, trivial⟩, (show SG (XT hp) (nmR hp (xnm hp)) s6 (6 : Int) s2 s8 from sg_u f1 (s5_go f0.1 (by omega) (by omega)))⟩ (all_nil))
theorem rl421 : ruOk fFS gR421 := by
  intro r hp hO hN hH
  obtain ⟨s0, s1, s2, s3, s4, s5, s6, s7, s8, s9, rfl⟩ := len10 (show r.length = 10 from hN.1)
  have hR := hN.2.1.1
  have hIv : ∀ q ∈ ([(0, .negSucc 2147483647, .ofNat 2147483647), (1, .ofNat 1, .ofNat 1), (2, .negSucc 2147483647, .ofNat 2147483647), (3, .negSucc 2147483647, .ofNat 2147483647), (4, .ofNat 1, .ofNat 1), (5, .negSucc 2147483647, .ofNat 2147483647), (6, .negSucc 2147483647, .ofNat 2147483647), (7, .negSucc 0, .negSucc 0), (8, .negSucc 2147483647, .ofNat 2147483647), (9, .ofNat 7, .ofNat 11)] : sIv), ∃ x, ([s0, s1, s2, s3, s4, s5, s6, s7, s8, s9] : List Int)[q.1]? = some x ∧ q.2.1 ≤ x ∧ x ≤ q.2.2 := hN.2.1.2
  have b1 : (1 : Int) ≤ s1 ∧ s1 ≤ (1 : Int) := ivX (q := (1, .ofNat 1, .ofNat 1)) (y := s1) (hIv _ (.tail _ (.head _))) rfl
  have b4 : (1 : Int) ≤ s4 ∧ s4 ≤ (1 : Int) := ivX (q := (4, .ofNat 1, .ofNat 1)) (y := s4) (hIv _ (.tail _ (.tail _ (.tail _ (.tail _ (.head _)))))) rfl
  have b7 : (-1 : Int) ≤ s7 ∧ s7 ≤ (-1 : Int) := ivX (q := (7, .negSucc 0, .negSucc 0)) (y := s7) (hIv _ (.tail _ (.tail _ (.tail _ (.tail _ (.tail _ (.tail _ (.tail _ (.head _))))))))) rfl
  have b9 : (7 : Int) ≤ s9 ∧ s9 ≤ (11 : Int) := ivX (q := (9, .ofNat 7, .ofNat 11)) (y := s9) (hIv _ (.tail _ (.tail _ (.tail _ (.tail _ (.tail _ (.tail _ (.tail _ (.tail _ (.tail _ (.head _))))))))))) rfl
  have hRf : ∀ q ∈ ([((40, .ofNat 173, []), (.ofNat 9, []), 1, .ofNat 0, [])] : List sRf), rfOk [s0, s1, s2, s3, s4, s5, s6, s7, s8, s9] hp q := hH.1
  have h0 : hI hp 173 9 = 0 := rfI0 (hRf _ (.head _)) (sE_k _ _) (sE_k _ _) (sE_k _ _)
  have hFc : ∀ q ∈ ([(192, [(.ofNat 0, [(.ofNat 1, 0)]), (.ofNat 0, [(.ofNat 1, 1)]), (.ofNat 0, [(.ofNat 1, 2)]), (.ofNat 0, [(.ofNat 1, 3)]), (.ofNat 0, [(.ofNat 1, 4)]), (.ofNat 0, [(.ofNat 1, 5)]), (.ofNat 0, [(.ofNat 1, 6)]), (.ofNat 0, [(.ofNat 1, 7)])]), (200, [(.ofNat 0, [(.ofNat 1, 3)]), (.ofNat 0, [(.ofNat 1, 8)])]), (194, [(.ofNat 0, [(.ofNat 1, 5)]), (.ofNat 0, [(.ofNat 1, 6)]), (.ofNat 0, [(.ofNat 1, 9)])])] : List sFc), fcOk fFS [s0, s1, s2, s3, s4, s5, s6, s7, s8, s9] hp q := hH.2
  have f0 : SHq (XT hp) (nmR hp (xnm hp)) s0 s1 s2 s3 s4 s5 s6 s7 ∧ s4 ≠ 4 := fcX (ys := [s0, s1, s2, s3, s4, s5, s6, s7]) (hFc _ (.head _)) ⟨sE_V rfl, sE_V rfl, sE_V rfl, sE_V rfl, sE_V rfl, sE_V rfl, sE_V rfl, sE_V rfl, trivial⟩
  have f1 : s8 = nr s3 := fcX (ys := [s3, s8]) (hFc _ (.tail _ (.head _))) ⟨sE_V rfl, sE_V rfl, trivial⟩
  have f2 : scW (fun j => hL hp (xnm hp) j) (cd 32 96 (bs (XT hp).1 s5 s6)) s9 := fcX (ys := [s5, s6, s9]) (hFc _ (.tail _ (.tail _ (.head _)))) ⟨sE_V rfl, sE_V rfl, sE_V rfl, trivial⟩
  exact poX (.head _) rfl hR (all_nil) (all_nil) (all_cons ⟨[s6, 6, s2, s8], ⟨sE_V rfl, sE_k _ _, sE_V rfl, sE_V rfl, trivial⟩, (show SG (XT hp) (nmR hp (xnm hp)) s6 (6 : Int) s2 s8 from sg_u f1 (sn_go f0.1 (by unfold sNc; omega) (by omega) (by omega) (nmX_yes f2 (by unfold sRg; omega))))⟩ (all_nil))
theorem rl422 : ruOk fFS gR422 := by
  intro r hp hO hN hH
  obtain ⟨s0, s1, s2, s3, s4, s5, s6, s7, s8, s9, rfl⟩ := len10 (show r.length = 10 from hN.1)
  have hR := hN.2.1.1
  have hIv : ∀ q ∈ ([(0, .negSucc 2147483647, .ofNat 2147483647), (1, .ofNat 2, .ofNat 2), (2, .negSucc 2147483647, .ofNat 2147483647), (3, .negSucc 2147483647, .ofNat 2147483647), (4, .ofNat 1, .ofNat 1), (5, .negSucc 2147483647, .ofNat 2147483647), (6, .negSucc 2147483647, .ofNat 2147483647), (7, .negSucc 0, .negSucc 0), (8, .negSucc 2147483647, .ofNat 2147483647), (9, .ofNat 0, .ofNat 3)] : sIv), ∃ x, ([s0, s1, s2, s3, s4, s5, s6, s7, s8, s9] : List Int)[q.1]? = some x ∧ q.2.1 ≤ x ∧ x ≤ q.2.2 := hN.2.1.2
  have b1 : (2 : Int) ≤ s1 ∧ s1 ≤ (2 : Int) := ivX (q := (1, .ofNat 2, .ofNat 2)) (y := s1) (hIv _ (.tail _ (.head _))) rfl
  have b4 : (1 : Int) ≤ s4 ∧ s4 ≤ (1 : Int) := ivX (q := (4, .ofNat 1, .ofNat 1)) (y := s4) (hIv _ (.tail _ (.tail _ (.tail _ (.tail _ (.head _)))))) rfl
  have b7 : (-1 : Int) ≤ s7 ∧ s7 ≤ (-1 : Int) := ivX (q := (7, .negSucc 0, .negSucc 0)) (y := s7) (hIv _ (.tail _ (.tail _ (.tail _ (.tail _ (.tail _ (.tail _ (.tail _ (.head _))))))))) rfl
  have b9 : (0 : Int) ≤ s9 ∧ s9 ≤ (3 : Int) := ivX (q := (9, .ofNat 0, .ofNat 3)) (y := s9) (hIv _ (.tail _ (.tail _ (.tail _ (.tail _ (.tail _ (.tail _ (.tail _ (.tail _ (.tail _ (.head _))))))))))) rfl
  have hRf : ∀ q ∈ ([((40, .ofNat 173, []), (.ofNat 9, []), 1, .ofNat 0, [])] : List sRf), rfOk [s0, s1, s2, s3, s4, s5, s6, s7, s8, s9] hp q := hH.1
  have h0 : hI hp 173 9 = 0 := rfI0 (hRf _ (.head _)) (sE_k _ _) (sE_k _ _) (sE_k _ _)
  have hFc : ∀ q ∈ ([(192, [(.ofNat 0, [(.ofNat 1, 0)]), (.ofNat 0, [(.ofNat 1, 1)]), (.ofNat 0, [(.ofNat 1, 2)]), (.ofNat 0, [(.ofNat 1, 3)]), (.ofNat 0, [(.ofNat 1, 4)]), (.ofNat 0, [(.ofNat 1, 5)]), (.ofNat 0, [(.ofNat 1, 6)]), (.ofNat 0, [(.ofNat 1, 7)])]), (200, [(.ofNat 0, [(.ofNat 1, 3)]), (.ofNat 0, [(.ofNat 1, 8)])]), (194, [(.ofNat 0, [(.ofNat 1, 5)]), (.ofNat 0, [(.ofNat 1, 6)]), (.ofNat 0, [(.ofNat 1, 9)])])] : List sFc), fcOk fFS [s0, s1, s2, s3, s4, s5, s6, s7, s8, s9] hp q := hH.2
  have f0 : SHq (XT hp) (nmR hp (xnm hp)) s0 s1 s2 s3 s4 s5 s6 s7 ∧ s4 ≠ 4 := fcX (ys := [s0, s1, s2, s3, s4, s5, s6, s7]) (hFc _ (.head _)) ⟨sE_V rfl, sE_V rfl, sE_V rfl, sE_V rfl, sE_V rfl, sE_V rfl, sE_V rfl, sE_V rfl, trivial⟩
  have f1 : s8 = nr s3 := fcX (ys := [s3, s8]) (hFc _ (.tail _ (.head _))) ⟨sE_V rfl, sE_V rfl, trivial⟩
  have f2 : scW (fun j => hL hp (xnm hp) j) (cd 32 96 (bs (XT hp).1 s5 s6)) s9 := fcX (ys := [s5, s6, s9]) (hFc _ (.tail _ (.tail _ (.head _)))) ⟨sE_V rfl, sE_V rfl, sE_V rfl, trivial⟩
  exact poX (.head _) rfl hR (all_nil) (all_nil) (all_cons ⟨[s6, 6, s2, s8], ⟨sE_V rfl, sE_k _ _, sE_V rfl, sE_V rfl, trivial⟩, (show SG (XT hp) (nmR hp (xnm hp)) s6 (6 : Int) s2 s8 from sg_u f1 (sn_go f0.1 (by unfold sNc; omega) (by omega) (by omega) (nmX_yes f2 (by unfold sRg; omega))))⟩ (all_nil))
theorem rl423 : ruOk fFS gR423 := by
  intro r hp hO hN hH
  obtain ⟨s0, s1, s2, s3, s4, s5, s6, s7, s8, s9, rfl⟩ := len10 (show r.length = 10 from hN.1)
  have hR := hN.2.1.1
  have hIv : ∀ q ∈ ([(0, .negSucc 2147483647, .ofNat 2147483647), (1, .ofNat 3, .ofNat 3), (2, .negSucc 2147483647, .ofNat 2147483647), (3, .negSucc 2147483647, .ofNat 2147483647), (4, .ofNat 1, .ofNat 1), (5, .negSucc 2147483647, .ofNat 2147483647), (6, .negSucc 2147483647, .ofNat 2147483647), (7, .negSucc 0, .negSucc 0), (8, .negSucc 2147483647, .ofNat 2147483647), (9, .ofNat 4, .ofNat 6)] : sIv), ∃ x, ([s0, s1, s2, s3, s4, s5, s6, s7, s8, s9] : List Int)[q.1]? = some x ∧ q.2.1 ≤ x ∧ x ≤ q.2.2 := hN.2.1.2
  have b1 : (3 : Int) ≤ s1 ∧ s1 ≤ (3 : Int) := ivX (q := (1, .ofNat 3, .ofNat 3)) (y := s1) (hIv _ (.tail _ (.head _))) rfl
  have b4 : (1 : Int) ≤ s4 ∧ s4 ≤ (1 : Int) := ivX (q := (4, .ofNat 1, .ofNat 1)) (y := s4) (hIv _ (.tail _ (.tail _ (.tail _ (.tail _ (.head _)))))) rfl
  have b7 : (-1 : Int) ≤ s7 ∧ s7 ≤ (-1 : Int) := ivX (q := (7, .negSucc 0, .negSucc 0)) (y := s7) (hIv _ (.tail _ (.tail _ (.tail _ (.tail _ (.tail _ (.tail _ (.tail _ (.head _))))))))) rfl
  have b9 : (4 : Int) ≤ s9 ∧ s9 ≤ (6 : Int) := ivX (q := (9, .ofNat 4, .ofNat 6)) (y := s9) (hIv _ (.tail _ (.tail _ (.tail _ (.tail _ (.tail _ (.tail _ (.tail _ (.tail _ (.tail _ (.head _))))))))))) rfl
  have hRf : ∀ q ∈ ([((40, .ofNat 173, []), (.ofNat 9, []), 1, .ofNat 0, [])] : List sRf), rfOk [s0, s1, s2, s3, s4, s5, s6, s7, s8, s9] hp q := hH.1
  have h0 : hI hp 173 9 = 0 := rfI0 (hRf _ (.head _)) (sE_k _ _) (sE_k _ _) (sE_k _ _)
  have hFc : ∀ q ∈ ([(192, [(.ofNat 0, [(.ofNat 1, 0)]), (.ofNat 0, [(.ofNat 1, 1)]), (.ofNat 0, [(.ofNat 1, 2)]), (.ofNat 0, [(.ofNat 1, 3)]), (.ofNat 0, [(.ofNat 1, 4)]), (.ofNat 0, [(.ofNat 1, 5)]), (.ofNat 0, [(.ofNat 1, 6)]), (.ofNat 0, [(.ofNat 1, 7)])]), (200, [(.ofNat 0, [(.ofNat 1, 3)]), (.ofNat 0, [(.ofNat 1, 8)])]), (194, [(.ofNat 0, [(.ofNat 1, 5)]), (.ofNat 0, [(.ofNat 1, 6)]), (.ofNat 0, [(.ofNat 1, 9)])])] : List sFc), fcOk fFS [s0, s1, s2, s3, s4, s5, s6, s7, s8, s9] hp q := hH.2
  have f0 : SHq (XT hp) (nmR hp (xnm hp)) s0 s1 s2 s3 s4 s5 s6 s7 ∧ s4 ≠ 4 := fcX (ys := [s0, s1, s2, s3, s4, s5, s6, s7]) (hFc _ (.head _)) ⟨sE_V rfl, sE_V rfl, sE_V rfl, sE_V rfl, sE_V rfl, sE_V rfl, sE_V rfl, sE_V rfl, trivial⟩
  have f1 : s8 = nr s3 := fcX (ys := [s3, s8]) (hFc _ (.tail _ (.head _))) ⟨sE_V rfl, sE_V rfl, trivial⟩
  have f2 : scW (fun j => hL hp (xnm hp) j) (cd 32 96 (bs (XT hp).1 s5 s6)) s9 := fcX (ys := [s5, s6, s9]) (hFc _ (.tail _ (.tail _ (.head _)))) ⟨sE_V rfl, sE_V rfl, sE_V rfl, trivial⟩
  exact poX (.head _) rfl hR (all_nil) (all_nil) (all_cons ⟨[s6, 6, s2, s8], ⟨sE_V rfl, sE_k _ _, sE_V rfl, sE_V rfl, trivial⟩, (show SG (XT hp) (nmR hp (xnm hp)) s6 (6 : Int) s2 s8 from sg_u f1 (sn_go f0.1 (by unfold sNc; omega) (by omega) (by omega) (nmX_yes f2 (by unfold sRg; omega))))⟩ (all_nil))
theorem rl424 : ruOk fFS gR424 := by
  intro r hp hO hN hH
  obtain ⟨s0, s1, s2, rfl⟩ := len3 (show r.length = 3 from hN.1)
  have hR := hN.2.1.1
  have hIv : ∀ q ∈ ([(0, .negSucc 2147483647, .ofNat 2147483647), (1, .negSucc 2147483647, .ofNat 24), (2, .negSucc 2147483647, .ofNat 2147483647)] : sIv), ∃ x, ([s0, s1, s2] : List Int)[q.1]? = some x ∧ q.2.1 ≤ x ∧ x ≤ q.2.2 := hN.2.1.2
  have b1 : (-2147483648 : Int) ≤ s1 ∧ s1 ≤ (24 : Int) := ivX (q := (1, .negSucc 2147483647, .ofNat 24)) (y := s1) (hIv _ (.tail _ (.head _))) rfl
  have hRf : ∀ q ∈ ([((32, .ofNat 57, []), (.ofNat 2, []), 1, .ofNat 0, [(.ofNat 1, 0)]), ((33, .ofNat 58, []), (.ofNat 0, [(.ofNat 1, 0)]), 1, .ofNat 0, [(.ofNat 1, 1)]), ((35, .ofNat 60, []), (.ofNat 0, [(.ofNat 1, 0)]), 1, .ofNat 0, [(.ofNat 1, 2)])] : List sRf), rfOk [s0, s1, s2] hp q := hH.1
  have h0 : hI hp 57 2 = s0 := rfI0 (hRf _ (.head _)) (sE_k _ _) (sE_k _ _) (sE_V rfl)
  have y0 : (0 : Int) ≤ s0 ∧ s0 ≤ (40 : Int) := by rw [← h0]; exact hI_ty hO (by decide) rfl
  obtain ⟨i1, e1, l1, h1⟩ := rfI (xv := s1) (iv := s0) (hRf _ (.tail _ (.head _))) (sE_k _ _) (sE_V rfl) (sE_V rfl)
  have l1 : i1 < 40 := l1
  have h1 : hI hp 58 i1 = s1 := h1
  obtain ⟨i2, e2, l2, h2⟩ := rfI (xv := s2) (iv := s0) (hRf _ (.tail _ (.tail _ (.head _)))) (sE_k _ _) (sE_V rfl) (sE_V rfl)
  have l2 : i2 < 40 := l2
  have h2 : hI hp 60 i2 = s2 := h2
  have hFc : ∀ q ∈ ([(2, [(.ofNat 0, [(.ofNat 1, 0)])])] : List sFc), fcOk fFS [s0, s1, s2] hp q := hH.2
  have f0 : fSen 58 60 s0 hp := fcX (ys := [s0]) (hFc _ (.head _)) ⟨sE_V rfl, trivial⟩
  exact poX (.head _) rfl hR (all_nil) (all_nil) (all_cons ⟨[(s0 + 1)], ⟨sEv (y' := ((1 : Int) + ((1 : Int) * s0 + 0))) rfl (by omega), trivial⟩, (show fSen 58 60 (s0 + 1) hp from sen_add f0 h1 h2 (by omega) (by omega) (by omega) (by omega))⟩ (all_nil))
theorem rl425 : ruOk fFS gR425 := by
  intro r hp hO hN hH
  obtain ⟨s0, s1, s2, rfl⟩ := len3 (show r.length = 3 from hN.1)
  have hR := hN.2.1.1
  have hIv : ∀ q ∈ ([(0, .negSucc 2147483647, .ofNat 2147483647), (1, .ofNat 26, .ofNat 2147483647), (2, .negSucc 2147483647, .ofNat 2147483647)] : sIv), ∃ x, ([s0, s1, s2] : List Int)[q.1]? = some x ∧ q.2.1 ≤ x ∧ x ≤ q.2.2 := hN.2.1.2
  have b1 : (26 : Int) ≤ s1 ∧ s1 ≤ (2147483647 : Int) := ivX (q := (1, .ofNat 26, .ofNat 2147483647)) (y := s1) (hIv _ (.tail _ (.head _))) rfl
  have hRf : ∀ q ∈ ([((32, .ofNat 57, []), (.ofNat 2, []), 1, .ofNat 0, [(.ofNat 1, 0)]), ((33, .ofNat 58, []), (.ofNat 0, [(.ofNat 1, 0)]), 1, .ofNat 0, [(.ofNat 1, 1)]), ((35, .ofNat 60, []), (.ofNat 0, [(.ofNat 1, 0)]), 1, .ofNat 0, [(.ofNat 1, 2)])] : List sRf), rfOk [s0, s1, s2] hp q := hH.1
  have h0 : hI hp 57 2 = s0 := rfI0 (hRf _ (.head _)) (sE_k _ _) (sE_k _ _) (sE_V rfl)
  have y0 : (0 : Int) ≤ s0 ∧ s0 ≤ (40 : Int) := by rw [← h0]; exact hI_ty hO (by decide) rfl
  obtain ⟨i1, e1, l1, h1⟩ := rfI (xv := s1) (iv := s0) (hRf _ (.tail _ (.head _))) (sE_k _ _) (sE_V rfl) (sE_V rfl)
  have l1 : i1 < 40 := l1
  have h1 : hI hp 58 i1 = s1 := h1
  obtain ⟨i2, e2, l2, h2⟩ := rfI (xv := s2) (iv := s0) (hRf _ (.tail _ (.tail _ (.head _)))) (sE_k _ _) (sE_V rfl) (sE_V rfl)
  have l2 : i2 < 40 := l2
  have h2 : hI hp 60 i2 = s2 := h2
  have hFc : ∀ q ∈ ([(2, [(.ofNat 0, [(.ofNat 1, 0)])])] : List sFc), fcOk fFS [s0, s1, s2] hp q := hH.2
  have f0 : fSen 58 60 s0 hp := fcX (ys := [s0]) (hFc _ (.head _)) ⟨sE_V rfl, trivial⟩
  exact poX (.head _) rfl hR (all_nil) (all_nil) (all_cons ⟨[(s0 + 1)], ⟨sEv (y' := ((1 : Int) + ((1 : Int) * s0 + 0))) rfl (by omega), trivial⟩, (show fSen 58 60 (s0 + 1) hp from sen_add f0 h1 h2 (by omega) (by omega) (by omega) (by omega))⟩ (all_nil))
theorem rl426 : ruOk fFS gR426 := by
  intro r hp hO hN hH
  obtain ⟨s0, s1, s2, rfl⟩ := len3 (show r.length = 3 from hN.1)
  have hR := hN.2.1.1
  have hIv : ∀ q ∈ ([(0, .negSucc 2147483647, .ofNat 2147483647), (1, .negSucc 2147483647, .ofNat 2147483647), (2, .ofNat 0, .ofNat 2)] : sIv), ∃ x, ([s0, s1, s2] : List Int)[q.1]? = some x ∧ q.2.1 ≤ x ∧ x ≤ q.2.2 := hN.2.1.2
  have b2 : (0 : Int) ≤ s2 ∧ s2 ≤ (2 : Int) := ivX (q := (2, .ofNat 0, .ofNat 2)) (y := s2) (hIv _ (.tail _ (.tail _ (.head _)))) rfl
  have hRf : ∀ q ∈ ([((32, .ofNat 57, []), (.ofNat 2, []), 1, .ofNat 0, [(.ofNat 1, 0)]), ((33, .ofNat 58, []), (.ofNat 0, [(.ofNat 1, 0)]), 1, .ofNat 0, [(.ofNat 1, 1)]), ((35, .ofNat 60, []), (.ofNat 0, [(.ofNat 1, 0)]), 1, .ofNat 0, [(.ofNat 1, 2)])] : List sRf), rfOk [s0, s1, s2] hp q := hH.1
  have h0 : hI hp 57 2 = s0 := rfI0 (hRf _ (.head _)) (sE_k _ _) (sE_k _ _) (sE_V rfl)
  have y0 : (0 : Int) ≤ s0 ∧ s0 ≤ (40 : Int) := by rw [← h0]; exact hI_ty hO (by decide) rfl
  obtain ⟨i1, e1, l1, h1⟩ := rfI (xv := s1) (iv := s0) (hRf _ (.tail _ (.head _))) (sE_k _ _) (sE_V rfl) (sE_V rfl)
  have l1 : i1 < 40 := l1
  have h1 : hI hp 58 i1 = s1 := h1
  obtain ⟨i2, e2, l2, h2⟩ := rfI (xv := s2) (iv := s0) (hRf _ (.tail _ (.tail _ (.head _)))) (sE_k _ _) (sE_V rfl) (sE_V rfl)
  have l2 : i2 < 40 := l2
  have h2 : hI hp 60 i2 = s2 := h2
  have hFc : ∀ q ∈ ([(2, [(.ofNat 0, [(.ofNat 1, 0)])])] : List sFc), fcOk fFS [s0, s1, s2] hp q := hH.2
  have f0 : fSen 58 60 s0 hp := fcX (ys := [s0]) (hFc _ (.head _)) ⟨sE_V rfl, trivial⟩
  exact poX (.head _) rfl hR (all_nil) (all_nil) (all_cons ⟨[(s0 + 1)], ⟨sEv (y' := ((1 : Int) + ((1 : Int) * s0 + 0))) rfl (by omega), trivial⟩, (show fSen 58 60 (s0 + 1) hp from sen_add f0 h1 h2 (by omega) (by omega) (by omega) (by omega))⟩ (all_nil))
theorem rl427 : ruOk fFS gR427 := by
  intro r hp hO hN hH
  obtain ⟨s0, s1, s2, s3, s4, s5, s6, s7, rfl⟩ := len8 (show r.length = 8 from hN.1)
  have hR := hN.2.1.1
  have hIv : ∀ q ∈ ([(0, .negSucc 2147483647, .ofNat 2147483647), (1, .ofNat 4, .ofNat 4), (2, .negSucc 2147483647, .ofNat 2147483647), (3, .negSucc 2147483647, .ofNat 2147483647), (4, .ofNat 3, .ofNat 3), (5, .negSucc 2147483647, .ofNat 2147483647), (6, .negSucc 2147483647, .ofNat 2147483647), (7, .negSucc 0, .ofNat 59)] : sIv), ∃ x, ([s0, s1, s2, s3, s4, s5, s6, s7] : List Int)[q.1]? = some x ∧ q.2.1 ≤ x ∧ x ≤ q.2.2 := hN.2.1.2
  have b1 : (4 : Int) ≤ s1 ∧ s1 ≤ (4 : Int) := ivX (q := (1, .ofNat 4, .ofNat 4)) (y := s1) (hIv _ (.tail _ (.head _))) rfl
  have b4 : (3 : Int) ≤ s4 ∧ s4 ≤ (3 : Int) := ivX (q := (4, .ofNat 3, .ofNat 3)) (y := s4) (hIv _ (.tail _ (.tail _ (.tail _ (.tail _ (.head _)))))) rfl
  have b7 : (-1 : Int) ≤ s7 ∧ s7 ≤ (59 : Int) := ivX (q := (7, .negSucc 0, .ofNat 59)) (y := s7) (hIv _ (.tail _ (.tail _ (.tail _ (.tail _ (.tail _ (.tail _ (.tail _ (.head _))))))))) rfl
  have hRf : ∀ q ∈ ([((40, .ofNat 173, []), (.ofNat 9, []), 1, .ofNat 0, [])] : List sRf), rfOk [s0, s1, s2, s3, s4, s5, s6, s7] hp q := hH.1
  have h0 : hI hp 173 9 = 0 := rfI0 (hRf _ (.head _)) (sE_k _ _) (sE_k _ _) (sE_k _ _)
  have hFc : ∀ q ∈ ([(192, [(.ofNat 0, [(.ofNat 1, 0)]), (.ofNat 0, [(.ofNat 1, 1)]), (.ofNat 0, [(.ofNat 1, 2)]), (.ofNat 0, [(.ofNat 1, 3)]), (.ofNat 0, [(.ofNat 1, 4)]), (.ofNat 0, [(.ofNat 1, 5)]), (.ofNat 0, [(.ofNat 1, 6)]), (.ofNat 0, [(.ofNat 1, 7)])])] : List sFc), fcOk fFS [s0, s1, s2, s3, s4, s5, s6, s7] hp q := hH.2
  have f0 : SHq (XT hp) (nmR hp (xnm hp)) s0 s1 s2 s3 s4 s5 s6 s7 ∧ s4 ≠ 4 := fcX (ys := [s0, s1, s2, s3, s4, s5, s6, s7]) (hFc _ (.head _)) ⟨sE_V rfl, sE_V rfl, sE_V rfl, sE_V rfl, sE_V rfl, sE_V rfl, sE_V rfl, sE_V rfl, trivial⟩
  exact poX (.head _) rfl hR (all_nil) (all_nil) (all_cons ⟨[1, s5], ⟨sE_k _ _, sE_V rfl, trivial⟩, (show SRS (XT hp) (nmR hp (xnm hp)) (1 : Int) s5 from s4_f1 f0.1 (by omega) (by omega))⟩ (all_nil))
theorem rl428 : ruOk fFS gR428 := by
  intro r hp hO hN hH
  obtain ⟨s0, s1, s2, s3, s4, s5, s6, s7, rfl⟩ := len8 (show r.length = 8 from hN.1)
  have hR := hN.2.1.1
  have hIv : ∀ q ∈ ([(0, .negSucc 2147483647, .ofNat 2147483647), (1, .ofNat 4, .ofNat 4), (2, .negSucc 2147483647, .ofNat 2147483647), (3, .negSucc 2147483647, .ofNat 2147483647), (4, .ofNat 3, .ofNat 3), (5, .negSucc 2147483647, .ofNat 2147483647), (6, .negSucc 2147483647, .ofNat 2147483647), (7, .ofNat 63, .ofNat 2147483647)] : sIv), ∃ x, ([s0, s1, s2, s3, s4, s5, s6, s7] : List Int)[q.1]? = some x ∧ q.2.1 ≤ x ∧ x ≤ q.2.2 := hN.2.1.2
  have b1 : (4 : Int) ≤ s1 ∧ s1 ≤ (4 : Int) := ivX (q := (1, .ofNat 4, .ofNat 4)) (y := s1) (hIv _ (.tail _ (.head _))) rfl
  have b4 : (3 : Int) ≤ s4 ∧ s4 ≤ (3 : Int) := ivX (q := (4, .ofNat 3, .ofNat 3)) (y := s4) (hIv _ (.tail _ (.tail _ (.tail _ (.tail _ (.head _)))))) rfl
  have b7 : (63 : Int) ≤ s7 ∧ s7 ≤ (2147483647 : Int) := ivX (q := (7, .ofNat 63, .ofNat 2147483647)) (y := s7) (hIv _ (.tail _ (.tail _ (.tail _ (.tail _ (.tail _ (.tail _ (.tail _ (.head _))))))))) rfl
  have hRf : ∀ q ∈ ([((40, .ofNat 173, []), (.ofNat 9, []), 1, .ofNat 0, [])] : List sRf), rfOk [s0, s1, s2, s3, s4, s5, s6, s7] hp q := hH.1
  have h0 : hI hp 173 9 = 0 := rfI0 (hRf _ (.head _)) (sE_k _ _) (sE_k _ _) (sE_k _ _)
  have hFc : ∀ q ∈ ([(192, [(.ofNat 0, [(.ofNat 1, 0)]), (.ofNat 0, [(.ofNat 1, 1)]), (.ofNat 0, [(.ofNat 1, 2)]), (.ofNat 0, [(.ofNat 1, 3)]), (.ofNat 0, [(.ofNat 1, 4)]), (.ofNat 0, [(.ofNat 1, 5)]), (.ofNat 0, [(.ofNat 1, 6)]), (.ofNat 0, [(.ofNat 1, 7)])])] : List sFc), fcOk fFS [s0, s1, s2, s3, s4, s5, s6, s7] hp q := hH.2
  have f0 : SHq (XT hp) (nmR hp (xnm hp)) s0 s1 s2 s3 s4 s5 s6 s7 ∧ s4 ≠ 4 := fcX (ys := [s0, s1, s2, s3, s4, s5, s6, s7]) (hFc _ (.head _)) ⟨sE_V rfl, sE_V rfl, sE_V rfl, sE_V rfl, sE_V rfl, sE_V rfl, sE_V rfl, sE_V rfl, trivial⟩
  exact poX (.head _) rfl hR (all_nil) (all_nil) (all_cons ⟨[1, s5], ⟨sE_k _ _, sE_V rfl, trivial⟩, (show SRS (XT hp) (nmR hp (xnm hp)) (1 : Int) s5 from s4_f1 f0.1 (by omega) (by omega))⟩ (all_nil))
theorem rl429 : ruOk fFS gR429 := by
  intro r hp hO hN hH
  obtain ⟨s0, s1, s2, s3, s4, s5, s6, s7, s8, rfl⟩ := len9 (show r.length = 9 from hN.1)
  have hR := hN.2.1.1
  have hIv : ∀ q ∈ ([(0, .negSucc 2147483647, .ofNat 2147483647), (1, .ofNat 0, .ofNat 0), (2, .ofNat 0, .ofNat 19), (3, .ofNat 0, .ofNat 6560), (4, .ofNat 1, .ofNat 1), (5, .negSucc 2147483647, .ofNat 2147483647), (6, .negSucc 2147483647, .ofNat 2147483647), (7, .ofNat 21, .ofNat 21), (8, .negSucc 2147483647, .ofNat 2147483647)] : sIv), ∃ x, ([s0, s1, s2, s3, s4, s5, s6, s7, s8] : List Int)[q.1]? = some x ∧ q.2.1 ≤ x ∧ x ≤ q.2.2 := hN.2.1.2
  have b1 : (0 : Int) ≤ s1 ∧ s1 ≤ (0 : Int) := ivX (q := (1, .ofNat 0, .ofNat 0)) (y := s1) (hIv _ (.tail _ (.head _))) rfl
  have b2 : (0 : Int) ≤ s2 ∧ s2 ≤ (19 : Int) := ivX (q := (2, .ofNat 0, .ofNat 19)) (y := s2) (hIv _ (.tail _ (.tail _ (.head _)))) rfl
  have b3 : (0 : Int) ≤ s3 ∧ s3 ≤ (6560 : Int) := ivX (q := (3, .ofNat 0, .ofNat 6560)) (y := s3) (hIv _ (.tail _ (.tail _ (.tail _ (.head _))))) rfl
  have b4 : (1 : Int) ≤ s4 ∧ s4 ≤ (1 : Int) := ivX (q := (4, .ofNat 1, .ofNat 1)) (y := s4) (hIv _ (.tail _ (.tail _ (.tail _ (.tail _ (.head _)))))) rfl
  have b7 : (21 : Int) ≤ s7 ∧ s7 ≤ (21 : Int) := ivX (q := (7, .ofNat 21, .ofNat 21)) (y := s7) (hIv _ (.tail _ (.tail _ (.tail _ (.tail _ (.tail _ (.tail _ (.tail _ (.head _))))))))) rfl
  have hRf : ∀ q ∈ ([((40, .ofNat 173, []), (.ofNat 9, []), 1, .ofNat 0, [])] : List sRf), rfOk [s0, s1, s2, s3, s4, s5, s6, s7, s8] hp q := hH.1
  have h0 : hI hp 173 9 = 0 := rfI0 (hRf _ (.head _)) (sE_k _ _) (sE_k _ _) (sE_k _ _)
  have hFc : ∀ q ∈ ([(192, [(.ofNat 0, [(.ofNat 1, 0)]), (.ofNat 0, [(.ofNat 1, 1)]), (.ofNat 0, [(.ofNat 1, 2)]), (.ofNat 0, [(.ofNat 1, 3)]), (.ofNat 0, [(.ofNat 1, 4)]), (.ofNat 0, [(.ofNat 1, 5)]), (.ofNat 0, [(.ofNat 1, 6)]), (.ofNat 0, [(.ofNat 1, 7)])]), (199, [(.ofNat 0, [(.ofNat 1, 3)]), (.ofNat 1, [])]), (200, [(.ofNat 0, [(.ofNat 1, 3)]), (.ofNat 0, [(.ofNat 1, 8)])])] : List sFc), fcOk fFS [s0, s1, s2, s3, s4, s5, s6, s7, s8] hp q := hH.2
  have f0 : SHq (XT hp) (nmR hp (xnm hp)) s0 s1 s2 s3 s4 s5 s6 s7 ∧ s4 ≠ 4 := fcX (ys := [s0, s1, s2, s3, s4, s5, s6, s7]) (hFc _ (.head _)) ⟨sE_V rfl, sE_V rfl, sE_V rfl, sE_V rfl, sE_V rfl, sE_V rfl, sE_V rfl, sE_V rfl, trivial⟩
  have f1 : (1 : Int) = dp s3 + 1 := fcX (ys := [s3, 1]) (hFc _ (.tail _ (.head _))) ⟨sE_V rfl, sE_k _ _, trivial⟩
  have f2 : s8 = nr s3 := fcX (ys := [s3, s8]) (hFc _ (.tail _ (.tail _ (.head _)))) ⟨sE_V rfl, sE_V rfl, trivial⟩
  have ud : dp s3 ≤ 7 := by omega
  have ut := dp_lt (t := s3) (by omega) ud
  exact poX (.head _) rfl hR (all_nil) (all_nil) (all_cons ⟨[s6, 0, (s2 + 1), (3 * s3 + 1)], ⟨sE_V rfl, sE_k _ _, sEv (y' := ((1 : Int) + ((1 : Int) * s2 + 0))) rfl (by omega), sEv (y' := ((1 : Int) + ((3 : Int) * s3 + 0))) rfl (by omega), trivial⟩, (show SG (XT hp) (nmR hp (xnm hp)) s6 (0 : Int) (s2 + 1) (3 * s3 + 1) from s0_not f0.1 (by omega) (by omega) (by omega) (by omega) ud)⟩ (all_cons ⟨[(3 * s3 + 1), 2], ⟨sEv (y' := ((1 : Int) + ((3 : Int) * s3 + 0))) rfl (by omega), sE_k _ _, trivial⟩, (show (2 : Int) = dp (3 * s3 + 1) + 1 from dp_31 (t := s3) (by omega) (by omega) f1 (by omega) rfl)⟩ (all_cons ⟨[(3 * s3 + 1), s8], ⟨sEv (y' := ((1 : Int) + ((3 : Int) * s3 + 0))) rfl (by omega), sE_V rfl, trivial⟩, (show s8 = nr (3 * s3 + 1) from nr_31' (t := s3) (by omega) (by omega) f2 rfl)⟩ (all_nil))))
theorem rl430 : ruOk fFS gR430 := by
  intro r hp hO hN hH
  obtain ⟨s0, s1, s2, s3, s4, s5, s6, s7, s8, rfl⟩ := len9 (show r.length = 9 from hN.1)
  have hR := hN.2.1.1
  have hIv : ∀ q ∈ ([(0, .negSucc 2147483647, .ofNat 2147483647), (1, .ofNat 0, .ofNat 0), (2, .ofNat 0, .ofNat 19), (3, .ofNat 0, .ofNat 6560), (4, .ofNat 1, .ofNat 1), (5, .negSucc 2147483647, .ofNat 2147483647), (6, .negSucc 2147483647, .ofNat 2147483647), (7, .ofNat 21, .ofNat 21), (8, .negSucc 2147483647, .ofNat 2147483647)] : sIv), ∃ x, ([s0, s1, s2, s3, s4, s5, s6, s7, s8] : List Int)[q.1]? = some x ∧ q.2.1 ≤ x ∧ x ≤ q.2.2 := hN.2.1.2
  have b1 : (0 : Int) ≤ s1 ∧ s1 ≤ (0 : Int) := ivX (q := (1, .ofNat 0, .ofNat 0)) (y := s1) (hIv _ (.tail _ (.head _))) rfl
  have b2 : (0 : Int) ≤ s2 ∧ s2 ≤ (19 : Int) := ivX (q := (2, .ofNat 0, .ofNat 19)) (y := s2) (hIv _ (.tail _ (.tail _ (.head _)))) rfl
  have b3 : (0 : Int) ≤ s3 ∧ s3 ≤ (6560 : Int) := ivX (q := (3, .ofNat 0, .ofNat 6560)) (y := s3) (hIv _ (.tail _ (.tail _ (.tail _ (.head _))))) rfl
  have b4 : (1 : Int) ≤ s4 ∧ s4 ≤ (1 : Int) := ivX (q := (4, .ofNat 1, .ofNat 1)) (y := s4) (hIv _ (.tail _ (.tail _ (.tail _ (.tail _ (.head _)))))) rfl
  have b7 : (21 : Int) ≤ s7 ∧ s7 ≤ (21 : Int) := ivX (q := (7, .ofNat 21, .ofNat 21)) (y := s7) (hIv _ (.tail _ (.tail _ (.tail _ (.tail _ (.tail _ (.tail _ (.tail _ (.head _))))))))) rfl
  have hRf : ∀ q ∈ ([((40, .ofNat 173, []), (.ofNat 9, []), 1, .ofNat 0, [])] : List sRf), rfOk [s0, s1, s2, s3, s4, s5, s6, s7, s8] hp q := hH.1
  have h0 : hI hp 173 9 = 0 := rfI0 (hRf _ (.head _)) (sE_k _ _) (sE_k _ _) (sE_k _ _)
  have hFc : ∀ q ∈ ([(192, [(.ofNat 0, [(.ofNat 1, 0)]), (.ofNat 0, [(.ofNat 1, 1)]), (.ofNat 0, [(.ofNat 1, 2)]), (.ofNat 0, [(.ofNat 1, 3)]), (.ofNat 0, [(.ofNat 1, 4)]), (.ofNat 0, [(.ofNat 1, 5)]), (.ofNat 0, [(.ofNat 1, 6)]), (.ofNat 0, [(.ofNat 1, 7)])]), (199, [(.ofNat 0, [(.ofNat 1, 3)]), (.ofNat 2, [])]), (200, [(.ofNat 0, [(.ofNat 1, 3)]), (.ofNat 0, [(.ofNat 1, 8)])])] : List sFc), fcOk fFS [s0, s1, s2, s3, s4, s5, s6, s7, s8] hp q := hH.2
  have f0 : SHq (XT hp) (nmR hp (xnm hp)) s0 s1 s2 s3 s4 s5 s6 s7 ∧ s4 ≠ 4 := fcX (ys := [s0, s1, s2, s3, s4, s5, s6, s7]) (hFc _ (.head _)) ⟨sE_V rfl, sE_V rfl, sE_V rfl, sE_V rfl, sE_V rfl, sE_V rfl, sE_V rfl, sE_V rfl, trivial⟩
  have f1 : (2 : Int) = dp s3 + 1 := fcX (ys := [s3, 2]) (hFc _ (.tail _ (.head _))) ⟨sE_V rfl, sE_k _ _, trivial⟩
  have f2 : s8 = nr s3 := fcX (ys := [s3, s8]) (hFc _ (.tail _ (.tail _ (.head _)))) ⟨sE_V rfl, sE_V rfl, trivial⟩
  have ud : dp s3 ≤ 7 := by omega
  have ut := dp_lt (t := s3) (by omega) ud
  exact poX (.head _) rfl hR (all_nil) (all_nil) (all_cons ⟨[s6, 0, (s2 + 1), (3 * s3 + 1)], ⟨sE_V rfl, sE_k _ _, sEv (y' := ((1 : Int) + ((1 : Int) * s2 + 0))) rfl (by omega), sEv (y' := ((1 : Int) + ((3 : Int) * s3 + 0))) rfl (by omega), trivial⟩, (show SG (XT hp) (nmR hp (xnm hp)) s6 (0 : Int) (s2 + 1) (3 * s3 + 1) from s0_not f0.1 (by omega) (by omega) (by omega) (by omega) ud)⟩ (all_cons ⟨[(3 * s3 + 1), 3], ⟨sEv (y' := ((1 : Int) + ((3 : Int) * s3 + 0))) rfl (by omega), sE_k _ _, trivial⟩, (show (3 : Int) = dp (3 * s3 + 1) + 1 from dp_31 (t := s3) (by omega) (by omega) f1 (by omega) rfl)⟩ (all_cons ⟨[(3 * s3 + 1), s8], ⟨sEv (y' := ((1 : Int) + ((3 : Int) * s3 + 0))) rfl (by omega), sE_V rfl, trivial⟩, (show s8 = nr (3 * s3 + 1) from nr_31' (t := s3) (by omega) (by omega) f2 rfl)⟩ (all_nil))))
theorem rl431 : ruOk fFS gR431 := by
  intro r hp hO hN hH
  obtain ⟨s0, s1, s2, s3, s4, s5, s6, s7, s8, rfl⟩ := len9 (show r.length = 9 from hN.1)
  have hR := hN.2.1.1
  have hIv : ∀ q ∈ ([(0, .negSucc 2147483647, .ofNat 2147483647), (1, .ofNat 0, .ofNat 0), (2, .ofNat 0, .ofNat 19), (3, .ofNat 0, .ofNat 6560), (4, .ofNat 1, .ofNat 1), (5, .negSucc 2147483647, .ofNat 2147483647), (6, .negSucc 2147483647, .ofNat 2147483647), (7, .ofNat 21, .ofNat 21), (8, .negSucc 2147483647, .ofNat 2147483647)] : sIv), ∃ x, ([s0, s1, s2, s3, s4, s5, s6, s7, s8] : List Int)[q.1]? = some x ∧ q.2.1 ≤ x ∧ x ≤ q.2.2 := hN.2.1.2
  have b1 : (0 : Int) ≤ s1 ∧ s1 ≤ (0 : Int) := ivX (q := (1, .ofNat 0, .ofNat 0)) (y := s1) (hIv _ (.tail _ (.head _))) rfl
  have b2 : (0 : Int) ≤ s2 ∧ s2 ≤ (19 : Int) := ivX (q := (2, .ofNat 0, .ofNat 19)) (y := s2) (hIv _ (.tail _ (.tail _ (.head _)))) rfl
  have b3 : (0 : Int) ≤ s3 ∧ s3 ≤ (6560 : Int) := ivX (q := (3, .ofNat 0, .ofNat 6560)) (y := s3) (hIv _ (.tail _ (.tail _ (.tail _ (.head _))))) rfl
  have b4 : (1 : Int) ≤ s4 ∧ s4 ≤ (1 : Int) := ivX (q := (4, .ofNat 1, .ofNat 1)) (y := s4) (hIv _ (.tail _ (.tail _ (.tail _ (.tail _ (.head _)))))) rfl
  have b7 : (21 : Int) ≤ s7 ∧ s7 ≤ (21 : Int) := ivX (q := (7, .ofNat 21, .ofNat 21)) (y := s7) (hIv _ (.tail _ (.tail _ (.tail _ (.tail _ (.tail _ (.tail _ (.tail _ (.head _))))))))) rfl
  have hRf : ∀ q ∈ ([((40, .ofNat 173, []), (.ofNat 9, []), 1, .ofNat 0, [])] : List sRf), rfOk [s0, s1, s2, s3, s4, s5, s6, s7, s8] hp q := hH.1
  have h0 : hI hp 173 9 = 0 := rfI0 (hRf _ (.head _)) (sE_k _ _) (sE_k _ _) (sE_k _ _)
  have hFc : ∀ q ∈ ([(192, [(.ofNat 0, [(.ofNat 1, 0)]), (.ofNat 0, [(.ofNat 1, 1)]), (.ofNat 0, [(.ofNat 1, 2)]), (.ofNat 0, [(.ofNat 1, 3)]), (.ofNat 0, [(.ofNat 1, 4)]), (.ofNat 0, [(.ofNat 1, 5)]), (.ofNat 0, [(.ofNat 1, 6)]), (.ofNat 0, [(.ofNat 1, 7)])]), (199, [(.ofNat 0, [(.ofNat 1, 3)]), (.ofNat 3, [])]), (200, [(.ofNat 0, [(.ofNat 1, 3)]), (.ofNat 0, [(.ofNat 1, 8)])])] : List sFc), fcOk fFS [s0, s1, s2, s3, s4, s5, s6, s7, s8] hp q := hH.2
  have f0 : SHq (XT hp) (nmR hp (xnm hp)) s0 s1 s2 s3 s4 s5 s6 s7 ∧ s4 ≠ 4 := fcX (ys := [s0, s1, s2, s3, s4, s5, s6, s7]) (hFc _ (.head _)) ⟨sE_V rfl, sE_V rfl, sE_V rfl, sE_V rfl, sE_V rfl, sE_V rfl, sE_V rfl, sE_V rfl, trivial⟩
  have f1 : (3 : Int) = dp s3 + 1 := fcX (ys := [s3, 3]) (hFc _ (.tail _ (.head _))) ⟨sE_V rfl, sE_k _ _, trivial⟩
  have f2 : s8 = nr s3 := fcX (ys := [s3, s8]) (hFc _ (.tail _ (.tail _ (.head _)))) ⟨sE_V rfl, sE_V rfl, trivial⟩
  have ud : dp s3 ≤ 7 := by omega
  have ut := dp_lt (t := s3) (by omega) ud
  exact poX (.head _) rfl hR (all_nil) (all_nil) (all_cons ⟨[s6, 0, (s2 + 1), (3 * s3 + 1)], ⟨sE_V rfl, sE_k _ _, sEv (y' := ((1 : Int) + ((1 : Int) * s2 + 0))) rfl (by omega), sEv (y' := ((1 : Int) + ((3 : Int) * s3 + 0))) rfl (by omega), trivial⟩, (show SG (XT hp) (nmR hp (xnm hp)) s6 (0 : Int) (s2 + 1) (3 * s3 + 1) from s0_not f0.1 (by omega) (by omega) (by omega) (by omega) ud)⟩ (all_cons ⟨[(3 * s3 + 1), 4], ⟨sEv (y' := ((1 : Int) + ((3 : Int) * s3 + 0))) rfl (by omega), sE_k _ _, trivial⟩, (show (4 : Int) = dp (3 * s3 + 1) + 1 from dp_31 (t := s3) (by omega) (by omega) f1 (by omega) rfl)⟩ (all_cons ⟨[(3 * s3 + 1), s8], ⟨sEv (y' := ((1 : Int) + ((3 : Int) * s3 + 0))) rfl (by omega), sE_V rfl, trivial⟩, (show s8 = nr (3 * s3 + 1) from nr_31' (t := s3) (by omega) (by omega) f2 rfl)⟩ (all_nil))))
theorem rl432 : ruOk fFS gR432 := by
  intro r hp hO hN hH
  obtain ⟨s0, s1, s2, s3, s4, s5, s6, s7, s8, rfl⟩ := len9 (show r.length = 9 from hN.1)
  have hR := hN.2.1.1
  have hIv : ∀ q ∈ ([(0, .negSucc 2147483647, .ofNat 2147483647), (1, .ofNat 0, .ofNat 0), (2, .ofNat 0, .ofNat 19), (3, .ofNat 0, .ofNat 6560), (4, .ofNat 1, .ofNat 1), (5, .negSucc 2147483647, .ofNat 2147483647), (6, .negSucc 2147483647, .ofNat 2147483647), (7, .ofNat 21, .ofNat 21), (8, .negSucc 2147483647, .ofNat 2147483647)] : sIv), ∃ x, ([s0, s1, s2, s3, s4, s5, s6, s7, s8] : List Int)[q.1]? = some x ∧ q.2.1 ≤ x ∧ x ≤ q.2.2 := hN.2.1.2
  have b1 : (0 : Int) ≤ s1 ∧ s1 ≤ (0 : Int) := ivX (q := (1, .ofNat 0, .ofNat 0)) (y := s1) (hIv _ (.tail _ (.head _))) rfl
  have b2 : (0 : Int) ≤ s2 ∧ s2 ≤ (19 : Int) := ivX (q := (2, .ofNat 0, .ofNat 19)) (y := s2) (hIv _ (.tail _ (.tail _ (.head _)))) rfl
  have b3 : (0 : Int) ≤ s3 ∧ s3 ≤ (6560 : Int) := ivX (q := (3, .ofNat 0, .ofNat 6560)) (y := s3) (hIv _ (.tail _ (.tail _ (.tail _ (.head _))))) rfl
  have b4 : (1 : Int) ≤ s4 ∧ s4 ≤ (1 : Int) := ivX (q := (4, .ofNat 1, .ofNat 1)) (y := s4) (hIv _ (.tail _ (.tail _ (.tail _ (.tail _ (.head _)))))) rfl
  have b7 : (21 : Int) ≤ s7 ∧ s7 ≤ (21 : Int) := ivX (q := (7, .ofNat 21, .ofNat 21)) (y := s7) (hIv _ (.tail _ (.tail _ (.tail _ (.tail _ (.tail _ (.tail _ (.tail _ (.head _))))))))) rfl
  have hRf : ∀ q ∈ ([((40, .ofNat 173, []), (.ofNat 9, []), 1, .ofNat 0, [])] : List sRf), rfOk [s0, s1, s2, s3, s4, s5, s6, s7, s8] hp q := hH.1
  have h0 : hI hp 173 9 = 0 := rfI0 (hRf _ (.head _)) (sE_k _ _) (sE_k _ _) (sE_k _ _)
  have hFc : ∀ q ∈ ([(192, [(.ofNat 0, [(.ofNat 1, 0)]), (.ofNat 0, [(.ofNat 1, 1)]), (.ofNat 0, [(.ofNat 1, 2)]), (.ofNat 0, [(.ofNat 1, 3)]), (.ofNat 0, [(.ofNat 1, 4)]), (.ofNat 0, [(.ofNat 1, 5)]), (.ofNat 0, [(.ofNat 1, 6)]), (.ofNat 0, [(.ofNat 1, 7)])]), (199, [(.ofNat 0, [(.ofNat 1, 3)]), (.ofNat 4, [])]), (200, [(.ofNat 0, [(.ofNat 1, 3)]), (.ofNat 0, [(.ofNat 1, 8)])])] : List sFc), fcOk fFS [s0, s1, s2, s3, s4, s5, s6, s7, s8] hp q := hH.2
  have f0 : SHq (XT hp) (nmR hp (xnm hp)) s0 s1 s2 s3 s4 s5 s6 s7 ∧ s4 ≠ 4 := fcX (ys := [s0, s1, s2, s3, s4, s5, s6, s7]) (hFc _ (.head _)) ⟨sE_V rfl, sE_V rfl, sE_V rfl, sE_V rfl, sE_V rfl, sE_V rfl, sE_V rfl, sE_V rfl, trivial⟩
  have f1 : (4 : Int) = dp s3 + 1 := fcX (ys := [s3, 4]) (hFc _ (.tail _ (.head _))) ⟨sE_V rfl, sE_k _ _, trivial⟩
  have f2 : s8 = nr s3 := fcX (ys := [s3, s8]) (hFc _ (.tail _ (.tail _ (.head _)))) ⟨sE_V rfl, sE_V rfl, trivial⟩
  have ud : dp s3 ≤ 7 := by omega
  have ut := dp_lt (t := s3) (by omega) ud
  exact poX (.head _) rfl hR (all_nil) (all_nil) (all_cons ⟨[s6, 0, (s2 + 1), (3 * s3 + 1)], ⟨sE_V rfl, sE_k _ _, sEv (y' := ((1 : Int) + ((1 : Int) * s2 + 0))) rfl (by omega), sEv (y' := ((1 : Int) + ((3 : Int) * s3 + 0))) rfl (by omega), trivial⟩, (show SG (XT hp) (nmR hp (xnm hp)) s6 (0 : Int) (s2 + 1) (3 * s3 + 1) from s0_not f0.1 (by omega) (by omega) (by omega) (by omega) ud)⟩ (all_cons ⟨[(3 * s3 + 1), 5], ⟨sEv (y' := ((1 : Int) + ((3 : Int) * s3 + 0))) rfl (by omega), sE_k _ _, trivial⟩, (show (5 : Int) = dp (3 * s3 + 1) + 1 from dp_31 (t := s3) (by omega) (by omega) f1 (by omega) rfl)⟩ (all_cons ⟨[(3 * s3 + 1), s8], ⟨sEv (y' := ((1 : Int) + ((3 : Int) * s3 + 0))) rfl (by omega), sE_V rfl, trivial⟩, (show s8 = nr (3 * s3 + 1) from nr_31' (t := s3) (by omega) (by omega) f2 rfl)⟩ (all_nil))))
theorem rl433 : ruOk fFS gR433 := by
  intro r hp hO hN hH
  obtain ⟨s0, s1, s2, s3, s4, s5, s6, s7, s8, rfl⟩ := len9 (show r.length = 9 from hN.1)
  have hR := hN.2.1.1
  have hIv : ∀ q ∈ ([(0, .negSucc 2147483647, .ofNat 2147483647), (1, .ofNat 0, .ofNat 0), (2, .ofNat 0, .ofNat 19), (3, .ofNat 0, .ofNat 6560), (4, .ofNat 1, .ofNat 1), (5, .negSucc 2147483647, .ofNat 2147483647), (6, .negSucc 2147483647, .ofNat 2147483647), (7, .ofNat 21, .ofNat 21), (8, .negSucc 2147483647, .ofNat 2147483647)] : sIv), ∃ x, ([s0, s1, s2, s3, s4, s5, s6, s7, s8] : List Int)[q.1]? = some x ∧ q.2.1 ≤ x ∧ x ≤ q.2.2 := hN.2.1.2
  have b1 : (0 : Int) ≤ s1 ∧ s1 ≤ (0 : Int) := ivX (q := (1, .ofNat 0, .ofNat 0)) (y := s1) (hIv _ (.tail _ (.head _))) rfl
  have b2 : (0 : Int) ≤ s2 ∧ s2 ≤ (19 : Int) := ivX (q := (2, .ofNat 0, .ofNat 19)) (y := s2) (hIv _ (.tail _ (.tail _ (.head _)))) rfl
  have b3 : (0 : Int) ≤ s3 ∧ s3 ≤ (6560 : Int) := ivX (q := (3, .ofNat 0, .ofNat 6560)) (y := s3) (hIv _ (.tail _ (.tail _ (.tail _ (.head _))))) rfl
  have b4 : (1 : Int) ≤ s4 ∧ s4 ≤ (1 : Int) := ivX (q := (4, .ofNat 1, .ofNat 1)) (y := s4) (hIv _ (.tail _ (.tail _ (.tail _ (.tail _ (.head _)))))) rfl
  have b7 : (21 : Int) ≤ s7 ∧ s7 ≤ (21 : Int) := ivX (q := (7, .ofNat 21, .ofNat 21)) (y := s7) (hIv _ (.tail _ (.tail _ (.tail _ (.tail _ (.tail _ (.tail _ (.tail _ (.head _))))))))) rfl
  have hRf : ∀ q ∈ ([((40, .ofNat 173, []), (.ofNat 9, []), 1, .ofNat 0, [])] : List sRf), rfOk [s0, s1, s2, s3, s4, s5, s6, s7, s8] hp q := hH.1
  have h0 : hI hp 173 9 = 0 := rfI0 (hRf _ (.head _)) (sE_k _ _) (sE_k _ _) (sE_k _ _)
  have hFc : ∀ q ∈ ([(192, [(.ofNat 0, [(.ofNat 1, 0)]), (.ofNat 0, [(.ofNat 1, 1)]), (.ofNat 0, [(.ofNat 1, 2)]), (.ofNat 0, [(.ofNat 1, 3)]), (.ofNat 0, [(.ofNat 1, 4)]), (.ofNat 0, [(.ofNat 1, 5)]), (.ofNat 0, [(.ofNat 1, 6)]), (.ofNat 0, [(.ofNat 1, 7)])]), (199, [(.ofNat 0, [(.ofNat 1, 3)]), (.ofNat 5, [])]), (200, [(.ofNat 0, [(.ofNat 1, 3)]), (.ofNat 0, [(.ofNat 1, 8)])])] : List sFc), fcOk fFS [s0, s1, s2, s3, s4, s5, s6, s7, s8] hp q := hH.2
  have f0 : SHq (XT hp) (nmR hp (xnm hp)) s0 s1 s2 s3 s4 s5 s6 s7 ∧ s4 ≠ 4 := fcX (ys := [s0, s1, s2, s3, s4, s5, s6, s7]) (hFc _ (.head _)) ⟨sE_V rfl, sE_V rfl, sE_V rfl, sE_V rfl, sE_V rfl, sE_V rfl, sE_V rfl, sE_V rfl, trivial⟩
  have f1 : (5 : Int) = dp s3 + 1 := fcX (ys := [s3, 5]) (hFc _ (.tail _ (.head _))) ⟨sE_V rfl, sE_k _ _, trivial⟩
  have f2 : s8 = nr s3 := fcX (ys := [s3, s8]) (hFc _ (.tail _ (.tail _ (.head _)))) ⟨sE_V rfl, sE_V rfl, trivial⟩
  have ud : dp s3 ≤ 7 := by omega
  have ut := dp_lt (t := s3) (by omega) ud
  exact poX (.head _) rfl hR (all_nil) (all_nil) (all_cons ⟨[s6, 0, (s2 + 1), (3 * s3 + 1)], ⟨sE_V rfl, sE_k _ _, sEv (y' := ((1 : Int) + ((1 : Int) * s2 + 0))) rfl (by omega), sEv (y' := ((1 : Int) + ((3 : Int) * s3 + 0))) rfl (by omega), trivial⟩, (show SG (XT hp) (nmR hp (xnm hp)) s6 (0 : Int) (s2 + 1) (3 * s3 + 1) from s0_not f0.1 (by omega) (by omega) (by omega) (by omega) ud)⟩ (all_cons ⟨[(3 * s3 + 1), 6], ⟨sEv (y' := ((1 : Int) + ((3 : Int) * s3 + 0))) rfl (by omega), sE_k _ _, trivial⟩, (show (6 : Int) = dp (3 * s3 + 1) + 1 from dp_31 (t := s3) (by omega) (by omega) f1 (by omega) rfl)⟩ (all_cons ⟨[(3 * s3 + 1), s8], ⟨sEv (y' := ((1 : Int) + ((3 : Int) * s3 + 0))) rfl (by omega), sE_V rfl, trivial⟩, (show s8 = nr (3 * s3 + 1) from nr_31' (t := s3) (by omega) (by omega) f2 rfl)⟩ (all_nil))))
theorem rl434 : ruOk fFS gR434 := by
  intro r hp hO hN hH
  obtain ⟨s0, s1, s2, s3, s4, s5, s6, s7, s8, rfl⟩ := len9 (show r.length = 9 from hN.1)
  have hR := hN.2.1.1
  have hIv : ∀ q ∈ ([(0, .negSucc 2147483647, .ofNat 2147483647), (1, .ofNat 0, .ofNat 0), (2, .ofNat 0, .ofNat 19), (3, .ofNat 0, .ofNat 6560), (4, .ofNat 1, .ofNat 1), (5, .negSucc 2147483647, .ofNat 2147483647), (6, .negSucc 2147483647, .ofNat 2147483647), (7, .ofNat 21, .ofNat 21), (8, .negSucc 2147483647, .ofNat 2147483647)] : sIv), ∃ x, ([s0, s1, s2, s3, s4, s5, s6, s7, s8] : List Int)[q.1]? = some x ∧ q.2.1 ≤ x ∧ x ≤ q.2.2 := hN.2.1.2
  have b1 : (0 : Int) ≤ s1 ∧ s1 ≤ (0 : Int) := ivX (q := (1, .ofNat 0, .ofNat 0)) (y := s1) (hIv _ (.tail _ (.head _))) rfl
  have b2 : (0 : Int) ≤ s2 ∧ s2 ≤ (19 : Int) := ivX (q := (2, .ofNat 0, .ofNat 19)) (y := s2) (hIv _ (.tail _ (.tail _ (.head _)))) rfl
  have b3 : (0 : Int) ≤ s3 ∧ s3 ≤ (6560 : Int) := ivX (q := (3, .ofNat 0, .ofNat 6560)) (y := s3) (hIv _ (.tail _ (.tail _ (.tail _ (.head _))))) rfl
  have b4 : (1 : Int) ≤ s4 ∧ s4 ≤ (1 : Int) := ivX (q := (4, .ofNat 1, .ofNat 1)) (y := s4) (hIv _ (.tail _ (.tail _ (.tail _ (.tail _ (.head _)))))) rfl
  have b7 : (21 : Int) ≤ s7 ∧ s7 ≤ (21 : Int) := ivX (q := (7, .ofNat 21, .ofNat 21)) (y := s7) (hIv _ (.tail _ (.tail _ (.tail _ (.tail _ (.tail _ (.tail _ (.tail _ (.head _))))))))) rfl
  have hRf : ∀ q ∈ ([((40, .ofNat 173, []), (.ofNat 9, []), 1, .ofNat 0, [])] : List sRf), rfOk [s0, s1, s2, s3, s4, s5, s6, s7, s8] hp q := hH.1
  have h0 : hI hp 173 9 = 0 := rfI0 (hRf _ (.head _)) (sE_k _ _) (sE_k _ _) (sE_k _ _)
  have hFc : ∀ q ∈ ([(192, [(.ofNat 0, [(.ofNat 1, 0)]), (.ofNat 0, [(.ofNat 1, 1)]), (.ofNat 0, [(.ofNat 1, 2)]), (.ofNat 0, [(.ofNat 1, 3)]), (.ofNat 0, [(.ofNat 1, 4)]), (.ofNat 0, [(.ofNat 1, 5)]), (.ofNat 0, [(.ofNat 1, 6)]), (.ofNat 0, [(.ofNat 1, 7)])]), (199, [(.ofNat 0, [(.ofNat 1, 3)]), (.ofNat 6, [])]), (200, [(.ofNat 0, [(.ofNat 1, 3)]), (.ofNat 0, [(.ofNat 1, 8)])])] : List sFc), fcOk fFS [s0, s1, s2, s3, s4, s5, s6, s7, s8] hp q := hH.2
  have f0 : SHq (XT hp) (nmR hp (xnm hp)) s0 s1 s2 s3 s4 s5 s6 s7 ∧ s4 ≠ 4 := fcX (ys := [s0, s1, s2, s3, s4, s5, s6, s7]) (hFc _ (.head _)) ⟨sE_V rfl, sE_V rfl, sE_V rfl, sE_V rfl, sE_V rfl, sE_V rfl, sE_V rfl, sE_V rfl, trivial⟩
  have f1 : (6 : Int) = dp s3 + 1 := fcX (ys := [s3, 6]) (hFc _ (.tail _ (.head _))) ⟨sE_V rfl, sE_k _ _, trivial⟩
  have f2 : s8 = nr s3 := fcX (ys := [s3, s8]) (hFc _ (.tail _ (.tail _ (.head _)))) ⟨sE_V rfl, sE_V rfl, trivial⟩
  have ud : dp s3 ≤ 7 := by omega
  have ut := dp_lt (t := s3) (by omega) ud
  exact poX (.head _) rfl hR (all_nil) (all_nil) (all_cons ⟨[s6, 0, (s2 + 1), (3 * s3 + 1)], ⟨sE_V rfl, sE_k _ _, sEv (y' := ((1 : Int) + ((1 : Int) * s2 + 0))) rfl (by omega), sEv (y' := ((1 : Int) + ((3 : Int) * s3 + 0))) rfl (by omega), trivial⟩, (show SG (XT hp) (nmR hp (xnm hp)) s6 (0 : Int) (s2 + 1) (3 * s3 + 1) from s0_not f0.1 (by omega) (by omega) (by omega) (by omega) ud)⟩ (all_cons ⟨[(3 * s3 + 1), 7], ⟨sEv (y' := ((1 : Int) + ((3 : Int) * s3 + 0))) rfl (by omega), sE_k _ _, trivial⟩, (show (7 : Int) = dp (3 * s3 + 1) + 1 from dp_31 (t := s3) (by omega) (by omega) f1 (by omega) rfl)⟩ (all_cons ⟨[(3 * s3 + 1), s8], ⟨sEv (y' := ((1 : Int) + ((3 : Int) * s3 + 0))) rfl (by omega), sE_V rfl, trivial⟩, (show s8 = nr (3 * s3 + 1) from nr_31' (t := s3) (by omega) (by omega) f2 rfl)⟩ (all_nil))))
theorem rl435 : ruOk fFS gR435 := by
  intro r hp hO hN hH
  obtain ⟨s0, s1, s2, s3, s4, s5, s6, s7, s8, rfl⟩ := len9 (show r.length = 9 from hN.1)
  have hR := hN.2.1.1
  have hIv : ∀ q ∈ ([(0, .negSucc 2147483647, .ofNat 2147483647), (1, .ofNat 0, .ofNat 0), (2, .ofNat 0, .ofNat 19), (3, .ofNat 0, .ofNat 6560), (4, .ofNat 1, .ofNat 1), (5, .negSucc 2147483647, .ofNat 2147483647), (6, .negSucc 2147483647, .ofNat 2147483647), (7, .ofNat 21, .ofNat 21), (8, .negSucc 2147483647, .ofNat 2147483647)] : sIv), ∃ x, ([s0, s1, s2, s3, s4, s5, s6, s7, s8] : List Int)[q.1]? = some x ∧ q.2.1 ≤ x ∧ x ≤ q.2.2 := hN.2.1.2
  have b1 : (0 : Int) ≤ s1 ∧ s1 ≤ (0 : Int) := ivX (q := (1, .ofNat 0, .ofNat 0)) (y := s1) (hIv _ (.tail _ (.head _))) rfl
  have b2 : (0 : Int) ≤ s2 ∧ s2 ≤ (19 : Int) := ivX (q := (2, .ofNat 0, .ofNat 19)) (y := s2) (hIv _ (.tail _ (.tail _ (.head _)))) rfl
  have b3 : (0 : Int) ≤ s3 ∧ s3 ≤ (6560 : Int) := ivX (q := (3, .ofNat 0, .ofNat 6560)) (y := s3) (hIv _ (.tail _ (.tail _ (.tail _ (.head _))))) rfl
  have b4 : (1 : Int) ≤ s4 ∧ s4 ≤ (1 : Int) := ivX (q := (4, .ofNat 1, .ofNat 1)) (y := s4) (hIv _ (.tail _ (.tail _ (.tail _ (.tail _ (.head _)))))) rfl
  have b7 : (21 : Int) ≤ s7 ∧ s7 ≤ (21 : Int) := ivX (q := (7, .ofNat 21, .ofNat 21)) (y := s7) (hIv _ (.tail _ (.tail _ (.tail _ (.tail _ (.tail _ (.tail _ (.tail _ (.head _))))))))) rfl
  have hRf : ∀ q ∈ ([((40, .ofNat 173, []), (.ofNat 9, []), 1, .ofNat 0, [])] : List sRf), rfOk [s0, s1, s2, s3, s4, s5, s6, s7, s8] hp q := hH.1
  have h0 : hI hp 173 9 = 0 := rfI0 (hRf _ (.head _)) (sE_k _ _) (sE_k _ _) (sE_k _ _)
  have hFc : ∀ q ∈ ([(192, [(.ofNat 0, [(.ofNat 1, 0)]), (.ofNat 0, [(.ofNat 1, 1)]), (.ofNat 0, [(.ofNat 1, 2)]), (.ofNat 0, [(.ofNat 1, 3)]), (.ofNat 0, [(.ofNat 1, 4)]), (.ofNat 0, [(.ofNat 1, 5)]), (.ofNat 0, [(.ofNat 1, 6)]), (.ofNat 0, [(.ofNat 1, 7)])]), (199, [(.ofNat 0, [(.ofNat 1, 3)]), (.ofNat 7, [])]), (200, [(.ofNat 0, [(.ofNat 1, 3)]), (.ofNat 0, [(.ofNat 1, 8)])])] : List sFc), fcOk fFS [s0, s1, s2, s3, s4, s5, s6, s7, s8] hp q := hH.2
  have f0 : SHq (XT hp) (nmR hp (xnm hp)) s0 s1 s2 s3 s4 s5 s6 s7 ∧ s4 ≠ 4 := fcX (ys := [s0, s1, s2, s3, s4, s5, s6, s7]) (hFc _ (.head _)) ⟨sE_V rfl, sE_V rfl, sE_V rfl, sE_V rfl, sE_V rfl, sE_V rfl, sE_V rfl, sE_V rfl, trivial⟩
  have f1 : (7 : Int) = dp s3 + 1 := fcX (ys := [s3, 7]) (hFc _ (.tail _ (.head _))) ⟨sE_V rfl, sE_k _ _, trivial⟩
  have f2 : s8 = nr s3 := fcX (ys := [s3, s8]) (hFc _ (.tail _ (.tail _ (.head _)))) ⟨sE_V rfl, sE_V rfl, trivial⟩
  have ud : dp s3 ≤ 7 := by omega
  have ut := dp_lt (t := s3) (by omega) ud
  exact poX (.head _) rfl hR (all_nil) (all_nil) (all_cons ⟨[s6, 0, (s2 + 1), (3 * s3 + 1)], ⟨sE_V rfl, sE_k _ _, sEv (y' := ((1 : Int) + ((1 : Int) * s2 + 0))) rfl (by omega), sEv (y' := ((1 : Int) + ((3 : Int) * s3 + 0))) rfl (by omega), trivial⟩, (show SG (XT hp) (nmR hp (xnm hp)) s6 (0 : Int) (s2 + 1) (3 * s3 + 1) from s0_not f0.1 (by omega) (by omega) (by omega) (by omega) ud)⟩ (all_cons ⟨[(3 * s3 + 1), 8], ⟨sEv (y' := ((1 : Int) + ((3 : Int) * s3 + 0))) rfl (by omega), sE_k _ _, trivial⟩, (show (8 : Int) = dp (3 * s3 + 1) + 1 from dp_31 (t := s3) (by omega) (by omega) f1 (by omega) rfl)⟩ (all_cons ⟨[(3 * s3 + 1), s8], ⟨sEv (y' := ((1 : Int) + ((3 : Int) * s3 + 0))) rfl (by omega), sE_V rfl, trivial⟩, (show s8 = nr (3 * s3 + 1) from nr_31' (t := s3) (by omega) (by omega) f2 rfl)⟩ (all_nil))))
theorem rl436 : ruOk fFS gR436 := by
  intro r hp hO hN hH
  obtain ⟨s0, s1, s2, s3, s4, s5, s6, s7, s8, rfl⟩ := len9 (show r.length = 9 from hN.1)
  have hR := hN.2.1.1
  have hIv : ∀ q ∈ ([(0, .negSucc 2147483647, .ofNat 2147483647), (1, .ofNat 0, .ofNat 0), (2, .ofNat 0, .ofNat 19), (3, .ofNat 0, .ofNat 6560), (4, .ofNat 1, .ofNat 1), (5, .negSucc 2147483647, .ofNat 2147483647), (6, .negSucc 2147483647, .ofNat 2147483647), (7, .ofNat 21, .ofNat 21), (8, .negSucc 2147483647, .ofNat 2147483647)] : sIv), ∃ x, ([s0, s1, s2, s3, s4, s5, s6, s7, s8] : List Int)[q.1]? = some x ∧ q.2.1 ≤ x ∧ x ≤ q.2.2 := hN.2.1.2
  have b1 : (0 : Int) ≤ s1 ∧ s1 ≤ (0 : Int) := ivX (q := (1, .ofNat 0, .ofNat 0)) (y := s1) (hIv _ (.tail _ (.head _))) rfl
  have b2 : (0 : Int) ≤ s2 ∧ s2 ≤ (19 : Int) := ivX (q := (2, .ofNat 0, .ofNat 19)) (y := s2) (hIv _ (.tail _ (.tail _ (.head _)))) rfl
  have b3 : (0 : Int) ≤ s3 ∧ s3 ≤ (6560 : Int) := ivX (q := (3, .ofNat 0, .ofNat 6560)) (y := s3) (hIv _ (.tail _ (.tail _ (.tail _ (.head _))))) rfl
  have b4 : (1 : Int) ≤ s4 ∧ s4 ≤ (1 : Int) := ivX (q := (4, .ofNat 1, .ofNat 1)) (y := s4) (hIv _ (.tail _ (.tail _ (.tail _ (.tail _ (.head _)))))) rfl
  have b7 : (21 : Int) ≤ s7 ∧ s7 ≤ (21 : Int) := ivX (q := (7, .ofNat 21, .ofNat 21)) (y := s7) (hIv _ (.tail _ (.tail _ (.tail _ (.tail _ (.tail _ (.tail _ (.tail _ (.head _))))))))) rfl
  have hRf : ∀ q ∈ ([((40, .ofNat 173, []), (.ofNat 9, []), 1, .ofNat 0, [])] : List sRf), rfOk [s0, s1, s2, s3, s4, s5, s6, s7, s8] hp q := hH.1
  have h0 : hI hp 173 9 = 0 := rfI0 (hRf _ (.head _)) (sE_k _ _) (sE_k _ _) (sE_k _ _)
  have hFc : ∀ q ∈ ([(192, [(.ofNat 0, [(.ofNat 1, 0)]), (.ofNat 0, [(.ofNat 1, 1)]), (.ofNat 0, [(.ofNat 1, 2)]), (.ofNat 0, [(.ofNat 1, 3)]), (.ofNat 0, [(.ofNat 1, 4)]), (.ofNat 0, [(.ofNat 1, 5)]), (.ofNat 0, [(.ofNat 1, 6)]), (.ofNat 0, [(.ofNat 1, 7)])]), (199, [(.ofNat 0, [(.ofNat 1, 3)]), (.ofNat 8, [])]), (200, [(.ofNat 0, [(.ofNat 1, 3)]), (.ofNat 0, [(.ofNat 1, 8)])])] : List sFc), fcOk fFS [s0, s1, s2, s3, s4, s5, s6, s7, s8] hp q := hH.2
  have f0 : SHq (XT hp) (nmR hp (xnm hp)) s0 s1 s2 s3 s4 s5 s6 s7 ∧ s4 ≠ 4 := fcX (ys := [s0, s1, s2, s3, s4, s5, s6, s7]) (hFc _ (.head _)) ⟨sE_V rfl, sE_V rfl, sE_V rfl, sE_V rfl, sE_V rfl, sE_V rfl, sE_V rfl, sE_V rfl, trivial⟩
  have f1 : (8 : Int) = dp s3 + 1 := fcX (ys := [s3, 8]) (hFc _ (.tail _ (.head _))) ⟨sE_V rfl, sE_k _ _, trivial⟩
  have f2 : s8 = nr s3 := fcX (ys := [s3, s8]) (hFc _ (.tail _ (.tail _ (.head _)))) ⟨sE_V rfl, sE_V rfl, trivial⟩
  have ud : dp s3 ≤ 7 := by omega
  have ut := dp_lt (t := s3) (by omega) ud
  exact poX (.head _) rfl hR (all_nil) (all_nil) (all_cons ⟨[s6, 0, (s2 + 1), (3 * s3 + 1)], ⟨sE_V rfl, sE_k _ _, sEv (y' := ((1 : Int) + ((1 : Int) * s2 + 0))) rfl (by omega), sEv (y' := ((1 : Int) + ((3 : Int) * s3 + 0))) rfl (by omega), trivial⟩, (show SG (XT hp) (nmR hp (xnm hp)) s6 (0 : Int) (s2 + 1) (3 * s3 + 1) from s0_not f0.1 (by omega) (by omega) (by omega) (by omega) ud)⟩ (all_cons ⟨[(3 * s3 + 1), 9], ⟨sEv (y' := ((1 : Int) + ((3 : Int) * s3 + 0))) rfl (by omega), sE_k _ _, trivial⟩, (show (9 : Int) = dp (3 * s3 + 1) + 1 from dp_31 (t := s3) (by omega) (by omega) f1 (by omega) rfl)⟩ (all_cons ⟨[(3 * s3 + 1), s8], ⟨sEv (y' := ((1 : Int) + ((3 : Int) * s3 + 0))) rfl (by omega), sE_V rfl, trivial⟩, (show s8 = nr (3 * s3 + 1) from nr_31' (t := s3) (by omega) (by omega) f2 rfl)⟩ (all_nil))))
theorem rl437 : ruOk fFS gR437 := by
  intro r hp hO hN hH
  obtain ⟨s0, s1, s2, s3, s4, s5, s6, s7, rfl⟩ := len8 (show r.length = 8 from hN.1)
  have hR := hN.2.1.1
  have hIv : ∀ q ∈ ([(0, .negSucc 2147483647, .ofNat 2147483647), (1, .negSucc 2147483647, .ofNat 2147483647), (2, .negSucc 2147483647, .ofNat 2147483647), (3, .negSucc 2147483647, .ofNat 2147483647), (4, .ofNat 0, .ofNat 3), (5, .negSucc 2147483647, .ofNat 2147483647), (6, .negSucc 2147483647, .ofNat 2147483647), (7, .negSucc 2147483647, .ofNat 2147483647)] : sIv), ∃ x, ([s0, s1, s2, s3, s4, s5, s6, s7] : List Int)[q.1]? = some x ∧ q.2.1 ≤ x ∧ x ≤ q.2.2 := hN.2.1.2
  have b4 : (0 : Int) ≤ s4 ∧ s4 ≤ (3 : Int) := ivX (q := (4, .ofNat 0, .ofNat 3)) (y := s4) (hIv _ (.tail _ (.tail _ (.tail _ (.tail _ (.head _)))))) rfl
  have hRf : ∀ q ∈ ([((40, .ofNat 173, []), (.ofNat 9, []), 1, .ofNat 0, [])] : List sRf), rfOk [s0, s1, s2, s3, s4, s5, s6, s7] hp q := hH.1
  have h0 : hI hp 173 9 = 0 := rfI0 (hRf _ (.head _)) (sE_k _ _) (sE_k _ _) (sE_k _ _)
  have hFc : ∀ q ∈ ([(192, [(.ofNat 0, [(.ofNat 1, 0)]), (.ofNat 0, [(.ofNat 1, 1)]), (.ofNat 0, [(.ofNat 1, 2)]), (.ofNat 0, [(.ofNat 1, 3)]), (.ofNat 0, [(.ofNat 1, 4)]), (.ofNat 0, [(.ofNat 1, 5)]), (.ofNat 0, [(.ofNat 1, 6)]), (.ofNat 0, [(.ofNat 1, 7)])])] : List sFc), fcOk fFS [s0, s1, s2, s3, s4, s5, s6, s7] hp q := hH.2
  have f0 : SHq (XT hp) (nmR hp (xnm hp)) s0 s1 s2 s3 s4 s5 s6 s7 ∧ s4 ≠ 4 := fcX (ys := [s0, s1, s2, s3, s4, s5, s6, s7]) (hFc _ (.head _)) ⟨sE_V rfl, sE_V rfl, sE_V rfl, sE_V rfl, sE_V rfl, sE_V rfl, sE_V rfl, sE_V rfl, trivial⟩
  have u := sh_bd (XT_ok hO) f0.1
  have y : (((0 : Int) ≤ s4 ∧ s4 ≤ (0 : Int))) ∨ (((1 : Int) ≤ s4 ∧ s4 ≤ (1 : Int))) ∨ (((2 : Int) ≤ s4 ∧ s4 ≤ (2 : Int))) ∨ (((3 : Int) ≤ s4 ∧ s4 ≤ (3 : Int))) := by omega
  rcases y with y | y | y | y
  · exact poX (.head _) rfl hR (all_cons (ivO (y := s4) rfl (show (0 : Int) ≤ s4 by omega) (show s4 ≤ (0 : Int) by omega)) (all_nil)) (all_nil) (all_nil)
  · exact poX (.tail _ (.head _)) rfl hR (all_cons (ivO (y := s4) rfl (show (1 : Int) ≤ s4 by omega) (show s4 ≤ (1 : Int) by omega)) (all_nil)) (all_nil) (all_nil)
  · exact poX (.tail _ (.tail _ (.head _))) rfl hR (all_cons (ivO (y := s4) rfl (show (2 : Int) ≤ s4 by omega) (show s4 ≤ (2 : Int) by omega)) (all_nil)) (all_nil) (all_nil)
  · exact poX (.tail _ (.tail _ (.tail _ (.head _)))) rfl hR (all_cons (ivO (y := s4) rfl (show (3 : Int) ≤ s4 by omega) (show s4 ≤ (3 : Int) by omega)) (all_nil)) (all_nil) (all_nil)
theorem rl438 : ruOk fFS gR438 := by
  intro r hp hO hN hH
  obtain ⟨s0, s1, s2, s3, s4, s5, s6, s7, rfl⟩ := len8 (show r.length = 8 from hN.1)
  have hR := hN.2.1.1
  have hIv : ∀ q ∈ ([(0, .negSucc 2147483647, .ofNat 2147483647), (1, .negSucc 2147483647, .ofNat 2147483647), (2, .negSucc 2147483647, .ofNat 2147483647), (3, .negSucc 2147483647, .ofNat 2147483647), (4, .ofNat 1, .ofNat 1), (5, .negSucc 2147483647, .ofNat 2147483647), (6, .negSucc 2147483647, .ofNat 2147483647), (7, .negSucc 2147483647, .ofNat 2147483647)] : sIv), ∃ x, ([s0, s1, s2, s3, s4, s5, s6, s7] : List Int)[q.1]? = some x ∧ q.2.1 ≤ x ∧ x ≤ q.2.2 := hN.2.1.2
  have b4 : (1 : Int) ≤ s4 ∧ s4 ≤ (1 : Int) := ivX (q := (4, .ofNat 1, .ofNat 1)) (y := s4) (hIv _ (.tail _ (.tail _ (.tail _ (.tail _ (.head _)))))) rfl
  have b7 : (-2147483648 : Int) ≤ s7 ∧ s7 ≤ (2147483647 : Int) := ivX (q := (7, .negSucc 2147483647, .ofNat 2147483647)) (y := s7) (hIv _ (.tail _ (.tail _ (.tail _ (.tail _ (.tail _ (.tail _ (.tail _ (.head _))))))))) rfl
  have hRf : ∀ q ∈ ([((40, .ofNat 173, []), (.ofNat 9, []), 1, .ofNat 0, [])] : List sRf), rfOk [s0, s1, s2, s3, s4, s5, s6, s7] hp q := hH.1
  have h0 : hI hp 173 9 = 0 := rfI0 (hRf _ (.head _)) (sE_k _ _) (sE_k _ _) (sE_k _ _)
  have hFc : ∀ q ∈ ([(192, [(.ofNat 0, [(.ofNat 1, 0)]), (.ofNat 0, [(.ofNat 1, 1)]), (.ofNat 0, [(.ofNat 1, 2)]), (.ofNat 0, [(.ofNat 1, 3)]), (.ofNat 0, [(.ofNat 1, 4)]), (.ofNat 0, [(.ofNat 1, 5)]), (.ofNat 0, [(.ofNat 1, 6)]), (.ofNat 0, [(.ofNat 1, 7)])])] : List sFc), fcOk fFS [s0, s1, s2, s3, s4, s5, s6, s7] hp q := hH.2
  have f0 : SHq (XT hp) (nmR hp (xnm hp)) s0 s1 s2 s3 s4 s5 s6 s7 ∧ s4 ≠ 4 := fcX (ys := [s0, s1, s2, s3, s4, s5, s6, s7]) (hFc _ (.head _)) ⟨sE_V rfl, sE_V rfl, sE_V rfl, sE_V rfl, sE_V rfl, sE_V rfl, sE_V rfl, sE_V rfl, trivial⟩
  have u := sh_bd (XT_ok hO) f0.1
  have u3 := sh_k1 (XT_ok hO) f0.1 (by omega)
  exact poX (.head _) rfl hR (all_cons (ivO (y := s7) rfl (show (-1 : Int) ≤ s7 by omega) (show s7 ≤ (29 : Int) by omega)) (all_nil)) (all_nil) (all_nil)
theorem rl439 : ruOk fFS gR439 := by
  intro r hp hO hN hH
  obtain ⟨s0, s1, s2, s3, s4, s5, s6, s7, rfl⟩ := len8 (show r.length = 8 from hN.1)
  have hR := hN.2.1.1
  have hIv : ∀ q ∈ ([(0, .negSucc 2147483647, .ofNat 2147483647), (1, .negSucc 2147483647, .ofNat 2147483647), (2, .negSucc 2147483647, .ofNat 2147483647), (3, .negSucc 2147483647, .ofNat 2147483647), (4, .ofNat 1, .ofNat 1), (5, .negSucc 2147483647, .ofNat 2147483647), (6, .negSucc 2147483647, .ofNat 2147483647), (7, .negSucc 0, .ofNat 29)] : sIv), ∃ x, ([s0, s1, s2, s3, s4, s5, s6, s7] : List Int)[q.1]? = some x ∧ q.2.1 ≤ x ∧ x ≤ q.2.2 := hN.2.1.2
  have b4 : (1 : Int) ≤ s4 ∧ s4 ≤ (1 : Int) := ivX (q := (4, .ofNat 1, .ofNat 1)) (y := s4) (hIv _ (.tail _ (.tail _ (.tail _ (.tail _ (.head _)))))) rfl
  have b7 : (-1 : Int) ≤ s7 ∧ s7 ≤ (29 : Int) := ivX (q := (7, .negSucc 0, .ofNat 29)) (y := s7) (hIv _ (.tail _ (.tail _ (.tail _ (.tail _ (.tail _ (.tail _ (.tail _ (.head _))))))))) rfl
  have hRf : ∀ q ∈ ([((40, .ofNat 173, []), (.ofNat 9, []), 1, .ofNat 0, [])] : List sRf), rfOk [s0, s1, s2, s3, s4, s5, s6, s7] hp q := hH.1
  have h0 : hI hp 173 9 = 0 := rfI0 (hRf _ (.head _)) (sE_k _ _) (sE_k _ _) (sE_k _ _)
  have hFc : ∀ q ∈ ([(192, [(.ofNat 0, [(.ofNat 1, 0)]), (.ofNat 0, [(.ofNat 1, 1)]), (.ofNat 0, [(.ofNat 1, 2)]), (.ofNat 0, [(.ofNat 1, 3)]), (.ofNat 0, [(.ofNat 1, 4)]), (.ofNat 0, [(.ofNat 1, 5)]), (.ofNat 0, [(.ofNat 1, 6)]), (.ofNat 0, [(.ofNat 1, 7)])])] : List sFc), fcOk fFS [s0, s1, s2, s3, s4, s5, s6, s7] hp q := hH.2
  have f0 : SHq (XT hp) (nmR hp (xnm hp)) s0 s1 s2 s3 s4 s5 s6 s7 ∧ s4 ≠ 4 := fcX (ys := [s0, s1, s2, s3, s4, s5, s6, s7]) (hFc _ (.head _)) ⟨sE_V rfl, sE_V rfl, sE_V rfl, sE_V rfl, sE_V rfl, sE_V rfl, sE_V rfl, sE_V rfl, trivial⟩
  have u := sh_bd (XT_ok hO) f0.1
  have u3 := sh_k1 (XT_ok hO) f0.1 (by omega)
  have y : (((-1 : Int) ≤ s7 ∧ s7 ≤ (18 : Int))) ∨ (((19 : Int) ≤ s7 ∧ s7 ≤ (19 : Int))) ∨ (((20 : Int) ≤ s7 ∧ s7 ≤ (20 : Int))) ∨ (((21 : Int) ≤ s7 ∧ s7 ≤ (29 : Int))) := by omega
  rcases y with y | y | y | y
  · exact poX (.head _) rfl hR (all_cons (ivO (y := s7) rfl (show (-1 : Int) ≤ s7 by omega) (show s7 ≤ (18 : Int) by omega)) (all_nil)) (all_nil) (all_nil)
  · exact poX (.tail _ (.head _)) rfl hR (all_cons (ivO (y := s7) rfl (show (19 : Int) ≤ s7 by omega) (show s7 ≤ (19 : Int) by omega)) (all_nil)) (all_nil) (all_nil)
  · exact poX (.tail _ (.tail _ (.head _))) rfl hR (all_cons (ivO (y := s7) rfl (show (20 : Int) ≤ s7 by omega) (show s7 ≤ (20 : Int) by omega)) (all_nil)) (all_nil) (all_nil)
  · exact poX (.tail _ (.tail _ (.tail _ (.head _)))) rfl hR (all_cons (ivO (y := s7) rfl (show (21 : Int) ≤ s7 by omega) (show s7 ≤ (29 : Int) by omega)) (all_nil)) (all_nil) (all_nil)
theorem rl440 : ruOk fFS gR440 := by
  intro r hp hO hN hH
  obtain ⟨s0, s1, s2, s3, s4, s5, s6, s7, rfl⟩ := len8 (show r.length = 8 from hN.1)
  have hR := hN.2.1.1
  have hIv : ∀ q ∈ ([(0, .negSucc 2147483647, .ofNat 2147483647), (1, .ofNat 6, .ofNat 6), (2, .negSucc 2147483647, .ofNat 2147483647), (3, .negSucc 2147483647, .ofNat 2147483647), (4, .ofNat 1, .ofNat 1), (5, .negSucc 2147483647, .ofNat 2147483647), (6, .negSucc 2147483647, .ofNat 2147483647), (7, .ofNat 19, .ofNat 20)] : sIv), ∃ x, ([s0, s1, s2, s3, s4, s5, s6, s7] : List Int)[q.1]? = some x ∧ q.2.1 ≤ x ∧ x ≤ q.2.2 := hN.2.1.2
  have b1 : (6 : Int) ≤ s1 ∧ s1 ≤ (6 : Int) := ivX (q := (1, .ofNat 6, .ofNat 6)) (y := s1) (hIv _ (.tail _ (.head _))) rfl
  have b4 : (1 : Int) ≤ s4 ∧ s4 ≤ (1 : Int) := ivX (q := (4, .ofNat 1, .ofNat 1)) (y := s4) (hIv _ (.tail _ (.tail _ (.tail _ (.tail _ (.head _)))))) rfl
  have b7 : (19 : Int) ≤ s7 ∧ s7 ≤ (20 : Int) := ivX (q := (7, .ofNat 19, .ofNat 20)) (y := s7) (hIv _ (.tail _ (.tail _ (.tail _ (.tail _ (.tail _ (.tail _ (.tail _ (.head _))))))))) rfl
  have hRf : ∀ q ∈ ([((40, .ofNat 173, []), (.ofNat 9, []), 1, .ofNat 0, [])] : List sRf), rfOk [s0, s1, s2, s3, s4, s5, s6, s7] hp q := hH.1
  have h0 : hI hp 173 9 = 0 := rfI0 (hRf _ (.head _)) (sE_k _ _) (sE_k _ _) (sE_k _ _)
  have hFc : ∀ q ∈ ([(192, [(.ofNat 0, [(.ofNat 1, 0)]), (.ofNat 0, [(.ofNat 1, 1)]), (.ofNat 0, [(.ofNat 1, 2)]), (.ofNat 0, [(.ofNat 1, 3)]), (.ofNat 0, [(.ofNat 1, 4)]), (.ofNat 0, [(.ofNat 1, 5)]), (.ofNat 0, [(.ofNat 1, 6)]), (.ofNat 0, [(.ofNat 1, 7)])])] : List sFc), fcOk fFS [s0, s1, s2, s3, s4, s5, s6, s7] hp q := hH.2
  have f0 : SHq (XT hp) (nmR hp (xnm hp)) s0 s1 s2 s3 s4 s5 s6 s7 ∧ s4 ≠ 4 := fcX (ys := [s0, s1, s2, s3, s4, s5, s6, s7]) (hFc _ (.head _)) ⟨sE_V rfl, sE_V rfl, sE_V rfl, sE_V rfl, sE_V rfl, sE_V rfl, sE_V rfl, sE_V rfl, trivial⟩
  exact poX (.head _) rfl hR (all_nil) (all_nil) (all_cons ⟨[s6, 0, s2, s3], ⟨sE_V rfl, sE_k _ _, sE_V rfl, sE_V rfl, trivial⟩, (show SG (XT hp) (nmR hp (xnm hp)) s6 (0 : Int) s2 s3 from s6_join f0.1 (by omega) (by omega) (by omega))⟩ (all_nil))
theorem rl441 : ruOk fFS gR441 := by
  intro r hp hO hN hH
  obtain ⟨s0, s1, s2, s3, s4, s5, s6, s7, rfl⟩ := len8 (show r.length = 8 from hN.1)
  have hR := hN.2.1.1
  have hIv : ∀ q ∈ ([(0, .negSucc 2147483647, .ofNat 2147483647), (1, .ofNat 6, .ofNat 6), (2, .negSucc 2147483647, .ofNat 2147483647), (3, .ofNat 0, .ofNat 0), (4, .ofNat 2, .ofNat 2), (5, .negSucc 2147483647, .ofNat 2147483647), (6, .negSucc 2147483647, .ofNat 2147483647), (7, .negSucc 2147483647, .ofNat 2147483647)] : sIv), ∃ x, ([s0, s1, s2, s3, s4, s5, s6, s7] : List Int)[q.1]? = some x ∧ q.2.1 ≤ x ∧ x ≤ q.2.2 := hN.2.1.2
  have b1 : (6 : Int) ≤ s1 ∧ s1 ≤ (6 : Int) := ivX (q := (1, .ofNat 6, .ofNat 6)) (y := s1) (hIv _ (.tail _ (.head _))) rfl
  have b3 : (0 : Int) ≤ s3 ∧ s3 ≤ (0 : Int) := ivX (q := (3, .ofNat 0, .ofNat 0)) (y := s3) (hIv _ (.tail _ (.tail _ (.tail _ (.head _))))) rfl
  have b4 : (2 : Int) ≤ s4 ∧ s4 ≤ (2 : Int) := ivX (q := (4, .ofNat 2, .ofNat 2)) (y := s4) (hIv _ (.tail _ (.tail _ (.tail _ (.tail _ (.head _)))))) rfl
  have hRf : ∀ q ∈ ([((40, .ofNat 173, []), (.ofNat 9, []), 1, .ofNat 0, [])] : List sRf), rfOk [s0, s1, s2, s3, s4, s5, s6, s7] hp q := hH.1
  have h0 : hI hp 173 9 = 0 := rfI0 (hRf _ (.head _)) (sE_k _ _) (sE_k _ _) (sE_k _ _)
  have hFc : ∀ q ∈ ([(192, [(.ofNat 0, [(.ofNat 1, 0)]), (.ofNat 0, [(.ofNat 1, 1)]), (.ofNat 0, [(.ofNat 1, 2)]), (.ofNat 0, [(.ofNat 1, 3)]), (.ofNat 0, [(.ofNat 1, 4)]), (.ofNat 0, [(.ofNat 1, 5)]), (.ofNat 0, [(.ofNat 1, 6)]), (.ofNat 0, [(.ofNat 1, 7)])])] : List sFc), fcOk fFS [s0, s1, s2, s3, s4, s5, s6, s7] hp q := hH.2
  have f0 : SHq (XT hp) (nmR hp (xnm hp)) s0 s1 s2 s3 s4 s5 s6 s7 ∧ s4 ≠ 4 := fcX (ys := [s0, s1, s2, s3, s4, s5, s6, s7]) (hFc _ (.head _)) ⟨sE_V rfl, sE_V rfl, sE_V rfl, sE_V rfl, sE_V rfl, sE_V rfl, sE_V rfl, sE_V rfl, trivial⟩
  exact poX (.head _) rfl hR (all_nil) (all_nil) (all_cons ⟨[1, s5], ⟨sE_k _ _, sE_V rfl, trivial⟩, (show SRS (XT hp) (nmR hp (xnm hp)) (1 : Int) s5 from s6_f1 f0.1 (by omega) (by omega) (by omega) (by omega))⟩ (all_nil))
theorem rl442 : ruOk fFS gR442 := by
  intro r hp hO hN hH
  obtain ⟨s0, s1, s2, s3, s4, s5, s6, s7, rfl⟩ := len8 (show r.length = 8 from hN.1)
  have hR := hN.2.1.1
  have hIv : ∀ q ∈ ([(0, .negSucc 2147483647, .ofNat 2147483647), (1, .ofNat 6, .ofNat 6), (2, .negSucc 2147483647, .ofNat 2147483647), (3, .ofNat 0, .ofNat 0), (4, .ofNat 3, .ofNat 3), (5, .negSucc 2147483647, .ofNat 2147483647), (6, .negSucc 2147483647, .ofNat 2147483647), (7, .negSucc 2147483647, .ofNat 2147483647)] : sIv), ∃ x, ([s0, s1, s2, s3, s4, s5, s6, s7] : List Int)[q.1]? = some x ∧ q.2.1 ≤ x ∧ x ≤ q.2.2 := hN.2.1.2
  have b1 : (6 : Int) ≤ s1 ∧ s1 ≤ (6 : Int) := ivX (q := (1, .ofNat 6, .ofNat 6)) (y := s1) (hIv _ (.tail _ (.head _))) rfl
  have b3 : (0 : Int) ≤ s3 ∧ s3 ≤ (0 : Int) := ivX (q := (3, .ofNat 0, .ofNat 0)) (y := s3) (hIv _ (.tail _ (.tail _ (.tail _ (.head _))))) rfl
  have b4 : (3 : Int) ≤ s4 ∧ s4 ≤ (3 : Int) := ivX (q := (4, .ofNat 3, .ofNat 3)) (y := s4) (hIv _ (.tail _ (.tail _ (.tail _ (.tail _ (.head _)))))) rfl
  have hRf : ∀ q ∈ ([((40, .ofNat 173, []), (.ofNat 9, []), 1, .ofNat 0, [])] : List sRf), rfOk [s0, s1, s2, s3, s4, s5, s6, s7] hp q := hH.1
  have h0 : hI hp 173 9 = 0 := rfI0 (hRf _ (.head _)) (sE_k _ _) (sE_k _ _) (sE_k _ _)
  have hFc : ∀ q ∈ ([(192, [(.ofNat 0, [(.ofNat 1, 0)]), (.ofNat 0, [(.ofNat 1, 1)]), (.ofNat 0, [(.ofNat 1, 2)]), (.ofNat 0, [(.ofNat 1, 3)]), (.ofNat 0, [(.ofNat 1, 4)]), (.ofNat 0, [(.ofNat 1, 5)]), (.ofNat 0, [(.ofNat 1, 6)]), (.ofNat 0, [(.ofNat 1, 7)])])] : List sFc), fcOk fFS [s0, s1, s2, s3, s4, s5, s6, s7] hp q := hH.2
  have f0 : SHq (XT hp) (nmR hp (xnm hp)) s0 s1 s2 s3 s4 s5 s6 s7 ∧ s4 ≠ 4 := fcX (ys := [s0, s1, s2, s3, s4, s5, s6, s7]) (hFc _ (.head _)) ⟨sE_V rfl, sE_V rfl, sE_V rfl, sE_V rfl, sE_V rfl, sE_V rfl, sE_V rfl, sE_V rfl, trivial⟩
  exact poX (.head _) rfl hR (all_nil) (all_nil) (all_cons ⟨[1, s5], ⟨sE_k _ _, sE_V rfl, trivial⟩, (show SRS (XT hp) (nmR hp (xnm hp)) (1 : Int) s5 from s6_f1 f0.1 (by omega) (by omega) (by omega) (by omega))⟩ (all_nil))
theorem rl443 : ruOk fFS gR443 := by
  intro r hp hO hN hH
  obtain ⟨s0, s1, s2, s3, s4, s5, s6, s7, rfl⟩ := len8 (show r.length = 8 from hN.1)
  have hR := hN.2.1.1
  have hIv : ∀ q ∈ ([(0, .negSucc 2147483647, .ofNat 2147483647), (1, .ofNat 6, .ofNat 6), (2, .negSucc 2147483647, .ofNat 2147483647), (3, .ofNat 0, .ofNat 0), (4, .ofNat 1, .ofNat 1), (5, .negSucc 2147483647, .ofNat 2147483647), (6, .negSucc 2147483647, .ofNat 2147483647), (7, .negSucc 0, .ofNat 18)] : sIv), ∃ x, ([s0, s1, s2, s3, s4, s5, s6, s7] : List Int)[q.1]? = some x ∧ q.2.1 ≤ x ∧ x ≤ q.2.2 := hN.2.1.2
  have b1 : (6 : Int) ≤ s1 ∧ s1 ≤ (6 : Int) := ivX (q := (1, .ofNat 6, .ofNat 6)) (y := s1) (hIv _ (.tail _ (.head _))) rfl
  have b3 : (0 : Int) ≤ s3 ∧ s3 ≤ (0 : Int) := ivX (q := (3, .ofNat 0, .ofNat 0)) (y := s3) (hIv _ (.tail _ (.tail _ (.tail _ (.head _))))) rfl
  have b4 : (1 : Int) ≤ s4 ∧ s4 ≤ (1 : Int) := ivX (q := (4, .ofNat 1, .ofNat 1)) (y := s4) (hIv _ (.tail _ (.tail _ (.tail _ (.tail _ (.head _)))))) rfl
  have b7 : (-1 : Int) ≤ s7 ∧ s7 ≤ (18 : Int) := ivX (q := (7, .negSucc 0, .ofNat 18)) (y := s7) (hIv _ (.tail _ (.tail _ (.tail _ (.tail _ (.tail _ (.tail _ (.tail _ (.head _))))))))) rfl
  have hRf : ∀ q ∈ ([((40, .ofNat 173, []), (.ofNat 9, []), 1, .ofNat 0, [])] : List sRf), rfOk [s0, s1, s2, s3, s4, s5, s6, s7] hp q := hH.1
  have h0 : hI hp 173 9 = 0 := rfI0 (hRf _ (.head _)) (sE_k _ _) (sE_k _ _) (sE_k _ _)
  have hFc : ∀ q ∈ ([(192, [(.ofNat 0, [(.ofNat 1, 0)]), (.ofNat 0, [(.ofNat 1, 1)]), (.ofNat 0, [(.ofNat 1, 2)]), (.ofNat 0, [(.ofNat 1, 3)]), (.ofNat 0, [(.ofNat 1, 4)]), (.ofNat 0, [(.ofNat 1, 5)]), (.ofNat 0, [(.ofNat 1, 6)]), (.ofNat 0, [(.ofNat 1, 7)])])] : List sFc), fcOk fFS [s0, s1, s2, s3, s4, s5, s6, s7] hp q := hH.2
  have f0 : SHq (XT hp) (nmR hp (xnm hp)) s0 s1 s2 s3 s4 s5 s6 s7 ∧ s4 ≠ 4 := fcX (ys := [s0, s1, s2, s3, s4, s5, s6, s7]) (hFc _ (.head _)) ⟨sE_V rfl, sE_V rfl, sE_V rfl, sE_V rfl, sE_V rfl, sE_V rfl, sE_V rfl, sE_V rfl, trivial⟩
  exact poX (.head _) rfl hR (all_nil) (all_nil) (all_cons ⟨[1, s5], ⟨sE_k _ _, sE_V rfl, trivial⟩, (show SRS (XT hp) (nmR hp (xnm hp)) (1 : Int) s5 from s6_f1 f0.1 (by omega) (by omega) (by omega) (by omega))⟩ (all_nil))
theorem rl444 : ruOk fFS gR444 := by
  intro r hp hO hN hH
  obtain ⟨s0, s1, s2, s3, s4, s5, s6, s7, rfl⟩ := len8 (show r.length = 8 from hN.1)
  have hR := hN.2.1.1
  have hIv : ∀ q ∈ ([(0, .negSucc 2147483647, .ofNat 2147483647), (1, .ofNat 6, .ofNat 6), (2, .negSucc 2147483647, .ofNat 2147483647), (3, .ofNat 0, .ofNat 0), (4, .ofNat 1, .ofNat 1), (5, .negSucc 2147483647, .ofNat 2147483647), (6, .negSucc 2147483647, .ofNat 2147483647), (7, .ofNat 21, .ofNat 2147483647)] : sIv), ∃ x, ([s0, s1, s2, s3, s4, s5, s6, s7] : List Int)[q.1]? = some x ∧ q.2.1 ≤ x ∧ x ≤ q.2.2 := hN.2.1.2
  have b1 : (6 : Int) ≤ s1 ∧ s1 ≤ (6 : Int) := ivX (q := (1, .ofNat 6, .ofNat 6)) (y := s1) (hIv _ (.tail _ (.head _))) rfl
  have b3 : (0 : Int) ≤ s3 ∧ s3 ≤ (0 : Int) := ivX (q := (3, .ofNat 0, .ofNat 0)) (y := s3) (hIv _ (.tail _ (.tail _ (.tail _ (.head _))))) rfl
  have b4 : (1 : Int) ≤ s4 ∧ s4 ≤ (1 : Int) := ivX (q := (4, .ofNat 1, .ofNat 1)) (y := s4) (hIv _ (.tail _ (.tail _ (.tail _ (.tail _ (.head _)))))) rfl
  have b7 : (21 : Int) ≤ s7 ∧ s7 ≤ (2147483647 : Int) := ivX (q := (7, .ofNat 21, .ofNat 2147483647)) (y := s7) (hIv _ (.tail _ (.tail _ (.tail _ (.tail _ (.tail _ (.tail _ (.tail _ (.head _))))))))) rfl
  have hRf : ∀ q ∈ ([((40, .ofNat 173, []), (.ofNat 9, []), 1, .ofNat 0, [])] : List sRf), rfOk [s0, s1, s2, s3, s4, s5, s6, s7] hp q := hH.1
  have h0 : hI hp 173 9 = 0 := rfI0 (hRf _ (.head _)) (sE_k _ _) (sE_k _ _) (sE_k _ _)
  have hFc : ∀ q ∈ ([(192, [(.ofNat 0, [(.ofNat 1, 0)]), (.ofNat 0, [(.ofNat 1, 1)]), (.ofNat 0, [(.ofNat 1, 2)]), (.ofNat 0, [(.ofNat 1, 3)]), (.ofNat 0, [(.ofNat 1, 4)]), (.ofNat 0, [(.ofNat 1, 5)]), (.ofNat 0, [(.ofNat 1, 6)]), (.ofNat 0, [(.ofNat 1, 7)])])] : List sFc), fcOk fFS [s0, s1, s2, s3, s4, s5, s6, s7] hp q := hH.2
  have f0 : SHq (XT hp) (nmR hp (xnm hp)) s0 s1 s2 s3 s4 s5 s6 s7 ∧ s4 ≠ 4 := fcX (ys := [s0, s1, s2, s3, s4, s5, s6, s7]) (hFc _ (.head _)) ⟨sE_V rfl, sE_V rfl, sE_V rfl, sE_V rfl, sE_V rfl, sE_V rfl, sE_V rfl, sE_V rfl, trivial⟩
  exact poX (.head _) rfl hR (all_nil) (all_nil) (all_cons ⟨[1, s5], ⟨sE_k _ _, sE_V rfl, trivial⟩, (show SRS (XT hp) (nmR hp (xnm hp)) (1 : Int) s5 from s6_f1 f0.1 (by omega) (by omega) (by omega) (by omega))⟩ (all_nil))
theorem rl445 : ruOk fFS gR445 := by
  intro r hp hO hN hH
  obtain ⟨s0, s1, s2, s3, s4, s5, s6, s7, rfl⟩ := len8 (show r.length = 8 from hN.1)
  have hR := hN.2.1.1
  have hIv : ∀ q ∈ ([(0, .negSucc 2147483647, .ofNat 2147483647), (1, .ofNat 6, .ofNat 6), (2, .negSucc 2147483647, .ofNat 2147483647), (3, .ofNat 0, .ofNat 0), (4, .ofNat 0, .ofNat 0), (5, .negSucc 2147483647, .ofNat 2147483647), (6, .negSucc 2147483647, .ofNat 2147483647), (7, .negSucc 2147483647, .ofNat 2147483647)] : sIv), ∃ x, ([s0, s1, s2, s3, s4, s5, s6, s7] : List Int)[q.1]? = some x ∧ q.2.1 ≤ x ∧ x ≤ q.2.2 := hN.2.1.2
  have b1 : (6 : Int) ≤ s1 ∧ s1 ≤ (6 : Int) := ivX (q := (1, .ofNat 6, .ofNat 6)) (y := s1) (hIv _ (.tail _ (.head _))) rfl
  have b3 : (0 : Int) ≤ s3 ∧ s3 ≤ (0 : Int) := ivX (q := (3, .ofNat 0, .ofNat 0)) (y := s3) (hIv _ (.tail _ (.tail _ (.tail _ (.head _))))) rfl
  have b4 : (0 : Int) ≤ s4 ∧ s4 ≤ (0 : Int) := ivX (q := (4, .ofNat 0, .ofNat 0)) (y := s4) (hIv _ (.tail _ (.tail _ (.tail _ (.tail _ (.head _)))))) rfl
  have hRf : ∀ q ∈ ([((40, .ofNat 173, []), (.ofNat 9, []), 1, .ofNat 0, [])] : List sRf), rfOk [s0, s1, s2, s3, s4, s5, s6, s7] hp q := hH.1
  have h0 : hI hp 173 9 = 0 := rfI0 (hRf _ (.head _)) (sE_k _ _) (sE_k _ _) (sE_k _ _)
  have hFc : ∀ q ∈ ([(192, [(.ofNat 0, [(.ofNat 1, 0)]), (.ofNat 0, [(.ofNat 1, 1)]), (.ofNat 0, [(.ofNat 1, 2)]), (.ofNat 0, [(.ofNat 1, 3)]), (.ofNat 0, [(.ofNat 1, 4)]), (.ofNat 0, [(.ofNat 1, 5)]), (.ofNat 0, [(.ofNat 1, 6)]), (.ofNat 0, [(.ofNat 1, 7)])])] : List sFc), fcOk fFS [s0, s1, s2, s3, s4, s5, s6, s7] hp q := hH.2
  have f0 : SHq (XT hp) (nmR hp (xnm hp)) s0 s1 s2 s3 s4 s5 s6 s7 ∧ s4 ≠ 4 := fcX (ys := [s0, s1, s2, s3, s4, s5, s6, s7]) (hFc _ (.head _)) ⟨sE_V rfl, sE_V rfl, sE_V rfl, sE_V rfl, sE_V rfl, sE_V rfl, sE_V rfl, sE_V rfl, trivial⟩
  exact poX (.head _) rfl hR (all_nil) (all_nil) (all_cons ⟨[s2], ⟨sE_V rfl, trivial⟩, (show SDN (XT hp) (nmR hp (xnm hp)) s2 from s6_end f0.1 (by omega) (by omega) (by omega))⟩ (all_nil))
theorem rl446 : ruOk fFS gR446 := by
  intro r hp hO hN hH
  obtain ⟨s0, rfl⟩ := len1 (show r.length = 1 from hN.1)
  have hR := hN.2.1.1
  have hIv : ∀ q ∈ ([(0, .negSucc 2147483647, .ofNat 2147483647)] : sIv), ∃ x, ([s0] : List Int)[q.1]? = some x ∧ q.2.1 ≤ x ∧ x ≤ q.2.2 := hN.2.1.2
  have hFc : ∀ q ∈ ([(196, [(.ofNat 0, [(.ofNat 1, 0)])])] : List sFc), fcOk fFS [s0] hp q := hH.2
  have f0 : SDN (XT hp) (nmR hp (xnm hp)) s0 := fcX (ys := [s0]) (hFc _ (.head _)) ⟨sE_V rfl, trivial⟩
  exact poX (.head _) rfl hR (all_nil) (all_nil) (all_cons ⟨[s0, 0], ⟨sE_V rfl, sE_k _ _, trivial⟩, (show SAN (XT hp) (nmR hp (xnm hp)) s0 (0 : Int) from Or.inl ⟨f0, rfl⟩)⟩ (all_nil))
theorem rl447 : ruOk fFS gR447 := by
  intro r hp hO hN hH
  obtain ⟨s0, s1, rfl⟩ := len2 (show r.length = 2 from hN.1)
  have hR := hN.2.1.1
  have hIv : ∀ q ∈ ([(0, .negSucc 2147483647, .ofNat 2147483647), (1, .negSucc 2147483647, .ofNat 2147483647)] : sIv), ∃ x, ([s0, s1] : List Int)[q.1]? = some x ∧ q.2.1 ≤ x ∧ x ≤ q.2.2 := hN.2.1.2
  have hRf : ∀ q ∈ ([((0, .ofNat 0, []), (.ofNat 6, []), 18, .ofNat 2, [])] : List sRf), rfOk [s0, s1] hp q := hH.1
  have g0 : hC hp 0 6 = 2 := by
    have u := rfR0 (xv := (2 : Int)) (c0 := 0) (i0 := 6) (hRf _ (.head _)) (sE_k _ _) (sE_k _ _) (sE_k _ _)
    show hC hp (0) 6 = 2
    omega
  have hFc : ∀ q ∈ ([(197, [(.ofNat 0, [(.ofNat 1, 0)]), (.ofNat 0, [(.ofNat 1, 1)])])] : List sFc), fcOk fFS [s0, s1] hp q := hH.2
  have f0 : SAN (XT hp) (nmR hp (xnm hp)) s0 s1 := fcX (ys := [s0, s1]) (hFc _ (.head _)) ⟨sE_V rfl, sE_V rfl, trivial⟩
  exact poX (.head _) rfl hR (all_nil) (all_nil) (all_cons ⟨[s0, s1], ⟨sE_V rfl, sE_V rfl, trivial⟩, (show SAN (XT hp) (nmR hp 3) s0 s1 from (by rw [xn_A hO g0] at f0; exact f0))⟩ (all_nil))
theorem rl448 : ruOk fFS gR448 := by
  intro r hp hO hN hH
  obtain ⟨s0, s1, rfl⟩ := len2 (show r.length = 2 from hN.1)
  have hR := hN.2.1.1
  have hIv : ∀ q ∈ ([(0, .negSucc 2147483647, .ofNat 2147483647), (1, .negSucc 2147483647, .ofNat 2147483647)] : sIv), ∃ x, ([s0, s1] : List Int)[q.1]? = some x ∧ q.2.1 ≤ x ∧ x ≤ q.2.2 := hN.2.1.2
  have hRf : ∀ q ∈ ([((40, .ofNat 173, []), (.ofNat 9, []), 1, .ofNat 0, [(.ofNat 1, 0)]), ((40, .ofNat 173, []), (.ofNat 10, []), 1, .ofNat 0, [(.ofNat 1, 1)])] : List sRf), rfOk [s0, s1] hp q := hH.1
  have h0 : hI hp 173 9 = s0 := rfI0 (hRf _ (.head _)) (sE_k _ _) (sE_k _ _) (sE_V rfl)
  have y0 : (0 : Int) ≤ s0 ∧ s0 ≤ (4 : Int) := by rw [← h0]; exact hI_ty hO (by decide) rfl
  have h1 : hI hp 173 10 = s1 := rfI0 (hRf _ (.tail _ (.head _))) (sE_k _ _) (sE_k _ _) (sE_V rfl)
  have hFc : ∀ q ∈ ([(193, [(.ofNat 0, [(.ofNat 1, 0)]), (.ofNat 0, [(.ofNat 1, 1)])])] : List sFc), fcOk fFS [s0, s1] hp q := hH.2
  have f0 : SRS (XT hp) (nmR hp (xnm hp)) s0 s1 := fcX (ys := [s0, s1]) (hFc _ (.head _)) ⟨sE_V rfl, sE_V rfl, trivial⟩
  exact poX (.head _) rfl hR (all_nil) (all_nil) (all_cons ⟨[(-s1 - 1), s0], ⟨sEv (y' := ((-1 : Int) + ((-1 : Int) * s1 + 0))) rfl (by omega), sE_V rfl, trivial⟩, (show SAN (XT hp) (nmR hp (xnm hp)) (-s1 - 1) s0 from Or.inr ⟨s1, f0, by omega⟩)⟩ (all_nil))
theorem rl449 : ruOk fFS gR449 := by
  intro r hp hO hN hH
  have hr0 := len0 (show r.length = 0 from hN.1)
  subst hr0
  have hR := hN.2.1.1
  exact poX (.head _) rfl hR (all_nil) (all_nil) (all_cons ⟨[0], ⟨sE_k _ _, trivial⟩, (show fSen 53 55 0 hp from sen0 (by omega))⟩ (all_nil))
theorem rl450 : ruOk fFS gR450 := by
  intro r hp hO hN hH
  obtain ⟨s0, s1, s2, rfl⟩ := len3 (show r.length = 3 from hN.1)
  have hR := hN.2.1.1
  have hIv : ∀ q ∈ ([(0, .negSucc 2147483647, .ofNat 2147483647), (1, .negSucc 2147483647, .ofNat 24), (2, .negSucc 2147483647, .ofNat 2147483647)] : sIv), ∃ x, ([s0, s1, s2] : List Int)[q.1]? = some x ∧ q.2.1 ≤ x ∧ x ≤ q.2.2 := hN.2.1.2
  have b1 : (-2147483648 : Int) ≤ s1 ∧ s1 ≤ (24 : Int) := ivX (q := (1, .negSucc 2147483647, .ofNat 24)) (y := s1) (hIv _ (.tail _ (.head _))) rfl
  have hRf : ∀ q ∈ ([((27, .ofNat 52, []), (.ofNat 2, []), 1, .ofNat 0, [(.ofNat 1, 0)]), ((28, .ofNat 53, []), (.ofNat 0, [(.ofNat 1, 0)]), 1, .ofNat 0, [(.ofNat 1, 1)]), ((30, .ofNat 55, []), (.ofNat 0, [(.ofNat 1, 0)]), 1, .ofNat 0, [(.ofNat 1, 2)])] : List sRf), rfOk [s0, s1, s2] hp q := hH.1
  have h0 : hI hp 52 2 = s0 := rfI0 (hRf _ (.head _)) (sE_k _ _) (sE_k _ _) (sE_V rfl)
  have y0 : (0 : Int) ≤ s0 ∧ s0 ≤ (40 : Int) := by rw [← h0]; exact hI_ty hO (by decide) rfl
  obtain ⟨i1, e1, l1, h1⟩ := rfI (xv := s1) (iv := s0) (hRf _ (.tail _ (.head _))) (sE_k _ _) (sE_V rfl) (sE_V rfl)
  have l1 : i1 < 40 := l1
  have h1 : hI hp 53 i1 = s1 := h1
  obtain ⟨i2, e2, l2, h2⟩ := rfI (xv := s2) (iv := s0) (hRf _ (.tail _ (.tail _ (.head _)))) (sE_k _ _) (sE_V rfl) (sE_V rfl)
  have l2 : i2 < 40 := l2
  have h2 : hI hp 55 i2 = s2 := h2
  have hFc : ∀ q ∈ ([(1, [(.ofNat 0, [(.ofNat 1, 0)])])] : List sFc), fcOk fFS [s0, s1, s2] hp q := hH.2
  have f0 : fSen 53 55 s0 hp := fcX (ys := [s0]) (hFc _ (.head _)) ⟨sE_V rfl, trivial⟩
  exact poX (.head _) rfl hR (all_nil) (all_nil) (all_cons ⟨[(s0 + 1)], ⟨sEv (y' := ((1 : Int) + ((1 : Int) * s0 + 0))) rfl (by omega), trivial⟩, (show fSen 53 55 (s0 + 1) hp from sen_add f0 h1 h2 (by omega) (by omega) (by omega) (by omega))⟩ (all_nil))
theorem rl451 : ruOk fFS gR451 := by
  intro r hp hO hN hH
  obtain ⟨s0, s1, s2, rfl⟩ := len3 (show r.length = 3 from hN.1)
  have hR := hN.2.1.1
  have hIv : ∀ q ∈ ([(0, .negSucc 2147483647, .ofNat 2147483647), (1, .ofNat 26, .ofNat 2147483647), (2, .negSucc 2147483647, .ofNat 2147483647)] : sIv), ∃ x, ([s0, s1, s2] : List Int)[q.1]? = some x ∧ q.2.1 ≤ x ∧ x ≤ q.2.2 := hN.2.1.2
  have b1 : (26 : Int) ≤ s1 ∧ s1 ≤ (2147483647 : Int) := ivX (q := (1, .ofNat 26, .ofNat 2147483647)) (y := s1) (hIv _ (.tail _ (.head _))) rfl
  have hRf : ∀ q ∈ ([((27, .ofNat 52, []), (.ofNat 2, []), 1, .ofNat 0, [(.ofNat 1, 0)]), ((28, .ofNat 53, []), (.ofNat 0, [(.ofNat 1, 0)]), 1, .ofNat 0, [(.ofNat 1, 1)]), ((30, .ofNat 55, []), (.ofNat 0, [(.ofNat 1, 0)]), 1, .ofNat 0, [(.ofNat 1, 2)])] : List sRf), rfOk [s0, s1, s2] hp q := hH.1
  have h0 : hI hp 52 2 = s0 := rfI0 (hRf _ (.head _)) (sE_k _ _) (sE_k _ _) (sE_V rfl)
  have y0 : (0 : Int) ≤ s0 ∧ s0 ≤ (40 : Int) := by rw [← h0]; exact hI_ty hO (by decide) rfl
  obtain ⟨i1, e1, l1, h1⟩ := rfI (xv := s1) (iv := s0) (hRf _ (.tail _ (.head _))) (sE_k _ _) (sE_V rfl) (sE_V rfl)
  have l1 : i1 < 40 := l1
  have h1 : hI hp 53 i1 = s1 := h1
  obtain ⟨i2, e2, l2, h2⟩ := rfI (xv := s2) (iv := s0) (hRf _ (.tail _ (.tail _ (.head _)))) (sE_k _ _) (sE_V rfl) (sE_V rfl)
  have l2 : i2 < 40 := l2
  have h2 : hI hp 55 i2 = s2 := h2
  have hFc : ∀ q ∈ ([(1, [(.ofNat 0, [(.ofNat 1, 0)])])] : List sFc), fcOk fFS [s0, s1, s2] hp q := hH.2
  have f0 : fSen 53 55 s0 hp := fcX (ys := [s0]) (hFc _ (.head _)) ⟨sE_V rfl, trivial⟩
  exact poX (.head _) rfl hR (all_nil) (all_nil) (all_cons ⟨[(s0 + 1)], ⟨sEv (y' := ((1 : Int) + ((1 : Int) * s0 + 0))) rfl (by omega), trivial⟩, (show fSen 53 55 (s0 + 1) hp from sen_add f0 h1 h2 (by omega) (by omega) (by omega) (by omega))⟩ (all_nil))
theorem rl452 : ruOk fFS gR452 := by
  intro r hp hO hN hH
  obtain ⟨s0, s1, s2, rfl⟩ := len3 (show r.length = 3 from hN.1)
  have hR := hN.2.1.1
  have hIv : ∀ q ∈ ([(0, .negSucc 2147483647, .ofNat 2147483647), (1, .negSucc 2147483647, .ofNat 2147483647), (2, .ofNat 0, .ofNat 2)] : sIv), ∃ x, ([s0, s1, s2] : List Int)[q.1]? = some x ∧ q.2.1 ≤ x ∧ x ≤ q.2.2 := hN.2.1.2
  have b2 : (0 : Int) ≤ s2 ∧ s2 ≤ (2 : Int) := ivX (q := (2, .ofNat 0, .ofNat 2)) (y := s2) (hIv _ (.tail _ (.tail _ (.head _)))) rfl
  have hRf : ∀ q ∈ ([((27, .ofNat 52, []), (.ofNat 2, []), 1, .ofNat 0, [(.ofNat 1, 0)]), ((28, .ofNat 53, []), (.ofNat 0, [(.ofNat 1, 0)]), 1, .ofNat 0, [(.ofNat 1, 1)]), ((30, .ofNat 55, []), (.ofNat 0, [(.ofNat 1, 0)]), 1, .ofNat 0, [(.ofNat 1, 2)])] : List sRf), rfOk [s0, s1, s2] hp q := hH.1
  have h0 : hI hp 52 2 = s0 := rfI0 (hRf _ (.head _)) (sE_k _ _) (sE_k _ _) (sE_V rfl)
  have y0 : (0 : Int) ≤ s0 ∧ s0 ≤ (40 : Int) := by rw [← h0]; exact hI_ty hO (by decide) rfl
  obtain ⟨i1, e1, l1, h1⟩ := rfI (xv := s1) (iv := s0) (hRf _ (.tail _ (.head _))) (sE_k _ _) (sE_V rfl) (sE_V rfl)
  have l1 : i1 < 40 := l1
  have h1 : hI hp 53 i1 = s1 := h1
  obtain ⟨i2, e2, l2, h2⟩ := rfI (xv := s2) (iv := s0) (hRf _ (.tail _ (.tail _ (.head _)))) (sE_k _ _) (sE_V rfl) (sE_V rfl)
  have l2 : i2 < 40 := l2
  have h2 : hI hp 55 i2 = s2 := h2
  have hFc : ∀ q ∈ ([(1, [(.ofNat 0, [(.ofNat 1, 0)])])] : List sFc), fcOk fFS [s0, s1, s2] hp q := hH.2
  have f0 : fSen 53 55 s0 hp := fcX (ys := [s0]) (hFc _ (.head _)) ⟨sE_V rfl, trivial⟩
  exact poX (.head _) rfl hR (all_nil) (all_nil) (all_cons ⟨[(s0 + 1)], ⟨sEv (y' := ((1 : Int) + ((1 : Int) * s0 + 0))) rfl (by omega), trivial⟩, (show fSen 53 55 (s0 + 1) hp from sen_add f0 h1 h2 (by omega) (by omega) (by omega) (by omega))⟩ (all_nil))
theorem rl453 : ruOk fFS gR453 := by
  intro r hp hO hN hH
  obtain ⟨s0, s1, s2, s3, rfl⟩ := len4 (show r.length = 4 from hN.1)
  have hR := hN.2.1.1
  have hIv : ∀ q ∈ ([(0, .ofNat 0, .ofNat 39), (1, .ofNat 25, .ofNat 25), (2, .negSucc 2147483647, .ofNat 2147483647), (3, .negSucc 2147483647, .ofNat 2147483647)] : sIv), ∃ x, ([s0, s1, s2, s3] : List Int)[q.1]? = some x ∧ q.2.1 ≤ x ∧ x ≤ q.2.2 := hN.2.1.2
  have b0 : (0 : Int) ≤ s0 ∧ s0 ≤ (39 : Int) := ivX (q := (0, .ofNat 0, .ofNat 39)) (y := s0) (hIv _ (.head _)) rfl
  have b1 : (25 : Int) ≤ s1 ∧ s1 ≤ (25 : Int) := ivX (q := (1, .ofNat 25, .ofNat 25)) (y := s1) (hIv _ (.tail _ (.head _))) rfl
  have b2 : (-2147483648 : Int) ≤ s2 ∧ s2 ≤ (2147483647 : Int) := ivX (q := (2, .negSucc 2147483647, .ofNat 2147483647)) (y := s2) (hIv _ (.tail _ (.tail _ (.head _)))) rfl
  have hCs : ∀ c ∈ ([(.ofNat 1, [(.ofNat 1, 0), (.negSucc 0, 3)])] : List sLn), ∃ x, sE [s0, s1, s2, s3] c = some x ∧ x ≤ 0 := hN.2.2.1
  have c0 : ((1 : Int) + ((1 : Int) * s0 + ((-1 : Int) * s3 + 0))) ≤ 0 := csX (hCs _ (.head _)) rfl
  have hRf : ∀ q ∈ ([((28, .ofNat 53, []), (.ofNat 0, [(.ofNat 1, 0)]), 1, .ofNat 0, [(.ofNat 1, 1)]), ((30, .ofNat 55, []), (.ofNat 0, [(.ofNat 1, 0)]), 1, .ofNat 0, [(.ofNat 1, 2)])] : List sRf), rfOk [s0, s1, s2, s3] hp q := hH.1
  obtain ⟨i0, e0, l0, h0⟩ := rfI (xv := s1) (iv := s0) (hRf _ (.head _)) (sE_k _ _) (sE_V rfl) (sE_V rfl)
  have l0 : i0 < 40 := l0
  have h0 : hI hp 53 i0 = s1 := h0
  obtain ⟨i1, e1, l1, h1⟩ := rfI (xv := s2) (iv := s0) (hRf _ (.tail _ (.head _))) (sE_k _ _) (sE_V rfl) (sE_V rfl)
  have l1 : i1 < 40 := l1
  have h1 : hI hp 55 i1 = s2 := h1
  have hFc : ∀ q ∈ ([(1, [(.ofNat 0, [(.ofNat 1, 3)])])] : List sFc), fcOk fFS [s0, s1, s2, s3] hp q := hH.2
  have f0 : fSen 53 55 s3 hp := fcX (ys := [s3]) (hFc _ (.head _)) ⟨sE_V rfl, trivial⟩
  have u := sen_use f0 h0 h1 (by omega) (by omega) (by omega) (by omega)
  exact poX (.head _) rfl hR (all_cons (ivO (y := s2) rfl (show (0 : Int) ≤ s2 by omega) (show s2 ≤ (2 : Int) by omega)) (all_nil)) (all_nil) (all_nil)
theorem rl454 : ruOk fFS gR454 := by
  intro r hp hO hN hH
  obtain ⟨s0, s1, s2, s3, rfl⟩ := len4 (show r.length = 4 from hN.1)
  have hR := hN.2.1.1
  have hIv : ∀ q ∈ ([(0, .ofNat 0, .ofNat 39), (1, .ofNat 25, .ofNat 25), (2, .negSucc 2147483647, .ofNat 2147483647), (3, .negSucc 2147483647, .ofNat 2147483647)] : sIv), ∃ x, ([s0, s1, s2, s3] : List Int)[q.1]? = some x ∧ q.2.1 ≤ x ∧ x ≤ q.2.2 := hN.2.1.2
  have b0 : (0 : Int) ≤ s0 ∧ s0 ≤ (39 : Int) := ivX (q := (0, .ofNat 0, .ofNat 39)) (y := s0) (hIv _ (.head _)) rfl
  have b1 : (25 : Int) ≤ s1 ∧ s1 ≤ (25 : Int) := ivX (q := (1, .ofNat 25, .ofNat 25)) (y := s1) (hIv _ (.tail _ (.head _))) rfl
  have b2 : (-2147483648 : Int) ≤ s2 ∧ s2 ≤ (2147483647 : Int) := ivX (q := (2, .negSucc 2147483647, .ofNat 2147483647)) (y := s2) (hIv _ (.tail _ (.tail _ (.head _)))) rfl
  have hCs : ∀ c ∈ ([(.ofNat 1, [(.ofNat 1, 0), (.negSucc 0, 3)])] : List sLn), ∃ x, sE [s0, s1, s2, s3] c = some x ∧ x ≤ 0 := hN.2.2.1
  have c0 : ((1 : Int) + ((1 : Int) * s0 + ((-1 : Int) * s3 + 0))) ≤ 0 := csX (hCs _ (.head _)) rfl
  have hRf : ∀ q ∈ ([((33, .ofNat 58, []), (.ofNat 0, [(.ofNat 1, 0)]), 1, .ofNat 0, [(.ofNat 1, 1)]), ((35, .ofNat 60, []), (.ofNat 0, [(.ofNat 1, 0)]), 1, .ofNat 0, [(.ofNat 1, 2)])] : List sRf), rfOk [s0, s1, s2, s3] hp q := hH.1
  obtain ⟨i0, e0, l0, h0⟩ := rfI (xv := s1) (iv := s0) (hRf _ (.head _)) (sE_k _ _) (sE_V rfl) (sE_V rfl)
  have l0 : i0 < 40 := l0
  have h0 : hI hp 58 i0 = s1 := h0
  obtain ⟨i1, e1, l1, h1⟩ := rfI (xv := s2) (iv := s0) (hRf _ (.tail _ (.head _))) (sE_k _ _) (sE_V rfl) (sE_V rfl)
  have l1 : i1 < 40 := l1
  have h1 : hI hp 60 i1 = s2 := h1
  have hFc : ∀ q ∈ ([(2, [(.ofNat 0, [(.ofNat 1, 3)])])] : List sFc), fcOk fFS [s0, s1, s2, s3] hp q := hH.2
  have f0 : fSen 58 60 s3 hp := fcX (ys := [s3]) (hFc _ (.head _)) ⟨sE_V rfl, trivial⟩
  have u := sen_use f0 h0 h1 (by omega) (by omega) (by omega) (by omega)
  exact poX (.head _) rfl hR (all_cons (ivO (y := s2) rfl (show (0 : Int) ≤ s2 by omega) (show s2 ≤ (2 : Int) by omega)) (all_nil)) (all_nil) (all_nil)
theorem rl455 : ruOk fFS gR455 := by
  intro r hp hO hN hH
  obtain ⟨s0, rfl⟩ := len1 (show r.length = 1 from hN.1)
  have hR := hN.2.1.1
  have hIv : ∀ q ∈ ([(0, .ofNat 0, .ofNat 40)] : sIv), ∃ x, ([s0] : List Int)[q.1]? = some x ∧ q.2.1 ≤ x ∧ x ≤ q.2.2 := hN.2.1.2
  have b0 : (0 : Int) ≤ s0 ∧ s0 ≤ (40 : Int) := ivX (q := (0, .ofNat 0, .ofNat 40)) (y := s0) (hIv _ (.head _)) rfl
  have hFc : ∀ q ∈ ([(1, [(.ofNat 0, [(.ofNat 1, 0)])]), (29, []), (31, [])] : List sFc), fcOk fFS [s0] hp q := hH.2
  have f0 : fSen 53 55 s0 hp := fcX (ys := [s0]) (hFc _ (.head _)) ⟨sE_V rfl, trivial⟩
  have f1 : fEqa 269 53 hp := fcX (ys := []) (hFc _ (.tail _ (.head _))) trivial
  have f2 : fEqa 271 55 hp := fcX (ys := []) (hFc _ (.tail _ (.tail _ (.head _)))) trivial
  exact poX (.head _) rfl hR (all_nil) (all_nil) (all_cons ⟨[s0], ⟨sE_V rfl, trivial⟩, (show fSen 269 271 s0 hp from sen_eq f0 f1 f2)⟩ (all_nil))
theorem rl456 : ruOk fFS gR456 := by
  intro r hp hO hN hH
  obtain ⟨s0, s1, rfl⟩ := len2 (show r.length = 2 from hN.1)
  have hR := hN.2.1.1
  have hIv : ∀ q ∈ ([(0, .negSucc 2147483647, .ofNat 2147483647), (1, .negSucc 2147483647, .ofNat 2147483647)] : sIv), ∃ x, ([s0, s1] : List Int)[q.1]? = some x ∧ q.2.1 ≤ x ∧ x ≤ q.2.2 := hN.2.1.2
  have hRf : ∀ q ∈ ([((100, .ofNat 212, []), (.ofNat 0, []), 1, .ofNat 0, [(.ofNat 1, 0)]), ((2, .ofNat 2, []), (.ofNat 0, []), 1, .ofNat 0, [(.ofNat 1, 0)]), ((100, .ofNat 212, []), (.ofNat 1, []), 1, .ofNat 0, [(.ofNat 1, 1)]), ((2, .ofNat 2, []), (.ofNat 1, []), 1, .ofNat 0, [(.ofNat 1, 1)])] : List sRf), rfOk [s0, s1] hp q := hH.1
  have h0 : hI hp 212 0 = s0 := rfI0 (hRf _ (.head _)) (sE_k _ _) (sE_k _ _) (sE_V rfl)
  have y0 : (1 : Int) ≤ s0 ∧ s0 ≤ (10 : Int) := by rw [← h0]; exact hI_ty hO (by decide) rfl
  have h1 : hI hp 2 0 = s0 := rfI0 (hRf _ (.tail _ (.head _))) (sE_k _ _) (sE_k _ _) (sE_V rfl)
  have y1 : (1 : Int) ≤ s0 ∧ s0 ≤ (10 : Int) := by rw [← h1]; exact hI_ty hO (by decide) rfl
  have h2 : hI hp 212 1 = s1 := rfI0 (hRf _ (.tail _ (.tail _ (.head _)))) (sE_k _ _) (sE_k _ _) (sE_V rfl)
  have y2 : (1 : Int) ≤ s1 ∧ s1 ≤ (10 : Int) := by rw [← h2]; exact hI_ty hO (by decide) rfl
  have h3 : hI hp 2 1 = s1 := rfI0 (hRf _ (.tail _ (.tail _ (.tail _ (.head _))))) (sE_k _ _) (sE_k _ _) (sE_V rfl)
  have y3 : (1 : Int) ≤ s1 ∧ s1 ≤ (10 : Int) := by rw [← h3]; exact hI_ty hO (by decide) rfl
  have hFc : ∀ q ∈ ([(223, []), (216, [])] : List sFc), fcOk fFS [s0, s1] hp q := hH.2
  have f0 : ∀ j : Nat, j < 12 → hv hp 213 j = hv hp 3 j := fcX (ys := []) (hFc _ (.head _)) trivial
  have f1 : (∀ c L, isW L → (nmR hp 3 c L ↔ nmM hp c L)) ∧ hI hp 2 0 = hI hp 275 0 ∧ hI hp 2 1 = hI hp 275 1 := fcX (ys := []) (hFc _ (.tail _ (.head _))) trivial
  exact poX (.head _) rfl hR (all_nil) (all_nil) (all_cons ⟨[], trivial, (show (∀ c L, isW L → (nmR hp 213 c L ↔ nmM hp c L)) ∧ hI hp 212 0 = hI hp 275 0 ∧ hI hp 212 1 = hI hp 275 1 from al_l f1 (nmr_eqn f0) (h0.trans h1.symm) (h2.trans h3.symm))⟩ (all_nil))
theorem rl457 : ruOk fFS gR457 := by
  intro r hp hO hN hH
  obtain ⟨s0, s1, rfl⟩ := len2 (show r.length = 2 from hN.1)
  have hR := hN.2.1.1
  have hIv : ∀ q ∈ ([(0, .negSucc 2147483647, .ofNat 2147483647), (1, .negSucc 2147483647, .ofNat 2147483647)] : sIv), ∃ x, ([s0, s1] : List Int)[q.1]? = some x ∧ q.2.1 ≤ x ∧ x ≤ q.2.2 := hN.2.1.2
  have hRf : ∀ q ∈ ([((102, .ofNat 243, []), (.ofNat 0, []), 1, .ofNat 0, [(.ofNat 1, 0)]), ((2, .ofNat 2, []), (.ofNat 0, []), 1, .ofNat 0, [(.ofNat 1, 0)]), ((102, .ofNat 243, []), (.ofNat 1, []), 1, .ofNat 0, [(.ofNat 1, 1)]), ((2, .ofNat 2, []), (.ofNat 1, []), 1, .ofNat 0, [(.ofNat 1, 1)])] : List sRf), rfOk [s0, s1] hp q := hH.1
  have h0 : hI hp 243 0 = s0 := rfI0 (hRf _ (.head _)) (sE_k _ _) (sE_k _ _) (sE_V rfl)
  have y0 : (1 : Int) ≤ s0 ∧ s0 ≤ (10 : Int) := by rw [← h0]; exact hI_ty hO (by decide) rfl
  have h1 : hI hp 2 0 = s0 := rfI0 (hRf _ (.tail _ (.head _))) (sE_k _ _) (sE_k _ _) (sE_V rfl)
  have y1 : (1 : Int) ≤ s0 ∧ s0 ≤ (10 : Int) := by rw [← h1]; exact hI_ty hO (by decide) rfl
  have h2 : hI hp 243 1 = s1 := rfI0 (hRf _ (.tail _ (.tail _ (.head _)))) (sE_k _ _) (sE_k _ _) (sE_V rfl)
  have y2 : (1 : Int) ≤ s1 ∧ s1 ≤ (10 : Int) := by rw [← h2]; exact hI_ty hO (by decide) rfl
  have h3 : hI hp 2 1 = s1 := rfI0 (hRf _ (.tail _ (.tail _ (.tail _ (.head _))))) (sE_k _ _) (sE_k _ _) (sE_V rfl)
  have y3 : (1 : Int) ≤ s1 ∧ s1 ≤ (10 : Int) := by rw [← h3]; exact hI_ty hO (by decide) rfl
  have hFc : ∀ q ∈ ([(225, []), (216, [])] : List sFc), fcOk fFS [s0, s1] hp q := hH.2
  have f0 : ∀ j : Nat, j < 12 → hv hp 244 j = hv hp 3 j := fcX (ys := []) (hFc _ (.head _)) trivial
  have f1 : (∀ c L, isW L → (nmR hp 3 c L ↔ nmM hp c L)) ∧ hI hp 2 0 = hI hp 275 0 ∧ hI hp 2 1 = hI hp 275 1 := fcX (ys := []) (hFc _ (.tail _ (.head _))) trivial
  exact poX (.head _) rfl hR (all_nil) (all_nil) (all_cons ⟨[], trivial, (show (∀ c L, isW L → (nmR hp 244 c L ↔ nmM hp c L)) ∧ hI hp 243 0 = hI hp 275 0 ∧ hI hp 243 1 = hI hp 275 1 from al_l f1 (nmr_eqn f0) (h0.trans h1.symm) (h2.trans h3.symm))⟩ (all_nil))
theorem rl458 : ruOk fFS gR458 := by
  intro r hp hO hN hH
  obtain ⟨s0, rfl⟩ := len1 (show r.length = 1 from hN.1)
  have hR := hN.2.1.1
  have hIv : ∀ q ∈ ([(0, .ofNat 0, .ofNat 40)] : sIv), ∃ x, ([s0] : List Int)[q.1]? = some x ∧ q.2.1 ≤ x ∧ x ≤ q.2.2 := hN.2.1.2
  have b0 : (0 : Int) ≤ s0 ∧ s0 ≤ (40 : Int) := ivX (q := (0, .ofNat 0, .ofNat 40)) (y := s0) (hIv _ (.head _)) rfl
  have hFc : ∀ q ∈ ([(1, [(.ofNat 0, [(.ofNat 1, 0)])]), (25, []), (27, [])] : List sFc), fcOk fFS [s0] hp q := hH.2
  have f0 : fSen 53 55 s0 hp := fcX (ys := [s0]) (hFc _ (.head _)) ⟨sE_V rfl, trivial⟩
  have f1 : fEqa 238 53 hp := fcX (ys := []) (hFc _ (.tail _ (.head _))) trivial
  have f2 : fEqa 240 55 hp := fcX (ys := []) (hFc _ (.tail _ (.tail _ (.head _)))) trivial
  exact poX (.head _) rfl hR (all_nil) (all_nil) (all_cons ⟨[s0], ⟨sE_V rfl, trivial⟩, (show fSen 238 240 s0 hp from sen_eq f0 f1 f2)⟩ (all_nil))
theorem rl459 : ruOk fFS gR459 := by
  intro r hp hO hN hH
  obtain ⟨s0, rfl⟩ := len1 (show r.length = 1 from hN.1)
  have hR := hN.2.1.1
  have hIv : ∀ q ∈ ([(0, .ofNat 0, .ofNat 40)] : sIv), ∃ x, ([s0] : List Int)[q.1]? = some x ∧ q.2.1 ≤ x ∧ x ≤ q.2.2 := hN.2.1.2
  have b0 : (0 : Int) ≤ s0 ∧ s0 ≤ (40 : Int) := ivX (q := (0, .ofNat 0, .ofNat 40)) (y := s0) (hIv _ (.head _)) rfl
  have hFc : ∀ q ∈ ([(2, [(.ofNat 0, [(.ofNat 1, 0)])]), (37, []), (39, [])] : List sFc), fcOk fFS [s0] hp q := hH.2
  have f0 : fSen 58 60 s0 hp := fcX (ys := [s0]) (hFc _ (.head _)) ⟨sE_V rfl, trivial⟩
  have f1 : fEqa 269 58 hp := fcX (ys := []) (hFc _ (.tail _ (.head _))) trivial
  have f2 : fEqa 271 60 hp := fcX (ys := []) (hFc _ (.tail _ (.tail _ (.head _)))) trivial
  exact poX (.head _) rfl hR (all_nil) (all_nil) (all_cons ⟨[s0], ⟨sE_V rfl, trivial⟩, (show fSen 269 271 s0 hp from sen_eq f0 f1 f2)⟩ (all_nil))
theorem rl460 : ruOk fFS gR460 := by
  intro r hp hO hN hH
  obtain ⟨s0, rfl⟩ := len1 (show r.length = 1 from hN.1)
  have hR := hN.2.1.1
  have hIv : ∀ q ∈ ([(0, .ofNat 0, .ofNat 40)] : sIv), ∃ x, ([s0] : List Int)[q.1]? = some x ∧ q.2.1 ≤ x ∧ x ≤ q.2.2 := hN.2.1.2
  have b0 : (0 : Int) ≤ s0 ∧ s0 ≤ (40 : Int) := ivX (q := (0, .ofNat 0, .ofNat 40)) (y := s0) (hIv _ (.head _)) rfl
  have hFc : ∀ q ∈ ([(2, [(.ofNat 0, [(.ofNat 1, 0)])]), (33, []), (35, [])] : List sFc), fcOk fFS [s0] hp q := hH.2
  have f0 : fSen 58 60 s0 hp := fcX (ys := [s0]) (hFc _ (.head _)) ⟨sE_V rfl, trivial⟩
  have f1 : fEqa 238 58 hp := fcX (ys := []) (hFc _ (.tail _ (.head _))) trivial
  have f2 : fEqa 240 60 hp := fcX (ys := []) (hFc _ (.tail _ (.tail _ (.head _)))) trivial
  exact poX (.head _) rfl hR (all_nil) (all_nil) (all_cons ⟨[s0], ⟨sE_V rfl, trivial⟩, (show fSen 238 240 s0 hp from sen_eq f0 f1 f2)⟩ (all_nil))
theorem rl461 : ruOk fFS gR461 := by
  intro r hp hO hN hH
  obtain ⟨s0, rfl⟩ := len1 (show r.length = 1 from hN.1)
  have hR := hN.2.1.1
  have hIv : ∀ q ∈ ([(0, .ofNat 0, .ofNat 40)] : sIv), ∃ x, ([s0] : List Int)[q.1]? = some x ∧ q.2.1 ≤ x ∧ x ≤ q.2.2 := hN.2.1.2
  have b0 : (0 : Int) ≤ s0 ∧ s0 ≤ (40 : Int) := ivX (q := (0, .ofNat 0, .ofNat 40)) (y := s0) (hIv _ (.head _)) rfl
  have hFc : ∀ q ∈ ([(4, [(.ofNat 0, [(.ofNat 1, 0)])]), (28, []), (30, [])] : List sFc), fcOk fFS [s0] hp q := hH.2
  have f0 : fSen 269 271 s0 hp := fcX (ys := [s0]) (hFc _ (.head _)) ⟨sE_V rfl, trivial⟩
  have f1 : fEqa 53 269 hp := fcX (ys := []) (hFc _ (.tail _ (.head _))) trivial
  have f2 : fEqa 55 271 hp := fcX (ys := []) (hFc _ (.tail _ (.tail _ (.head _)))) trivial
  exact poX (.head _) rfl hR (all_nil) (all_nil) (all_cons ⟨[s0], ⟨sE_V rfl, trivial⟩, (show fSen 53 55 s0 hp from sen_eq f0 f1 f2)⟩ (all_nil))
theorem rl462 : ruOk fFS gR462 := by
  intro r hp hO hN hH
  obtain ⟨s0, s1, rfl⟩ := len2 (show r.length = 2 from hN.1)
  have hR := hN.2.1.1
  have hIv : ∀ q ∈ ([(0, .negSucc 2147483647, .ofNat 2147483647), (1, .negSucc 2147483647, .ofNat 2147483647)] : sIv), ∃ x, ([s0, s1] : List Int)[q.1]? = some x ∧ q.2.1 ≤ x ∧ x ≤ q.2.2 := hN.2.1.2
  have hRf : ∀ q ∈ ([((2, .ofNat 2, []), (.ofNat 0, []), 1, .ofNat 0, [(.ofNat 1, 0)]), ((100, .ofNat 212, []), (.ofNat 0, []), 1, .ofNat 0, [(.ofNat 1, 0)]), ((2, .ofNat 2, []), (.ofNat 1, []), 1, .ofNat 0, [(.ofNat 1, 1)]), ((100, .ofNat 212, []), (.ofNat 1, []), 1, .ofNat 0, [(.ofNat 1, 1)])] : List sRf), rfOk [s0, s1] hp q := hH.1
  have h0 : hI hp 2 0 = s0 := rfI0 (hRf _ (.head _)) (sE_k _ _) (sE_k _ _) (sE_V rfl)
  have y0 : (1 : Int) ≤ s0 ∧ s0 ≤ (10 : Int) := by rw [← h0]; exact hI_ty hO (by decide) rfl
  have h1 : hI hp 212 0 = s0 := rfI0 (hRf _ (.tail _ (.head _))) (sE_k _ _) (sE_k _ _) (sE_V rfl)
  have y1 : (1 : Int) ≤ s0 ∧ s0 ≤ (10 : Int) := by rw [← h1]; exact hI_ty hO (by decide) rfl
  have h2 : hI hp 2 1 = s1 := rfI0 (hRf _ (.tail _ (.tail _ (.head _)))) (sE_k _ _) (sE_k _ _) (sE_V rfl)
  have y2 : (1 : Int) ≤ s1 ∧ s1 ≤ (10 : Int) := by rw [← h2]; exact hI_ty hO (by decide) rfl
  have h3 : hI hp 212 1 = s1 := rfI0 (hRf _ (.tail _ (.tail _ (.tail _ (.head _))))) (sE_k _ _) (sE_k _ _) (sE_V rfl)
  have y3 : (1 : Int) ≤ s1 ∧ s1 ≤ (10 : Int) := by rw [← h3]; exact hI_ty hO (by decide) rfl
  have hFc : ∀ q ∈ ([(222, []), (231, [])] : List sFc), fcOk fFS [s0, s1] hp q := hH.2
  have f0 : ∀ j : Nat, j < 12 → hv hp 3 j = hv hp 213 j := fcX (ys := []) (hFc _ (.head _)) trivial
  have f1 : (∀ c L, isW L → (nmR hp 213 c L ↔ nmK hp 0 c L)) ∧ (hI hp 289 0 = 0 ∨ (hI hp 212 0 = hI hp 289 0 ∧ hI hp 212 1 = hI hp 289 1)) := fcX (ys := []) (hFc _ (.tail _ (.head _))) trivial
  exact poX (.head _) rfl hR (all_nil) (all_nil) (all_cons ⟨[], trivial, (show (∀ c L, isW L → (nmR hp 3 c L ↔ nmK hp 0 c L)) ∧ (hI hp 289 0 = 0 ∨ (hI hp 2 0 = hI hp 289 0 ∧ hI hp 2 1 = hI hp 289 1)) from ⟨alike_l f1.1 (nmr_eqn f0), f1.2.elim Or.inl (fun u => Or.inr ⟨(h0.trans h1.symm).trans u.1, (h2.trans h3.symm).trans u.2⟩)⟩)⟩ (all_nil))
theorem rl463 : ruOk fFS gR463 := by
  intro r hp hO hN hH
  obtain ⟨s0, s1, rfl⟩ := len2 (show r.length = 2 from hN.1)
  have hR := hN.2.1.1
  have hIv : ∀ q ∈ ([(0, .negSucc 2147483647, .ofNat 2147483647), (1, .negSucc 2147483647, .ofNat 2147483647)] : sIv), ∃ x, ([s0, s1] : List Int)[q.1]? = some x ∧ q.2.1 ≤ x ∧ x ≤ q.2.2 := hN.2.1.2
  have hRf : ∀ q ∈ ([((2, .ofNat 2, []), (.ofNat 0, []), 1, .ofNat 0, [(.ofNat 1, 0)]), ((102, .ofNat 243, []), (.ofNat 0, []), 1, .ofNat 0, [(.ofNat 1, 0)]), ((2, .ofNat 2, []), (.ofNat 1, []), 1, .ofNat 0, [(.ofNat 1, 1)]), ((102, .ofNat 243, []), (.ofNat 1, []), 1, .ofNat 0, [(.ofNat 1, 1)])] : List sRf), rfOk [s0, s1] hp q := hH.1
  have h0 : hI hp 2 0 = s0 := rfI0 (hRf _ (.head _)) (sE_k _ _) (sE_k _ _) (sE_V rfl)
  have y0 : (1 : Int) ≤ s0 ∧ s0 ≤ (10 : Int) := by rw [← h0]; exact hI_ty hO (by decide) rfl
  have h1 : hI hp 243 0 = s0 := rfI0 (hRf _ (.tail _ (.head _))) (sE_k _ _) (sE_k _ _) (sE_V rfl)
  have y1 : (1 : Int) ≤ s0 ∧ s0 ≤ (10 : Int) := by rw [← h1]; exact hI_ty hO (by decide) rfl
  have h2 : hI hp 2 1 = s1 := rfI0 (hRf _ (.tail _ (.tail _ (.head _)))) (sE_k _ _) (sE_k _ _) (sE_V rfl)
  have y2 : (1 : Int) ≤ s1 ∧ s1 ≤ (10 : Int) := by rw [← h2]; exact hI_ty hO (by decide) rfl
  have h3 : hI hp 243 1 = s1 := rfI0 (hRf _ (.tail _ (.tail _ (.tail _ (.head _))))) (sE_k _ _) (sE_k _ _) (sE_V rfl)
  have y3 : (1 : Int) ≤ s1 ∧ s1 ≤ (10 : Int) := by rw [← h3]; exact hI_ty hO (by decide) rfl
  have hFc : ∀ q ∈ ([(224, []), (236, [])] : List sFc), fcOk fFS [s0, s1] hp q := hH.2
  have f0 : ∀ j : Nat, j < 12 → hv hp 3 j = hv hp 244 j := fcX (ys := []) (hFc _ (.head _)) trivial
  have f1 : (∀ c L, isW L → (nmR hp 244 c L ↔ nmK hp 1 c L)) ∧ (hI hp 289 871 = 0 ∨ (hI hp 243 0 = hI hp 289 871 ∧ hI hp 243 1 = hI hp 289 872)) := fcX (ys := []) (hFc _ (.tail _ (.head _))) trivial
  exact poX (.head _) rfl hR (all_nil) (all_nil) (all_cons ⟨[], trivial, (show (∀ c L, isW L → (nmR hp 3 c L ↔ nmK hp 1 c L)) ∧ (hI hp 289 871 = 0 ∨ (hI hp 2 0 = hI hp 289 871 ∧ hI hp 2 1 = hI hp 289 872)) from ⟨alike_l f1.1 (nmr_eqn f0), f1.2.elim Or.inl (fun u => Or.inr ⟨(h0.trans h1.symm).trans u.1, (h2.trans h3.symm).trans u.2⟩)⟩)⟩ (all_nil))
theorem rl464 : ruOk fFS gR464 := by
  intro r hp hO hN hH
  obtain ⟨s0, rfl⟩ := len1 (show r.length = 1 from hN.1)
  have hR := hN.2.1.1
  have hIv : ∀ q ∈ ([(0, .ofNat 0, .ofNat 40)] : sIv), ∃ x, ([s0] : List Int)[q.1]? = some x ∧ q.2.1 ≤ x ∧ x ≤ q.2.2 := hN.2.1.2
  have b0 : (0 : Int) ≤ s0 ∧ s0 ≤ (40 : Int) := ivX (q := (0, .ofNat 0, .ofNat 40)) (y := s0) (hIv _ (.head _)) rfl
  have hFc : ∀ q ∈ ([(3, [(.ofNat 0, [(.ofNat 1, 0)])]), (24, []), (26, [])] : List sFc), fcOk fFS [s0] hp q := hH.2
  have f0 : fSen 238 240 s0 hp := fcX (ys := [s0]) (hFc _ (.head _)) ⟨sE_V rfl, trivial⟩
  have f1 : fEqa 53 238 hp := fcX (ys := []) (hFc _ (.tail _ (.head _))) trivial
  have f2 : fEqa 55 240 hp := fcX (ys := []) (hFc _ (.tail _ (.tail _ (.head _)))) trivial
  exact poX (.head _) rfl hR (all_nil) (all_nil) (all_cons ⟨[s0], ⟨sE_V rfl, trivial⟩, (show fSen 53 55 s0 hp from sen_eq f0 f1 f2)⟩ (all_nil))
theorem rl465 : ruOk fFS gR465 := by
  intro r hp hO hN hH
  obtain ⟨s0, rfl⟩ := len1 (show r.length = 1 from hN.1)
  have hR := hN.2.1.1
  have hIv : ∀ q ∈ ([(0, .ofNat 0, .ofNat 40)] : sIv), ∃ x, ([s0] : List Int)[q.1]? = some x ∧ q.2.1 ≤ x ∧ x ≤ q.2.2 := hN.2.1.2
  have b0 : (0 : Int) ≤ s0 ∧ s0 ≤ (40 : Int) := ivX (q := (0, .ofNat 0, .ofNat 40)) (y := s0) (hIv _ (.head _)) rfl
  have hFc : ∀ q ∈ ([(4, [(.ofNat 0, [(.ofNat 1, 0)])]), (36, []), (38, [])] : List sFc), fcOk fFS [s0] hp q := hH.2
  have f0 : fSen 269 271 s0 hp := fcX (ys := [s0]) (hFc _ (.head _)) ⟨sE_V rfl, trivial⟩
  have f1 : fEqa 58 269 hp := fcX (ys := []) (hFc _ (.tail _ (.head _))) trivial
  have f2 : fEqa 60 271 hp := fcX (ys := []) (hFc _ (.tail _ (.tail _ (.head _)))) trivial
  exact poX (.head _) rfl hR (all_nil) (all_nil) (all_cons ⟨[s0], ⟨sE_V rfl, trivial⟩, (show fSen 58 60 s0 hp from sen_eq f0 f1 f2)⟩ (all_nil))
theorem rl466 : ruOk fFS gR466 := by
  intro r hp hO hN hH
  obtain ⟨s0, rfl⟩ := len1 (show r.length = 1 from hN.1)
  have hR := hN.2.1.1
  have hIv : ∀ q ∈ ([(0, .ofNat 0, .ofNat 40)] : sIv), ∃ x, ([s0] : List Int)[q.1]? = some x ∧ q.2.1 ≤ x ∧ x ≤ q.2.2 := hN.2.1.2
  have b0 : (0 : Int) ≤ s0 ∧ s0 ≤ (40 : Int) := ivX (q := (0, .ofNat 0, .ofNat 40)) (y := s0) (hIv _ (.head _)) rfl
  have hFc : ∀ q ∈ ([(3, [(.ofNat 0, [(.ofNat 1, 0)])]), (32, []), (34, [])] : List sFc), fcOk fFS [s0] hp q := hH.2
  have f0 : fSen 238 240 s0 hp := fcX (ys := [s0]) (hFc _ (.head _)) ⟨sE_V rfl, trivial⟩
  have f1 : fEqa 58 238 hp := fcX (ys := []) (hFc _ (.tail _ (.head _))) trivial
  have f2 : fEqa 60 240 hp := fcX (ys := []) (hFc _ (.tail _ (.tail _ (.head _)))) trivial
  exact poX (.head _) rfl hR (all_nil) (all_nil) (all_cons ⟨[s0], ⟨sE_V rfl, trivial⟩, (show fSen 58 60 s0 hp from sen_eq f0 f1 f2)⟩ (all_nil))
theorem rl467 : ruOk fFS gR467 := by
  intro r hp hO hN hH
  have hr0 := len0 (show r.length = 0 from hN.1)
  subst hr0
  have hR := hN.2.1.1
  have hRf : ∀ q ∈ ([((43, .ofNat 176, []), (.ofNat 1, []), 18, .ofNat 2, []), ((2, .ofNat 2, []), (.ofNat 7, []), 19, .ofNat 3, [])] : List sRf), rfOk [] hp q := hH.1
  have g0 : hC hp 176 1 = 2 := by
    have u := rfR0 (xv := (2 : Int)) (c0 := 176) (i0 := 1) (hRf _ (.head _)) (sE_k _ _) (sE_k _ _) (sE_k _ _)
    show hC hp (176) 1 = 2
    omega
  have g1 : rr hp 1 7 = 3 := by
    have u := rfR0 (xv := (3 : Int)) (c0 := hC hp 176 1) (i0 := 7) (hRf _ (.tail _ (.head _))) (by rw [g0]; exact sE_k _ _) (sE_k _ _) (sE_k _ _)
    show hC hp (hC hp 176 1) 7 = 3
    omega
  have hFc : ∀ q ∈ ([(100, [])] : List sFc), fcOk fFS [] hp q := hH.2
  have f0 : True := fcX (ys := []) (hFc _ (.head _)) trivial
  exact poX (.head _) rfl hR (all_nil) (all_nil) (all_cons ⟨[0], ⟨sE_k _ _, trivial⟩, (show ∀ j : Nat, j < 12 → (j : Int) < (0 : Int) → hL hp (rr hp 1 7) j = 0 from fun j _ w => absurd w (by omega))⟩ (all_nil))
theorem rl468 : ruOk fFS gR468 := by
  intro r hp hO hN hH
  obtain ⟨s0, s1, rfl⟩ := len2 (show r.length = 2 from hN.1)
  have hR := hN.2.1.1
  have hIv : ∀ q ∈ ([(0, .ofNat 0, .ofNat 11), (1, .ofNat 0, .ofNat 0)] : sIv), ∃ x, ([s0, s1] : List Int)[q.1]? = some x ∧ q.2.1 ≤ x ∧ x ≤ q.2.2 := hN.2.1.2
  have b0 : (0 : Int) ≤ s0 ∧ s0 ≤ (11 : Int) := ivX (q := (0, .ofNat 0, .ofNat 11)) (y := s0) (hIv _ (.head _)) rfl
  have b1 : (0 : Int) ≤ s1 ∧ s1 ≤ (0 : Int) := ivX (q := (1, .ofNat 0, .ofNat 0)) (y := s1) (hIv _ (.tail _ (.head _))) rfl
  have hRf : ∀ q ∈ ([((43, .ofNat 176, []), (.ofNat 1, []), 18, .ofNat 2, []), ((2, .ofNat 2, []), (.ofNat 7, []), 19, .ofNat 3, []), ((3, .ofNat 3, []), (.ofNat 0, [(.ofNat 1, 0)]), 5, .ofNat 0, [(.ofNat 1, 1)])] : List sRf), rfOk [s0, s1] hp q := hH.1
  have g0 : hC hp 176 1 = 2 := by
    have u := rfR0 (xv := (2 : Int)) (c0 := 176) (i0 := 1) (hRf _ (.head _)) (sE_k _ _) (sE_k _ _) (sE_k _ _)
    show hC hp (176) 1 = 2
    omega
  have g1 : rr hp 1 7 = 3 := by
    have u := rfR0 (xv := (3 : Int)) (c0 := hC hp 176 1) (i0 := 7) (hRf _ (.tail _ (.head _))) (by rw [g0]; exact sE_k _ _) (sE_k _ _) (sE_k _ _)
    show hC hp (hC hp 176 1) 7 = 3
    omega
  obtain ⟨i2, e2, l2, h2⟩ := rfL (c0 := rr hp 1 7) (iv := s0) (hRf _ (.tail _ (.tail _ (.head _)))) (by rw [g1]; exact sE_k _ _) (sE_V rfl) (sE_V rfl)
  have l2 : i2 < 12 := l2
  have h2 : hL hp (rr hp 1 7) i2 = s1 := h2
  have hFc : ∀ q ∈ ([(101, [(.ofNat 0, [(.ofNat 1, 0)])])] : List sFc), fcOk fFS [s0, s1] hp q := hH.2
  have f0 : ∀ j : Nat, j < 12 → (j : Int) < s0 → hL hp (rr hp 1 7) j = 0 := fcX (ys := [s0]) (hFc _ (.head _)) ⟨sE_V rfl, trivial⟩
  exact poX (.head _) rfl hR (all_nil) (all_nil) (all_cons ⟨[(s0 + 1)], ⟨sEv (y' := ((1 : Int) + ((1 : Int) * s0 + 0))) rfl (by omega), trivial⟩, (show ∀ j : Nat, j < 12 → (j : Int) < (s0 + 1) → hL hp (rr hp 1 7) j = 0 from fl_s f0 h2 (by omega) (by omega) (by omega))⟩ (all_nil))
theorem rl469 : ruOk fFS gR469 := by
  intro r hp hO hN hH
  obtain ⟨s0, rfl⟩ := len1 (show r.length = 1 from hN.1)
  have hR := hN.2.1.1
  have hIv : ∀ q ∈ ([(0, .ofNat 12, .ofNat 12)] : sIv), ∃ x, ([s0] : List Int)[q.1]? = some x ∧ q.2.1 ≤ x ∧ x ≤ q.2.2 := hN.2.1.2
  have b0 : (12 : Int) ≤ s0 ∧ s0 ≤ (12 : Int) := ivX (q := (0, .ofNat 12, .ofNat 12)) (y := s0) (hIv _ (.head _)) rfl
  have hRf : ∀ q ∈ ([((43, .ofNat 176, []), (.ofNat 1, []), 18, .ofNat 2, []), ((2, .ofNat 2, []), (.ofNat 7, []), 19, .ofNat 3, [])] : List sRf), rfOk [s0] hp q := hH.1
  have g0 : hC hp 176 1 = 2 := by
    have u := rfR0 (xv := (2 : Int)) (c0 := 176) (i0 := 1) (hRf _ (.head _)) (sE_k _ _) (sE_k _ _) (sE_k _ _)
    show hC hp (176) 1 = 2
    omega
  have g1 : rr hp 1 7 = 3 := by
    have u := rfR0 (xv := (3 : Int)) (c0 := hC hp 176 1) (i0 := 7) (hRf _ (.tail _ (.head _))) (by rw [g0]; exact sE_k _ _) (sE_k _ _) (sE_k _ _)
    show hC hp (hC hp 176 1) 7 = 3
    omega
  have hFc : ∀ q ∈ ([(101, [(.ofNat 0, [(.ofNat 1, 0)])])] : List sFc), fcOk fFS [s0] hp q := hH.2
  have f0 : ∀ j : Nat, j < 12 → (j : Int) < s0 → hL hp (rr hp 1 7) j = 0 := fcX (ys := [s0]) (hFc _ (.head _)) ⟨sE_V rfl, trivial⟩
  exact poX (.head _) rfl hR (all_nil) (all_nil) (all_cons ⟨[], trivial, (show ∀ j : Nat, j < 12 → hL hp (rr hp 1 7) j = 0 from fun j hj => f0 j hj (by omega))⟩ (all_nil))
theorem rl470 : ruOk fFS gR470 := by
  intro r hp hO hN hH
  obtain ⟨s0, rfl⟩ := len1 (show r.length = 1 from hN.1)
  have hR := hN.2.1.1
  have hRf : ∀ q ∈ ([((43, .ofNat 176, []), (.ofNat 1, []), 18, .ofNat 2, []), ((2, .ofNat 2, []), (.ofNat 8, []), 20, .ofNat 0, [(.ofNat 1, 0)])] : List sRf), rfOk [s0] hp q := hH.1
  have g0 : hC hp 176 1 = 2 := by
    have u := rfR0 (xv := (2 : Int)) (c0 := 176) (i0 := 1) (hRf _ (.head _)) (sE_k _ _) (sE_k _ _) (sE_k _ _)
    show hC hp (176) 1 = 2
    omega
  have g1 : s0 = ((rr hp 1 8 : Nat) : Int) := rfR0 (c0 := hC hp 176 1) (hRf _ (.tail _ (.head _))) (by rw [g0]; exact sE_k _ _) (sE_k _ _) (sE_V rfl)
  have hFc : ∀ q ∈ ([(100, [])] : List sFc), fcOk fFS [s0] hp q := hH.2
  have f0 : True := fcX (ys := []) (hFc _ (.head _)) trivial
  exact poX (.head _) rfl hR (all_nil) (all_nil) (all_cons ⟨[0], ⟨sE_k _ _, trivial⟩, (show ∀ j : Nat, j < 100 → (j : Int) < (0 : Int) → hI hp (rr hp 1 8) j = -1 from fun j _ w => absurd w (by omega))⟩ (all_nil))
theorem rl471 : ruOk fFS gR471 := by
  intro r hp hO hN hH
  obtain ⟨s0, s1, s2, rfl⟩ := len3 (show r.length = 3 from hN.1)
  have hR := hN.2.1.1
  have hIv : ∀ q ∈ ([(1, .ofNat 0, .ofNat 99), (2, .negSucc 0, .negSucc 0)] : sIv), ∃ x, ([s0, s1, s2] : List Int)[q.1]? = some x ∧ q.2.1 ≤ x ∧ x ≤ q.2.2 := hN.2.1.2
  have b0 : (0 : Int) ≤ s1 ∧ s1 ≤ (99 : Int) := ivX (q := (1, .ofNat 0, .ofNat 99)) (y := s1) (hIv _ (.head _)) rfl
  have b1 : (-1 : Int) ≤ s2 ∧ s2 ≤ (-1 : Int) := ivX (q := (2, .negSucc 0, .negSucc 0)) (y := s2) (hIv _ (.tail _ (.head _))) rfl
  have hRf : ∀ q ∈ ([((43, .ofNat 176, []), (.ofNat 1, []), 18, .ofNat 2, []), ((2, .ofNat 2, []), (.ofNat 8, []), 20, .ofNat 0, [(.ofNat 1, 0)]), ((4, .ofNat 0, [(.ofNat 1, 0)]), (.ofNat 0, [(.ofNat 1, 1)]), 1, .ofNat 0, [(.ofNat 1, 2)])] : List sRf), rfOk [s0, s1, s2] hp q := hH.1
  have g0 : hC hp 176 1 = 2 := by
    have u := rfR0 (xv := (2 : Int)) (c0 := 176) (i0 := 1) (hRf _ (.head _)) (sE_k _ _) (sE_k _ _) (sE_k _ _)
    show hC hp (176) 1 = 2
    omega
  have g1 : s0 = ((rr hp 1 8 : Nat) : Int) := rfR0 (c0 := hC hp 176 1) (hRf _ (.tail _ (.head _))) (by rw [g0]; exact sE_k _ _) (sE_k _ _) (sE_V rfl)
  obtain ⟨i2, e2, l2, h2⟩ := rfI (xv := s2) (iv := s1) (hRf _ (.tail _ (.tail _ (.head _)))) (sEv (sE_V rfl) g1.symm) (sE_V rfl) (sE_V rfl)
  have l2 : i2 < 100 := l2
  have h2 : hI hp (rr hp 1 8) i2 = s2 := h2
  have hFc : ∀ q ∈ ([(103, [(.ofNat 0, [(.ofNat 1, 1)])])] : List sFc), fcOk fFS [s0, s1, s2] hp q := hH.2
  have f0 : ∀ j : Nat, j < 100 → (j : Int) < s1 → hI hp (rr hp 1 8) j = -1 := fcX (ys := [s1]) (hFc _ (.head _)) ⟨sE_V rfl, trivial⟩
  exact poX (.head _) rfl hR (all_nil) (all_nil) (all_cons ⟨[(s1 + 1)], ⟨sEv (y' := ((1 : Int) + ((1 : Int) * s1 + 0))) rfl (by omega), trivial⟩, (show ∀ j : Nat, j < 100 → (j : Int) < (s1 + 1) → hI hp (rr hp 1 8) j = -1 from fl_s f0 h2 (by omega) (by omega) (by omega))⟩ (all_nil))
theorem rl472 : ruOk fFS gR472 := by
  intro r hp hO hN hH
  obtain ⟨s0, s1, rfl⟩ := len2 (show r.length = 2 from hN.1)
  have hR := hN.2.1.1
  have hIv : ∀ q ∈ ([(1, .ofNat 100, .ofNat 100)] : sIv), ∃ x, ([s0, s1] : List Int)[q.1]? = some x ∧ q.2.1 ≤ x ∧ x ≤ q.2.2 := hN.2.1.2
  have b0 : (100 : Int) ≤ s1 ∧ s1 ≤ (100 : Int) := ivX (q := (1, .ofNat 100, .ofNat 100)) (y := s1) (hIv _ (.head _)) rfl
  have hRf : ∀ q ∈ ([((43, .ofNat 176, []), (.ofNat 1, []), 18, .ofNat 2, []), ((2, .ofNat 2, []), (.ofNat 8, []), 20, .ofNat 0, [(.ofNat 1, 0)])] : List sRf), rfOk [s0, s1] hp q := hH.1
  have g0 : hC hp 176 1 = 2 := by
    have u := rfR0 (xv := (2 : Int)) (c0 := 176) (i0 := 1) (hRf _ (.head _)) (sE_k _ _) (sE_k _ _) (sE_k _ _)
    show hC hp (176) 1 = 2
    omega
  have g1 : s0 = ((rr hp 1 8 : Nat) : Int) := rfR0 (c0 := hC hp 176 1) (hRf _ (.tail _ (.head _))) (by rw [g0]; exact sE_k _ _) (sE_k _ _) (sE_V rfl)
  have hFc : ∀ q ∈ ([(103, [(.ofNat 0, [(.ofNat 1, 1)])])] : List sFc), fcOk fFS [s0, s1] hp q := hH.2
  have f0 : ∀ j : Nat, j < 100 → (j : Int) < s1 → hI hp (rr hp 1 8) j = -1 := fcX (ys := [s1]) (hFc _ (.head _)) ⟨sE_V rfl, trivial⟩
  exact poX (.head _) rfl hR (all_nil) (all_nil) (all_cons ⟨[], trivial, (show ∀ j : Nat, j < 100 → hI hp (rr hp 1 8) j = -1 from fun j hj => f0 j hj (by omega))⟩ (all_nil))
theorem rl473 : ruOk fFS gR473 := by
  intro r hp hO hN hH
  obtain ⟨s0, rfl⟩ := len1 (show r.length = 1 from hN.1)
  have hR := hN.2.1.1
  have hRf : ∀ q ∈ ([((43, .ofNat 176, []), (.ofNat 1, []), 18, .ofNat 2, []), ((2, .ofNat 2, []), (.ofNat 9, []), 21, .ofNat 0, [(.ofNat 1, 0)])] : List sRf), rfOk [s0] hp q := hH.1
  have g0 : hC hp 176 1 = 2 := by
    have u := rfR0 (xv := (2 : Int)) (c0 := 176) (i0 := 1) (hRf _ (.head _)) (sE_k _ _) (sE_k _ _) (sE_k _ _)
    show hC hp (176) 1 = 2
    omega
  have g1 : s0 = ((rr hp 1 9 : Nat) : Int) := rfR0 (c0 := hC hp 176 1) (hRf _ (.tail _ (.head _))) (by rw [g0]; exact sE_k _ _) (sE_k _ _) (sE_V rfl)
  have hFc : ∀ q ∈ ([(100, [])] : List sFc), fcOk fFS [s0] hp q := hH.2
  have f0 : True := fcX (ys := []) (hFc _ (.head _)) trivial
  exact poX (.head _) rfl hR (all_nil) (all_nil) (all_cons ⟨[0], ⟨sE_k _ _, trivial⟩, (show ∀ j : Nat, j < 100 → (j : Int) < (0 : Int) → hI hp (rr hp 1 9) j = -1 from fun j _ w => absurd w (by omega))⟩ (all_nil))
theorem rl474 : ruOk fFS gR474 := by
  intro r hp hO hN hH
  obtain ⟨s0, s1, s2, rfl⟩ := len3 (show r.length = 3 from hN.1)
  have hR := hN.2.1.1
  have hIv : ∀ q ∈ ([(1, .ofNat 0, .ofNat 99), (2, .negSucc 0, .negSucc 0)] : sIv), ∃ x, ([s0, s1, s2] : List Int)[q.1]? = some x ∧ q.2.1 ≤ x ∧ x ≤ q.2.2 := hN.2.1.2
  have b0 : (0 : Int) ≤ s1 ∧ s1 ≤ (99 : Int) := ivX (q := (1, .ofNat 0, .ofNat 99)) (y := s1) (hIv _ (.head _)) rfl
  have b1 : (-1 : Int) ≤ s2 ∧ s2 ≤ (-1 : Int) := ivX (q := (2, .negSucc 0, .negSucc 0)) (y := s2) (hIv _ (.tail _ (.head _))) rfl
  have hRf : ∀ q ∈ ([((43, .ofNat 176, []), (.ofNat 1, []), 18, .ofNat 2, []), ((2, .ofNat 2, []), (.ofNat 9, []), 21, .ofNat 0, [(.ofNat 1, 0)]), ((5, .ofNat 0, [(.ofNat 1, 0)]), (.ofNat 0, [(.ofNat 1, 1)]), 1, .ofNat 0, [(.ofNat 1, 2)])] : List sRf), rfOk [s0, s1, s2] hp q := hH.1
  have g0 : hC hp 176 1 = 2 := by
    have u := rfR0 (xv := (2 : Int)) (c0 := 176) (i0 := 1) (hRf _ (.head _)) (sE_k _ _) (sE_k _ _) (sE_k _ _)
    show hC hp (176) 1 = 2
    omega
  have g1 : s0 = ((rr hp 1 9 : Nat) : Int) := rfR0 (c0 := hC hp 176 1) (hRf _ (.tail _ (.head _))) (by rw [g0]; exact sE_k _ _) (sE_k _ _) (sE_V rfl)
  obtain ⟨i2, e2, l2, h2⟩ := rfI (xv := s2) (iv := s1) (hRf _ (.tail _ (.tail _ (.head _)))) (sEv (sE_V rfl) g1.symm) (sE_V rfl) (sE_V rfl)
  have l2 : i2 < 100 := l2
  have h2 : hI hp (rr hp 1 9) i2 = s2 := h2
  have hFc : ∀ q ∈ ([(105, [(.ofNat 0, [(.ofNat 1, 1)])])] : List sFc), fcOk fFS [s0, s1, s2] hp q := hH.2
  have f0 : ∀ j : Nat, j < 100 → (j : Int) < s1 → hI hp (rr hp 1 9) j = -1 := fcX (ys := [s1]) (hFc _ (.head _)) ⟨sE_V rfl, trivial⟩
  exact poX (.head _) rfl hR (all_nil) (all_nil) (all_cons ⟨[(s1 + 1)], ⟨sEv (y' := ((1 : Int) + ((1 : Int) * s1 + 0))) rfl (by omega), trivial⟩, (show ∀ j : Nat, j < 100 → (j : Int) < (s1 + 1) → hI hp (rr hp 1 9) j = -1 from fl_s f0 h2 (by omega) (by omega) (by omega))⟩ (all_nil))
theorem rl475 : ruOk fFS gR475 := by
  intro r hp hO hN hH
  obtain ⟨s0, s1, rfl⟩ := len2 (show r.length = 2 from hN.1)
  have hR := hN.2.1.1
  have hIv : ∀ q ∈ ([(1, .ofNat 100, .ofNat 100)] : sIv), ∃ x, ([s0, s1] : List Int)[q.1]? = some x ∧ q.2.1 ≤ x ∧ x ≤ q.2.2 := hN.2.1.2
  have b0 : (100 : Int) ≤ s1 ∧ s1 ≤ (100 : Int) := ivX (q := (1, .ofNat 100, .ofNat 100)) (y := s1) (hIv _ (.head _)) rfl
  have hRf : ∀ q ∈ ([((43, .ofNat 176, []), (.ofNat 1, []), 18, .ofNat 2, []), ((2, .ofNat 2, []), (.ofNat 9, []), 21, .ofNat 0, [(.ofNat 1, 0)])] : List sRf), rfOk [s0, s1] hp q := hH.1
  have g0 : hC hp 176 1 = 2 := by
    have u := rfR0 (xv := (2 : Int)) (c0 := 176) (i0 := 1) (hRf _ (.head _)) (sE_k _ _) (sE_k _ _) (sE_k _ _)
    show hC hp (176) 1 = 2
    omega
  have g1 : s0 = ((rr hp 1 9 : Nat) : Int) := rfR0 (c0 := hC hp 176 1) (hRf _ (.tail _ (.head _))) (by rw [g0]; exact sE_k _ _) (sE_k _ _) (sE_V rfl)
  have hFc : ∀ q ∈ ([(105, [(.ofNat 0, [(.ofNat 1, 1)])])] : List sFc), fcOk fFS [s0, s1] hp q := hH.2
  have f0 : ∀ j : Nat, j < 100 → (j : Int) < s1 → hI hp (rr hp 1 9) j = -1 := fcX (ys := [s1]) (hFc _ (.head _)) ⟨sE_V rfl, trivial⟩
  exact poX (.head _) rfl hR (all_nil) (all_nil) (all_cons ⟨[], trivial, (show ∀ j : Nat, j < 100 → hI hp (rr hp 1 9) j = -1 from fun j hj => f0 j hj (by omega))⟩ (all_nil))
theorem rl476 : ruOk fFS gR476 := by
  intro r hp hO hN hH
  obtain ⟨s0, s1, s2, s3, rfl⟩ := len4 (show r.length = 4 from hN.1)
  have hR := hN.2.1.1
  have hIv : ∀ q ∈ ([(0, .negSucc 2147483647, .ofNat 2147483647), (1, .ofNat 0, .ofNat 7), (3, .negSucc 2147483647, .ofNat 2147483647)] : sIv), ∃ x, ([s0, s1, s2, s3] : List Int)[q.1]? = some x ∧ q.2.1 ≤ x ∧ x ≤ q.2.2 := hN.2.1.2
  have b1 : (0 : Int) ≤ s1 ∧ s1 ≤ (7 : Int) := ivX (q := (1, .ofNat 0, .ofNat 7)) (y := s1) (hIv _ (.tail _ (.head _))) rfl
  have hRf : ∀ q ∈ ([((43, .ofNat 176, []), (.ofNat 1, []), 18, .ofNat 2, []), ((2, .ofNat 2, []), (.ofNat 16, []), 28, .ofNat 0, [(.ofNat 1, 2)]), ((12, .ofNat 0, [(.ofNat 1, 2)]), (.ofNat 0, [(.ofNat 1, 1)]), 1, .ofNat 0, [(.ofNat 1, 3)])] : List sRf), rfOk [s0, s1, s2, s3] hp q := hH.1
  have g0 : hC hp 176 1 = 2 := by
    have u := rfR0 (xv := (2 : Int)) (c0 := 176) (i0 := 1) (hRf _ (.head _)) (sE_k _ _) (sE_k _ _) (sE_k _ _)
    show hC hp (176) 1 = 2
    omega
  have g1 : s2 = ((rr hp 1 16 : Nat) : Int) := rfR0 (c0 := hC hp 176 1) (hRf _ (.tail _ (.head _))) (by rw [g0]; exact sE_k _ _) (sE_k _ _) (sE_V rfl)
  obtain ⟨i2, e2, l2, h2⟩ := rfI (xv := s3) (iv := s1) (hRf _ (.tail _ (.tail _ (.head _)))) (sEv (sE_V rfl) g1.symm) (sE_V rfl) (sE_V rfl)
  have l2 : i2 < 8 := l2
  have h2 : hI hp (rr hp 1 16) i2 = s3 := h2
  have y : (((1 : Int) + ((-1 : Int) * s0 + ((1 : Int) * s3 + 0))) ≤ 0) ∨ (((0 : Int) + ((-1 : Int) * s0 + ((1 : Int) * s3 + 0))) ≤ 0 ∧ ((0 : Int) + ((1 : Int) * s0 + ((-1 : Int) * s3 + 0))) ≤ 0) ∨ (((1 : Int) + ((1 : Int) * s0 + ((-1 : Int) * s3 + 0))) ≤ 0) := by omega
  rcases y with y | y | y
  · exact poX (.head _) rfl hR (all_nil) (all_cons ⟨((1 : Int) + ((-1 : Int) * s0 + ((1 : Int) * s3 + 0))), rfl, (show ((1 : Int) + ((-1 : Int) * s0 + ((1 : Int) * s3 + 0))) ≤ 0 by omega)⟩ (all_nil)) (all_nil)
  · exact poX (.tail _ (.head _)) rfl hR (all_nil) (all_cons ⟨((0 : Int) + ((-1 : Int) * s0 + ((1 : Int) * s3 + 0))), rfl, (show ((0 : Int) + ((-1 : Int) * s0 + ((1 : Int) * s3 + 0))) ≤ 0 by omega)⟩ (all_cons ⟨((0 : Int) + ((1 : Int) * s0 + ((-1 : Int) * s3 + 0))), rfl, (show ((0 : Int) + ((1 : Int) * s0 + ((-1 : Int) * s3 + 0))) ≤ 0 by omega)⟩ (all_nil))) (all_nil)
  · exact poX (.tail _ (.tail _ (.head _))) rfl hR (all_nil) (all_cons ⟨((1 : Int) + ((1 : Int) * s0 + ((-1 : Int) * s3 + 0))), rfl, (show ((1 : Int) + ((1 : Int) * s0 + ((-1 : Int) * s3 + 0))) ≤ 0 by omega)⟩ (all_nil)) (all_nil)
theorem rl477 : ruOk fFS gR477 := by
  intro r hp hO hN hH
  obtain ⟨s0, s1, s2, s3, rfl⟩ := len4 (show r.length = 4 from hN.1)
  have hR := hN.2.1.1
  have hIv : ∀ q ∈ ([(0, .negSucc 2147483647, .ofNat 2147483647), (1, .ofNat 0, .ofNat 7), (3, .negSucc 2147483647, .ofNat 2147483647)] : sIv), ∃ x, ([s0, s1, s2, s3] : List Int)[q.1]? = some x ∧ q.2.1 ≤ x ∧ x ≤ q.2.2 := hN.2.1.2
  have b1 : (0 : Int) ≤ s1 ∧ s1 ≤ (7 : Int) := ivX (q := (1, .ofNat 0, .ofNat 7)) (y := s1) (hIv _ (.tail _ (.head _))) rfl
  have hRf : ∀ q ∈ ([((43, .ofNat 176, []), (.ofNat 1, []), 18, .ofNat 2, []), ((2, .ofNat 2, []), (.ofNat 17, []), 29, .ofNat 0, [(.ofNat 1, 2)]), ((13, .ofNat 0, [(.ofNat 1, 2)]), (.ofNat 0, [(.ofNat 1, 1)]), 1, .ofNat 0, [(.ofNat 1, 3)])] : List sRf), rfOk [s0, s1, s2, s3] hp q := hH.1
  have g0 : hC hp 176 1 = 2 := by
    have u := rfR0 (xv := (2 : Int)) (c0 := 176) (i0 := 1) (hRf _ (.head _)) (sE_k _ _) (sE_k _ _) (sE_k _ _)
    show hC hp (176) 1 = 2
    omega
  have g1 : s2 = ((rr hp 1 17 : Nat) : Int) := rfR0 (c0 := hC hp 176 1) (hRf _ (.tail _ (.head _))) (by rw [g0]; exact sE_k _ _) (sE_k _ _) (sE_V rfl)
  obtain ⟨i2, e2, l2, h2⟩ := rfI (xv := s3) (iv := s1) (hRf _ (.tail _ (.tail _ (.head _)))) (sEv (sE_V rfl) g1.symm) (sE_V rfl) (sE_V rfl)
  have l2 : i2 < 8 := l2
  have h2 : hI hp (rr hp 1 17) i2 = s3 := h2
  have y : (((1 : Int) + ((-1 : Int) * s0 + ((1 : Int) * s3 + 0))) ≤ 0) ∨ (((0 : Int) + ((-1 : Int) * s0 + ((1 : Int) * s3 + 0))) ≤ 0 ∧ ((0 : Int) + ((1 : Int) * s0 + ((-1 : Int) * s3 + 0))) ≤ 0) ∨ (((1 : Int) + ((1 : Int) * s0 + ((-1 : Int) * s3 + 0))) ≤ 0) := by omega
  rcases y with y | y | y
  · exact poX (.head _) rfl hR (all_nil) (all_cons ⟨((1 : Int) + ((-1 : Int) * s0 + ((1 : Int) * s3 + 0))), rfl, (show ((1 : Int) + ((-1 : Int) * s0 + ((1 : Int) * s3 + 0))) ≤ 0 by omega)⟩ (all_nil)) (all_nil)
  · exact poX (.tail _ (.head _)) rfl hR (all_nil) (all_cons ⟨((0 : Int) + ((-1 : Int) * s0 + ((1 : Int) * s3 + 0))), rfl, (show ((0 : Int) + ((-1 : Int) * s0 + ((1 : Int) * s3 + 0))) ≤ 0 by omega)⟩ (all_cons ⟨((0 : Int) + ((1 : Int) * s0 + ((-1 : Int) * s3 + 0))), rfl, (show ((0 : Int) + ((1 : Int) * s0 + ((-1 : Int) * s3 + 0))) ≤ 0 by omega)⟩ (all_nil))) (all_nil)
  · exact poX (.tail _ (.tail _ (.head _))) rfl hR (all_nil) (all_cons ⟨((1 : Int) + ((1 : Int) * s0 + ((-1 : Int) * s3 + 0))), rfl, (show ((1 : Int) + ((1 : Int) * s0 + ((-1 : Int) * s3 + 0))) ≤ 0 by omega)⟩ (all_nil)) (all_nil)
theorem rl478 : ruOk fFS gR478 := by
  intro r hp hO hN hH
  obtain ⟨s0, s1, s2, s3, s4, s5, s6, s7, s8, rfl⟩ := len9 (show r.length = 9 from hN.1)
  have hR := hN.2.1.1
  have hIv : ∀ q ∈ ([(0, .negSucc 2147483647, .ofNat 2147483647), (1, .negSucc 2147483647, .ofNat 2147483647), (2, .ofNat 0, .ofNat 7), (5, .negSucc 2147483647, .ofNat 2147483647), (6, .negSucc 2147483647, .ofNat 2147483647), (7, .negSucc 2147483647, .ofNat 2147483647), (8, .negSucc 2147483647, .ofNat 2147483647)] : sIv), ∃ x, ([s0, s1, s2, s3, s4, s5, s6, s7, s8] : List Int)[q.1]? = some x ∧ q.2.1 ≤ x ∧ x ≤ q.2.2 := hN.2.1.2
  have b2 : (0 : Int) ≤ s2 ∧ s2 ≤ (7 : Int) := ivX (q := (2, .ofNat 0, .ofNat 7)) (y := s2) (hIv _ (.tail _ (.tail _ (.head _)))) rfl
  have hCs : ∀ c ∈ ([(.ofNat 1, [(.negSucc 0, 0), (.ofNat 1, 5)])] : List sLn), ∃ x, sE [s0, s1, s2, s3, s4, s5, s6, s7, s8] c = some x ∧ x ≤ 0 := hN.2.2.1
  have c0 : ((1 : Int) + ((-1 : Int) * s0 + ((1 : Int) * s5 + 0))) ≤ 0 := csX (hCs _ (.head _)) rfl
  have hRf : ∀ q ∈ ([((43, .ofNat 176, []), (.ofNat 1, []), 18, .ofNat 2, []), ((2, .ofNat 2, []), (.ofNat 16, []), 28, .ofNat 0, [(.ofNat 1, 3)]), ((2, .ofNat 2, []), (.ofNat 17, []), 29, .ofNat 0, [(.ofNat 1, 4)]), ((12, .ofNat 0, [(.ofNat 1, 3)]), (.ofNat 0, [(.ofNat 1, 2)]), 1, .ofNat 0, [(.ofNat 1, 5)]), ((13, .ofNat 0, [(.ofNat 1, 4)]), (.ofNat 0, [(.ofNat 1, 2)]), 1, .ofNat 0, [(.ofNat 1, 6)]), ((2, .ofNat 2, []), (.ofNat 5, []), 1, .ofNat 0, [(.ofNat 1, 7)])] : List sRf), rfOk [s0, s1, s2, s3, s4, s5, s6, s7, s8] hp q := hH.1
  have g0 : hC hp 176 1 = 2 := by
    have u := rfR0 (xv := (2 : Int)) (c0 := 176) (i0 := 1) (hRf _ (.head _)) (sE_k _ _) (sE_k _ _) (sE_k _ _)
    show hC hp (176) 1 = 2
    omega
  have g1 : s3 = ((rr hp 1 16 : Nat) : Int) := rfR0 (c0 := hC hp 176 1) (hRf _ (.tail _ (.head _))) (by rw [g0]; exact sE_k _ _) (sE_k _ _) (sE_V rfl)
  have g2 : s4 = ((rr hp 1 17 : Nat) : Int) := rfR0 (c0 := hC hp 176 1) (hRf _ (.tail _ (.tail _ (.head _)))) (by rw [g0]; exact sE_k _ _) (sE_k _ _) (sE_V rfl)
  obtain ⟨i3, e3, l3, h3⟩ := rfI (xv := s5) (iv := s2) (hRf _ (.tail _ (.tail _ (.tail _ (.head _))))) (sEv (sE_V rfl) g1.symm) (sE_V rfl) (sE_V rfl)
  have l3 : i3 < 8 := l3
  have h3 : hI hp (rr hp 1 16) i3 = s5 := h3
  obtain ⟨i4, e4, l4, h4⟩ := rfI (xv := s6) (iv := s2) (hRf _ (.tail _ (.tail _ (.tail _ (.tail _ (.head _)))))) (sEv (sE_V rfl) g2.symm) (sE_V rfl) (sE_V rfl)
  have l4 : i4 < 8 := l4
  have h4 : hI hp (rr hp 1 17) i4 = s6 := h4
  have h5 : hI hp (hC hp 176 1) 5 = s7 := rfI0 (c0 := hC hp 176 1) (hRf _ (.tail _ (.tail _ (.tail _ (.tail _ (.tail _ (.head _))))))) (by rw [g0]; exact sE_k _ _) (sE_k _ _) (sE_V rfl)
  have hFc : ∀ q ∈ ([(95, [(.ofNat 0, [(.ofNat 1, 2)]), (.ofNat 0, [(.ofNat 1, 8)]), (.ofNat 0, [(.ofNat 1, 0)]), (.ofNat 0, [(.ofNat 1, 1)])])] : List sFc), fcOk fFS [s0, s1, s2, s3, s4, s5, s6, s7, s8] hp q := hH.2
  have f0 : ∀ i : Nat, i < 8 → (i : Int) < s2 → ¬ (hI hp (rr hp 1 16) i = s0 ∧ hI hp (rr hp 1 17) i = s1) := fcX (ys := [s2, s8, s0, s1]) (hFc _ (.head _)) ⟨sE_V rfl, sE_V rfl, sE_V rfl, sE_V rfl, trivial⟩
  exact poX (.head _) rfl hR (all_nil) (all_nil) (all_cons ⟨[(s2 + 1), s8, s0, s1], ⟨sEv (y' := ((1 : Int) + ((1 : Int) * s2 + 0))) rfl (by omega), sE_V rfl, sE_V rfl, sE_V rfl, trivial⟩, (show ∀ i : Nat, i < 8 → (i : Int) < (s2 + 1) → ¬ (hI hp (rr hp 1 16) i = s0 ∧ hI hp (rr hp 1 17) i = s1) from nn_s f0 h3 h4 (by omega) (by omega) (by omega) (by omega))⟩ (all_nil))
theorem rl479 : ruOk fFS gR479 := by
  intro r hp hO hN hH
  obtain ⟨s0, s1, s2, s3, s4, s5, s6, s7, s8, rfl⟩ := len9 (show r.length = 9 from hN.1)
  have hR := hN.2.1.1
  have hIv : ∀ q ∈ ([(0, .negSucc 2147483647, .ofNat 2147483647), (1, .negSucc 2147483647, .ofNat 2147483647), (2, .ofNat 0, .ofNat 7), (5, .negSucc 2147483647, .ofNat 2147483647), (6, .negSucc 2147483647, .ofNat 2147483647), (7, .negSucc 2147483647, .ofNat 2147483647), (8, .negSucc 2147483647, .ofNat 2147483647)] : sIv), ∃ x, ([s0, s1, s2, s3, s4, s5, s6, s7, s8] : List Int)[q.1]? = some x ∧ q.2.1 ≤ x ∧ x ≤ q.2.2 := hN.2.1.2
  have b2 : (0 : Int) ≤ s2 ∧ s2 ≤ (7 : Int) := ivX (q := (2, .ofNat 0, .ofNat 7)) (y := s2) (hIv _ (.tail _ (.tail _ (.head _)))) rfl
  have hCs : ∀ c ∈ ([(.ofNat 1, [(.ofNat 1, 0), (.negSucc 0, 5)])] : List sLn), ∃ x, sE [s0, s1, s2, s3, s4, s5, s6, s7, s8] c = some x ∧ x ≤ 0 := hN.2.2.1
  have c0 : ((1 : Int) + ((1 : Int) * s0 + ((-1 : Int) * s5 + 0))) ≤ 0 := csX (hCs _ (.head _)) rfl
  have hRf : ∀ q ∈ ([((43, .ofNat 176, []), (.ofNat 1, []), 18, .ofNat 2, []), ((2, .ofNat 2, []), (.ofNat 16, []), 28, .ofNat 0, [(.ofNat 1, 3)]), ((2, .ofNat 2, []), (.ofNat 17, []), 29, .ofNat 0, [(.ofNat 1, 4)]), ((12, .ofNat 0, [(.ofNat 1, 3)]), (.ofNat 0, [(.ofNat 1, 2)]), 1, .ofNat 0, [(.ofNat 1, 5)]), ((13, .ofNat 0, [(.ofNat 1, 4)]), (.ofNat 0, [(.ofNat 1, 2)]), 1, .ofNat 0, [(.ofNat 1, 6)]), ((2, .ofNat 2, []), (.ofNat 5, []), 1, .ofNat 0, [(.ofNat 1, 7)])] : List sRf), rfOk [s0, s1, s2, s3, s4, s5, s6, s7, s8] hp q := hH.1
  have g0 : hC hp 176 1 = 2 := by
    have u := rfR0 (xv := (2 : Int)) (c0 := 176) (i0 := 1) (hRf _ (.head _)) (sE_k _ _) (sE_k _ _) (sE_k _ _)
    show hC hp (176) 1 = 2
    omega
  have g1 : s3 = ((rr hp 1 16 : Nat) : Int) := rfR0 (c0 := hC hp 176 1) (hRf _ (.tail _ (.head _))) (by rw [g0]; exact sE_k _ _) (sE_k _ _) (sE_V rfl)
  have g2 : s4 = ((rr hp 1 17 : Nat) : Int) := rfR0 (c0 := hC hp 176 1) (hRf _ (.tail _ (.tail _ (.head _)))) (by rw [g0]; exact sE_k _ _) (sE_k _ _) (sE_V rfl)
  obtain ⟨i3, e3, l3, h3⟩ := rfI (xv := s5) (iv := s2) (hRf _ (.tail _ (.tail _ (.tail _ (.head _))))) (sEv (sE_V rfl) g1.symm) (sE_V rfl) (sE_V rfl)
  have l3 : i3 < 8 := l3
  have h3 : hI hp (rr hp 1 16) i3 = s5 := h3
  obtain ⟨i4, e4, l4, h4⟩ := rfI (xv := s6) (iv := s2) (hRf _ (.tail _ (.tail _ (.tail _ (.tail _ (.head _)))))) (sEv (sE_V rfl) g2.symm) (sE_V rfl) (sE_V rfl)
  have l4 : i4 < 8 := l4
  have h4 : hI hp (rr hp 1 17) i4 = s6 := h4
  have h5 : hI hp (hC hp 176 1) 5 = s7 := rfI0 (c0 := hC hp 176 1) (hRf _ (.tail _ (.tail _ (.tail _ (.tail _ (.tail _ (.head _))))))) (by rw [g0]; exact sE_k _ _) (sE_k _ _) (sE_V rfl)
  have hFc : ∀ q ∈ ([(95, [(.ofNat 0, [(.ofNat 1, 2)]), (.ofNat 0, [(.ofNat 1, 8)]), (.ofNat 0, [(.ofNat 1, 0)]), (.ofNat 0, [(.ofNat 1, 1)])])] : List sFc), fcOk fFS [s0, s1, s2, s3, s4, s5, s6, s7, s8] hp q := hH.2
  have f0 : ∀ i : Nat, i < 8 → (i : Int) < s2 → ¬ (hI hp (rr hp 1 16) i = s0 ∧ hI hp (rr hp 1 17) i = s1) := fcX (ys := [s2, s8, s0, s1]) (hFc _ (.head _)) ⟨sE_V rfl, sE_V rfl, sE_V rfl, sE_V rfl, trivial⟩
  exact poX (.head _) rfl hR (all_nil) (all_nil) (all_cons ⟨[(s2 + 1), s8, s0, s1], ⟨sEv (y' := ((1 : Int) + ((1 : Int) * s2 + 0))) rfl (by omega), sE_V rfl, sE_V rfl, sE_V rfl, trivial⟩, (show ∀ i : Nat, i < 8 → (i : Int) < (s2 + 1) → ¬ (hI hp (rr hp 1 16) i = s0 ∧ hI hp (rr hp 1 17) i = s1) from nn_s f0 h3 h4 (by omega) (by omega) (by omega) (by omega))⟩ (all_nil))
end CkRul5
