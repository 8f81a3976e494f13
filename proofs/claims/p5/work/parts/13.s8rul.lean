section CkRul8
theorem rl640 : ruOk fFS gR640 := by
  intro r hp hO hN hH
  obtain ⟨s0, s1, s2, s3, s4, s5, s6, s7, s8, rfl⟩ := len9 (show r.length = 9 from hN.1)
  have hR := hN.2.1.1
  have hIv : ∀ q ∈ ([(0, .negSucc 2147483647, .ofNat 2147483647), (1, .negSucc 2147483647, .ofNat 2147483647), (2, .negSucc 2147483647, .ofNat 2147483647), (3, .ofNat 0, .ofNat 1), (4, .negSucc 2147483647, .ofNat 2147483647), (5, .negSucc 2147483647, .ofNat 2147483647), (6, .negSucc 2147483647, .ofNat 2147483647), (7, .negSucc 2147483647, .ofNat 2147483647), (8, .negSucc 2147483647, .ofNat 2147483647)] : sIv), ∃ x, ([s0, s1, s2, s3, s4, s5, s6, s7, s8] : List Int)[q.1]? = some x ∧ q.2.1 ≤ x ∧ x ≤ q.2.2 := hN.2.1.2
  have b3 : (0 : Int) ≤ s3 ∧ s3 ≤ (1 : Int) := ivX (q := (3, .ofNat 0, .ofNat 1)) (y := s3) (hIv _ (.tail _ (.tail _ (.tail _ (.head _))))) rfl
  have hFc : ∀ q ∈ ([(250, [(.ofNat 0, [(.ofNat 1, 0)]), (.ofNat 0, [(.ofNat 1, 1)]), (.ofNat 0, [(.ofNat 1, 2)]), (.ofNat 0, [(.ofNat 1, 3)]), (.ofNat 0, [(.ofNat 1, 4)]), (.ofNat 0, [(.ofNat 1, 5)]), (.ofNat 0, [(.ofNat 1, 6)])]), (254, [(.ofNat 0, [(.ofNat 1, 0)]), (.ofNat 0, [(.ofNat 1, 7)]), (.ofNat 0, [(.ofNat 1, 8)])])] : List sFc), fcOk fFS [s0, s1, s2, s3, s4, s5, s6, s7, s8] hp q := hH.2
  have f0 : roH (MT hp) (nmM hp) (hI hp 275 0) (hI hp 275 1) s0 s1 s2 s3 s4 s5 s6 := fcX (ys := [s0, s1, s2, s3, s4, s5, s6]) (hFc _ (.head _)) ⟨sE_V rfl, sE_V rfl, sE_V rfl, sE_V rfl, sE_V rfl, sE_V rfl, sE_V rfl, trivial⟩
  have f1 : roB (MT hp) (nmM hp) (hI hp 275 0) (hI hp 275 1) s0 s7 s8 := fcX (ys := [s0, s7, s8]) (hFc _ (.tail _ (.head _))) ⟨sE_V rfl, sE_V rfl, sE_V rfl, trivial⟩
  exact poX (.head _) rfl hR (all_nil) (all_nil) (all_cons ⟨[1, s4], ⟨sE_k _ _, sE_V rfl, trivial⟩, (show roS (MT hp) (nmM hp) (hI hp 275 0) (hI hp 275 1) (1 : Int) s4 from ron_f1 (MT_ok hO) f0 f1 (by omega))⟩ (all_nil))
theorem rl641 : ruOk fFS gR641 := by
  intro r hp hO hN hH
  obtain ⟨s0, s1, s2, s3, s4, s5, s6, s7, s8, rfl⟩ := len9 (show r.length = 9 from hN.1)
  have hR := hN.2.1.1
  have hIv : ∀ q ∈ ([(0, .negSucc 2147483647, .ofNat 2147483647), (1, .negSucc 2147483647, .ofNat 2147483647), (2, .negSucc 2147483647, .ofNat 2147483647), (3, .ofNat 3, .ofNat 4), (4, .negSucc 2147483647, .ofNat 2147483647), (5, .negSucc 2147483647, .ofNat 2147483647), (6, .negSucc 2147483647, .ofNat 2147483647), (7, .negSucc 2147483647, .ofNat 2147483647), (8, .negSucc 2147483647, .ofNat 2147483647)] : sIv), ∃ x, ([s0, s1, s2, s3, s4, s5, s6, s7, s8] : List Int)[q.1]? = some x ∧ q.2.1 ≤ x ∧ x ≤ q.2.2 := hN.2.1.2
  have b3 : (3 : Int) ≤ s3 ∧ s3 ≤ (4 : Int) := ivX (q := (3, .ofNat 3, .ofNat 4)) (y := s3) (hIv _ (.tail _ (.tail _ (.tail _ (.head _))))) rfl
  have hFc : ∀ q ∈ ([(250, [(.ofNat 0, [(.ofNat 1, 0)]), (.ofNat 0, [(.ofNat 1, 1)]), (.ofNat 0, [(.ofNat 1, 2)]), (.ofNat 0, [(.ofNat 1, 3)]), (.ofNat 0, [(.ofNat 1, 4)]), (.ofNat 0, [(.ofNat 1, 5)]), (.ofNat 0, [(.ofNat 1, 6)])]), (254, [(.ofNat 0, [(.ofNat 1, 0)]), (.ofNat 0, [(.ofNat 1, 7)]), (.ofNat 0, [(.ofNat 1, 8)])])] : List sFc), fcOk fFS [s0, s1, s2, s3, s4, s5, s6, s7, s8] hp q := hH.2
  have f0 : roH (MT hp) (nmM hp) (hI hp 275 0) (hI hp 275 1) s0 s1 s2 s3 s4 s5 s6 := fcX (ys := [s0, s1, s2, s3, s4, s5, s6]) (hFc _ (.head _)) ⟨sE_V rfl, sE_V rfl, sE_V rfl, sE_V rfl, sE_V rfl, sE_V rfl, sE_V rfl, trivial⟩
  have f1 : roB (MT hp) (nmM hp) (hI hp 275 0) (hI hp 275 1) s0 s7 s8 := fcX (ys := [s0, s7, s8]) (hFc _ (.tail _ (.head _))) ⟨sE_V rfl, sE_V rfl, sE_V rfl, trivial⟩
  exact poX (.head _) rfl hR (all_nil) (all_nil) (all_cons ⟨[1, s4], ⟨sE_k _ _, sE_V rfl, trivial⟩, (show roS (MT hp) (nmM hp) (hI hp 275 0) (hI hp 275 1) (1 : Int) s4 from ron_f1 (MT_ok hO) f0 f1 (by omega))⟩ (all_nil))
theorem rl642 : ruOk fFS gR642 := by
  intro r hp hO hN hH
  obtain ⟨s0, s1, s2, s3, s4, s5, s6, s7, s8, s9, s10, s11, s12, s13, s14, rfl⟩ := len15 (show r.length = 15 from hN.1)
  have hR := hN.2.1.1
  have hIv : ∀ q ∈ ([(0, .negSucc 2147483647, .ofNat 2147483647), (1, .negSucc 2147483647, .ofNat 2147483647), (2, .negSucc 2147483647, .ofNat 2147483647), (3, .negSucc 2147483647, .ofNat 2147483647), (4, .negSucc 2147483647, .ofNat 2147483647), (5, .negSucc 2147483647, .ofNat 2147483647), (6, .negSucc 2147483647, .ofNat 2147483647), (7, .negSucc 2147483647, .ofNat 2147483647), (8, .negSucc 2147483647, .ofNat 2147483647), (9, .ofNat 2, .ofNat 2), (10, .negSucc 2147483647, .ofNat 2147483647), (11, .negSucc 2147483647, .ofNat 2147483647), (12, .negSucc 2147483647, .ofNat 2147483647), (13, .negSucc 2147483647, .ofNat 2147483647), (14, .negSucc 2147483647, .ofNat 2147483647)] : sIv), ∃ x, ([s0, s1, s2, s3, s4, s5, s6, s7, s8, s9, s10, s11, s12, s13, s14] : List Int)[q.1]? = some x ∧ q.2.1 ≤ x ∧ x ≤ q.2.2 := hN.2.1.2
  have b9 : (2 : Int) ≤ s9 ∧ s9 ≤ (2 : Int) := ivX (q := (9, .ofNat 2, .ofNat 2)) (y := s9) (hIv _ (.tail _ (.tail _ (.tail _ (.tail _ (.tail _ (.tail _ (.tail _ (.tail _ (.tail _ (.head _))))))))))) rfl
  have hCs : ∀ c ∈ ([(.ofNat 1, [(.ofNat 1, 12), (.negSucc 0, 13)])] : List sLn), ∃ x, sE [s0, s1, s2, s3, s4, s5, s6, s7, s8, s9, s10, s11, s12, s13, s14] c = some x ∧ x ≤ 0 := hN.2.2.1
  have c0 : ((1 : Int) + ((1 : Int) * s12 + ((-1 : Int) * s13 + 0))) ≤ 0 := csX (hCs _ (.head _)) rfl
  have hFc : ∀ q ∈ ([(119, [(.ofNat 0, [(.ofNat 1, 0)]), (.ofNat 0, [(.ofNat 1, 1)]), (.ofNat 0, [(.ofNat 1, 2)]), (.ofNat 0, [(.ofNat 1, 3)]), (.ofNat 0, [(.ofNat 1, 4)]), (.ofNat 0, [(.ofNat 1, 5)]), (.ofNat 0, [(.ofNat 1, 6)]), (.ofNat 0, [(.ofNat 1, 7)]), (.ofNat 0, [(.ofNat 1, 8)]), (.ofNat 0, [(.ofNat 1, 9)]), (.ofNat 0, [(.ofNat 1, 10)]), (.ofNat 0, [(.ofNat 1, 11)]), (.ofNat 0, [(.ofNat 1, 12)])]), (121, [(.ofNat 0, [(.ofNat 1, 0)]), (.ofNat 0, [(.ofNat 1, 13)]), (.ofNat 0, [(.ofNat 1, 14)])])] : List sFc), fcOk fFS [s0, s1, s2, s3, s4, s5, s6, s7, s8, s9, s10, s11, s12, s13, s14] hp q := hH.2
  have f0 : Hq (MT hp) s0 s1 s2 s3 s4 s5 s6 s7 s8 s9 s10 s11 s12 := fcX (ys := [s0, s1, s2, s3, s4, s5, s6, s7, s8, s9, s10, s11, s12]) (hFc _ (.head _)) ⟨sE_V rfl, sE_V rfl, sE_V rfl, sE_V rfl, sE_V rfl, sE_V rfl, sE_V rfl, sE_V rfl, sE_V rfl, sE_V rfl, sE_V rfl, sE_V rfl, sE_V rfl, trivial⟩
  have f1 : EN (MT hp) s0 s13 s14 := fcX (ys := [s0, s13, s14]) (hFc _ (.tail _ (.head _))) ⟨sE_V rfl, sE_V rfl, sE_V rfl, trivial⟩
  exact poX (.head _) rfl hR (all_nil) (all_nil) (all_cons ⟨[2, s10], ⟨sE_k _ _, sE_V rfl, trivial⟩, (show RS (MT hp) (2 : Int) s10 from en_f2 (MT_ok hO) f0 f1 (by omega) (by omega))⟩ (all_nil))
theorem rl643 : ruOk fFS gR643 := by
  intro r hp hO hN hH
  obtain ⟨s0, s1, s2, s3, s4, s5, s6, s7, s8, rfl⟩ := len9 (show r.length = 9 from hN.1)
  have hR := hN.2.1.1
  have hIv : ∀ q ∈ ([(0, .negSucc 2147483647, .ofNat 2147483647), (1, .negSucc 2147483647, .ofNat 2147483647), (2, .negSucc 2147483647, .ofNat 2147483647), (3, .ofNat 2, .ofNat 2), (4, .negSucc 2147483647, .ofNat 2147483647), (5, .negSucc 2147483647, .ofNat 2147483647), (6, .negSucc 2147483647, .ofNat 2147483647), (7, .negSucc 2147483647, .ofNat 2147483647), (8, .negSucc 2147483647, .ofNat 2147483647)] : sIv), ∃ x, ([s0, s1, s2, s3, s4, s5, s6, s7, s8] : List Int)[q.1]? = some x ∧ q.2.1 ≤ x ∧ x ≤ q.2.2 := hN.2.1.2
  have b3 : (2 : Int) ≤ s3 ∧ s3 ≤ (2 : Int) := ivX (q := (3, .ofNat 2, .ofNat 2)) (y := s3) (hIv _ (.tail _ (.tail _ (.tail _ (.head _))))) rfl
  have hCs : ∀ c ∈ ([(.ofNat 1, [(.ofNat 1, 6), (.negSucc 0, 7)])] : List sLn), ∃ x, sE [s0, s1, s2, s3, s4, s5, s6, s7, s8] c = some x ∧ x ≤ 0 := hN.2.2.1
  have c0 : ((1 : Int) + ((1 : Int) * s6 + ((-1 : Int) * s7 + 0))) ≤ 0 := csX (hCs _ (.head _)) rfl
  have hFc : ∀ q ∈ ([(250, [(.ofNat 0, [(.ofNat 1, 0)]), (.ofNat 0, [(.ofNat 1, 1)]), (.ofNat 0, [(.ofNat 1, 2)]), (.ofNat 0, [(.ofNat 1, 3)]), (.ofNat 0, [(.ofNat 1, 4)]), (.ofNat 0, [(.ofNat 1, 5)]), (.ofNat 0, [(.ofNat 1, 6)])]), (254, [(.ofNat 0, [(.ofNat 1, 0)]), (.ofNat 0, [(.ofNat 1, 7)]), (.ofNat 0, [(.ofNat 1, 8)])])] : List sFc), fcOk fFS [s0, s1, s2, s3, s4, s5, s6, s7, s8] hp q := hH.2
  have f0 : roH (MT hp) (nmM hp) (hI hp 275 0) (hI hp 275 1) s0 s1 s2 s3 s4 s5 s6 := fcX (ys := [s0, s1, s2, s3, s4, s5, s6]) (hFc _ (.head _)) ⟨sE_V rfl, sE_V rfl, sE_V rfl, sE_V rfl, sE_V rfl, sE_V rfl, sE_V rfl, trivial⟩
  have f1 : roB (MT hp) (nmM hp) (hI hp 275 0) (hI hp 275 1) s0 s7 s8 := fcX (ys := [s0, s7, s8]) (hFc _ (.tail _ (.head _))) ⟨sE_V rfl, sE_V rfl, sE_V rfl, trivial⟩
  exact poX (.head _) rfl hR (all_nil) (all_nil) (all_cons ⟨[2, s4], ⟨sE_k _ _, sE_V rfl, trivial⟩, (show roS (MT hp) (nmM hp) (hI hp 275 0) (hI hp 275 1) (2 : Int) s4 from ron_f2 (MT_ok hO) f0 f1 (by omega) (by omega))⟩ (all_nil))
theorem rl644 : ruOk fFS gR644 := by
  intro r hp hO hN hH
  obtain ⟨s0, s1, s2, s3, s4, s5, s6, s7, s8, rfl⟩ := len9 (show r.length = 9 from hN.1)
  have hR := hN.2.1.1
  have hIv : ∀ q ∈ ([(0, .negSucc 2147483647, .ofNat 2147483647), (1, .negSucc 2147483647, .ofNat 2147483647), (2, .negSucc 2147483647, .ofNat 2147483647), (3, .ofNat 2, .ofNat 2), (4, .negSucc 2147483647, .ofNat 2147483647), (5, .negSucc 2147483647, .ofNat 2147483647), (6, .negSucc 2147483647, .ofNat 2147483647), (7, .negSucc 2147483647, .ofNat 2147483647), (8, .negSucc 2147483647, .ofNat 2147483647)] : sIv), ∃ x, ([s0, s1, s2, s3, s4, s5, s6, s7, s8] : List Int)[q.1]? = some x ∧ q.2.1 ≤ x ∧ x ≤ q.2.2 := hN.2.1.2
  have b3 : (2 : Int) ≤ s3 ∧ s3 ≤ (2 : Int) := ivX (q := (3, .ofNat 2, .ofNat 2)) (y := s3) (hIv _ (.tail _ (.tail _ (.tail _ (.head _))))) rfl
  have hCs : ∀ c ∈ ([(.ofNat 1, [(.negSucc 0, 6), (.ofNat 1, 8)])] : List sLn), ∃ x, sE [s0, s1, s2, s3, s4, s5, s6, s7, s8] c = some x ∧ x ≤ 0 := hN.2.2.1
  have c0 : ((1 : Int) + ((-1 : Int) * s6 + ((1 : Int) * s8 + 0))) ≤ 0 := csX (hCs _ (.head _)) rfl
  have hFc : ∀ q ∈ ([(250, [(.ofNat 0, [(.ofNat 1, 0)]), (.ofNat 0, [(.ofNat 1, 1)]), (.ofNat 0, [(.ofNat 1, 2)]), (.ofNat 0, [(.ofNat 1, 3)]), (.ofNat 0, [(.ofNat 1, 4)]), (.ofNat 0, [(.ofNat 1, 5)]), (.ofNat 0, [(.ofNat 1, 6)])]), (254, [(.ofNat 0, [(.ofNat 1, 0)]), (.ofNat 0, [(.ofNat 1, 7)]), (.ofNat 0, [(.ofNat 1, 8)])])] : List sFc), fcOk fFS [s0, s1, s2, s3, s4, s5, s6, s7, s8] hp q := hH.2
  have f0 : roH (MT hp) (nmM hp) (hI hp 275 0) (hI hp 275 1) s0 s1 s2 s3 s4 s5 s6 := fcX (ys := [s0, s1, s2, s3, s4, s5, s6]) (hFc _ (.head _)) ⟨sE_V rfl, sE_V rfl, sE_V rfl, sE_V rfl, sE_V rfl, sE_V rfl, sE_V rfl, trivial⟩
  have f1 : roB (MT hp) (nmM hp) (hI hp 275 0) (hI hp 275 1) s0 s7 s8 := fcX (ys := [s0, s7, s8]) (hFc _ (.tail _ (.head _))) ⟨sE_V rfl, sE_V rfl, sE_V rfl, trivial⟩
  exact poX (.head _) rfl hR (all_nil) (all_nil) (all_cons ⟨[2, s4], ⟨sE_k _ _, sE_V rfl, trivial⟩, (show roS (MT hp) (nmM hp) (hI hp 275 0) (hI hp 275 1) (2 : Int) s4 from ron_f2 (MT_ok hO) f0 f1 (by omega) (by omega))⟩ (all_nil))
theorem rl645 : ruOk fFS gR645 := by
  intro r hp hO hN hH
  obtain ⟨s0, s1, s2, s3, s4, s5, s6, s7, s8, s9, s10, s11, s12, s13, s14, rfl⟩ := len15 (show r.length = 15 from hN.1)
  have hR := hN.2.1.1
  have hIv : ∀ q ∈ ([(0, .negSucc 2147483647, .ofNat 2147483647), (1, .negSucc 2147483647, .ofNat 2147483647), (2, .negSucc 2147483647, .ofNat 2147483647), (3, .negSucc 2147483647, .ofNat 2147483647), (4, .negSucc 2147483647, .ofNat 2147483647), (5, .negSucc 2147483647, .ofNat 2147483647), (6, .negSucc 2147483647, .ofNat 2147483647), (7, .negSucc 2147483647, .ofNat 2147483647), (8, .negSucc 2147483647, .ofNat 2147483647), (9, .ofNat 2, .ofNat 2), (10, .negSucc 2147483647, .ofNat 2147483647), (11, .negSucc 2147483647, .ofNat 2147483647), (12, .negSucc 2147483647, .ofNat 2147483647), (13, .negSucc 2147483647, .ofNat 2147483647), (14, .negSucc 2147483647, .ofNat 2147483647)] : sIv), ∃ x, ([s0, s1, s2, s3, s4, s5, s6, s7, s8, s9, s10, s11, s12, s13, s14] : List Int)[q.1]? = some x ∧ q.2.1 ≤ x ∧ x ≤ q.2.2 := hN.2.1.2
  have b9 : (2 : Int) ≤ s9 ∧ s9 ≤ (2 : Int) := ivX (q := (9, .ofNat 2, .ofNat 2)) (y := s9) (hIv _ (.tail _ (.tail _ (.tail _ (.tail _ (.tail _ (.tail _ (.tail _ (.tail _ (.tail _ (.head _))))))))))) rfl
  have hCs : ∀ c ∈ ([(.ofNat 1, [(.negSucc 0, 12), (.ofNat 1, 14)])] : List sLn), ∃ x, sE [s0, s1, s2, s3, s4, s5, s6, s7, s8, s9, s10, s11, s12, s13, s14] c = some x ∧ x ≤ 0 := hN.2.2.1
  have c0 : ((1 : Int) + ((-1 : Int) * s12 + ((1 : Int) * s14 + 0))) ≤ 0 := csX (hCs _ (.head _)) rfl
  have hFc : ∀ q ∈ ([(119, [(.ofNat 0, [(.ofNat 1, 0)]), (.ofNat 0, [(.ofNat 1, 1)]), (.ofNat 0, [(.ofNat 1, 2)]), (.ofNat 0, [(.ofNat 1, 3)]), (.ofNat 0, [(.ofNat 1, 4)]), (.ofNat 0, [(.ofNat 1, 5)]), (.ofNat 0, [(.ofNat 1, 6)]), (.ofNat 0, [(.ofNat 1, 7)]), (.ofNat 0, [(.ofNat 1, 8)]), (.ofNat 0, [(.ofNat 1, 9)]), (.ofNat 0, [(.ofNat 1, 10)]), (.ofNat 0, [(.ofNat 1, 11)]), (.ofNat 0, [(.ofNat 1, 12)])]), (121, [(.ofNat 0, [(.ofNat 1, 0)]), (.ofNat 0, [(.ofNat 1, 13)]), (.ofNat 0, [(.ofNat 1, 14)])])] : List sFc), fcOk fFS [s0, s1, s2, s3, s4, s5, s6, s7, s8, s9, s10, s11, s12, s13, s14] hp q := hH.2
  have f0 : Hq (MT hp) s0 s1 s2 s3 s4 s5 s6 s7 s8 s9 s10 s11 s12 := fcX (ys := [s0, s1, s2, s3, s4, s5, s6, s7, s8, s9, s10, s11, s12]) (hFc _ (.head _)) ⟨sE_V rfl, sE_V rfl, sE_V rfl, sE_V rfl, sE_V rfl, sE_V rfl, sE_V rfl, sE_V rfl, sE_V rfl, sE_V rfl, sE_V rfl, sE_V rfl, sE_V rfl, trivial⟩
  have f1 : EN (MT hp) s0 s13 s14 := fcX (ys := [s0, s13, s14]) (hFc _ (.tail _ (.head _))) ⟨sE_V rfl, sE_V rfl, sE_V rfl, trivial⟩
  exact poX (.head _) rfl hR (all_nil) (all_nil) (all_cons ⟨[2, s10], ⟨sE_k _ _, sE_V rfl, trivial⟩, (show RS (MT hp) (2 : Int) s10 from en_f2 (MT_ok hO) f0 f1 (by omega) (by omega))⟩ (all_nil))
theorem rl646 : ruOk fFS gR646 := by
  intro r hp hO hN hH
  obtain ⟨s0, s1, s2, s3, s4, s5, s6, s7, s8, s9, s10, s11, s12, s13, s14, rfl⟩ := len15 (show r.length = 15 from hN.1)
  have hR := hN.2.1.1
  have hIv : ∀ q ∈ ([(0, .negSucc 2147483647, .ofNat 2147483647), (1, .negSucc 2147483647, .ofNat 2147483647), (2, .negSucc 2147483647, .ofNat 2147483647), (3, .negSucc 2147483647, .ofNat 2147483647), (4, .negSucc 2147483647, .ofNat 2147483647), (5, .negSucc 2147483647, .ofNat 2147483647), (6, .negSucc 2147483647, .ofNat 2147483647), (7, .negSucc 2147483647, .ofNat 2147483647), (8, .negSucc 2147483647, .ofNat 2147483647), (9, .ofNat 2, .ofNat 2), (10, .negSucc 2147483647, .ofNat 2147483647), (11, .negSucc 2147483647, .ofNat 2147483647), (12, .negSucc 2147483647, .ofNat 2147483647), (13, .negSucc 2147483647, .ofNat 2147483647), (14, .negSucc 2147483647, .ofNat 2147483647)] : sIv), ∃ x, ([s0, s1, s2, s3, s4, s5, s6, s7, s8, s9, s10, s11, s12, s13, s14] : List Int)[q.1]? = some x ∧ q.2.1 ≤ x ∧ x ≤ q.2.2 := hN.2.1.2
  have b9 : (2 : Int) ≤ s9 ∧ s9 ≤ (2 : Int) := ivX (q := (9, .ofNat 2, .ofNat 2)) (y := s9) (hIv _ (.tail _ (.tail _ (.tail _ (.tail _ (.tail _ (.tail _ (.tail _ (.tail _ (.tail _ (.head _))))))))))) rfl
  have hCs : ∀ c ∈ ([(.ofNat 0, [(.negSucc 0, 12), (.ofNat 1, 13)]), (.ofNat 0, [(.ofNat 1, 12), (.negSucc 0, 14)])] : List sLn), ∃ x, sE [s0, s1, s2, s3, s4, s5, s6, s7, s8, s9, s10, s11, s12, s13, s14] c = some x ∧ x ≤ 0 := hN.2.2.1
  have c0 : ((0 : Int) + ((-1 : Int) * s12 + ((1 : Int) * s13 + 0))) ≤ 0 := csX (hCs _ (.head _)) rfl
  have c1 : ((0 : Int) + ((1 : Int) * s12 + ((-1 : Int) * s14 + 0))) ≤ 0 := csX (hCs _ (.tail _ (.head _))) rfl
  have hFc : ∀ q ∈ ([(119, [(.ofNat 0, [(.ofNat 1, 0)]), (.ofNat 0, [(.ofNat 1, 1)]), (.ofNat 0, [(.ofNat 1, 2)]), (.ofNat 0, [(.ofNat 1, 3)]), (.ofNat 0, [(.ofNat 1, 4)]), (.ofNat 0, [(.ofNat 1, 5)]), (.ofNat 0, [(.ofNat 1, 6)]), (.ofNat 0, [(.ofNat 1, 7)]), (.ofNat 0, [(.ofNat 1, 8)]), (.ofNat 0, [(.ofNat 1, 9)]), (.ofNat 0, [(.ofNat 1, 10)]), (.ofNat 0, [(.ofNat 1, 11)]), (.ofNat 0, [(.ofNat 1, 12)])]), (121, [(.ofNat 0, [(.ofNat 1, 0)]), (.ofNat 0, [(.ofNat 1, 13)]), (.ofNat 0, [(.ofNat 1, 14)])])] : List sFc), fcOk fFS [s0, s1, s2, s3, s4, s5, s6, s7, s8, s9, s10, s11, s12, s13, s14] hp q := hH.2
  have f0 : Hq (MT hp) s0 s1 s2 s3 s4 s5 s6 s7 s8 s9 s10 s11 s12 := fcX (ys := [s0, s1, s2, s3, s4, s5, s6, s7, s8, s9, s10, s11, s12]) (hFc _ (.head _)) ⟨sE_V rfl, sE_V rfl, sE_V rfl, sE_V rfl, sE_V rfl, sE_V rfl, sE_V rfl, sE_V rfl, sE_V rfl, sE_V rfl, sE_V rfl, sE_V rfl, sE_V rfl, trivial⟩
  have f1 : EN (MT hp) s0 s13 s14 := fcX (ys := [s0, s13, s14]) (hFc _ (.tail _ (.head _))) ⟨sE_V rfl, sE_V rfl, sE_V rfl, trivial⟩
  exact poX (.head _) rfl hR (all_nil) (all_nil) (all_cons ⟨[s0], ⟨sE_V rfl, trivial⟩, (show NO (MT hp) s0 from en_no f0 f1 (by omega) (by omega) (by omega))⟩ (all_nil))
theorem rl647 : ruOk fFS gR647 := by
  intro r hp hO hN hH
  obtain ⟨s0, s1, s2, s3, rfl⟩ := len4 (show r.length = 4 from hN.1)
  have hR := hN.2.1.1
  have hIv : ∀ q ∈ ([(0, .negSucc 2147483647, .ofNat 2147483647), (1, .negSucc 2147483647, .ofNat 2147483647), (2, .negSucc 2147483647, .ofNat 2147483647), (3, .negSucc 2147483647, .ofNat 2147483647)] : sIv), ∃ x, ([s0, s1, s2, s3] : List Int)[q.1]? = some x ∧ q.2.1 ≤ x ∧ x ≤ q.2.2 := hN.2.1.2
  have hRf : ∀ q ∈ ([((78, .ofNat 273, []), (.ofNat 21, []), 1, .ofNat 0, [(.ofNat 1, 0)]), ((78, .ofNat 273, []), (.ofNat 18, []), 1, .ofNat 0, [(.ofNat 1, 1)])] : List sRf), rfOk [s0, s1, s2, s3] hp q := hH.1
  have h0 : hI hp 273 21 = s0 := rfI0 (hRf _ (.head _)) (sE_k _ _) (sE_k _ _) (sE_V rfl)
  have y0 : (-1 : Int) ≤ s0 ∧ s0 ≤ (4 : Int) := by rw [← h0]; exact hI_ty hO (by decide) rfl
  have h1 : hI hp 273 18 = s1 := rfI0 (hRf _ (.tail _ (.head _))) (sE_k _ _) (sE_k _ _) (sE_V rfl)
  have hFc : ∀ q ∈ ([(166, [(.ofNat 0, [(.ofNat 1, 2)]), (.ofNat 0, [(.ofNat 1, 3)])])] : List sFc), fcOk fFS [s0, s1, s2, s3] hp q := hH.2
  have f0 : dF (MT hp) s3 (fun D => s2 = (dWi D).length ∧ ∀ i : Nat, i < 8 → (i : Int) < s2 → (dWi D)[i]? = some (hI hp 276 (234 + i), hI hp 276 (242 + i))) := fcX (ys := [s2, s3]) (hFc _ (.head _)) ⟨sE_V rfl, sE_V rfl, trivial⟩
  exact poX (.head _) rfl hR (all_nil) (all_nil) (all_cons ⟨[0, s3, s0, s1], ⟨sE_k _ _, sE_V rfl, sE_V rfl, sE_V rfl, trivial⟩, (show ∀ i : Nat, i < 8 → (i : Int) < (0 : Int) → ¬ (hI hp 276 (234 + i) = s0 ∧ hI hp 276 (242 + i) = s1) from fun i _ w => absurd w (by omega))⟩ (all_nil))
theorem rl648 : ruOk fFS gR648 := by
  intro r hp hO hN hH
  obtain ⟨s0, s1, s2, rfl⟩ := len3 (show r.length = 3 from hN.1)
  have hR := hN.2.1.1
  have hIv : ∀ q ∈ ([(0, .ofNat 0, .ofNat 7), (1, .negSucc 2147483647, .ofNat 2147483647), (2, .negSucc 2147483647, .ofNat 2147483647)] : sIv), ∃ x, ([s0, s1, s2] : List Int)[q.1]? = some x ∧ q.2.1 ≤ x ∧ x ≤ q.2.2 := hN.2.1.2
  have b0 : (0 : Int) ≤ s0 ∧ s0 ≤ (7 : Int) := ivX (q := (0, .ofNat 0, .ofNat 7)) (y := s0) (hIv _ (.head _)) rfl
  have hRf : ∀ q ∈ ([((78, .ofNat 273, []), (.ofNat 21, []), 1, .ofNat 0, [(.ofNat 1, 1)]), ((81, .ofNat 276, []), (.ofNat 234, [(.ofNat 1, 0)]), 1, .ofNat 0, [(.ofNat 1, 2)])] : List sRf), rfOk [s0, s1, s2] hp q := hH.1
  have h0 : hI hp 273 21 = s1 := rfI0 (hRf _ (.head _)) (sE_k _ _) (sE_k _ _) (sE_V rfl)
  have y0 : (-1 : Int) ≤ s1 ∧ s1 ≤ (4 : Int) := by rw [← h0]; exact hI_ty hO (by decide) rfl
  obtain ⟨i1, e1, l1, h1⟩ := rfI (xv := s2) (iv := (s0 + 234)) (hRf _ (.tail _ (.head _))) (sE_k _ _) (sEv (y' := ((234 : Int) + ((1 : Int) * s0 + 0))) rfl (by omega)) (sE_V rfl)
  have l1 : i1 < 401 := l1
  have h1 : hI hp 276 i1 = s2 := h1
  have y : (((1 : Int) + ((-1 : Int) * s1 + ((1 : Int) * s2 + 0))) ≤ 0) ∨ (((0 : Int) + ((-1 : Int) * s1 + ((1 : Int) * s2 + 0))) ≤ 0 ∧ ((0 : Int) + ((1 : Int) * s1 + ((-1 : Int) * s2 + 0))) ≤ 0) ∨ (((1 : Int) + ((1 : Int) * s1 + ((-1 : Int) * s2 + 0))) ≤ 0) := by omega
  rcases y with y | y | y
  · exact poX (.head _) rfl hR (all_nil) (all_cons ⟨((1 : Int) + ((-1 : Int) * s1 + ((1 : Int) * s2 + 0))), rfl, (show ((1 : Int) + ((-1 : Int) * s1 + ((1 : Int) * s2 + 0))) ≤ 0 by omega)⟩ (all_nil)) (all_nil)
  · exact poX (.tail _ (.head _)) rfl hR (all_nil) (all_cons ⟨((0 : Int) + ((-1 : Int) * s1 + ((1 : Int) * s2 + 0))), rfl, (show ((0 : Int) + ((-1 : Int) * s1 + ((1 : Int) * s2 + 0))) ≤ 0 by omega)⟩ (all_cons ⟨((0 : Int) + ((1 : Int) * s1 + ((-1 : Int) * s2 + 0))), rfl, (show ((0 : Int) + ((1 : Int) * s1 + ((-1 : Int) * s2 + 0))) ≤ 0 by omega)⟩ (all_nil))) (all_nil)
  · exact poX (.tail _ (.tail _ (.head _))) rfl hR (all_nil) (all_cons ⟨((1 : Int) + ((1 : Int) * s1 + ((-1 : Int) * s2 + 0))), rfl, (show ((1 : Int) + ((1 : Int) * s1 + ((-1 : Int) * s2 + 0))) ≤ 0 by omega)⟩ (all_nil)) (all_nil)
theorem rl649 : ruOk fFS gR649 := by
  intro r hp hO hN hH
  obtain ⟨s0, s1, s2, rfl⟩ := len3 (show r.length = 3 from hN.1)
  have hR := hN.2.1.1
  have hIv : ∀ q ∈ ([(0, .ofNat 0, .ofNat 7), (1, .negSucc 2147483647, .ofNat 2147483647), (2, .negSucc 2147483647, .ofNat 2147483647)] : sIv), ∃ x, ([s0, s1, s2] : List Int)[q.1]? = some x ∧ q.2.1 ≤ x ∧ x ≤ q.2.2 := hN.2.1.2
  have b0 : (0 : Int) ≤ s0 ∧ s0 ≤ (7 : Int) := ivX (q := (0, .ofNat 0, .ofNat 7)) (y := s0) (hIv _ (.head _)) rfl
  have hRf : ∀ q ∈ ([((78, .ofNat 273, []), (.ofNat 18, []), 1, .ofNat 0, [(.ofNat 1, 1)]), ((81, .ofNat 276, []), (.ofNat 242, [(.ofNat 1, 0)]), 1, .ofNat 0, [(.ofNat 1, 2)])] : List sRf), rfOk [s0, s1, s2] hp q := hH.1
  have h0 : hI hp 273 18 = s1 := rfI0 (hRf _ (.head _)) (sE_k _ _) (sE_k _ _) (sE_V rfl)
  obtain ⟨i1, e1, l1, h1⟩ := rfI (xv := s2) (iv := (s0 + 242)) (hRf _ (.tail _ (.head _))) (sE_k _ _) (sEv (y' := ((242 : Int) + ((1 : Int) * s0 + 0))) rfl (by omega)) (sE_V rfl)
  have l1 : i1 < 401 := l1
  have h1 : hI hp 276 i1 = s2 := h1
  have y : (((1 : Int) + ((-1 : Int) * s1 + ((1 : Int) * s2 + 0))) ≤ 0) ∨ (((0 : Int) + ((-1 : Int) * s1 + ((1 : Int) * s2 + 0))) ≤ 0 ∧ ((0 : Int) + ((1 : Int) * s1 + ((-1 : Int) * s2 + 0))) ≤ 0) ∨ (((1 : Int) + ((1 : Int) * s1 + ((-1 : Int) * s2 + 0))) ≤ 0) := by omega
  rcases y with y | y | y
  · exact poX (.head _) rfl hR (all_nil) (all_cons ⟨((1 : Int) + ((-1 : Int) * s1 + ((1 : Int) * s2 + 0))), rfl, (show ((1 : Int) + ((-1 : Int) * s1 + ((1 : Int) * s2 + 0))) ≤ 0 by omega)⟩ (all_nil)) (all_nil)
  · exact poX (.tail _ (.head _)) rfl hR (all_nil) (all_cons ⟨((0 : Int) + ((-1 : Int) * s1 + ((1 : Int) * s2 + 0))), rfl, (show ((0 : Int) + ((-1 : Int) * s1 + ((1 : Int) * s2 + 0))) ≤ 0 by omega)⟩ (all_cons ⟨((0 : Int) + ((1 : Int) * s1 + ((-1 : Int) * s2 + 0))), rfl, (show ((0 : Int) + ((1 : Int) * s1 + ((-1 : Int) * s2 + 0))) ≤ 0 by omega)⟩ (all_nil))) (all_nil)
  · exact poX (.tail _ (.tail _ (.head _))) rfl hR (all_nil) (all_cons ⟨((1 : Int) + ((1 : Int) * s1 + ((-1 : Int) * s2 + 0))), rfl, (show ((1 : Int) + ((1 : Int) * s1 + ((-1 : Int) * s2 + 0))) ≤ 0 by omega)⟩ (all_nil)) (all_nil)
theorem rl650 : ruOk fFS gR650 := by
  intro r hp hO hN hH
  obtain ⟨s0, s1, s2, s3, s4, s5, s6, rfl⟩ := len7 (show r.length = 7 from hN.1)
  have hR := hN.2.1.1
  have hIv : ∀ q ∈ ([(0, .negSucc 2147483647, .ofNat 2147483647), (1, .ofNat 0, .ofNat 7), (2, .negSucc 2147483647, .ofNat 2147483647), (3, .negSucc 2147483647, .ofNat 2147483647), (4, .negSucc 2147483647, .ofNat 2147483647), (5, .negSucc 2147483647, .ofNat 2147483647), (6, .negSucc 2147483647, .ofNat 2147483647)] : sIv), ∃ x, ([s0, s1, s2, s3, s4, s5, s6] : List Int)[q.1]? = some x ∧ q.2.1 ≤ x ∧ x ≤ q.2.2 := hN.2.1.2
  have b1 : (0 : Int) ≤ s1 ∧ s1 ≤ (7 : Int) := ivX (q := (1, .ofNat 0, .ofNat 7)) (y := s1) (hIv _ (.tail _ (.head _))) rfl
  have hCs : ∀ c ∈ ([(.ofNat 1, [(.negSucc 0, 2), (.ofNat 1, 4)])] : List sLn), ∃ x, sE [s0, s1, s2, s3, s4, s5, s6] c = some x ∧ x ≤ 0 := hN.2.2.1
  have c0 : ((1 : Int) + ((-1 : Int) * s2 + ((1 : Int) * s4 + 0))) ≤ 0 := csX (hCs _ (.head _)) rfl
  have hRf : ∀ q ∈ ([((78, .ofNat 273, []), (.ofNat 21, []), 1, .ofNat 0, [(.ofNat 1, 2)]), ((78, .ofNat 273, []), (.ofNat 18, []), 1, .ofNat 0, [(.ofNat 1, 3)]), ((81, .ofNat 276, []), (.ofNat 234, [(.ofNat 1, 1)]), 1, .ofNat 0, [(.ofNat 1, 4)]), ((81, .ofNat 276, []), (.ofNat 242, [(.ofNat 1, 1)]), 1, .ofNat 0, [(.ofNat 1, 5)])] : List sRf), rfOk [s0, s1, s2, s3, s4, s5, s6] hp q := hH.1
  have h0 : hI hp 273 21 = s2 := rfI0 (hRf _ (.head _)) (sE_k _ _) (sE_k _ _) (sE_V rfl)
  have y0 : (-1 : Int) ≤ s2 ∧ s2 ≤ (4 : Int) := by rw [← h0]; exact hI_ty hO (by decide) rfl
  have h1 : hI hp 273 18 = s3 := rfI0 (hRf _ (.tail _ (.head _))) (sE_k _ _) (sE_k _ _) (sE_V rfl)
  obtain ⟨i2, e2, l2, h2⟩ := rfI (xv := s4) (iv := (s1 + 234)) (hRf _ (.tail _ (.tail _ (.head _)))) (sE_k _ _) (sEv (y' := ((234 : Int) + ((1 : Int) * s1 + 0))) rfl (by omega)) (sE_V rfl)
  have l2 : i2 < 401 := l2
  have h2 : hI hp 276 i2 = s4 := h2
  obtain ⟨i3, e3, l3, h3⟩ := rfI (xv := s5) (iv := (s1 + 242)) (hRf _ (.tail _ (.tail _ (.tail _ (.head _))))) (sE_k _ _) (sEv (y' := ((242 : Int) + ((1 : Int) * s1 + 0))) rfl (by omega)) (sE_V rfl)
  have l3 : i3 < 401 := l3
  have h3 : hI hp 276 i3 = s5 := h3
  have hFc : ∀ q ∈ ([(167, [(.ofNat 0, [(.ofNat 1, 1)]), (.ofNat 0, [(.ofNat 1, 6)]), (.ofNat 0, [(.ofNat 1, 2)]), (.ofNat 0, [(.ofNat 1, 3)])])] : List sFc), fcOk fFS [s0, s1, s2, s3, s4, s5, s6] hp q := hH.2
  have f0 : ∀ i : Nat, i < 8 → (i : Int) < s1 → ¬ (hI hp 276 (234 + i) = s2 ∧ hI hp 276 (242 + i) = s3) := fcX (ys := [s1, s6, s2, s3]) (hFc _ (.head _)) ⟨sE_V rfl, sE_V rfl, sE_V rfl, sE_V rfl, trivial⟩
  exact poX (.head _) rfl hR (all_nil) (all_nil) (all_cons ⟨[(s1 + 1), s6, s2, s3], ⟨sEv (y' := ((1 : Int) + ((1 : Int) * s1 + 0))) rfl (by omega), sE_V rfl, sE_V rfl, sE_V rfl, trivial⟩, (show ∀ i : Nat, i < 8 → (i : Int) < (s1 + 1) → ¬ (hI hp 276 (234 + i) = s2 ∧ hI hp 276 (242 + i) = s3) from nn_s (j0 := i2 - 234) (j1 := i3 - 242) (A := fun i => hI hp 276 (234 + i)) (B := fun i => hI hp 276 (242 + i)) f0 (by show hI hp 276 (234 + (i2 - 234)) = _; rw [show 234 + (i2 - 234) = i2 by omega, h2]) (by show hI hp 276 (242 + (i3 - 242)) = _; rw [show 242 + (i3 - 242) = i3 by omega, h3]) (by omega) (by omega) (by omega) (by omega))⟩ (all_nil))
theorem rl651 : ruOk fFS gR651 := by
  intro r hp hO hN hH
  obtain ⟨s0, s1, s2, s3, s4, s5, s6, rfl⟩ := len7 (show r.length = 7 from hN.1)
  have hR := hN.2.1.1
  have hIv : ∀ q ∈ ([(0, .negSucc 2147483647, .ofNat 2147483647), (1, .ofNat 0, .ofNat 7), (2, .negSucc 2147483647, .ofNat 2147483647), (3, .negSucc 2147483647, .ofNat 2147483647), (4, .negSucc 2147483647, .ofNat 2147483647), (5, .negSucc 2147483647, .ofNat 2147483647), (6, .negSucc 2147483647, .ofNat 2147483647)] : sIv), ∃ x, ([s0, s1, s2, s3, s4, s5, s6] : List Int)[q.1]? = some x ∧ q.2.1 ≤ x ∧ x ≤ q.2.2 := hN.2.1.2
  have b1 : (0 : Int) ≤ s1 ∧ s1 ≤ (7 : Int) := ivX (q := (1, .ofNat 0, .ofNat 7)) (y := s1) (hIv _ (.tail _ (.head _))) rfl
  have hCs : ∀ c ∈ ([(.ofNat 1, [(.ofNat 1, 2), (.negSucc 0, 4)])] : List sLn), ∃ x, sE [s0, s1, s2, s3, s4, s5, s6] c = some x ∧ x ≤ 0 := hN.2.2.1
  have c0 : ((1 : Int) + ((1 : Int) * s2 + ((-1 : Int) * s4 + 0))) ≤ 0 := csX (hCs _ (.head _)) rfl
  have hRf : ∀ q ∈ ([((78, .ofNat 273, []), (.ofNat 21, []), 1, .ofNat 0, [(.ofNat 1, 2)]), ((78, .ofNat 273, []), (.ofNat 18, []), 1, .ofNat 0, [(.ofNat 1, 3)]), ((81, .ofNat 276, []), (.ofNat 234, [(.ofNat 1, 1)]), 1, .ofNat 0, [(.ofNat 1, 4)]), ((81, .ofNat 276, []), (.ofNat 242, [(.ofNat 1, 1)]), 1, .ofNat 0, [(.ofNat 1, 5)])] : List sRf), rfOk [s0, s1, s2, s3, s4, s5, s6] hp q := hH.1
  have h0 : hI hp 273 21 = s2 := rfI0 (hRf _ (.head _)) (sE_k _ _) (sE_k _ _) (sE_V rfl)
  have y0 : (-1 : Int) ≤ s2 ∧ s2 ≤ (4 : Int) := by rw [← h0]; exact hI_ty hO (by decide) rfl
  have h1 : hI hp 273 18 = s3 := rfI0 (hRf _ (.tail _ (.head _))) (sE_k _ _) (sE_k _ _) (sE_V rfl)
  obtain ⟨i2, e2, l2, h2⟩ := rfI (xv := s4) (iv := (s1 + 234)) (hRf _ (.tail _ (.tail _ (.head _)))) (sE_k _ _) (sEv (y' := ((234 : Int) + ((1 : Int) * s1 + 0))) rfl (by omega)) (sE_V rfl)
  have l2 : i2 < 401 := l2
  have h2 : hI hp 276 i2 = s4 := h2
  obtain ⟨i3, e3, l3, h3⟩ := rfI (xv := s5) (iv := (s1 + 242)) (hRf _ (.tail _ (.tail _ (.tail _ (.head _))))) (sE_k _ _) (sEv (y' := ((242 : Int) + ((1 : Int) * s1 + 0))) rfl (by omega)) (sE_V rfl)
  have l3 : i3 < 401 := l3
  have h3 : hI hp 276 i3 = s5 := h3
  have hFc : ∀ q ∈ ([(167, [(.ofNat 0, [(.ofNat 1, 1)]), (.ofNat 0, [(.ofNat 1, 6)]), (.ofNat 0, [(.ofNat 1, 2)]), (.ofNat 0, [(.ofNat 1, 3)])])] : List sFc), fcOk fFS [s0, s1, s2, s3, s4, s5, s6] hp q := hH.2
  have f0 : ∀ i : Nat, i < 8 → (i : Int) < s1 → ¬ (hI hp 276 (234 + i) = s2 ∧ hI hp 276 (242 + i) = s3) := fcX (ys := [s1, s6, s2, s3]) (hFc _ (.head _)) ⟨sE_V rfl, sE_V rfl, sE_V rfl, sE_V rfl, trivial⟩
  exact poX (.head _) rfl hR (all_nil) (all_nil) (all_cons ⟨[(s1 + 1), s6, s2, s3], ⟨sEv (y' := ((1 : Int) + ((1 : Int) * s1 + 0))) rfl (by omega), sE_V rfl, sE_V rfl, sE_V rfl, trivial⟩, (show ∀ i : Nat, i < 8 → (i : Int) < (s1 + 1) → ¬ (hI hp 276 (234 + i) = s2 ∧ hI hp 276 (242 + i) = s3) from nn_s (j0 := i2 - 234) (j1 := i3 - 242) (A := fun i => hI hp 276 (234 + i)) (B := fun i => hI hp 276 (242 + i)) f0 (by show hI hp 276 (234 + (i2 - 234)) = _; rw [show 234 + (i2 - 234) = i2 by omega, h2]) (by show hI hp 276 (242 + (i3 - 242)) = _; rw [show 242 + (i3 - 242) = i3 by omega, h3]) (by omega) (by omega) (by omega) (by omega))⟩ (all_nil))
theorem rl652 : ruOk fFS gR652 := by
  intro r hp hO hN hH
  obtain ⟨s0, s1, s2, s3, s4, s5, s6, rfl⟩ := len7 (show r.length = 7 from hN.1)
  have hR := hN.2.1.1
  have hIv : ∀ q ∈ ([(0, .negSucc 2147483647, .ofNat 2147483647), (1, .ofNat 0, .ofNat 7), (2, .negSucc 2147483647, .ofNat 2147483647), (3, .negSucc 2147483647, .ofNat 2147483647), (4, .negSucc 2147483647, .ofNat 2147483647), (5, .negSucc 2147483647, .ofNat 2147483647), (6, .negSucc 2147483647, .ofNat 2147483647)] : sIv), ∃ x, ([s0, s1, s2, s3, s4, s5, s6] : List Int)[q.1]? = some x ∧ q.2.1 ≤ x ∧ x ≤ q.2.2 := hN.2.1.2
  have b1 : (0 : Int) ≤ s1 ∧ s1 ≤ (7 : Int) := ivX (q := (1, .ofNat 0, .ofNat 7)) (y := s1) (hIv _ (.tail _ (.head _))) rfl
  have hCs : ∀ c ∈ ([(.ofNat 1, [(.negSucc 0, 3), (.ofNat 1, 5)])] : List sLn), ∃ x, sE [s0, s1, s2, s3, s4, s5, s6] c = some x ∧ x ≤ 0 := hN.2.2.1
  have c0 : ((1 : Int) + ((-1 : Int) * s3 + ((1 : Int) * s5 + 0))) ≤ 0 := csX (hCs _ (.head _)) rfl
  have hRf : ∀ q ∈ ([((78, .ofNat 273, []), (.ofNat 21, []), 1, .ofNat 0, [(.ofNat 1, 2)]), ((78, .ofNat 273, []), (.ofNat 18, []), 1, .ofNat 0, [(.ofNat 1, 3)]), ((81, .ofNat 276, []), (.ofNat 234, [(.ofNat 1, 1)]), 1, .ofNat 0, [(.ofNat 1, 4)]), ((81, .ofNat 276, []), (.ofNat 242, [(.ofNat 1, 1)]), 1, .ofNat 0, [(.ofNat 1, 5)])] : List sRf), rfOk [s0, s1, s2, s3, s4, s5, s6] hp q := hH.1
  have h0 : hI hp 273 21 = s2 := rfI0 (hRf _ (.head _)) (sE_k _ _) (sE_k _ _) (sE_V rfl)
  have y0 : (-1 : Int) ≤ s2 ∧ s2 ≤ (4 : Int) := by rw [← h0]; exact hI_ty hO (by decide) rfl
  have h1 : hI hp 273 18 = s3 := rfI0 (hRf _ (.tail _ (.head _))) (sE_k _ _) (sE_k _ _) (sE_V rfl)
  obtain ⟨i2, e2, l2, h2⟩ := rfI (xv := s4) (iv := (s1 + 234)) (hRf _ (.tail _ (.tail _ (.head _)))) (sE_k _ _) (sEv (y' := ((234 : Int) + ((1 : Int) * s1 + 0))) rfl (by omega)) (sE_V rfl)
  have l2 : i2 < 401 := l2
  have h2 : hI hp 276 i2 = s4 := h2
  obtain ⟨i3, e3, l3, h3⟩ := rfI (xv := s5) (iv := (s1 + 242)) (hRf _ (.tail _ (.tail _ (.tail _ (.head _))))) (sE_k _ _) (sEv (y' := ((242 : Int) + ((1 : Int) * s1 + 0))) rfl (by omega)) (sE_V rfl)
  have l3 : i3 < 401 := l3
  have h3 : hI hp 276 i3 = s5 := h3
  have hFc : ∀ q ∈ ([(167, [(.ofNat 0, [(.ofNat 1, 1)]), (.ofNat 0, [(.ofNat 1, 6)]), (.ofNat 0, [(.ofNat 1, 2)]), (.ofNat 0, [(.ofNat 1, 3)])])] : List sFc), fcOk fFS [s0, s1, s2, s3, s4, s5, s6] hp q := hH.2
  have f0 : ∀ i : Nat, i < 8 → (i : Int) < s1 → ¬ (hI hp 276 (234 + i) = s2 ∧ hI hp 276 (242 + i) = s3) := fcX (ys := [s1, s6, s2, s3]) (hFc _ (.head _)) ⟨sE_V rfl, sE_V rfl, sE_V rfl, sE_V rfl, trivial⟩
  exact poX (.head _) rfl hR (all_nil) (all_nil) (all_cons ⟨[(s1 + 1), s6, s2, s3], ⟨sEv (y' := ((1 : Int) + ((1 : Int) * s1 + 0))) rfl (by omega), sE_V rfl, sE_V rfl, sE_V rfl, trivial⟩, (show ∀ i : Nat, i < 8 → (i : Int) < (s1 + 1) → ¬ (hI hp 276 (234 + i) = s2 ∧ hI hp 276 (242 + i) = s3) from nn_s (j0 := i2 - 234) (j1 := i3 - 242) (A := fun i => hI hp 276 (234 + i)) (B := fun i => hI hp 276 (242 + i)) f0 (by show hI hp 276 (234 + (i2 - 234)) = _; rw [show 234 + (i2 - 234) = i2 by omega, h2]) (by show hI hp 276 (242 + (i3 - 242)) = _; rw [show 242 + (i3 - 242) = i3 by omega, h3]) (by omega) (by omega) (by omega) (by omega))⟩ (all_nil))
theorem rl653 : ruOk fFS gR653 := by
  intro r hp hO hN hH
  obtain ⟨s0, s1, s2, s3, s4, s5, s6, rfl⟩ := len7 (show r.length = 7 from hN.1)
  have hR := hN.2.1.1
  have hIv : ∀ q ∈ ([(0, .negSucc 2147483647, .ofNat 2147483647), (1, .ofNat 0, .ofNat 7), (2, .negSucc 2147483647, .ofNat 2147483647), (3, .negSucc 2147483647, .ofNat 2147483647), (4, .negSucc 2147483647, .ofNat 2147483647), (5, .negSucc 2147483647, .ofNat 2147483647), (6, .negSucc 2147483647, .ofNat 2147483647)] : sIv), ∃ x, ([s0, s1, s2, s3, s4, s5, s6] : List Int)[q.1]? = some x ∧ q.2.1 ≤ x ∧ x ≤ q.2.2 := hN.2.1.2
  have b1 : (0 : Int) ≤ s1 ∧ s1 ≤ (7 : Int) := ivX (q := (1, .ofNat 0, .ofNat 7)) (y := s1) (hIv _ (.tail _ (.head _))) rfl
  have hCs : ∀ c ∈ ([(.ofNat 1, [(.ofNat 1, 3), (.negSucc 0, 5)])] : List sLn), ∃ x, sE [s0, s1, s2, s3, s4, s5, s6] c = some x ∧ x ≤ 0 := hN.2.2.1
  have c0 : ((1 : Int) + ((1 : Int) * s3 + ((-1 : Int) * s5 + 0))) ≤ 0 := csX (hCs _ (.head _)) rfl
  have hRf : ∀ q ∈ ([((78, .ofNat 273, []), (.ofNat 21, []), 1, .ofNat 0, [(.ofNat 1, 2)]), ((78, .ofNat 273, []), (.ofNat 18, []), 1, .ofNat 0, [(.ofNat 1, 3)]), ((81, .ofNat 276, []), (.ofNat 234, [(.ofNat 1, 1)]), 1, .ofNat 0, [(.ofNat 1, 4)]), ((81, .ofNat 276, []), (.ofNat 242, [(.ofNat 1, 1)]), 1, .ofNat 0, [(.ofNat 1, 5)])] : List sRf), rfOk [s0, s1, s2, s3, s4, s5, s6] hp q := hH.1
  have h0 : hI hp 273 21 = s2 := rfI0 (hRf _ (.head _)) (sE_k _ _) (sE_k _ _) (sE_V rfl)
  have y0 : (-1 : Int) ≤ s2 ∧ s2 ≤ (4 : Int) := by rw [← h0]; exact hI_ty hO (by decide) rfl
  have h1 : hI hp 273 18 = s3 := rfI0 (hRf _ (.tail _ (.head _))) (sE_k _ _) (sE_k _ _) (sE_V rfl)
  obtain ⟨i2, e2, l2, h2⟩ := rfI (xv := s4) (iv := (s1 + 234)) (hRf _ (.tail _ (.tail _ (.head _)))) (sE_k _ _) (sEv (y' := ((234 : Int) + ((1 : Int) * s1 + 0))) rfl (by omega)) (sE_V rfl)
  have l2 : i2 < 401 := l2
  have h2 : hI hp 276 i2 = s4 := h2
  obtain ⟨i3, e3, l3, h3⟩ := rfI (xv := s5) (iv := (s1 + 242)) (hRf _ (.tail _ (.tail _ (.tail _ (.head _))))) (sE_k _ _) (sEv (y' := ((242 : Int) + ((1 : Int) * s1 + 0))) rfl (by omega)) (sE_V rfl)
  have l3 : i3 < 401 := l3
  have h3 : hI hp 276 i3 = s5 := h3
  have hFc : ∀ q ∈ ([(167, [(.ofNat 0, [(.ofNat 1, 1)]), (.ofNat 0, [(.ofNat 1, 6)]), (.ofNat 0, [(.ofNat 1, 2)]), (.ofNat 0, [(.ofNat 1, 3)])])] : List sFc), fcOk fFS [s0, s1, s2, s3, s4, s5, s6] hp q := hH.2
  have f0 : ∀ i : Nat, i < 8 → (i : Int) < s1 → ¬ (hI hp 276 (234 + i) = s2 ∧ hI hp 276 (242 + i) = s3) := fcX (ys := [s1, s6, s2, s3]) (hFc _ (.head _)) ⟨sE_V rfl, sE_V rfl, sE_V rfl, sE_V rfl, trivial⟩
  exact poX (.head _) rfl hR (all_nil) (all_nil) (all_cons ⟨[(s1 + 1), s6, s2, s3], ⟨sEv (y' := ((1 : Int) + ((1 : Int) * s1 + 0))) rfl (by omega), sE_V rfl, sE_V rfl, sE_V rfl, trivial⟩, (show ∀ i : Nat, i < 8 → (i : Int) < (s1 + 1) → ¬ (hI hp 276 (234 + i) = s2 ∧ hI hp 276 (242 + i) = s3) from nn_s (j0 := i2 - 234) (j1 := i3 - 242) (A := fun i => hI hp 276 (234 + i)) (B := fun i => hI hp 276 (242 + i)) f0 (by show hI hp 276 (234 + (i2 - 234)) = _; rw [show 234 + (i2 - 234) = i2 by omega, h2]) (by show hI hp 276 (242 + (i3 - 242)) = _; rw [show 242 + (i3 - 242) = i3 by omega, h3]) (by omega) (by omega) (by omega) (by omega))⟩ (all_nil))
theorem rl654 : ruOk fFS gR654 := by
  intro r hp hO hN hH
  obtain ⟨s0, s1, s2, s3, s4, s5, s6, s7, s8, s9, s10, s11, s12, s13, s14, s15, s16, rfl⟩ := len17 (show r.length = 17 from hN.1)
  have hR := hN.2.1.1
  have hIv : ∀ q ∈ ([(0, .negSucc 2147483647, .ofNat 2147483647), (1, .ofNat 0, .ofNat 7), (2, .negSucc 2147483647, .ofNat 2147483647), (3, .negSucc 2147483647, .ofNat 2147483647), (4, .negSucc 2147483647, .ofNat 2147483647), (5, .negSucc 2147483647, .ofNat 2147483647), (6, .negSucc 2147483647, .ofNat 2147483647), (7, .negSucc 2147483647, .ofNat 2147483647), (8, .ofNat 24, .ofNat 24), (9, .negSucc 2147483647, .ofNat 2147483647), (10, .negSucc 2147483647, .ofNat 2147483647), (11, .negSucc 2147483647, .ofNat 2147483647), (12, .negSucc 2147483647, .ofNat 2147483647), (13, .negSucc 2147483647, .ofNat 2147483647), (14, .ofNat 2, .ofNat 2), (15, .negSucc 2147483647, .ofNat 2147483647), (16, .negSucc 2147483647, .ofNat 2147483647)] : sIv), ∃ x, ([s0, s1, s2, s3, s4, s5, s6, s7, s8, s9, s10, s11, s12, s13, s14, s15, s16] : List Int)[q.1]? = some x ∧ q.2.1 ≤ x ∧ x ≤ q.2.2 := hN.2.1.2
  have b1 : (0 : Int) ≤ s1 ∧ s1 ≤ (7 : Int) := ivX (q := (1, .ofNat 0, .ofNat 7)) (y := s1) (hIv _ (.tail _ (.head _))) rfl
  have b8 : (24 : Int) ≤ s8 ∧ s8 ≤ (24 : Int) := ivX (q := (8, .ofNat 24, .ofNat 24)) (y := s8) (hIv _ (.tail _ (.tail _ (.tail _ (.tail _ (.tail _ (.tail _ (.tail _ (.tail _ (.head _)))))))))) rfl
  have b14 : (2 : Int) ≤ s14 ∧ s14 ≤ (2 : Int) := ivX (q := (14, .ofNat 2, .ofNat 2)) (y := s14) (hIv _ (.tail _ (.tail _ (.tail _ (.tail _ (.tail _ (.tail _ (.tail _ (.tail _ (.tail _ (.tail _ (.tail _ (.tail _ (.tail _ (.tail _ (.head _)))))))))))))))) rfl
  have hCs : ∀ c ∈ ([(.ofNat 1, [(.negSucc 0, 0), (.ofNat 1, 1)]), (.ofNat 0, [(.negSucc 0, 2), (.ofNat 1, 4)]), (.ofNat 0, [(.ofNat 1, 2), (.negSucc 0, 4)]), (.ofNat 0, [(.negSucc 0, 3), (.ofNat 1, 5)]), (.ofNat 0, [(.ofNat 1, 3), (.negSucc 0, 5)])] : List sLn), ∃ x, sE [s0, s1, s2, s3, s4, s5, s6, s7, s8, s9, s10, s11, s12, s13, s14, s15, s16] c = some x ∧ x ≤ 0 := hN.2.2.1
  have c0 : ((1 : Int) + ((-1 : Int) * s0 + ((1 : Int) * s1 + 0))) ≤ 0 := csX (hCs _ (.head _)) rfl
  have c1 : ((0 : Int) + ((-1 : Int) * s2 + ((1 : Int) * s4 + 0))) ≤ 0 := csX (hCs _ (.tail _ (.head _))) rfl
  have c2 : ((0 : Int) + ((1 : Int) * s2 + ((-1 : Int) * s4 + 0))) ≤ 0 := csX (hCs _ (.tail _ (.tail _ (.head _)))) rfl
  have c3 : ((0 : Int) + ((-1 : Int) * s3 + ((1 : Int) * s5 + 0))) ≤ 0 := csX (hCs _ (.tail _ (.tail _ (.tail _ (.head _))))) rfl
  have c4 : ((0 : Int) + ((1 : Int) * s3 + ((-1 : Int) * s5 + 0))) ≤ 0 := csX (hCs _ (.tail _ (.tail _ (.tail _ (.tail _ (.head _)))))) rfl
  have hRf : ∀ q ∈ ([((78, .ofNat 273, []), (.ofNat 21, []), 1, .ofNat 0, [(.ofNat 1, 2)]), ((78, .ofNat 273, []), (.ofNat 18, []), 1, .ofNat 0, [(.ofNat 1, 3)]), ((81, .ofNat 276, []), (.ofNat 234, [(.ofNat 1, 1)]), 1, .ofNat 0, [(.ofNat 1, 4)]), ((81, .ofNat 276, []), (.ofNat 242, [(.ofNat 1, 1)]), 1, .ofNat 0, [(.ofNat 1, 5)])] : List sRf), rfOk [s0, s1, s2, s3, s4, s5, s6, s7, s8, s9, s10, s11, s12, s13, s14, s15, s16] hp q := hH.1
  have h0 : hI hp 273 21 = s2 := rfI0 (hRf _ (.head _)) (sE_k _ _) (sE_k _ _) (sE_V rfl)
  have y0 : (-1 : Int) ≤ s2 ∧ s2 ≤ (4 : Int) := by rw [← h0]; exact hI_ty hO (by decide) rfl
  have h1 : hI hp 273 18 = s3 := rfI0 (hRf _ (.tail _ (.head _))) (sE_k _ _) (sE_k _ _) (sE_V rfl)
  obtain ⟨i2, e2, l2, h2⟩ := rfI (xv := s4) (iv := (s1 + 234)) (hRf _ (.tail _ (.tail _ (.head _)))) (sE_k _ _) (sEv (y' := ((234 : Int) + ((1 : Int) * s1 + 0))) rfl (by omega)) (sE_V rfl)
  have l2 : i2 < 401 := l2
  have h2 : hI hp 276 i2 = s4 := h2
  obtain ⟨i3, e3, l3, h3⟩ := rfI (xv := s5) (iv := (s1 + 242)) (hRf _ (.tail _ (.tail _ (.tail _ (.head _))))) (sE_k _ _) (sEv (y' := ((242 : Int) + ((1 : Int) * s1 + 0))) rfl (by omega)) (sE_V rfl)
  have l3 : i3 < 401 := l3
  have h3 : hI hp 276 i3 = s5 := h3
  have hFc : ∀ q ∈ ([(166, [(.ofNat 0, [(.ofNat 1, 0)]), (.ofNat 0, [(.ofNat 1, 6)])]), (119, [(.ofNat 0, [(.ofNat 1, 7)]), (.ofNat 0, [(.ofNat 1, 8)]), (.ofNat 0, [(.ofNat 1, 6)]), (.ofNat 0, [(.ofNat 1, 2)]), (.ofNat 0, [(.ofNat 1, 9)]), (.ofNat 0, [(.ofNat 1, 10)]), (.ofNat 0, [(.ofNat 1, 11)]), (.ofNat 0, [(.ofNat 1, 12)]), (.ofNat 0, [(.ofNat 1, 13)]), (.ofNat 0, [(.ofNat 1, 14)]), (.ofNat 0, [(.ofNat 1, 15)]), (.ofNat 0, [(.ofNat 1, 16)]), (.ofNat 0, [(.ofNat 1, 3)])]), (150, [(.ofNat 0, [(.ofNat 1, 7)])])] : List sFc), fcOk fFS [s0, s1, s2, s3, s4, s5, s6, s7, s8, s9, s10, s11, s12, s13, s14, s15, s16] hp q := hH.2
  have f0 : dF (MT hp) s6 (fun D => s0 = (dWi D).length ∧ ∀ i : Nat, i < 8 → (i : Int) < s0 → (dWi D)[i]? = some (hI hp 276 (234 + i), hI hp 276 (242 + i))) := fcX (ys := [s0, s6]) (hFc _ (.head _)) ⟨sE_V rfl, sE_V rfl, trivial⟩
  have f1 : Hq (MT hp) s7 s8 s6 s2 s9 s10 s11 s12 s13 s14 s15 s16 s3 := fcX (ys := [s7, s8, s6, s2, s9, s10, s11, s12, s13, s14, s15, s16, s3]) (hFc _ (.tail _ (.head _))) ⟨sE_V rfl, sE_V rfl, sE_V rfl, sE_V rfl, sE_V rfl, sE_V rfl, sE_V rfl, sE_V rfl, sE_V rfl, sE_V rfl, sE_V rfl, sE_V rfl, sE_V rfl, trivial⟩
  have f2 : NO (MT hp) s7 := fcX (ys := [s7]) (hFc _ (.tail _ (.tail _ (.head _)))) ⟨sE_V rfl, trivial⟩
  exact poX (.head _) rfl hR (all_nil) (all_nil) (all_cons ⟨[3, s15], ⟨sE_k _ _, sE_V rfl, trivial⟩, (show RS (MT hp) (3 : Int) s15 from hN24x (MT_ok hO) f1 (by omega) (by omega) f2 (dF_mp f0 (fun D hD => lst_mem (i0 := i2 - 234) (i1 := i3 - 242) (A := fun i => hI hp 276 (234 + i)) (B := fun i => hI hp 276 (242 + i)) hD (by show hI hp 276 (234 + (i2 - 234)) = _; rw [show 234 + (i2 - 234) = i2 by omega, h2]; omega) (by show hI hp 276 (242 + (i3 - 242)) = _; rw [show 242 + (i3 - 242) = i3 by omega, h3]; omega) (by omega) (by omega) (by omega))))⟩ (all_nil))
theorem rl655 : ruOk fFS gR655 := by
  intro r hp hO hN hH
  obtain ⟨s0, s1, s2, s3, s4, rfl⟩ := len5 (show r.length = 5 from hN.1)
  have hR := hN.2.1.1
  have hIv : ∀ q ∈ ([(0, .negSucc 2147483647, .ofNat 2147483647), (1, .negSucc 2147483647, .ofNat 2147483647), (2, .negSucc 2147483647, .ofNat 2147483647), (3, .negSucc 2147483647, .ofNat 2147483647), (4, .negSucc 2147483647, .ofNat 2147483647)] : sIv), ∃ x, ([s0, s1, s2, s3, s4] : List Int)[q.1]? = some x ∧ q.2.1 ≤ x ∧ x ≤ q.2.2 := hN.2.1.2
  have hCs : ∀ c ∈ ([(.ofNat 0, [(.ofNat 1, 0), (.negSucc 0, 1)])] : List sLn), ∃ x, sE [s0, s1, s2, s3, s4] c = some x ∧ x ≤ 0 := hN.2.2.1
  have c0 : ((0 : Int) + ((1 : Int) * s0 + ((-1 : Int) * s1 + 0))) ≤ 0 := csX (hCs _ (.head _)) rfl
  have hRf : ∀ q ∈ ([((78, .ofNat 273, []), (.ofNat 21, []), 1, .ofNat 0, [(.ofNat 1, 2)]), ((78, .ofNat 273, []), (.ofNat 18, []), 1, .ofNat 0, [(.ofNat 1, 3)])] : List sRf), rfOk [s0, s1, s2, s3, s4] hp q := hH.1
  have h0 : hI hp 273 21 = s2 := rfI0 (hRf _ (.head _)) (sE_k _ _) (sE_k _ _) (sE_V rfl)
  have y0 : (-1 : Int) ≤ s2 ∧ s2 ≤ (4 : Int) := by rw [← h0]; exact hI_ty hO (by decide) rfl
  have h1 : hI hp 273 18 = s3 := rfI0 (hRf _ (.tail _ (.head _))) (sE_k _ _) (sE_k _ _) (sE_V rfl)
  have hFc : ∀ q ∈ ([(167, [(.ofNat 0, [(.ofNat 1, 1)]), (.ofNat 0, [(.ofNat 1, 4)]), (.ofNat 0, [(.ofNat 1, 2)]), (.ofNat 0, [(.ofNat 1, 3)])]), (166, [(.ofNat 0, [(.ofNat 1, 0)]), (.ofNat 0, [(.ofNat 1, 4)])])] : List sFc), fcOk fFS [s0, s1, s2, s3, s4] hp q := hH.2
  have f0 : ∀ i : Nat, i < 8 → (i : Int) < s1 → ¬ (hI hp 276 (234 + i) = s2 ∧ hI hp 276 (242 + i) = s3) := fcX (ys := [s1, s4, s2, s3]) (hFc _ (.head _)) ⟨sE_V rfl, sE_V rfl, sE_V rfl, sE_V rfl, trivial⟩
  have f1 : dF (MT hp) s4 (fun D => s0 = (dWi D).length ∧ ∀ i : Nat, i < 8 → (i : Int) < s0 → (dWi D)[i]? = some (hI hp 276 (234 + i), hI hp 276 (242 + i))) := fcX (ys := [s0, s4]) (hFc _ (.tail _ (.head _))) ⟨sE_V rfl, sE_V rfl, trivial⟩
  exact poX (.head _) rfl hR (all_nil) (all_nil) (all_cons ⟨[s4, s2, s3, 0], ⟨sE_V rfl, sE_V rfl, sE_V rfl, sE_k _ _, trivial⟩, (show dF (MT hp) s4 (fun D => bP (0 : Int) ((s2, s3) ∈ dWi D)) from dF_mp (dF_I (MT_ok hO) f1) (fun D h => bP_i0 (lst_no (A := fun i => hI hp 276 (234 + i)) (B := fun i => hI hp 276 (242 + i)) h.2 f0 (by omega) (by have h1 := h.1.1.2.2.2.2.2.2.2; have h2 := h.2.1; omega)) rfl))⟩ (all_nil))
theorem rl656 : ruOk fFS gR656 := by
  intro r hp hO hN hH
  obtain ⟨s0, s1, s2, s3, s4, rfl⟩ := len5 (show r.length = 5 from hN.1)
  have hR := hN.2.1.1
  have hIv : ∀ q ∈ ([(0, .ofNat 0, .ofNat 7), (1, .negSucc 2147483647, .ofNat 2147483647), (2, .negSucc 2147483647, .ofNat 2147483647), (3, .negSucc 2147483647, .ofNat 2147483647), (4, .negSucc 2147483647, .ofNat 2147483647)] : sIv), ∃ x, ([s0, s1, s2, s3, s4] : List Int)[q.1]? = some x ∧ q.2.1 ≤ x ∧ x ≤ q.2.2 := hN.2.1.2
  have b0 : (0 : Int) ≤ s0 ∧ s0 ≤ (7 : Int) := ivX (q := (0, .ofNat 0, .ofNat 7)) (y := s0) (hIv _ (.head _)) rfl
  have hCs : ∀ c ∈ ([(.ofNat 0, [(.negSucc 0, 1), (.ofNat 1, 3)]), (.ofNat 0, [(.ofNat 1, 1), (.negSucc 0, 3)]), (.ofNat 0, [(.negSucc 0, 2), (.ofNat 1, 4)]), (.ofNat 0, [(.ofNat 1, 2), (.negSucc 0, 4)])] : List sLn), ∃ x, sE [s0, s1, s2, s3, s4] c = some x ∧ x ≤ 0 := hN.2.2.1
  have c0 : ((0 : Int) + ((-1 : Int) * s1 + ((1 : Int) * s3 + 0))) ≤ 0 := csX (hCs _ (.head _)) rfl
  have c1 : ((0 : Int) + ((1 : Int) * s1 + ((-1 : Int) * s3 + 0))) ≤ 0 := csX (hCs _ (.tail _ (.head _))) rfl
  have c2 : ((0 : Int) + ((-1 : Int) * s2 + ((1 : Int) * s4 + 0))) ≤ 0 := csX (hCs _ (.tail _ (.tail _ (.head _)))) rfl
  have c3 : ((0 : Int) + ((1 : Int) * s2 + ((-1 : Int) * s4 + 0))) ≤ 0 := csX (hCs _ (.tail _ (.tail _ (.tail _ (.head _))))) rfl
  have hRf : ∀ q ∈ ([((78, .ofNat 273, []), (.ofNat 21, []), 1, .ofNat 0, [(.ofNat 1, 1)]), ((78, .ofNat 273, []), (.ofNat 18, []), 1, .ofNat 0, [(.ofNat 1, 2)]), ((81, .ofNat 276, []), (.ofNat 234, [(.ofNat 1, 0)]), 1, .ofNat 0, [(.ofNat 1, 3)]), ((81, .ofNat 276, []), (.ofNat 242, [(.ofNat 1, 0)]), 1, .ofNat 0, [(.ofNat 1, 4)])] : List sRf), rfOk [s0, s1, s2, s3, s4] hp q := hH.1
  have h0 : hI hp 273 21 = s1 := rfI0 (hRf _ (.head _)) (sE_k _ _) (sE_k _ _) (sE_V rfl)
  have y0 : (-1 : Int) ≤ s1 ∧ s1 ≤ (4 : Int) := by rw [← h0]; exact hI_ty hO (by decide) rfl
  have h1 : hI hp 273 18 = s2 := rfI0 (hRf _ (.tail _ (.head _))) (sE_k _ _) (sE_k _ _) (sE_V rfl)
  obtain ⟨i2, e2, l2, h2⟩ := rfI (xv := s3) (iv := (s0 + 234)) (hRf _ (.tail _ (.tail _ (.head _)))) (sE_k _ _) (sEv (y' := ((234 : Int) + ((1 : Int) * s0 + 0))) rfl (by omega)) (sE_V rfl)
  have l2 : i2 < 401 := l2
  have h2 : hI hp 276 i2 = s3 := h2
  obtain ⟨i3, e3, l3, h3⟩ := rfI (xv := s4) (iv := (s0 + 242)) (hRf _ (.tail _ (.tail _ (.tail _ (.head _))))) (sE_k _ _) (sEv (y' := ((242 : Int) + ((1 : Int) * s0 + 0))) rfl (by omega)) (sE_V rfl)
  have l3 : i3 < 401 := l3
  have h3 : hI hp 276 i3 = s4 := h3
  exact poX (.head _) rfl hR (all_nil) (all_nil) (all_cons ⟨[s0, s1, s2], ⟨sE_V rfl, sE_V rfl, sE_V rfl, trivial⟩, (show ∃ i : Nat, i < 8 ∧ s0 = (i : Int) ∧ hI hp 276 (234 + i) = s1 ∧ hI hp 276 (242 + i) = s2 from ⟨i2 - 234, by omega, by omega, by rw [show 234 + (i2 - 234) = i2 by omega, h2]; omega, by rw [show 242 + (i2 - 234) = i3 by omega, h3]; omega⟩)⟩ (all_nil))
theorem rl657 : ruOk fFS gR657 := by
  intro r hp hO hN hH
  obtain ⟨s0, s1, s2, s3, s4, s5, s6, s7, s8, s9, s10, s11, s12, rfl⟩ := len13 (show r.length = 13 from hN.1)
  have hR := hN.2.1.1
  have hIv : ∀ q ∈ ([(0, .negSucc 2147483647, .ofNat 2147483647), (1, .ofNat 24, .ofNat 24), (2, .negSucc 2147483647, .ofNat 2147483647), (3, .negSucc 2147483647, .ofNat 2147483647), (4, .negSucc 2147483647, .ofNat 2147483647), (5, .negSucc 2147483647, .ofNat 2147483647), (6, .negSucc 2147483647, .ofNat 2147483647), (7, .negSucc 2147483647, .ofNat 2147483647), (8, .negSucc 2147483647, .ofNat 2147483647), (9, .ofNat 2, .ofNat 2), (10, .negSucc 2147483647, .ofNat 2147483647), (11, .negSucc 2147483647, .ofNat 2147483647), (12, .negSucc 2147483647, .ofNat 2147483647)] : sIv), ∃ x, ([s0, s1, s2, s3, s4, s5, s6, s7, s8, s9, s10, s11, s12] : List Int)[q.1]? = some x ∧ q.2.1 ≤ x ∧ x ≤ q.2.2 := hN.2.1.2
  have b1 : (24 : Int) ≤ s1 ∧ s1 ≤ (24 : Int) := ivX (q := (1, .ofNat 24, .ofNat 24)) (y := s1) (hIv _ (.tail _ (.head _))) rfl
  have b9 : (2 : Int) ≤ s9 ∧ s9 ≤ (2 : Int) := ivX (q := (9, .ofNat 2, .ofNat 2)) (y := s9) (hIv _ (.tail _ (.tail _ (.tail _ (.tail _ (.tail _ (.tail _ (.tail _ (.tail _ (.tail _ (.head _))))))))))) rfl
  have hFc : ∀ q ∈ ([(119, [(.ofNat 0, [(.ofNat 1, 0)]), (.ofNat 0, [(.ofNat 1, 1)]), (.ofNat 0, [(.ofNat 1, 2)]), (.ofNat 0, [(.ofNat 1, 3)]), (.ofNat 0, [(.ofNat 1, 4)]), (.ofNat 0, [(.ofNat 1, 5)]), (.ofNat 0, [(.ofNat 1, 6)]), (.ofNat 0, [(.ofNat 1, 7)]), (.ofNat 0, [(.ofNat 1, 8)]), (.ofNat 0, [(.ofNat 1, 9)]), (.ofNat 0, [(.ofNat 1, 10)]), (.ofNat 0, [(.ofNat 1, 11)]), (.ofNat 0, [(.ofNat 1, 12)])]), (172, [(.ofNat 0, [(.ofNat 1, 2)]), (.ofNat 0, [(.ofNat 1, 3)]), (.ofNat 0, [(.ofNat 1, 12)]), (.ofNat 0, [])]), (150, [(.ofNat 0, [(.ofNat 1, 0)])])] : List sFc), fcOk fFS [s0, s1, s2, s3, s4, s5, s6, s7, s8, s9, s10, s11, s12] hp q := hH.2
  have f0 : Hq (MT hp) s0 s1 s2 s3 s4 s5 s6 s7 s8 s9 s10 s11 s12 := fcX (ys := [s0, s1, s2, s3, s4, s5, s6, s7, s8, s9, s10, s11, s12]) (hFc _ (.head _)) ⟨sE_V rfl, sE_V rfl, sE_V rfl, sE_V rfl, sE_V rfl, sE_V rfl, sE_V rfl, sE_V rfl, sE_V rfl, sE_V rfl, sE_V rfl, sE_V rfl, sE_V rfl, trivial⟩
  have f1 : dF (MT hp) s2 (fun D => bP (0 : Int) ((s3, s12) ∈ dWi D)) := fcX (ys := [s2, s3, s12, 0]) (hFc _ (.tail _ (.head _))) ⟨sE_V rfl, sE_V rfl, sE_V rfl, sE_k _ _, trivial⟩
  have f2 : NO (MT hp) s0 := fcX (ys := [s0]) (hFc _ (.tail _ (.tail _ (.head _)))) ⟨sE_V rfl, trivial⟩
  obtain ⟨D, hG⟩ := hN24 (MT_ok hO) f0 (by omega) (by omega) f2 (d0' f1 rfl)
  exact poX (.head _) rfl hR (all_nil) (all_nil) (all_cons ⟨[s11, 25, s2, s3, s12, 0, 0, 0, 0], ⟨sE_V rfl, sE_k _ _, sE_V rfl, sE_V rfl, sE_V rfl, sE_k _ _, sE_k _ _, sE_k _ _, sE_k _ _, trivial⟩, (show Gq (MT hp) s11 (25 : Int) s2 s3 s12 (0 : Int) (0 : Int) (0 : Int) (0 : Int) from ⟨D, hG⟩)⟩ (all_nil))
theorem rl658 : ruOk fFS gR658 := by
  intro r hp hO hN hH
  obtain ⟨s0, s1, s2, s3, s4, s5, s6, s7, s8, s9, s10, s11, s12, s13, s14, s15, s16, s17, s18, s19, s20, s21, s22, rfl⟩ := len23 (show r.length = 23 from hN.1)
  have hR := hN.2.1.1
  have hIv : ∀ q ∈ ([(0, .negSucc 2147483647, .ofNat 2147483647), (1, .ofNat 25, .ofNat 25), (2, .negSucc 2147483647, .ofNat 2147483647), (3, .negSucc 2147483647, .ofNat 2147483647), (4, .negSucc 2147483647, .ofNat 2147483647), (5, .negSucc 2147483647, .ofNat 2147483647), (6, .negSucc 2147483647, .ofNat 2147483647), (7, .negSucc 2147483647, .ofNat 2147483647), (8, .negSucc 2147483647, .ofNat 2147483647), (9, .negSucc 2147483647, .ofNat 2147483647), (10, .negSucc 2147483647, .ofNat 2147483647), (11, .negSucc 2147483647, .ofNat 2147483647), (12, .negSucc 2147483647, .ofNat 2147483647), (13, .negSucc 2147483647, .ofNat 2147483647), (14, .negSucc 2147483647, .ofNat 2147483647), (15, .negSucc 2147483647, .ofNat 2147483647), (16, .negSucc 2147483647, .ofNat 2147483647), (17, .negSucc 2147483647, .ofNat 2147483647), (18, .negSucc 2147483647, .ofNat 2147483647), (19, .negSucc 2147483647, .ofNat 2147483647), (20, .negSucc 2147483647, .ofNat 2147483647), (21, .negSucc 2147483647, .ofNat 2147483647), (22, .negSucc 2147483647, .ofNat 2147483647)] : sIv), ∃ x, ([s0, s1, s2, s3, s4, s5, s6, s7, s8, s9, s10, s11, s12, s13, s14, s15, s16, s17, s18, s19, s20, s21, s22] : List Int)[q.1]? = some x ∧ q.2.1 ≤ x ∧ x ≤ q.2.2 := hN.2.1.2
  have b1 : (25 : Int) ≤ s1 ∧ s1 ≤ (25 : Int) := ivX (q := (1, .ofNat 25, .ofNat 25)) (y := s1) (hIv _ (.tail _ (.head _))) rfl
  have hFc : ∀ q ∈ ([(119, [(.ofNat 0, [(.ofNat 1, 0)]), (.ofNat 0, [(.ofNat 1, 1)]), (.ofNat 0, [(.ofNat 1, 2)]), (.ofNat 0, [(.ofNat 1, 3)]), (.ofNat 0, [(.ofNat 1, 4)]), (.ofNat 0, [(.ofNat 1, 5)]), (.ofNat 0, [(.ofNat 1, 6)]), (.ofNat 0, [(.ofNat 1, 7)]), (.ofNat 0, [(.ofNat 1, 8)]), (.ofNat 0, [(.ofNat 1, 9)]), (.ofNat 0, [(.ofNat 1, 10)]), (.ofNat 0, [(.ofNat 1, 11)]), (.ofNat 0, [(.ofNat 1, 12)])]), (125, [(.ofNat 0, [(.ofNat 1, 2)]), (.ofNat 0, [(.ofNat 1, 13)]), (.ofNat 0, [(.ofNat 1, 14)]), (.ofNat 0, [(.ofNat 1, 15)]), (.ofNat 0, [(.ofNat 1, 16)]), (.ofNat 0, [(.ofNat 1, 17)]), (.ofNat 0, [(.ofNat 1, 18)]), (.ofNat 0, [(.ofNat 1, 19)]), (.ofNat 0, [(.ofNat 1, 20)]), (.ofNat 0, [(.ofNat 1, 21)]), (.ofNat 0, [(.ofNat 1, 22)])])] : List sFc), fcOk fFS [s0, s1, s2, s3, s4, s5, s6, s7, s8, s9, s10, s11, s12, s13, s14, s15, s16, s17, s18, s19, s20, s21, s22] hp q := hH.2
  have f0 : Hq (MT hp) s0 s1 s2 s3 s4 s5 s6 s7 s8 s9 s10 s11 s12 := fcX (ys := [s0, s1, s2, s3, s4, s5, s6, s7, s8, s9, s10, s11, s12]) (hFc _ (.head _)) ⟨sE_V rfl, sE_V rfl, sE_V rfl, sE_V rfl, sE_V rfl, sE_V rfl, sE_V rfl, sE_V rfl, sE_V rfl, sE_V rfl, sE_V rfl, sE_V rfl, sE_V rfl, trivial⟩
  have f1 : CT (MT hp) s2 s13 s14 s15 s16 s17 s18 s19 s20 s21 s22 := fcX (ys := [s2, s13, s14, s15, s16, s17, s18, s19, s20, s21, s22]) (hFc _ (.tail _ (.head _))) ⟨sE_V rfl, sE_V rfl, sE_V rfl, sE_V rfl, sE_V rfl, sE_V rfl, sE_V rfl, sE_V rfl, sE_V rfl, sE_V rfl, sE_V rfl, trivial⟩
  obtain ⟨⟨D, hG⟩, -⟩ := f0
  have hP := dF_at (MT_ok hO) hG f1
  exact poX (.head _) rfl hR (all_nil) (all_nil) (all_cons ⟨[s0, 1, 9], ⟨sE_V rfl, sE_k _ _, sE_k _ _, trivial⟩, (show EN (MT hp) s0 (1 : Int) (9 : Int) from en_mk hG (nC25 (by omega) (by omega) (by have hx := hP.2.2.2.2.2.2.2.2.1; have hy := hP.2.2.2.2.2.2.2.2.2; clear hP; omega)))⟩ (all_nil))
theorem rl659 : ruOk fFS gR659 := by
  intro r hp hO hN hH
  obtain ⟨s0, s1, s2, s3, s4, s5, s6, s7, s8, s9, s10, s11, s12, s13, s14, rfl⟩ := len15 (show r.length = 15 from hN.1)
  have hR := hN.2.1.1
  have hIv : ∀ q ∈ ([(0, .negSucc 2147483647, .ofNat 2147483647), (1, .ofNat 1, .ofNat 1), (2, .negSucc 2147483647, .ofNat 2147483647), (3, .negSucc 2147483647, .ofNat 2147483647), (4, .negSucc 2147483647, .ofNat 2147483647), (5, .negSucc 2147483647, .ofNat 2147483647), (6, .negSucc 2147483647, .ofNat 2147483647), (7, .negSucc 2147483647, .ofNat 2147483647), (8, .negSucc 2147483647, .ofNat 2147483647), (9, .ofNat 2, .ofNat 2), (10, .negSucc 2147483647, .ofNat 2147483647), (11, .negSucc 2147483647, .ofNat 2147483647), (12, .negSucc 2147483647, .ofNat 2147483647), (13, .negSucc 2147483647, .ofNat 2147483647), (14, .negSucc 2147483647, .ofNat 2147483647)] : sIv), ∃ x, ([s0, s1, s2, s3, s4, s5, s6, s7, s8, s9, s10, s11, s12, s13, s14] : List Int)[q.1]? = some x ∧ q.2.1 ≤ x ∧ x ≤ q.2.2 := hN.2.1.2
  have b1 : (1 : Int) ≤ s1 ∧ s1 ≤ (1 : Int) := ivX (q := (1, .ofNat 1, .ofNat 1)) (y := s1) (hIv _ (.tail _ (.head _))) rfl
  have b9 : (2 : Int) ≤ s9 ∧ s9 ≤ (2 : Int) := ivX (q := (9, .ofNat 2, .ofNat 2)) (y := s9) (hIv _ (.tail _ (.tail _ (.tail _ (.tail _ (.tail _ (.tail _ (.tail _ (.tail _ (.tail _ (.head _))))))))))) rfl
  have hCs : ∀ c ∈ ([(.ofNat 0, [(.negSucc 0, 12), (.ofNat 1, 13)]), (.ofNat 0, [(.ofNat 1, 12), (.negSucc 0, 14)])] : List sLn), ∃ x, sE [s0, s1, s2, s3, s4, s5, s6, s7, s8, s9, s10, s11, s12, s13, s14] c = some x ∧ x ≤ 0 := hN.2.2.1
  have c0 : ((0 : Int) + ((-1 : Int) * s12 + ((1 : Int) * s13 + 0))) ≤ 0 := csX (hCs _ (.head _)) rfl
  have c1 : ((0 : Int) + ((1 : Int) * s12 + ((-1 : Int) * s14 + 0))) ≤ 0 := csX (hCs _ (.tail _ (.head _))) rfl
  have hFc : ∀ q ∈ ([(119, [(.ofNat 0, [(.ofNat 1, 0)]), (.ofNat 0, [(.ofNat 1, 1)]), (.ofNat 0, [(.ofNat 1, 2)]), (.ofNat 0, [(.ofNat 1, 3)]), (.ofNat 0, [(.ofNat 1, 4)]), (.ofNat 0, [(.ofNat 1, 5)]), (.ofNat 0, [(.ofNat 1, 6)]), (.ofNat 0, [(.ofNat 1, 7)]), (.ofNat 0, [(.ofNat 1, 8)]), (.ofNat 0, [(.ofNat 1, 9)]), (.ofNat 0, [(.ofNat 1, 10)]), (.ofNat 0, [(.ofNat 1, 11)]), (.ofNat 0, [(.ofNat 1, 12)])]), (121, [(.ofNat 0, [(.ofNat 1, 0)]), (.ofNat 0, [(.ofNat 1, 13)]), (.ofNat 0, [(.ofNat 1, 14)])])] : List sFc), fcOk fFS [s0, s1, s2, s3, s4, s5, s6, s7, s8, s9, s10, s11, s12, s13, s14] hp q := hH.2
  have f0 : Hq (MT hp) s0 s1 s2 s3 s4 s5 s6 s7 s8 s9 s10 s11 s12 := fcX (ys := [s0, s1, s2, s3, s4, s5, s6, s7, s8, s9, s10, s11, s12]) (hFc _ (.head _)) ⟨sE_V rfl, sE_V rfl, sE_V rfl, sE_V rfl, sE_V rfl, sE_V rfl, sE_V rfl, sE_V rfl, sE_V rfl, sE_V rfl, sE_V rfl, sE_V rfl, sE_V rfl, trivial⟩
  have f1 : EN (MT hp) s0 s13 s14 := fcX (ys := [s0, s13, s14]) (hFc _ (.tail _ (.head _))) ⟨sE_V rfl, sE_V rfl, sE_V rfl, trivial⟩
  have hN := en_no f0 f1 (by omega) (by omega) (by omega)
  obtain ⟨D, hG⟩ := hN1 (MT_ok hO) f0 (by omega) (by omega) hN
  exact poX (.head _) rfl hR (all_nil) (all_nil) (all_cons ⟨[s11, 2, s2, s12, 0, 0, 0, 0, 0], ⟨sE_V rfl, sE_k _ _, sE_V rfl, sE_V rfl, sE_k _ _, sE_k _ _, sE_k _ _, sE_k _ _, sE_k _ _, trivial⟩, (show Gq (MT hp) s11 (2 : Int) s2 s12 (0 : Int) (0 : Int) (0 : Int) (0 : Int) (0 : Int) from ⟨D, hG⟩)⟩ (all_nil))
theorem rl660 : ruOk fFS gR660 := by
  intro r hp hO hN hH
  obtain ⟨s0, s1, s2, s3, s4, s5, s6, s7, s8, s9, s10, s11, s12, s13, s14, rfl⟩ := len15 (show r.length = 15 from hN.1)
  have hR := hN.2.1.1
  have hIv : ∀ q ∈ ([(0, .negSucc 2147483647, .ofNat 2147483647), (1, .ofNat 2, .ofNat 2), (2, .negSucc 2147483647, .ofNat 2147483647), (3, .negSucc 2147483647, .ofNat 2147483647), (4, .negSucc 2147483647, .ofNat 2147483647), (5, .negSucc 2147483647, .ofNat 2147483647), (6, .negSucc 2147483647, .ofNat 2147483647), (7, .negSucc 2147483647, .ofNat 2147483647), (8, .negSucc 2147483647, .ofNat 2147483647), (9, .ofNat 2, .ofNat 2), (10, .negSucc 2147483647, .ofNat 2147483647), (11, .negSucc 2147483647, .ofNat 2147483647), (12, .negSucc 2147483647, .ofNat 2147483647), (13, .negSucc 2147483647, .ofNat 2147483647), (14, .negSucc 2147483647, .ofNat 2147483647)] : sIv), ∃ x, ([s0, s1, s2, s3, s4, s5, s6, s7, s8, s9, s10, s11, s12, s13, s14] : List Int)[q.1]? = some x ∧ q.2.1 ≤ x ∧ x ≤ q.2.2 := hN.2.1.2
  have b1 : (2 : Int) ≤ s1 ∧ s1 ≤ (2 : Int) := ivX (q := (1, .ofNat 2, .ofNat 2)) (y := s1) (hIv _ (.tail _ (.head _))) rfl
  have b9 : (2 : Int) ≤ s9 ∧ s9 ≤ (2 : Int) := ivX (q := (9, .ofNat 2, .ofNat 2)) (y := s9) (hIv _ (.tail _ (.tail _ (.tail _ (.tail _ (.tail _ (.tail _ (.tail _ (.tail _ (.tail _ (.head _))))))))))) rfl
  have hCs : ∀ c ∈ ([(.ofNat 0, [(.negSucc 0, 12), (.ofNat 1, 13)]), (.ofNat 0, [(.ofNat 1, 12), (.negSucc 0, 14)])] : List sLn), ∃ x, sE [s0, s1, s2, s3, s4, s5, s6, s7, s8, s9, s10, s11, s12, s13, s14] c = some x ∧ x ≤ 0 := hN.2.2.1
  have c0 : ((0 : Int) + ((-1 : Int) * s12 + ((1 : Int) * s13 + 0))) ≤ 0 := csX (hCs _ (.head _)) rfl
  have c1 : ((0 : Int) + ((1 : Int) * s12 + ((-1 : Int) * s14 + 0))) ≤ 0 := csX (hCs _ (.tail _ (.head _))) rfl
  have hFc : ∀ q ∈ ([(119, [(.ofNat 0, [(.ofNat 1, 0)]), (.ofNat 0, [(.ofNat 1, 1)]), (.ofNat 0, [(.ofNat 1, 2)]), (.ofNat 0, [(.ofNat 1, 3)]), (.ofNat 0, [(.ofNat 1, 4)]), (.ofNat 0, [(.ofNat 1, 5)]), (.ofNat 0, [(.ofNat 1, 6)]), (.ofNat 0, [(.ofNat 1, 7)]), (.ofNat 0, [(.ofNat 1, 8)]), (.ofNat 0, [(.ofNat 1, 9)]), (.ofNat 0, [(.ofNat 1, 10)]), (.ofNat 0, [(.ofNat 1, 11)]), (.ofNat 0, [(.ofNat 1, 12)])]), (121, [(.ofNat 0, [(.ofNat 1, 0)]), (.ofNat 0, [(.ofNat 1, 13)]), (.ofNat 0, [(.ofNat 1, 14)])])] : List sFc), fcOk fFS [s0, s1, s2, s3, s4, s5, s6, s7, s8, s9, s10, s11, s12, s13, s14] hp q := hH.2
  have f0 : Hq (MT hp) s0 s1 s2 s3 s4 s5 s6 s7 s8 s9 s10 s11 s12 := fcX (ys := [s0, s1, s2, s3, s4, s5, s6, s7, s8, s9, s10, s11, s12]) (hFc _ (.head _)) ⟨sE_V rfl, sE_V rfl, sE_V rfl, sE_V rfl, sE_V rfl, sE_V rfl, sE_V rfl, sE_V rfl, sE_V rfl, sE_V rfl, sE_V rfl, sE_V rfl, sE_V rfl, trivial⟩
  have f1 : EN (MT hp) s0 s13 s14 := fcX (ys := [s0, s13, s14]) (hFc _ (.tail _ (.head _))) ⟨sE_V rfl, sE_V rfl, sE_V rfl, trivial⟩
  have hN := en_no f0 f1 (by omega) (by omega) (by omega)
  have u := hN2 (MT_ok hO) f0 (by omega) (by omega) hN
  exact poX (.head _) rfl hR (all_nil) (all_nil) (all_cons ⟨[s11, 26, (s2 + 1), 0, 0, 0, 0, 0, 0], ⟨sE_V rfl, sE_k _ _, sEv (y' := ((1 : Int) + ((1 : Int) * s2 + 0))) rfl (by omega), sE_k _ _, sE_k _ _, sE_k _ _, sE_k _ _, sE_k _ _, sE_k _ _, trivial⟩, (show Gq (MT hp) s11 (26 : Int) (s2 + 1) (0 : Int) (0 : Int) (0 : Int) (0 : Int) (0 : Int) (0 : Int) from u.1)⟩ (all_cons ⟨[s2, s3, s12], ⟨sE_V rfl, sE_V rfl, sE_V rfl, trivial⟩, (show dl (MT hp) s2 (fun D => aSz D s3 s12) from u.2)⟩ (all_nil)))
theorem rl661 : ruOk fFS gR661 := by
  intro r hp hO hN hH
  obtain ⟨s0, s1, s2, s3, s4, s5, s6, s7, s8, s9, s10, s11, s12, s13, s14, rfl⟩ := len15 (show r.length = 15 from hN.1)
  have hR := hN.2.1.1
  have hIv : ∀ q ∈ ([(0, .negSucc 2147483647, .ofNat 2147483647), (1, .ofNat 5, .ofNat 5), (2, .negSucc 2147483647, .ofNat 2147483647), (3, .negSucc 2147483647, .ofNat 2147483647), (4, .negSucc 2147483647, .ofNat 2147483647), (5, .negSucc 2147483647, .ofNat 2147483647), (6, .negSucc 2147483647, .ofNat 2147483647), (7, .negSucc 2147483647, .ofNat 2147483647), (8, .negSucc 2147483647, .ofNat 2147483647), (9, .ofNat 2, .ofNat 2), (10, .negSucc 2147483647, .ofNat 2147483647), (11, .negSucc 2147483647, .ofNat 2147483647), (12, .negSucc 2147483647, .ofNat 2147483647), (13, .negSucc 2147483647, .ofNat 2147483647), (14, .negSucc 2147483647, .ofNat 2147483647)] : sIv), ∃ x, ([s0, s1, s2, s3, s4, s5, s6, s7, s8, s9, s10, s11, s12, s13, s14] : List Int)[q.1]? = some x ∧ q.2.1 ≤ x ∧ x ≤ q.2.2 := hN.2.1.2
  have b1 : (5 : Int) ≤ s1 ∧ s1 ≤ (5 : Int) := ivX (q := (1, .ofNat 5, .ofNat 5)) (y := s1) (hIv _ (.tail _ (.head _))) rfl
  have b9 : (2 : Int) ≤ s9 ∧ s9 ≤ (2 : Int) := ivX (q := (9, .ofNat 2, .ofNat 2)) (y := s9) (hIv _ (.tail _ (.tail _ (.tail _ (.tail _ (.tail _ (.tail _ (.tail _ (.tail _ (.tail _ (.head _))))))))))) rfl
  have hCs : ∀ c ∈ ([(.ofNat 0, [(.negSucc 0, 12), (.ofNat 1, 13)]), (.ofNat 0, [(.ofNat 1, 12), (.negSucc 0, 14)])] : List sLn), ∃ x, sE [s0, s1, s2, s3, s4, s5, s6, s7, s8, s9, s10, s11, s12, s13, s14] c = some x ∧ x ≤ 0 := hN.2.2.1
  have c0 : ((0 : Int) + ((-1 : Int) * s12 + ((1 : Int) * s13 + 0))) ≤ 0 := csX (hCs _ (.head _)) rfl
  have c1 : ((0 : Int) + ((1 : Int) * s12 + ((-1 : Int) * s14 + 0))) ≤ 0 := csX (hCs _ (.tail _ (.head _))) rfl
  have hFc : ∀ q ∈ ([(119, [(.ofNat 0, [(.ofNat 1, 0)]), (.ofNat 0, [(.ofNat 1, 1)]), (.ofNat 0, [(.ofNat 1, 2)]), (.ofNat 0, [(.ofNat 1, 3)]), (.ofNat 0, [(.ofNat 1, 4)]), (.ofNat 0, [(.ofNat 1, 5)]), (.ofNat 0, [(.ofNat 1, 6)]), (.ofNat 0, [(.ofNat 1, 7)]), (.ofNat 0, [(.ofNat 1, 8)]), (.ofNat 0, [(.ofNat 1, 9)]), (.ofNat 0, [(.ofNat 1, 10)]), (.ofNat 0, [(.ofNat 1, 11)]), (.ofNat 0, [(.ofNat 1, 12)])]), (121, [(.ofNat 0, [(.ofNat 1, 0)]), (.ofNat 0, [(.ofNat 1, 13)]), (.ofNat 0, [(.ofNat 1, 14)])])] : List sFc), fcOk fFS [s0, s1, s2, s3, s4, s5, s6, s7, s8, s9, s10, s11, s12, s13, s14] hp q := hH.2
  have f0 : Hq (MT hp) s0 s1 s2 s3 s4 s5 s6 s7 s8 s9 s10 s11 s12 := fcX (ys := [s0, s1, s2, s3, s4, s5, s6, s7, s8, s9, s10, s11, s12]) (hFc _ (.head _)) ⟨sE_V rfl, sE_V rfl, sE_V rfl, sE_V rfl, sE_V rfl, sE_V rfl, sE_V rfl, sE_V rfl, sE_V rfl, sE_V rfl, sE_V rfl, sE_V rfl, sE_V rfl, trivial⟩
  have f1 : EN (MT hp) s0 s13 s14 := fcX (ys := [s0, s13, s14]) (hFc _ (.tail _ (.head _))) ⟨sE_V rfl, sE_V rfl, sE_V rfl, trivial⟩
  have hN := en_no f0 f1 (by omega) (by omega) (by omega)
  obtain ⟨D, hG⟩ := hN5 (MT_ok hO) f0 (by omega) (by omega) hN
  exact poX (.head _) rfl hR (all_nil) (all_nil) (all_cons ⟨[s11, 6, s2, s3, s12, 0, 0, s7, s8], ⟨sE_V rfl, sE_k _ _, sE_V rfl, sE_V rfl, sE_V rfl, sE_k _ _, sE_k _ _, sE_V rfl, sE_V rfl, trivial⟩, (show Gq (MT hp) s11 (6 : Int) s2 s3 s12 (0 : Int) (0 : Int) s7 s8 from ⟨D, hG⟩)⟩ (all_nil))
theorem rl662 : ruOk fFS gR662 := by
  intro r hp hO hN hH
  obtain ⟨s0, s1, s2, s3, s4, s5, s6, s7, s8, s9, s10, s11, s12, s13, s14, rfl⟩ := len15 (show r.length = 15 from hN.1)
  have hR := hN.2.1.1
  have hIv : ∀ q ∈ ([(0, .negSucc 2147483647, .ofNat 2147483647), (1, .ofNat 6, .ofNat 6), (2, .negSucc 2147483647, .ofNat 2147483647), (3, .negSucc 2147483647, .ofNat 2147483647), (4, .negSucc 2147483647, .ofNat 2147483647), (5, .negSucc 2147483647, .ofNat 2147483647), (6, .negSucc 2147483647, .ofNat 2147483647), (7, .negSucc 2147483647, .ofNat 2147483647), (8, .negSucc 2147483647, .ofNat 2147483647), (9, .ofNat 2, .ofNat 2), (10, .negSucc 2147483647, .ofNat 2147483647), (11, .negSucc 2147483647, .ofNat 2147483647), (12, .negSucc 2147483647, .ofNat 2147483647), (13, .negSucc 2147483647, .ofNat 2147483647), (14, .negSucc 2147483647, .ofNat 2147483647)] : sIv), ∃ x, ([s0, s1, s2, s3, s4, s5, s6, s7, s8, s9, s10, s11, s12, s13, s14] : List Int)[q.1]? = some x ∧ q.2.1 ≤ x ∧ x ≤ q.2.2 := hN.2.1.2
  have b1 : (6 : Int) ≤ s1 ∧ s1 ≤ (6 : Int) := ivX (q := (1, .ofNat 6, .ofNat 6)) (y := s1) (hIv _ (.tail _ (.head _))) rfl
  have b9 : (2 : Int) ≤ s9 ∧ s9 ≤ (2 : Int) := ivX (q := (9, .ofNat 2, .ofNat 2)) (y := s9) (hIv _ (.tail _ (.tail _ (.tail _ (.tail _ (.tail _ (.tail _ (.tail _ (.tail _ (.tail _ (.head _))))))))))) rfl
  have hCs : ∀ c ∈ ([(.ofNat 0, [(.negSucc 0, 12), (.ofNat 1, 13)]), (.ofNat 0, [(.ofNat 1, 12), (.negSucc 0, 14)])] : List sLn), ∃ x, sE [s0, s1, s2, s3, s4, s5, s6, s7, s8, s9, s10, s11, s12, s13, s14] c = some x ∧ x ≤ 0 := hN.2.2.1
  have c0 : ((0 : Int) + ((-1 : Int) * s12 + ((1 : Int) * s13 + 0))) ≤ 0 := csX (hCs _ (.head _)) rfl
  have c1 : ((0 : Int) + ((1 : Int) * s12 + ((-1 : Int) * s14 + 0))) ≤ 0 := csX (hCs _ (.tail _ (.head _))) rfl
  have hFc : ∀ q ∈ ([(119, [(.ofNat 0, [(.ofNat 1, 0)]), (.ofNat 0, [(.ofNat 1, 1)]), (.ofNat 0, [(.ofNat 1, 2)]), (.ofNat 0, [(.ofNat 1, 3)]), (.ofNat 0, [(.ofNat 1, 4)]), (.ofNat 0, [(.ofNat 1, 5)]), (.ofNat 0, [(.ofNat 1, 6)]), (.ofNat 0, [(.ofNat 1, 7)]), (.ofNat 0, [(.ofNat 1, 8)]), (.ofNat 0, [(.ofNat 1, 9)]), (.ofNat 0, [(.ofNat 1, 10)]), (.ofNat 0, [(.ofNat 1, 11)]), (.ofNat 0, [(.ofNat 1, 12)])]), (121, [(.ofNat 0, [(.ofNat 1, 0)]), (.ofNat 0, [(.ofNat 1, 13)]), (.ofNat 0, [(.ofNat 1, 14)])])] : List sFc), fcOk fFS [s0, s1, s2, s3, s4, s5, s6, s7, s8, s9, s10, s11, s12, s13, s14] hp q := hH.2
  have f0 : Hq (MT hp) s0 s1 s2 s3 s4 s5 s6 s7 s8 s9 s10 s11 s12 := fcX (ys := [s0, s1, s2, s3, s4, s5, s6, s7, s8, s9, s10, s11, s12]) (hFc _ (.head _)) ⟨sE_V rfl, sE_V rfl, sE_V rfl, sE_V rfl, sE_V rfl, sE_V rfl, sE_V rfl, sE_V rfl, sE_V rfl, sE_V rfl, sE_V rfl, sE_V rfl, sE_V rfl, trivial⟩
  have f1 : EN (MT hp) s0 s13 s14 := fcX (ys := [s0, s13, s14]) (hFc _ (.tail _ (.head _))) ⟨sE_V rfl, sE_V rfl, sE_V rfl, trivial⟩
  have hN := en_no f0 f1 (by omega) (by omega) (by omega)
  obtain ⟨D, hG⟩ := hN6 (MT_ok hO) f0 (by omega) (by omega) hN
  exact poX (.head _) rfl hR (all_nil) (all_nil) (all_cons ⟨[s11, 7, s2, s3, s4, s12, 0, s7, s8], ⟨sE_V rfl, sE_k _ _, sE_V rfl, sE_V rfl, sE_V rfl, sE_V rfl, sE_k _ _, sE_V rfl, sE_V rfl, trivial⟩, (show Gq (MT hp) s11 (7 : Int) s2 s3 s4 s12 (0 : Int) s7 s8 from ⟨D, hG⟩)⟩ (all_nil))
theorem rl663 : ruOk fFS gR663 := by
  intro r hp hO hN hH
  obtain ⟨s0, s1, s2, s3, s4, s5, s6, s7, s8, s9, s10, s11, s12, s13, s14, rfl⟩ := len15 (show r.length = 15 from hN.1)
  have hR := hN.2.1.1
  have hIv : ∀ q ∈ ([(0, .negSucc 2147483647, .ofNat 2147483647), (1, .ofNat 7, .ofNat 7), (2, .negSucc 2147483647, .ofNat 2147483647), (3, .negSucc 2147483647, .ofNat 2147483647), (4, .negSucc 2147483647, .ofNat 2147483647), (5, .negSucc 2147483647, .ofNat 2147483647), (6, .negSucc 2147483647, .ofNat 2147483647), (7, .negSucc 2147483647, .ofNat 2147483647), (8, .negSucc 2147483647, .ofNat 2147483647), (9, .ofNat 2, .ofNat 2), (10, .negSucc 2147483647, .ofNat 2147483647), (11, .negSucc 2147483647, .ofNat 2147483647), (12, .negSucc 2147483647, .ofNat 2147483647), (13, .negSucc 2147483647, .ofNat 2147483647), (14, .negSucc 2147483647, .ofNat 2147483647)] : sIv), ∃ x, ([s0, s1, s2, s3, s4, s5, s6, s7, s8, s9, s10, s11, s12, s13, s14] : List Int)[q.1]? = some x ∧ q.2.1 ≤ x ∧ x ≤ q.2.2 := hN.2.1.2
  have b1 : (7 : Int) ≤ s1 ∧ s1 ≤ (7 : Int) := ivX (q := (1, .ofNat 7, .ofNat 7)) (y := s1) (hIv _ (.tail _ (.head _))) rfl
  have b9 : (2 : Int) ≤ s9 ∧ s9 ≤ (2 : Int) := ivX (q := (9, .ofNat 2, .ofNat 2)) (y := s9) (hIv _ (.tail _ (.tail _ (.tail _ (.tail _ (.tail _ (.tail _ (.tail _ (.tail _ (.tail _ (.head _))))))))))) rfl
  have hCs : ∀ c ∈ ([(.ofNat 0, [(.negSucc 0, 12), (.ofNat 1, 13)]), (.ofNat 0, [(.ofNat 1, 12), (.negSucc 0, 14)])] : List sLn), ∃ x, sE [s0, s1, s2, s3, s4, s5, s6, s7, s8, s9, s10, s11, s12, s13, s14] c = some x ∧ x ≤ 0 := hN.2.2.1
  have c0 : ((0 : Int) + ((-1 : Int) * s12 + ((1 : Int) * s13 + 0))) ≤ 0 := csX (hCs _ (.head _)) rfl
  have c1 : ((0 : Int) + ((1 : Int) * s12 + ((-1 : Int) * s14 + 0))) ≤ 0 := csX (hCs _ (.tail _ (.head _))) rfl
  have hFc : ∀ q ∈ ([(119, [(.ofNat 0, [(.ofNat 1, 0)]), (.ofNat 0, [(.ofNat 1, 1)]), (.ofNat 0, [(.ofNat 1, 2)]), (.ofNat 0, [(.ofNat 1, 3)]), (.ofNat 0, [(.ofNat 1, 4)]), (.ofNat 0, [(.ofNat 1, 5)]), (.ofNat 0, [(.ofNat 1, 6)]), (.ofNat 0, [(.ofNat 1, 7)]), (.ofNat 0, [(.ofNat 1, 8)]), (.ofNat 0, [(.ofNat 1, 9)]), (.ofNat 0, [(.ofNat 1, 10)]), (.ofNat 0, [(.ofNat 1, 11)]), (.ofNat 0, [(.ofNat 1, 12)])]), (121, [(.ofNat 0, [(.ofNat 1, 0)]), (.ofNat 0, [(.ofNat 1, 13)]), (.ofNat 0, [(.ofNat 1, 14)])])] : List sFc), fcOk fFS [s0, s1, s2, s3, s4, s5, s6, s7, s8, s9, s10, s11, s12, s13, s14] hp q := hH.2
  have f0 : Hq (MT hp) s0 s1 s2 s3 s4 s5 s6 s7 s8 s9 s10 s11 s12 := fcX (ys := [s0, s1, s2, s3, s4, s5, s6, s7, s8, s9, s10, s11, s12]) (hFc _ (.head _)) ⟨sE_V rfl, sE_V rfl, sE_V rfl, sE_V rfl, sE_V rfl, sE_V rfl, sE_V rfl, sE_V rfl, sE_V rfl, sE_V rfl, sE_V rfl, sE_V rfl, sE_V rfl, trivial⟩
  have f1 : EN (MT hp) s0 s13 s14 := fcX (ys := [s0, s13, s14]) (hFc _ (.tail _ (.head _))) ⟨sE_V rfl, sE_V rfl, sE_V rfl, trivial⟩
  have hN := en_no f0 f1 (by omega) (by omega) (by omega)
  obtain ⟨D, hG⟩ := hN7 (MT_ok hO) f0 (by omega) (by omega) hN
  exact poX (.head _) rfl hR (all_nil) (all_nil) (all_cons ⟨[s11, 8, s2, s3, s4, s5, s12, s7, s8], ⟨sE_V rfl, sE_k _ _, sE_V rfl, sE_V rfl, sE_V rfl, sE_V rfl, sE_V rfl, sE_V rfl, sE_V rfl, trivial⟩, (show Gq (MT hp) s11 (8 : Int) s2 s3 s4 s5 s12 s7 s8 from ⟨D, hG⟩)⟩ (all_nil))
theorem rl664 : ruOk fFS gR664 := by
  intro r hp hO hN hH
  obtain ⟨s0, s1, s2, s3, s4, s5, s6, s7, s8, s9, s10, s11, s12, s13, s14, rfl⟩ := len15 (show r.length = 15 from hN.1)
  have hR := hN.2.1.1
  have hIv : ∀ q ∈ ([(0, .negSucc 2147483647, .ofNat 2147483647), (1, .ofNat 15, .ofNat 15), (2, .negSucc 2147483647, .ofNat 2147483647), (3, .negSucc 2147483647, .ofNat 2147483647), (4, .negSucc 2147483647, .ofNat 2147483647), (5, .negSucc 2147483647, .ofNat 2147483647), (6, .negSucc 2147483647, .ofNat 2147483647), (7, .negSucc 2147483647, .ofNat 2147483647), (8, .negSucc 2147483647, .ofNat 2147483647), (9, .ofNat 2, .ofNat 2), (10, .negSucc 2147483647, .ofNat 2147483647), (11, .negSucc 2147483647, .ofNat 2147483647), (12, .negSucc 2147483647, .ofNat 2147483647), (13, .negSucc 2147483647, .ofNat 2147483647), (14, .negSucc 2147483647, .ofNat 2147483647)] : sIv), ∃ x, ([s0, s1, s2, s3, s4, s5, s6, s7, s8, s9, s10, s11, s12, s13, s14] : List Int)[q.1]? = some x ∧ q.2.1 ≤ x ∧ x ≤ q.2.2 := hN.2.1.2
  have b1 : (15 : Int) ≤ s1 ∧ s1 ≤ (15 : Int) := ivX (q := (1, .ofNat 15, .ofNat 15)) (y := s1) (hIv _ (.tail _ (.head _))) rfl
  have b9 : (2 : Int) ≤ s9 ∧ s9 ≤ (2 : Int) := ivX (q := (9, .ofNat 2, .ofNat 2)) (y := s9) (hIv _ (.tail _ (.tail _ (.tail _ (.tail _ (.tail _ (.tail _ (.tail _ (.tail _ (.tail _ (.head _))))))))))) rfl
  have hCs : ∀ c ∈ ([(.ofNat 0, [(.negSucc 0, 12), (.ofNat 1, 13)]), (.ofNat 0, [(.ofNat 1, 12), (.negSucc 0, 14)])] : List sLn), ∃ x, sE [s0, s1, s2, s3, s4, s5, s6, s7, s8, s9, s10, s11, s12, s13, s14] c = some x ∧ x ≤ 0 := hN.2.2.1
  have c0 : ((0 : Int) + ((-1 : Int) * s12 + ((1 : Int) * s13 + 0))) ≤ 0 := csX (hCs _ (.head _)) rfl
  have c1 : ((0 : Int) + ((1 : Int) * s12 + ((-1 : Int) * s14 + 0))) ≤ 0 := csX (hCs _ (.tail _ (.head _))) rfl
  have hFc : ∀ q ∈ ([(119, [(.ofNat 0, [(.ofNat 1, 0)]), (.ofNat 0, [(.ofNat 1, 1)]), (.ofNat 0, [(.ofNat 1, 2)]), (.ofNat 0, [(.ofNat 1, 3)]), (.ofNat 0, [(.ofNat 1, 4)]), (.ofNat 0, [(.ofNat 1, 5)]), (.ofNat 0, [(.ofNat 1, 6)]), (.ofNat 0, [(.ofNat 1, 7)]), (.ofNat 0, [(.ofNat 1, 8)]), (.ofNat 0, [(.ofNat 1, 9)]), (.ofNat 0, [(.ofNat 1, 10)]), (.ofNat 0, [(.ofNat 1, 11)]), (.ofNat 0, [(.ofNat 1, 12)])]), (121, [(.ofNat 0, [(.ofNat 1, 0)]), (.ofNat 0, [(.ofNat 1, 13)]), (.ofNat 0, [(.ofNat 1, 14)])])] : List sFc), fcOk fFS [s0, s1, s2, s3, s4, s5, s6, s7, s8, s9, s10, s11, s12, s13, s14] hp q := hH.2
  have f0 : Hq (MT hp) s0 s1 s2 s3 s4 s5 s6 s7 s8 s9 s10 s11 s12 := fcX (ys := [s0, s1, s2, s3, s4, s5, s6, s7, s8, s9, s10, s11, s12]) (hFc _ (.head _)) ⟨sE_V rfl, sE_V rfl, sE_V rfl, sE_V rfl, sE_V rfl, sE_V rfl, sE_V rfl, sE_V rfl, sE_V rfl, sE_V rfl, sE_V rfl, sE_V rfl, sE_V rfl, trivial⟩
  have f1 : EN (MT hp) s0 s13 s14 := fcX (ys := [s0, s13, s14]) (hFc _ (.tail _ (.head _))) ⟨sE_V rfl, sE_V rfl, sE_V rfl, trivial⟩
  have hN := en_no f0 f1 (by omega) (by omega) (by omega)
  obtain ⟨D, hG⟩ := hN15 (MT_ok hO) f0 (by omega) (by omega) hN
  exact poX (.head _) rfl hR (all_nil) (all_nil) (all_cons ⟨[s11, 16, s2, 0, 0, 0, 0, s7, s8], ⟨sE_V rfl, sE_k _ _, sE_V rfl, sE_k _ _, sE_k _ _, sE_k _ _, sE_k _ _, sE_V rfl, sE_V rfl, trivial⟩, (show Gq (MT hp) s11 (16 : Int) s2 (0 : Int) (0 : Int) (0 : Int) (0 : Int) s7 s8 from ⟨D, hG⟩)⟩ (all_nil))
theorem rl665 : ruOk fFS gR665 := by
  intro r hp hO hN hH
  obtain ⟨s0, s1, s2, s3, s4, s5, s6, s7, s8, s9, s10, s11, s12, s13, s14, rfl⟩ := len15 (show r.length = 15 from hN.1)
  have hR := hN.2.1.1
  have hIv : ∀ q ∈ ([(0, .negSucc 2147483647, .ofNat 2147483647), (1, .ofNat 16, .ofNat 16), (2, .negSucc 2147483647, .ofNat 2147483647), (3, .negSucc 2147483647, .ofNat 2147483647), (4, .negSucc 2147483647, .ofNat 2147483647), (5, .negSucc 2147483647, .ofNat 2147483647), (6, .negSucc 2147483647, .ofNat 2147483647), (7, .negSucc 2147483647, .ofNat 2147483647), (8, .negSucc 2147483647, .ofNat 2147483647), (9, .ofNat 2, .ofNat 2), (10, .negSucc 2147483647, .ofNat 2147483647), (11, .negSucc 2147483647, .ofNat 2147483647), (12, .negSucc 2147483647, .ofNat 2147483647), (13, .negSucc 2147483647, .ofNat 2147483647), (14, .negSucc 2147483647, .ofNat 2147483647)] : sIv), ∃ x, ([s0, s1, s2, s3, s4, s5, s6, s7, s8, s9, s10, s11, s12, s13, s14] : List Int)[q.1]? = some x ∧ q.2.1 ≤ x ∧ x ≤ q.2.2 := hN.2.1.2
  have b1 : (16 : Int) ≤ s1 ∧ s1 ≤ (16 : Int) := ivX (q := (1, .ofNat 16, .ofNat 16)) (y := s1) (hIv _ (.tail _ (.head _))) rfl
  have b9 : (2 : Int) ≤ s9 ∧ s9 ≤ (2 : Int) := ivX (q := (9, .ofNat 2, .ofNat 2)) (y := s9) (hIv _ (.tail _ (.tail _ (.tail _ (.tail _ (.tail _ (.tail _ (.tail _ (.tail _ (.tail _ (.head _))))))))))) rfl
  have hCs : ∀ c ∈ ([(.ofNat 0, [(.negSucc 0, 12), (.ofNat 1, 13)]), (.ofNat 0, [(.ofNat 1, 12), (.negSucc 0, 14)])] : List sLn), ∃ x, sE [s0, s1, s2, s3, s4, s5, s6, s7, s8, s9, s10, s11, s12, s13, s14] c = some x ∧ x ≤ 0 := hN.2.2.1
  have c0 : ((0 : Int) + ((-1 : Int) * s12 + ((1 : Int) * s13 + 0))) ≤ 0 := csX (hCs _ (.head _)) rfl
  have c1 : ((0 : Int) + ((1 : Int) * s12 + ((-1 : Int) * s14 + 0))) ≤ 0 := csX (hCs _ (.tail _ (.head _))) rfl
  have hFc : ∀ q ∈ ([(119, [(.ofNat 0, [(.ofNat 1, 0)]), (.ofNat 0, [(.ofNat 1, 1)]), (.ofNat 0, [(.ofNat 1, 2)]), (.ofNat 0, [(.ofNat 1, 3)]), (.ofNat 0, [(.ofNat 1, 4)]), (.ofNat 0, [(.ofNat 1, 5)]), (.ofNat 0, [(.ofNat 1, 6)]), (.ofNat 0, [(.ofNat 1, 7)]), (.ofNat 0, [(.ofNat 1, 8)]), (.ofNat 0, [(.ofNat 1, 9)]), (.ofNat 0, [(.ofNat 1, 10)]), (.ofNat 0, [(.ofNat 1, 11)]), (.ofNat 0, [(.ofNat 1, 12)])]), (121, [(.ofNat 0, [(.ofNat 1, 0)]), (.ofNat 0, [(.ofNat 1, 13)]), (.ofNat 0, [(.ofNat 1, 14)])])] : List sFc), fcOk fFS [s0, s1, s2, s3, s4, s5, s6, s7, s8, s9, s10, s11, s12, s13, s14] hp q := hH.2
  have f0 : Hq (MT hp) s0 s1 s2 s3 s4 s5 s6 s7 s8 s9 s10 s11 s12 := fcX (ys := [s0, s1, s2, s3, s4, s5, s6, s7, s8, s9, s10, s11, s12]) (hFc _ (.head _)) ⟨sE_V rfl, sE_V rfl, sE_V rfl, sE_V rfl, sE_V rfl, sE_V rfl, sE_V rfl, sE_V rfl, sE_V rfl, sE_V rfl, sE_V rfl, sE_V rfl, sE_V rfl, trivial⟩
  have f1 : EN (MT hp) s0 s13 s14 := fcX (ys := [s0, s13, s14]) (hFc _ (.tail _ (.head _))) ⟨sE_V rfl, sE_V rfl, sE_V rfl, trivial⟩
  have hN := en_no f0 f1 (by omega) (by omega) (by omega)
  have u := hN16 (MT_ok hO) f0 (by omega) (by omega) hN
  exact poX (.head _) rfl hR (all_nil) (all_nil) (all_cons ⟨[s11, 17, (s2 + 1), 0, 0, 0, 0, 0, 0], ⟨sE_V rfl, sE_k _ _, sEv (y' := ((1 : Int) + ((1 : Int) * s2 + 0))) rfl (by omega), sE_k _ _, sE_k _ _, sE_k _ _, sE_k _ _, sE_k _ _, sE_k _ _, trivial⟩, (show Gq (MT hp) s11 (17 : Int) (s2 + 1) (0 : Int) (0 : Int) (0 : Int) (0 : Int) (0 : Int) (0 : Int) from u.1)⟩ (all_cons ⟨[s2, s7, s8], ⟨sE_V rfl, sE_V rfl, sE_V rfl, trivial⟩, (show dl (MT hp) s2 (fun D => aKn D (bs (MT hp).1 s7 s8)) from u.2)⟩ (all_nil)))
theorem rl666 : ruOk fFS gR666 := by
  intro r hp hO hN hH
  obtain ⟨s0, s1, s2, s3, s4, s5, s6, s7, s8, s9, s10, s11, s12, s13, s14, rfl⟩ := len15 (show r.length = 15 from hN.1)
  have hR := hN.2.1.1
  have hIv : ∀ q ∈ ([(0, .negSucc 2147483647, .ofNat 2147483647), (1, .ofNat 19, .ofNat 19), (2, .negSucc 2147483647, .ofNat 2147483647), (3, .negSucc 2147483647, .ofNat 2147483647), (4, .negSucc 2147483647, .ofNat 2147483647), (5, .negSucc 2147483647, .ofNat 2147483647), (6, .negSucc 2147483647, .ofNat 2147483647), (7, .negSucc 2147483647, .ofNat 2147483647), (8, .negSucc 2147483647, .ofNat 2147483647), (9, .ofNat 2, .ofNat 2), (10, .negSucc 2147483647, .ofNat 2147483647), (11, .negSucc 2147483647, .ofNat 2147483647), (12, .negSucc 2147483647, .ofNat 2147483647), (13, .negSucc 2147483647, .ofNat 2147483647), (14, .negSucc 2147483647, .ofNat 2147483647)] : sIv), ∃ x, ([s0, s1, s2, s3, s4, s5, s6, s7, s8, s9, s10, s11, s12, s13, s14] : List Int)[q.1]? = some x ∧ q.2.1 ≤ x ∧ x ≤ q.2.2 := hN.2.1.2
  have b1 : (19 : Int) ≤ s1 ∧ s1 ≤ (19 : Int) := ivX (q := (1, .ofNat 19, .ofNat 19)) (y := s1) (hIv _ (.tail _ (.head _))) rfl
  have b9 : (2 : Int) ≤ s9 ∧ s9 ≤ (2 : Int) := ivX (q := (9, .ofNat 2, .ofNat 2)) (y := s9) (hIv _ (.tail _ (.tail _ (.tail _ (.tail _ (.tail _ (.tail _ (.tail _ (.tail _ (.tail _ (.head _))))))))))) rfl
  have hCs : ∀ c ∈ ([(.ofNat 0, [(.negSucc 0, 12), (.ofNat 1, 13)]), (.ofNat 0, [(.ofNat 1, 12), (.negSucc 0, 14)])] : List sLn), ∃ x, sE [s0, s1, s2, s3, s4, s5, s6, s7, s8, s9, s10, s11, s12, s13, s14] c = some x ∧ x ≤ 0 := hN.2.2.1
  have c0 : ((0 : Int) + ((-1 : Int) * s12 + ((1 : Int) * s13 + 0))) ≤ 0 := csX (hCs _ (.head _)) rfl
  have c1 : ((0 : Int) + ((1 : Int) * s12 + ((-1 : Int) * s14 + 0))) ≤ 0 := csX (hCs _ (.tail _ (.head _))) rfl
  have hFc : ∀ q ∈ ([(119, [(.ofNat 0, [(.ofNat 1, 0)]), (.ofNat 0, [(.ofNat 1, 1)]), (.ofNat 0, [(.ofNat 1, 2)]), (.ofNat 0, [(.ofNat 1, 3)]), (.ofNat 0, [(.ofNat 1, 4)]), (.ofNat 0, [(.ofNat 1, 5)]), (.ofNat 0, [(.ofNat 1, 6)]), (.ofNat 0, [(.ofNat 1, 7)]), (.ofNat 0, [(.ofNat 1, 8)]), (.ofNat 0, [(.ofNat 1, 9)]), (.ofNat 0, [(.ofNat 1, 10)]), (.ofNat 0, [(.ofNat 1, 11)]), (.ofNat 0, [(.ofNat 1, 12)])]), (121, [(.ofNat 0, [(.ofNat 1, 0)]), (.ofNat 0, [(.ofNat 1, 13)]), (.ofNat 0, [(.ofNat 1, 14)])])] : List sFc), fcOk fFS [s0, s1, s2, s3, s4, s5, s6, s7, s8, s9, s10, s11, s12, s13, s14] hp q := hH.2
  have f0 : Hq (MT hp) s0 s1 s2 s3 s4 s5 s6 s7 s8 s9 s10 s11 s12 := fcX (ys := [s0, s1, s2, s3, s4, s5, s6, s7, s8, s9, s10, s11, s12]) (hFc _ (.head _)) ⟨sE_V rfl, sE_V rfl, sE_V rfl, sE_V rfl, sE_V rfl, sE_V rfl, sE_V rfl, sE_V rfl, sE_V rfl, sE_V rfl, sE_V rfl, sE_V rfl, sE_V rfl, trivial⟩
  have f1 : EN (MT hp) s0 s13 s14 := fcX (ys := [s0, s13, s14]) (hFc _ (.tail _ (.head _))) ⟨sE_V rfl, sE_V rfl, sE_V rfl, trivial⟩
  have hN := en_no f0 f1 (by omega) (by omega) (by omega)
  obtain ⟨D, hG⟩ := hN19 (MT_ok hO) f0 (by omega) (by omega) hN
  exact poX (.head _) rfl hR (all_nil) (all_nil) (all_cons ⟨[s11, 20, s2, s3, s12, 0, 0, 0, 0], ⟨sE_V rfl, sE_k _ _, sE_V rfl, sE_V rfl, sE_V rfl, sE_k _ _, sE_k _ _, sE_k _ _, sE_k _ _, trivial⟩, (show Gq (MT hp) s11 (20 : Int) s2 s3 s12 (0 : Int) (0 : Int) (0 : Int) (0 : Int) from ⟨D, hG⟩)⟩ (all_nil))
theorem rl667 : ruOk fFS gR667 := by
  intro r hp hO hN hH
  obtain ⟨s0, s1, s2, s3, s4, s5, s6, s7, s8, s9, s10, s11, s12, s13, s14, rfl⟩ := len15 (show r.length = 15 from hN.1)
  have hR := hN.2.1.1
  have hIv : ∀ q ∈ ([(0, .negSucc 2147483647, .ofNat 2147483647), (1, .ofNat 21, .ofNat 21), (2, .negSucc 2147483647, .ofNat 2147483647), (3, .negSucc 2147483647, .ofNat 2147483647), (4, .negSucc 2147483647, .ofNat 2147483647), (5, .negSucc 2147483647, .ofNat 2147483647), (6, .negSucc 2147483647, .ofNat 2147483647), (7, .negSucc 2147483647, .ofNat 2147483647), (8, .negSucc 2147483647, .ofNat 2147483647), (9, .ofNat 2, .ofNat 2), (10, .negSucc 2147483647, .ofNat 2147483647), (11, .negSucc 2147483647, .ofNat 2147483647), (12, .negSucc 2147483647, .ofNat 2147483647), (13, .negSucc 2147483647, .ofNat 2147483647), (14, .negSucc 2147483647, .ofNat 2147483647)] : sIv), ∃ x, ([s0, s1, s2, s3, s4, s5, s6, s7, s8, s9, s10, s11, s12, s13, s14] : List Int)[q.1]? = some x ∧ q.2.1 ≤ x ∧ x ≤ q.2.2 := hN.2.1.2
  have b1 : (21 : Int) ≤ s1 ∧ s1 ≤ (21 : Int) := ivX (q := (1, .ofNat 21, .ofNat 21)) (y := s1) (hIv _ (.tail _ (.head _))) rfl
  have b9 : (2 : Int) ≤ s9 ∧ s9 ≤ (2 : Int) := ivX (q := (9, .ofNat 2, .ofNat 2)) (y := s9) (hIv _ (.tail _ (.tail _ (.tail _ (.tail _ (.tail _ (.tail _ (.tail _ (.tail _ (.tail _ (.head _))))))))))) rfl
  have hCs : ∀ c ∈ ([(.ofNat 0, [(.negSucc 0, 12), (.ofNat 1, 13)]), (.ofNat 0, [(.ofNat 1, 12), (.negSucc 0, 14)])] : List sLn), ∃ x, sE [s0, s1, s2, s3, s4, s5, s6, s7, s8, s9, s10, s11, s12, s13, s14] c = some x ∧ x ≤ 0 := hN.2.2.1
  have c0 : ((0 : Int) + ((-1 : Int) * s12 + ((1 : Int) * s13 + 0))) ≤ 0 := csX (hCs _ (.head _)) rfl
  have c1 : ((0 : Int) + ((1 : Int) * s12 + ((-1 : Int) * s14 + 0))) ≤ 0 := csX (hCs _ (.tail _ (.head _))) rfl
  have hFc : ∀ q ∈ ([(119, [(.ofNat 0, [(.ofNat 1, 0)]), (.ofNat 0, [(.ofNat 1, 1)]), (.ofNat 0, [(.ofNat 1, 2)]), (.ofNat 0, [(.ofNat 1, 3)]), (.ofNat 0, [(.ofNat 1, 4)]), (.ofNat 0, [(.ofNat 1, 5)]), (.ofNat 0, [(.ofNat 1, 6)]), (.ofNat 0, [(.ofNat 1, 7)]), (.ofNat 0, [(.ofNat 1, 8)]), (.ofNat 0, [(.ofNat 1, 9)]), (.ofNat 0, [(.ofNat 1, 10)]), (.ofNat 0, [(.ofNat 1, 11)]), (.ofNat 0, [(.ofNat 1, 12)])]), (121, [(.ofNat 0, [(.ofNat 1, 0)]), (.ofNat 0, [(.ofNat 1, 13)]), (.ofNat 0, [(.ofNat 1, 14)])])] : List sFc), fcOk fFS [s0, s1, s2, s3, s4, s5, s6, s7, s8, s9, s10, s11, s12, s13, s14] hp q := hH.2
  have f0 : Hq (MT hp) s0 s1 s2 s3 s4 s5 s6 s7 s8 s9 s10 s11 s12 := fcX (ys := [s0, s1, s2, s3, s4, s5, s6, s7, s8, s9, s10, s11, s12]) (hFc _ (.head _)) ⟨sE_V rfl, sE_V rfl, sE_V rfl, sE_V rfl, sE_V rfl, sE_V rfl, sE_V rfl, sE_V rfl, sE_V rfl, sE_V rfl, sE_V rfl, sE_V rfl, sE_V rfl, trivial⟩
  have f1 : EN (MT hp) s0 s13 s14 := fcX (ys := [s0, s13, s14]) (hFc _ (.tail _ (.head _))) ⟨sE_V rfl, sE_V rfl, sE_V rfl, trivial⟩
  have hN := en_no f0 f1 (by omega) (by omega) (by omega)
  obtain ⟨D, hG⟩ := hN21 (MT_ok hO) f0 (by omega) (by omega) hN
  exact poX (.head _) rfl hR (all_nil) (all_nil) (all_cons ⟨[s11, 22, s2, 0, s12, 0, 0, 0, 0], ⟨sE_V rfl, sE_k _ _, sE_V rfl, sE_k _ _, sE_V rfl, sE_k _ _, sE_k _ _, sE_k _ _, sE_k _ _, trivial⟩, (show Gq (MT hp) s11 (22 : Int) s2 (0 : Int) s12 (0 : Int) (0 : Int) (0 : Int) (0 : Int) from ⟨D, hG⟩)⟩ (all_nil))
theorem rl668 : ruOk fFS gR668 := by
  intro r hp hO hN hH
  obtain ⟨s0, s1, s2, s3, s4, s5, s6, s7, s8, s9, s10, s11, s12, s13, s14, rfl⟩ := len15 (show r.length = 15 from hN.1)
  have hR := hN.2.1.1
  have hIv : ∀ q ∈ ([(0, .negSucc 2147483647, .ofNat 2147483647), (1, .ofNat 25, .ofNat 25), (2, .negSucc 2147483647, .ofNat 2147483647), (3, .negSucc 2147483647, .ofNat 2147483647), (4, .negSucc 2147483647, .ofNat 2147483647), (5, .negSucc 2147483647, .ofNat 2147483647), (6, .negSucc 2147483647, .ofNat 2147483647), (7, .negSucc 2147483647, .ofNat 2147483647), (8, .negSucc 2147483647, .ofNat 2147483647), (9, .ofNat 2, .ofNat 2), (10, .negSucc 2147483647, .ofNat 2147483647), (11, .negSucc 2147483647, .ofNat 2147483647), (12, .negSucc 2147483647, .ofNat 2147483647), (13, .negSucc 2147483647, .ofNat 2147483647), (14, .negSucc 2147483647, .ofNat 2147483647)] : sIv), ∃ x, ([s0, s1, s2, s3, s4, s5, s6, s7, s8, s9, s10, s11, s12, s13, s14] : List Int)[q.1]? = some x ∧ q.2.1 ≤ x ∧ x ≤ q.2.2 := hN.2.1.2
  have b1 : (25 : Int) ≤ s1 ∧ s1 ≤ (25 : Int) := ivX (q := (1, .ofNat 25, .ofNat 25)) (y := s1) (hIv _ (.tail _ (.head _))) rfl
  have b9 : (2 : Int) ≤ s9 ∧ s9 ≤ (2 : Int) := ivX (q := (9, .ofNat 2, .ofNat 2)) (y := s9) (hIv _ (.tail _ (.tail _ (.tail _ (.tail _ (.tail _ (.tail _ (.tail _ (.tail _ (.tail _ (.head _))))))))))) rfl
  have hCs : ∀ c ∈ ([(.ofNat 0, [(.negSucc 0, 12), (.ofNat 1, 13)]), (.ofNat 0, [(.ofNat 1, 12), (.negSucc 0, 14)])] : List sLn), ∃ x, sE [s0, s1, s2, s3, s4, s5, s6, s7, s8, s9, s10, s11, s12, s13, s14] c = some x ∧ x ≤ 0 := hN.2.2.1
  have c0 : ((0 : Int) + ((-1 : Int) * s12 + ((1 : Int) * s13 + 0))) ≤ 0 := csX (hCs _ (.head _)) rfl
  have c1 : ((0 : Int) + ((1 : Int) * s12 + ((-1 : Int) * s14 + 0))) ≤ 0 := csX (hCs _ (.tail _ (.head _))) rfl
  have hFc : ∀ q ∈ ([(119, [(.ofNat 0, [(.ofNat 1, 0)]), (.ofNat 0, [(.ofNat 1, 1)]), (.ofNat 0, [(.ofNat 1, 2)]), (.ofNat 0, [(.ofNat 1, 3)]), (.ofNat 0, [(.ofNat 1, 4)]), (.ofNat 0, [(.ofNat 1, 5)]), (.ofNat 0, [(.ofNat 1, 6)]), (.ofNat 0, [(.ofNat 1, 7)]), (.ofNat 0, [(.ofNat 1, 8)]), (.ofNat 0, [(.ofNat 1, 9)]), (.ofNat 0, [(.ofNat 1, 10)]), (.ofNat 0, [(.ofNat 1, 11)]), (.ofNat 0, [(.ofNat 1, 12)])]), (121, [(.ofNat 0, [(.ofNat 1, 0)]), (.ofNat 0, [(.ofNat 1, 13)]), (.ofNat 0, [(.ofNat 1, 14)])])] : List sFc), fcOk fFS [s0, s1, s2, s3, s4, s5, s6, s7, s8, s9, s10, s11, s12, s13, s14] hp q := hH.2
  have f0 : Hq (MT hp) s0 s1 s2 s3 s4 s5 s6 s7 s8 s9 s10 s11 s12 := fcX (ys := [s0, s1, s2, s3, s4, s5, s6, s7, s8, s9, s10, s11, s12]) (hFc _ (.head _)) ⟨sE_V rfl, sE_V rfl, sE_V rfl, sE_V rfl, sE_V rfl, sE_V rfl, sE_V rfl, sE_V rfl, sE_V rfl, sE_V rfl, sE_V rfl, sE_V rfl, sE_V rfl, trivial⟩
  have f1 : EN (MT hp) s0 s13 s14 := fcX (ys := [s0, s13, s14]) (hFc _ (.tail _ (.head _))) ⟨sE_V rfl, sE_V rfl, sE_V rfl, trivial⟩
  have hN := en_no f0 f1 (by omega) (by omega) (by omega)
  have u := hN25 (MT_ok hO) f0 (by omega) (by omega) hN
  exact poX (.head _) rfl hR (all_nil) (all_nil) (all_cons ⟨[s11, 26, (s2 + 1), 0, 0, 0, 0, 0, 0], ⟨sE_V rfl, sE_k _ _, sEv (y' := ((1 : Int) + ((1 : Int) * s2 + 0))) rfl (by omega), sE_k _ _, sE_k _ _, sE_k _ _, sE_k _ _, sE_k _ _, sE_k _ _, trivial⟩, (show Gq (MT hp) s11 (26 : Int) (s2 + 1) (0 : Int) (0 : Int) (0 : Int) (0 : Int) (0 : Int) (0 : Int) from u.1)⟩ (all_cons ⟨[s2, s3, s4], ⟨sE_V rfl, sE_V rfl, sE_V rfl, trivial⟩, (show dl (MT hp) s2 (fun D => aWi D s3 s4) from u.2)⟩ (all_nil)))
theorem rl669 : ruOk fFS gR669 := by
  intro r hp hO hN hH
  obtain ⟨s0, s1, s2, s3, s4, s5, s6, s7, s8, rfl⟩ := len9 (show r.length = 9 from hN.1)
  have hR := hN.2.1.1
  have hIv : ∀ q ∈ ([(0, .negSucc 2147483647, .ofNat 2147483647), (1, .ofNat 2, .ofNat 2), (2, .negSucc 2147483647, .ofNat 2147483647), (3, .ofNat 2, .ofNat 2), (4, .negSucc 2147483647, .ofNat 2147483647), (5, .negSucc 2147483647, .ofNat 2147483647), (6, .negSucc 2147483647, .ofNat 2147483647), (7, .negSucc 2147483647, .ofNat 2147483647), (8, .negSucc 2147483647, .ofNat 2147483647)] : sIv), ∃ x, ([s0, s1, s2, s3, s4, s5, s6, s7, s8] : List Int)[q.1]? = some x ∧ q.2.1 ≤ x ∧ x ≤ q.2.2 := hN.2.1.2
  have b1 : (2 : Int) ≤ s1 ∧ s1 ≤ (2 : Int) := ivX (q := (1, .ofNat 2, .ofNat 2)) (y := s1) (hIv _ (.tail _ (.head _))) rfl
  have b3 : (2 : Int) ≤ s3 ∧ s3 ≤ (2 : Int) := ivX (q := (3, .ofNat 2, .ofNat 2)) (y := s3) (hIv _ (.tail _ (.tail _ (.tail _ (.head _))))) rfl
  have hCs : ∀ c ∈ ([(.ofNat 0, [(.negSucc 0, 6), (.ofNat 1, 7)]), (.ofNat 0, [(.ofNat 1, 6), (.negSucc 0, 8)])] : List sLn), ∃ x, sE [s0, s1, s2, s3, s4, s5, s6, s7, s8] c = some x ∧ x ≤ 0 := hN.2.2.1
  have c0 : ((0 : Int) + ((-1 : Int) * s6 + ((1 : Int) * s7 + 0))) ≤ 0 := csX (hCs _ (.head _)) rfl
  have c1 : ((0 : Int) + ((1 : Int) * s6 + ((-1 : Int) * s8 + 0))) ≤ 0 := csX (hCs _ (.tail _ (.head _))) rfl
  have hFc : ∀ q ∈ ([(250, [(.ofNat 0, [(.ofNat 1, 0)]), (.ofNat 0, [(.ofNat 1, 1)]), (.ofNat 0, [(.ofNat 1, 2)]), (.ofNat 0, [(.ofNat 1, 3)]), (.ofNat 0, [(.ofNat 1, 4)]), (.ofNat 0, [(.ofNat 1, 5)]), (.ofNat 0, [(.ofNat 1, 6)])]), (254, [(.ofNat 0, [(.ofNat 1, 0)]), (.ofNat 0, [(.ofNat 1, 7)]), (.ofNat 0, [(.ofNat 1, 8)])])] : List sFc), fcOk fFS [s0, s1, s2, s3, s4, s5, s6, s7, s8] hp q := hH.2
  have f0 : roH (MT hp) (nmM hp) (hI hp 275 0) (hI hp 275 1) s0 s1 s2 s3 s4 s5 s6 := fcX (ys := [s0, s1, s2, s3, s4, s5, s6]) (hFc _ (.head _)) ⟨sE_V rfl, sE_V rfl, sE_V rfl, sE_V rfl, sE_V rfl, sE_V rfl, sE_V rfl, trivial⟩
  have f1 : roB (MT hp) (nmM hp) (hI hp 275 0) (hI hp 275 1) s0 s7 s8 := fcX (ys := [s0, s7, s8]) (hFc _ (.tail _ (.head _))) ⟨sE_V rfl, sE_V rfl, sE_V rfl, trivial⟩
  exact poX (.head _) rfl hR (all_nil) (all_nil) (all_cons ⟨[s5, 7, s2], ⟨sE_V rfl, sE_k _ _, sE_V rfl, trivial⟩, (show roG (MT hp) (nmM hp) (hI hp 275 0) (hI hp 275 1) s5 (7 : Int) s2 from ron_go (MT_ok hO) f0 (ron_k (MT_ok hO) f0 f1 (by omega) (by omega) (by omega)) (by omega) (roNe_7 (by omega)))⟩ (all_nil))
theorem rl670 : ruOk fFS gR670 := by
  intro r hp hO hN hH
  obtain ⟨s0, s1, s2, s3, s4, s5, s6, s7, s8, rfl⟩ := len9 (show r.length = 9 from hN.1)
  have hR := hN.2.1.1
  have hIv : ∀ q ∈ ([(0, .negSucc 2147483647, .ofNat 2147483647), (1, .ofNat 3, .ofNat 3), (2, .negSucc 2147483647, .ofNat 2147483647), (3, .ofNat 2, .ofNat 2), (4, .negSucc 2147483647, .ofNat 2147483647), (5, .negSucc 2147483647, .ofNat 2147483647), (6, .negSucc 2147483647, .ofNat 2147483647), (7, .negSucc 2147483647, .ofNat 2147483647), (8, .negSucc 2147483647, .ofNat 2147483647)] : sIv), ∃ x, ([s0, s1, s2, s3, s4, s5, s6, s7, s8] : List Int)[q.1]? = some x ∧ q.2.1 ≤ x ∧ x ≤ q.2.2 := hN.2.1.2
  have b1 : (3 : Int) ≤ s1 ∧ s1 ≤ (3 : Int) := ivX (q := (1, .ofNat 3, .ofNat 3)) (y := s1) (hIv _ (.tail _ (.head _))) rfl
  have b3 : (2 : Int) ≤ s3 ∧ s3 ≤ (2 : Int) := ivX (q := (3, .ofNat 2, .ofNat 2)) (y := s3) (hIv _ (.tail _ (.tail _ (.tail _ (.head _))))) rfl
  have hCs : ∀ c ∈ ([(.ofNat 0, [(.negSucc 0, 6), (.ofNat 1, 7)]), (.ofNat 0, [(.ofNat 1, 6), (.negSucc 0, 8)])] : List sLn), ∃ x, sE [s0, s1, s2, s3, s4, s5, s6, s7, s8] c = some x ∧ x ≤ 0 := hN.2.2.1
  have c0 : ((0 : Int) + ((-1 : Int) * s6 + ((1 : Int) * s7 + 0))) ≤ 0 := csX (hCs _ (.head _)) rfl
  have c1 : ((0 : Int) + ((1 : Int) * s6 + ((-1 : Int) * s8 + 0))) ≤ 0 := csX (hCs _ (.tail _ (.head _))) rfl
  have hFc : ∀ q ∈ ([(250, [(.ofNat 0, [(.ofNat 1, 0)]), (.ofNat 0, [(.ofNat 1, 1)]), (.ofNat 0, [(.ofNat 1, 2)]), (.ofNat 0, [(.ofNat 1, 3)]), (.ofNat 0, [(.ofNat 1, 4)]), (.ofNat 0, [(.ofNat 1, 5)]), (.ofNat 0, [(.ofNat 1, 6)])]), (254, [(.ofNat 0, [(.ofNat 1, 0)]), (.ofNat 0, [(.ofNat 1, 7)]), (.ofNat 0, [(.ofNat 1, 8)])])] : List sFc), fcOk fFS [s0, s1, s2, s3, s4, s5, s6, s7, s8] hp q := hH.2
  have f0 : roH (MT hp) (nmM hp) (hI hp 275 0) (hI hp 275 1) s0 s1 s2 s3 s4 s5 s6 := fcX (ys := [s0, s1, s2, s3, s4, s5, s6]) (hFc _ (.head _)) ⟨sE_V rfl, sE_V rfl, sE_V rfl, sE_V rfl, sE_V rfl, sE_V rfl, sE_V rfl, trivial⟩
  have f1 : roB (MT hp) (nmM hp) (hI hp 275 0) (hI hp 275 1) s0 s7 s8 := fcX (ys := [s0, s7, s8]) (hFc _ (.tail _ (.head _))) ⟨sE_V rfl, sE_V rfl, sE_V rfl, trivial⟩
  exact poX (.head _) rfl hR (all_nil) (all_nil) (all_cons ⟨[s5, 7, s2], ⟨sE_V rfl, sE_k _ _, sE_V rfl, trivial⟩, (show roG (MT hp) (nmM hp) (hI hp 275 0) (hI hp 275 1) s5 (7 : Int) s2 from ron_go (MT_ok hO) f0 (ron_k (MT_ok hO) f0 f1 (by omega) (by omega) (by omega)) (by omega) (roNe_7 (by omega)))⟩ (all_nil))
theorem rl671 : ruOk fFS gR671 := by
  intro r hp hO hN hH
  obtain ⟨s0, s1, s2, s3, s4, s5, s6, s7, s8, rfl⟩ := len9 (show r.length = 9 from hN.1)
  have hR := hN.2.1.1
  have hIv : ∀ q ∈ ([(0, .negSucc 2147483647, .ofNat 2147483647), (1, .ofNat 5, .ofNat 5), (2, .negSucc 2147483647, .ofNat 2147483647), (3, .ofNat 2, .ofNat 2), (4, .negSucc 2147483647, .ofNat 2147483647), (5, .negSucc 2147483647, .ofNat 2147483647), (6, .negSucc 2147483647, .ofNat 2147483647), (7, .negSucc 2147483647, .ofNat 2147483647), (8, .negSucc 2147483647, .ofNat 2147483647)] : sIv), ∃ x, ([s0, s1, s2, s3, s4, s5, s6, s7, s8] : List Int)[q.1]? = some x ∧ q.2.1 ≤ x ∧ x ≤ q.2.2 := hN.2.1.2
  have b1 : (5 : Int) ≤ s1 ∧ s1 ≤ (5 : Int) := ivX (q := (1, .ofNat 5, .ofNat 5)) (y := s1) (hIv _ (.tail _ (.head _))) rfl
  have b3 : (2 : Int) ≤ s3 ∧ s3 ≤ (2 : Int) := ivX (q := (3, .ofNat 2, .ofNat 2)) (y := s3) (hIv _ (.tail _ (.tail _ (.tail _ (.head _))))) rfl
  have hCs : ∀ c ∈ ([(.ofNat 0, [(.negSucc 0, 6), (.ofNat 1, 7)]), (.ofNat 0, [(.ofNat 1, 6), (.negSucc 0, 8)])] : List sLn), ∃ x, sE [s0, s1, s2, s3, s4, s5, s6, s7, s8] c = some x ∧ x ≤ 0 := hN.2.2.1
  have c0 : ((0 : Int) + ((-1 : Int) * s6 + ((1 : Int) * s7 + 0))) ≤ 0 := csX (hCs _ (.head _)) rfl
  have c1 : ((0 : Int) + ((1 : Int) * s6 + ((-1 : Int) * s8 + 0))) ≤ 0 := csX (hCs _ (.tail _ (.head _))) rfl
  have hFc : ∀ q ∈ ([(250, [(.ofNat 0, [(.ofNat 1, 0)]), (.ofNat 0, [(.ofNat 1, 1)]), (.ofNat 0, [(.ofNat 1, 2)]), (.ofNat 0, [(.ofNat 1, 3)]), (.ofNat 0, [(.ofNat 1, 4)]), (.ofNat 0, [(.ofNat 1, 5)]), (.ofNat 0, [(.ofNat 1, 6)])]), (254, [(.ofNat 0, [(.ofNat 1, 0)]), (.ofNat 0, [(.ofNat 1, 7)]), (.ofNat 0, [(.ofNat 1, 8)])])] : List sFc), fcOk fFS [s0, s1, s2, s3, s4, s5, s6, s7, s8] hp q := hH.2
  have f0 : roH (MT hp) (nmM hp) (hI hp 275 0) (hI hp 275 1) s0 s1 s2 s3 s4 s5 s6 := fcX (ys := [s0, s1, s2, s3, s4, s5, s6]) (hFc _ (.head _)) ⟨sE_V rfl, sE_V rfl, sE_V rfl, sE_V rfl, sE_V rfl, sE_V rfl, sE_V rfl, trivial⟩
  have f1 : roB (MT hp) (nmM hp) (hI hp 275 0) (hI hp 275 1) s0 s7 s8 := fcX (ys := [s0, s7, s8]) (hFc _ (.tail _ (.head _))) ⟨sE_V rfl, sE_V rfl, sE_V rfl, trivial⟩
  exact poX (.head _) rfl hR (all_nil) (all_nil) (all_cons ⟨[s5, 6, s2], ⟨sE_V rfl, sE_k _ _, sE_V rfl, trivial⟩, (show roG (MT hp) (nmM hp) (hI hp 275 0) (hI hp 275 1) s5 (6 : Int) s2 from ron_go (MT_ok hO) f0 (ron_k (MT_ok hO) f0 f1 (by omega) (by omega) (by omega)) (by omega) (roNe_6 (by omega)))⟩ (all_nil))
theorem rl672 : ruOk fFS gR672 := by
  intro r hp hO hN hH
  obtain ⟨s0, s1, s2, s3, s4, s5, s6, s7, s8, rfl⟩ := len9 (show r.length = 9 from hN.1)
  have hR := hN.2.1.1
  have hIv : ∀ q ∈ ([(0, .negSucc 2147483647, .ofNat 2147483647), (1, .ofNat 6, .ofNat 6), (2, .negSucc 2147483647, .ofNat 2147483647), (3, .ofNat 2, .ofNat 2), (4, .negSucc 2147483647, .ofNat 2147483647), (5, .negSucc 2147483647, .ofNat 2147483647), (6, .negSucc 2147483647, .ofNat 2147483647), (7, .negSucc 2147483647, .ofNat 2147483647), (8, .negSucc 2147483647, .ofNat 2147483647)] : sIv), ∃ x, ([s0, s1, s2, s3, s4, s5, s6, s7, s8] : List Int)[q.1]? = some x ∧ q.2.1 ≤ x ∧ x ≤ q.2.2 := hN.2.1.2
  have b1 : (6 : Int) ≤ s1 ∧ s1 ≤ (6 : Int) := ivX (q := (1, .ofNat 6, .ofNat 6)) (y := s1) (hIv _ (.tail _ (.head _))) rfl
  have b3 : (2 : Int) ≤ s3 ∧ s3 ≤ (2 : Int) := ivX (q := (3, .ofNat 2, .ofNat 2)) (y := s3) (hIv _ (.tail _ (.tail _ (.tail _ (.head _))))) rfl
  have hCs : ∀ c ∈ ([(.ofNat 0, [(.negSucc 0, 6), (.ofNat 1, 7)]), (.ofNat 0, [(.ofNat 1, 6), (.negSucc 0, 8)])] : List sLn), ∃ x, sE [s0, s1, s2, s3, s4, s5, s6, s7, s8] c = some x ∧ x ≤ 0 := hN.2.2.1
  have c0 : ((0 : Int) + ((-1 : Int) * s6 + ((1 : Int) * s7 + 0))) ≤ 0 := csX (hCs _ (.head _)) rfl
  have c1 : ((0 : Int) + ((1 : Int) * s6 + ((-1 : Int) * s8 + 0))) ≤ 0 := csX (hCs _ (.tail _ (.head _))) rfl
  have hFc : ∀ q ∈ ([(250, [(.ofNat 0, [(.ofNat 1, 0)]), (.ofNat 0, [(.ofNat 1, 1)]), (.ofNat 0, [(.ofNat 1, 2)]), (.ofNat 0, [(.ofNat 1, 3)]), (.ofNat 0, [(.ofNat 1, 4)]), (.ofNat 0, [(.ofNat 1, 5)]), (.ofNat 0, [(.ofNat 1, 6)])]), (254, [(.ofNat 0, [(.ofNat 1, 0)]), (.ofNat 0, [(.ofNat 1, 7)]), (.ofNat 0, [(.ofNat 1, 8)])])] : List sFc), fcOk fFS [s0, s1, s2, s3, s4, s5, s6, s7, s8] hp q := hH.2
  have f0 : roH (MT hp) (nmM hp) (hI hp 275 0) (hI hp 275 1) s0 s1 s2 s3 s4 s5 s6 := fcX (ys := [s0, s1, s2, s3, s4, s5, s6]) (hFc _ (.head _)) ⟨sE_V rfl, sE_V rfl, sE_V rfl, sE_V rfl, sE_V rfl, sE_V rfl, sE_V rfl, trivial⟩
  have f1 : roB (MT hp) (nmM hp) (hI hp 275 0) (hI hp 275 1) s0 s7 s8 := fcX (ys := [s0, s7, s8]) (hFc _ (.tail _ (.head _))) ⟨sE_V rfl, sE_V rfl, sE_V rfl, trivial⟩
  exact poX (.head _) rfl hR (all_nil) (all_nil) (all_cons ⟨[s5, 7, s2], ⟨sE_V rfl, sE_k _ _, sE_V rfl, trivial⟩, (show roG (MT hp) (nmM hp) (hI hp 275 0) (hI hp 275 1) s5 (7 : Int) s2 from ron_go (MT_ok hO) f0 (ron_k (MT_ok hO) f0 f1 (by omega) (by omega) (by omega)) (by omega) (roNe_7 (by omega)))⟩ (all_nil))
theorem rl673 : ruOk fFS gR673 := by
  intro r hp hO hN hH
  obtain ⟨s0, s1, rfl⟩ := len2 (show r.length = 2 from hN.1)
  have hR := hN.2.1.1
  have hIv : ∀ q ∈ ([(0, .negSucc 2147483647, .ofNat 2147483647), (1, .ofNat 1, .ofNat 9)] : sIv), ∃ x, ([s0, s1] : List Int)[q.1]? = some x ∧ q.2.1 ≤ x ∧ x ≤ q.2.2 := hN.2.1.2
  have b1 : (1 : Int) ≤ s1 ∧ s1 ≤ (9 : Int) := ivX (q := (1, .ofNat 1, .ofNat 9)) (y := s1) (hIv _ (.tail _ (.head _))) rfl
  have hRf : ∀ q ∈ ([((81, .ofNat 276, []), (.ofNat 6, []), 1, .ofNat 0, [(.ofNat 1, 0)]), ((81, .ofNat 276, []), (.ofNat 250, [(.ofNat 1, 0)]), 1, .ofNat 0, [(.ofNat 1, 1)])] : List sRf), rfOk [s0, s1] hp q := hH.1
  have h0 : hI hp 276 6 = s0 := rfI0 (hRf _ (.head _)) (sE_k _ _) (sE_k _ _) (sE_V rfl)
  have y0 : (0 : Int) ≤ s0 ∧ s0 ≤ (8 : Int) := by rw [← h0]; exact hI_ty hO (by decide) rfl
  obtain ⟨i1, e1, l1, h1⟩ := rfI (xv := s1) (iv := (s0 + 250)) (hRf _ (.tail _ (.head _))) (sE_k _ _) (sEv (y' := ((250 : Int) + ((1 : Int) * s0 + 0))) rfl (by omega)) (sE_V rfl)
  have l1 : i1 < 401 := l1
  have h1 : hI hp 276 i1 = s1 := h1
  have hFc : ∀ q ∈ ([(6, [(.ofNat 0, [(.ofNat 1, 0)])])] : List sFc), fcOk fFS [s0, s1] hp q := hH.2
  have f0 : fCh 276 250 s0 hp := fcX (ys := [s0]) (hFc _ (.head _)) ⟨sE_V rfl, trivial⟩
  exact poX (.head _) rfl hR (all_nil) (all_nil) (all_cons ⟨[(s0 + 1)], ⟨sEv (y' := ((1 : Int) + ((1 : Int) * s0 + 0))) rfl (by omega), trivial⟩, (show fCh 276 250 (s0 + 1) hp from ch_add f0 h1 (by omega) (by omega) (by omega))⟩ (all_nil))
theorem rl674 : ruOk fFS gR674 := by
  intro r hp hO hN hH
  obtain ⟨s0, s1, s2, s3, s4, s5, s6, s7, s8, s9, s10, s11, s12, s13, rfl⟩ := len14 (show r.length = 14 from hN.1)
  have hR := hN.2.1.1
  have hIv : ∀ q ∈ ([(0, .negSucc 2147483647, .ofNat 2147483647), (1, .negSucc 2147483647, .ofNat 2147483647), (2, .negSucc 2147483647, .ofNat 2147483647), (3, .negSucc 2147483647, .ofNat 2147483647), (4, .negSucc 2147483647, .ofNat 2147483647), (5, .negSucc 2147483647, .ofNat 2147483647), (6, .ofNat 0, .ofNat 7), (7, .negSucc 2147483647, .ofNat 2147483647), (8, .negSucc 2147483647, .ofNat 2147483647), (9, .negSucc 2147483647, .ofNat 2147483647), (10, .negSucc 2147483647, .ofNat 2147483647), (11, .negSucc 2147483647, .ofNat 2147483647), (12, .negSucc 2147483647, .ofNat 2147483647), (13, .negSucc 2147483647, .ofNat 2147483647)] : sIv), ∃ x, ([s0, s1, s2, s3, s4, s5, s6, s7, s8, s9, s10, s11, s12, s13] : List Int)[q.1]? = some x ∧ q.2.1 ≤ x ∧ x ≤ q.2.2 := hN.2.1.2
  have b6 : (0 : Int) ≤ s6 ∧ s6 ≤ (7 : Int) := ivX (q := (6, .ofNat 0, .ofNat 7)) (y := s6) (hIv _ (.tail _ (.tail _ (.tail _ (.tail _ (.tail _ (.tail _ (.head _)))))))) rfl
  have hFc : ∀ q ∈ ([(140, [(.ofNat 0, [(.ofNat 1, 0)]), (.ofNat 0, [(.ofNat 1, 1)]), (.ofNat 0, [(.ofNat 1, 2)])]), (125, [(.ofNat 0, [(.ofNat 1, 0)]), (.ofNat 0, [(.ofNat 1, 3)]), (.ofNat 0, [(.ofNat 1, 4)]), (.ofNat 0, [(.ofNat 1, 5)]), (.ofNat 0, [(.ofNat 1, 6)]), (.ofNat 0, [(.ofNat 1, 7)]), (.ofNat 0, [(.ofNat 1, 8)]), (.ofNat 0, [(.ofNat 1, 9)]), (.ofNat 0, [(.ofNat 1, 10)]), (.ofNat 0, [(.ofNat 1, 11)]), (.ofNat 0, [(.ofNat 1, 12)])]), (130, [(.ofNat 0, [(.ofNat 1, 0)]), (.ofNat 0, [(.ofNat 1, 13)])]), (143, [(.ofNat 0, [(.ofNat 1, 3)]), (.ofNat 0, [(.ofNat 1, 0)])]), (145, [(.ofNat 0, [(.ofNat 1, 4)]), (.ofNat 0, [(.ofNat 1, 0)])]), (147, [(.ofNat 0, [(.ofNat 1, 5)]), (.ofNat 0, [(.ofNat 1, 0)])]), (154, [(.ofNat 0, [(.ofNat 1, 0)])]), (159, [(.ofNat 0, [(.ofNat 1, 7)]), (.ofNat 0, [(.ofNat 1, 0)])]), (162, [(.ofNat 0, [(.ofNat 1, 0)])]), (166, [(.ofNat 0, [(.ofNat 1, 6)]), (.ofNat 0, [(.ofNat 1, 0)])]), (176, [(.ofNat 0, [(.ofNat 1, 6)]), (.ofNat 0, [(.ofNat 1, 1)]), (.ofNat 0, [(.ofNat 1, 2)])])] : List sFc), fcOk fFS [s0, s1, s2, s3, s4, s5, s6, s7, s8, s9, s10, s11, s12, s13] hp q := hH.2
  have f0 : dl (MT hp) s0 (fun D => aWi D s1 s2) := fcX (ys := [s0, s1, s2]) (hFc _ (.head _)) ⟨sE_V rfl, sE_V rfl, sE_V rfl, trivial⟩
  have f1 : CT (MT hp) s0 s3 s4 s5 s6 s7 s8 s9 s10 s11 s12 := fcX (ys := [s0, s3, s4, s5, s6, s7, s8, s9, s10, s11, s12]) (hFc _ (.tail _ (.head _))) ⟨sE_V rfl, sE_V rfl, sE_V rfl, sE_V rfl, sE_V rfl, sE_V rfl, sE_V rfl, sE_V rfl, sE_V rfl, sE_V rfl, sE_V rfl, trivial⟩
  have f2 : dF (MT hp) s0 (fun D => bP s13 (szl D)) := fcX (ys := [s0, s13]) (hFc _ (.tail _ (.tail _ (.head _)))) ⟨sE_V rfl, sE_V rfl, trivial⟩
  have f3 : dF (MT hp) s0 (fun D => s3 = (dOw D).length ∧ ∀ i : Nat, i < 4 → (i : Int) < s3 → hL hp 278 (12 + i) = cd 256 0 (nm D (0 + i))) := fcX (ys := [s3, s0]) (hFc _ (.tail _ (.tail _ (.tail _ (.head _))))) ⟨sE_V rfl, sE_V rfl, trivial⟩
  have f4 : dF (MT hp) s0 (fun D => s4 = (dSt D).length ∧ ∀ i : Nat, i < 3 → (i : Int) < s4 → hL hp 278 (16 + i) = cd 256 0 (nm D (4 + i))) := fcX (ys := [s4, s0]) (hFc _ (.tail _ (.tail _ (.tail _ (.tail _ (.head _)))))) ⟨sE_V rfl, sE_V rfl, trivial⟩
  have f5 : dF (MT hp) s0 (fun D => s5 = (dKn D).length ∧ ∀ i : Nat, i < 5 → (i : Int) < s5 → hL hp 278 (19 + i) = cd 256 0 (nm D (7 + i))) := fcX (ys := [s5, s0]) (hFc _ (.tail _ (.tail _ (.tail _ (.tail _ (.tail _ (.head _))))))) ⟨sE_V rfl, sE_V rfl, trivial⟩
  have f6 : dF (MT hp) s0 (fun D => ∀ p : Nat, p < 100 → (fM hp p ↔ ¬ tkI D p)) := fcX (ys := [s0]) (hFc _ (.tail _ (.tail _ (.tail _ (.tail _ (.tail _ (.tail _ (.head _)))))))) ⟨sE_V rfl, trivial⟩
  have f7 : dF (MT hp) s0 (fun D => s7 = (dTr D).length ∧ ∀ i : Nat, i < 14 → (i : Int) < s7 → (dTr D)[i]? = some (hI hp 276 (272 + i), hI hp 276 (286 + i))) := fcX (ys := [s7, s0]) (hFc _ (.tail _ (.tail _ (.tail _ (.tail _ (.tail _ (.tail _ (.tail _ (.head _))))))))) ⟨sE_V rfl, sE_V rfl, trivial⟩
  have f8 : dF (MT hp) s0 (fun D => ∀ p : Nat, p < 100 → (hI hp 276 (300 + p) = 1 ↔ wlI D p)) := fcX (ys := [s0]) (hFc _ (.tail _ (.tail _ (.tail _ (.tail _ (.tail _ (.tail _ (.tail _ (.tail _ (.head _)))))))))) ⟨sE_V rfl, trivial⟩
  have f9 : dF (MT hp) s0 (fun D => s6 = (dWi D).length ∧ ∀ i : Nat, i < 8 → (i : Int) < s6 → (dWi D)[i]? = some (hI hp 276 (234 + i), hI hp 276 (242 + i))) := fcX (ys := [s6, s0]) (hFc _ (.tail _ (.tail _ (.tail _ (.tail _ (.tail _ (.tail _ (.tail _ (.tail _ (.tail _ (.head _))))))))))) ⟨sE_V rfl, sE_V rfl, trivial⟩
  have f10 : ∃ i : Nat, i < 8 ∧ s6 = (i : Int) ∧ hI hp 276 (234 + i) = s1 ∧ hI hp 276 (242 + i) = s2 := fcX (ys := [s6, s1, s2]) (hFc _ (.tail _ (.tail _ (.tail _ (.tail _ (.tail _ (.tail _ (.tail _ (.tail _ (.tail _ (.tail _ (.head _)))))))))))) ⟨sE_V rfl, sE_V rfl, sE_V rfl, trivial⟩
  have hd := f0
  obtain ⟨it, it1, it2, itx, ity⟩ := f10
  exact poX (.head _) rfl hR (all_nil) (all_nil) (all_cons ⟨[(s0 + 1), s3, s4, s5, (s6 + 1), s7, s8, s9, s10, s11, s12], ⟨sEv (y' := ((1 : Int) + ((1 : Int) * s0 + 0))) rfl (by omega), sE_V rfl, sE_V rfl, sE_V rfl, sEv (y' := ((1 : Int) + ((1 : Int) * s6 + 0))) rfl (by omega), sE_V rfl, sE_V rfl, sE_V rfl, sE_V rfl, sE_V rfl, sE_V rfl, trivial⟩, (show CT (MT hp) (s0 + 1) s3 s4 s5 (s6 + 1) s7 s8 s9 s10 s11 s12 from carry (MT_ok hO) hd f1 (fun D h => ct_aWi (by omega) h) (by omega))⟩ (all_cons ⟨[(s0 + 1), s13], ⟨sEv (y' := ((1 : Int) + ((1 : Int) * s0 + 0))) rfl (by omega), sE_V rfl, trivial⟩, (show dF (MT hp) (s0 + 1) (fun D => bP s13 (szl D)) from carry (MT_ok hO) hd f2 (fun D h => h) (by omega))⟩ (all_cons ⟨[s3, (s0 + 1)], ⟨sE_V rfl, sEv (y' := ((1 : Int) + ((1 : Int) * s0 + 0))) rfl (by omega), trivial⟩, (show dF (MT hp) (s0 + 1) (fun D => s3 = (dOw D).length ∧ ∀ i : Nat, i < 4 → (i : Int) < s3 → hL hp 278 (12 + i) = cd 256 0 (nm D (0 + i))) from carry (MT_ok hO) hd f3 (fun D h => h) (by omega))⟩ (all_cons ⟨[s4, (s0 + 1)], ⟨sE_V rfl, sEv (y' := ((1 : Int) + ((1 : Int) * s0 + 0))) rfl (by omega), trivial⟩, (show dF (MT hp) (s0 + 1) (fun D => s4 = (dSt D).length ∧ ∀ i : Nat, i < 3 → (i : Int) < s4 → hL hp 278 (16 + i) = cd 256 0 (nm D (4 + i))) from carry (MT_ok hO) hd f4 (fun D h => h) (by omega))⟩ (all_cons ⟨[s5, (s0 + 1)], ⟨sE_V rfl, sEv (y' := ((1 : Int) + ((1 : Int) * s0 + 0))) rfl (by omega), trivial⟩, (show dF (MT hp) (s0 + 1) (fun D => s5 = (dKn D).length ∧ ∀ i : Nat, i < 5 → (i : Int) < s5 → hL hp 278 (19 + i) = cd 256 0 (nm D (7 + i))) from carry (MT_ok hO) hd f5 (fun D h => h) (by omega))⟩ (all_cons ⟨[(s0 + 1)], ⟨sEv (y' := ((1 : Int) + ((1 : Int) * s0 + 0))) rfl (by omega), trivial⟩, (show dF (MT hp) (s0 + 1) (fun D => ∀ p : Nat, p < 100 → (fM hp p ↔ ¬ tkI D p)) from carry (MT_ok hO) hd f6 (fun D h => h) (by omega))⟩ (all_cons ⟨[s7, (s0 + 1)], ⟨sE_V rfl, sEv (y' := ((1 : Int) + ((1 : Int) * s0 + 0))) rfl (by omega), trivial⟩, (show dF (MT hp) (s0 + 1) (fun D => s7 = (dTr D).length ∧ ∀ i : Nat, i < 14 → (i : Int) < s7 → (dTr D)[i]? = some (hI hp 276 (272 + i), hI hp 276 (286 + i))) from carry (MT_ok hO) hd f7 (fun D h => h) (by omega))⟩ (all_cons ⟨[(s0 + 1)], ⟨sEv (y' := ((1 : Int) + ((1 : Int) * s0 + 0))) rfl (by omega), trivial⟩, (show dF (MT hp) (s0 + 1) (fun D => ∀ p : Nat, p < 100 → (hI hp 276 (300 + p) = 1 ↔ wlI D p)) from carry (MT_ok hO) hd f8 (fun D h => h) (by omega))⟩ (all_cons ⟨[(s6 + 1), (s0 + 1)], ⟨sEv (y' := ((1 : Int) + ((1 : Int) * s6 + 0))) rfl (by omega), sEv (y' := ((1 : Int) + ((1 : Int) * s0 + 0))) rfl (by omega), trivial⟩, (show dF (MT hp) (s0 + 1) (fun D => (s6 + 1) = (dWi D).length ∧ ∀ i : Nat, i < 8 → (i : Int) < (s6 + 1) → (dWi D)[i]? = some (hI hp 276 (234 + i), hI hp 276 (242 + i))) from carry (MT_ok hO) hd f9 (fun D h => lst_add (i0 := it) (i1 := it) h itx ity (by omega) (by omega) (by omega)) (by omega))⟩ (all_nil))))))))))
theorem rl675 : ruOk fFS gR675 := by
  intro r hp hO hN hH
  obtain ⟨s0, s1, s2, s3, s4, s5, s6, s7, s8, s9, s10, s11, s12, s13, s14, s15, s16, s17, s18, s19, s20, s21, s22, rfl⟩ := len23 (show r.length = 23 from hN.1)
  have hR := hN.2.1.1
  have hIv : ∀ q ∈ ([(0, .negSucc 2147483647, .ofNat 2147483647), (1, .ofNat 0, .ofNat 0), (2, .negSucc 2147483647, .ofNat 2147483647), (3, .negSucc 2147483647, .ofNat 2147483647), (4, .negSucc 2147483647, .ofNat 2147483647), (5, .negSucc 2147483647, .ofNat 2147483647), (6, .negSucc 2147483647, .ofNat 2147483647), (7, .negSucc 2147483647, .ofNat 2147483647), (8, .negSucc 2147483647, .ofNat 2147483647), (9, .ofNat 1, .ofNat 1), (10, .negSucc 2147483647, .ofNat 2147483647), (11, .negSucc 2147483647, .ofNat 2147483647), (12, .ofNat 5, .ofNat 5), (13, .negSucc 2147483647, .ofNat 2147483647), (14, .negSucc 2147483647, .ofNat 2147483647), (15, .negSucc 2147483647, .ofNat 2147483647), (16, .negSucc 2147483647, .ofNat 2147483647), (17, .ofNat 14, .ofNat 14), (18, .negSucc 2147483647, .ofNat 2147483647), (19, .negSucc 2147483647, .ofNat 2147483647), (20, .negSucc 2147483647, .ofNat 2147483647), (21, .negSucc 2147483647, .ofNat 2147483647), (22, .negSucc 2147483647, .ofNat 2147483647)] : sIv), ∃ x, ([s0, s1, s2, s3, s4, s5, s6, s7, s8, s9, s10, s11, s12, s13, s14, s15, s16, s17, s18, s19, s20, s21, s22] : List Int)[q.1]? = some x ∧ q.2.1 ≤ x ∧ x ≤ q.2.2 := hN.2.1.2
  have b1 : (0 : Int) ≤ s1 ∧ s1 ≤ (0 : Int) := ivX (q := (1, .ofNat 0, .ofNat 0)) (y := s1) (hIv _ (.tail _ (.head _))) rfl
  have b9 : (1 : Int) ≤ s9 ∧ s9 ≤ (1 : Int) := ivX (q := (9, .ofNat 1, .ofNat 1)) (y := s9) (hIv _ (.tail _ (.tail _ (.tail _ (.tail _ (.tail _ (.tail _ (.tail _ (.tail _ (.tail _ (.head _))))))))))) rfl
  have b12 : (5 : Int) ≤ s12 ∧ s12 ≤ (5 : Int) := ivX (q := (12, .ofNat 5, .ofNat 5)) (y := s12) (hIv _ (.tail _ (.tail _ (.tail _ (.tail _ (.tail _ (.tail _ (.tail _ (.tail _ (.tail _ (.tail _ (.tail _ (.tail _ (.head _)))))))))))))) rfl
  have b17 : (14 : Int) ≤ s17 ∧ s17 ≤ (14 : Int) := ivX (q := (17, .ofNat 14, .ofNat 14)) (y := s17) (hIv _ (.tail _ (.tail _ (.tail _ (.tail _ (.tail _ (.tail _ (.tail _ (.tail _ (.tail _ (.tail _ (.tail _ (.tail _ (.tail _ (.tail _ (.tail _ (.tail _ (.tail _ (.head _))))))))))))))))))) rfl
  have hFc : ∀ q ∈ ([(119, [(.ofNat 0, [(.ofNat 1, 0)]), (.ofNat 0, [(.ofNat 1, 1)]), (.ofNat 0, [(.ofNat 1, 2)]), (.ofNat 0, [(.ofNat 1, 3)]), (.ofNat 0, [(.ofNat 1, 4)]), (.ofNat 0, [(.ofNat 1, 5)]), (.ofNat 0, [(.ofNat 1, 6)]), (.ofNat 0, [(.ofNat 1, 7)]), (.ofNat 0, [(.ofNat 1, 8)]), (.ofNat 0, [(.ofNat 1, 9)]), (.ofNat 0, [(.ofNat 1, 10)]), (.ofNat 0, [(.ofNat 1, 11)]), (.ofNat 0, [(.ofNat 1, 12)])]), (125, [(.ofNat 0, [(.ofNat 1, 2)]), (.ofNat 0, [(.ofNat 1, 13)]), (.ofNat 0, [(.ofNat 1, 14)]), (.ofNat 0, [(.ofNat 1, 15)]), (.ofNat 0, [(.ofNat 1, 16)]), (.ofNat 0, [(.ofNat 1, 17)]), (.ofNat 0, [(.ofNat 1, 18)]), (.ofNat 0, [(.ofNat 1, 19)]), (.ofNat 0, [(.ofNat 1, 20)]), (.ofNat 0, [(.ofNat 1, 21)]), (.ofNat 0, [(.ofNat 1, 22)])])] : List sFc), fcOk fFS [s0, s1, s2, s3, s4, s5, s6, s7, s8, s9, s10, s11, s12, s13, s14, s15, s16, s17, s18, s19, s20, s21, s22] hp q := hH.2
  have f0 : Hq (MT hp) s0 s1 s2 s3 s4 s5 s6 s7 s8 s9 s10 s11 s12 := fcX (ys := [s0, s1, s2, s3, s4, s5, s6, s7, s8, s9, s10, s11, s12]) (hFc _ (.head _)) ⟨sE_V rfl, sE_V rfl, sE_V rfl, sE_V rfl, sE_V rfl, sE_V rfl, sE_V rfl, sE_V rfl, sE_V rfl, sE_V rfl, sE_V rfl, sE_V rfl, sE_V rfl, trivial⟩
  have f1 : CT (MT hp) s2 s13 s14 s15 s16 s17 s18 s19 s20 s21 s22 := fcX (ys := [s2, s13, s14, s15, s16, s17, s18, s19, s20, s21, s22]) (hFc _ (.tail _ (.head _))) ⟨sE_V rfl, sE_V rfl, sE_V rfl, sE_V rfl, sE_V rfl, sE_V rfl, sE_V rfl, sE_V rfl, sE_V rfl, sE_V rfl, sE_V rfl, trivial⟩
  exact poX (.head _) rfl hR (all_nil) (all_nil) (all_cons ⟨[4, s10], ⟨sE_k _ _, sE_V rfl, trivial⟩, (show RS (MT hp) (4 : Int) s10 from ln_f5 (MT_ok hO) f0 (dF_mp f1 (fun D h => by unfold ctP at h; omega)) (by omega) (by omega) (by omega))⟩ (all_nil))
theorem rl676 : ruOk fFS gR676 := by
  intro r hp hO hN hH
  obtain ⟨s0, s1, s2, s3, s4, s5, s6, s7, s8, s9, s10, s11, s12, s13, s14, s15, s16, s17, s18, s19, s20, s21, s22, rfl⟩ := len23 (show r.length = 23 from hN.1)
  have hR := hN.2.1.1
  have hIv : ∀ q ∈ ([(0, .negSucc 2147483647, .ofNat 2147483647), (1, .ofNat 0, .ofNat 0), (2, .negSucc 2147483647, .ofNat 2147483647), (3, .negSucc 2147483647, .ofNat 2147483647), (4, .negSucc 2147483647, .ofNat 2147483647), (5, .negSucc 2147483647, .ofNat 2147483647), (6, .negSucc 2147483647, .ofNat 2147483647), (7, .negSucc 2147483647, .ofNat 2147483647), (8, .negSucc 2147483647, .ofNat 2147483647), (9, .ofNat 1, .ofNat 1), (10, .negSucc 2147483647, .ofNat 2147483647), (11, .negSucc 2147483647, .ofNat 2147483647), (12, .ofNat 6, .ofNat 6), (13, .negSucc 2147483647, .ofNat 2147483647), (14, .negSucc 2147483647, .ofNat 2147483647), (15, .negSucc 2147483647, .ofNat 2147483647), (16, .negSucc 2147483647, .ofNat 2147483647), (17, .negSucc 2147483647, .ofNat 2147483647), (18, .ofNat 10, .ofNat 10), (19, .negSucc 2147483647, .ofNat 2147483647), (20, .negSucc 2147483647, .ofNat 2147483647), (21, .negSucc 2147483647, .ofNat 2147483647), (22, .negSucc 2147483647, .ofNat 2147483647)] : sIv), ∃ x, ([s0, s1, s2, s3, s4, s5, s6, s7, s8, s9, s10, s11, s12, s13, s14, s15, s16, s17, s18, s19, s20, s21, s22] : List Int)[q.1]? = some x ∧ q.2.1 ≤ x ∧ x ≤ q.2.2 := hN.2.1.2
  have b1 : (0 : Int) ≤ s1 ∧ s1 ≤ (0 : Int) := ivX (q := (1, .ofNat 0, .ofNat 0)) (y := s1) (hIv _ (.tail _ (.head _))) rfl
  have b9 : (1 : Int) ≤ s9 ∧ s9 ≤ (1 : Int) := ivX (q := (9, .ofNat 1, .ofNat 1)) (y := s9) (hIv _ (.tail _ (.tail _ (.tail _ (.tail _ (.tail _ (.tail _ (.tail _ (.tail _ (.tail _ (.head _))))))))))) rfl
  have b12 : (6 : Int) ≤ s12 ∧ s12 ≤ (6 : Int) := ivX (q := (12, .ofNat 6, .ofNat 6)) (y := s12) (hIv _ (.tail _ (.tail _ (.tail _ (.tail _ (.tail _ (.tail _ (.tail _ (.tail _ (.tail _ (.tail _ (.tail _ (.tail _ (.head _)))))))))))))) rfl
  have b18 : (10 : Int) ≤ s18 ∧ s18 ≤ (10 : Int) := ivX (q := (18, .ofNat 10, .ofNat 10)) (y := s18) (hIv _ (.tail _ (.tail _ (.tail _ (.tail _ (.tail _ (.tail _ (.tail _ (.tail _ (.tail _ (.tail _ (.tail _ (.tail _ (.tail _ (.tail _ (.tail _ (.tail _ (.tail _ (.tail _ (.head _)))))))))))))))))))) rfl
  have hFc : ∀ q ∈ ([(119, [(.ofNat 0, [(.ofNat 1, 0)]), (.ofNat 0, [(.ofNat 1, 1)]), (.ofNat 0, [(.ofNat 1, 2)]), (.ofNat 0, [(.ofNat 1, 3)]), (.ofNat 0, [(.ofNat 1, 4)]), (.ofNat 0, [(.ofNat 1, 5)]), (.ofNat 0, [(.ofNat 1, 6)]), (.ofNat 0, [(.ofNat 1, 7)]), (.ofNat 0, [(.ofNat 1, 8)]), (.ofNat 0, [(.ofNat 1, 9)]), (.ofNat 0, [(.ofNat 1, 10)]), (.ofNat 0, [(.ofNat 1, 11)]), (.ofNat 0, [(.ofNat 1, 12)])]), (125, [(.ofNat 0, [(.ofNat 1, 2)]), (.ofNat 0, [(.ofNat 1, 13)]), (.ofNat 0, [(.ofNat 1, 14)]), (.ofNat 0, [(.ofNat 1, 15)]), (.ofNat 0, [(.ofNat 1, 16)]), (.ofNat 0, [(.ofNat 1, 17)]), (.ofNat 0, [(.ofNat 1, 18)]), (.ofNat 0, [(.ofNat 1, 19)]), (.ofNat 0, [(.ofNat 1, 20)]), (.ofNat 0, [(.ofNat 1, 21)]), (.ofNat 0, [(.ofNat 1, 22)])])] : List sFc), fcOk fFS [s0, s1, s2, s3, s4, s5, s6, s7, s8, s9, s10, s11, s12, s13, s14, s15, s16, s17, s18, s19, s20, s21, s22] hp q := hH.2
  have f0 : Hq (MT hp) s0 s1 s2 s3 s4 s5 s6 s7 s8 s9 s10 s11 s12 := fcX (ys := [s0, s1, s2, s3, s4, s5, s6, s7, s8, s9, s10, s11, s12]) (hFc _ (.head _)) ⟨sE_V rfl, sE_V rfl, sE_V rfl, sE_V rfl, sE_V rfl, sE_V rfl, sE_V rfl, sE_V rfl, sE_V rfl, sE_V rfl, sE_V rfl, sE_V rfl, sE_V rfl, trivial⟩
  have f1 : CT (MT hp) s2 s13 s14 s15 s16 s17 s18 s19 s20 s21 s22 := fcX (ys := [s2, s13, s14, s15, s16, s17, s18, s19, s20, s21, s22]) (hFc _ (.tail _ (.head _))) ⟨sE_V rfl, sE_V rfl, sE_V rfl, sE_V rfl, sE_V rfl, sE_V rfl, sE_V rfl, sE_V rfl, sE_V rfl, sE_V rfl, sE_V rfl, trivial⟩
  exact poX (.head _) rfl hR (all_nil) (all_nil) (all_cons ⟨[4, s10], ⟨sE_k _ _, sE_V rfl, trivial⟩, (show RS (MT hp) (4 : Int) s10 from ln_f6 (MT_ok hO) f0 (dF_mp f1 (fun D h => by unfold ctP at h; omega)) (by omega) (by omega) (by omega))⟩ (all_nil))
theorem rl677 : ruOk fFS gR677 := by
  intro r hp hO hN hH
  obtain ⟨s0, s1, s2, s3, s4, s5, s6, s7, s8, s9, s10, s11, s12, s13, s14, s15, s16, s17, s18, s19, s20, s21, s22, rfl⟩ := len23 (show r.length = 23 from hN.1)
  have hR := hN.2.1.1
  have hIv : ∀ q ∈ ([(0, .negSucc 2147483647, .ofNat 2147483647), (1, .ofNat 0, .ofNat 0), (2, .negSucc 2147483647, .ofNat 2147483647), (3, .negSucc 2147483647, .ofNat 2147483647), (4, .negSucc 2147483647, .ofNat 2147483647), (5, .negSucc 2147483647, .ofNat 2147483647), (6, .negSucc 2147483647, .ofNat 2147483647), (7, .negSucc 2147483647, .ofNat 2147483647), (8, .negSucc 2147483647, .ofNat 2147483647), (9, .ofNat 1, .ofNat 1), (10, .negSucc 2147483647, .ofNat 2147483647), (11, .negSucc 2147483647, .ofNat 2147483647), (12, .ofNat 5, .ofNat 5), (13, .negSucc 2147483647, .ofNat 2147483647), (14, .negSucc 2147483647, .ofNat 2147483647), (15, .negSucc 2147483647, .ofNat 2147483647), (16, .negSucc 2147483647, .ofNat 2147483647), (17, .ofNat 0, .ofNat 13), (18, .negSucc 2147483647, .ofNat 2147483647), (19, .negSucc 2147483647, .ofNat 2147483647), (20, .negSucc 2147483647, .ofNat 2147483647), (21, .negSucc 2147483647, .ofNat 2147483647), (22, .negSucc 2147483647, .ofNat 2147483647)] : sIv), ∃ x, ([s0, s1, s2, s3, s4, s5, s6, s7, s8, s9, s10, s11, s12, s13, s14, s15, s16, s17, s18, s19, s20, s21, s22] : List Int)[q.1]? = some x ∧ q.2.1 ≤ x ∧ x ≤ q.2.2 := hN.2.1.2
  have b1 : (0 : Int) ≤ s1 ∧ s1 ≤ (0 : Int) := ivX (q := (1, .ofNat 0, .ofNat 0)) (y := s1) (hIv _ (.tail _ (.head _))) rfl
  have b9 : (1 : Int) ≤ s9 ∧ s9 ≤ (1 : Int) := ivX (q := (9, .ofNat 1, .ofNat 1)) (y := s9) (hIv _ (.tail _ (.tail _ (.tail _ (.tail _ (.tail _ (.tail _ (.tail _ (.tail _ (.tail _ (.head _))))))))))) rfl
  have b12 : (5 : Int) ≤ s12 ∧ s12 ≤ (5 : Int) := ivX (q := (12, .ofNat 5, .ofNat 5)) (y := s12) (hIv _ (.tail _ (.tail _ (.tail _ (.tail _ (.tail _ (.tail _ (.tail _ (.tail _ (.tail _ (.tail _ (.tail _ (.tail _ (.head _)))))))))))))) rfl
  have b17 : (0 : Int) ≤ s17 ∧ s17 ≤ (13 : Int) := ivX (q := (17, .ofNat 0, .ofNat 13)) (y := s17) (hIv _ (.tail _ (.tail _ (.tail _ (.tail _ (.tail _ (.tail _ (.tail _ (.tail _ (.tail _ (.tail _ (.tail _ (.tail _ (.tail _ (.tail _ (.tail _ (.tail _ (.tail _ (.head _))))))))))))))))))) rfl
  have hFc : ∀ q ∈ ([(119, [(.ofNat 0, [(.ofNat 1, 0)]), (.ofNat 0, [(.ofNat 1, 1)]), (.ofNat 0, [(.ofNat 1, 2)]), (.ofNat 0, [(.ofNat 1, 3)]), (.ofNat 0, [(.ofNat 1, 4)]), (.ofNat 0, [(.ofNat 1, 5)]), (.ofNat 0, [(.ofNat 1, 6)]), (.ofNat 0, [(.ofNat 1, 7)]), (.ofNat 0, [(.ofNat 1, 8)]), (.ofNat 0, [(.ofNat 1, 9)]), (.ofNat 0, [(.ofNat 1, 10)]), (.ofNat 0, [(.ofNat 1, 11)]), (.ofNat 0, [(.ofNat 1, 12)])]), (125, [(.ofNat 0, [(.ofNat 1, 2)]), (.ofNat 0, [(.ofNat 1, 13)]), (.ofNat 0, [(.ofNat 1, 14)]), (.ofNat 0, [(.ofNat 1, 15)]), (.ofNat 0, [(.ofNat 1, 16)]), (.ofNat 0, [(.ofNat 1, 17)]), (.ofNat 0, [(.ofNat 1, 18)]), (.ofNat 0, [(.ofNat 1, 19)]), (.ofNat 0, [(.ofNat 1, 20)]), (.ofNat 0, [(.ofNat 1, 21)]), (.ofNat 0, [(.ofNat 1, 22)])])] : List sFc), fcOk fFS [s0, s1, s2, s3, s4, s5, s6, s7, s8, s9, s10, s11, s12, s13, s14, s15, s16, s17, s18, s19, s20, s21, s22] hp q := hH.2
  have f0 : Hq (MT hp) s0 s1 s2 s3 s4 s5 s6 s7 s8 s9 s10 s11 s12 := fcX (ys := [s0, s1, s2, s3, s4, s5, s6, s7, s8, s9, s10, s11, s12]) (hFc _ (.head _)) ⟨sE_V rfl, sE_V rfl, sE_V rfl, sE_V rfl, sE_V rfl, sE_V rfl, sE_V rfl, sE_V rfl, sE_V rfl, sE_V rfl, sE_V rfl, sE_V rfl, sE_V rfl, trivial⟩
  have f1 : CT (MT hp) s2 s13 s14 s15 s16 s17 s18 s19 s20 s21 s22 := fcX (ys := [s2, s13, s14, s15, s16, s17, s18, s19, s20, s21, s22]) (hFc _ (.tail _ (.head _))) ⟨sE_V rfl, sE_V rfl, sE_V rfl, sE_V rfl, sE_V rfl, sE_V rfl, sE_V rfl, sE_V rfl, sE_V rfl, sE_V rfl, sE_V rfl, trivial⟩
  obtain ⟨D, hG, hP⟩ := ln_g5 (P := ctP s13 s14 s15 s16 s17 s18 s19 s20 s21 s22) (MT_ok hO) f0 (dF_mp f1 (fun D h => ⟨by unfold ctP at h; omega, h⟩)) (by omega) (by omega) (by omega)
  exact poX (.head _) rfl hR (all_nil) (all_nil) (all_cons ⟨[s11, 18, s2, 0, 0, 0, 0, 0, 0], ⟨sE_V rfl, sE_k _ _, sE_V rfl, sE_k _ _, sE_k _ _, sE_k _ _, sE_k _ _, sE_k _ _, sE_k _ _, trivial⟩, (show Gq (MT hp) s11 (18 : Int) s2 (0 : Int) (0 : Int) (0 : Int) (0 : Int) (0 : Int) (0 : Int) from ⟨D, hG⟩)⟩ (all_nil))
theorem rl678 : ruOk fFS gR678 := by
  intro r hp hO hN hH
  obtain ⟨s0, s1, s2, s3, s4, s5, s6, s7, s8, s9, s10, s11, s12, s13, s14, s15, s16, s17, s18, s19, s20, s21, s22, rfl⟩ := len23 (show r.length = 23 from hN.1)
  have hR := hN.2.1.1
  have hIv : ∀ q ∈ ([(0, .negSucc 2147483647, .ofNat 2147483647), (1, .ofNat 0, .ofNat 0), (2, .negSucc 2147483647, .ofNat 2147483647), (3, .negSucc 2147483647, .ofNat 2147483647), (4, .negSucc 2147483647, .ofNat 2147483647), (5, .negSucc 2147483647, .ofNat 2147483647), (6, .negSucc 2147483647, .ofNat 2147483647), (7, .negSucc 2147483647, .ofNat 2147483647), (8, .negSucc 2147483647, .ofNat 2147483647), (9, .ofNat 1, .ofNat 1), (10, .negSucc 2147483647, .ofNat 2147483647), (11, .negSucc 2147483647, .ofNat 2147483647), (12, .ofNat 6, .ofNat 6), (13, .negSucc 2147483647, .ofNat 2147483647), (14, .negSucc 2147483647, .ofNat 2147483647), (15, .negSucc 2147483647, .ofNat 2147483647), (16, .negSucc 2147483647, .ofNat 2147483647), (17, .negSucc 2147483647, .ofNat 2147483647), (18, .ofNat 0, .ofNat 9), (19, .negSucc 2147483647, .ofNat 2147483647), (20, .negSucc 2147483647, .ofNat 2147483647), (21, .negSucc 2147483647, .ofNat 2147483647), (22, .negSucc 2147483647, .ofNat 2147483647)] : sIv), ∃ x, ([s0, s1, s2, s3, s4, s5, s6, s7, s8, s9, s10, s11, s12, s13, s14, s15, s16, s17, s18, s19, s20, s21, s22] : List Int)[q.1]? = some x ∧ q.2.1 ≤ x ∧ x ≤ q.2.2 := hN.2.1.2
  have b1 : (0 : Int) ≤ s1 ∧ s1 ≤ (0 : Int) := ivX (q := (1, .ofNat 0, .ofNat 0)) (y := s1) (hIv _ (.tail _ (.head _))) rfl
  have b9 : (1 : Int) ≤ s9 ∧ s9 ≤ (1 : Int) := ivX (q := (9, .ofNat 1, .ofNat 1)) (y := s9) (hIv _ (.tail _ (.tail _ (.tail _ (.tail _ (.tail _ (.tail _ (.tail _ (.tail _ (.tail _ (.head _))))))))))) rfl
  have b12 : (6 : Int) ≤ s12 ∧ s12 ≤ (6 : Int) := ivX (q := (12, .ofNat 6, .ofNat 6)) (y := s12) (hIv _ (.tail _ (.tail _ (.tail _ (.tail _ (.tail _ (.tail _ (.tail _ (.tail _ (.tail _ (.tail _ (.tail _ (.tail _ (.head _)))))))))))))) rfl
  have b18 : (0 : Int) ≤ s18 ∧ s18 ≤ (9 : Int) := ivX (q := (18, .ofNat 0, .ofNat 9)) (y := s18) (hIv _ (.tail _ (.tail _ (.tail _ (.tail _ (.tail _ (.tail _ (.tail _ (.tail _ (.tail _ (.tail _ (.tail _ (.tail _ (.tail _ (.tail _ (.tail _ (.tail _ (.tail _ (.tail _ (.head _)))))))))))))))))))) rfl
  have hFc : ∀ q ∈ ([(119, [(.ofNat 0, [(.ofNat 1, 0)]), (.ofNat 0, [(.ofNat 1, 1)]), (.ofNat 0, [(.ofNat 1, 2)]), (.ofNat 0, [(.ofNat 1, 3)]), (.ofNat 0, [(.ofNat 1, 4)]), (.ofNat 0, [(.ofNat 1, 5)]), (.ofNat 0, [(.ofNat 1, 6)]), (.ofNat 0, [(.ofNat 1, 7)]), (.ofNat 0, [(.ofNat 1, 8)]), (.ofNat 0, [(.ofNat 1, 9)]), (.ofNat 0, [(.ofNat 1, 10)]), (.ofNat 0, [(.ofNat 1, 11)]), (.ofNat 0, [(.ofNat 1, 12)])]), (125, [(.ofNat 0, [(.ofNat 1, 2)]), (.ofNat 0, [(.ofNat 1, 13)]), (.ofNat 0, [(.ofNat 1, 14)]), (.ofNat 0, [(.ofNat 1, 15)]), (.ofNat 0, [(.ofNat 1, 16)]), (.ofNat 0, [(.ofNat 1, 17)]), (.ofNat 0, [(.ofNat 1, 18)]), (.ofNat 0, [(.ofNat 1, 19)]), (.ofNat 0, [(.ofNat 1, 20)]), (.ofNat 0, [(.ofNat 1, 21)]), (.ofNat 0, [(.ofNat 1, 22)])])] : List sFc), fcOk fFS [s0, s1, s2, s3, s4, s5, s6, s7, s8, s9, s10, s11, s12, s13, s14, s15, s16, s17, s18, s19, s20, s21, s22] hp q := hH.2
  have f0 : Hq (MT hp) s0 s1 s2 s3 s4 s5 s6 s7 s8 s9 s10 s11 s12 := fcX (ys := [s0, s1, s2, s3, s4, s5, s6, s7, s8, s9, s10, s11, s12]) (hFc _ (.head _)) ⟨sE_V rfl, sE_V rfl, sE_V rfl, sE_V rfl, sE_V rfl, sE_V rfl, sE_V rfl, sE_V rfl, sE_V rfl, sE_V rfl, sE_V rfl, sE_V rfl, sE_V rfl, trivial⟩
  have f1 : CT (MT hp) s2 s13 s14 s15 s16 s17 s18 s19 s20 s21 s22 := fcX (ys := [s2, s13, s14, s15, s16, s17, s18, s19, s20, s21, s22]) (hFc _ (.tail _ (.head _))) ⟨sE_V rfl, sE_V rfl, sE_V rfl, sE_V rfl, sE_V rfl, sE_V rfl, sE_V rfl, sE_V rfl, sE_V rfl, sE_V rfl, sE_V rfl, trivial⟩
  obtain ⟨D, hG, hP⟩ := ln_g6 (P := ctP s13 s14 s15 s16 s17 s18 s19 s20 s21 s22) (MT_ok hO) f0 (dF_mp f1 (fun D h => ⟨by unfold ctP at h; omega, h⟩)) (by omega) (by omega) (by omega)
  exact poX (.head _) rfl hR (all_nil) (all_nil) (all_cons ⟨[s11, 21, s2, 0, 0, 0, 0, 0, 0], ⟨sE_V rfl, sE_k _ _, sE_V rfl, sE_k _ _, sE_k _ _, sE_k _ _, sE_k _ _, sE_k _ _, sE_k _ _, trivial⟩, (show Gq (MT hp) s11 (21 : Int) s2 (0 : Int) (0 : Int) (0 : Int) (0 : Int) (0 : Int) (0 : Int) from ⟨D, hG⟩)⟩ (all_nil))
theorem rl679 : ruOk fFS gR679 := by
  intro r hp hO hN hH
  obtain ⟨s0, s1, s2, s3, s4, s5, s6, s7, s8, s9, s10, rfl⟩ := len11 (show r.length = 11 from hN.1)
  have hR := hN.2.1.1
  have hIv : ∀ q ∈ ([(0, .negSucc 2147483647, .ofNat 2147483647), (1, .negSucc 2147483647, .ofNat 2147483647), (2, .negSucc 2147483647, .ofNat 2147483647), (3, .negSucc 2147483647, .ofNat 2147483647), (4, .negSucc 2147483647, .ofNat 2147483647), (5, .negSucc 2147483647, .ofNat 2147483647), (6, .negSucc 2147483647, .ofNat 2147483647), (7, .negSucc 2147483647, .ofNat 2147483647), (8, .negSucc 2147483647, .ofNat 2147483647), (9, .negSucc 2147483647, .ofNat 2147483647), (10, .negSucc 2147483647, .ofNat 2147483647)] : sIv), ∃ x, ([s0, s1, s2, s3, s4, s5, s6, s7, s8, s9, s10] : List Int)[q.1]? = some x ∧ q.2.1 ≤ x ∧ x ≤ q.2.2 := hN.2.1.2
  have hFc : ∀ q ∈ ([(125, [(.ofNat 0, [(.ofNat 1, 0)]), (.ofNat 0, [(.ofNat 1, 1)]), (.ofNat 0, [(.ofNat 1, 2)]), (.ofNat 0, [(.ofNat 1, 3)]), (.ofNat 0, [(.ofNat 1, 4)]), (.ofNat 0, [(.ofNat 1, 5)]), (.ofNat 0, [(.ofNat 1, 6)]), (.ofNat 0, [(.ofNat 1, 7)]), (.ofNat 0, [(.ofNat 1, 8)]), (.ofNat 0, [(.ofNat 1, 9)]), (.ofNat 0, [(.ofNat 1, 10)])])] : List sFc), fcOk fFS [s0, s1, s2, s3, s4, s5, s6, s7, s8, s9, s10] hp q := hH.2
  have f0 : CT (MT hp) s0 s1 s2 s3 s4 s5 s6 s7 s8 s9 s10 := fcX (ys := [s0, s1, s2, s3, s4, s5, s6, s7, s8, s9, s10]) (hFc _ (.head _)) ⟨sE_V rfl, sE_V rfl, sE_V rfl, sE_V rfl, sE_V rfl, sE_V rfl, sE_V rfl, sE_V rfl, sE_V rfl, sE_V rfl, sE_V rfl, trivial⟩
  exact poX (.head _) rfl hR (all_nil) (all_nil) (all_cons ⟨[s0, s9, s10], ⟨sE_V rfl, sE_V rfl, sE_V rfl, trivial⟩, (show dF (MT hp) s0 (fun D => s9 = dCx D ∧ s10 = dCy D) from dF_mp f0 (fun D h => ⟨h.2.2.2.2.2.2.2.2.1, h.2.2.2.2.2.2.2.2.2⟩))⟩ (all_nil))
theorem rl680 : ruOk fFS gR680 := by
  intro r hp hO hN hH
  obtain ⟨s0, s1, s2, s3, s4, s5, s6, s7, s8, s9, s10, s11, s12, s13, s14, rfl⟩ := len15 (show r.length = 15 from hN.1)
  have hR := hN.2.1.1
  have hIv : ∀ q ∈ ([(0, .negSucc 2147483647, .ofNat 2147483647), (1, .ofNat 19, .ofNat 19), (2, .negSucc 2147483647, .ofNat 2147483647), (3, .negSucc 2147483647, .ofNat 2147483647), (4, .negSucc 2147483647, .ofNat 2147483647), (5, .negSucc 2147483647, .ofNat 2147483647), (6, .negSucc 2147483647, .ofNat 2147483647), (7, .negSucc 2147483647, .ofNat 2147483647), (8, .negSucc 2147483647, .ofNat 2147483647), (9, .negSucc 2147483647, .ofNat 2147483647), (10, .negSucc 2147483647, .ofNat 2147483647), (11, .negSucc 2147483647, .ofNat 2147483647), (12, .negSucc 2147483647, .ofNat 2147483647), (13, .negSucc 2147483647, .ofNat 2147483647), (14, .negSucc 2147483647, .ofNat 2147483647)] : sIv), ∃ x, ([s0, s1, s2, s3, s4, s5, s6, s7, s8, s9, s10, s11, s12, s13, s14] : List Int)[q.1]? = some x ∧ q.2.1 ≤ x ∧ x ≤ q.2.2 := hN.2.1.2
  have b1 : (19 : Int) ≤ s1 ∧ s1 ≤ (19 : Int) := ivX (q := (1, .ofNat 19, .ofNat 19)) (y := s1) (hIv _ (.tail _ (.head _))) rfl
  have hFc : ∀ q ∈ ([(119, [(.ofNat 0, [(.ofNat 1, 0)]), (.ofNat 0, [(.ofNat 1, 1)]), (.ofNat 0, [(.ofNat 1, 2)]), (.ofNat 0, [(.ofNat 1, 3)]), (.ofNat 0, [(.ofNat 1, 4)]), (.ofNat 0, [(.ofNat 1, 5)]), (.ofNat 0, [(.ofNat 1, 6)]), (.ofNat 0, [(.ofNat 1, 7)]), (.ofNat 0, [(.ofNat 1, 8)]), (.ofNat 0, [(.ofNat 1, 9)]), (.ofNat 0, [(.ofNat 1, 10)]), (.ofNat 0, [(.ofNat 1, 11)]), (.ofNat 0, [(.ofNat 1, 12)])]), (175, [(.ofNat 0, [(.ofNat 1, 2)]), (.ofNat 0, [(.ofNat 1, 13)]), (.ofNat 0, [(.ofNat 1, 14)])])] : List sFc), fcOk fFS [s0, s1, s2, s3, s4, s5, s6, s7, s8, s9, s10, s11, s12, s13, s14] hp q := hH.2
  have f0 : Hq (MT hp) s0 s1 s2 s3 s4 s5 s6 s7 s8 s9 s10 s11 s12 := fcX (ys := [s0, s1, s2, s3, s4, s5, s6, s7, s8, s9, s10, s11, s12]) (hFc _ (.head _)) ⟨sE_V rfl, sE_V rfl, sE_V rfl, sE_V rfl, sE_V rfl, sE_V rfl, sE_V rfl, sE_V rfl, sE_V rfl, sE_V rfl, sE_V rfl, sE_V rfl, sE_V rfl, trivial⟩
  have f1 : dF (MT hp) s2 (fun D => s13 = dCx D ∧ s14 = dCy D) := fcX (ys := [s2, s13, s14]) (hFc _ (.tail _ (.head _))) ⟨sE_V rfl, sE_V rfl, sE_V rfl, trivial⟩
  obtain ⟨⟨D, hG⟩, -⟩ := f0
  have hP := dF_at (MT_ok hO) hG f1
  exact poX (.head _) rfl hR (all_nil) (all_nil) (all_cons ⟨[s0, 0, (s13 - 1)], ⟨sE_V rfl, sE_k _ _, sEv (y' := ((-1 : Int) + ((1 : Int) * s13 + 0))) rfl (by omega), trivial⟩, (show EN (MT hp) s0 (0 : Int) (s13 - 1) from en_mk hG (nC19 (by omega) (by omega) (by omega)))⟩ (all_nil))
theorem rl681 : ruOk fFS gR681 := by
  intro r hp hO hN hH
  obtain ⟨s0, s1, s2, s3, s4, s5, s6, s7, s8, s9, s10, s11, s12, s13, s14, rfl⟩ := len15 (show r.length = 15 from hN.1)
  have hR := hN.2.1.1
  have hIv : ∀ q ∈ ([(0, .negSucc 2147483647, .ofNat 2147483647), (1, .ofNat 21, .ofNat 21), (2, .negSucc 2147483647, .ofNat 2147483647), (3, .negSucc 2147483647, .ofNat 2147483647), (4, .negSucc 2147483647, .ofNat 2147483647), (5, .negSucc 2147483647, .ofNat 2147483647), (6, .negSucc 2147483647, .ofNat 2147483647), (7, .negSucc 2147483647, .ofNat 2147483647), (8, .negSucc 2147483647, .ofNat 2147483647), (9, .negSucc 2147483647, .ofNat 2147483647), (10, .negSucc 2147483647, .ofNat 2147483647), (11, .negSucc 2147483647, .ofNat 2147483647), (12, .negSucc 2147483647, .ofNat 2147483647), (13, .negSucc 2147483647, .ofNat 2147483647), (14, .negSucc 2147483647, .ofNat 2147483647)] : sIv), ∃ x, ([s0, s1, s2, s3, s4, s5, s6, s7, s8, s9, s10, s11, s12, s13, s14] : List Int)[q.1]? = some x ∧ q.2.1 ≤ x ∧ x ≤ q.2.2 := hN.2.1.2
  have b1 : (21 : Int) ≤ s1 ∧ s1 ≤ (21 : Int) := ivX (q := (1, .ofNat 21, .ofNat 21)) (y := s1) (hIv _ (.tail _ (.head _))) rfl
  have hFc : ∀ q ∈ ([(119, [(.ofNat 0, [(.ofNat 1, 0)]), (.ofNat 0, [(.ofNat 1, 1)]), (.ofNat 0, [(.ofNat 1, 2)]), (.ofNat 0, [(.ofNat 1, 3)]), (.ofNat 0, [(.ofNat 1, 4)]), (.ofNat 0, [(.ofNat 1, 5)]), (.ofNat 0, [(.ofNat 1, 6)]), (.ofNat 0, [(.ofNat 1, 7)]), (.ofNat 0, [(.ofNat 1, 8)]), (.ofNat 0, [(.ofNat 1, 9)]), (.ofNat 0, [(.ofNat 1, 10)]), (.ofNat 0, [(.ofNat 1, 11)]), (.ofNat 0, [(.ofNat 1, 12)])]), (175, [(.ofNat 0, [(.ofNat 1, 2)]), (.ofNat 0, [(.ofNat 1, 13)]), (.ofNat 0, [(.ofNat 1, 14)])])] : List sFc), fcOk fFS [s0, s1, s2, s3, s4, s5, s6, s7, s8, s9, s10, s11, s12, s13, s14] hp q := hH.2
  have f0 : Hq (MT hp) s0 s1 s2 s3 s4 s5 s6 s7 s8 s9 s10 s11 s12 := fcX (ys := [s0, s1, s2, s3, s4, s5, s6, s7, s8, s9, s10, s11, s12]) (hFc _ (.head _)) ⟨sE_V rfl, sE_V rfl, sE_V rfl, sE_V rfl, sE_V rfl, sE_V rfl, sE_V rfl, sE_V rfl, sE_V rfl, sE_V rfl, sE_V rfl, sE_V rfl, sE_V rfl, trivial⟩
  have f1 : dF (MT hp) s2 (fun D => s13 = dCx D ∧ s14 = dCy D) := fcX (ys := [s2, s13, s14]) (hFc _ (.tail _ (.head _))) ⟨sE_V rfl, sE_V rfl, sE_V rfl, trivial⟩
  obtain ⟨⟨D, hG⟩, -⟩ := f0
  have hP := dF_at (MT_ok hO) hG f1
  exact poX (.head _) rfl hR (all_nil) (all_nil) (all_cons ⟨[s0, 0, (s13 - 1)], ⟨sE_V rfl, sE_k _ _, sEv (y' := ((-1 : Int) + ((1 : Int) * s13 + 0))) rfl (by omega), trivial⟩, (show EN (MT hp) s0 (0 : Int) (s13 - 1) from en_mk hG (nC21 (by omega) (by omega) (by omega)))⟩ (all_nil))
theorem rl682 : ruOk fFS gR682 := by
  intro r hp hO hN hH
  obtain ⟨s0, s1, s2, s3, s4, s5, s6, s7, s8, s9, s10, s11, s12, s13, s14, rfl⟩ := len15 (show r.length = 15 from hN.1)
  have hR := hN.2.1.1
  have hIv : ∀ q ∈ ([(0, .negSucc 2147483647, .ofNat 2147483647), (1, .ofNat 20, .ofNat 20), (2, .negSucc 2147483647, .ofNat 2147483647), (3, .negSucc 2147483647, .ofNat 2147483647), (4, .negSucc 2147483647, .ofNat 2147483647), (5, .negSucc 2147483647, .ofNat 2147483647), (6, .negSucc 2147483647, .ofNat 2147483647), (7, .negSucc 2147483647, .ofNat 2147483647), (8, .negSucc 2147483647, .ofNat 2147483647), (9, .negSucc 2147483647, .ofNat 2147483647), (10, .negSucc 2147483647, .ofNat 2147483647), (11, .negSucc 2147483647, .ofNat 2147483647), (12, .negSucc 2147483647, .ofNat 2147483647), (13, .negSucc 2147483647, .ofNat 2147483647), (14, .negSucc 2147483647, .ofNat 2147483647)] : sIv), ∃ x, ([s0, s1, s2, s3, s4, s5, s6, s7, s8, s9, s10, s11, s12, s13, s14] : List Int)[q.1]? = some x ∧ q.2.1 ≤ x ∧ x ≤ q.2.2 := hN.2.1.2
  have b1 : (20 : Int) ≤ s1 ∧ s1 ≤ (20 : Int) := ivX (q := (1, .ofNat 20, .ofNat 20)) (y := s1) (hIv _ (.tail _ (.head _))) rfl
  have hFc : ∀ q ∈ ([(119, [(.ofNat 0, [(.ofNat 1, 0)]), (.ofNat 0, [(.ofNat 1, 1)]), (.ofNat 0, [(.ofNat 1, 2)]), (.ofNat 0, [(.ofNat 1, 3)]), (.ofNat 0, [(.ofNat 1, 4)]), (.ofNat 0, [(.ofNat 1, 5)]), (.ofNat 0, [(.ofNat 1, 6)]), (.ofNat 0, [(.ofNat 1, 7)]), (.ofNat 0, [(.ofNat 1, 8)]), (.ofNat 0, [(.ofNat 1, 9)]), (.ofNat 0, [(.ofNat 1, 10)]), (.ofNat 0, [(.ofNat 1, 11)]), (.ofNat 0, [(.ofNat 1, 12)])]), (175, [(.ofNat 0, [(.ofNat 1, 2)]), (.ofNat 0, [(.ofNat 1, 13)]), (.ofNat 0, [(.ofNat 1, 14)])])] : List sFc), fcOk fFS [s0, s1, s2, s3, s4, s5, s6, s7, s8, s9, s10, s11, s12, s13, s14] hp q := hH.2
  have f0 : Hq (MT hp) s0 s1 s2 s3 s4 s5 s6 s7 s8 s9 s10 s11 s12 := fcX (ys := [s0, s1, s2, s3, s4, s5, s6, s7, s8, s9, s10, s11, s12]) (hFc _ (.head _)) ⟨sE_V rfl, sE_V rfl, sE_V rfl, sE_V rfl, sE_V rfl, sE_V rfl, sE_V rfl, sE_V rfl, sE_V rfl, sE_V rfl, sE_V rfl, sE_V rfl, sE_V rfl, trivial⟩
  have f1 : dF (MT hp) s2 (fun D => s13 = dCx D ∧ s14 = dCy D) := fcX (ys := [s2, s13, s14]) (hFc _ (.tail _ (.head _))) ⟨sE_V rfl, sE_V rfl, sE_V rfl, trivial⟩
  obtain ⟨⟨D, hG⟩, -⟩ := f0
  have hP := dF_at (MT_ok hO) hG f1
  exact poX (.head _) rfl hR (all_nil) (all_nil) (all_cons ⟨[s0, 0, (s14 - 1)], ⟨sE_V rfl, sE_k _ _, sEv (y' := ((-1 : Int) + ((1 : Int) * s14 + 0))) rfl (by omega), trivial⟩, (show EN (MT hp) s0 (0 : Int) (s14 - 1) from en_mk hG (nC20 (by omega) (by omega) (by omega)))⟩ (all_nil))
theorem rl683 : ruOk fFS gR683 := by
  intro r hp hO hN hH
  obtain ⟨s0, s1, s2, s3, s4, s5, s6, s7, s8, s9, s10, s11, s12, s13, s14, rfl⟩ := len15 (show r.length = 15 from hN.1)
  have hR := hN.2.1.1
  have hIv : ∀ q ∈ ([(0, .negSucc 2147483647, .ofNat 2147483647), (1, .ofNat 22, .ofNat 22), (2, .negSucc 2147483647, .ofNat 2147483647), (3, .negSucc 2147483647, .ofNat 2147483647), (4, .negSucc 2147483647, .ofNat 2147483647), (5, .negSucc 2147483647, .ofNat 2147483647), (6, .negSucc 2147483647, .ofNat 2147483647), (7, .negSucc 2147483647, .ofNat 2147483647), (8, .negSucc 2147483647, .ofNat 2147483647), (9, .negSucc 2147483647, .ofNat 2147483647), (10, .negSucc 2147483647, .ofNat 2147483647), (11, .negSucc 2147483647, .ofNat 2147483647), (12, .negSucc 2147483647, .ofNat 2147483647), (13, .negSucc 2147483647, .ofNat 2147483647), (14, .negSucc 2147483647, .ofNat 2147483647)] : sIv), ∃ x, ([s0, s1, s2, s3, s4, s5, s6, s7, s8, s9, s10, s11, s12, s13, s14] : List Int)[q.1]? = some x ∧ q.2.1 ≤ x ∧ x ≤ q.2.2 := hN.2.1.2
  have b1 : (22 : Int) ≤ s1 ∧ s1 ≤ (22 : Int) := ivX (q := (1, .ofNat 22, .ofNat 22)) (y := s1) (hIv _ (.tail _ (.head _))) rfl
  have hFc : ∀ q ∈ ([(119, [(.ofNat 0, [(.ofNat 1, 0)]), (.ofNat 0, [(.ofNat 1, 1)]), (.ofNat 0, [(.ofNat 1, 2)]), (.ofNat 0, [(.ofNat 1, 3)]), (.ofNat 0, [(.ofNat 1, 4)]), (.ofNat 0, [(.ofNat 1, 5)]), (.ofNat 0, [(.ofNat 1, 6)]), (.ofNat 0, [(.ofNat 1, 7)]), (.ofNat 0, [(.ofNat 1, 8)]), (.ofNat 0, [(.ofNat 1, 9)]), (.ofNat 0, [(.ofNat 1, 10)]), (.ofNat 0, [(.ofNat 1, 11)]), (.ofNat 0, [(.ofNat 1, 12)])]), (175, [(.ofNat 0, [(.ofNat 1, 2)]), (.ofNat 0, [(.ofNat 1, 13)]), (.ofNat 0, [(.ofNat 1, 14)])])] : List sFc), fcOk fFS [s0, s1, s2, s3, s4, s5, s6, s7, s8, s9, s10, s11, s12, s13, s14] hp q := hH.2
  have f0 : Hq (MT hp) s0 s1 s2 s3 s4 s5 s6 s7 s8 s9 s10 s11 s12 := fcX (ys := [s0, s1, s2, s3, s4, s5, s6, s7, s8, s9, s10, s11, s12]) (hFc _ (.head _)) ⟨sE_V rfl, sE_V rfl, sE_V rfl, sE_V rfl, sE_V rfl, sE_V rfl, sE_V rfl, sE_V rfl, sE_V rfl, sE_V rfl, sE_V rfl, sE_V rfl, sE_V rfl, trivial⟩
  have f1 : dF (MT hp) s2 (fun D => s13 = dCx D ∧ s14 = dCy D) := fcX (ys := [s2, s13, s14]) (hFc _ (.tail _ (.head _))) ⟨sE_V rfl, sE_V rfl, sE_V rfl, trivial⟩
  obtain ⟨⟨D, hG⟩, -⟩ := f0
  have hP := dF_at (MT_ok hO) hG f1
  exact poX (.head _) rfl hR (all_nil) (all_nil) (all_cons ⟨[s0, 0, (s14 - 1)], ⟨sE_V rfl, sE_k _ _, sEv (y' := ((-1 : Int) + ((1 : Int) * s14 + 0))) rfl (by omega), trivial⟩, (show EN (MT hp) s0 (0 : Int) (s14 - 1) from en_mk hG (nC22 (by omega) (by omega) (by omega)))⟩ (all_nil))
theorem rl684 : ruOk fFS gR684 := by
  intro r hp hO hN hH
  obtain ⟨s0, s1, s2, s3, rfl⟩ := len4 (show r.length = 4 from hN.1)
  have hR := hN.2.1.1
  have hIv : ∀ q ∈ ([(0, .ofNat 0, .ofNat 9), (1, .ofNat 0, .ofNat 9), (2, .ofNat 0, .ofNat 0), (3, .negSucc 2147483647, .ofNat 2147483647)] : sIv), ∃ x, ([s0, s1, s2, s3] : List Int)[q.1]? = some x ∧ q.2.1 ≤ x ∧ x ≤ q.2.2 := hN.2.1.2
  have b0 : (0 : Int) ≤ s0 ∧ s0 ≤ (9 : Int) := ivX (q := (0, .ofNat 0, .ofNat 9)) (y := s0) (hIv _ (.head _)) rfl
  have b1 : (0 : Int) ≤ s1 ∧ s1 ≤ (9 : Int) := ivX (q := (1, .ofNat 0, .ofNat 9)) (y := s1) (hIv _ (.tail _ (.head _))) rfl
  have b2 : (0 : Int) ≤ s2 ∧ s2 ≤ (0 : Int) := ivX (q := (2, .ofNat 0, .ofNat 0)) (y := s2) (hIv _ (.tail _ (.tail _ (.head _)))) rfl
  have hRf : ∀ q ∈ ([((78, .ofNat 273, []), (.ofNat 18, []), 1, .ofNat 0, [(.ofNat 1, 1)]), ((81, .ofNat 276, []), (.ofNat 300, [(.ofNat 1, 0), (.ofNat 10, 1)]), 1, .ofNat 0, [(.ofNat 1, 2)])] : List sRf), rfOk [s0, s1, s2, s3] hp q := hH.1
  have h0 : hI hp 273 18 = s1 := rfI0 (hRf _ (.head _)) (sE_k _ _) (sE_k _ _) (sE_V rfl)
  obtain ⟨i1, e1, l1, h1⟩ := rfI (xv := s2) (iv := (s0 + 10 * s1 + 300)) (hRf _ (.tail _ (.head _))) (sE_k _ _) (sEv (y' := ((300 : Int) + ((1 : Int) * s0 + ((10 : Int) * s1 + 0)))) rfl (by omega)) (sE_V rfl)
  have l1 : i1 < 401 := l1
  have h1 : hI hp 276 i1 = s2 := h1
  have hFc : ∀ q ∈ ([(162, [(.ofNat 0, [(.ofNat 1, 3)])])] : List sFc), fcOk fFS [s0, s1, s2, s3] hp q := hH.2
  have f0 : dF (MT hp) s3 (fun D => ∀ p : Nat, p < 100 → (hI hp 276 (300 + p) = 1 ↔ wlI D p)) := fcX (ys := [s3]) (hFc _ (.head _)) ⟨sE_V rfl, trivial⟩
  exact poX (.head _) rfl hR (all_nil) (all_nil) (all_cons ⟨[0, 0, s3, s0, s1], ⟨sE_k _ _, sE_k _ _, sE_V rfl, sE_V rfl, sE_V rfl, trivial⟩, (show dF (MT hp) s3 (fun D => ((0 : Int) = 1 ∧ ¬ fre D s0 s1) ∨ ((0 : Int) = 0 ∧ (s0, s1) ∉ dWa D ∧ ∀ i : Nat, i < 14 → (i : Int) < (0 : Int) → ¬ (hI hp 276 (272 + i) = s0 ∧ hI hp 276 (286 + i) = s1))) from dF_mp f0 (fun D h => thd_0 h h1 (j0 := i1 - 300) (by omega) (by omega) (by omega) ⟨by omega, by omega⟩ (by omega) rfl rfl))⟩ (all_nil))
theorem rl685 : ruOk fFS gR685 := by
  intro r hp hO hN hH
  obtain ⟨s0, s1, s2, s3, rfl⟩ := len4 (show r.length = 4 from hN.1)
  have hR := hN.2.1.1
  have hIv : ∀ q ∈ ([(0, .ofNat 0, .ofNat 9), (1, .ofNat 0, .ofNat 9), (2, .ofNat 1, .ofNat 1), (3, .negSucc 2147483647, .ofNat 2147483647)] : sIv), ∃ x, ([s0, s1, s2, s3] : List Int)[q.1]? = some x ∧ q.2.1 ≤ x ∧ x ≤ q.2.2 := hN.2.1.2
  have b0 : (0 : Int) ≤ s0 ∧ s0 ≤ (9 : Int) := ivX (q := (0, .ofNat 0, .ofNat 9)) (y := s0) (hIv _ (.head _)) rfl
  have b1 : (0 : Int) ≤ s1 ∧ s1 ≤ (9 : Int) := ivX (q := (1, .ofNat 0, .ofNat 9)) (y := s1) (hIv _ (.tail _ (.head _))) rfl
  have b2 : (1 : Int) ≤ s2 ∧ s2 ≤ (1 : Int) := ivX (q := (2, .ofNat 1, .ofNat 1)) (y := s2) (hIv _ (.tail _ (.tail _ (.head _)))) rfl
  have hRf : ∀ q ∈ ([((78, .ofNat 273, []), (.ofNat 18, []), 1, .ofNat 0, [(.ofNat 1, 1)]), ((81, .ofNat 276, []), (.ofNat 300, [(.ofNat 1, 0), (.ofNat 10, 1)]), 1, .ofNat 0, [(.ofNat 1, 2)])] : List sRf), rfOk [s0, s1, s2, s3] hp q := hH.1
  have h0 : hI hp 273 18 = s1 := rfI0 (hRf _ (.head _)) (sE_k _ _) (sE_k _ _) (sE_V rfl)
  obtain ⟨i1, e1, l1, h1⟩ := rfI (xv := s2) (iv := (s0 + 10 * s1 + 300)) (hRf _ (.tail _ (.head _))) (sE_k _ _) (sEv (y' := ((300 : Int) + ((1 : Int) * s0 + ((10 : Int) * s1 + 0)))) rfl (by omega)) (sE_V rfl)
  have l1 : i1 < 401 := l1
  have h1 : hI hp 276 i1 = s2 := h1
  have hFc : ∀ q ∈ ([(162, [(.ofNat 0, [(.ofNat 1, 3)])])] : List sFc), fcOk fFS [s0, s1, s2, s3] hp q := hH.2
  have f0 : dF (MT hp) s3 (fun D => ∀ p : Nat, p < 100 → (hI hp 276 (300 + p) = 1 ↔ wlI D p)) := fcX (ys := [s3]) (hFc _ (.head _)) ⟨sE_V rfl, trivial⟩
  exact poX (.head _) rfl hR (all_nil) (all_nil) (all_cons ⟨[0, 1, s3, s0, s1], ⟨sE_k _ _, sE_k _ _, sE_V rfl, sE_V rfl, sE_V rfl, trivial⟩, (show dF (MT hp) s3 (fun D => ((1 : Int) = 1 ∧ ¬ fre D s0 s1) ∨ ((1 : Int) = 0 ∧ (s0, s1) ∉ dWa D ∧ ∀ i : Nat, i < 14 → (i : Int) < (0 : Int) → ¬ (hI hp 276 (272 + i) = s0 ∧ hI hp 276 (286 + i) = s1))) from dF_mp f0 (fun D h => thd_1 h h1 (j0 := i1 - 300) (by omega) (by omega) (by omega) ⟨by omega, by omega⟩ (by omega) rfl))⟩ (all_nil))
theorem rl686 : ruOk fFS gR686 := by
  intro r hp hO hN hH
  obtain ⟨s0, rfl⟩ := len1 (show r.length = 1 from hN.1)
  have hR := hN.2.1.1
  have hIv : ∀ q ∈ ([(0, .ofNat 0, .ofNat 1)] : sIv), ∃ x, ([s0] : List Int)[q.1]? = some x ∧ q.2.1 ≤ x ∧ x ≤ q.2.2 := hN.2.1.2
  have b0 : (0 : Int) ≤ s0 ∧ s0 ≤ (1 : Int) := ivX (q := (0, .ofNat 0, .ofNat 1)) (y := s0) (hIv _ (.head _)) rfl
  have y : (((0 : Int) ≤ s0 ∧ s0 ≤ (0 : Int))) ∨ (((1 : Int) ≤ s0 ∧ s0 ≤ (1 : Int))) := by omega
  rcases y with y | y
  · exact poX (.head _) rfl hR (all_cons (ivO (y := s0) rfl (show (0 : Int) ≤ s0 by omega) (show s0 ≤ (0 : Int) by omega)) (all_nil)) (all_nil) (all_nil)
  · exact poX (.tail _ (.head _)) rfl hR (all_cons (ivO (y := s0) rfl (show (1 : Int) ≤ s0 by omega) (show s0 ≤ (1 : Int) by omega)) (all_nil)) (all_nil) (all_nil)
theorem rl687 : ruOk fFS gR687 := by
  intro r hp hO hN hH
  obtain ⟨s0, s1, s2, rfl⟩ := len3 (show r.length = 3 from hN.1)
  have hR := hN.2.1.1
  have hIv : ∀ q ∈ ([(0, .negSucc 2147483647, .ofNat 2147483647), (1, .ofNat 0, .ofNat 13), (2, .negSucc 2147483647, .ofNat 2147483647)] : sIv), ∃ x, ([s0, s1, s2] : List Int)[q.1]? = some x ∧ q.2.1 ≤ x ∧ x ≤ q.2.2 := hN.2.1.2
  have b1 : (0 : Int) ≤ s1 ∧ s1 ≤ (13 : Int) := ivX (q := (1, .ofNat 0, .ofNat 13)) (y := s1) (hIv _ (.tail _ (.head _))) rfl
  have hRf : ∀ q ∈ ([((81, .ofNat 276, []), (.ofNat 272, [(.ofNat 1, 1)]), 1, .ofNat 0, [(.ofNat 1, 2)])] : List sRf), rfOk [s0, s1, s2] hp q := hH.1
  obtain ⟨i0, e0, l0, h0⟩ := rfI (xv := s2) (iv := (s1 + 272)) (hRf _ (.head _)) (sE_k _ _) (sEv (y' := ((272 : Int) + ((1 : Int) * s1 + 0))) rfl (by omega)) (sE_V rfl)
  have l0 : i0 < 401 := l0
  have h0 : hI hp 276 i0 = s2 := h0
  have y : (((1 : Int) + ((-1 : Int) * s0 + ((1 : Int) * s2 + 0))) ≤ 0) ∨ (((0 : Int) + ((-1 : Int) * s0 + ((1 : Int) * s2 + 0))) ≤ 0 ∧ ((0 : Int) + ((1 : Int) * s0 + ((-1 : Int) * s2 + 0))) ≤ 0) ∨ (((1 : Int) + ((1 : Int) * s0 + ((-1 : Int) * s2 + 0))) ≤ 0) := by omega
  rcases y with y | y | y
  · exact poX (.head _) rfl hR (all_nil) (all_cons ⟨((1 : Int) + ((-1 : Int) * s0 + ((1 : Int) * s2 + 0))), rfl, (show ((1 : Int) + ((-1 : Int) * s0 + ((1 : Int) * s2 + 0))) ≤ 0 by omega)⟩ (all_nil)) (all_nil)
  · exact poX (.tail _ (.head _)) rfl hR (all_nil) (all_cons ⟨((0 : Int) + ((-1 : Int) * s0 + ((1 : Int) * s2 + 0))), rfl, (show ((0 : Int) + ((-1 : Int) * s0 + ((1 : Int) * s2 + 0))) ≤ 0 by omega)⟩ (all_cons ⟨((0 : Int) + ((1 : Int) * s0 + ((-1 : Int) * s2 + 0))), rfl, (show ((0 : Int) + ((1 : Int) * s0 + ((-1 : Int) * s2 + 0))) ≤ 0 by omega)⟩ (all_nil))) (all_nil)
  · exact poX (.tail _ (.tail _ (.head _))) rfl hR (all_nil) (all_cons ⟨((1 : Int) + ((1 : Int) * s0 + ((-1 : Int) * s2 + 0))), rfl, (show ((1 : Int) + ((1 : Int) * s0 + ((-1 : Int) * s2 + 0))) ≤ 0 by omega)⟩ (all_nil)) (all_nil)
theorem rl688 : ruOk fFS gR688 := by
  intro r hp hO hN hH
  obtain ⟨s0, s1, s2, rfl⟩ := len3 (show r.length = 3 from hN.1)
  have hR := hN.2.1.1
  have hIv : ∀ q ∈ ([(0, .ofNat 0, .ofNat 13), (1, .negSucc 2147483647, .ofNat 2147483647), (2, .negSucc 2147483647, .ofNat 2147483647)] : sIv), ∃ x, ([s0, s1, s2] : List Int)[q.1]? = some x ∧ q.2.1 ≤ x ∧ x ≤ q.2.2 := hN.2.1.2
  have b0 : (0 : Int) ≤ s0 ∧ s0 ≤ (13 : Int) := ivX (q := (0, .ofNat 0, .ofNat 13)) (y := s0) (hIv _ (.head _)) rfl
  have hRf : ∀ q ∈ ([((78, .ofNat 273, []), (.ofNat 18, []), 1, .ofNat 0, [(.ofNat 1, 1)]), ((81, .ofNat 276, []), (.ofNat 286, [(.ofNat 1, 0)]), 1, .ofNat 0, [(.ofNat 1, 2)])] : List sRf), rfOk [s0, s1, s2] hp q := hH.1
  have h0 : hI hp 273 18 = s1 := rfI0 (hRf _ (.head _)) (sE_k _ _) (sE_k _ _) (sE_V rfl)
  obtain ⟨i1, e1, l1, h1⟩ := rfI (xv := s2) (iv := (s0 + 286)) (hRf _ (.tail _ (.head _))) (sE_k _ _) (sEv (y' := ((286 : Int) + ((1 : Int) * s0 + 0))) rfl (by omega)) (sE_V rfl)
  have l1 : i1 < 401 := l1
  have h1 : hI hp 276 i1 = s2 := h1
  have y : (((1 : Int) + ((-1 : Int) * s1 + ((1 : Int) * s2 + 0))) ≤ 0) ∨ (((0 : Int) + ((-1 : Int) * s1 + ((1 : Int) * s2 + 0))) ≤ 0 ∧ ((0 : Int) + ((1 : Int) * s1 + ((-1 : Int) * s2 + 0))) ≤ 0) ∨ (((1 : Int) + ((1 : Int) * s1 + ((-1 : Int) * s2 + 0))) ≤ 0) := by omega
  rcases y with y | y | y
  · exact poX (.head _) rfl hR (all_nil) (all_cons ⟨((1 : Int) + ((-1 : Int) * s1 + ((1 : Int) * s2 + 0))), rfl, (show ((1 : Int) + ((-1 : Int) * s1 + ((1 : Int) * s2 + 0))) ≤ 0 by omega)⟩ (all_nil)) (all_nil)
  · exact poX (.tail _ (.head _)) rfl hR (all_nil) (all_cons ⟨((0 : Int) + ((-1 : Int) * s1 + ((1 : Int) * s2 + 0))), rfl, (show ((0 : Int) + ((-1 : Int) * s1 + ((1 : Int) * s2 + 0))) ≤ 0 by omega)⟩ (all_cons ⟨((0 : Int) + ((1 : Int) * s1 + ((-1 : Int) * s2 + 0))), rfl, (show ((0 : Int) + ((1 : Int) * s1 + ((-1 : Int) * s2 + 0))) ≤ 0 by omega)⟩ (all_nil))) (all_nil)
  · exact poX (.tail _ (.tail _ (.head _))) rfl hR (all_nil) (all_cons ⟨((1 : Int) + ((1 : Int) * s1 + ((-1 : Int) * s2 + 0))), rfl, (show ((1 : Int) + ((1 : Int) * s1 + ((-1 : Int) * s2 + 0))) ≤ 0 by omega)⟩ (all_nil)) (all_nil)
theorem rl689 : ruOk fFS gR689 := by
  intro r hp hO hN hH
  obtain ⟨s0, s1, s2, s3, s4, s5, s6, s7, rfl⟩ := len8 (show r.length = 8 from hN.1)
  have hR := hN.2.1.1
  have hIv : ∀ q ∈ ([(0, .negSucc 2147483647, .ofNat 2147483647), (1, .ofNat 0, .ofNat 13), (2, .negSucc 2147483647, .ofNat 2147483647), (3, .negSucc 2147483647, .ofNat 2147483647), (4, .negSucc 2147483647, .ofNat 2147483647), (5, .negSucc 2147483647, .ofNat 2147483647), (6, .ofNat 1, .ofNat 1), (7, .negSucc 2147483647, .ofNat 2147483647)] : sIv), ∃ x, ([s0, s1, s2, s3, s4, s5, s6, s7] : List Int)[q.1]? = some x ∧ q.2.1 ≤ x ∧ x ≤ q.2.2 := hN.2.1.2
  have b1 : (0 : Int) ≤ s1 ∧ s1 ≤ (13 : Int) := ivX (q := (1, .ofNat 0, .ofNat 13)) (y := s1) (hIv _ (.tail _ (.head _))) rfl
  have b6 : (1 : Int) ≤ s6 ∧ s6 ≤ (1 : Int) := ivX (q := (6, .ofNat 1, .ofNat 1)) (y := s6) (hIv _ (.tail _ (.tail _ (.tail _ (.tail _ (.tail _ (.tail _ (.head _)))))))) rfl
  have hCs : ∀ c ∈ ([(.ofNat 1, [(.ofNat 1, 1), (.negSucc 0, 5)])] : List sLn), ∃ x, sE [s0, s1, s2, s3, s4, s5, s6, s7] c = some x ∧ x ≤ 0 := hN.2.2.1
  have c0 : ((1 : Int) + ((1 : Int) * s1 + ((-1 : Int) * s5 + 0))) ≤ 0 := csX (hCs _ (.head _)) rfl
  have hRf : ∀ q ∈ ([((78, .ofNat 273, []), (.ofNat 18, []), 1, .ofNat 0, [(.ofNat 1, 2)]), ((81, .ofNat 276, []), (.ofNat 272, [(.ofNat 1, 1)]), 1, .ofNat 0, [(.ofNat 1, 3)]), ((81, .ofNat 276, []), (.ofNat 286, [(.ofNat 1, 1)]), 1, .ofNat 0, [(.ofNat 1, 4)]), ((81, .ofNat 276, []), (.ofNat 5, []), 1, .ofNat 0, [(.ofNat 1, 5)])] : List sRf), rfOk [s0, s1, s2, s3, s4, s5, s6, s7] hp q := hH.1
  have h0 : hI hp 273 18 = s2 := rfI0 (hRf _ (.head _)) (sE_k _ _) (sE_k _ _) (sE_V rfl)
  obtain ⟨i1, e1, l1, h1⟩ := rfI (xv := s3) (iv := (s1 + 272)) (hRf _ (.tail _ (.head _))) (sE_k _ _) (sEv (y' := ((272 : Int) + ((1 : Int) * s1 + 0))) rfl (by omega)) (sE_V rfl)
  have l1 : i1 < 401 := l1
  have h1 : hI hp 276 i1 = s3 := h1
  obtain ⟨i2, e2, l2, h2⟩ := rfI (xv := s4) (iv := (s1 + 286)) (hRf _ (.tail _ (.tail _ (.head _)))) (sE_k _ _) (sEv (y' := ((286 : Int) + ((1 : Int) * s1 + 0))) rfl (by omega)) (sE_V rfl)
  have l2 : i2 < 401 := l2
  have h2 : hI hp 276 i2 = s4 := h2
  have h3 : hI hp 276 5 = s5 := rfI0 (hRf _ (.tail _ (.tail _ (.tail _ (.head _))))) (sE_k _ _) (sE_k _ _) (sE_V rfl)
  have y3 : (0 : Int) ≤ s5 ∧ s5 ≤ (14 : Int) := by rw [← h3]; exact hI_ty hO (by decide) rfl
  have hFc : ∀ q ∈ ([(161, [(.ofNat 0, [(.ofNat 1, 1)]), (.ofNat 0, [(.ofNat 1, 6)]), (.ofNat 0, [(.ofNat 1, 7)]), (.ofNat 0, [(.ofNat 1, 0)]), (.ofNat 0, [(.ofNat 1, 2)])]), (159, [(.ofNat 0, [(.ofNat 1, 5)]), (.ofNat 0, [(.ofNat 1, 7)])])] : List sFc), fcOk fFS [s0, s1, s2, s3, s4, s5, s6, s7] hp q := hH.2
  have f0 : dF (MT hp) s7 (fun D => (s6 = 1 ∧ ¬ fre D s0 s2) ∨ (s6 = 0 ∧ (s0, s2) ∉ dWa D ∧ ∀ i : Nat, i < 14 → (i : Int) < s1 → ¬ (hI hp 276 (272 + i) = s0 ∧ hI hp 276 (286 + i) = s2))) := fcX (ys := [s1, s6, s7, s0, s2]) (hFc _ (.head _)) ⟨sE_V rfl, sE_V rfl, sE_V rfl, sE_V rfl, sE_V rfl, trivial⟩
  have f1 : dF (MT hp) s7 (fun D => s5 = (dTr D).length ∧ ∀ i : Nat, i < 14 → (i : Int) < s5 → (dTr D)[i]? = some (hI hp 276 (272 + i), hI hp 276 (286 + i))) := fcX (ys := [s5, s7]) (hFc _ (.tail _ (.head _))) ⟨sE_V rfl, sE_V rfl, trivial⟩
  exact poX (.head _) rfl hR (all_nil) (all_nil) (all_cons ⟨[(s1 + 1), 1, s7, s0, s2], ⟨sEv (y' := ((1 : Int) + ((1 : Int) * s1 + 0))) rfl (by omega), sE_k _ _, sE_V rfl, sE_V rfl, sE_V rfl, trivial⟩, (show dF (MT hp) s7 (fun D => ((1 : Int) = 1 ∧ ¬ fre D s0 s2) ∨ ((1 : Int) = 0 ∧ (s0, s2) ∉ dWa D ∧ ∀ i : Nat, i < 14 → (i : Int) < (s1 + 1) → ¬ (hI hp 276 (272 + i) = s0 ∧ hI hp 276 (286 + i) = s2))) from dF_mp f0 (fun D h => thd_k h (by omega) rfl))⟩ (all_nil))
theorem rl690 : ruOk fFS gR690 := by
  intro r hp hO hN hH
  obtain ⟨s0, s1, s2, s3, s4, s5, s6, s7, rfl⟩ := len8 (show r.length = 8 from hN.1)
  have hR := hN.2.1.1
  have hIv : ∀ q ∈ ([(0, .negSucc 2147483647, .ofNat 2147483647), (1, .ofNat 0, .ofNat 13), (2, .negSucc 2147483647, .ofNat 2147483647), (3, .negSucc 2147483647, .ofNat 2147483647), (4, .negSucc 2147483647, .ofNat 2147483647), (5, .negSucc 2147483647, .ofNat 2147483647), (6, .ofNat 0, .ofNat 0), (7, .negSucc 2147483647, .ofNat 2147483647)] : sIv), ∃ x, ([s0, s1, s2, s3, s4, s5, s6, s7] : List Int)[q.1]? = some x ∧ q.2.1 ≤ x ∧ x ≤ q.2.2 := hN.2.1.2
  have b1 : (0 : Int) ≤ s1 ∧ s1 ≤ (13 : Int) := ivX (q := (1, .ofNat 0, .ofNat 13)) (y := s1) (hIv _ (.tail _ (.head _))) rfl
  have b6 : (0 : Int) ≤ s6 ∧ s6 ≤ (0 : Int) := ivX (q := (6, .ofNat 0, .ofNat 0)) (y := s6) (hIv _ (.tail _ (.tail _ (.tail _ (.tail _ (.tail _ (.tail _ (.head _)))))))) rfl
  have hCs : ∀ c ∈ ([(.ofNat 0, [(.negSucc 0, 0), (.ofNat 1, 3)]), (.ofNat 0, [(.ofNat 1, 0), (.negSucc 0, 3)]), (.ofNat 0, [(.negSucc 0, 2), (.ofNat 1, 4)]), (.ofNat 0, [(.ofNat 1, 2), (.negSucc 0, 4)]), (.ofNat 1, [(.ofNat 1, 1), (.negSucc 0, 5)])] : List sLn), ∃ x, sE [s0, s1, s2, s3, s4, s5, s6, s7] c = some x ∧ x ≤ 0 := hN.2.2.1
  have c0 : ((0 : Int) + ((-1 : Int) * s0 + ((1 : Int) * s3 + 0))) ≤ 0 := csX (hCs _ (.head _)) rfl
  have c1 : ((0 : Int) + ((1 : Int) * s0 + ((-1 : Int) * s3 + 0))) ≤ 0 := csX (hCs _ (.tail _ (.head _))) rfl
  have c2 : ((0 : Int) + ((-1 : Int) * s2 + ((1 : Int) * s4 + 0))) ≤ 0 := csX (hCs _ (.tail _ (.tail _ (.head _)))) rfl
  have c3 : ((0 : Int) + ((1 : Int) * s2 + ((-1 : Int) * s4 + 0))) ≤ 0 := csX (hCs _ (.tail _ (.tail _ (.tail _ (.head _))))) rfl
  have c4 : ((1 : Int) + ((1 : Int) * s1 + ((-1 : Int) * s5 + 0))) ≤ 0 := csX (hCs _ (.tail _ (.tail _ (.tail _ (.tail _ (.head _)))))) rfl
  have hRf : ∀ q ∈ ([((78, .ofNat 273, []), (.ofNat 18, []), 1, .ofNat 0, [(.ofNat 1, 2)]), ((81, .ofNat 276, []), (.ofNat 272, [(.ofNat 1, 1)]), 1, .ofNat 0, [(.ofNat 1, 3)]), ((81, .ofNat 276, []), (.ofNat 286, [(.ofNat 1, 1)]), 1, .ofNat 0, [(.ofNat 1, 4)]), ((81, .ofNat 276, []), (.ofNat 5, []), 1, .ofNat 0, [(.ofNat 1, 5)])] : List sRf), rfOk [s0, s1, s2, s3, s4, s5, s6, s7] hp q := hH.1
  have h0 : hI hp 273 18 = s2 := rfI0 (hRf _ (.head _)) (sE_k _ _) (sE_k _ _) (sE_V rfl)
  obtain ⟨i1, e1, l1, h1⟩ := rfI (xv := s3) (iv := (s1 + 272)) (hRf _ (.tail _ (.head _))) (sE_k _ _) (sEv (y' := ((272 : Int) + ((1 : Int) * s1 + 0))) rfl (by omega)) (sE_V rfl)
  have l1 : i1 < 401 := l1
  have h1 : hI hp 276 i1 = s3 := h1
  obtain ⟨i2, e2, l2, h2⟩ := rfI (xv := s4) (iv := (s1 + 286)) (hRf _ (.tail _ (.tail _ (.head _)))) (sE_k _ _) (sEv (y' := ((286 : Int) + ((1 : Int) * s1 + 0))) rfl (by omega)) (sE_V rfl)
  have l2 : i2 < 401 := l2
  have h2 : hI hp 276 i2 = s4 := h2
  have h3 : hI hp 276 5 = s5 := rfI0 (hRf _ (.tail _ (.tail _ (.tail _ (.head _))))) (sE_k _ _) (sE_k _ _) (sE_V rfl)
  have y3 : (0 : Int) ≤ s5 ∧ s5 ≤ (14 : Int) := by rw [← h3]; exact hI_ty hO (by decide) rfl
  have hFc : ∀ q ∈ ([(161, [(.ofNat 0, [(.ofNat 1, 1)]), (.ofNat 0, [(.ofNat 1, 6)]), (.ofNat 0, [(.ofNat 1, 7)]), (.ofNat 0, [(.ofNat 1, 0)]), (.ofNat 0, [(.ofNat 1, 2)])]), (159, [(.ofNat 0, [(.ofNat 1, 5)]), (.ofNat 0, [(.ofNat 1, 7)])])] : List sFc), fcOk fFS [s0, s1, s2, s3, s4, s5, s6, s7] hp q := hH.2
  have f0 : dF (MT hp) s7 (fun D => (s6 = 1 ∧ ¬ fre D s0 s2) ∨ (s6 = 0 ∧ (s0, s2) ∉ dWa D ∧ ∀ i : Nat, i < 14 → (i : Int) < s1 → ¬ (hI hp 276 (272 + i) = s0 ∧ hI hp 276 (286 + i) = s2))) := fcX (ys := [s1, s6, s7, s0, s2]) (hFc _ (.head _)) ⟨sE_V rfl, sE_V rfl, sE_V rfl, sE_V rfl, sE_V rfl, trivial⟩
  have f1 : dF (MT hp) s7 (fun D => s5 = (dTr D).length ∧ ∀ i : Nat, i < 14 → (i : Int) < s5 → (dTr D)[i]? = some (hI hp 276 (272 + i), hI hp 276 (286 + i))) := fcX (ys := [s5, s7]) (hFc _ (.tail _ (.head _))) ⟨sE_V rfl, sE_V rfl, trivial⟩
  exact poX (.head _) rfl hR (all_nil) (all_nil) (all_cons ⟨[(s1 + 1), 1, s7, s0, s2], ⟨sEv (y' := ((1 : Int) + ((1 : Int) * s1 + 0))) rfl (by omega), sE_k _ _, sE_V rfl, sE_V rfl, sE_V rfl, trivial⟩, (show dF (MT hp) s7 (fun D => ((1 : Int) = 1 ∧ ¬ fre D s0 s2) ∨ ((1 : Int) = 0 ∧ (s0, s2) ∉ dWa D ∧ ∀ i : Nat, i < 14 → (i : Int) < (s1 + 1) → ¬ (hI hp 276 (272 + i) = s0 ∧ hI hp 276 (286 + i) = s2))) from dF_mp f1 (fun D h => thd_t h h1 h2 (j0 := i1 - 272) (by omega) (by omega) (by omega) (by omega) (by omega) (by omega) rfl))⟩ (all_nil))
theorem rl691 : ruOk fFS gR691 := by
  intro r hp hO hN hH
  obtain ⟨s0, s1, s2, s3, s4, s5, s6, s7, rfl⟩ := len8 (show r.length = 8 from hN.1)
  have hR := hN.2.1.1
  have hIv : ∀ q ∈ ([(0, .negSucc 2147483647, .ofNat 2147483647), (1, .ofNat 0, .ofNat 13), (2, .negSucc 2147483647, .ofNat 2147483647), (3, .negSucc 2147483647, .ofNat 2147483647), (4, .negSucc 2147483647, .ofNat 2147483647), (5, .negSucc 2147483647, .ofNat 2147483647), (6, .ofNat 0, .ofNat 0), (7, .negSucc 2147483647, .ofNat 2147483647)] : sIv), ∃ x, ([s0, s1, s2, s3, s4, s5, s6, s7] : List Int)[q.1]? = some x ∧ q.2.1 ≤ x ∧ x ≤ q.2.2 := hN.2.1.2
  have b1 : (0 : Int) ≤ s1 ∧ s1 ≤ (13 : Int) := ivX (q := (1, .ofNat 0, .ofNat 13)) (y := s1) (hIv _ (.tail _ (.head _))) rfl
  have b6 : (0 : Int) ≤ s6 ∧ s6 ≤ (0 : Int) := ivX (q := (6, .ofNat 0, .ofNat 0)) (y := s6) (hIv _ (.tail _ (.tail _ (.tail _ (.tail _ (.tail _ (.tail _ (.head _)))))))) rfl
  have hCs : ∀ c ∈ ([(.ofNat 1, [(.negSucc 0, 0), (.ofNat 1, 3)]), (.ofNat 1, [(.ofNat 1, 1), (.negSucc 0, 5)])] : List sLn), ∃ x, sE [s0, s1, s2, s3, s4, s5, s6, s7] c = some x ∧ x ≤ 0 := hN.2.2.1
  have c0 : ((1 : Int) + ((-1 : Int) * s0 + ((1 : Int) * s3 + 0))) ≤ 0 := csX (hCs _ (.head _)) rfl
  have c1 : ((1 : Int) + ((1 : Int) * s1 + ((-1 : Int) * s5 + 0))) ≤ 0 := csX (hCs _ (.tail _ (.head _))) rfl
  have hRf : ∀ q ∈ ([((78, .ofNat 273, []), (.ofNat 18, []), 1, .ofNat 0, [(.ofNat 1, 2)]), ((81, .ofNat 276, []), (.ofNat 272, [(.ofNat 1, 1)]), 1, .ofNat 0, [(.ofNat 1, 3)]), ((81, .ofNat 276, []), (.ofNat 286, [(.ofNat 1, 1)]), 1, .ofNat 0, [(.ofNat 1, 4)]), ((81, .ofNat 276, []), (.ofNat 5, []), 1, .ofNat 0, [(.ofNat 1, 5)])] : List sRf), rfOk [s0, s1, s2, s3, s4, s5, s6, s7] hp q := hH.1
  have h0 : hI hp 273 18 = s2 := rfI0 (hRf _ (.head _)) (sE_k _ _) (sE_k _ _) (sE_V rfl)
  obtain ⟨i1, e1, l1, h1⟩ := rfI (xv := s3) (iv := (s1 + 272)) (hRf _ (.tail _ (.head _))) (sE_k _ _) (sEv (y' := ((272 : Int) + ((1 : Int) * s1 + 0))) rfl (by omega)) (sE_V rfl)
  have l1 : i1 < 401 := l1
  have h1 : hI hp 276 i1 = s3 := h1
  obtain ⟨i2, e2, l2, h2⟩ := rfI (xv := s4) (iv := (s1 + 286)) (hRf _ (.tail _ (.tail _ (.head _)))) (sE_k _ _) (sEv (y' := ((286 : Int) + ((1 : Int) * s1 + 0))) rfl (by omega)) (sE_V rfl)
  have l2 : i2 < 401 := l2
  have h2 : hI hp 276 i2 = s4 := h2
  have h3 : hI hp 276 5 = s5 := rfI0 (hRf _ (.tail _ (.tail _ (.tail _ (.head _))))) (sE_k _ _) (sE_k _ _) (sE_V rfl)
  have y3 : (0 : Int) ≤ s5 ∧ s5 ≤ (14 : Int) := by rw [← h3]; exact hI_ty hO (by decide) rfl
  have hFc : ∀ q ∈ ([(161, [(.ofNat 0, [(.ofNat 1, 1)]), (.ofNat 0, [(.ofNat 1, 6)]), (.ofNat 0, [(.ofNat 1, 7)]), (.ofNat 0, [(.ofNat 1, 0)]), (.ofNat 0, [(.ofNat 1, 2)])]), (159, [(.ofNat 0, [(.ofNat 1, 5)]), (.ofNat 0, [(.ofNat 1, 7)])])] : List sFc), fcOk fFS [s0, s1, s2, s3, s4, s5, s6, s7] hp q := hH.2
  have f0 : dF (MT hp) s7 (fun D => (s6 = 1 ∧ ¬ fre D s0 s2) ∨ (s6 = 0 ∧ (s0, s2) ∉ dWa D ∧ ∀ i : Nat, i < 14 → (i : Int) < s1 → ¬ (hI hp 276 (272 + i) = s0 ∧ hI hp 276 (286 + i) = s2))) := fcX (ys := [s1, s6, s7, s0, s2]) (hFc _ (.head _)) ⟨sE_V rfl, sE_V rfl, sE_V rfl, sE_V rfl, sE_V rfl, trivial⟩
  have f1 : dF (MT hp) s7 (fun D => s5 = (dTr D).length ∧ ∀ i : Nat, i < 14 → (i : Int) < s5 → (dTr D)[i]? = some (hI hp 276 (272 + i), hI hp 276 (286 + i))) := fcX (ys := [s5, s7]) (hFc _ (.tail _ (.head _))) ⟨sE_V rfl, sE_V rfl, trivial⟩
  exact poX (.head _) rfl hR (all_nil) (all_nil) (all_cons ⟨[(s1 + 1), 0, s7, s0, s2], ⟨sEv (y' := ((1 : Int) + ((1 : Int) * s1 + 0))) rfl (by omega), sE_k _ _, sE_V rfl, sE_V rfl, sE_V rfl, trivial⟩, (show dF (MT hp) s7 (fun D => ((0 : Int) = 1 ∧ ¬ fre D s0 s2) ∨ ((0 : Int) = 0 ∧ (s0, s2) ∉ dWa D ∧ ∀ i : Nat, i < 14 → (i : Int) < (s1 + 1) → ¬ (hI hp 276 (272 + i) = s0 ∧ hI hp 276 (286 + i) = s2))) from dF_mp f0 (fun D h => thd_n h (by omega) h1 h2 (by omega) (by omega) (by omega) (by omega) rfl))⟩ (all_nil))
theorem rl692 : ruOk fFS gR692 := by
  intro r hp hO hN hH
  obtain ⟨s0, s1, s2, s3, s4, s5, s6, s7, rfl⟩ := len8 (show r.length = 8 from hN.1)
  have hR := hN.2.1.1
  have hIv : ∀ q ∈ ([(0, .negSucc 2147483647, .ofNat 2147483647), (1, .ofNat 0, .ofNat 13), (2, .negSucc 2147483647, .ofNat 2147483647), (3, .negSucc 2147483647, .ofNat 2147483647), (4, .negSucc 2147483647, .ofNat 2147483647), (5, .negSucc 2147483647, .ofNat 2147483647), (6, .ofNat 0, .ofNat 0), (7, .negSucc 2147483647, .ofNat 2147483647)] : sIv), ∃ x, ([s0, s1, s2, s3, s4, s5, s6, s7] : List Int)[q.1]? = some x ∧ q.2.1 ≤ x ∧ x ≤ q.2.2 := hN.2.1.2
  have b1 : (0 : Int) ≤ s1 ∧ s1 ≤ (13 : Int) := ivX (q := (1, .ofNat 0, .ofNat 13)) (y := s1) (hIv _ (.tail _ (.head _))) rfl
  have b6 : (0 : Int) ≤ s6 ∧ s6 ≤ (0 : Int) := ivX (q := (6, .ofNat 0, .ofNat 0)) (y := s6) (hIv _ (.tail _ (.tail _ (.tail _ (.tail _ (.tail _ (.tail _ (.head _)))))))) rfl
  have hCs : ∀ c ∈ ([(.ofNat 1, [(.ofNat 1, 0), (.negSucc 0, 3)]), (.ofNat 1, [(.ofNat 1, 1), (.negSucc 0, 5)])] : List sLn), ∃ x, sE [s0, s1, s2, s3, s4, s5, s6, s7] c = some x ∧ x ≤ 0 := hN.2.2.1
  have c0 : ((1 : Int) + ((1 : Int) * s0 + ((-1 : Int) * s3 + 0))) ≤ 0 := csX (hCs _ (.head _)) rfl
  have c1 : ((1 : Int) + ((1 : Int) * s1 + ((-1 : Int) * s5 + 0))) ≤ 0 := csX (hCs _ (.tail _ (.head _))) rfl
  have hRf : ∀ q ∈ ([((78, .ofNat 273, []), (.ofNat 18, []), 1, .ofNat 0, [(.ofNat 1, 2)]), ((81, .ofNat 276, []), (.ofNat 272, [(.ofNat 1, 1)]), 1, .ofNat 0, [(.ofNat 1, 3)]), ((81, .ofNat 276, []), (.ofNat 286, [(.ofNat 1, 1)]), 1, .ofNat 0, [(.ofNat 1, 4)]), ((81, .ofNat 276, []), (.ofNat 5, []), 1, .ofNat 0, [(.ofNat 1, 5)])] : List sRf), rfOk [s0, s1, s2, s3, s4, s5, s6, s7] hp q := hH.1
  have h0 : hI hp 273 18 = s2 := rfI0 (hRf _ (.head _)) (sE_k _ _) (sE_k _ _) (sE_V rfl)
  obtain ⟨i1, e1, l1, h1⟩ := rfI (xv := s3) (iv := (s1 + 272)) (hRf _ (.tail _ (.head _))) (sE_k _ _) (sEv (y' := ((272 : Int) + ((1 : Int) * s1 + 0))) rfl (by omega)) (sE_V rfl)
  have l1 : i1 < 401 := l1
  have h1 : hI hp 276 i1 = s3 := h1
  obtain ⟨i2, e2, l2, h2⟩ := rfI (xv := s4) (iv := (s1 + 286)) (hRf _ (.tail _ (.tail _ (.head _)))) (sE_k _ _) (sEv (y' := ((286 : Int) + ((1 : Int) * s1 + 0))) rfl (by omega)) (sE_V rfl)
  have l2 : i2 < 401 := l2
  have h2 : hI hp 276 i2 = s4 := h2
  have h3 : hI hp 276 5 = s5 := rfI0 (hRf _ (.tail _ (.tail _ (.tail _ (.head _))))) (sE_k _ _) (sE_k _ _) (sE_V rfl)
  have y3 : (0 : Int) ≤ s5 ∧ s5 ≤ (14 : Int) := by rw [← h3]; exact hI_ty hO (by decide) rfl
  have hFc : ∀ q ∈ ([(161, [(.ofNat 0, [(.ofNat 1, 1)]), (.ofNat 0, [(.ofNat 1, 6)]), (.ofNat 0, [(.ofNat 1, 7)]), (.ofNat 0, [(.ofNat 1, 0)]), (.ofNat 0, [(.ofNat 1, 2)])]), (159, [(.ofNat 0, [(.ofNat 1, 5)]), (.ofNat 0, [(.ofNat 1, 7)])])] : List sFc), fcOk fFS [s0, s1, s2, s3, s4, s5, s6, s7] hp q := hH.2
  have f0 : dF (MT hp) s7 (fun D => (s6 = 1 ∧ ¬ fre D s0 s2) ∨ (s6 = 0 ∧ (s0, s2) ∉ dWa D ∧ ∀ i : Nat, i < 14 → (i : Int) < s1 → ¬ (hI hp 276 (272 + i) = s0 ∧ hI hp 276 (286 + i) = s2))) := fcX (ys := [s1, s6, s7, s0, s2]) (hFc _ (.head _)) ⟨sE_V rfl, sE_V rfl, sE_V rfl, sE_V rfl, sE_V rfl, trivial⟩
  have f1 : dF (MT hp) s7 (fun D => s5 = (dTr D).length ∧ ∀ i : Nat, i < 14 → (i : Int) < s5 → (dTr D)[i]? = some (hI hp 276 (272 + i), hI hp 276 (286 + i))) := fcX (ys := [s5, s7]) (hFc _ (.tail _ (.head _))) ⟨sE_V rfl, sE_V rfl, trivial⟩
  exact poX (.head _) rfl hR (all_nil) (all_nil) (all_cons ⟨[(s1 + 1), 0, s7, s0, s2], ⟨sEv (y' := ((1 : Int) + ((1 : Int) * s1 + 0))) rfl (by omega), sE_k _ _, sE_V rfl, sE_V rfl, sE_V rfl, trivial⟩, (show dF (MT hp) s7 (fun D => ((0 : Int) = 1 ∧ ¬ fre D s0 s2) ∨ ((0 : Int) = 0 ∧ (s0, s2) ∉ dWa D ∧ ∀ i : Nat, i < 14 → (i : Int) < (s1 + 1) → ¬ (hI hp 276 (272 + i) = s0 ∧ hI hp 276 (286 + i) = s2))) from dF_mp f0 (fun D h => thd_n h (by omega) h1 h2 (by omega) (by omega) (by omega) (by omega) rfl))⟩ (all_nil))
theorem rl693 : ruOk fFS gR693 := by
  intro r hp hO hN hH
  obtain ⟨s0, s1, s2, s3, s4, s5, s6, s7, rfl⟩ := len8 (show r.length = 8 from hN.1)
  have hR := hN.2.1.1
  have hIv : ∀ q ∈ ([(0, .negSucc 2147483647, .ofNat 2147483647), (1, .ofNat 0, .ofNat 13), (2, .negSucc 2147483647, .ofNat 2147483647), (3, .negSucc 2147483647, .ofNat 2147483647), (4, .negSucc 2147483647, .ofNat 2147483647), (5, .negSucc 2147483647, .ofNat 2147483647), (6, .ofNat 0, .ofNat 0), (7, .negSucc 2147483647, .ofNat 2147483647)] : sIv), ∃ x, ([s0, s1, s2, s3, s4, s5, s6, s7] : List Int)[q.1]? = some x ∧ q.2.1 ≤ x ∧ x ≤ q.2.2 := hN.2.1.2
  have b1 : (0 : Int) ≤ s1 ∧ s1 ≤ (13 : Int) := ivX (q := (1, .ofNat 0, .ofNat 13)) (y := s1) (hIv _ (.tail _ (.head _))) rfl
  have b6 : (0 : Int) ≤ s6 ∧ s6 ≤ (0 : Int) := ivX (q := (6, .ofNat 0, .ofNat 0)) (y := s6) (hIv _ (.tail _ (.tail _ (.tail _ (.tail _ (.tail _ (.tail _ (.head _)))))))) rfl
  have hCs : ∀ c ∈ ([(.ofNat 1, [(.negSucc 0, 2), (.ofNat 1, 4)]), (.ofNat 1, [(.ofNat 1, 1), (.negSucc 0, 5)])] : List sLn), ∃ x, sE [s0, s1, s2, s3, s4, s5, s6, s7] c = some x ∧ x ≤ 0 := hN.2.2.1
  have c0 : ((1 : Int) + ((-1 : Int) * s2 + ((1 : Int) * s4 + 0))) ≤ 0 := csX (hCs _ (.head _)) rfl
  have c1 : ((1 : Int) + ((1 : Int) * s1 + ((-1 : Int) * s5 + 0))) ≤ 0 := csX (hCs _ (.tail _ (.head _))) rfl
  have hRf : ∀ q ∈ ([((78, .ofNat 273, []), (.ofNat 18, []), 1, .ofNat 0, [(.ofNat 1, 2)]), ((81, .ofNat 276, []), (.ofNat 272, [(.ofNat 1, 1)]), 1, .ofNat 0, [(.ofNat 1, 3)]), ((81, .ofNat 276, []), (.ofNat 286, [(.ofNat 1, 1)]), 1, .ofNat 0, [(.ofNat 1, 4)]), ((81, .ofNat 276, []), (.ofNat 5, []), 1, .ofNat 0, [(.ofNat 1, 5)])] : List sRf), rfOk [s0, s1, s2, s3, s4, s5, s6, s7] hp q := hH.1
  have h0 : hI hp 273 18 = s2 := rfI0 (hRf _ (.head _)) (sE_k _ _) (sE_k _ _) (sE_V rfl)
  obtain ⟨i1, e1, l1, h1⟩ := rfI (xv := s3) (iv := (s1 + 272)) (hRf _ (.tail _ (.head _))) (sE_k _ _) (sEv (y' := ((272 : Int) + ((1 : Int) * s1 + 0))) rfl (by omega)) (sE_V rfl)
  have l1 : i1 < 401 := l1
  have h1 : hI hp 276 i1 = s3 := h1
  obtain ⟨i2, e2, l2, h2⟩ := rfI (xv := s4) (iv := (s1 + 286)) (hRf _ (.tail _ (.tail _ (.head _)))) (sE_k _ _) (sEv (y' := ((286 : Int) + ((1 : Int) * s1 + 0))) rfl (by omega)) (sE_V rfl)
  have l2 : i2 < 401 := l2
  have h2 : hI hp 276 i2 = s4 := h2
  have h3 : hI hp 276 5 = s5 := rfI0 (hRf _ (.tail _ (.tail _ (.tail _ (.head _))))) (sE_k _ _) (sE_k _ _) (sE_V rfl)
  have y3 : (0 : Int) ≤ s5 ∧ s5 ≤ (14 : Int) := by rw [← h3]; exact hI_ty hO (by decide) rfl
  have hFc : ∀ q ∈ ([(161, [(.ofNat 0, [(.ofNat 1, 1)]), (.ofNat 0, [(.ofNat 1, 6)]), (.ofNat 0, [(.ofNat 1, 7)]), (.ofNat 0, [(.ofNat 1, 0)]), (.ofNat 0, [(.ofNat 1, 2)])]), (159, [(.ofNat 0, [(.ofNat 1, 5)]), (.ofNat 0, [(.ofNat 1, 7)])])] : List sFc), fcOk fFS [s0, s1, s2, s3, s4, s5, s6, s7] hp q := hH.2
  have f0 : dF (MT hp) s7 (fun D => (s6 = 1 ∧ ¬ fre D s0 s2) ∨ (s6 = 0 ∧ (s0, s2) ∉ dWa D ∧ ∀ i : Nat, i < 14 → (i : Int) < s1 → ¬ (hI hp 276 (272 + i) = s0 ∧ hI hp 276 (286 + i) = s2))) := fcX (ys := [s1, s6, s7, s0, s2]) (hFc _ (.head _)) ⟨sE_V rfl, sE_V rfl, sE_V rfl, sE_V rfl, sE_V rfl, trivial⟩
  have f1 : dF (MT hp) s7 (fun D => s5 = (dTr D).length ∧ ∀ i : Nat, i < 14 → (i : Int) < s5 → (dTr D)[i]? = some (hI hp 276 (272 + i), hI hp 276 (286 + i))) := fcX (ys := [s5, s7]) (hFc _ (.tail _ (.head _))) ⟨sE_V rfl, sE_V rfl, trivial⟩
  exact poX (.head _) rfl hR (all_nil) (all_nil) (all_cons ⟨[(s1 + 1), 0, s7, s0, s2], ⟨sEv (y' := ((1 : Int) + ((1 : Int) * s1 + 0))) rfl (by omega), sE_k _ _, sE_V rfl, sE_V rfl, sE_V rfl, trivial⟩, (show dF (MT hp) s7 (fun D => ((0 : Int) = 1 ∧ ¬ fre D s0 s2) ∨ ((0 : Int) = 0 ∧ (s0, s2) ∉ dWa D ∧ ∀ i : Nat, i < 14 → (i : Int) < (s1 + 1) → ¬ (hI hp 276 (272 + i) = s0 ∧ hI hp 276 (286 + i) = s2))) from dF_mp f0 (fun D h => thd_n h (by omega) h1 h2 (by omega) (by omega) (by omega) (by omega) rfl))⟩ (all_nil))
theorem rl694 : ruOk fFS gR694 := by
  intro r hp hO hN hH
  obtain ⟨s0, s1, s2, s3, s4, s5, s6, s7, rfl⟩ := len8 (show r.length = 8 from hN.1)
  have hR := hN.2.1.1
  have hIv : ∀ q ∈ ([(0, .negSucc 2147483647, .ofNat 2147483647), (1, .ofNat 0, .ofNat 13), (2, .negSucc 2147483647, .ofNat 2147483647), (3, .negSucc 2147483647, .ofNat 2147483647), (4, .negSucc 2147483647, .ofNat 2147483647), (5, .negSucc 2147483647, .ofNat 2147483647), (6, .ofNat 0, .ofNat 0), (7, .negSucc 2147483647, .ofNat 2147483647)] : sIv), ∃ x, ([s0, s1, s2, s3, s4, s5, s6, s7] : List Int)[q.1]? = some x ∧ q.2.1 ≤ x ∧ x ≤ q.2.2 := hN.2.1.2
  have b1 : (0 : Int) ≤ s1 ∧ s1 ≤ (13 : Int) := ivX (q := (1, .ofNat 0, .ofNat 13)) (y := s1) (hIv _ (.tail _ (.head _))) rfl
  have b6 : (0 : Int) ≤ s6 ∧ s6 ≤ (0 : Int) := ivX (q := (6, .ofNat 0, .ofNat 0)) (y := s6) (hIv _ (.tail _ (.tail _ (.tail _ (.tail _ (.tail _ (.tail _ (.head _)))))))) rfl
  have hCs : ∀ c ∈ ([(.ofNat 1, [(.ofNat 1, 2), (.negSucc 0, 4)]), (.ofNat 1, [(.ofNat 1, 1), (.negSucc 0, 5)])] : List sLn), ∃ x, sE [s0, s1, s2, s3, s4, s5, s6, s7] c = some x ∧ x ≤ 0 := hN.2.2.1
  have c0 : ((1 : Int) + ((1 : Int) * s2 + ((-1 : Int) * s4 + 0))) ≤ 0 := csX (hCs _ (.head _)) rfl
  have c1 : ((1 : Int) + ((1 : Int) * s1 + ((-1 : Int) * s5 + 0))) ≤ 0 := csX (hCs _ (.tail _ (.head _))) rfl
  have hRf : ∀ q ∈ ([((78, .ofNat 273, []), (.ofNat 18, []), 1, .ofNat 0, [(.ofNat 1, 2)]), ((81, .ofNat 276, []), (.ofNat 272, [(.ofNat 1, 1)]), 1, .ofNat 0, [(.ofNat 1, 3)]), ((81, .ofNat 276, []), (.ofNat 286, [(.ofNat 1, 1)]), 1, .ofNat 0, [(.ofNat 1, 4)]), ((81, .ofNat 276, []), (.ofNat 5, []), 1, .ofNat 0, [(.ofNat 1, 5)])] : List sRf), rfOk [s0, s1, s2, s3, s4, s5, s6, s7] hp q := hH.1
  have h0 : hI hp 273 18 = s2 := rfI0 (hRf _ (.head _)) (sE_k _ _) (sE_k _ _) (sE_V rfl)
  obtain ⟨i1, e1, l1, h1⟩ := rfI (xv := s3) (iv := (s1 + 272)) (hRf _ (.tail _ (.head _))) (sE_k _ _) (sEv (y' := ((272 : Int) + ((1 : Int) * s1 + 0))) rfl (by omega)) (sE_V rfl)
  have l1 : i1 < 401 := l1
  have h1 : hI hp 276 i1 = s3 := h1
  obtain ⟨i2, e2, l2, h2⟩ := rfI (xv := s4) (iv := (s1 + 286)) (hRf _ (.tail _ (.tail _ (.head _)))) (sE_k _ _) (sEv (y' := ((286 : Int) + ((1 : Int) * s1 + 0))) rfl (by omega)) (sE_V rfl)
  have l2 : i2 < 401 := l2
  have h2 : hI hp 276 i2 = s4 := h2
  have h3 : hI hp 276 5 = s5 := rfI0 (hRf _ (.tail _ (.tail _ (.tail _ (.head _))))) (sE_k _ _) (sE_k _ _) (sE_V rfl)
  have y3 : (0 : Int) ≤ s5 ∧ s5 ≤ (14 : Int) := by rw [← h3]; exact hI_ty hO (by decide) rfl
  have hFc : ∀ q ∈ ([(161, [(.ofNat 0, [(.ofNat 1, 1)]), (.ofNat 0, [(.ofNat 1, 6)]), (.ofNat 0, [(.ofNat 1, 7)]), (.ofNat 0, [(.ofNat 1, 0)]), (.ofNat 0, [(.ofNat 1, 2)])]), (159, [(.ofNat 0, [(.ofNat 1, 5)]), (.ofNat 0, [(.ofNat 1, 7)])])] : List sFc), fcOk fFS [s0, s1, s2, s3, s4, s5, s6, s7] hp q := hH.2
  have f0 : dF (MT hp) s7 (fun D => (s6 = 1 ∧ ¬ fre D s0 s2) ∨ (s6 = 0 ∧ (s0, s2) ∉ dWa D ∧ ∀ i : Nat, i < 14 → (i : Int) < s1 → ¬ (hI hp 276 (272 + i) = s0 ∧ hI hp 276 (286 + i) = s2))) := fcX (ys := [s1, s6, s7, s0, s2]) (hFc _ (.head _)) ⟨sE_V rfl, sE_V rfl, sE_V rfl, sE_V rfl, sE_V rfl, trivial⟩
  have f1 : dF (MT hp) s7 (fun D => s5 = (dTr D).length ∧ ∀ i : Nat, i < 14 → (i : Int) < s5 → (dTr D)[i]? = some (hI hp 276 (272 + i), hI hp 276 (286 + i))) := fcX (ys := [s5, s7]) (hFc _ (.tail _ (.head _))) ⟨sE_V rfl, sE_V rfl, trivial⟩
  exact poX (.head _) rfl hR (all_nil) (all_nil) (all_cons ⟨[(s1 + 1), 0, s7, s0, s2], ⟨sEv (y' := ((1 : Int) + ((1 : Int) * s1 + 0))) rfl (by omega), sE_k _ _, sE_V rfl, sE_V rfl, sE_V rfl, trivial⟩, (show dF (MT hp) s7 (fun D => ((0 : Int) = 1 ∧ ¬ fre D s0 s2) ∨ ((0 : Int) = 0 ∧ (s0, s2) ∉ dWa D ∧ ∀ i : Nat, i < 14 → (i : Int) < (s1 + 1) → ¬ (hI hp 276 (272 + i) = s0 ∧ hI hp 276 (286 + i) = s2))) from dF_mp f0 (fun D h => thd_n h (by omega) h1 h2 (by omega) (by omega) (by omega) (by omega) rfl))⟩ (all_nil))
theorem rl695 : ruOk fFS gR695 := by
  intro r hp hO hN hH
  obtain ⟨s0, s1, s2, s3, s4, s5, rfl⟩ := len6 (show r.length = 6 from hN.1)
  have hR := hN.2.1.1
  have hIv : ∀ q ∈ ([(0, .negSucc 2147483647, .ofNat 2147483647), (1, .ofNat 0, .ofNat 0), (2, .negSucc 2147483647, .ofNat 2147483647), (3, .negSucc 2147483647, .ofNat 2147483647), (4, .negSucc 2147483647, .ofNat 2147483647), (5, .negSucc 2147483647, .ofNat 2147483647)] : sIv), ∃ x, ([s0, s1, s2, s3, s4, s5] : List Int)[q.1]? = some x ∧ q.2.1 ≤ x ∧ x ≤ q.2.2 := hN.2.1.2
  have b1 : (0 : Int) ≤ s1 ∧ s1 ≤ (0 : Int) := ivX (q := (1, .ofNat 0, .ofNat 0)) (y := s1) (hIv _ (.tail _ (.head _))) rfl
  have hCs : ∀ c ∈ ([(.ofNat 0, [(.negSucc 0, 2), (.ofNat 1, 4)])] : List sLn), ∃ x, sE [s0, s1, s2, s3, s4, s5] c = some x ∧ x ≤ 0 := hN.2.2.1
  have c0 : ((0 : Int) + ((-1 : Int) * s2 + ((1 : Int) * s4 + 0))) ≤ 0 := csX (hCs _ (.head _)) rfl
  have hRf : ∀ q ∈ ([((78, .ofNat 273, []), (.ofNat 18, []), 1, .ofNat 0, [(.ofNat 1, 3)]), ((81, .ofNat 276, []), (.ofNat 5, []), 1, .ofNat 0, [(.ofNat 1, 4)])] : List sRf), rfOk [s0, s1, s2, s3, s4, s5] hp q := hH.1
  have h0 : hI hp 273 18 = s3 := rfI0 (hRf _ (.head _)) (sE_k _ _) (sE_k _ _) (sE_V rfl)
  have h1 : hI hp 276 5 = s4 := rfI0 (hRf _ (.tail _ (.head _))) (sE_k _ _) (sE_k _ _) (sE_V rfl)
  have y1 : (0 : Int) ≤ s4 ∧ s4 ≤ (14 : Int) := by rw [← h1]; exact hI_ty hO (by decide) rfl
  have hFc : ∀ q ∈ ([(161, [(.ofNat 0, [(.ofNat 1, 2)]), (.ofNat 0, [(.ofNat 1, 1)]), (.ofNat 0, [(.ofNat 1, 5)]), (.ofNat 0, [(.ofNat 1, 0)]), (.ofNat 0, [(.ofNat 1, 3)])]), (159, [(.ofNat 0, [(.ofNat 1, 4)]), (.ofNat 0, [(.ofNat 1, 5)])])] : List sFc), fcOk fFS [s0, s1, s2, s3, s4, s5] hp q := hH.2
  have f0 : dF (MT hp) s5 (fun D => (s1 = 1 ∧ ¬ fre D s0 s3) ∨ (s1 = 0 ∧ (s0, s3) ∉ dWa D ∧ ∀ i : Nat, i < 14 → (i : Int) < s2 → ¬ (hI hp 276 (272 + i) = s0 ∧ hI hp 276 (286 + i) = s3))) := fcX (ys := [s2, s1, s5, s0, s3]) (hFc _ (.head _)) ⟨sE_V rfl, sE_V rfl, sE_V rfl, sE_V rfl, sE_V rfl, trivial⟩
  have f1 : dF (MT hp) s5 (fun D => s4 = (dTr D).length ∧ ∀ i : Nat, i < 14 → (i : Int) < s4 → (dTr D)[i]? = some (hI hp 276 (272 + i), hI hp 276 (286 + i))) := fcX (ys := [s4, s5]) (hFc _ (.tail _ (.head _))) ⟨sE_V rfl, sE_V rfl, trivial⟩
  exact poX (.head _) rfl hR (all_nil) (all_nil) (all_cons ⟨[s5, s0, s3, 1], ⟨sE_V rfl, sE_V rfl, sE_V rfl, sE_k _ _, trivial⟩, (show dF (MT hp) s5 (fun D => bP (1 : Int) (fre D s0 s3)) from dF_mp (dF_I (MT_ok hO) (dF_2 (MT_ok hO) f0 f1)) (fun D h => thd_f h.2.1 h.2.2 (by omega) (by omega) h.1 rfl))⟩ (all_nil))
theorem rl696 : ruOk fFS gR696 := by
  intro r hp hO hN hH
  obtain ⟨s0, s1, s2, s3, s4, s5, rfl⟩ := len6 (show r.length = 6 from hN.1)
  have hR := hN.2.1.1
  have hIv : ∀ q ∈ ([(0, .negSucc 2147483647, .ofNat 2147483647), (1, .ofNat 1, .ofNat 1), (2, .negSucc 2147483647, .ofNat 2147483647), (3, .negSucc 2147483647, .ofNat 2147483647), (4, .negSucc 2147483647, .ofNat 2147483647), (5, .negSucc 2147483647, .ofNat 2147483647)] : sIv), ∃ x, ([s0, s1, s2, s3, s4, s5] : List Int)[q.1]? = some x ∧ q.2.1 ≤ x ∧ x ≤ q.2.2 := hN.2.1.2
  have b1 : (1 : Int) ≤ s1 ∧ s1 ≤ (1 : Int) := ivX (q := (1, .ofNat 1, .ofNat 1)) (y := s1) (hIv _ (.tail _ (.head _))) rfl
  have hCs : ∀ c ∈ ([(.ofNat 0, [(.negSucc 0, 2), (.ofNat 1, 4)])] : List sLn), ∃ x, sE [s0, s1, s2, s3, s4, s5] c = some x ∧ x ≤ 0 := hN.2.2.1
  have c0 : ((0 : Int) + ((-1 : Int) * s2 + ((1 : Int) * s4 + 0))) ≤ 0 := csX (hCs _ (.head _)) rfl
  have hRf : ∀ q ∈ ([((78, .ofNat 273, []), (.ofNat 18, []), 1, .ofNat 0, [(.ofNat 1, 3)]), ((81, .ofNat 276, []), (.ofNat 5, []), 1, .ofNat 0, [(.ofNat 1, 4)])] : List sRf), rfOk [s0, s1, s2, s3, s4, s5] hp q := hH.1
  have h0 : hI hp 273 18 = s3 := rfI0 (hRf _ (.head _)) (sE_k _ _) (sE_k _ _) (sE_V rfl)
  have h1 : hI hp 276 5 = s4 := rfI0 (hRf _ (.tail _ (.head _))) (sE_k _ _) (sE_k _ _) (sE_V rfl)
  have y1 : (0 : Int) ≤ s4 ∧ s4 ≤ (14 : Int) := by rw [← h1]; exact hI_ty hO (by decide) rfl
  have hFc : ∀ q ∈ ([(161, [(.ofNat 0, [(.ofNat 1, 2)]), (.ofNat 0, [(.ofNat 1, 1)]), (.ofNat 0, [(.ofNat 1, 5)]), (.ofNat 0, [(.ofNat 1, 0)]), (.ofNat 0, [(.ofNat 1, 3)])]), (159, [(.ofNat 0, [(.ofNat 1, 4)]), (.ofNat 0, [(.ofNat 1, 5)])])] : List sFc), fcOk fFS [s0, s1, s2, s3, s4, s5] hp q := hH.2
  have f0 : dF (MT hp) s5 (fun D => (s1 = 1 ∧ ¬ fre D s0 s3) ∨ (s1 = 0 ∧ (s0, s3) ∉ dWa D ∧ ∀ i : Nat, i < 14 → (i : Int) < s2 → ¬ (hI hp 276 (272 + i) = s0 ∧ hI hp 276 (286 + i) = s3))) := fcX (ys := [s2, s1, s5, s0, s3]) (hFc _ (.head _)) ⟨sE_V rfl, sE_V rfl, sE_V rfl, sE_V rfl, sE_V rfl, trivial⟩
  have f1 : dF (MT hp) s5 (fun D => s4 = (dTr D).length ∧ ∀ i : Nat, i < 14 → (i : Int) < s4 → (dTr D)[i]? = some (hI hp 276 (272 + i), hI hp 276 (286 + i))) := fcX (ys := [s4, s5]) (hFc _ (.tail _ (.head _))) ⟨sE_V rfl, sE_V rfl, trivial⟩
  exact poX (.head _) rfl hR (all_nil) (all_nil) (all_cons ⟨[s5, s0, s3, 0], ⟨sE_V rfl, sE_V rfl, sE_V rfl, sE_k _ _, trivial⟩, (show dF (MT hp) s5 (fun D => bP (0 : Int) (fre D s0 s3)) from dF_mp f0 (fun D h => thd_b h (by omega) rfl))⟩ (all_nil))
theorem rl697 : ruOk fFS gR697 := by
  intro r hp hO hN hH
  obtain ⟨s0, s1, s2, s3, s4, s5, s6, s7, s8, s9, s10, s11, s12, rfl⟩ := len13 (show r.length = 13 from hN.1)
  have hR := hN.2.1.1
  have hIv : ∀ q ∈ ([(0, .negSucc 2147483647, .ofNat 2147483647), (1, .negSucc 2147483647, .ofNat 2147483647), (2, .ofNat 20, .ofNat 20), (3, .negSucc 2147483647, .ofNat 2147483647), (4, .negSucc 2147483647, .ofNat 2147483647), (5, .negSucc 2147483647, .ofNat 2147483647), (6, .negSucc 2147483647, .ofNat 2147483647), (7, .negSucc 2147483647, .ofNat 2147483647), (8, .negSucc 2147483647, .ofNat 2147483647), (9, .ofNat 2, .ofNat 2), (10, .negSucc 2147483647, .ofNat 2147483647), (11, .negSucc 2147483647, .ofNat 2147483647), (12, .negSucc 2147483647, .ofNat 2147483647)] : sIv), ∃ x, ([s0, s1, s2, s3, s4, s5, s6, s7, s8, s9, s10, s11, s12] : List Int)[q.1]? = some x ∧ q.2.1 ≤ x ∧ x ≤ q.2.2 := hN.2.1.2
  have b2 : (20 : Int) ≤ s2 ∧ s2 ≤ (20 : Int) := ivX (q := (2, .ofNat 20, .ofNat 20)) (y := s2) (hIv _ (.tail _ (.tail _ (.head _)))) rfl
  have b9 : (2 : Int) ≤ s9 ∧ s9 ≤ (2 : Int) := ivX (q := (9, .ofNat 2, .ofNat 2)) (y := s9) (hIv _ (.tail _ (.tail _ (.tail _ (.tail _ (.tail _ (.tail _ (.tail _ (.tail _ (.tail _ (.head _))))))))))) rfl
  have hFc : ∀ q ∈ ([(119, [(.ofNat 0, [(.ofNat 1, 1)]), (.ofNat 0, [(.ofNat 1, 2)]), (.ofNat 0, [(.ofNat 1, 3)]), (.ofNat 0, [(.ofNat 1, 4)]), (.ofNat 0, [(.ofNat 1, 0)]), (.ofNat 0, [(.ofNat 1, 5)]), (.ofNat 0, [(.ofNat 1, 6)]), (.ofNat 0, [(.ofNat 1, 7)]), (.ofNat 0, [(.ofNat 1, 8)]), (.ofNat 0, [(.ofNat 1, 9)]), (.ofNat 0, [(.ofNat 1, 10)]), (.ofNat 0, [(.ofNat 1, 11)]), (.ofNat 0, [(.ofNat 1, 12)])]), (171, [(.ofNat 0, [(.ofNat 1, 3)]), (.ofNat 0, [(.ofNat 1, 0)]), (.ofNat 0, [(.ofNat 1, 12)]), (.ofNat 0, [])]), (150, [(.ofNat 0, [(.ofNat 1, 1)])])] : List sFc), fcOk fFS [s0, s1, s2, s3, s4, s5, s6, s7, s8, s9, s10, s11, s12] hp q := hH.2
  have f0 : Hq (MT hp) s1 s2 s3 s4 s0 s5 s6 s7 s8 s9 s10 s11 s12 := fcX (ys := [s1, s2, s3, s4, s0, s5, s6, s7, s8, s9, s10, s11, s12]) (hFc _ (.head _)) ⟨sE_V rfl, sE_V rfl, sE_V rfl, sE_V rfl, sE_V rfl, sE_V rfl, sE_V rfl, sE_V rfl, sE_V rfl, sE_V rfl, sE_V rfl, sE_V rfl, sE_V rfl, trivial⟩
  have f1 : dF (MT hp) s3 (fun D => bP (0 : Int) (fre D s0 s12)) := fcX (ys := [s3, s0, s12, 0]) (hFc _ (.tail _ (.head _))) ⟨sE_V rfl, sE_V rfl, sE_V rfl, sE_k _ _, trivial⟩
  have f2 : NO (MT hp) s1 := fcX (ys := [s1]) (hFc _ (.tail _ (.tail _ (.head _)))) ⟨sE_V rfl, trivial⟩
  exact poX (.head _) rfl hR (all_nil) (all_nil) (all_cons ⟨[3, s10], ⟨sE_k _ _, sE_V rfl, trivial⟩, (show RS (MT hp) (3 : Int) s10 from hN20x (MT_ok hO) f0 (by omega) (by omega) f2 (d0' f1 rfl))⟩ (all_nil))
theorem rl698 : ruOk fFS gR698 := by
  intro r hp hO hN hH
  obtain ⟨s0, s1, s2, s3, s4, s5, s6, s7, s8, s9, s10, s11, s12, rfl⟩ := len13 (show r.length = 13 from hN.1)
  have hR := hN.2.1.1
  have hIv : ∀ q ∈ ([(0, .negSucc 2147483647, .ofNat 2147483647), (1, .negSucc 2147483647, .ofNat 2147483647), (2, .ofNat 22, .ofNat 22), (3, .negSucc 2147483647, .ofNat 2147483647), (4, .negSucc 2147483647, .ofNat 2147483647), (5, .negSucc 2147483647, .ofNat 2147483647), (6, .negSucc 2147483647, .ofNat 2147483647), (7, .negSucc 2147483647, .ofNat 2147483647), (8, .negSucc 2147483647, .ofNat 2147483647), (9, .ofNat 2, .ofNat 2), (10, .negSucc 2147483647, .ofNat 2147483647), (11, .negSucc 2147483647, .ofNat 2147483647), (12, .negSucc 2147483647, .ofNat 2147483647)] : sIv), ∃ x, ([s0, s1, s2, s3, s4, s5, s6, s7, s8, s9, s10, s11, s12] : List Int)[q.1]? = some x ∧ q.2.1 ≤ x ∧ x ≤ q.2.2 := hN.2.1.2
  have b2 : (22 : Int) ≤ s2 ∧ s2 ≤ (22 : Int) := ivX (q := (2, .ofNat 22, .ofNat 22)) (y := s2) (hIv _ (.tail _ (.tail _ (.head _)))) rfl
  have b9 : (2 : Int) ≤ s9 ∧ s9 ≤ (2 : Int) := ivX (q := (9, .ofNat 2, .ofNat 2)) (y := s9) (hIv _ (.tail _ (.tail _ (.tail _ (.tail _ (.tail _ (.tail _ (.tail _ (.tail _ (.tail _ (.head _))))))))))) rfl
  have hFc : ∀ q ∈ ([(119, [(.ofNat 0, [(.ofNat 1, 1)]), (.ofNat 0, [(.ofNat 1, 2)]), (.ofNat 0, [(.ofNat 1, 3)]), (.ofNat 0, [(.ofNat 1, 4)]), (.ofNat 0, [(.ofNat 1, 0)]), (.ofNat 0, [(.ofNat 1, 5)]), (.ofNat 0, [(.ofNat 1, 6)]), (.ofNat 0, [(.ofNat 1, 7)]), (.ofNat 0, [(.ofNat 1, 8)]), (.ofNat 0, [(.ofNat 1, 9)]), (.ofNat 0, [(.ofNat 1, 10)]), (.ofNat 0, [(.ofNat 1, 11)]), (.ofNat 0, [(.ofNat 1, 12)])]), (171, [(.ofNat 0, [(.ofNat 1, 3)]), (.ofNat 0, [(.ofNat 1, 0)]), (.ofNat 0, [(.ofNat 1, 12)]), (.ofNat 0, [])]), (150, [(.ofNat 0, [(.ofNat 1, 1)])])] : List sFc), fcOk fFS [s0, s1, s2, s3, s4, s5, s6, s7, s8, s9, s10, s11, s12] hp q := hH.2
  have f0 : Hq (MT hp) s1 s2 s3 s4 s0 s5 s6 s7 s8 s9 s10 s11 s12 := fcX (ys := [s1, s2, s3, s4, s0, s5, s6, s7, s8, s9, s10, s11, s12]) (hFc _ (.head _)) ⟨sE_V rfl, sE_V rfl, sE_V rfl, sE_V rfl, sE_V rfl, sE_V rfl, sE_V rfl, sE_V rfl, sE_V rfl, sE_V rfl, sE_V rfl, sE_V rfl, sE_V rfl, trivial⟩
  have f1 : dF (MT hp) s3 (fun D => bP (0 : Int) (fre D s0 s12)) := fcX (ys := [s3, s0, s12, 0]) (hFc _ (.tail _ (.head _))) ⟨sE_V rfl, sE_V rfl, sE_V rfl, sE_k _ _, trivial⟩
  have f2 : NO (MT hp) s1 := fcX (ys := [s1]) (hFc _ (.tail _ (.tail _ (.head _)))) ⟨sE_V rfl, trivial⟩
  exact poX (.head _) rfl hR (all_nil) (all_nil) (all_cons ⟨[3, s10], ⟨sE_k _ _, sE_V rfl, trivial⟩, (show RS (MT hp) (3 : Int) s10 from hN22x (MT_ok hO) f0 (by omega) (by omega) f2 (d0' f1 rfl))⟩ (all_nil))
theorem rl699 : ruOk fFS gR699 := by
  intro r hp hO hN hH
  obtain ⟨s0, s1, s2, rfl⟩ := len3 (show r.length = 3 from hN.1)
  have hR := hN.2.1.1
  have hIv : ∀ q ∈ ([(0, .ofNat 0, .ofNat 9), (1, .ofNat 0, .ofNat 9), (2, .negSucc 2147483647, .ofNat 2147483647)] : sIv), ∃ x, ([s0, s1, s2] : List Int)[q.1]? = some x ∧ q.2.1 ≤ x ∧ x ≤ q.2.2 := hN.2.1.2
  have b0 : (0 : Int) ≤ s0 ∧ s0 ≤ (9 : Int) := ivX (q := (0, .ofNat 0, .ofNat 9)) (y := s0) (hIv _ (.head _)) rfl
  have b1 : (0 : Int) ≤ s1 ∧ s1 ≤ (9 : Int) := ivX (q := (1, .ofNat 0, .ofNat 9)) (y := s1) (hIv _ (.tail _ (.head _))) rfl
  have hRf : ∀ q ∈ ([((78, .ofNat 273, []), (.ofNat 18, []), 1, .ofNat 0, [(.ofNat 1, 1)])] : List sRf), rfOk [s0, s1, s2] hp q := hH.1
  have h0 : hI hp 273 18 = s1 := rfI0 (hRf _ (.head _)) (sE_k _ _) (sE_k _ _) (sE_V rfl)
  have hFc : ∀ q ∈ ([(162, [(.ofNat 0, [(.ofNat 1, 2)])])] : List sFc), fcOk fFS [s0, s1, s2] hp q := hH.2
  have f0 : dF (MT hp) s2 (fun D => ∀ p : Nat, p < 100 → (hI hp 276 (300 + p) = 1 ↔ wlI D p)) := fcX (ys := [s2]) (hFc _ (.head _)) ⟨sE_V rfl, trivial⟩
  exact poX (.head _) rfl hR (all_nil) (all_nil) (all_cons ⟨[(s0 + 10 * s1), s2], ⟨sEv (y' := ((0 : Int) + ((1 : Int) * s0 + ((10 : Int) * s1 + 0)))) rfl (by omega), sE_V rfl, trivial⟩, (show dF (MT hp) s2 (fun D => ∀ p : Nat, p < 100 → (p : Int) < (s0 + 10 * s1) → (hI hp 276 (300 + p) = 1 ↔ wlI D p)) from dF_mp f0 (fun D h p hp_ _ => h p hp_))⟩ (all_cons ⟨[(s0 + 10 * s1 + 1), s2], ⟨sEv (y' := ((1 : Int) + ((1 : Int) * s0 + ((10 : Int) * s1 + 0)))) rfl (by omega), sE_V rfl, trivial⟩, (show dF (MT hp) s2 (fun D => ∀ p : Nat, p < 100 → (s0 + 10 * s1 + 1) ≤ (p : Int) → (hI hp 276 (300 + p) = 1 ↔ wlI D p)) from dF_mp f0 (fun D h p hp_ _ => h p hp_))⟩ (all_nil)))
theorem rl700 : ruOk fFS gR700 := by
  intro r hp hO hN hH
  obtain ⟨s0, s1, s2, rfl⟩ := len3 (show r.length = 3 from hN.1)
  have hR := hN.2.1.1
  have hIv : ∀ q ∈ ([(0, .ofNat 0, .ofNat 9), (1, .ofNat 0, .ofNat 9), (2, .negSucc 2147483647, .ofNat 2147483647)] : sIv), ∃ x, ([s0, s1, s2] : List Int)[q.1]? = some x ∧ q.2.1 ≤ x ∧ x ≤ q.2.2 := hN.2.1.2
  have b0 : (0 : Int) ≤ s0 ∧ s0 ≤ (9 : Int) := ivX (q := (0, .ofNat 0, .ofNat 9)) (y := s0) (hIv _ (.head _)) rfl
  have b1 : (0 : Int) ≤ s1 ∧ s1 ≤ (9 : Int) := ivX (q := (1, .ofNat 0, .ofNat 9)) (y := s1) (hIv _ (.tail _ (.head _))) rfl
  have hRf : ∀ q ∈ ([((78, .ofNat 273, []), (.ofNat 18, []), 1, .ofNat 0, [(.ofNat 1, 1)]), ((81, .ofNat 276, []), (.ofNat 300, [(.ofNat 1, 0), (.ofNat 10, 1)]), 1, .ofNat 1, [])] : List sRf), rfOk [s0, s1, s2] hp q := hH.1
  have h0 : hI hp 273 18 = s1 := rfI0 (hRf _ (.head _)) (sE_k _ _) (sE_k _ _) (sE_V rfl)
  obtain ⟨i1, e1, l1, h1⟩ := rfI (xv := 1) (iv := (s0 + 10 * s1 + 300)) (hRf _ (.tail _ (.head _))) (sE_k _ _) (sEv (y' := ((300 : Int) + ((1 : Int) * s0 + ((10 : Int) * s1 + 0)))) rfl (by omega)) (sE_k _ _)
  have l1 : i1 < 401 := l1
  have h1 : hI hp 276 i1 = 1 := h1
  have hFc : ∀ q ∈ ([(163, [(.ofNat 0, [(.ofNat 1, 0), (.ofNat 10, 1)]), (.ofNat 0, [(.ofNat 1, 2)])]), (164, [(.ofNat 1, [(.ofNat 1, 0), (.ofNat 10, 1)]), (.ofNat 0, [(.ofNat 1, 2)])])] : List sFc), fcOk fFS [s0, s1, s2] hp q := hH.2
  have f0 : dF (MT hp) s2 (fun D => ∀ p : Nat, p < 100 → (p : Int) < (s0 + 10 * s1) → (hI hp 276 (300 + p) = 1 ↔ wlI D p)) := fcX (ys := [(s0 + 10 * s1), s2]) (hFc _ (.head _)) ⟨sEv (y' := ((0 : Int) + ((1 : Int) * s0 + ((10 : Int) * s1 + 0)))) rfl (by omega), sE_V rfl, trivial⟩
  have f1 : dF (MT hp) s2 (fun D => ∀ p : Nat, p < 100 → (s0 + 10 * s1 + 1) ≤ (p : Int) → (hI hp 276 (300 + p) = 1 ↔ wlI D p)) := fcX (ys := [(s0 + 10 * s1 + 1), s2]) (hFc _ (.tail _ (.head _))) ⟨sEv (y' := ((1 : Int) + ((1 : Int) * s0 + ((10 : Int) * s1 + 0)))) rfl (by omega), sE_V rfl, trivial⟩
  exact poX (.head _) rfl hR (all_nil) (all_nil) (all_cons ⟨[s2, s0, s1], ⟨sE_V rfl, sE_V rfl, sE_V rfl, trivial⟩, (show dF (MT hp) s2 (fun D => ∀ p : Nat, p < 100 → (hI hp 276 (300 + p) = 1 ↔ (wlI D p ∨ ((p : Int) % 10 = s0 ∧ (p : Int) / 10 = s1)))) from dF_mp (dF_2 (MT_ok hO) f0 f1) (fun D h => wbm h.1 h.2 h1 (by omega) (by omega) (by omega) ⟨by omega, by omega⟩))⟩ (all_nil))
theorem rl701 : ruOk fFS gR701 := by
  intro r hp hO hN hH
  obtain ⟨s0, s1, s2, s3, s4, s5, s6, s7, s8, s9, s10, s11, s12, rfl⟩ := len13 (show r.length = 13 from hN.1)
  have hR := hN.2.1.1
  have hIv : ∀ q ∈ ([(0, .negSucc 2147483647, .ofNat 2147483647), (1, .ofNat 20, .ofNat 20), (2, .negSucc 2147483647, .ofNat 2147483647), (3, .negSucc 2147483647, .ofNat 2147483647), (4, .negSucc 2147483647, .ofNat 2147483647), (5, .negSucc 2147483647, .ofNat 2147483647), (6, .negSucc 2147483647, .ofNat 2147483647), (7, .negSucc 2147483647, .ofNat 2147483647), (8, .negSucc 2147483647, .ofNat 2147483647), (9, .ofNat 2, .ofNat 2), (10, .negSucc 2147483647, .ofNat 2147483647), (11, .negSucc 2147483647, .ofNat 2147483647), (12, .negSucc 2147483647, .ofNat 2147483647)] : sIv), ∃ x, ([s0, s1, s2, s3, s4, s5, s6, s7, s8, s9, s10, s11, s12] : List Int)[q.1]? = some x ∧ q.2.1 ≤ x ∧ x ≤ q.2.2 := hN.2.1.2
  have b1 : (20 : Int) ≤ s1 ∧ s1 ≤ (20 : Int) := ivX (q := (1, .ofNat 20, .ofNat 20)) (y := s1) (hIv _ (.tail _ (.head _))) rfl
  have b9 : (2 : Int) ≤ s9 ∧ s9 ≤ (2 : Int) := ivX (q := (9, .ofNat 2, .ofNat 2)) (y := s9) (hIv _ (.tail _ (.tail _ (.tail _ (.tail _ (.tail _ (.tail _ (.tail _ (.tail _ (.tail _ (.head _))))))))))) rfl
  have hFc : ∀ q ∈ ([(119, [(.ofNat 0, [(.ofNat 1, 0)]), (.ofNat 0, [(.ofNat 1, 1)]), (.ofNat 0, [(.ofNat 1, 2)]), (.ofNat 0, [(.ofNat 1, 3)]), (.ofNat 0, [(.ofNat 1, 4)]), (.ofNat 0, [(.ofNat 1, 5)]), (.ofNat 0, [(.ofNat 1, 6)]), (.ofNat 0, [(.ofNat 1, 7)]), (.ofNat 0, [(.ofNat 1, 8)]), (.ofNat 0, [(.ofNat 1, 9)]), (.ofNat 0, [(.ofNat 1, 10)]), (.ofNat 0, [(.ofNat 1, 11)]), (.ofNat 0, [(.ofNat 1, 12)])]), (171, [(.ofNat 0, [(.ofNat 1, 2)]), (.ofNat 0, [(.ofNat 1, 4)]), (.ofNat 0, [(.ofNat 1, 12)]), (.ofNat 1, [])]), (150, [(.ofNat 0, [(.ofNat 1, 0)])])] : List sFc), fcOk fFS [s0, s1, s2, s3, s4, s5, s6, s7, s8, s9, s10, s11, s12] hp q := hH.2
  have f0 : Hq (MT hp) s0 s1 s2 s3 s4 s5 s6 s7 s8 s9 s10 s11 s12 := fcX (ys := [s0, s1, s2, s3, s4, s5, s6, s7, s8, s9, s10, s11, s12]) (hFc _ (.head _)) ⟨sE_V rfl, sE_V rfl, sE_V rfl, sE_V rfl, sE_V rfl, sE_V rfl, sE_V rfl, sE_V rfl, sE_V rfl, sE_V rfl, sE_V rfl, sE_V rfl, sE_V rfl, trivial⟩
  have f1 : dF (MT hp) s2 (fun D => bP (1 : Int) (fre D s4 s12)) := fcX (ys := [s2, s4, s12, 1]) (hFc _ (.tail _ (.head _))) ⟨sE_V rfl, sE_V rfl, sE_V rfl, sE_k _ _, trivial⟩
  have f2 : NO (MT hp) s0 := fcX (ys := [s0]) (hFc _ (.tail _ (.tail _ (.head _)))) ⟨sE_V rfl, trivial⟩
  have u := hN20 (MT_ok hO) f0 (by omega) (by omega) f2 (d1 f1 rfl)
  exact poX (.head _) rfl hR (all_nil) (all_nil) (all_cons ⟨[s11, 26, (s2 + 1), 0, 0, 0, 0, 0, 0], ⟨sE_V rfl, sE_k _ _, sEv (y' := ((1 : Int) + ((1 : Int) * s2 + 0))) rfl (by omega), sE_k _ _, sE_k _ _, sE_k _ _, sE_k _ _, sE_k _ _, sE_k _ _, trivial⟩, (show Gq (MT hp) s11 (26 : Int) (s2 + 1) (0 : Int) (0 : Int) (0 : Int) (0 : Int) (0 : Int) (0 : Int) from u.1)⟩ (all_cons ⟨[s2, s4, s12], ⟨sE_V rfl, sE_V rfl, sE_V rfl, trivial⟩, (show dl (MT hp) s2 (fun D => aTr D s4 s12) from u.2)⟩ (all_nil)))
theorem rl702 : ruOk fFS gR702 := by
  intro r hp hO hN hH
  obtain ⟨s0, s1, s2, s3, s4, s5, s6, s7, s8, s9, s10, s11, s12, rfl⟩ := len13 (show r.length = 13 from hN.1)
  have hR := hN.2.1.1
  have hIv : ∀ q ∈ ([(0, .negSucc 2147483647, .ofNat 2147483647), (1, .ofNat 22, .ofNat 22), (2, .negSucc 2147483647, .ofNat 2147483647), (3, .negSucc 2147483647, .ofNat 2147483647), (4, .negSucc 2147483647, .ofNat 2147483647), (5, .negSucc 2147483647, .ofNat 2147483647), (6, .negSucc 2147483647, .ofNat 2147483647), (7, .negSucc 2147483647, .ofNat 2147483647), (8, .negSucc 2147483647, .ofNat 2147483647), (9, .ofNat 2, .ofNat 2), (10, .negSucc 2147483647, .ofNat 2147483647), (11, .negSucc 2147483647, .ofNat 2147483647), (12, .negSucc 2147483647, .ofNat 2147483647)] : sIv), ∃ x, ([s0, s1, s2, s3, s4, s5, s6, s7, s8, s9, s10, s11, s12] : List Int)[q.1]? = some x ∧ q.2.1 ≤ x ∧ x ≤ q.2.2 := hN.2.1.2
  have b1 : (22 : Int) ≤ s1 ∧ s1 ≤ (22 : Int) := ivX (q := (1, .ofNat 22, .ofNat 22)) (y := s1) (hIv _ (.tail _ (.head _))) rfl
  have b9 : (2 : Int) ≤ s9 ∧ s9 ≤ (2 : Int) := ivX (q := (9, .ofNat 2, .ofNat 2)) (y := s9) (hIv _ (.tail _ (.tail _ (.tail _ (.tail _ (.tail _ (.tail _ (.tail _ (.tail _ (.tail _ (.head _))))))))))) rfl
  have hFc : ∀ q ∈ ([(119, [(.ofNat 0, [(.ofNat 1, 0)]), (.ofNat 0, [(.ofNat 1, 1)]), (.ofNat 0, [(.ofNat 1, 2)]), (.ofNat 0, [(.ofNat 1, 3)]), (.ofNat 0, [(.ofNat 1, 4)]), (.ofNat 0, [(.ofNat 1, 5)]), (.ofNat 0, [(.ofNat 1, 6)]), (.ofNat 0, [(.ofNat 1, 7)]), (.ofNat 0, [(.ofNat 1, 8)]), (.ofNat 0, [(.ofNat 1, 9)]), (.ofNat 0, [(.ofNat 1, 10)]), (.ofNat 0, [(.ofNat 1, 11)]), (.ofNat 0, [(.ofNat 1, 12)])]), (171, [(.ofNat 0, [(.ofNat 1, 2)]), (.ofNat 0, [(.ofNat 1, 4)]), (.ofNat 0, [(.ofNat 1, 12)]), (.ofNat 1, [])]), (150, [(.ofNat 0, [(.ofNat 1, 0)])])] : List sFc), fcOk fFS [s0, s1, s2, s3, s4, s5, s6, s7, s8, s9, s10, s11, s12] hp q := hH.2
  have f0 : Hq (MT hp) s0 s1 s2 s3 s4 s5 s6 s7 s8 s9 s10 s11 s12 := fcX (ys := [s0, s1, s2, s3, s4, s5, s6, s7, s8, s9, s10, s11, s12]) (hFc _ (.head _)) ⟨sE_V rfl, sE_V rfl, sE_V rfl, sE_V rfl, sE_V rfl, sE_V rfl, sE_V rfl, sE_V rfl, sE_V rfl, sE_V rfl, sE_V rfl, sE_V rfl, sE_V rfl, trivial⟩
  have f1 : dF (MT hp) s2 (fun D => bP (1 : Int) (fre D s4 s12)) := fcX (ys := [s2, s4, s12, 1]) (hFc _ (.tail _ (.head _))) ⟨sE_V rfl, sE_V rfl, sE_V rfl, sE_k _ _, trivial⟩
  have f2 : NO (MT hp) s0 := fcX (ys := [s0]) (hFc _ (.tail _ (.tail _ (.head _)))) ⟨sE_V rfl, trivial⟩
  have u := hN22 (MT_ok hO) f0 (by omega) (by omega) f2 (d1 f1 rfl)
  exact poX (.head _) rfl hR (all_nil) (all_nil) (all_cons ⟨[s11, 26, (s2 + 1), 0, 0, 0, 0, 0, 0], ⟨sE_V rfl, sE_k _ _, sEv (y' := ((1 : Int) + ((1 : Int) * s2 + 0))) rfl (by omega), sE_k _ _, sE_k _ _, sE_k _ _, sE_k _ _, sE_k _ _, sE_k _ _, trivial⟩, (show Gq (MT hp) s11 (26 : Int) (s2 + 1) (0 : Int) (0 : Int) (0 : Int) (0 : Int) (0 : Int) (0 : Int) from u.1)⟩ (all_cons ⟨[s2, s4, s12], ⟨sE_V rfl, sE_V rfl, sE_V rfl, trivial⟩, (show dl (MT hp) s2 (fun D => aWa D s4 s12) from u.2)⟩ (all_nil)))
theorem rl703 : ruOk fFS gR703 := by
  intro r hp hO hN hH
  obtain ⟨s0, s1, s2, s3, s4, s5, s6, s7, s8, s9, s10, s11, s12, rfl⟩ := len13 (show r.length = 13 from hN.1)
  have hR := hN.2.1.1
  have hIv : ∀ q ∈ ([(0, .negSucc 2147483647, .ofNat 2147483647), (1, .negSucc 2147483647, .ofNat 2147483647), (2, .negSucc 2147483647, .ofNat 2147483647), (3, .negSucc 2147483647, .ofNat 2147483647), (4, .negSucc 2147483647, .ofNat 2147483647), (5, .negSucc 2147483647, .ofNat 2147483647), (6, .negSucc 2147483647, .ofNat 2147483647), (7, .ofNat 0, .ofNat 13), (8, .negSucc 2147483647, .ofNat 2147483647), (9, .negSucc 2147483647, .ofNat 2147483647), (10, .negSucc 2147483647, .ofNat 2147483647), (11, .negSucc 2147483647, .ofNat 2147483647), (12, .negSucc 2147483647, .ofNat 2147483647)] : sIv), ∃ x, ([s0, s1, s2, s3, s4, s5, s6, s7, s8, s9, s10, s11, s12] : List Int)[q.1]? = some x ∧ q.2.1 ≤ x ∧ x ≤ q.2.2 := hN.2.1.2
  have b7 : (0 : Int) ≤ s7 ∧ s7 ≤ (13 : Int) := ivX (q := (7, .ofNat 0, .ofNat 13)) (y := s7) (hIv _ (.tail _ (.tail _ (.tail _ (.tail _ (.tail _ (.tail _ (.tail _ (.head _))))))))) rfl
  have hFc : ∀ q ∈ ([(141, [(.ofNat 0, [(.ofNat 1, 0)]), (.ofNat 0, [(.ofNat 1, 1)]), (.ofNat 0, [(.ofNat 1, 2)])]), (125, [(.ofNat 0, [(.ofNat 1, 0)]), (.ofNat 0, [(.ofNat 1, 3)]), (.ofNat 0, [(.ofNat 1, 4)]), (.ofNat 0, [(.ofNat 1, 5)]), (.ofNat 0, [(.ofNat 1, 6)]), (.ofNat 0, [(.ofNat 1, 7)]), (.ofNat 0, [(.ofNat 1, 8)]), (.ofNat 0, [(.ofNat 1, 9)]), (.ofNat 0, [(.ofNat 1, 10)]), (.ofNat 0, [(.ofNat 1, 11)]), (.ofNat 0, [(.ofNat 1, 12)])]), (143, [(.ofNat 0, [(.ofNat 1, 3)]), (.ofNat 0, [(.ofNat 1, 0)])]), (145, [(.ofNat 0, [(.ofNat 1, 4)]), (.ofNat 0, [(.ofNat 1, 0)])]), (147, [(.ofNat 0, [(.ofNat 1, 5)]), (.ofNat 0, [(.ofNat 1, 0)])]), (154, [(.ofNat 0, [(.ofNat 1, 0)])]), (162, [(.ofNat 0, [(.ofNat 1, 0)])]), (166, [(.ofNat 0, [(.ofNat 1, 6)]), (.ofNat 0, [(.ofNat 1, 0)])]), (159, [(.ofNat 0, [(.ofNat 1, 7)]), (.ofNat 0, [(.ofNat 1, 0)])]), (160, [(.ofNat 0, [(.ofNat 1, 7)]), (.ofNat 0, [(.ofNat 1, 1)]), (.ofNat 0, [(.ofNat 1, 2)])])] : List sFc), fcOk fFS [s0, s1, s2, s3, s4, s5, s6, s7, s8, s9, s10, s11, s12] hp q := hH.2
  have f0 : dl (MT hp) s0 (fun D => aTr D s1 s2) := fcX (ys := [s0, s1, s2]) (hFc _ (.head _)) ⟨sE_V rfl, sE_V rfl, sE_V rfl, trivial⟩
  have f1 : CT (MT hp) s0 s3 s4 s5 s6 s7 s8 s9 s10 s11 s12 := fcX (ys := [s0, s3, s4, s5, s6, s7, s8, s9, s10, s11, s12]) (hFc _ (.tail _ (.head _))) ⟨sE_V rfl, sE_V rfl, sE_V rfl, sE_V rfl, sE_V rfl, sE_V rfl, sE_V rfl, sE_V rfl, sE_V rfl, sE_V rfl, sE_V rfl, trivial⟩
  have f2 : dF (MT hp) s0 (fun D => s3 = (dOw D).length ∧ ∀ i : Nat, i < 4 → (i : Int) < s3 → hL hp 278 (12 + i) = cd 256 0 (nm D (0 + i))) := fcX (ys := [s3, s0]) (hFc _ (.tail _ (.tail _ (.head _)))) ⟨sE_V rfl, sE_V rfl, trivial⟩
  have f3 : dF (MT hp) s0 (fun D => s4 = (dSt D).length ∧ ∀ i : Nat, i < 3 → (i : Int) < s4 → hL hp 278 (16 + i) = cd 256 0 (nm D (4 + i))) := fcX (ys := [s4, s0]) (hFc _ (.tail _ (.tail _ (.tail _ (.head _))))) ⟨sE_V rfl, sE_V rfl, trivial⟩
  have f4 : dF (MT hp) s0 (fun D => s5 = (dKn D).length ∧ ∀ i : Nat, i < 5 → (i : Int) < s5 → hL hp 278 (19 + i) = cd 256 0 (nm D (7 + i))) := fcX (ys := [s5, s0]) (hFc _ (.tail _ (.tail _ (.tail _ (.tail _ (.head _)))))) ⟨sE_V rfl, sE_V rfl, trivial⟩
  have f5 : dF (MT hp) s0 (fun D => ∀ p : Nat, p < 100 → (fM hp p ↔ ¬ tkI D p)) := fcX (ys := [s0]) (hFc _ (.tail _ (.tail _ (.tail _ (.tail _ (.tail _ (.head _))))))) ⟨sE_V rfl, trivial⟩
  have f6 : dF (MT hp) s0 (fun D => ∀ p : Nat, p < 100 → (hI hp 276 (300 + p) = 1 ↔ wlI D p)) := fcX (ys := [s0]) (hFc _ (.tail _ (.tail _ (.tail _ (.tail _ (.tail _ (.tail _ (.head _)))))))) ⟨sE_V rfl, trivial⟩
  have f7 : dF (MT hp) s0 (fun D => s6 = (dWi D).length ∧ ∀ i : Nat, i < 8 → (i : Int) < s6 → (dWi D)[i]? = some (hI hp 276 (234 + i), hI hp 276 (242 + i))) := fcX (ys := [s6, s0]) (hFc _ (.tail _ (.tail _ (.tail _ (.tail _ (.tail _ (.tail _ (.tail _ (.head _))))))))) ⟨sE_V rfl, sE_V rfl, trivial⟩
  have f8 : dF (MT hp) s0 (fun D => s7 = (dTr D).length ∧ ∀ i : Nat, i < 14 → (i : Int) < s7 → (dTr D)[i]? = some (hI hp 276 (272 + i), hI hp 276 (286 + i))) := fcX (ys := [s7, s0]) (hFc _ (.tail _ (.tail _ (.tail _ (.tail _ (.tail _ (.tail _ (.tail _ (.tail _ (.head _)))))))))) ⟨sE_V rfl, sE_V rfl, trivial⟩
  have f9 : ∃ i : Nat, i < 14 ∧ s7 = (i : Int) ∧ hI hp 276 (272 + i) = s1 ∧ hI hp 276 (286 + i) = s2 := fcX (ys := [s7, s1, s2]) (hFc _ (.tail _ (.tail _ (.tail _ (.tail _ (.tail _ (.tail _ (.tail _ (.tail _ (.tail _ (.head _))))))))))) ⟨sE_V rfl, sE_V rfl, sE_V rfl, trivial⟩
  have hd := f0
  obtain ⟨it, it1, it2, itx, ity⟩ := f9
  exact poX (.head _) rfl hR (all_nil) (all_nil) (all_cons ⟨[(s0 + 1), s3, s4, s5, s6, (s7 + 1), s8, s9, s10, s11, s12], ⟨sEv (y' := ((1 : Int) + ((1 : Int) * s0 + 0))) rfl (by omega), sE_V rfl, sE_V rfl, sE_V rfl, sE_V rfl, sEv (y' := ((1 : Int) + ((1 : Int) * s7 + 0))) rfl (by omega), sE_V rfl, sE_V rfl, sE_V rfl, sE_V rfl, sE_V rfl, trivial⟩, (show CT (MT hp) (s0 + 1) s3 s4 s5 s6 (s7 + 1) s8 s9 s10 s11 s12 from carry (MT_ok hO) hd f1 (fun D h => ct_aTr (by omega) h) (by omega))⟩ (all_cons ⟨[(s0 + 1), 1], ⟨sEv (y' := ((1 : Int) + ((1 : Int) * s0 + 0))) rfl (by omega), sE_k _ _, trivial⟩, (show dF (MT hp) (s0 + 1) (fun D => bP (1 : Int) (szl D)) from carryI (MT_ok hO) hd (fun D h => szl_1 (Or.inr (Or.inr (Or.inr (Or.inl len_s)))) rfl) (by omega))⟩ (all_cons ⟨[s3, (s0 + 1)], ⟨sE_V rfl, sEv (y' := ((1 : Int) + ((1 : Int) * s0 + 0))) rfl (by omega), trivial⟩, (show dF (MT hp) (s0 + 1) (fun D => s3 = (dOw D).length ∧ ∀ i : Nat, i < 4 → (i : Int) < s3 → hL hp 278 (12 + i) = cd 256 0 (nm D (0 + i))) from carry (MT_ok hO) hd f2 (fun D h => h) (by omega))⟩ (all_cons ⟨[s4, (s0 + 1)], ⟨sE_V rfl, sEv (y' := ((1 : Int) + ((1 : Int) * s0 + 0))) rfl (by omega), trivial⟩, (show dF (MT hp) (s0 + 1) (fun D => s4 = (dSt D).length ∧ ∀ i : Nat, i < 3 → (i : Int) < s4 → hL hp 278 (16 + i) = cd 256 0 (nm D (4 + i))) from carry (MT_ok hO) hd f3 (fun D h => h) (by omega))⟩ (all_cons ⟨[s5, (s0 + 1)], ⟨sE_V rfl, sEv (y' := ((1 : Int) + ((1 : Int) * s0 + 0))) rfl (by omega), trivial⟩, (show dF (MT hp) (s0 + 1) (fun D => s5 = (dKn D).length ∧ ∀ i : Nat, i < 5 → (i : Int) < s5 → hL hp 278 (19 + i) = cd 256 0 (nm D (7 + i))) from carry (MT_ok hO) hd f4 (fun D h => h) (by omega))⟩ (all_cons ⟨[(s0 + 1)], ⟨sEv (y' := ((1 : Int) + ((1 : Int) * s0 + 0))) rfl (by omega), trivial⟩, (show dF (MT hp) (s0 + 1) (fun D => ∀ p : Nat, p < 100 → (fM hp p ↔ ¬ tkI D p)) from carry (MT_ok hO) hd f5 (fun D h => h) (by omega))⟩ (all_cons ⟨[(s0 + 1)], ⟨sEv (y' := ((1 : Int) + ((1 : Int) * s0 + 0))) rfl (by omega), trivial⟩, (show dF (MT hp) (s0 + 1) (fun D => ∀ p : Nat, p < 100 → (hI hp 276 (300 + p) = 1 ↔ wlI D p)) from carry (MT_ok hO) hd f6 (fun D h => h) (by omega))⟩ (all_cons ⟨[s6, (s0 + 1)], ⟨sE_V rfl, sEv (y' := ((1 : Int) + ((1 : Int) * s0 + 0))) rfl (by omega), trivial⟩, (show dF (MT hp) (s0 + 1) (fun D => s6 = (dWi D).length ∧ ∀ i : Nat, i < 8 → (i : Int) < s6 → (dWi D)[i]? = some (hI hp 276 (234 + i), hI hp 276 (242 + i))) from carry (MT_ok hO) hd f7 (fun D h => h) (by omega))⟩ (all_cons ⟨[(s7 + 1), (s0 + 1)], ⟨sEv (y' := ((1 : Int) + ((1 : Int) * s7 + 0))) rfl (by omega), sEv (y' := ((1 : Int) + ((1 : Int) * s0 + 0))) rfl (by omega), trivial⟩, (show dF (MT hp) (s0 + 1) (fun D => (s7 + 1) = (dTr D).length ∧ ∀ i : Nat, i < 14 → (i : Int) < (s7 + 1) → (dTr D)[i]? = some (hI hp 276 (272 + i), hI hp 276 (286 + i))) from carry (MT_ok hO) hd f8 (fun D h => lst_add (i0 := it) (i1 := it) h itx ity (by omega) (by omega) (by omega)) (by omega))⟩ (all_nil))))))))))
theorem rl704 : ruOk fFS gR704 := by
  intro r hp hO hN hH
  obtain ⟨s0, s1, s2, s3, s4, s5, s6, s7, s8, s9, s10, s11, s12, rfl⟩ := len13 (show r.length = 13 from hN.1)
  have hR := hN.2.1.1
  have hIv : ∀ q ∈ ([(0, .negSucc 2147483647, .ofNat 2147483647), (1, .negSucc 2147483647, .ofNat 2147483647), (2, .negSucc 2147483647, .ofNat 2147483647), (3, .negSucc 2147483647, .ofNat 2147483647), (4, .negSucc 2147483647, .ofNat 2147483647), (5, .negSucc 2147483647, .ofNat 2147483647), (6, .negSucc 2147483647, .ofNat 2147483647), (7, .negSucc 2147483647, .ofNat 2147483647), (8, .negSucc 2147483647, .ofNat 2147483647), (9, .negSucc 2147483647, .ofNat 2147483647), (10, .negSucc 2147483647, .ofNat 2147483647), (11, .negSucc 2147483647, .ofNat 2147483647), (12, .negSucc 2147483647, .ofNat 2147483647)] : sIv), ∃ x, ([s0, s1, s2, s3, s4, s5, s6, s7, s8, s9, s10, s11, s12] : List Int)[q.1]? = some x ∧ q.2.1 ≤ x ∧ x ≤ q.2.2 := hN.2.1.2
  have hFc : ∀ q ∈ ([(142, [(.ofNat 0, [(.ofNat 1, 0)]), (.ofNat 0, [(.ofNat 1, 1)]), (.ofNat 0, [(.ofNat 1, 2)])]), (125, [(.ofNat 0, [(.ofNat 1, 0)]), (.ofNat 0, [(.ofNat 1, 3)]), (.ofNat 0, [(.ofNat 1, 4)]), (.ofNat 0, [(.ofNat 1, 5)]), (.ofNat 0, [(.ofNat 1, 6)]), (.ofNat 0, [(.ofNat 1, 7)]), (.ofNat 0, [(.ofNat 1, 8)]), (.ofNat 0, [(.ofNat 1, 9)]), (.ofNat 0, [(.ofNat 1, 10)]), (.ofNat 0, [(.ofNat 1, 11)]), (.ofNat 0, [(.ofNat 1, 12)])]), (143, [(.ofNat 0, [(.ofNat 1, 3)]), (.ofNat 0, [(.ofNat 1, 0)])]), (145, [(.ofNat 0, [(.ofNat 1, 4)]), (.ofNat 0, [(.ofNat 1, 0)])]), (147, [(.ofNat 0, [(.ofNat 1, 5)]), (.ofNat 0, [(.ofNat 1, 0)])]), (154, [(.ofNat 0, [(.ofNat 1, 0)])]), (159, [(.ofNat 0, [(.ofNat 1, 7)]), (.ofNat 0, [(.ofNat 1, 0)])]), (166, [(.ofNat 0, [(.ofNat 1, 6)]), (.ofNat 0, [(.ofNat 1, 0)])]), (165, [(.ofNat 0, [(.ofNat 1, 0)]), (.ofNat 0, [(.ofNat 1, 1)]), (.ofNat 0, [(.ofNat 1, 2)])])] : List sFc), fcOk fFS [s0, s1, s2, s3, s4, s5, s6, s7, s8, s9, s10, s11, s12] hp q := hH.2
  have f0 : dl (MT hp) s0 (fun D => aWa D s1 s2) := fcX (ys := [s0, s1, s2]) (hFc _ (.head _)) ⟨sE_V rfl, sE_V rfl, sE_V rfl, trivial⟩
  have f1 : CT (MT hp) s0 s3 s4 s5 s6 s7 s8 s9 s10 s11 s12 := fcX (ys := [s0, s3, s4, s5, s6, s7, s8, s9, s10, s11, s12]) (hFc _ (.tail _ (.head _))) ⟨sE_V rfl, sE_V rfl, sE_V rfl, sE_V rfl, sE_V rfl, sE_V rfl, sE_V rfl, sE_V rfl, sE_V rfl, sE_V rfl, sE_V rfl, trivial⟩
  have f2 : dF (MT hp) s0 (fun D => s3 = (dOw D).length ∧ ∀ i : Nat, i < 4 → (i : Int) < s3 → hL hp 278 (12 + i) = cd 256 0 (nm D (0 + i))) := fcX (ys := [s3, s0]) (hFc _ (.tail _ (.tail _ (.head _)))) ⟨sE_V rfl, sE_V rfl, trivial⟩
  have f3 : dF (MT hp) s0 (fun D => s4 = (dSt D).length ∧ ∀ i : Nat, i < 3 → (i : Int) < s4 → hL hp 278 (16 + i) = cd 256 0 (nm D (4 + i))) := fcX (ys := [s4, s0]) (hFc _ (.tail _ (.tail _ (.tail _ (.head _))))) ⟨sE_V rfl, sE_V rfl, trivial⟩
  have f4 : dF (MT hp) s0 (fun D => s5 = (dKn D).length ∧ ∀ i : Nat, i < 5 → (i : Int) < s5 → hL hp 278 (19 + i) = cd 256 0 (nm D (7 + i))) := fcX (ys := [s5, s0]) (hFc _ (.tail _ (.tail _ (.tail _ (.tail _ (.head _)))))) ⟨sE_V rfl, sE_V rfl, trivial⟩
  have f5 : dF (MT hp) s0 (fun D => ∀ p : Nat, p < 100 → (fM hp p ↔ ¬ tkI D p)) := fcX (ys := [s0]) (hFc _ (.tail _ (.tail _ (.tail _ (.tail _ (.tail _ (.head _))))))) ⟨sE_V rfl, trivial⟩
  have f6 : dF (MT hp) s0 (fun D => s7 = (dTr D).length ∧ ∀ i : Nat, i < 14 → (i : Int) < s7 → (dTr D)[i]? = some (hI hp 276 (272 + i), hI hp 276 (286 + i))) := fcX (ys := [s7, s0]) (hFc _ (.tail _ (.tail _ (.tail _ (.tail _ (.tail _ (.tail _ (.head _)))))))) ⟨sE_V rfl, sE_V rfl, trivial⟩
  have f7 : dF (MT hp) s0 (fun D => s6 = (dWi D).length ∧ ∀ i : Nat, i < 8 → (i : Int) < s6 → (dWi D)[i]? = some (hI hp 276 (234 + i), hI hp 276 (242 + i))) := fcX (ys := [s6, s0]) (hFc _ (.tail _ (.tail _ (.tail _ (.tail _ (.tail _ (.tail _ (.tail _ (.head _))))))))) ⟨sE_V rfl, sE_V rfl, trivial⟩
  have f8 : dF (MT hp) s0 (fun D => ∀ p : Nat, p < 100 → (hI hp 276 (300 + p) = 1 ↔ (wlI D p ∨ ((p : Int) % 10 = s1 ∧ (p : Int) / 10 = s2)))) := fcX (ys := [s0, s1, s2]) (hFc _ (.tail _ (.tail _ (.tail _ (.tail _ (.tail _ (.tail _ (.tail _ (.tail _ (.head _)))))))))) ⟨sE_V rfl, sE_V rfl, sE_V rfl, trivial⟩
  have hd := f0
  exact poX (.head _) rfl hR (all_nil) (all_nil) (all_cons ⟨[(s0 + 1), s3, s4, s5, s6, s7, (s8 + 1), s9, s10, s11, s12], ⟨sEv (y' := ((1 : Int) + ((1 : Int) * s0 + 0))) rfl (by omega), sE_V rfl, sE_V rfl, sE_V rfl, sE_V rfl, sE_V rfl, sEv (y' := ((1 : Int) + ((1 : Int) * s8 + 0))) rfl (by omega), sE_V rfl, sE_V rfl, sE_V rfl, sE_V rfl, trivial⟩, (show CT (MT hp) (s0 + 1) s3 s4 s5 s6 s7 (s8 + 1) s9 s10 s11 s12 from carry (MT_ok hO) hd f1 (fun D h => ct_aWa (by omega) h) (by omega))⟩ (all_cons ⟨[(s0 + 1), 1], ⟨sEv (y' := ((1 : Int) + ((1 : Int) * s0 + 0))) rfl (by omega), sE_k _ _, trivial⟩, (show dF (MT hp) (s0 + 1) (fun D => bP (1 : Int) (szl D)) from carryI (MT_ok hO) hd (fun D h => szl_1 (Or.inr (Or.inr (Or.inr (Or.inr len_s)))) rfl) (by omega))⟩ (all_cons ⟨[s3, (s0 + 1)], ⟨sE_V rfl, sEv (y' := ((1 : Int) + ((1 : Int) * s0 + 0))) rfl (by omega), trivial⟩, (show dF (MT hp) (s0 + 1) (fun D => s3 = (dOw D).length ∧ ∀ i : Nat, i < 4 → (i : Int) < s3 → hL hp 278 (12 + i) = cd 256 0 (nm D (0 + i))) from carry (MT_ok hO) hd f2 (fun D h => h) (by omega))⟩ (all_cons ⟨[s4, (s0 + 1)], ⟨sE_V rfl, sEv (y' := ((1 : Int) + ((1 : Int) * s0 + 0))) rfl (by omega), trivial⟩, (show dF (MT hp) (s0 + 1) (fun D => s4 = (dSt D).length ∧ ∀ i : Nat, i < 3 → (i : Int) < s4 → hL hp 278 (16 + i) = cd 256 0 (nm D (4 + i))) from carry (MT_ok hO) hd f3 (fun D h => h) (by omega))⟩ (all_cons ⟨[s5, (s0 + 1)], ⟨sE_V rfl, sEv (y' := ((1 : Int) + ((1 : Int) * s0 + 0))) rfl (by omega), trivial⟩, (show dF (MT hp) (s0 + 1) (fun D => s5 = (dKn D).length ∧ ∀ i : Nat, i < 5 → (i : Int) < s5 → hL hp 278 (19 + i) = cd 256 0 (nm D (7 + i))) from carry (MT_ok hO) hd f4 (fun D h => h) (by omega))⟩ (all_cons ⟨[(s0 + 1)], ⟨sEv (y' := ((1 : Int) + ((1 : Int) * s0 + 0))) rfl (by omega), trivial⟩, (show dF (MT hp) (s0 + 1) (fun D => ∀ p : Nat, p < 100 → (fM hp p ↔ ¬ tkI D p)) from carry (MT_ok hO) hd f5 (fun D h => h) (by omega))⟩ (all_cons ⟨[s7, (s0 + 1)], ⟨sE_V rfl, sEv (y' := ((1 : Int) + ((1 : Int) * s0 + 0))) rfl (by omega), trivial⟩, (show dF (MT hp) (s0 + 1) (fun D => s7 = (dTr D).length ∧ ∀ i : Nat, i < 14 → (i : Int) < s7 → (dTr D)[i]? = some (hI hp 276 (272 + i), hI hp 276 (286 + i))) from carry (MT_ok hO) hd f6 (fun D h => h) (by omega))⟩ (all_cons ⟨[s6, (s0 + 1)], ⟨sE_V rfl, sEv (y' := ((1 : Int) + ((1 : Int) * s0 + 0))) rfl (by omega), trivial⟩, (show dF (MT hp) (s0 + 1) (fun D => s6 = (dWi D).length ∧ ∀ i : Nat, i < 8 → (i : Int) < s6 → (dWi D)[i]? = some (hI hp 276 (234 + i), hI hp 276 (242 + i))) from carry (MT_ok hO) hd f7 (fun D h => h) (by omega))⟩ (all_cons ⟨[(s0 + 1)], ⟨sEv (y' := ((1 : Int) + ((1 : Int) * s0 + 0))) rfl (by omega), trivial⟩, (show dF (MT hp) (s0 + 1) (fun D => ∀ p : Nat, p < 100 → (hI hp 276 (300 + p) = 1 ↔ wlI D p)) from carry (MT_ok hO) hd f8 (fun D h => wm_wa h) (by omega))⟩ (all_nil))))))))))
theorem rl705 : ruOk fFS gR705 := by
  intro r hp hO hN hH
  obtain ⟨s0, s1, s2, s3, s4, s5, s6, s7, s8, s9, s10, s11, s12, rfl⟩ := len13 (show r.length = 13 from hN.1)
  have hR := hN.2.1.1
  have hIv : ∀ q ∈ ([(0, .negSucc 2147483647, .ofNat 2147483647), (1, .ofNat 18, .ofNat 18), (2, .negSucc 2147483647, .ofNat 2147483647), (3, .negSucc 2147483647, .ofNat 2147483647), (4, .negSucc 2147483647, .ofNat 2147483647), (5, .negSucc 2147483647, .ofNat 2147483647), (6, .negSucc 2147483647, .ofNat 2147483647), (7, .negSucc 2147483647, .ofNat 2147483647), (8, .negSucc 2147483647, .ofNat 2147483647), (9, .negSucc 2147483647, .ofNat 2147483647), (10, .negSucc 2147483647, .ofNat 2147483647), (11, .negSucc 2147483647, .ofNat 2147483647), (12, .negSucc 2147483647, .ofNat 2147483647)] : sIv), ∃ x, ([s0, s1, s2, s3, s4, s5, s6, s7, s8, s9, s10, s11, s12] : List Int)[q.1]? = some x ∧ q.2.1 ≤ x ∧ x ≤ q.2.2 := hN.2.1.2
  have b1 : (18 : Int) ≤ s1 ∧ s1 ≤ (18 : Int) := ivX (q := (1, .ofNat 18, .ofNat 18)) (y := s1) (hIv _ (.tail _ (.head _))) rfl
  have hFc : ∀ q ∈ ([(119, [(.ofNat 0, [(.ofNat 1, 0)]), (.ofNat 0, [(.ofNat 1, 1)]), (.ofNat 0, [(.ofNat 1, 2)]), (.ofNat 0, [(.ofNat 1, 3)]), (.ofNat 0, [(.ofNat 1, 4)]), (.ofNat 0, [(.ofNat 1, 5)]), (.ofNat 0, [(.ofNat 1, 6)]), (.ofNat 0, [(.ofNat 1, 7)]), (.ofNat 0, [(.ofNat 1, 8)]), (.ofNat 0, [(.ofNat 1, 9)]), (.ofNat 0, [(.ofNat 1, 10)]), (.ofNat 0, [(.ofNat 1, 11)]), (.ofNat 0, [(.ofNat 1, 12)])])] : List sFc), fcOk fFS [s0, s1, s2, s3, s4, s5, s6, s7, s8, s9, s10, s11, s12] hp q := hH.2
  have f0 : Hq (MT hp) s0 s1 s2 s3 s4 s5 s6 s7 s8 s9 s10 s11 s12 := fcX (ys := [s0, s1, s2, s3, s4, s5, s6, s7, s8, s9, s10, s11, s12]) (hFc _ (.head _)) ⟨sE_V rfl, sE_V rfl, sE_V rfl, sE_V rfl, sE_V rfl, sE_V rfl, sE_V rfl, sE_V rfl, sE_V rfl, sE_V rfl, sE_V rfl, sE_V rfl, sE_V rfl, trivial⟩
  obtain ⟨⟨D, hG⟩, -⟩ := f0
  exact poX (.head _) rfl hR (all_nil) (all_nil) (all_cons ⟨[s0, 19], ⟨sE_V rfl, sE_k _ _, trivial⟩, (show ((19 : Int) = 12 ∧ EO (MT hp) s0 0 4) ∨ ((19 : Int) = 19 ∧ EO (MT hp) s0 7 5) from Or.inr ⟨rfl, ex_mk hG (by omega) (by omega) (by omega)⟩)⟩ (all_nil))
theorem rl706 : ruOk fFS gR706 := by
  intro r hp hO hN hH
  obtain ⟨s0, s1, s2, rfl⟩ := len3 (show r.length = 3 from hN.1)
  have hR := hN.2.1.1
  have hIv : ∀ q ∈ ([(1, .negSucc 2147483647, .ofNat 2147483647), (2, .negSucc 2147483647, .ofNat 2147483647)] : sIv), ∃ x, ([s0, s1, s2] : List Int)[q.1]? = some x ∧ q.2.1 ≤ x ∧ x ≤ q.2.2 := hN.2.1.2
  have hRf : ∀ q ∈ ([((78, .ofNat 273, []), (.ofNat 17, []), 5, .ofNat 0, [(.ofNat 1, 0)])] : List sRf), rfOk [s0, s1, s2] hp q := hH.1
  have h0 : hL hp 273 17 = s0 := rfL0 (hRf _ (.head _)) (sE_k _ _) (sE_k _ _) (sE_V rfl)
  have hFc : ∀ q ∈ ([(131, [(.ofNat 0, [(.ofNat 1, 1)]), (.ofNat 0, [(.ofNat 1, 2)])])] : List sFc), fcOk fFS [s0, s1, s2] hp q := hH.2
  have f0 : isW (bs (MT hp).1 s1 s2) ∧ hL hp 273 17 = cd 256 0 (bs (MT hp).1 s1 s2) := fcX (ys := [s1, s2]) (hFc _ (.head _)) ⟨sE_V rfl, sE_V rfl, trivial⟩
  exact poX (.head _) rfl hR (all_nil) (all_nil) (all_cons ⟨[0, 1, s0], ⟨sE_k _ _, sE_k _ _, sE_V rfl, trivial⟩, (show ((1 : Int) = 1 ∧ ∀ i : Nat, i < 30 → (i : Int) < (0 : Int) → hL hp 279 i ≠ s0) ∨ ((1 : Int) = 0 ∧ ∃ i : Nat, i < 30 ∧ (i : Int) < (0 : Int) ∧ hL hp 279 i = s0) from Or.inl ⟨rfl, fun i _ w => absurd w (by omega)⟩)⟩ (all_nil))
theorem rl707 : ruOk fFS gR707 := by
  intro r hp hO hN hH
  obtain ⟨s0, s1, s2, rfl⟩ := len3 (show r.length = 3 from hN.1)
  have hR := hN.2.1.1
  have hIv : ∀ q ∈ ([(0, .negSucc 2147483647, .ofNat 2147483647), (1, .ofNat 0, .ofNat 1)] : sIv), ∃ x, ([s0, s1, s2] : List Int)[q.1]? = some x ∧ q.2.1 ≤ x ∧ x ≤ q.2.2 := hN.2.1.2
  have b1 : (0 : Int) ≤ s1 ∧ s1 ≤ (1 : Int) := ivX (q := (1, .ofNat 0, .ofNat 1)) (y := s1) (hIv _ (.tail _ (.head _))) rfl
  have hFc : ∀ q ∈ ([(133, [(.ofNat 0, [(.ofNat 1, 0)]), (.ofNat 0, [(.ofNat 1, 1)]), (.ofNat 0, [(.ofNat 1, 2)])])] : List sFc), fcOk fFS [s0, s1, s2] hp q := hH.2
  have f0 : (s1 = 1 ∧ ∀ i : Nat, i < 30 → (i : Int) < s0 → hL hp 279 i ≠ s2) ∨ (s1 = 0 ∧ ∃ i : Nat, i < 30 ∧ (i : Int) < s0 ∧ hL hp 279 i = s2) := fcX (ys := [s0, s1, s2]) (hFc _ (.head _)) ⟨sE_V rfl, sE_V rfl, sE_V rfl, trivial⟩
  have u : (0 : Int) ≤ s1 ∧ s1 ≤ 1 := by omega
  have y : (((0 : Int) ≤ s1 ∧ s1 ≤ (0 : Int))) ∨ (((1 : Int) ≤ s1 ∧ s1 ≤ (1 : Int))) := by omega
  rcases y with y | y
  · exact poX (.head _) rfl hR (all_cons (ivO (y := s1) rfl (show (0 : Int) ≤ s1 by omega) (show s1 ≤ (0 : Int) by omega)) (all_nil)) (all_nil) (all_nil)
  · exact poX (.tail _ (.head _)) rfl hR (all_cons (ivO (y := s1) rfl (show (1 : Int) ≤ s1 by omega) (show s1 ≤ (1 : Int) by omega)) (all_nil)) (all_nil) (all_nil)
theorem rl708 : ruOk fFS gR708 := by
  intro r hp hO hN hH
  obtain ⟨s0, s1, s2, rfl⟩ := len3 (show r.length = 3 from hN.1)
  have hR := hN.2.1.1
  have hIv : ∀ q ∈ ([(0, .ofNat 0, .ofNat 29), (2, .ofNat 0, .ofNat 0)] : sIv), ∃ x, ([s0, s1, s2] : List Int)[q.1]? = some x ∧ q.2.1 ≤ x ∧ x ≤ q.2.2 := hN.2.1.2
  have b0 : (0 : Int) ≤ s0 ∧ s0 ≤ (29 : Int) := ivX (q := (0, .ofNat 0, .ofNat 29)) (y := s0) (hIv _ (.head _)) rfl
  have b1 : (0 : Int) ≤ s2 ∧ s2 ≤ (0 : Int) := ivX (q := (2, .ofNat 0, .ofNat 0)) (y := s2) (hIv _ (.tail _ (.head _))) rfl
  have hRf : ∀ q ∈ ([((78, .ofNat 273, []), (.ofNat 17, []), 5, .ofNat 0, [(.ofNat 1, 1)])] : List sRf), rfOk [s0, s1, s2] hp q := hH.1
  have h0 : hL hp 273 17 = s1 := rfL0 (hRf _ (.head _)) (sE_k _ _) (sE_k _ _) (sE_V rfl)
  have hFc : ∀ q ∈ ([(133, [(.ofNat 0, [(.ofNat 1, 0)]), (.ofNat 0, [(.ofNat 1, 2)]), (.ofNat 0, [(.ofNat 1, 1)])])] : List sFc), fcOk fFS [s0, s1, s2] hp q := hH.2
  have f0 : (s2 = 1 ∧ ∀ i : Nat, i < 30 → (i : Int) < s0 → hL hp 279 i ≠ s1) ∨ (s2 = 0 ∧ ∃ i : Nat, i < 30 ∧ (i : Int) < s0 ∧ hL hp 279 i = s1) := fcX (ys := [s0, s2, s1]) (hFc _ (.head _)) ⟨sE_V rfl, sE_V rfl, sE_V rfl, trivial⟩
  exact poX (.head _) rfl hR (all_nil) (all_nil) (all_cons ⟨[(s0 + 1), 0, s1], ⟨sEv (y' := ((1 : Int) + ((1 : Int) * s0 + 0))) rfl (by omega), sE_k _ _, sE_V rfl, trivial⟩, (show ((0 : Int) = 1 ∧ ∀ i : Nat, i < 30 → (i : Int) < (s0 + 1) → hL hp 279 i ≠ s1) ∨ ((0 : Int) = 0 ∧ ∃ i : Nat, i < 30 ∧ (i : Int) < (s0 + 1) ∧ hL hp 279 i = s1) from inm_0 f0 (by omega) (by omega) rfl)⟩ (all_nil))
theorem rl709 : ruOk fFS gR709 := by
  intro r hp hO hN hH
  obtain ⟨s0, s1, s2, s3, rfl⟩ := len4 (show r.length = 4 from hN.1)
  have hR := hN.2.1.1
  have hIv : ∀ q ∈ ([(0, .ofNat 0, .ofNat 29), (3, .ofNat 1, .ofNat 1)] : sIv), ∃ x, ([s0, s1, s2, s3] : List Int)[q.1]? = some x ∧ q.2.1 ≤ x ∧ x ≤ q.2.2 := hN.2.1.2
  have b0 : (0 : Int) ≤ s0 ∧ s0 ≤ (29 : Int) := ivX (q := (0, .ofNat 0, .ofNat 29)) (y := s0) (hIv _ (.head _)) rfl
  have b1 : (1 : Int) ≤ s3 ∧ s3 ≤ (1 : Int) := ivX (q := (3, .ofNat 1, .ofNat 1)) (y := s3) (hIv _ (.tail _ (.head _))) rfl
  have hCs : ∀ c ∈ ([(.ofNat 0, [(.ofNat 1, 1), (.negSucc 0, 2)]), (.ofNat 0, [(.negSucc 0, 1), (.ofNat 1, 2)])] : List sLn), ∃ x, sE [s0, s1, s2, s3] c = some x ∧ x ≤ 0 := hN.2.2.1
  have c0 : ((0 : Int) + ((1 : Int) * s1 + ((-1 : Int) * s2 + 0))) ≤ 0 := csX (hCs _ (.head _)) rfl
  have c1 : ((0 : Int) + ((-1 : Int) * s1 + ((1 : Int) * s2 + 0))) ≤ 0 := csX (hCs _ (.tail _ (.head _))) rfl
  have hRf : ∀ q ∈ ([((78, .ofNat 273, []), (.ofNat 17, []), 5, .ofNat 0, [(.ofNat 1, 1)]), ((84, .ofNat 279, []), (.ofNat 0, [(.ofNat 1, 0)]), 5, .ofNat 0, [(.ofNat 1, 2)])] : List sRf), rfOk [s0, s1, s2, s3] hp q := hH.1
  have h0 : hL hp 273 17 = s1 := rfL0 (hRf _ (.head _)) (sE_k _ _) (sE_k _ _) (sE_V rfl)
  obtain ⟨i1, e1, l1, h1⟩ := rfL (iv := s0) (hRf _ (.tail _ (.head _))) (sE_k _ _) (sE_V rfl) (sE_V rfl)
  have l1 : i1 < 30 := l1
  have h1 : hL hp 279 i1 = s2 := h1
  have hFc : ∀ q ∈ ([(133, [(.ofNat 0, [(.ofNat 1, 0)]), (.ofNat 0, [(.ofNat 1, 3)]), (.ofNat 0, [(.ofNat 1, 1)])])] : List sFc), fcOk fFS [s0, s1, s2, s3] hp q := hH.2
  have f0 : (s3 = 1 ∧ ∀ i : Nat, i < 30 → (i : Int) < s0 → hL hp 279 i ≠ s1) ∨ (s3 = 0 ∧ ∃ i : Nat, i < 30 ∧ (i : Int) < s0 ∧ hL hp 279 i = s1) := fcX (ys := [s0, s3, s1]) (hFc _ (.head _)) ⟨sE_V rfl, sE_V rfl, sE_V rfl, trivial⟩
  exact poX (.head _) rfl hR (all_nil) (all_nil) (all_cons ⟨[(s0 + 1), 0, s1], ⟨sEv (y' := ((1 : Int) + ((1 : Int) * s0 + 0))) rfl (by omega), sE_k _ _, sE_V rfl, trivial⟩, (show ((0 : Int) = 1 ∧ ∀ i : Nat, i < 30 → (i : Int) < (s0 + 1) → hL hp 279 i ≠ s1) ∨ ((0 : Int) = 0 ∧ ∃ i : Nat, i < 30 ∧ (i : Int) < (s0 + 1) ∧ hL hp 279 i = s1) from inm_s (R := fun i => hL hp 279 i) f0 h1 l1 (by omega) (by omega) (by omega))⟩ (all_nil))
theorem rl710 : ruOk fFS gR710 := by
  intro r hp hO hN hH
  obtain ⟨s0, s1, s2, s3, rfl⟩ := len4 (show r.length = 4 from hN.1)
  have hR := hN.2.1.1
  have hIv : ∀ q ∈ ([(0, .ofNat 0, .ofNat 29), (3, .ofNat 1, .ofNat 1)] : sIv), ∃ x, ([s0, s1, s2, s3] : List Int)[q.1]? = some x ∧ q.2.1 ≤ x ∧ x ≤ q.2.2 := hN.2.1.2
  have b0 : (0 : Int) ≤ s0 ∧ s0 ≤ (29 : Int) := ivX (q := (0, .ofNat 0, .ofNat 29)) (y := s0) (hIv _ (.head _)) rfl
  have b1 : (1 : Int) ≤ s3 ∧ s3 ≤ (1 : Int) := ivX (q := (3, .ofNat 1, .ofNat 1)) (y := s3) (hIv _ (.tail _ (.head _))) rfl
  have hCs : ∀ c ∈ ([(.ofNat 1, [(.ofNat 1, 1), (.negSucc 0, 2)])] : List sLn), ∃ x, sE [s0, s1, s2, s3] c = some x ∧ x ≤ 0 := hN.2.2.1
  have c0 : ((1 : Int) + ((1 : Int) * s1 + ((-1 : Int) * s2 + 0))) ≤ 0 := csX (hCs _ (.head _)) rfl
  have hRf : ∀ q ∈ ([((78, .ofNat 273, []), (.ofNat 17, []), 5, .ofNat 0, [(.ofNat 1, 1)]), ((84, .ofNat 279, []), (.ofNat 0, [(.ofNat 1, 0)]), 5, .ofNat 0, [(.ofNat 1, 2)])] : List sRf), rfOk [s0, s1, s2, s3] hp q := hH.1
  have h0 : hL hp 273 17 = s1 := rfL0 (hRf _ (.head _)) (sE_k _ _) (sE_k _ _) (sE_V rfl)
  obtain ⟨i1, e1, l1, h1⟩ := rfL (iv := s0) (hRf _ (.tail _ (.head _))) (sE_k _ _) (sE_V rfl) (sE_V rfl)
  have l1 : i1 < 30 := l1
  have h1 : hL hp 279 i1 = s2 := h1
  have hFc : ∀ q ∈ ([(133, [(.ofNat 0, [(.ofNat 1, 0)]), (.ofNat 0, [(.ofNat 1, 3)]), (.ofNat 0, [(.ofNat 1, 1)])])] : List sFc), fcOk fFS [s0, s1, s2, s3] hp q := hH.2
  have f0 : (s3 = 1 ∧ ∀ i : Nat, i < 30 → (i : Int) < s0 → hL hp 279 i ≠ s1) ∨ (s3 = 0 ∧ ∃ i : Nat, i < 30 ∧ (i : Int) < s0 ∧ hL hp 279 i = s1) := fcX (ys := [s0, s3, s1]) (hFc _ (.head _)) ⟨sE_V rfl, sE_V rfl, sE_V rfl, trivial⟩
  exact poX (.head _) rfl hR (all_nil) (all_nil) (all_cons ⟨[(s0 + 1), 1, s1], ⟨sEv (y' := ((1 : Int) + ((1 : Int) * s0 + 0))) rfl (by omega), sE_k _ _, sE_V rfl, trivial⟩, (show ((1 : Int) = 1 ∧ ∀ i : Nat, i < 30 → (i : Int) < (s0 + 1) → hL hp 279 i ≠ s1) ∨ ((1 : Int) = 0 ∧ ∃ i : Nat, i < 30 ∧ (i : Int) < (s0 + 1) ∧ hL hp 279 i = s1) from inm_s (R := fun i => hL hp 279 i) f0 h1 l1 (by omega) (by omega) (by omega))⟩ (all_nil))
theorem rl711 : ruOk fFS gR711 := by
  intro r hp hO hN hH
  obtain ⟨s0, s1, s2, s3, rfl⟩ := len4 (show r.length = 4 from hN.1)
  have hR := hN.2.1.1
  have hIv : ∀ q ∈ ([(0, .ofNat 0, .ofNat 29), (3, .ofNat 1, .ofNat 1)] : sIv), ∃ x, ([s0, s1, s2, s3] : List Int)[q.1]? = some x ∧ q.2.1 ≤ x ∧ x ≤ q.2.2 := hN.2.1.2
  have b0 : (0 : Int) ≤ s0 ∧ s0 ≤ (29 : Int) := ivX (q := (0, .ofNat 0, .ofNat 29)) (y := s0) (hIv _ (.head _)) rfl
  have b1 : (1 : Int) ≤ s3 ∧ s3 ≤ (1 : Int) := ivX (q := (3, .ofNat 1, .ofNat 1)) (y := s3) (hIv _ (.tail _ (.head _))) rfl
  have hCs : ∀ c ∈ ([(.ofNat 1, [(.negSucc 0, 1), (.ofNat 1, 2)])] : List sLn), ∃ x, sE [s0, s1, s2, s3] c = some x ∧ x ≤ 0 := hN.2.2.1
  have c0 : ((1 : Int) + ((-1 : Int) * s1 + ((1 : Int) * s2 + 0))) ≤ 0 := csX (hCs _ (.head _)) rfl
  have hRf : ∀ q ∈ ([((78, .ofNat 273, []), (.ofNat 17, []), 5, .ofNat 0, [(.ofNat 1, 1)]), ((84, .ofNat 279, []), (.ofNat 0, [(.ofNat 1, 0)]), 5, .ofNat 0, [(.ofNat 1, 2)])] : List sRf), rfOk [s0, s1, s2, s3] hp q := hH.1
  have h0 : hL hp 273 17 = s1 := rfL0 (hRf _ (.head _)) (sE_k _ _) (sE_k _ _) (sE_V rfl)
  obtain ⟨i1, e1, l1, h1⟩ := rfL (iv := s0) (hRf _ (.tail _ (.head _))) (sE_k _ _) (sE_V rfl) (sE_V rfl)
  have l1 : i1 < 30 := l1
  have h1 : hL hp 279 i1 = s2 := h1
  have hFc : ∀ q ∈ ([(133, [(.ofNat 0, [(.ofNat 1, 0)]), (.ofNat 0, [(.ofNat 1, 3)]), (.ofNat 0, [(.ofNat 1, 1)])])] : List sFc), fcOk fFS [s0, s1, s2, s3] hp q := hH.2
  have f0 : (s3 = 1 ∧ ∀ i : Nat, i < 30 → (i : Int) < s0 → hL hp 279 i ≠ s1) ∨ (s3 = 0 ∧ ∃ i : Nat, i < 30 ∧ (i : Int) < s0 ∧ hL hp 279 i = s1) := fcX (ys := [s0, s3, s1]) (hFc _ (.head _)) ⟨sE_V rfl, sE_V rfl, sE_V rfl, trivial⟩
  exact poX (.head _) rfl hR (all_nil) (all_nil) (all_cons ⟨[(s0 + 1), 1, s1], ⟨sEv (y' := ((1 : Int) + ((1 : Int) * s0 + 0))) rfl (by omega), sE_k _ _, sE_V rfl, trivial⟩, (show ((1 : Int) = 1 ∧ ∀ i : Nat, i < 30 → (i : Int) < (s0 + 1) → hL hp 279 i ≠ s1) ∨ ((1 : Int) = 0 ∧ ∃ i : Nat, i < 30 ∧ (i : Int) < (s0 + 1) ∧ hL hp 279 i = s1) from inm_s (R := fun i => hL hp 279 i) f0 h1 l1 (by omega) (by omega) (by omega))⟩ (all_nil))
theorem rl712 : ruOk fFS gR712 := by
  intro r hp hO hN hH
  obtain ⟨s0, rfl⟩ := len1 (show r.length = 1 from hN.1)
  have hR := hN.2.1.1
  have hIv : ∀ q ∈ ([(0, .ofNat 0, .ofNat 1)] : sIv), ∃ x, ([s0] : List Int)[q.1]? = some x ∧ q.2.1 ≤ x ∧ x ≤ q.2.2 := hN.2.1.2
  have b0 : (0 : Int) ≤ s0 ∧ s0 ≤ (1 : Int) := ivX (q := (0, .ofNat 0, .ofNat 1)) (y := s0) (hIv _ (.head _)) rfl
  have y : (((0 : Int) ≤ s0 ∧ s0 ≤ (0 : Int))) ∨ (((1 : Int) ≤ s0 ∧ s0 ≤ (1 : Int))) := by omega
  rcases y with y | y
  · exact poX (.head _) rfl hR (all_cons (ivO (y := s0) rfl (show (0 : Int) ≤ s0 by omega) (show s0 ≤ (0 : Int) by omega)) (all_nil)) (all_nil) (all_nil)
  · exact poX (.tail _ (.head _)) rfl hR (all_cons (ivO (y := s0) rfl (show (1 : Int) ≤ s0 by omega) (show s0 ≤ (1 : Int) by omega)) (all_nil)) (all_nil) (all_nil)
theorem rl713 : ruOk fFS gR713 := by
  intro r hp hO hN hH
  obtain ⟨s0, s1, s2, s3, s4, s5, s6, s7, s8, s9, s10, s11, s12, s13, s14, rfl⟩ := len15 (show r.length = 15 from hN.1)
  have hR := hN.2.1.1
  have hIv : ∀ q ∈ ([(0, .ofNat 1, .ofNat 1), (2, .negSucc 2147483647, .ofNat 2147483647), (3, .negSucc 2147483647, .ofNat 2147483647), (4, .negSucc 2147483647, .ofNat 2147483647), (5, .negSucc 2147483647, .ofNat 2147483647), (6, .negSucc 2147483647, .ofNat 2147483647), (7, .negSucc 2147483647, .ofNat 2147483647), (8, .negSucc 2147483647, .ofNat 2147483647), (9, .negSucc 2147483647, .ofNat 2147483647), (10, .negSucc 2147483647, .ofNat 2147483647), (11, .ofNat 1, .ofNat 1), (12, .negSucc 2147483647, .ofNat 2147483647), (13, .negSucc 2147483647, .ofNat 2147483647), (14, .negSucc 2147483647, .ofNat 2147483647)] : sIv), ∃ x, ([s0, s1, s2, s3, s4, s5, s6, s7, s8, s9, s10, s11, s12, s13, s14] : List Int)[q.1]? = some x ∧ q.2.1 ≤ x ∧ x ≤ q.2.2 := hN.2.1.2
  have b0 : (1 : Int) ≤ s0 ∧ s0 ≤ (1 : Int) := ivX (q := (0, .ofNat 1, .ofNat 1)) (y := s0) (hIv _ (.head _)) rfl
  have b10 : (1 : Int) ≤ s11 ∧ s11 ≤ (1 : Int) := ivX (q := (11, .ofNat 1, .ofNat 1)) (y := s11) (hIv _ (.tail _ (.tail _ (.tail _ (.tail _ (.tail _ (.tail _ (.tail _ (.tail _ (.tail _ (.tail _ (.head _)))))))))))) rfl
  have b13 : (-2147483648 : Int) ≤ s14 ∧ s14 ≤ (2147483647 : Int) := ivX (q := (14, .negSucc 2147483647, .ofNat 2147483647)) (y := s14) (hIv _ (.tail _ (.tail _ (.tail _ (.tail _ (.tail _ (.tail _ (.tail _ (.tail _ (.tail _ (.tail _ (.tail _ (.tail _ (.tail _ (.head _))))))))))))))) rfl
  have hRf : ∀ q ∈ ([((78, .ofNat 273, []), (.ofNat 17, []), 5, .ofNat 0, [(.ofNat 1, 1)])] : List sRf), rfOk [s0, s1, s2, s3, s4, s5, s6, s7, s8, s9, s10, s11, s12, s13, s14] hp q := hH.1
  have h0 : hL hp 273 17 = s1 := rfL0 (hRf _ (.head _)) (sE_k _ _) (sE_k _ _) (sE_V rfl)
  have hFc : ∀ q ∈ ([(133, [(.ofNat 30, []), (.ofNat 0, [(.ofNat 1, 0)]), (.ofNat 0, [(.ofNat 1, 1)])]), (132, []), (119, [(.ofNat 0, [(.ofNat 1, 2)]), (.ofNat 0, [(.ofNat 1, 3)]), (.ofNat 0, [(.ofNat 1, 4)]), (.ofNat 0, [(.ofNat 1, 5)]), (.ofNat 0, [(.ofNat 1, 6)]), (.ofNat 0, [(.ofNat 1, 7)]), (.ofNat 0, [(.ofNat 1, 8)]), (.ofNat 0, [(.ofNat 1, 9)]), (.ofNat 0, [(.ofNat 1, 10)]), (.ofNat 0, [(.ofNat 1, 11)]), (.ofNat 0, [(.ofNat 1, 12)]), (.ofNat 0, [(.ofNat 1, 13)]), (.ofNat 0, [(.ofNat 1, 14)])]), (131, [(.ofNat 0, [(.ofNat 1, 12)]), (.ofNat 0, [(.ofNat 1, 13)])])] : List sFc), fcOk fFS [s0, s1, s2, s3, s4, s5, s6, s7, s8, s9, s10, s11, s12, s13, s14] hp q := hH.2
  have f0 : (s0 = 1 ∧ ∀ i : Nat, i < 30 → (i : Int) < (30 : Int) → hL hp 279 i ≠ s1) ∨ (s0 = 0 ∧ ∃ i : Nat, i < 30 ∧ (i : Int) < (30 : Int) ∧ hL hp 279 i = s1) := fcX (ys := [30, s0, s1]) (hFc _ (.head _)) ⟨sE_k _ _, sE_V rfl, sE_V rfl, trivial⟩
  have f1 : ∀ i : Nat, i < 30 → hL hp 279 i = cd 256 0 (wrd (rsv i)) := fcX (ys := []) (hFc _ (.tail _ (.head _))) trivial
  have f2 : Hq (MT hp) s2 s3 s4 s5 s6 s7 s8 s9 s10 s11 s12 s13 s14 := fcX (ys := [s2, s3, s4, s5, s6, s7, s8, s9, s10, s11, s12, s13, s14]) (hFc _ (.tail _ (.tail _ (.head _)))) ⟨sE_V rfl, sE_V rfl, sE_V rfl, sE_V rfl, sE_V rfl, sE_V rfl, sE_V rfl, sE_V rfl, sE_V rfl, sE_V rfl, sE_V rfl, sE_V rfl, sE_V rfl, trivial⟩
  have f3 : isW (bs (MT hp).1 s12 s13) ∧ hL hp 273 17 = cd 256 0 (bs (MT hp).1 s12 s13) := fcX (ys := [s12, s13]) (hFc _ (.tail _ (.tail _ (.tail _ (.head _))))) ⟨sE_V rfl, sE_V rfl, trivial⟩
  have u := inm_e (w := s1) (R := fun i => hL hp 279 i) (MT_ok hO) f1 f0 rfl f2 (by omega) ⟨f3.1, by rw [← h0]; exact f3.2⟩
  exact poX (.head _) rfl hR (all_cons (ivO (y := s14) rfl (show (-1 : Int) ≤ s14 by omega) (show s14 ≤ (-1 : Int) by omega)) (all_nil)) (all_nil) (all_nil)
theorem rl714 : ruOk fFS gR714 := by
  intro r hp hO hN hH
  obtain ⟨s0, s1, s2, s3, s4, s5, s6, s7, s8, s9, s10, s11, s12, s13, s14, rfl⟩ := len15 (show r.length = 15 from hN.1)
  have hR := hN.2.1.1
  have hIv : ∀ q ∈ ([(0, .ofNat 0, .ofNat 0), (2, .negSucc 2147483647, .ofNat 2147483647), (3, .negSucc 2147483647, .ofNat 2147483647), (4, .negSucc 2147483647, .ofNat 2147483647), (5, .negSucc 2147483647, .ofNat 2147483647), (6, .negSucc 2147483647, .ofNat 2147483647), (7, .negSucc 2147483647, .ofNat 2147483647), (8, .negSucc 2147483647, .ofNat 2147483647), (9, .negSucc 2147483647, .ofNat 2147483647), (10, .negSucc 2147483647, .ofNat 2147483647), (11, .ofNat 1, .ofNat 1), (12, .negSucc 2147483647, .ofNat 2147483647), (13, .negSucc 2147483647, .ofNat 2147483647), (14, .negSucc 2147483647, .ofNat 2147483647)] : sIv), ∃ x, ([s0, s1, s2, s3, s4, s5, s6, s7, s8, s9, s10, s11, s12, s13, s14] : List Int)[q.1]? = some x ∧ q.2.1 ≤ x ∧ x ≤ q.2.2 := hN.2.1.2
  have b0 : (0 : Int) ≤ s0 ∧ s0 ≤ (0 : Int) := ivX (q := (0, .ofNat 0, .ofNat 0)) (y := s0) (hIv _ (.head _)) rfl
  have b10 : (1 : Int) ≤ s11 ∧ s11 ≤ (1 : Int) := ivX (q := (11, .ofNat 1, .ofNat 1)) (y := s11) (hIv _ (.tail _ (.tail _ (.tail _ (.tail _ (.tail _ (.tail _ (.tail _ (.tail _ (.tail _ (.tail _ (.head _)))))))))))) rfl
  have b13 : (-2147483648 : Int) ≤ s14 ∧ s14 ≤ (2147483647 : Int) := ivX (q := (14, .negSucc 2147483647, .ofNat 2147483647)) (y := s14) (hIv _ (.tail _ (.tail _ (.tail _ (.tail _ (.tail _ (.tail _ (.tail _ (.tail _ (.tail _ (.tail _ (.tail _ (.tail _ (.tail _ (.head _))))))))))))))) rfl
  have hRf : ∀ q ∈ ([((78, .ofNat 273, []), (.ofNat 17, []), 5, .ofNat 0, [(.ofNat 1, 1)])] : List sRf), rfOk [s0, s1, s2, s3, s4, s5, s6, s7, s8, s9, s10, s11, s12, s13, s14] hp q := hH.1
  have h0 : hL hp 273 17 = s1 := rfL0 (hRf _ (.head _)) (sE_k _ _) (sE_k _ _) (sE_V rfl)
  have hFc : ∀ q ∈ ([(133, [(.ofNat 30, []), (.ofNat 0, [(.ofNat 1, 0)]), (.ofNat 0, [(.ofNat 1, 1)])]), (132, []), (119, [(.ofNat 0, [(.ofNat 1, 2)]), (.ofNat 0, [(.ofNat 1, 3)]), (.ofNat 0, [(.ofNat 1, 4)]), (.ofNat 0, [(.ofNat 1, 5)]), (.ofNat 0, [(.ofNat 1, 6)]), (.ofNat 0, [(.ofNat 1, 7)]), (.ofNat 0, [(.ofNat 1, 8)]), (.ofNat 0, [(.ofNat 1, 9)]), (.ofNat 0, [(.ofNat 1, 10)]), (.ofNat 0, [(.ofNat 1, 11)]), (.ofNat 0, [(.ofNat 1, 12)]), (.ofNat 0, [(.ofNat 1, 13)]), (.ofNat 0, [(.ofNat 1, 14)])]), (131, [(.ofNat 0, [(.ofNat 1, 12)]), (.ofNat 0, [(.ofNat 1, 13)])])] : List sFc), fcOk fFS [s0, s1, s2, s3, s4, s5, s6, s7, s8, s9, s10, s11, s12, s13, s14] hp q := hH.2
  have f0 : (s0 = 1 ∧ ∀ i : Nat, i < 30 → (i : Int) < (30 : Int) → hL hp 279 i ≠ s1) ∨ (s0 = 0 ∧ ∃ i : Nat, i < 30 ∧ (i : Int) < (30 : Int) ∧ hL hp 279 i = s1) := fcX (ys := [30, s0, s1]) (hFc _ (.head _)) ⟨sE_k _ _, sE_V rfl, sE_V rfl, trivial⟩
  have f1 : ∀ i : Nat, i < 30 → hL hp 279 i = cd 256 0 (wrd (rsv i)) := fcX (ys := []) (hFc _ (.tail _ (.head _))) trivial
  have f2 : Hq (MT hp) s2 s3 s4 s5 s6 s7 s8 s9 s10 s11 s12 s13 s14 := fcX (ys := [s2, s3, s4, s5, s6, s7, s8, s9, s10, s11, s12, s13, s14]) (hFc _ (.tail _ (.tail _ (.head _)))) ⟨sE_V rfl, sE_V rfl, sE_V rfl, sE_V rfl, sE_V rfl, sE_V rfl, sE_V rfl, sE_V rfl, sE_V rfl, sE_V rfl, sE_V rfl, sE_V rfl, sE_V rfl, trivial⟩
  have f3 : isW (bs (MT hp).1 s12 s13) ∧ hL hp 273 17 = cd 256 0 (bs (MT hp).1 s12 s13) := fcX (ys := [s12, s13]) (hFc _ (.tail _ (.tail _ (.tail _ (.head _))))) ⟨sE_V rfl, sE_V rfl, trivial⟩
  have u := inm_e (w := s1) (R := fun i => hL hp 279 i) (MT_ok hO) f1 f0 rfl f2 (by omega) ⟨f3.1, by rw [← h0]; exact f3.2⟩
  exact poX (.head _) rfl hR (all_cons (ivO (y := s14) rfl (show (0 : Int) ≤ s14 by omega) (show s14 ≤ (29 : Int) by omega)) (all_nil)) (all_nil) (all_nil)
theorem rl715 : ruOk fFS gR715 := by
  intro r hp hO hN hH
  obtain ⟨s0, s1, s2, s3, s4, s5, s6, s7, s8, s9, rfl⟩ := len10 (show r.length = 10 from hN.1)
  have hR := hN.2.1.1
  have hIv : ∀ q ∈ ([(0, .ofNat 1, .ofNat 1), (2, .negSucc 2147483647, .ofNat 2147483647), (3, .negSucc 2147483647, .ofNat 2147483647), (4, .negSucc 2147483647, .ofNat 2147483647), (5, .negSucc 2147483647, .ofNat 2147483647), (6, .ofNat 1, .ofNat 1), (7, .negSucc 2147483647, .ofNat 2147483647), (8, .negSucc 2147483647, .ofNat 2147483647), (9, .negSucc 2147483647, .ofNat 2147483647)] : sIv), ∃ x, ([s0, s1, s2, s3, s4, s5, s6, s7, s8, s9] : List Int)[q.1]? = some x ∧ q.2.1 ≤ x ∧ x ≤ q.2.2 := hN.2.1.2
  have b0 : (1 : Int) ≤ s0 ∧ s0 ≤ (1 : Int) := ivX (q := (0, .ofNat 1, .ofNat 1)) (y := s0) (hIv _ (.head _)) rfl
  have b5 : (1 : Int) ≤ s6 ∧ s6 ≤ (1 : Int) := ivX (q := (6, .ofNat 1, .ofNat 1)) (y := s6) (hIv _ (.tail _ (.tail _ (.tail _ (.tail _ (.tail _ (.head _))))))) rfl
  have b8 : (-2147483648 : Int) ≤ s9 ∧ s9 ≤ (2147483647 : Int) := ivX (q := (9, .negSucc 2147483647, .ofNat 2147483647)) (y := s9) (hIv _ (.tail _ (.tail _ (.tail _ (.tail _ (.tail _ (.tail _ (.tail _ (.tail _ (.head _)))))))))) rfl
  have hRf : ∀ q ∈ ([((78, .ofNat 273, []), (.ofNat 17, []), 5, .ofNat 0, [(.ofNat 1, 1)])] : List sRf), rfOk [s0, s1, s2, s3, s4, s5, s6, s7, s8, s9] hp q := hH.1
  have h0 : hL hp 273 17 = s1 := rfL0 (hRf _ (.head _)) (sE_k _ _) (sE_k _ _) (sE_V rfl)
  have hFc : ∀ q ∈ ([(133, [(.ofNat 30, []), (.ofNat 0, [(.ofNat 1, 0)]), (.ofNat 0, [(.ofNat 1, 1)])]), (132, []), (207, [(.ofNat 0, [(.ofNat 1, 2)]), (.ofNat 0, [(.ofNat 1, 3)]), (.ofNat 0, [(.ofNat 1, 4)]), (.ofNat 0, [(.ofNat 1, 5)]), (.ofNat 0, [(.ofNat 1, 6)]), (.ofNat 0, [(.ofNat 1, 7)]), (.ofNat 0, [(.ofNat 1, 8)]), (.ofNat 0, [(.ofNat 1, 9)])]), (131, [(.ofNat 0, [(.ofNat 1, 7)]), (.ofNat 0, [(.ofNat 1, 8)])])] : List sFc), fcOk fFS [s0, s1, s2, s3, s4, s5, s6, s7, s8, s9] hp q := hH.2
  have f0 : (s0 = 1 ∧ ∀ i : Nat, i < 30 → (i : Int) < (30 : Int) → hL hp 279 i ≠ s1) ∨ (s0 = 0 ∧ ∃ i : Nat, i < 30 ∧ (i : Int) < (30 : Int) ∧ hL hp 279 i = s1) := fcX (ys := [30, s0, s1]) (hFc _ (.head _)) ⟨sE_k _ _, sE_V rfl, sE_V rfl, trivial⟩
  have f1 : ∀ i : Nat, i < 30 → hL hp 279 i = cd 256 0 (wrd (rsv i)) := fcX (ys := []) (hFc _ (.tail _ (.head _))) trivial
  have f2 : SHq (MT hp) (nmM hp) s2 s3 s4 s5 s6 s7 s8 s9 := fcX (ys := [s2, s3, s4, s5, s6, s7, s8, s9]) (hFc _ (.tail _ (.tail _ (.head _)))) ⟨sE_V rfl, sE_V rfl, sE_V rfl, sE_V rfl, sE_V rfl, sE_V rfl, sE_V rfl, sE_V rfl, trivial⟩
  have f3 : isW (bs (MT hp).1 s7 s8) ∧ hL hp 273 17 = cd 256 0 (bs (MT hp).1 s7 s8) := fcX (ys := [s7, s8]) (hFc _ (.tail _ (.tail _ (.tail _ (.head _))))) ⟨sE_V rfl, sE_V rfl, trivial⟩
  have u := inm_eS (w := s1) (R := fun i => hL hp 279 i) (MT_ok hO) f1 f0 rfl f2 (by omega) ⟨f3.1, by rw [← h0]; exact f3.2⟩
  exact poX (.head _) rfl hR (all_cons (ivO (y := s9) rfl (show (-1 : Int) ≤ s9 by omega) (show s9 ≤ (-1 : Int) by omega)) (all_nil)) (all_nil) (all_nil)
theorem rl716 : ruOk fFS gR716 := by
  intro r hp hO hN hH
  obtain ⟨s0, s1, s2, s3, s4, s5, s6, s7, s8, s9, rfl⟩ := len10 (show r.length = 10 from hN.1)
  have hR := hN.2.1.1
  have hIv : ∀ q ∈ ([(0, .ofNat 0, .ofNat 0), (2, .negSucc 2147483647, .ofNat 2147483647), (3, .negSucc 2147483647, .ofNat 2147483647), (4, .negSucc 2147483647, .ofNat 2147483647), (5, .negSucc 2147483647, .ofNat 2147483647), (6, .ofNat 1, .ofNat 1), (7, .negSucc 2147483647, .ofNat 2147483647), (8, .negSucc 2147483647, .ofNat 2147483647), (9, .negSucc 2147483647, .ofNat 2147483647)] : sIv), ∃ x, ([s0, s1, s2, s3, s4, s5, s6, s7, s8, s9] : List Int)[q.1]? = some x ∧ q.2.1 ≤ x ∧ x ≤ q.2.2 := hN.2.1.2
  have b0 : (0 : Int) ≤ s0 ∧ s0 ≤ (0 : Int) := ivX (q := (0, .ofNat 0, .ofNat 0)) (y := s0) (hIv _ (.head _)) rfl
  have b5 : (1 : Int) ≤ s6 ∧ s6 ≤ (1 : Int) := ivX (q := (6, .ofNat 1, .ofNat 1)) (y := s6) (hIv _ (.tail _ (.tail _ (.tail _ (.tail _ (.tail _ (.head _))))))) rfl
  have b8 : (-2147483648 : Int) ≤ s9 ∧ s9 ≤ (2147483647 : Int) := ivX (q := (9, .negSucc 2147483647, .ofNat 2147483647)) (y := s9) (hIv _ (.tail _ (.tail _ (.tail _ (.tail _ (.tail _ (.tail _ (.tail _ (.tail _ (.head _)))))))))) rfl
  have hRf : ∀ q ∈ ([((78, .ofNat 273, []), (.ofNat 17, []), 5, .ofNat 0, [(.ofNat 1, 1)])] : List sRf), rfOk [s0, s1, s2, s3, s4, s5, s6, s7, s8, s9] hp q := hH.1
  have h0 : hL hp 273 17 = s1 := rfL0 (hRf _ (.head _)) (sE_k _ _) (sE_k _ _) (sE_V rfl)
  have hFc : ∀ q ∈ ([(133, [(.ofNat 30, []), (.ofNat 0, [(.ofNat 1, 0)]), (.ofNat 0, [(.ofNat 1, 1)])]), (132, []), (207, [(.ofNat 0, [(.ofNat 1, 2)]), (.ofNat 0, [(.ofNat 1, 3)]), (.ofNat 0, [(.ofNat 1, 4)]), (.ofNat 0, [(.ofNat 1, 5)]), (.ofNat 0, [(.ofNat 1, 6)]), (.ofNat 0, [(.ofNat 1, 7)]), (.ofNat 0, [(.ofNat 1, 8)]), (.ofNat 0, [(.ofNat 1, 9)])]), (131, [(.ofNat 0, [(.ofNat 1, 7)]), (.ofNat 0, [(.ofNat 1, 8)])])] : List sFc), fcOk fFS [s0, s1, s2, s3, s4, s5, s6, s7, s8, s9] hp q := hH.2
  have f0 : (s0 = 1 ∧ ∀ i : Nat, i < 30 → (i : Int) < (30 : Int) → hL hp 279 i ≠ s1) ∨ (s0 = 0 ∧ ∃ i : Nat, i < 30 ∧ (i : Int) < (30 : Int) ∧ hL hp 279 i = s1) := fcX (ys := [30, s0, s1]) (hFc _ (.head _)) ⟨sE_k _ _, sE_V rfl, sE_V rfl, trivial⟩
  have f1 : ∀ i : Nat, i < 30 → hL hp 279 i = cd 256 0 (wrd (rsv i)) := fcX (ys := []) (hFc _ (.tail _ (.head _))) trivial
  have f2 : SHq (MT hp) (nmM hp) s2 s3 s4 s5 s6 s7 s8 s9 := fcX (ys := [s2, s3, s4, s5, s6, s7, s8, s9]) (hFc _ (.tail _ (.tail _ (.head _)))) ⟨sE_V rfl, sE_V rfl, sE_V rfl, sE_V rfl, sE_V rfl, sE_V rfl, sE_V rfl, sE_V rfl, trivial⟩
  have f3 : isW (bs (MT hp).1 s7 s8) ∧ hL hp 273 17 = cd 256 0 (bs (MT hp).1 s7 s8) := fcX (ys := [s7, s8]) (hFc _ (.tail _ (.tail _ (.tail _ (.head _))))) ⟨sE_V rfl, sE_V rfl, trivial⟩
  have u := inm_eS (w := s1) (R := fun i => hL hp 279 i) (MT_ok hO) f1 f0 rfl f2 (by omega) ⟨f3.1, by rw [← h0]; exact f3.2⟩
  exact poX (.head _) rfl hR (all_cons (ivO (y := s9) rfl (show (0 : Int) ≤ s9 by omega) (show s9 ≤ (29 : Int) by omega)) (all_nil)) (all_nil) (all_nil)
theorem rl717 : ruOk fFS gR717 := by
  intro r hp hO hN hH
  obtain ⟨s0, s1, s2, s3, s4, s5, s6, s7, s8, rfl⟩ := len9 (show r.length = 9 from hN.1)
  have hR := hN.2.1.1
  have hIv : ∀ q ∈ ([(0, .ofNat 1, .ofNat 1), (2, .negSucc 2147483647, .ofNat 2147483647), (3, .negSucc 2147483647, .ofNat 2147483647), (4, .negSucc 2147483647, .ofNat 2147483647), (5, .ofNat 1, .ofNat 1), (6, .negSucc 2147483647, .ofNat 2147483647), (7, .negSucc 2147483647, .ofNat 2147483647), (8, .negSucc 2147483647, .ofNat 2147483647)] : sIv), ∃ x, ([s0, s1, s2, s3, s4, s5, s6, s7, s8] : List Int)[q.1]? = some x ∧ q.2.1 ≤ x ∧ x ≤ q.2.2 := hN.2.1.2
  have b0 : (1 : Int) ≤ s0 ∧ s0 ≤ (1 : Int) := ivX (q := (0, .ofNat 1, .ofNat 1)) (y := s0) (hIv _ (.head _)) rfl
  have b4 : (1 : Int) ≤ s5 ∧ s5 ≤ (1 : Int) := ivX (q := (5, .ofNat 1, .ofNat 1)) (y := s5) (hIv _ (.tail _ (.tail _ (.tail _ (.tail _ (.head _)))))) rfl
  have b7 : (-2147483648 : Int) ≤ s8 ∧ s8 ≤ (2147483647 : Int) := ivX (q := (8, .negSucc 2147483647, .ofNat 2147483647)) (y := s8) (hIv _ (.tail _ (.tail _ (.tail _ (.tail _ (.tail _ (.tail _ (.tail _ (.head _))))))))) rfl
  have hRf : ∀ q ∈ ([((78, .ofNat 273, []), (.ofNat 17, []), 5, .ofNat 0, [(.ofNat 1, 1)])] : List sRf), rfOk [s0, s1, s2, s3, s4, s5, s6, s7, s8] hp q := hH.1
  have h0 : hL hp 273 17 = s1 := rfL0 (hRf _ (.head _)) (sE_k _ _) (sE_k _ _) (sE_V rfl)
  have hFc : ∀ q ∈ ([(133, [(.ofNat 30, []), (.ofNat 0, [(.ofNat 1, 0)]), (.ofNat 0, [(.ofNat 1, 1)])]), (132, []), (250, [(.ofNat 0, [(.ofNat 1, 2)]), (.ofNat 0, [(.ofNat 1, 3)]), (.ofNat 0, [(.ofNat 1, 4)]), (.ofNat 0, [(.ofNat 1, 5)]), (.ofNat 0, [(.ofNat 1, 6)]), (.ofNat 0, [(.ofNat 1, 7)]), (.ofNat 0, [(.ofNat 1, 8)])]), (131, [(.ofNat 0, [(.ofNat 1, 6)]), (.ofNat 0, [(.ofNat 1, 7)])])] : List sFc), fcOk fFS [s0, s1, s2, s3, s4, s5, s6, s7, s8] hp q := hH.2
  have f0 : (s0 = 1 ∧ ∀ i : Nat, i < 30 → (i : Int) < (30 : Int) → hL hp 279 i ≠ s1) ∨ (s0 = 0 ∧ ∃ i : Nat, i < 30 ∧ (i : Int) < (30 : Int) ∧ hL hp 279 i = s1) := fcX (ys := [30, s0, s1]) (hFc _ (.head _)) ⟨sE_k _ _, sE_V rfl, sE_V rfl, trivial⟩
  have f1 : ∀ i : Nat, i < 30 → hL hp 279 i = cd 256 0 (wrd (rsv i)) := fcX (ys := []) (hFc _ (.tail _ (.head _))) trivial
  have f2 : roH (MT hp) (nmM hp) (hI hp 275 0) (hI hp 275 1) s2 s3 s4 s5 s6 s7 s8 := fcX (ys := [s2, s3, s4, s5, s6, s7, s8]) (hFc _ (.tail _ (.tail _ (.head _)))) ⟨sE_V rfl, sE_V rfl, sE_V rfl, sE_V rfl, sE_V rfl, sE_V rfl, sE_V rfl, trivial⟩
  have f3 : isW (bs (MT hp).1 s6 s7) ∧ hL hp 273 17 = cd 256 0 (bs (MT hp).1 s6 s7) := fcX (ys := [s6, s7]) (hFc _ (.tail _ (.tail _ (.tail _ (.head _))))) ⟨sE_V rfl, sE_V rfl, trivial⟩
  have u := inm_eR (w := s1) (R := fun i => hL hp 279 i) (MT_ok hO) f1 f0 rfl f2 (by omega) ⟨f3.1, by rw [← h0]; exact f3.2⟩
  exact poX (.head _) rfl hR (all_cons (ivO (y := s8) rfl (show (-1 : Int) ≤ s8 by omega) (show s8 ≤ (-1 : Int) by omega)) (all_nil)) (all_nil) (all_nil)
theorem rl718 : ruOk fFS gR718 := by
  intro r hp hO hN hH
  obtain ⟨s0, s1, s2, s3, s4, s5, s6, s7, s8, rfl⟩ := len9 (show r.length = 9 from hN.1)
  have hR := hN.2.1.1
  have hIv : ∀ q ∈ ([(0, .ofNat 0, .ofNat 0), (2, .negSucc 2147483647, .ofNat 2147483647), (3, .negSucc 2147483647, .ofNat 2147483647), (4, .negSucc 2147483647, .ofNat 2147483647), (5, .ofNat 1, .ofNat 1), (6, .negSucc 2147483647, .ofNat 2147483647), (7, .negSucc 2147483647, .ofNat 2147483647), (8, .negSucc 2147483647, .ofNat 2147483647)] : sIv), ∃ x, ([s0, s1, s2, s3, s4, s5, s6, s7, s8] : List Int)[q.1]? = some x ∧ q.2.1 ≤ x ∧ x ≤ q.2.2 := hN.2.1.2
  have b0 : (0 : Int) ≤ s0 ∧ s0 ≤ (0 : Int) := ivX (q := (0, .ofNat 0, .ofNat 0)) (y := s0) (hIv _ (.head _)) rfl
  have b4 : (1 : Int) ≤ s5 ∧ s5 ≤ (1 : Int) := ivX (q := (5, .ofNat 1, .ofNat 1)) (y := s5) (hIv _ (.tail _ (.tail _ (.tail _ (.tail _ (.head _)))))) rfl
  have b7 : (-2147483648 : Int) ≤ s8 ∧ s8 ≤ (2147483647 : Int) := ivX (q := (8, .negSucc 2147483647, .ofNat 2147483647)) (y := s8) (hIv _ (.tail _ (.tail _ (.tail _ (.tail _ (.tail _ (.tail _ (.tail _ (.head _))))))))) rfl
  have hRf : ∀ q ∈ ([((78, .ofNat 273, []), (.ofNat 17, []), 5, .ofNat 0, [(.ofNat 1, 1)])] : List sRf), rfOk [s0, s1, s2, s3, s4, s5, s6, s7, s8] hp q := hH.1
  have h0 : hL hp 273 17 = s1 := rfL0 (hRf _ (.head _)) (sE_k _ _) (sE_k _ _) (sE_V rfl)
  have hFc : ∀ q ∈ ([(133, [(.ofNat 30, []), (.ofNat 0, [(.ofNat 1, 0)]), (.ofNat 0, [(.ofNat 1, 1)])]), (132, []), (250, [(.ofNat 0, [(.ofNat 1, 2)]), (.ofNat 0, [(.ofNat 1, 3)]), (.ofNat 0, [(.ofNat 1, 4)]), (.ofNat 0, [(.ofNat 1, 5)]), (.ofNat 0, [(.ofNat 1, 6)]), (.ofNat 0, [(.ofNat 1, 7)]), (.ofNat 0, [(.ofNat 1, 8)])]), (131, [(.ofNat 0, [(.ofNat 1, 6)]), (.ofNat 0, [(.ofNat 1, 7)])])] : List sFc), fcOk fFS [s0, s1, s2, s3, s4, s5, s6, s7, s8] hp q := hH.2
  have f0 : (s0 = 1 ∧ ∀ i : Nat, i < 30 → (i : Int) < (30 : Int) → hL hp 279 i ≠ s1) ∨ (s0 = 0 ∧ ∃ i : Nat, i < 30 ∧ (i : Int) < (30 : Int) ∧ hL hp 279 i = s1) := fcX (ys := [30, s0, s1]) (hFc _ (.head _)) ⟨sE_k _ _, sE_V rfl, sE_V rfl, trivial⟩
  have f1 : ∀ i : Nat, i < 30 → hL hp 279 i = cd 256 0 (wrd (rsv i)) := fcX (ys := []) (hFc _ (.tail _ (.head _))) trivial
  have f2 : roH (MT hp) (nmM hp) (hI hp 275 0) (hI hp 275 1) s2 s3 s4 s5 s6 s7 s8 := fcX (ys := [s2, s3, s4, s5, s6, s7, s8]) (hFc _ (.tail _ (.tail _ (.head _)))) ⟨sE_V rfl, sE_V rfl, sE_V rfl, sE_V rfl, sE_V rfl, sE_V rfl, sE_V rfl, trivial⟩
  have f3 : isW (bs (MT hp).1 s6 s7) ∧ hL hp 273 17 = cd 256 0 (bs (MT hp).1 s6 s7) := fcX (ys := [s6, s7]) (hFc _ (.tail _ (.tail _ (.tail _ (.head _))))) ⟨sE_V rfl, sE_V rfl, trivial⟩
  have u := inm_eR (w := s1) (R := fun i => hL hp 279 i) (MT_ok hO) f1 f0 rfl f2 (by omega) ⟨f3.1, by rw [← h0]; exact f3.2⟩
  exact poX (.head _) rfl hR (all_cons (ivO (y := s8) rfl (show (0 : Int) ≤ s8 by omega) (show s8 ≤ (29 : Int) by omega)) (all_nil)) (all_nil) (all_nil)
theorem rl719 : ruOk fFS gR719 := by
  intro r hp hO hN hH
  obtain ⟨s0, s1, s2, s3, s4, s5, s6, s7, s8, s9, s10, s11, s12, s13, rfl⟩ := len14 (show r.length = 14 from hN.1)
  have hR := hN.2.1.1
  have hIv : ∀ q ∈ ([(0, .negSucc 2147483647, .ofNat 2147483647), (1, .negSucc 2147483647, .ofNat 2147483647), (2, .negSucc 2147483647, .ofNat 2147483647), (3, .negSucc 2147483647, .ofNat 2147483647), (4, .negSucc 2147483647, .ofNat 2147483647), (5, .negSucc 2147483647, .ofNat 2147483647), (6, .negSucc 2147483647, .ofNat 2147483647), (7, .negSucc 2147483647, .ofNat 2147483647), (8, .negSucc 2147483647, .ofNat 2147483647), (9, .ofNat 0, .ofNat 0), (10, .negSucc 2147483647, .ofNat 2147483647), (11, .negSucc 2147483647, .ofNat 2147483647), (12, .negSucc 2147483647, .ofNat 2147483647), (13, .negSucc 2147483647, .ofNat 2147483647)] : sIv), ∃ x, ([s0, s1, s2, s3, s4, s5, s6, s7, s8, s9, s10, s11, s12, s13] : List Int)[q.1]? = some x ∧ q.2.1 ≤ x ∧ x ≤ q.2.2 := hN.2.1.2
  have b9 : (0 : Int) ≤ s9 ∧ s9 ≤ (0 : Int) := ivX (q := (9, .ofNat 0, .ofNat 0)) (y := s9) (hIv _ (.tail _ (.tail _ (.tail _ (.tail _ (.tail _ (.tail _ (.tail _ (.tail _ (.tail _ (.head _))))))))))) rfl
  have hFc : ∀ q ∈ ([(119, [(.ofNat 0, [(.ofNat 1, 0)]), (.ofNat 0, [(.ofNat 1, 1)]), (.ofNat 0, [(.ofNat 1, 2)]), (.ofNat 0, [(.ofNat 1, 3)]), (.ofNat 0, [(.ofNat 1, 4)]), (.ofNat 0, [(.ofNat 1, 5)]), (.ofNat 0, [(.ofNat 1, 6)]), (.ofNat 0, [(.ofNat 1, 7)]), (.ofNat 0, [(.ofNat 1, 8)]), (.ofNat 0, [(.ofNat 1, 9)]), (.ofNat 0, [(.ofNat 1, 10)]), (.ofNat 0, [(.ofNat 1, 11)]), (.ofNat 0, [(.ofNat 1, 12)])]), (123, [(.ofNat 0, [(.ofNat 1, 0)]), (.ofNat 0, [(.ofNat 1, 13)])])] : List sFc), fcOk fFS [s0, s1, s2, s3, s4, s5, s6, s7, s8, s9, s10, s11, s12, s13] hp q := hH.2
  have f0 : Hq (MT hp) s0 s1 s2 s3 s4 s5 s6 s7 s8 s9 s10 s11 s12 := fcX (ys := [s0, s1, s2, s3, s4, s5, s6, s7, s8, s9, s10, s11, s12]) (hFc _ (.head _)) ⟨sE_V rfl, sE_V rfl, sE_V rfl, sE_V rfl, sE_V rfl, sE_V rfl, sE_V rfl, sE_V rfl, sE_V rfl, sE_V rfl, sE_V rfl, sE_V rfl, sE_V rfl, trivial⟩
  have f1 : (s13 = 12 ∧ EO (MT hp) s0 0 4) ∨ (s13 = 19 ∧ EO (MT hp) s0 7 5) := fcX (ys := [s0, s13]) (hFc _ (.tail _ (.head _))) ⟨sE_V rfl, sE_V rfl, trivial⟩
  rcases f1 with ⟨-, f1⟩ | ⟨-, f1⟩
  · exact poX (.head _) rfl hR all_nil all_nil (all_cons ⟨[1, s10], ⟨sE_k _ _, sE_V rfl, trivial⟩, eo_f1 (MT_ok hO) f0 f1 (by omega)⟩ all_nil)
  · exact poX (.head _) rfl hR all_nil all_nil (all_cons ⟨[1, s10], ⟨sE_k _ _, sE_V rfl, trivial⟩, eo_f1 (MT_ok hO) f0 f1 (by omega)⟩ all_nil)
end CkRul8
