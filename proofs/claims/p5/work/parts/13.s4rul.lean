section CkRul4
theorem rl320 : ruOk fFS gR320 := by
  intro r hp hO hN hH
  obtain ⟨s0, s1, s2, s3, s4, s5, rfl⟩ := len6 (show r.length = 6 from hN.1)
  have hR := hN.2.1.1
  have hIv : ∀ q ∈ ([(0, .ofNat 0, .ofNat 39), (1, .ofNat 18, .ofNat 2147483647), (2, .negSucc 2147483647, .ofNat 2147483647), (3, .negSucc 2147483647, .ofNat 2147483647), (4, .negSucc 2147483647, .ofNat 2147483647), (5, .negSucc 2147483647, .ofNat 2147483647)] : sIv), ∃ x, ([s0, s1, s2, s3, s4, s5] : List Int)[q.1]? = some x ∧ q.2.1 ≤ x ∧ x ≤ q.2.2 := hN.2.1.2
  have b0 : (0 : Int) ≤ s0 ∧ s0 ≤ (39 : Int) := ivX (q := (0, .ofNat 0, .ofNat 39)) (y := s0) (hIv _ (.head _)) rfl
  have b1 : (18 : Int) ≤ s1 ∧ s1 ≤ (2147483647 : Int) := ivX (q := (1, .ofNat 18, .ofNat 2147483647)) (y := s1) (hIv _ (.tail _ (.head _))) rfl
  have b2 : (-2147483648 : Int) ≤ s2 ∧ s2 ≤ (2147483647 : Int) := ivX (q := (2, .negSucc 2147483647, .ofNat 2147483647)) (y := s2) (hIv _ (.tail _ (.tail _ (.head _)))) rfl
  have b3 : (-2147483648 : Int) ≤ s3 ∧ s3 ≤ (2147483647 : Int) := ivX (q := (3, .negSucc 2147483647, .ofNat 2147483647)) (y := s3) (hIv _ (.tail _ (.tail _ (.tail _ (.head _))))) rfl
  have hCs : ∀ c ∈ ([(.ofNat 1, [(.ofNat 1, 0), (.negSucc 0, 5)])] : List sLn), ∃ x, sE [s0, s1, s2, s3, s4, s5] c = some x ∧ x ≤ 0 := hN.2.2.1
  have c0 : ((1 : Int) + ((1 : Int) * s0 + ((-1 : Int) * s5 + 0))) ≤ 0 := csX (hCs _ (.head _)) rfl
  have hRf : ∀ q ∈ ([((45, .ofNat 178, []), (.ofNat 0, [(.ofNat 1, 0)]), 1, .ofNat 0, [(.ofNat 1, 1)]), ((46, .ofNat 179, []), (.ofNat 0, [(.ofNat 1, 0)]), 1, .ofNat 0, [(.ofNat 1, 2)]), ((47, .ofNat 180, []), (.ofNat 0, [(.ofNat 1, 0)]), 1, .ofNat 0, [(.ofNat 1, 3)]), ((48, .ofNat 181, []), (.ofNat 0, [(.ofNat 1, 0)]), 1, .ofNat 0, [(.ofNat 1, 4)])] : List sRf), rfOk [s0, s1, s2, s3, s4, s5] hp q := hH.1
  obtain ⟨i0, e0, l0, h0⟩ := rfI (xv := s1) (iv := s0) (hRf _ (.head _)) (sE_k _ _) (sE_V rfl) (sE_V rfl)
  have l0 : i0 < 40 := l0
  have h0 : hI hp 178 i0 = s1 := h0
  obtain ⟨i1, e1, l1, h1⟩ := rfI (xv := s2) (iv := s0) (hRf _ (.tail _ (.head _))) (sE_k _ _) (sE_V rfl) (sE_V rfl)
  have l1 : i1 < 40 := l1
  have h1 : hI hp 179 i1 = s2 := h1
  obtain ⟨i2, e2, l2, h2⟩ := rfI (xv := s3) (iv := s0) (hRf _ (.tail _ (.tail _ (.head _)))) (sE_k _ _) (sE_V rfl) (sE_V rfl)
  have l2 : i2 < 40 := l2
  have h2 : hI hp 180 i2 = s3 := h2
  obtain ⟨i3, e3, l3, h3⟩ := rfI (xv := s4) (iv := s0) (hRf _ (.tail _ (.tail _ (.tail _ (.head _))))) (sE_k _ _) (sE_V rfl) (sE_V rfl)
  have l3 : i3 < 40 := l3
  have h3 : hI hp 181 i3 = s4 := h3
  have hFc : ∀ q ∈ ([(5, [(.ofNat 0, [(.ofNat 1, 5)])])] : List sFc), fcOk fFS [s0, s1, s2, s3, s4, s5] hp q := hH.2
  have f0 : fRoll s5 hp := fcX (ys := [s5]) (hFc _ (.head _)) ⟨sE_V rfl, trivial⟩
  have u := roll_use f0 h0 h1 h2 h3 (by omega) (by omega) (by omega) (by omega) (by omega)
  unfold bxR at u
  exact poX (.head _) rfl hR (all_cons (ivO (y := s2) rfl (show (0 : Int) ≤ s2 by omega) (show s2 ≤ (9 : Int) by omega)) (all_cons (ivO (y := s3) rfl (show (0 : Int) ≤ s3 by omega) (show s3 ≤ (9 : Int) by omega)) (all_nil))) (all_nil) (all_nil)
theorem rl321 : ruOk fFS gR321 := by
  intro r hp hO hN hH
  obtain ⟨s0, s1, s2, s3, s4, s5, rfl⟩ := len6 (show r.length = 6 from hN.1)
  have hR := hN.2.1.1
  have hIv : ∀ q ∈ ([(0, .ofNat 0, .ofNat 39), (1, .negSucc 2147483647, .ofNat 13), (2, .negSucc 2147483647, .ofNat 2147483647), (3, .negSucc 2147483647, .ofNat 2147483647), (4, .negSucc 2147483647, .ofNat 2147483647), (5, .negSucc 2147483647, .ofNat 2147483647)] : sIv), ∃ x, ([s0, s1, s2, s3, s4, s5] : List Int)[q.1]? = some x ∧ q.2.1 ≤ x ∧ x ≤ q.2.2 := hN.2.1.2
  have b0 : (0 : Int) ≤ s0 ∧ s0 ≤ (39 : Int) := ivX (q := (0, .ofNat 0, .ofNat 39)) (y := s0) (hIv _ (.head _)) rfl
  have b1 : (-2147483648 : Int) ≤ s1 ∧ s1 ≤ (13 : Int) := ivX (q := (1, .negSucc 2147483647, .ofNat 13)) (y := s1) (hIv _ (.tail _ (.head _))) rfl
  have b2 : (-2147483648 : Int) ≤ s2 ∧ s2 ≤ (2147483647 : Int) := ivX (q := (2, .negSucc 2147483647, .ofNat 2147483647)) (y := s2) (hIv _ (.tail _ (.tail _ (.head _)))) rfl
  have b3 : (-2147483648 : Int) ≤ s3 ∧ s3 ≤ (2147483647 : Int) := ivX (q := (3, .negSucc 2147483647, .ofNat 2147483647)) (y := s3) (hIv _ (.tail _ (.tail _ (.tail _ (.head _))))) rfl
  have hCs : ∀ c ∈ ([(.ofNat 1, [(.ofNat 1, 0), (.negSucc 0, 5)])] : List sLn), ∃ x, sE [s0, s1, s2, s3, s4, s5] c = some x ∧ x ≤ 0 := hN.2.2.1
  have c0 : ((1 : Int) + ((1 : Int) * s0 + ((-1 : Int) * s5 + 0))) ≤ 0 := csX (hCs _ (.head _)) rfl
  have hRf : ∀ q ∈ ([((45, .ofNat 178, []), (.ofNat 0, [(.ofNat 1, 0)]), 1, .ofNat 0, [(.ofNat 1, 1)]), ((46, .ofNat 179, []), (.ofNat 0, [(.ofNat 1, 0)]), 1, .ofNat 0, [(.ofNat 1, 2)]), ((47, .ofNat 180, []), (.ofNat 0, [(.ofNat 1, 0)]), 1, .ofNat 0, [(.ofNat 1, 3)]), ((48, .ofNat 181, []), (.ofNat 0, [(.ofNat 1, 0)]), 1, .ofNat 0, [(.ofNat 1, 4)])] : List sRf), rfOk [s0, s1, s2, s3, s4, s5] hp q := hH.1
  obtain ⟨i0, e0, l0, h0⟩ := rfI (xv := s1) (iv := s0) (hRf _ (.head _)) (sE_k _ _) (sE_V rfl) (sE_V rfl)
  have l0 : i0 < 40 := l0
  have h0 : hI hp 178 i0 = s1 := h0
  obtain ⟨i1, e1, l1, h1⟩ := rfI (xv := s2) (iv := s0) (hRf _ (.tail _ (.head _))) (sE_k _ _) (sE_V rfl) (sE_V rfl)
  have l1 : i1 < 40 := l1
  have h1 : hI hp 179 i1 = s2 := h1
  obtain ⟨i2, e2, l2, h2⟩ := rfI (xv := s3) (iv := s0) (hRf _ (.tail _ (.tail _ (.head _)))) (sE_k _ _) (sE_V rfl) (sE_V rfl)
  have l2 : i2 < 40 := l2
  have h2 : hI hp 180 i2 = s3 := h2
  obtain ⟨i3, e3, l3, h3⟩ := rfI (xv := s4) (iv := s0) (hRf _ (.tail _ (.tail _ (.tail _ (.head _))))) (sE_k _ _) (sE_V rfl) (sE_V rfl)
  have l3 : i3 < 40 := l3
  have h3 : hI hp 181 i3 = s4 := h3
  have hFc : ∀ q ∈ ([(5, [(.ofNat 0, [(.ofNat 1, 5)])])] : List sFc), fcOk fFS [s0, s1, s2, s3, s4, s5] hp q := hH.2
  have f0 : fRoll s5 hp := fcX (ys := [s5]) (hFc _ (.head _)) ⟨sE_V rfl, trivial⟩
  have u := roll_use f0 h0 h1 h2 h3 (by omega) (by omega) (by omega) (by omega) (by omega)
  unfold bxR at u
  exact poX (.head _) rfl hR (all_cons (ivO (y := s2) rfl (show (0 : Int) ≤ s2 by omega) (show s2 ≤ (9 : Int) by omega)) (all_cons (ivO (y := s3) rfl (show (0 : Int) ≤ s3 by omega) (show s3 ≤ (9 : Int) by omega)) (all_nil))) (all_nil) (all_nil)
theorem rl322 : ruOk fFS gR322 := by
  intro r hp hO hN hH
  obtain ⟨s0, s1, s2, s3, s4, s5, rfl⟩ := len6 (show r.length = 6 from hN.1)
  have hR := hN.2.1.1
  have hIv : ∀ q ∈ ([(0, .ofNat 0, .ofNat 39), (1, .ofNat 17, .ofNat 17), (2, .negSucc 2147483647, .ofNat 2147483647), (3, .negSucc 2147483647, .ofNat 2147483647), (4, .negSucc 2147483647, .ofNat 2147483647), (5, .negSucc 2147483647, .ofNat 2147483647)] : sIv), ∃ x, ([s0, s1, s2, s3, s4, s5] : List Int)[q.1]? = some x ∧ q.2.1 ≤ x ∧ x ≤ q.2.2 := hN.2.1.2
  have b0 : (0 : Int) ≤ s0 ∧ s0 ≤ (39 : Int) := ivX (q := (0, .ofNat 0, .ofNat 39)) (y := s0) (hIv _ (.head _)) rfl
  have b1 : (17 : Int) ≤ s1 ∧ s1 ≤ (17 : Int) := ivX (q := (1, .ofNat 17, .ofNat 17)) (y := s1) (hIv _ (.tail _ (.head _))) rfl
  have b2 : (-2147483648 : Int) ≤ s2 ∧ s2 ≤ (2147483647 : Int) := ivX (q := (2, .negSucc 2147483647, .ofNat 2147483647)) (y := s2) (hIv _ (.tail _ (.tail _ (.head _)))) rfl
  have b3 : (-2147483648 : Int) ≤ s3 ∧ s3 ≤ (2147483647 : Int) := ivX (q := (3, .negSucc 2147483647, .ofNat 2147483647)) (y := s3) (hIv _ (.tail _ (.tail _ (.tail _ (.head _))))) rfl
  have hCs : ∀ c ∈ ([(.ofNat 1, [(.ofNat 1, 0), (.negSucc 0, 5)])] : List sLn), ∃ x, sE [s0, s1, s2, s3, s4, s5] c = some x ∧ x ≤ 0 := hN.2.2.1
  have c0 : ((1 : Int) + ((1 : Int) * s0 + ((-1 : Int) * s5 + 0))) ≤ 0 := csX (hCs _ (.head _)) rfl
  have hRf : ∀ q ∈ ([((45, .ofNat 178, []), (.ofNat 0, [(.ofNat 1, 0)]), 1, .ofNat 0, [(.ofNat 1, 1)]), ((46, .ofNat 179, []), (.ofNat 0, [(.ofNat 1, 0)]), 1, .ofNat 0, [(.ofNat 1, 2)]), ((47, .ofNat 180, []), (.ofNat 0, [(.ofNat 1, 0)]), 1, .ofNat 0, [(.ofNat 1, 3)]), ((48, .ofNat 181, []), (.ofNat 0, [(.ofNat 1, 0)]), 1, .ofNat 0, [(.ofNat 1, 4)])] : List sRf), rfOk [s0, s1, s2, s3, s4, s5] hp q := hH.1
  obtain ⟨i0, e0, l0, h0⟩ := rfI (xv := s1) (iv := s0) (hRf _ (.head _)) (sE_k _ _) (sE_V rfl) (sE_V rfl)
  have l0 : i0 < 40 := l0
  have h0 : hI hp 178 i0 = s1 := h0
  obtain ⟨i1, e1, l1, h1⟩ := rfI (xv := s2) (iv := s0) (hRf _ (.tail _ (.head _))) (sE_k _ _) (sE_V rfl) (sE_V rfl)
  have l1 : i1 < 40 := l1
  have h1 : hI hp 179 i1 = s2 := h1
  obtain ⟨i2, e2, l2, h2⟩ := rfI (xv := s3) (iv := s0) (hRf _ (.tail _ (.tail _ (.head _)))) (sE_k _ _) (sE_V rfl) (sE_V rfl)
  have l2 : i2 < 40 := l2
  have h2 : hI hp 180 i2 = s3 := h2
  obtain ⟨i3, e3, l3, h3⟩ := rfI (xv := s4) (iv := s0) (hRf _ (.tail _ (.tail _ (.tail _ (.head _))))) (sE_k _ _) (sE_V rfl) (sE_V rfl)
  have l3 : i3 < 40 := l3
  have h3 : hI hp 181 i3 = s4 := h3
  have hFc : ∀ q ∈ ([(5, [(.ofNat 0, [(.ofNat 1, 5)])])] : List sFc), fcOk fFS [s0, s1, s2, s3, s4, s5] hp q := hH.2
  have f0 : fRoll s5 hp := fcX (ys := [s5]) (hFc _ (.head _)) ⟨sE_V rfl, trivial⟩
  have u := roll_use f0 h0 h1 h2 h3 (by omega) (by omega) (by omega) (by omega) (by omega)
  unfold bxR at u
  exact poX (.head _) rfl hR (all_cons (ivO (y := s2) rfl (show (0 : Int) ≤ s2 by omega) (show s2 ≤ (9 : Int) by omega)) (all_cons (ivO (y := s3) rfl (show (0 : Int) ≤ s3 by omega) (show s3 ≤ (9 : Int) by omega)) (all_nil))) (all_nil) (all_nil)
theorem rl323 : ruOk fFS gR323 := by
  intro r hp hO hN hH
  obtain ⟨s0, s1, s2, s3, s4, s5, rfl⟩ := len6 (show r.length = 6 from hN.1)
  have hR := hN.2.1.1
  have hIv : ∀ q ∈ ([(0, .ofNat 0, .ofNat 39), (1, .ofNat 15, .ofNat 15), (2, .negSucc 2147483647, .ofNat 2147483647), (3, .negSucc 2147483647, .ofNat 2147483647), (4, .negSucc 2147483647, .ofNat 2147483647), (5, .negSucc 2147483647, .ofNat 2147483647)] : sIv), ∃ x, ([s0, s1, s2, s3, s4, s5] : List Int)[q.1]? = some x ∧ q.2.1 ≤ x ∧ x ≤ q.2.2 := hN.2.1.2
  have b0 : (0 : Int) ≤ s0 ∧ s0 ≤ (39 : Int) := ivX (q := (0, .ofNat 0, .ofNat 39)) (y := s0) (hIv _ (.head _)) rfl
  have b1 : (15 : Int) ≤ s1 ∧ s1 ≤ (15 : Int) := ivX (q := (1, .ofNat 15, .ofNat 15)) (y := s1) (hIv _ (.tail _ (.head _))) rfl
  have b2 : (-2147483648 : Int) ≤ s2 ∧ s2 ≤ (2147483647 : Int) := ivX (q := (2, .negSucc 2147483647, .ofNat 2147483647)) (y := s2) (hIv _ (.tail _ (.tail _ (.head _)))) rfl
  have b3 : (-2147483648 : Int) ≤ s3 ∧ s3 ≤ (2147483647 : Int) := ivX (q := (3, .negSucc 2147483647, .ofNat 2147483647)) (y := s3) (hIv _ (.tail _ (.tail _ (.tail _ (.head _))))) rfl
  have b4 : (-2147483648 : Int) ≤ s4 ∧ s4 ≤ (2147483647 : Int) := ivX (q := (4, .negSucc 2147483647, .ofNat 2147483647)) (y := s4) (hIv _ (.tail _ (.tail _ (.tail _ (.tail _ (.head _)))))) rfl
  have hCs : ∀ c ∈ ([(.ofNat 1, [(.ofNat 1, 0), (.negSucc 0, 5)])] : List sLn), ∃ x, sE [s0, s1, s2, s3, s4, s5] c = some x ∧ x ≤ 0 := hN.2.2.1
  have c0 : ((1 : Int) + ((1 : Int) * s0 + ((-1 : Int) * s5 + 0))) ≤ 0 := csX (hCs _ (.head _)) rfl
  have hRf : ∀ q ∈ ([((45, .ofNat 178, []), (.ofNat 0, [(.ofNat 1, 0)]), 1, .ofNat 0, [(.ofNat 1, 1)]), ((46, .ofNat 179, []), (.ofNat 0, [(.ofNat 1, 0)]), 1, .ofNat 0, [(.ofNat 1, 2)]), ((47, .ofNat 180, []), (.ofNat 0, [(.ofNat 1, 0)]), 1, .ofNat 0, [(.ofNat 1, 3)]), ((48, .ofNat 181, []), (.ofNat 0, [(.ofNat 1, 0)]), 1, .ofNat 0, [(.ofNat 1, 4)])] : List sRf), rfOk [s0, s1, s2, s3, s4, s5] hp q := hH.1
  obtain ⟨i0, e0, l0, h0⟩ := rfI (xv := s1) (iv := s0) (hRf _ (.head _)) (sE_k _ _) (sE_V rfl) (sE_V rfl)
  have l0 : i0 < 40 := l0
  have h0 : hI hp 178 i0 = s1 := h0
  obtain ⟨i1, e1, l1, h1⟩ := rfI (xv := s2) (iv := s0) (hRf _ (.tail _ (.head _))) (sE_k _ _) (sE_V rfl) (sE_V rfl)
  have l1 : i1 < 40 := l1
  have h1 : hI hp 179 i1 = s2 := h1
  obtain ⟨i2, e2, l2, h2⟩ := rfI (xv := s3) (iv := s0) (hRf _ (.tail _ (.tail _ (.head _)))) (sE_k _ _) (sE_V rfl) (sE_V rfl)
  have l2 : i2 < 40 := l2
  have h2 : hI hp 180 i2 = s3 := h2
  obtain ⟨i3, e3, l3, h3⟩ := rfI (xv := s4) (iv := s0) (hRf _ (.tail _ (.tail _ (.tail _ (.head _))))) (sE_k _ _) (sE_V rfl) (sE_V rfl)
  have l3 : i3 < 40 := l3
  have h3 : hI hp 181 i3 = s4 := h3
  have hFc : ∀ q ∈ ([(5, [(.ofNat 0, [(.ofNat 1, 5)])])] : List sFc), fcOk fFS [s0, s1, s2, s3, s4, s5] hp q := hH.2
  have f0 : fRoll s5 hp := fcX (ys := [s5]) (hFc _ (.head _)) ⟨sE_V rfl, trivial⟩
  have u := roll_use f0 h0 h1 h2 h3 (by omega) (by omega) (by omega) (by omega) (by omega)
  unfold bxR at u
  exact poX (.head _) rfl hR (all_cons (ivO (y := s2) rfl (show (0 : Int) ≤ s2 by omega) (show s2 ≤ (9 : Int) by omega)) (all_cons (ivO (y := s3) rfl (show (0 : Int) ≤ s3 by omega) (show s3 ≤ (9 : Int) by omega)) (all_cons (ivO (y := s4) rfl (show (0 : Int) ≤ s4 by omega) (show s4 ≤ (4 : Int) by omega)) (all_nil)))) (all_nil) (all_nil)
theorem rl324 : ruOk fFS gR324 := by
  intro r hp hO hN hH
  obtain ⟨s0, s1, s2, s3, s4, s5, rfl⟩ := len6 (show r.length = 6 from hN.1)
  have hR := hN.2.1.1
  have hIv : ∀ q ∈ ([(0, .ofNat 0, .ofNat 39), (1, .ofNat 14, .ofNat 14), (2, .negSucc 2147483647, .ofNat 2147483647), (3, .negSucc 2147483647, .ofNat 2147483647), (4, .negSucc 2147483647, .ofNat 2147483647), (5, .negSucc 2147483647, .ofNat 2147483647)] : sIv), ∃ x, ([s0, s1, s2, s3, s4, s5] : List Int)[q.1]? = some x ∧ q.2.1 ≤ x ∧ x ≤ q.2.2 := hN.2.1.2
  have b0 : (0 : Int) ≤ s0 ∧ s0 ≤ (39 : Int) := ivX (q := (0, .ofNat 0, .ofNat 39)) (y := s0) (hIv _ (.head _)) rfl
  have b1 : (14 : Int) ≤ s1 ∧ s1 ≤ (14 : Int) := ivX (q := (1, .ofNat 14, .ofNat 14)) (y := s1) (hIv _ (.tail _ (.head _))) rfl
  have b2 : (-2147483648 : Int) ≤ s2 ∧ s2 ≤ (2147483647 : Int) := ivX (q := (2, .negSucc 2147483647, .ofNat 2147483647)) (y := s2) (hIv _ (.tail _ (.tail _ (.head _)))) rfl
  have b3 : (-2147483648 : Int) ≤ s3 ∧ s3 ≤ (2147483647 : Int) := ivX (q := (3, .negSucc 2147483647, .ofNat 2147483647)) (y := s3) (hIv _ (.tail _ (.tail _ (.tail _ (.head _))))) rfl
  have hCs : ∀ c ∈ ([(.ofNat 1, [(.ofNat 1, 0), (.negSucc 0, 5)])] : List sLn), ∃ x, sE [s0, s1, s2, s3, s4, s5] c = some x ∧ x ≤ 0 := hN.2.2.1
  have c0 : ((1 : Int) + ((1 : Int) * s0 + ((-1 : Int) * s5 + 0))) ≤ 0 := csX (hCs _ (.head _)) rfl
  have hRf : ∀ q ∈ ([((45, .ofNat 178, []), (.ofNat 0, [(.ofNat 1, 0)]), 1, .ofNat 0, [(.ofNat 1, 1)]), ((46, .ofNat 179, []), (.ofNat 0, [(.ofNat 1, 0)]), 1, .ofNat 0, [(.ofNat 1, 2)]), ((47, .ofNat 180, []), (.ofNat 0, [(.ofNat 1, 0)]), 1, .ofNat 0, [(.ofNat 1, 3)]), ((48, .ofNat 181, []), (.ofNat 0, [(.ofNat 1, 0)]), 1, .ofNat 0, [(.ofNat 1, 4)])] : List sRf), rfOk [s0, s1, s2, s3, s4, s5] hp q := hH.1
  obtain ⟨i0, e0, l0, h0⟩ := rfI (xv := s1) (iv := s0) (hRf _ (.head _)) (sE_k _ _) (sE_V rfl) (sE_V rfl)
  have l0 : i0 < 40 := l0
  have h0 : hI hp 178 i0 = s1 := h0
  obtain ⟨i1, e1, l1, h1⟩ := rfI (xv := s2) (iv := s0) (hRf _ (.tail _ (.head _))) (sE_k _ _) (sE_V rfl) (sE_V rfl)
  have l1 : i1 < 40 := l1
  have h1 : hI hp 179 i1 = s2 := h1
  obtain ⟨i2, e2, l2, h2⟩ := rfI (xv := s3) (iv := s0) (hRf _ (.tail _ (.tail _ (.head _)))) (sE_k _ _) (sE_V rfl) (sE_V rfl)
  have l2 : i2 < 40 := l2
  have h2 : hI hp 180 i2 = s3 := h2
  obtain ⟨i3, e3, l3, h3⟩ := rfI (xv := s4) (iv := s0) (hRf _ (.tail _ (.tail _ (.tail _ (.head _))))) (sE_k _ _) (sE_V rfl) (sE_V rfl)
  have l3 : i3 < 40 := l3
  have h3 : hI hp 181 i3 = s4 := h3
  have hFc : ∀ q ∈ ([(5, [(.ofNat 0, [(.ofNat 1, 5)])])] : List sFc), fcOk fFS [s0, s1, s2, s3, s4, s5] hp q := hH.2
  have f0 : fRoll s5 hp := fcX (ys := [s5]) (hFc _ (.head _)) ⟨sE_V rfl, trivial⟩
  have u := roll_use f0 h0 h1 h2 h3 (by omega) (by omega) (by omega) (by omega) (by omega)
  unfold bxR at u
  exact poX (.head _) rfl hR (all_cons (ivO (y := s2) rfl (show (0 : Int) ≤ s2 by omega) (show s2 ≤ (4 : Int) by omega)) (all_cons (ivO (y := s3) rfl (show (0 : Int) ≤ s3 by omega) (show s3 ≤ (4 : Int) by omega)) (all_nil))) (all_nil) (all_nil)
theorem rl325 : ruOk fFS gR325 := by
  intro r hp hO hN hH
  obtain ⟨s0, rfl⟩ := len1 (show r.length = 1 from hN.1)
  have hR := hN.2.1.1
  have hIv : ∀ q ∈ ([(0, .negSucc 2147483647, .ofNat 2147483647)] : sIv), ∃ x, ([s0] : List Int)[q.1]? = some x ∧ q.2.1 ≤ x ∧ x ≤ q.2.2 := hN.2.1.2
  have hFc : ∀ q ∈ ([(244, [(.ofNat 0, [(.ofNat 1, 0)])])] : List sFc), fcOk fFS [s0] hp q := hH.2
  have f0 : roA (XT hp) (nmR hp (xnm hp)) (hI hp (hC hp 0 6) 0) (hI hp (hC hp 0 6) 1) s0 := fcX (ys := [s0]) (hFc _ (.head _)) ⟨sE_V rfl, trivial⟩
  exact poX (.head _) rfl hR (all_nil) (all_nil) (all_cons ⟨[s0], ⟨sE_V rfl, trivial⟩, (show roA (XT hp) (nmR hp (xnm hp)) (hI hp (hC hp 0 6) 0) (hI hp (hC hp 0 6) 1) s0 from f0)⟩ (all_nil))
theorem rl326 : ruOk fFS gR326 := by
  intro r hp hO hN hH
  have hr0 := len0 (show r.length = 0 from hN.1)
  subst hr0
  have hR := hN.2.1.1
  exact poX (.head _) rfl hR (all_nil) (all_nil) (all_cons ⟨[0], ⟨sE_k _ _, trivial⟩, (show fSen 58 60 0 hp from sen0 (by omega))⟩ (all_nil))
theorem rl327 : ruOk fFS gR327 := by
  intro r hp hO hN hH
  have hr0 := len0 (show r.length = 0 from hN.1)
  subst hr0
  have hR := hN.2.1.1
  have hRf : ∀ q ∈ ([((40, .ofNat 173, []), (.ofNat 9, []), 1, .ofNat 0, []), ((40, .ofNat 173, []), (.ofNat 4, []), 1, .ofNat 0, [])] : List sRf), rfOk [] hp q := hH.1
  have h0 : hI hp 173 9 = 0 := rfI0 (hRf _ (.head _)) (sE_k _ _) (sE_k _ _) (sE_k _ _)
  have h1 : hI hp 173 4 = 0 := rfI0 (hRf _ (.tail _ (.head _))) (sE_k _ _) (sE_k _ _) (sE_k _ _)
  have hFc : ∀ q ∈ ([(51, [])] : List sFc), fcOk fFS [] hp q := hH.2
  have f0 : ∀ i : Nat, i < 30 → hL hp 174 i = cd 32 96 (wrd i) := fcX (ys := []) (hFc _ (.head _)) trivial
  exact poX (.head _) rfl hR (all_nil) (all_nil) (all_cons ⟨[0, 0, 0, 0], ⟨sE_k _ _, sE_k _ _, sE_k _ _, sE_k _ _, trivial⟩, (show SG (XT hp) (nmR hp (xnm hp)) (0 : Int) (0 : Int) (0 : Int) (0 : Int) from SG_0)⟩ (all_cons ⟨[0, 1], ⟨sE_k _ _, sE_k _ _, trivial⟩, (show (1 : Int) = dp (0 : Int) + 1 from rfl)⟩ (all_cons ⟨[0], ⟨sE_k _ _, trivial⟩, (show nr (0 : Int) = (0 : Int) from nr_0)⟩ (all_nil))))
theorem rl328 : ruOk fFS gR328 := by
  intro r hp hO hN hH
  obtain ⟨s0, rfl⟩ := len1 (show r.length = 1 from hN.1)
  have hR := hN.2.1.1
  have hIv : ∀ q ∈ ([(0, .negSucc 2147483647, .ofNat 2147483647)] : sIv), ∃ x, ([s0] : List Int)[q.1]? = some x ∧ q.2.1 ≤ x ∧ x ≤ q.2.2 := hN.2.1.2
  have hRf : ∀ q ∈ ([((40, .ofNat 173, []), (.ofNat 9, []), 1, .ofNat 0, [])] : List sRf), rfOk [s0] hp q := hH.1
  have h0 : hI hp 173 9 = 0 := rfI0 (hRf _ (.head _)) (sE_k _ _) (sE_k _ _) (sE_k _ _)
  have hFc : ∀ q ∈ ([(201, [(.ofNat 0, [(.ofNat 1, 0)])])] : List sFc), fcOk fFS [s0] hp q := hH.2
  have f0 : nr s0 = s0 := fcX (ys := [s0]) (hFc _ (.head _)) ⟨sE_V rfl, trivial⟩
  exact poX (.head _) rfl hR (all_nil) (all_nil) (all_cons ⟨[s0, s0], ⟨sE_V rfl, sE_V rfl, trivial⟩, (show s0 = nr s0 from f0.symm)⟩ (all_nil))
theorem rl329 : ruOk fFS gR329 := by
  intro r hp hO hN hH
  obtain ⟨s0, s1, s2, s3, s4, s5, s6, s7, rfl⟩ := len8 (show r.length = 8 from hN.1)
  have hR := hN.2.1.1
  have hIv : ∀ q ∈ ([(0, .negSucc 2147483647, .ofNat 2147483647), (1, .ofNat 0, .ofNat 0), (2, .negSucc 2147483647, .ofNat 2147483647), (3, .negSucc 2147483647, .ofNat 2147483647), (4, .negSucc 2147483647, .ofNat 2147483647), (5, .negSucc 2147483647, .ofNat 2147483647), (6, .negSucc 2147483647, .ofNat 2147483647), (7, .negSucc 2147483647, .ofNat 2147483647)] : sIv), ∃ x, ([s0, s1, s2, s3, s4, s5, s6, s7] : List Int)[q.1]? = some x ∧ q.2.1 ≤ x ∧ x ≤ q.2.2 := hN.2.1.2
  have b1 : (0 : Int) ≤ s1 ∧ s1 ≤ (0 : Int) := ivX (q := (1, .ofNat 0, .ofNat 0)) (y := s1) (hIv _ (.tail _ (.head _))) rfl
  have b2 : (-2147483648 : Int) ≤ s2 ∧ s2 ≤ (2147483647 : Int) := ivX (q := (2, .negSucc 2147483647, .ofNat 2147483647)) (y := s2) (hIv _ (.tail _ (.tail _ (.head _)))) rfl
  have b3 : (-2147483648 : Int) ≤ s3 ∧ s3 ≤ (2147483647 : Int) := ivX (q := (3, .negSucc 2147483647, .ofNat 2147483647)) (y := s3) (hIv _ (.tail _ (.tail _ (.tail _ (.head _))))) rfl
  have b4 : (-2147483648 : Int) ≤ s4 ∧ s4 ≤ (2147483647 : Int) := ivX (q := (4, .negSucc 2147483647, .ofNat 2147483647)) (y := s4) (hIv _ (.tail _ (.tail _ (.tail _ (.tail _ (.head _)))))) rfl
  have b7 : (-2147483648 : Int) ≤ s7 ∧ s7 ≤ (2147483647 : Int) := ivX (q := (7, .negSucc 2147483647, .ofNat 2147483647)) (y := s7) (hIv _ (.tail _ (.tail _ (.tail _ (.tail _ (.tail _ (.tail _ (.tail _ (.head _))))))))) rfl
  have hRf : ∀ q ∈ ([((40, .ofNat 173, []), (.ofNat 9, []), 1, .ofNat 0, [])] : List sRf), rfOk [s0, s1, s2, s3, s4, s5, s6, s7] hp q := hH.1
  have h0 : hI hp 173 9 = 0 := rfI0 (hRf _ (.head _)) (sE_k _ _) (sE_k _ _) (sE_k _ _)
  have hFc : ∀ q ∈ ([(192, [(.ofNat 0, [(.ofNat 1, 0)]), (.ofNat 0, [(.ofNat 1, 1)]), (.ofNat 0, [(.ofNat 1, 2)]), (.ofNat 0, [(.ofNat 1, 3)]), (.ofNat 0, [(.ofNat 1, 4)]), (.ofNat 0, [(.ofNat 1, 5)]), (.ofNat 0, [(.ofNat 1, 6)]), (.ofNat 0, [(.ofNat 1, 7)])])] : List sFc), fcOk fFS [s0, s1, s2, s3, s4, s5, s6, s7] hp q := hH.2
  have f0 : SHq (XT hp) (nmR hp (xnm hp)) s0 s1 s2 s3 s4 s5 s6 s7 ∧ s4 ≠ 4 := fcX (ys := [s0, s1, s2, s3, s4, s5, s6, s7]) (hFc _ (.head _)) ⟨sE_V rfl, sE_V rfl, sE_V rfl, sE_V rfl, sE_V rfl, sE_V rfl, sE_V rfl, sE_V rfl, trivial⟩
  have u := sh_bd (XT_ok hO) f0.1
  exact poX (.head _) rfl hR (all_cons (ivO (y := s2) rfl (show (0 : Int) ≤ s2 by omega) (show s2 ≤ (20 : Int) by omega)) (all_cons (ivO (y := s3) rfl (show (0 : Int) ≤ s3 by omega) (show s3 ≤ (6560 : Int) by omega)) (all_cons (ivO (y := s4) rfl (show (0 : Int) ≤ s4 by omega) (show s4 ≤ (3 : Int) by omega)) (all_cons (ivO (y := s7) rfl (show (-1 : Int) ≤ s7 by omega) (show s7 ≤ (99 : Int) by omega)) (all_nil))))) (all_nil) (all_nil)
theorem rl330 : ruOk fFS gR330 := by
  intro r hp hO hN hH
  obtain ⟨s0, s1, s2, s3, s4, s5, s6, s7, rfl⟩ := len8 (show r.length = 8 from hN.1)
  have hR := hN.2.1.1
  have hIv : ∀ q ∈ ([(0, .negSucc 2147483647, .ofNat 2147483647), (1, .negSucc 2147483647, .ofNat 2147483647), (2, .negSucc 2147483647, .ofNat 2147483647), (3, .negSucc 2147483647, .ofNat 2147483647), (4, .ofNat 0, .ofNat 3), (5, .negSucc 2147483647, .ofNat 2147483647), (6, .negSucc 2147483647, .ofNat 2147483647), (7, .negSucc 2147483647, .ofNat 2147483647)] : sIv), ∃ x, ([s0, s1, s2, s3, s4, s5, s6, s7] : List Int)[q.1]? = some x ∧ q.2.1 ≤ x ∧ x ≤ q.2.2 := hN.2.1.2
  have b4 : (0 : Int) ≤ s4 ∧ s4 ≤ (3 : Int) := ivX (q := (4, .ofNat 0, .ofNat 3)) (y := s4) (hIv _ (.tail _ (.tail _ (.tail _ (.tail _ (.head _)))))) rfl
  have hRf : ∀ q ∈ ([((40, .ofNat 173, []), (.ofNat 9, []), 1, .ofNat 0, [])] : List sRf), rfOk [s0, s1, s2, s3, s4, s5, s6, s7] hp q := hH.1
  have h0 : hI hp 173 9 = 0 := rfI0 (hRf _ (.head _)) (sE_k _ _) (sE_k _ _) (sE_k _ _)
  have hFc : ∀ q ∈ ([(192, [(.ofNat 0, [(.ofNat 1, 0)]), (.ofNat 0, [(.ofNat 1, 1)]), (.ofNat 0, [(.ofNat 1, 2)]), (.ofNat 0, [(.ofNat 1, 3)]), (.ofNat 0, [(.ofNat 1, 4)]), (.ofNat 0, [(.ofNat 1, 5)]), (.ofNat 0, [(.ofNat 1, 6)]), (.ofNat 0, [(.ofNat 1, 7)])])] : List sFc), fcOk fFS [s0, s1, s2, s3, s4, s5, s6, s7] hp q := hH.2
  have f0 : SHq (XT hp) (nmR hp (xnm hp)) s0 s1 s2 s3 s4 s5 s6 s7 ∧ s4 ≠ 4 := fcX (ys := [s0, s1, s2, s3, s4, s5, s6, s7]) (hFc _ (.head _)) ⟨sE_V rfl, sE_V rfl, sE_V rfl, sE_V rfl, sE_V rfl, sE_V rfl, sE_V rfl, sE_V rfl, trivial⟩
  have u := sh_bd (XT_ok hO) f0.1
  have y : (((0 : Int) ≤ s4 ∧ s4 ≤ (0 : Int))) ∨ (((1 : Int) ≤ s4 ∧ s4 ≤ (1 : Int))) ∨ (((2 : Int) ≤ s4 ∧ s4 ≤ (2 : Int))) ∨ (((3 : Int) ≤ s4 ∧ s4 ≤ (3 : Int))) := by omega
  rcases y with y | y | y | y
  · exact poX (.head _) rfl hR (all_cons (ivO (y := s4) rfl (show (0 : Int) ≤ s4 by omega) (show s4 ≤ (0 : Int) by omega)) (all_nil)) (all_nil) (all_nil)
  · exact poX (.tail _ (.head _)) rfl hR (all_cons (ivO (y := s4) rfl (show (1 : Int) ≤ s4 by omega) (show s4 ≤ (1 : Int) by omega)) (all_nil)) (all_nil) (all_nil)
  · exact poX (.tail _ (.tail _ (.head _))) rfl hR (all_cons (ivO (y := s4) rfl (show (2 : Int) ≤ s4 by omega) (show s4 ≤ (2 : Int) by omega)) (all_nil)) (all_nil) (all_nil)
  · exact poX (.tail _ (.tail _ (.tail _ (.head _)))) rfl hR (all_cons (ivO (y := s4) rfl (show (3 : Int) ≤ s4 by omega) (show s4 ≤ (3 : Int) by omega)) (all_nil)) (all_nil) (all_nil)
theorem rl331 : ruOk fFS gR331 := by
  intro r hp hO hN hH
  obtain ⟨s0, rfl⟩ := len1 (show r.length = 1 from hN.1)
  have hR := hN.2.1.1
  have hIv : ∀ q ∈ ([(0, .ofNat 0, .ofNat 6560)] : sIv), ∃ x, ([s0] : List Int)[q.1]? = some x ∧ q.2.1 ≤ x ∧ x ≤ q.2.2 := hN.2.1.2
  have b0 : (0 : Int) ≤ s0 ∧ s0 ≤ (6560 : Int) := ivX (q := (0, .ofNat 0, .ofNat 6560)) (y := s0) (hIv _ (.head _)) rfl
  have hFc : ∀ q ∈ ([(199, [(.ofNat 0, [(.ofNat 1, 0)]), (.ofNat 1, [])])] : List sFc), fcOk fFS [s0] hp q := hH.2
  have f0 : (1 : Int) = dp s0 + 1 := fcX (ys := [s0, 1]) (hFc _ (.head _)) ⟨sE_V rfl, sE_k _ _, trivial⟩
  have u : s0 < 1 := dp_lm 0 (by decide) (by omega) (by omega)
  exact poX (.head _) rfl hR (all_cons (ivO (y := s0) rfl (show (0 : Int) ≤ s0 by omega) (show s0 ≤ (0 : Int) by omega)) (all_nil)) (all_nil) (all_nil)
theorem rl332 : ruOk fFS gR332 := by
  intro r hp hO hN hH
  obtain ⟨s0, s1, s2, s3, s4, s5, s6, s7, rfl⟩ := len8 (show r.length = 8 from hN.1)
  have hR := hN.2.1.1
  have hIv : ∀ q ∈ ([(0, .negSucc 2147483647, .ofNat 2147483647), (1, .negSucc 2147483647, .ofNat 2147483647), (2, .negSucc 2147483647, .ofNat 2147483647), (3, .negSucc 2147483647, .ofNat 2147483647), (4, .ofNat 1, .ofNat 1), (5, .negSucc 2147483647, .ofNat 2147483647), (6, .negSucc 2147483647, .ofNat 2147483647), (7, .negSucc 2147483647, .ofNat 2147483647)] : sIv), ∃ x, ([s0, s1, s2, s3, s4, s5, s6, s7] : List Int)[q.1]? = some x ∧ q.2.1 ≤ x ∧ x ≤ q.2.2 := hN.2.1.2
  have b4 : (1 : Int) ≤ s4 ∧ s4 ≤ (1 : Int) := ivX (q := (4, .ofNat 1, .ofNat 1)) (y := s4) (hIv _ (.tail _ (.tail _ (.tail _ (.tail _ (.head _)))))) rfl
  have b7 : (-2147483648 : Int) ≤ s7 ∧ s7 ≤ (2147483647 : Int) := ivX (q := (7, .negSucc 2147483647, .ofNat 2147483647)) (y := s7) (hIv _ (.tail _ (.tail _ (.tail _ (.tail _ (.tail _ (.tail _ (.tail _ (.head _))))))))) rfl
  have hRf : ∀ q ∈ ([((40, .ofNat 173, []), (.ofNat 9, []), 1, .ofNat 0, [])] : List sRf), rfOk [s0, s1, s2, s3, s4, s5, s6, s7] hp q := hH.1
  have h0 : hI hp 173 9 = 0 := rfI0 (hRf _ (.head _)) (sE_k _ _) (sE_k _ _) (sE_k _ _)
  have hFc : ∀ q ∈ ([(192, [(.ofNat 0, [(.ofNat 1, 0)]), (.ofNat 0, [(.ofNat 1, 1)]), (.ofNat 0, [(.ofNat 1, 2)]), (.ofNat 0, [(.ofNat 1, 3)]), (.ofNat 0, [(.ofNat 1, 4)]), (.ofNat 0, [(.ofNat 1, 5)]), (.ofNat 0, [(.ofNat 1, 6)]), (.ofNat 0, [(.ofNat 1, 7)])])] : List sFc), fcOk fFS [s0, s1, s2, s3, s4, s5, s6, s7] hp q := hH.2
  have f0 : SHq (XT hp) (nmR hp (xnm hp)) s0 s1 s2 s3 s4 s5 s6 s7 ∧ s4 ≠ 4 := fcX (ys := [s0, s1, s2, s3, s4, s5, s6, s7]) (hFc _ (.head _)) ⟨sE_V rfl, sE_V rfl, sE_V rfl, sE_V rfl, sE_V rfl, sE_V rfl, sE_V rfl, sE_V rfl, trivial⟩
  have u := sh_bd (XT_ok hO) f0.1
  have u3 := sh_k1 (XT_ok hO) f0.1 (by omega)
  exact poX (.head _) rfl hR (all_cons (ivO (y := s7) rfl (show (-1 : Int) ≤ s7 by omega) (show s7 ≤ (29 : Int) by omega)) (all_nil)) (all_nil) (all_nil)
theorem rl333 : ruOk fFS gR333 := by
  intro r hp hO hN hH
  obtain ⟨s0, s1, s2, s3, s4, s5, s6, s7, rfl⟩ := len8 (show r.length = 8 from hN.1)
  have hR := hN.2.1.1
  have hIv : ∀ q ∈ ([(0, .negSucc 2147483647, .ofNat 2147483647), (1, .negSucc 2147483647, .ofNat 2147483647), (2, .negSucc 2147483647, .ofNat 2147483647), (3, .negSucc 2147483647, .ofNat 2147483647), (4, .ofNat 1, .ofNat 1), (5, .negSucc 2147483647, .ofNat 2147483647), (6, .negSucc 2147483647, .ofNat 2147483647), (7, .negSucc 0, .ofNat 29)] : sIv), ∃ x, ([s0, s1, s2, s3, s4, s5, s6, s7] : List Int)[q.1]? = some x ∧ q.2.1 ≤ x ∧ x ≤ q.2.2 := hN.2.1.2
  have b4 : (1 : Int) ≤ s4 ∧ s4 ≤ (1 : Int) := ivX (q := (4, .ofNat 1, .ofNat 1)) (y := s4) (hIv _ (.tail _ (.tail _ (.tail _ (.tail _ (.head _)))))) rfl
  have b7 : (-1 : Int) ≤ s7 ∧ s7 ≤ (29 : Int) := ivX (q := (7, .negSucc 0, .ofNat 29)) (y := s7) (hIv _ (.tail _ (.tail _ (.tail _ (.tail _ (.tail _ (.tail _ (.tail _ (.head _))))))))) rfl
  have hRf : ∀ q ∈ ([((40, .ofNat 173, []), (.ofNat 9, []), 1, .ofNat 0, [])] : List sRf), rfOk [s0, s1, s2, s3, s4, s5, s6, s7] hp q := hH.1
  have h0 : hI hp 173 9 = 0 := rfI0 (hRf _ (.head _)) (sE_k _ _) (sE_k _ _) (sE_k _ _)
  have hFc : ∀ q ∈ ([(192, [(.ofNat 0, [(.ofNat 1, 0)]), (.ofNat 0, [(.ofNat 1, 1)]), (.ofNat 0, [(.ofNat 1, 2)]), (.ofNat 0, [(.ofNat 1, 3)]), (.ofNat 0, [(.ofNat 1, 4)]), (.ofNat 0, [(.ofNat 1, 5)]), (.ofNat 0, [(.ofNat 1, 6)]), (.ofNat 0, [(.ofNat 1, 7)])])] : List sFc), fcOk fFS [s0, s1, s2, s3, s4, s5, s6, s7] hp q := hH.2
  have f0 : SHq (XT hp) (nmR hp (xnm hp)) s0 s1 s2 s3 s4 s5 s6 s7 ∧ s4 ≠ 4 := fcX (ys := [s0, s1, s2, s3, s4, s5, s6, s7]) (hFc _ (.head _)) ⟨sE_V rfl, sE_V rfl, sE_V rfl, sE_V rfl, sE_V rfl, sE_V rfl, sE_V rfl, sE_V rfl, trivial⟩
  have u := sh_bd (XT_ok hO) f0.1
  have u3 := sh_k1 (XT_ok hO) f0.1 (by omega)
  have y : (((-1 : Int) ≤ s7 ∧ s7 ≤ (12 : Int))) ∨ (((13 : Int) ≤ s7 ∧ s7 ≤ (13 : Int))) ∨ (((14 : Int) ≤ s7 ∧ s7 ≤ (20 : Int))) ∨ (((21 : Int) ≤ s7 ∧ s7 ≤ (21 : Int))) ∨ (((22 : Int) ≤ s7 ∧ s7 ≤ (22 : Int))) ∨ (((23 : Int) ≤ s7 ∧ s7 ≤ (23 : Int))) ∨ (((24 : Int) ≤ s7 ∧ s7 ≤ (24 : Int))) ∨ (((25 : Int) ≤ s7 ∧ s7 ≤ (25 : Int))) ∨ (((26 : Int) ≤ s7 ∧ s7 ≤ (29 : Int))) := by omega
  rcases y with y | y | y | y | y | y | y | y | y
  · exact poX (.head _) rfl hR (all_cons (ivO (y := s7) rfl (show (-1 : Int) ≤ s7 by omega) (show s7 ≤ (12 : Int) by omega)) (all_nil)) (all_nil) (all_nil)
  · exact poX (.tail _ (.head _)) rfl hR (all_cons (ivO (y := s7) rfl (show (13 : Int) ≤ s7 by omega) (show s7 ≤ (13 : Int) by omega)) (all_nil)) (all_nil) (all_nil)
  · exact poX (.tail _ (.tail _ (.head _))) rfl hR (all_cons (ivO (y := s7) rfl (show (14 : Int) ≤ s7 by omega) (show s7 ≤ (20 : Int) by omega)) (all_nil)) (all_nil) (all_nil)
  · exact poX (.tail _ (.tail _ (.tail _ (.head _)))) rfl hR (all_cons (ivO (y := s7) rfl (show (21 : Int) ≤ s7 by omega) (show s7 ≤ (21 : Int) by omega)) (all_nil)) (all_nil) (all_nil)
  · exact poX (.tail _ (.tail _ (.tail _ (.tail _ (.head _))))) rfl hR (all_cons (ivO (y := s7) rfl (show (22 : Int) ≤ s7 by omega) (show s7 ≤ (22 : Int) by omega)) (all_nil)) (all_nil) (all_nil)
  · exact poX (.tail _ (.tail _ (.tail _ (.tail _ (.tail _ (.head _)))))) rfl hR (all_cons (ivO (y := s7) rfl (show (23 : Int) ≤ s7 by omega) (show s7 ≤ (23 : Int) by omega)) (all_nil)) (all_nil) (all_nil)
  · exact poX (.tail _ (.tail _ (.tail _ (.tail _ (.tail _ (.tail _ (.head _))))))) rfl hR (all_cons (ivO (y := s7) rfl (show (24 : Int) ≤ s7 by omega) (show s7 ≤ (24 : Int) by omega)) (all_nil)) (all_nil) (all_nil)
  · exact poX (.tail _ (.tail _ (.tail _ (.tail _ (.tail _ (.tail _ (.tail _ (.head _)))))))) rfl hR (all_cons (ivO (y := s7) rfl (show (25 : Int) ≤ s7 by omega) (show s7 ≤ (25 : Int) by omega)) (all_nil)) (all_nil) (all_nil)
  · exact poX (.tail _ (.tail _ (.tail _ (.tail _ (.tail _ (.tail _ (.tail _ (.tail _ (.head _))))))))) rfl hR (all_cons (ivO (y := s7) rfl (show (26 : Int) ≤ s7 by omega) (show s7 ≤ (29 : Int) by omega)) (all_nil)) (all_nil) (all_nil)
theorem rl334 : ruOk fFS gR334 := by
  intro r hp hO hN hH
  obtain ⟨s0, s1, s2, s3, s4, s5, s6, s7, rfl⟩ := len8 (show r.length = 8 from hN.1)
  have hR := hN.2.1.1
  have hIv : ∀ q ∈ ([(0, .negSucc 2147483647, .ofNat 2147483647), (1, .ofNat 0, .ofNat 0), (2, .negSucc 2147483647, .ofNat 2147483647), (3, .negSucc 2147483647, .ofNat 2147483647), (4, .ofNat 0, .ofNat 0), (5, .negSucc 2147483647, .ofNat 2147483647), (6, .negSucc 2147483647, .ofNat 2147483647), (7, .negSucc 2147483647, .ofNat 2147483647)] : sIv), ∃ x, ([s0, s1, s2, s3, s4, s5, s6, s7] : List Int)[q.1]? = some x ∧ q.2.1 ≤ x ∧ x ≤ q.2.2 := hN.2.1.2
  have b1 : (0 : Int) ≤ s1 ∧ s1 ≤ (0 : Int) := ivX (q := (1, .ofNat 0, .ofNat 0)) (y := s1) (hIv _ (.tail _ (.head _))) rfl
  have b4 : (0 : Int) ≤ s4 ∧ s4 ≤ (0 : Int) := ivX (q := (4, .ofNat 0, .ofNat 0)) (y := s4) (hIv _ (.tail _ (.tail _ (.tail _ (.tail _ (.head _)))))) rfl
  have hRf : ∀ q ∈ ([((40, .ofNat 173, []), (.ofNat 9, []), 1, .ofNat 0, [])] : List sRf), rfOk [s0, s1, s2, s3, s4, s5, s6, s7] hp q := hH.1
  have h0 : hI hp 173 9 = 0 := rfI0 (hRf _ (.head _)) (sE_k _ _) (sE_k _ _) (sE_k _ _)
  have hFc : ∀ q ∈ ([(192, [(.ofNat 0, [(.ofNat 1, 0)]), (.ofNat 0, [(.ofNat 1, 1)]), (.ofNat 0, [(.ofNat 1, 2)]), (.ofNat 0, [(.ofNat 1, 3)]), (.ofNat 0, [(.ofNat 1, 4)]), (.ofNat 0, [(.ofNat 1, 5)]), (.ofNat 0, [(.ofNat 1, 6)]), (.ofNat 0, [(.ofNat 1, 7)])])] : List sFc), fcOk fFS [s0, s1, s2, s3, s4, s5, s6, s7] hp q := hH.2
  have f0 : SHq (XT hp) (nmR hp (xnm hp)) s0 s1 s2 s3 s4 s5 s6 s7 ∧ s4 ≠ 4 := fcX (ys := [s0, s1, s2, s3, s4, s5, s6, s7]) (hFc _ (.head _)) ⟨sE_V rfl, sE_V rfl, sE_V rfl, sE_V rfl, sE_V rfl, sE_V rfl, sE_V rfl, sE_V rfl, trivial⟩
  exact poX (.head _) rfl hR (all_nil) (all_nil) (all_cons ⟨[1, s5], ⟨sE_k _ _, sE_V rfl, trivial⟩, (show SRS (XT hp) (nmR hp (xnm hp)) (1 : Int) s5 from s0_f1 f0.1 (by omega) (by omega) (by omega))⟩ (all_nil))
theorem rl335 : ruOk fFS gR335 := by
  intro r hp hO hN hH
  obtain ⟨s0, s1, s2, s3, s4, s5, s6, s7, rfl⟩ := len8 (show r.length = 8 from hN.1)
  have hR := hN.2.1.1
  have hIv : ∀ q ∈ ([(0, .negSucc 2147483647, .ofNat 2147483647), (1, .ofNat 0, .ofNat 0), (2, .negSucc 2147483647, .ofNat 2147483647), (3, .negSucc 2147483647, .ofNat 2147483647), (4, .ofNat 2, .ofNat 2), (5, .negSucc 2147483647, .ofNat 2147483647), (6, .negSucc 2147483647, .ofNat 2147483647), (7, .negSucc 2147483647, .ofNat 2147483647)] : sIv), ∃ x, ([s0, s1, s2, s3, s4, s5, s6, s7] : List Int)[q.1]? = some x ∧ q.2.1 ≤ x ∧ x ≤ q.2.2 := hN.2.1.2
  have b1 : (0 : Int) ≤ s1 ∧ s1 ≤ (0 : Int) := ivX (q := (1, .ofNat 0, .ofNat 0)) (y := s1) (hIv _ (.tail _ (.head _))) rfl
  have b4 : (2 : Int) ≤ s4 ∧ s4 ≤ (2 : Int) := ivX (q := (4, .ofNat 2, .ofNat 2)) (y := s4) (hIv _ (.tail _ (.tail _ (.tail _ (.tail _ (.head _)))))) rfl
  have hRf : ∀ q ∈ ([((40, .ofNat 173, []), (.ofNat 9, []), 1, .ofNat 0, [])] : List sRf), rfOk [s0, s1, s2, s3, s4, s5, s6, s7] hp q := hH.1
  have h0 : hI hp 173 9 = 0 := rfI0 (hRf _ (.head _)) (sE_k _ _) (sE_k _ _) (sE_k _ _)
  have hFc : ∀ q ∈ ([(192, [(.ofNat 0, [(.ofNat 1, 0)]), (.ofNat 0, [(.ofNat 1, 1)]), (.ofNat 0, [(.ofNat 1, 2)]), (.ofNat 0, [(.ofNat 1, 3)]), (.ofNat 0, [(.ofNat 1, 4)]), (.ofNat 0, [(.ofNat 1, 5)]), (.ofNat 0, [(.ofNat 1, 6)]), (.ofNat 0, [(.ofNat 1, 7)])])] : List sFc), fcOk fFS [s0, s1, s2, s3, s4, s5, s6, s7] hp q := hH.2
  have f0 : SHq (XT hp) (nmR hp (xnm hp)) s0 s1 s2 s3 s4 s5 s6 s7 ∧ s4 ≠ 4 := fcX (ys := [s0, s1, s2, s3, s4, s5, s6, s7]) (hFc _ (.head _)) ⟨sE_V rfl, sE_V rfl, sE_V rfl, sE_V rfl, sE_V rfl, sE_V rfl, sE_V rfl, sE_V rfl, trivial⟩
  exact poX (.head _) rfl hR (all_nil) (all_nil) (all_cons ⟨[1, s5], ⟨sE_k _ _, sE_V rfl, trivial⟩, (show SRS (XT hp) (nmR hp (xnm hp)) (1 : Int) s5 from s0_f1 f0.1 (by omega) (by omega) (by omega))⟩ (all_nil))
theorem rl336 : ruOk fFS gR336 := by
  intro r hp hO hN hH
  obtain ⟨s0, s1, s2, s3, s4, s5, s6, s7, rfl⟩ := len8 (show r.length = 8 from hN.1)
  have hR := hN.2.1.1
  have hIv : ∀ q ∈ ([(0, .negSucc 2147483647, .ofNat 2147483647), (1, .ofNat 0, .ofNat 0), (2, .negSucc 2147483647, .ofNat 2147483647), (3, .negSucc 2147483647, .ofNat 2147483647), (4, .ofNat 3, .ofNat 3), (5, .negSucc 2147483647, .ofNat 2147483647), (6, .negSucc 2147483647, .ofNat 2147483647), (7, .negSucc 0, .ofNat 39)] : sIv), ∃ x, ([s0, s1, s2, s3, s4, s5, s6, s7] : List Int)[q.1]? = some x ∧ q.2.1 ≤ x ∧ x ≤ q.2.2 := hN.2.1.2
  have b1 : (0 : Int) ≤ s1 ∧ s1 ≤ (0 : Int) := ivX (q := (1, .ofNat 0, .ofNat 0)) (y := s1) (hIv _ (.tail _ (.head _))) rfl
  have b4 : (3 : Int) ≤ s4 ∧ s4 ≤ (3 : Int) := ivX (q := (4, .ofNat 3, .ofNat 3)) (y := s4) (hIv _ (.tail _ (.tail _ (.tail _ (.tail _ (.head _)))))) rfl
  have b7 : (-1 : Int) ≤ s7 ∧ s7 ≤ (39 : Int) := ivX (q := (7, .negSucc 0, .ofNat 39)) (y := s7) (hIv _ (.tail _ (.tail _ (.tail _ (.tail _ (.tail _ (.tail _ (.tail _ (.head _))))))))) rfl
  have hRf : ∀ q ∈ ([((40, .ofNat 173, []), (.ofNat 9, []), 1, .ofNat 0, [])] : List sRf), rfOk [s0, s1, s2, s3, s4, s5, s6, s7] hp q := hH.1
  have h0 : hI hp 173 9 = 0 := rfI0 (hRf _ (.head _)) (sE_k _ _) (sE_k _ _) (sE_k _ _)
  have hFc : ∀ q ∈ ([(192, [(.ofNat 0, [(.ofNat 1, 0)]), (.ofNat 0, [(.ofNat 1, 1)]), (.ofNat 0, [(.ofNat 1, 2)]), (.ofNat 0, [(.ofNat 1, 3)]), (.ofNat 0, [(.ofNat 1, 4)]), (.ofNat 0, [(.ofNat 1, 5)]), (.ofNat 0, [(.ofNat 1, 6)]), (.ofNat 0, [(.ofNat 1, 7)])])] : List sFc), fcOk fFS [s0, s1, s2, s3, s4, s5, s6, s7] hp q := hH.2
  have f0 : SHq (XT hp) (nmR hp (xnm hp)) s0 s1 s2 s3 s4 s5 s6 s7 ∧ s4 ≠ 4 := fcX (ys := [s0, s1, s2, s3, s4, s5, s6, s7]) (hFc _ (.head _)) ⟨sE_V rfl, sE_V rfl, sE_V rfl, sE_V rfl, sE_V rfl, sE_V rfl, sE_V rfl, sE_V rfl, trivial⟩
  exact poX (.head _) rfl hR (all_nil) (all_nil) (all_cons ⟨[1, s5], ⟨sE_k _ _, sE_V rfl, trivial⟩, (show SRS (XT hp) (nmR hp (xnm hp)) (1 : Int) s5 from s0_f1 f0.1 (by omega) (by omega) (by omega))⟩ (all_nil))
theorem rl337 : ruOk fFS gR337 := by
  intro r hp hO hN hH
  obtain ⟨s0, s1, s2, s3, s4, s5, s6, s7, s8, rfl⟩ := len9 (show r.length = 9 from hN.1)
  have hR := hN.2.1.1
  have hIv : ∀ q ∈ ([(0, .negSucc 2147483647, .ofNat 2147483647), (1, .ofNat 0, .ofNat 0), (2, .ofNat 0, .ofNat 19), (3, .ofNat 0, .ofNat 6560), (4, .ofNat 3, .ofNat 3), (5, .negSucc 2147483647, .ofNat 2147483647), (6, .negSucc 2147483647, .ofNat 2147483647), (7, .ofNat 40, .ofNat 40), (8, .negSucc 2147483647, .ofNat 2147483647)] : sIv), ∃ x, ([s0, s1, s2, s3, s4, s5, s6, s7, s8] : List Int)[q.1]? = some x ∧ q.2.1 ≤ x ∧ x ≤ q.2.2 := hN.2.1.2
  have b1 : (0 : Int) ≤ s1 ∧ s1 ≤ (0 : Int) := ivX (q := (1, .ofNat 0, .ofNat 0)) (y := s1) (hIv _ (.tail _ (.head _))) rfl
  have b2 : (0 : Int) ≤ s2 ∧ s2 ≤ (19 : Int) := ivX (q := (2, .ofNat 0, .ofNat 19)) (y := s2) (hIv _ (.tail _ (.tail _ (.head _)))) rfl
  have b3 : (0 : Int) ≤ s3 ∧ s3 ≤ (6560 : Int) := ivX (q := (3, .ofNat 0, .ofNat 6560)) (y := s3) (hIv _ (.tail _ (.tail _ (.tail _ (.head _))))) rfl
  have b4 : (3 : Int) ≤ s4 ∧ s4 ≤ (3 : Int) := ivX (q := (4, .ofNat 3, .ofNat 3)) (y := s4) (hIv _ (.tail _ (.tail _ (.tail _ (.tail _ (.head _)))))) rfl
  have b7 : (40 : Int) ≤ s7 ∧ s7 ≤ (40 : Int) := ivX (q := (7, .ofNat 40, .ofNat 40)) (y := s7) (hIv _ (.tail _ (.tail _ (.tail _ (.tail _ (.tail _ (.tail _ (.tail _ (.head _))))))))) rfl
  have hRf : ∀ q ∈ ([((40, .ofNat 173, []), (.ofNat 9, []), 1, .ofNat 0, [])] : List sRf), rfOk [s0, s1, s2, s3, s4, s5, s6, s7, s8] hp q := hH.1
  have h0 : hI hp 173 9 = 0 := rfI0 (hRf _ (.head _)) (sE_k _ _) (sE_k _ _) (sE_k _ _)
  have hFc : ∀ q ∈ ([(192, [(.ofNat 0, [(.ofNat 1, 0)]), (.ofNat 0, [(.ofNat 1, 1)]), (.ofNat 0, [(.ofNat 1, 2)]), (.ofNat 0, [(.ofNat 1, 3)]), (.ofNat 0, [(.ofNat 1, 4)]), (.ofNat 0, [(.ofNat 1, 5)]), (.ofNat 0, [(.ofNat 1, 6)]), (.ofNat 0, [(.ofNat 1, 7)])]), (199, [(.ofNat 0, [(.ofNat 1, 3)]), (.ofNat 1, [])]), (200, [(.ofNat 0, [(.ofNat 1, 3)]), (.ofNat 0, [(.ofNat 1, 8)])])] : List sFc), fcOk fFS [s0, s1, s2, s3, s4, s5, s6, s7, s8] hp q := hH.2
  have f0 : SHq (XT hp) (nmR hp (xnm hp)) s0 s1 s2 s3 s4 s5 s6 s7 ∧ s4 ≠ 4 := fcX (ys := [s0, s1, s2, s3, s4, s5, s6, s7]) (hFc _ (.head _)) ⟨sE_V rfl, sE_V rfl, sE_V rfl, sE_V rfl, sE_V rfl, sE_V rfl, sE_V rfl, sE_V rfl, trivial⟩
  have f1 : (1 : Int) = dp s3 + 1 := fcX (ys := [s3, 1]) (hFc _ (.tail _ (.head _))) ⟨sE_V rfl, sE_k _ _, trivial⟩
  have f2 : s8 = nr s3 := fcX (ys := [s3, s8]) (hFc _ (.tail _ (.tail _ (.head _)))) ⟨sE_V rfl, sE_V rfl, trivial⟩
  have ud : dp s3 ≤ 7 := by omega
  have ut := dp_lt (t := s3) (by omega) ud
  exact poX (.head _) rfl hR (all_nil) (all_nil) (all_cons ⟨[s6, 0, (s2 + 1), (3 * s3 + 2)], ⟨sE_V rfl, sE_k _ _, sEv (y' := ((1 : Int) + ((1 : Int) * s2 + 0))) rfl (by omega), sEv (y' := ((2 : Int) + ((3 : Int) * s3 + 0))) rfl (by omega), trivial⟩, (show SG (XT hp) (nmR hp (xnm hp)) s6 (0 : Int) (s2 + 1) (3 * s3 + 2) from s0_open f0.1 (by omega) (by omega) (by omega) (by omega) ud)⟩ (all_cons ⟨[(3 * s3 + 2), 2], ⟨sEv (y' := ((2 : Int) + ((3 : Int) * s3 + 0))) rfl (by omega), sE_k _ _, trivial⟩, (show (2 : Int) = dp (3 * s3 + 2) + 1 from dp_32 (t := s3) (by omega) (by omega) f1 (by omega) rfl)⟩ (all_cons ⟨[(3 * s3 + 2)], ⟨sEv (y' := ((2 : Int) + ((3 : Int) * s3 + 0))) rfl (by omega), trivial⟩, (show nr (3 * s3 + 2) = (3 * s3 + 2) from nr_32)⟩ (all_nil))))
theorem rl338 : ruOk fFS gR338 := by
  intro r hp hO hN hH
  obtain ⟨s0, rfl⟩ := len1 (show r.length = 1 from hN.1)
  have hR := hN.2.1.1
  have hIv : ∀ q ∈ ([(0, .ofNat 0, .ofNat 6560)] : sIv), ∃ x, ([s0] : List Int)[q.1]? = some x ∧ q.2.1 ≤ x ∧ x ≤ q.2.2 := hN.2.1.2
  have b0 : (0 : Int) ≤ s0 ∧ s0 ≤ (6560 : Int) := ivX (q := (0, .ofNat 0, .ofNat 6560)) (y := s0) (hIv _ (.head _)) rfl
  have hFc : ∀ q ∈ ([(199, [(.ofNat 0, [(.ofNat 1, 0)]), (.ofNat 2, [])])] : List sFc), fcOk fFS [s0] hp q := hH.2
  have f0 : (2 : Int) = dp s0 + 1 := fcX (ys := [s0, 2]) (hFc _ (.head _)) ⟨sE_V rfl, sE_k _ _, trivial⟩
  have u : s0 < 3 := dp_lm 1 (by decide) (by omega) (by omega)
  exact poX (.head _) rfl hR (all_cons (ivO (y := s0) rfl (show (0 : Int) ≤ s0 by omega) (show s0 ≤ (2 : Int) by omega)) (all_nil)) (all_nil) (all_nil)
theorem rl339 : ruOk fFS gR339 := by
  intro r hp hO hN hH
  obtain ⟨s0, s1, s2, s3, s4, s5, s6, s7, s8, rfl⟩ := len9 (show r.length = 9 from hN.1)
  have hR := hN.2.1.1
  have hIv : ∀ q ∈ ([(0, .negSucc 2147483647, .ofNat 2147483647), (1, .ofNat 0, .ofNat 0), (2, .ofNat 0, .ofNat 19), (3, .ofNat 0, .ofNat 6560), (4, .ofNat 3, .ofNat 3), (5, .negSucc 2147483647, .ofNat 2147483647), (6, .negSucc 2147483647, .ofNat 2147483647), (7, .ofNat 40, .ofNat 40), (8, .negSucc 2147483647, .ofNat 2147483647)] : sIv), ∃ x, ([s0, s1, s2, s3, s4, s5, s6, s7, s8] : List Int)[q.1]? = some x ∧ q.2.1 ≤ x ∧ x ≤ q.2.2 := hN.2.1.2
  have b1 : (0 : Int) ≤ s1 ∧ s1 ≤ (0 : Int) := ivX (q := (1, .ofNat 0, .ofNat 0)) (y := s1) (hIv _ (.tail _ (.head _))) rfl
  have b2 : (0 : Int) ≤ s2 ∧ s2 ≤ (19 : Int) := ivX (q := (2, .ofNat 0, .ofNat 19)) (y := s2) (hIv _ (.tail _ (.tail _ (.head _)))) rfl
  have b3 : (0 : Int) ≤ s3 ∧ s3 ≤ (6560 : Int) := ivX (q := (3, .ofNat 0, .ofNat 6560)) (y := s3) (hIv _ (.tail _ (.tail _ (.tail _ (.head _))))) rfl
  have b4 : (3 : Int) ≤ s4 ∧ s4 ≤ (3 : Int) := ivX (q := (4, .ofNat 3, .ofNat 3)) (y := s4) (hIv _ (.tail _ (.tail _ (.tail _ (.tail _ (.head _)))))) rfl
  have b7 : (40 : Int) ≤ s7 ∧ s7 ≤ (40 : Int) := ivX (q := (7, .ofNat 40, .ofNat 40)) (y := s7) (hIv _ (.tail _ (.tail _ (.tail _ (.tail _ (.tail _ (.tail _ (.tail _ (.head _))))))))) rfl
  have hRf : ∀ q ∈ ([((40, .ofNat 173, []), (.ofNat 9, []), 1, .ofNat 0, [])] : List sRf), rfOk [s0, s1, s2, s3, s4, s5, s6, s7, s8] hp q := hH.1
  have h0 : hI hp 173 9 = 0 := rfI0 (hRf _ (.head _)) (sE_k _ _) (sE_k _ _) (sE_k _ _)
  have hFc : ∀ q ∈ ([(192, [(.ofNat 0, [(.ofNat 1, 0)]), (.ofNat 0, [(.ofNat 1, 1)]), (.ofNat 0, [(.ofNat 1, 2)]), (.ofNat 0, [(.ofNat 1, 3)]), (.ofNat 0, [(.ofNat 1, 4)]), (.ofNat 0, [(.ofNat 1, 5)]), (.ofNat 0, [(.ofNat 1, 6)]), (.ofNat 0, [(.ofNat 1, 7)])]), (199, [(.ofNat 0, [(.ofNat 1, 3)]), (.ofNat 2, [])]), (200, [(.ofNat 0, [(.ofNat 1, 3)]), (.ofNat 0, [(.ofNat 1, 8)])])] : List sFc), fcOk fFS [s0, s1, s2, s3, s4, s5, s6, s7, s8] hp q := hH.2
  have f0 : SHq (XT hp) (nmR hp (xnm hp)) s0 s1 s2 s3 s4 s5 s6 s7 ∧ s4 ≠ 4 := fcX (ys := [s0, s1, s2, s3, s4, s5, s6, s7]) (hFc _ (.head _)) ⟨sE_V rfl, sE_V rfl, sE_V rfl, sE_V rfl, sE_V rfl, sE_V rfl, sE_V rfl, sE_V rfl, trivial⟩
  have f1 : (2 : Int) = dp s3 + 1 := fcX (ys := [s3, 2]) (hFc _ (.tail _ (.head _))) ⟨sE_V rfl, sE_k _ _, trivial⟩
  have f2 : s8 = nr s3 := fcX (ys := [s3, s8]) (hFc _ (.tail _ (.tail _ (.head _)))) ⟨sE_V rfl, sE_V rfl, trivial⟩
  have ud : dp s3 ≤ 7 := by omega
  have ut := dp_lt (t := s3) (by omega) ud
  exact poX (.head _) rfl hR (all_nil) (all_nil) (all_cons ⟨[s6, 0, (s2 + 1), (3 * s3 + 2)], ⟨sE_V rfl, sE_k _ _, sEv (y' := ((1 : Int) + ((1 : Int) * s2 + 0))) rfl (by omega), sEv (y' := ((2 : Int) + ((3 : Int) * s3 + 0))) rfl (by omega), trivial⟩, (show SG (XT hp) (nmR hp (xnm hp)) s6 (0 : Int) (s2 + 1) (3 * s3 + 2) from s0_open f0.1 (by omega) (by omega) (by omega) (by omega) ud)⟩ (all_cons ⟨[(3 * s3 + 2), 3], ⟨sEv (y' := ((2 : Int) + ((3 : Int) * s3 + 0))) rfl (by omega), sE_k _ _, trivial⟩, (show (3 : Int) = dp (3 * s3 + 2) + 1 from dp_32 (t := s3) (by omega) (by omega) f1 (by omega) rfl)⟩ (all_cons ⟨[(3 * s3 + 2)], ⟨sEv (y' := ((2 : Int) + ((3 : Int) * s3 + 0))) rfl (by omega), trivial⟩, (show nr (3 * s3 + 2) = (3 * s3 + 2) from nr_32)⟩ (all_nil))))
theorem rl340 : ruOk fFS gR340 := by
  intro r hp hO hN hH
  obtain ⟨s0, rfl⟩ := len1 (show r.length = 1 from hN.1)
  have hR := hN.2.1.1
  have hIv : ∀ q ∈ ([(0, .ofNat 0, .ofNat 6560)] : sIv), ∃ x, ([s0] : List Int)[q.1]? = some x ∧ q.2.1 ≤ x ∧ x ≤ q.2.2 := hN.2.1.2
  have b0 : (0 : Int) ≤ s0 ∧ s0 ≤ (6560 : Int) := ivX (q := (0, .ofNat 0, .ofNat 6560)) (y := s0) (hIv _ (.head _)) rfl
  have hFc : ∀ q ∈ ([(199, [(.ofNat 0, [(.ofNat 1, 0)]), (.ofNat 3, [])])] : List sFc), fcOk fFS [s0] hp q := hH.2
  have f0 : (3 : Int) = dp s0 + 1 := fcX (ys := [s0, 3]) (hFc _ (.head _)) ⟨sE_V rfl, sE_k _ _, trivial⟩
  have u : s0 < 9 := dp_lm 2 (by decide) (by omega) (by omega)
  exact poX (.head _) rfl hR (all_cons (ivO (y := s0) rfl (show (0 : Int) ≤ s0 by omega) (show s0 ≤ (8 : Int) by omega)) (all_nil)) (all_nil) (all_nil)
theorem rl341 : ruOk fFS gR341 := by
  intro r hp hO hN hH
  obtain ⟨s0, s1, s2, s3, s4, s5, s6, s7, s8, rfl⟩ := len9 (show r.length = 9 from hN.1)
  have hR := hN.2.1.1
  have hIv : ∀ q ∈ ([(0, .negSucc 2147483647, .ofNat 2147483647), (1, .ofNat 0, .ofNat 0), (2, .ofNat 0, .ofNat 19), (3, .ofNat 0, .ofNat 6560), (4, .ofNat 3, .ofNat 3), (5, .negSucc 2147483647, .ofNat 2147483647), (6, .negSucc 2147483647, .ofNat 2147483647), (7, .ofNat 40, .ofNat 40), (8, .negSucc 2147483647, .ofNat 2147483647)] : sIv), ∃ x, ([s0, s1, s2, s3, s4, s5, s6, s7, s8] : List Int)[q.1]? = some x ∧ q.2.1 ≤ x ∧ x ≤ q.2.2 := hN.2.1.2
  have b1 : (0 : Int) ≤ s1 ∧ s1 ≤ (0 : Int) := ivX (q := (1, .ofNat 0, .ofNat 0)) (y := s1) (hIv _ (.tail _ (.head _))) rfl
  have b2 : (0 : Int) ≤ s2 ∧ s2 ≤ (19 : Int) := ivX (q := (2, .ofNat 0, .ofNat 19)) (y := s2) (hIv _ (.tail _ (.tail _ (.head _)))) rfl
  have b3 : (0 : Int) ≤ s3 ∧ s3 ≤ (6560 : Int) := ivX (q := (3, .ofNat 0, .ofNat 6560)) (y := s3) (hIv _ (.tail _ (.tail _ (.tail _ (.head _))))) rfl
  have b4 : (3 : Int) ≤ s4 ∧ s4 ≤ (3 : Int) := ivX (q := (4, .ofNat 3, .ofNat 3)) (y := s4) (hIv _ (.tail _ (.tail _ (.tail _ (.tail _ (.head _)))))) rfl
  have b7 : (40 : Int) ≤ s7 ∧ s7 ≤ (40 : Int) := ivX (q := (7, .ofNat 40, .ofNat 40)) (y := s7) (hIv _ (.tail _ (.tail _ (.tail _ (.tail _ (.tail _ (.tail _ (.tail _ (.head _))))))))) rfl
  have hRf : ∀ q ∈ ([((40, .ofNat 173, []), (.ofNat 9, []), 1, .ofNat 0, [])] : List sRf), rfOk [s0, s1, s2, s3, s4, s5, s6, s7, s8] hp q := hH.1
  have h0 : hI hp 173 9 = 0 := rfI0 (hRf _ (.head _)) (sE_k _ _) (sE_k _ _) (sE_k _ _)
  have hFc : ∀ q ∈ ([(192, [(.ofNat 0, [(.ofNat 1, 0)]), (.ofNat 0, [(.ofNat 1, 1)]), (.ofNat 0, [(.ofNat 1, 2)]), (.ofNat 0, [(.ofNat 1, 3)]), (.ofNat 0, [(.ofNat 1, 4)]), (.ofNat 0, [(.ofNat 1, 5)]), (.ofNat 0, [(.ofNat 1, 6)]), (.ofNat 0, [(.ofNat 1, 7)])]), (199, [(.ofNat 0, [(.ofNat 1, 3)]), (.ofNat 3, [])]), (200, [(.ofNat 0, [(.ofNat 1, 3)]), (.ofNat 0, [(.ofNat 1, 8)])])] : List sFc), fcOk fFS [s0, s1, s2, s3, s4, s5, s6, s7, s8] hp q := hH.2
  have f0 : SHq (XT hp) (nmR hp (xnm hp)) s0 s1 s2 s3 s4 s5 s6 s7 ∧ s4 ≠ 4 := fcX (ys := [s0, s1, s2, s3, s4, s5, s6, s7]) (hFc _ (.head _)) ⟨sE_V rfl, sE_V rfl, sE_V rfl, sE_V rfl, sE_V rfl, sE_V rfl, sE_V rfl, sE_V rfl, trivial⟩
  have f1 : (3 : Int) = dp s3 + 1 := fcX (ys := [s3, 3]) (hFc _ (.tail _ (.head _))) ⟨sE_V rfl, sE_k _ _, trivial⟩
  have f2 : s8 = nr s3 := fcX (ys := [s3, s8]) (hFc _ (.tail _ (.tail _ (.head _)))) ⟨sE_V rfl, sE_V rfl, trivial⟩
  have ud : dp s3 ≤ 7 := by omega
  have ut := dp_lt (t := s3) (by omega) ud
  exact poX (.head _) rfl hR (all_nil) (all_nil) (all_cons ⟨[s6, 0, (s2 + 1), (3 * s3 + 2)], ⟨sE_V rfl, sE_k _ _, sEv (y' := ((1 : Int) + ((1 : Int) * s2 + 0))) rfl (by omega), sEv (y' := ((2 : Int) + ((3 : Int) * s3 + 0))) rfl (by omega), trivial⟩, (show SG (XT hp) (nmR hp (xnm hp)) s6 (0 : Int) (s2 + 1) (3 * s3 + 2) from s0_open f0.1 (by omega) (by omega) (by omega) (by omega) ud)⟩ (all_cons ⟨[(3 * s3 + 2), 4], ⟨sEv (y' := ((2 : Int) + ((3 : Int) * s3 + 0))) rfl (by omega), sE_k _ _, trivial⟩, (show (4 : Int) = dp (3 * s3 + 2) + 1 from dp_32 (t := s3) (by omega) (by omega) f1 (by omega) rfl)⟩ (all_cons ⟨[(3 * s3 + 2)], ⟨sEv (y' := ((2 : Int) + ((3 : Int) * s3 + 0))) rfl (by omega), trivial⟩, (show nr (3 * s3 + 2) = (3 * s3 + 2) from nr_32)⟩ (all_nil))))
theorem rl342 : ruOk fFS gR342 := by
  intro r hp hO hN hH
  obtain ⟨s0, rfl⟩ := len1 (show r.length = 1 from hN.1)
  have hR := hN.2.1.1
  have hIv : ∀ q ∈ ([(0, .ofNat 0, .ofNat 6560)] : sIv), ∃ x, ([s0] : List Int)[q.1]? = some x ∧ q.2.1 ≤ x ∧ x ≤ q.2.2 := hN.2.1.2
  have b0 : (0 : Int) ≤ s0 ∧ s0 ≤ (6560 : Int) := ivX (q := (0, .ofNat 0, .ofNat 6560)) (y := s0) (hIv _ (.head _)) rfl
  have hFc : ∀ q ∈ ([(199, [(.ofNat 0, [(.ofNat 1, 0)]), (.ofNat 4, [])])] : List sFc), fcOk fFS [s0] hp q := hH.2
  have f0 : (4 : Int) = dp s0 + 1 := fcX (ys := [s0, 4]) (hFc _ (.head _)) ⟨sE_V rfl, sE_k _ _, trivial⟩
  have u : s0 < 27 := dp_lm 3 (by decide) (by omega) (by omega)
  exact poX (.head _) rfl hR (all_cons (ivO (y := s0) rfl (show (0 : Int) ≤ s0 by omega) (show s0 ≤ (26 : Int) by omega)) (all_nil)) (all_nil) (all_nil)
theorem rl343 : ruOk fFS gR343 := by
  intro r hp hO hN hH
  obtain ⟨s0, s1, s2, s3, s4, s5, s6, s7, s8, rfl⟩ := len9 (show r.length = 9 from hN.1)
  have hR := hN.2.1.1
  have hIv : ∀ q ∈ ([(0, .negSucc 2147483647, .ofNat 2147483647), (1, .ofNat 0, .ofNat 0), (2, .ofNat 0, .ofNat 19), (3, .ofNat 0, .ofNat 6560), (4, .ofNat 3, .ofNat 3), (5, .negSucc 2147483647, .ofNat 2147483647), (6, .negSucc 2147483647, .ofNat 2147483647), (7, .ofNat 40, .ofNat 40), (8, .negSucc 2147483647, .ofNat 2147483647)] : sIv), ∃ x, ([s0, s1, s2, s3, s4, s5, s6, s7, s8] : List Int)[q.1]? = some x ∧ q.2.1 ≤ x ∧ x ≤ q.2.2 := hN.2.1.2
  have b1 : (0 : Int) ≤ s1 ∧ s1 ≤ (0 : Int) := ivX (q := (1, .ofNat 0, .ofNat 0)) (y := s1) (hIv _ (.tail _ (.head _))) rfl
  have b2 : (0 : Int) ≤ s2 ∧ s2 ≤ (19 : Int) := ivX (q := (2, .ofNat 0, .ofNat 19)) (y := s2) (hIv _ (.tail _ (.tail _ (.head _)))) rfl
  have b3 : (0 : Int) ≤ s3 ∧ s3 ≤ (6560 : Int) := ivX (q := (3, .ofNat 0, .ofNat 6560)) (y := s3) (hIv _ (.tail _ (.tail _ (.tail _ (.head _))))) rfl
  have b4 : (3 : Int) ≤ s4 ∧ s4 ≤ (3 : Int) := ivX (q := (4, .ofNat 3, .ofNat 3)) (y := s4) (hIv _ (.tail _ (.tail _ (.tail _ (.tail _ (.head _)))))) rfl
  have b7 : (40 : Int) ≤ s7 ∧ s7 ≤ (40 : Int) := ivX (q := (7, .ofNat 40, .ofNat 40)) (y := s7) (hIv _ (.tail _ (.tail _ (.tail _ (.tail _ (.tail _ (.tail _ (.tail _ (.head _))))))))) rfl
  have hRf : ∀ q ∈ ([((40, .ofNat 173, []), (.ofNat 9, []), 1, .ofNat 0, [])] : List sRf), rfOk [s0, s1, s2, s3, s4, s5, s6, s7, s8] hp q := hH.1
  have h0 : hI hp 173 9 = 0 := rfI0 (hRf _ (.head _)) (sE_k _ _) (sE_k _ _) (sE_k _ _)
  have hFc : ∀ q ∈ ([(192, [(.ofNat 0, [(.ofNat 1, 0)]), (.ofNat 0, [(.ofNat 1, 1)]), (.ofNat 0, [(.ofNat 1, 2)]), (.ofNat 0, [(.ofNat 1, 3)]), (.ofNat 0, [(.ofNat 1, 4)]), (.ofNat 0, [(.ofNat 1, 5)]), (.ofNat 0, [(.ofNat 1, 6)]), (.ofNat 0, [(.ofNat 1, 7)])]), (199, [(.ofNat 0, [(.ofNat 1, 3)]), (.ofNat 4, [])]), (200, [(.ofNat 0, [(.ofNat 1, 3)]), (.ofNat 0, [(.ofNat 1, 8)])])] : List sFc), fcOk fFS [s0, s1, s2, s3, s4, s5, s6, s7, s8] hp q := hH.2
  have f0 : SHq (XT hp) (nmR hp (xnm hp)) s0 s1 s2 s3 s4 s5 s6 s7 ∧ s4 ≠ 4 := fcX (ys := [s0, s1, s2, s3, s4, s5, s6, s7]) (hFc _ (.head _)) ⟨sE_V rfl, sE_V rfl, sE_V rfl, sE_V rfl, sE_V rfl, sE_V rfl, sE_V rfl, sE_V rfl, trivial⟩
  have f1 : (4 : Int) = dp s3 + 1 := fcX (ys := [s3, 4]) (hFc _ (.tail _ (.head _))) ⟨sE_V rfl, sE_k _ _, trivial⟩
  have f2 : s8 = nr s3 := fcX (ys := [s3, s8]) (hFc _ (.tail _ (.tail _ (.head _)))) ⟨sE_V rfl, sE_V rfl, trivial⟩
  have ud : dp s3 ≤ 7 := by omega
  have ut := dp_lt (t := s3) (by omega) ud
  exact poX (.head _) rfl hR (all_nil) (all_nil) (all_cons ⟨[s6, 0, (s2 + 1), (3 * s3 + 2)], ⟨sE_V rfl, sE_k _ _, sEv (y' := ((1 : Int) + ((1 : Int) * s2 + 0))) rfl (by omega), sEv (y' := ((2 : Int) + ((3 : Int) * s3 + 0))) rfl (by omega), trivial⟩, (show SG (XT hp) (nmR hp (xnm hp)) s6 (0 : Int) (s2 + 1) (3 * s3 + 2) from s0_open f0.1 (by omega) (by omega) (by omega) (by omega) ud)⟩ (all_cons ⟨[(3 * s3 + 2), 5], ⟨sEv (y' := ((2 : Int) + ((3 : Int) * s3 + 0))) rfl (by omega), sE_k _ _, trivial⟩, (show (5 : Int) = dp (3 * s3 + 2) + 1 from dp_32 (t := s3) (by omega) (by omega) f1 (by omega) rfl)⟩ (all_cons ⟨[(3 * s3 + 2)], ⟨sEv (y' := ((2 : Int) + ((3 : Int) * s3 + 0))) rfl (by omega), trivial⟩, (show nr (3 * s3 + 2) = (3 * s3 + 2) from nr_32)⟩ (all_nil))))
theorem rl344 : ruOk fFS gR344 := by
  intro r hp hO hN hH
  obtain ⟨s0, rfl⟩ := len1 (show r.length = 1 from hN.1)
  have hR := hN.2.1.1
  have hIv : ∀ q ∈ ([(0, .ofNat 0, .ofNat 6560)] : sIv), ∃ x, ([s0] : List Int)[q.1]? = some x ∧ q.2.1 ≤ x ∧ x ≤ q.2.2 := hN.2.1.2
  have b0 : (0 : Int) ≤ s0 ∧ s0 ≤ (6560 : Int) := ivX (q := (0, .ofNat 0, .ofNat 6560)) (y := s0) (hIv _ (.head _)) rfl
  have hFc : ∀ q ∈ ([(199, [(.ofNat 0, [(.ofNat 1, 0)]), (.ofNat 5, [])])] : List sFc), fcOk fFS [s0] hp q := hH.2
  have f0 : (5 : Int) = dp s0 + 1 := fcX (ys := [s0, 5]) (hFc _ (.head _)) ⟨sE_V rfl, sE_k _ _, trivial⟩
  have u : s0 < 81 := dp_lm 4 (by decide) (by omega) (by omega)
  exact poX (.head _) rfl hR (all_cons (ivO (y := s0) rfl (show (0 : Int) ≤ s0 by omega) (show s0 ≤ (80 : Int) by omega)) (all_nil)) (all_nil) (all_nil)
theorem rl345 : ruOk fFS gR345 := by
  intro r hp hO hN hH
  obtain ⟨s0, s1, s2, s3, s4, s5, s6, s7, s8, rfl⟩ := len9 (show r.length = 9 from hN.1)
  have hR := hN.2.1.1
  have hIv : ∀ q ∈ ([(0, .negSucc 2147483647, .ofNat 2147483647), (1, .ofNat 0, .ofNat 0), (2, .ofNat 0, .ofNat 19), (3, .ofNat 0, .ofNat 6560), (4, .ofNat 3, .ofNat 3), (5, .negSucc 2147483647, .ofNat 2147483647), (6, .negSucc 2147483647, .ofNat 2147483647), (7, .ofNat 40, .ofNat 40), (8, .negSucc 2147483647, .ofNat 2147483647)] : sIv), ∃ x, ([s0, s1, s2, s3, s4, s5, s6, s7, s8] : List Int)[q.1]? = some x ∧ q.2.1 ≤ x ∧ x ≤ q.2.2 := hN.2.1.2
  have b1 : (0 : Int) ≤ s1 ∧ s1 ≤ (0 : Int) := ivX (q := (1, .ofNat 0, .ofNat 0)) (y := s1) (hIv _ (.tail _ (.head _))) rfl
  have b2 : (0 : Int) ≤ s2 ∧ s2 ≤ (19 : Int) := ivX (q := (2, .ofNat 0, .ofNat 19)) (y := s2) (hIv _ (.tail _ (.tail _ (.head _)))) rfl
  have b3 : (0 : Int) ≤ s3 ∧ s3 ≤ (6560 : Int) := ivX (q := (3, .ofNat 0, .ofNat 6560)) (y := s3) (hIv _ (.tail _ (.tail _ (.tail _ (.head _))))) rfl
  have b4 : (3 : Int) ≤ s4 ∧ s4 ≤ (3 : Int) := ivX (q := (4, .ofNat 3, .ofNat 3)) (y := s4) (hIv _ (.tail _ (.tail _ (.tail _ (.tail _ (.head _)))))) rfl
  have b7 : (40 : Int) ≤ s7 ∧ s7 ≤ (40 : Int) := ivX (q := (7, .ofNat 40, .ofNat 40)) (y := s7) (hIv _ (.tail _ (.tail _ (.tail _ (.tail _ (.tail _ (.tail _ (.tail _ (.head _))))))))) rfl
  have hRf : ∀ q ∈ ([((40, .ofNat 173, []), (.ofNat 9, []), 1, .ofNat 0, [])] : List sRf), rfOk [s0, s1, s2, s3, s4, s5, s6, s7, s8] hp q := hH.1
  have h0 : hI hp 173 9 = 0 := rfI0 (hRf _ (.head _)) (sE_k _ _) (sE_k _ _) (sE_k _ _)
  have hFc : ∀ q ∈ ([(192, [(.ofNat 0, [(.ofNat 1, 0)]), (.ofNat 0, [(.ofNat 1, 1)]), (.ofNat 0, [(.ofNat 1, 2)]), (.ofNat 0, [(.ofNat 1, 3)]), (.ofNat 0, [(.ofNat 1, 4)]), (.ofNat 0, [(.ofNat 1, 5)]), (.ofNat 0, [(.ofNat 1, 6)]), (.ofNat 0, [(.ofNat 1, 7)])]), (199, [(.ofNat 0, [(.ofNat 1, 3)]), (.ofNat 5, [])]), (200, [(.ofNat 0, [(.ofNat 1, 3)]), (.ofNat 0, [(.ofNat 1, 8)])])] : List sFc), fcOk fFS [s0, s1, s2, s3, s4, s5, s6, s7, s8] hp q := hH.2
  have f0 : SHq (XT hp) (nmR hp (xnm hp)) s0 s1 s2 s3 s4 s5 s6 s7 ∧ s4 ≠ 4 := fcX (ys := [s0, s1, s2, s3, s4, s5, s6, s7]) (hFc _ (.head _)) ⟨sE_V rfl, sE_V rfl, sE_V rfl, sE_V rfl, sE_V rfl, sE_V rfl, sE_V rfl, sE_V rfl, trivial⟩
  have f1 : (5 : Int) = dp s3 + 1 := fcX (ys := [s3, 5]) (hFc _ (.tail _ (.head _))) ⟨sE_V rfl, sE_k _ _, trivial⟩
  have f2 : s8 = nr s3 := fcX (ys := [s3, s8]) (hFc _ (.tail _ (.tail _ (.head _)))) ⟨sE_V rfl, sE_V rfl, trivial⟩
  have ud : dp s3 ≤ 7 := by omega
  have ut := dp_lt (t := s3) (by omega) ud
  exact poX (.head _) rfl hR (all_nil) (all_nil) (all_cons ⟨[s6, 0, (s2 + 1), (3 * s3 + 2)], ⟨sE_V rfl, sE_k _ _, sEv (y' := ((1 : Int) + ((1 : Int) * s2 + 0))) rfl (by omega), sEv (y' := ((2 : Int) + ((3 : Int) * s3 + 0))) rfl (by omega), trivial⟩, (show SG (XT hp) (nmR hp (xnm hp)) s6 (0 : Int) (s2 + 1) (3 * s3 + 2) from s0_open f0.1 (by omega) (by omega) (by omega) (by omega) ud)⟩ (all_cons ⟨[(3 * s3 + 2), 6], ⟨sEv (y' := ((2 : Int) + ((3 : Int) * s3 + 0))) rfl (by omega), sE_k _ _, trivial⟩, (show (6 : Int) = dp (3 * s3 + 2) + 1 from dp_32 (t := s3) (by omega) (by omega) f1 (by omega) rfl)⟩ (all_cons ⟨[(3 * s3 + 2)], ⟨sEv (y' := ((2 : Int) + ((3 : Int) * s3 + 0))) rfl (by omega), trivial⟩, (show nr (3 * s3 + 2) = (3 * s3 + 2) from nr_32)⟩ (all_nil))))
theorem rl346 : ruOk fFS gR346 := by
  intro r hp hO hN hH
  obtain ⟨s0, rfl⟩ := len1 (show r.length = 1 from hN.1)
  have hR := hN.2.1.1
  have hIv : ∀ q ∈ ([(0, .ofNat 0, .ofNat 6560)] : sIv), ∃ x, ([s0] : List Int)[q.1]? = some x ∧ q.2.1 ≤ x ∧ x ≤ q.2.2 := hN.2.1.2
  have b0 : (0 : Int) ≤ s0 ∧ s0 ≤ (6560 : Int) := ivX (q := (0, .ofNat 0, .ofNat 6560)) (y := s0) (hIv _ (.head _)) rfl
  have hFc : ∀ q ∈ ([(199, [(.ofNat 0, [(.ofNat 1, 0)]), (.ofNat 6, [])])] : List sFc), fcOk fFS [s0] hp q := hH.2
  have f0 : (6 : Int) = dp s0 + 1 := fcX (ys := [s0, 6]) (hFc _ (.head _)) ⟨sE_V rfl, sE_k _ _, trivial⟩
  have u : s0 < 243 := dp_lm 5 (by decide) (by omega) (by omega)
  exact poX (.head _) rfl hR (all_cons (ivO (y := s0) rfl (show (0 : Int) ≤ s0 by omega) (show s0 ≤ (242 : Int) by omega)) (all_nil)) (all_nil) (all_nil)
theorem rl347 : ruOk fFS gR347 := by
  intro r hp hO hN hH
  obtain ⟨s0, s1, s2, s3, s4, s5, s6, s7, s8, rfl⟩ := len9 (show r.length = 9 from hN.1)
  have hR := hN.2.1.1
  have hIv : ∀ q ∈ ([(0, .negSucc 2147483647, .ofNat 2147483647), (1, .ofNat 0, .ofNat 0), (2, .ofNat 0, .ofNat 19), (3, .ofNat 0, .ofNat 6560), (4, .ofNat 3, .ofNat 3), (5, .negSucc 2147483647, .ofNat 2147483647), (6, .negSucc 2147483647, .ofNat 2147483647), (7, .ofNat 40, .ofNat 40), (8, .negSucc 2147483647, .ofNat 2147483647)] : sIv), ∃ x, ([s0, s1, s2, s3, s4, s5, s6, s7, s8] : List Int)[q.1]? = some x ∧ q.2.1 ≤ x ∧ x ≤ q.2.2 := hN.2.1.2
  have b1 : (0 : Int) ≤ s1 ∧ s1 ≤ (0 : Int) := ivX (q := (1, .ofNat 0, .ofNat 0)) (y := s1) (hIv _ (.tail _ (.head _))) rfl
  have b2 : (0 : Int) ≤ s2 ∧ s2 ≤ (19 : Int) := ivX (q := (2, .ofNat 0, .ofNat 19)) (y := s2) (hIv _ (.tail _ (.tail _ (.head _)))) rfl
  have b3 : (0 : Int) ≤ s3 ∧ s3 ≤ (6560 : Int) := ivX (q := (3, .ofNat 0, .ofNat 6560)) (y := s3) (hIv _ (.tail _ (.tail _ (.tail _ (.head _))))) rfl
  have b4 : (3 : Int) ≤ s4 ∧ s4 ≤ (3 : Int) := ivX (q := (4, .ofNat 3, .ofNat 3)) (y := s4) (hIv _ (.tail _ (.tail _ (.tail _ (.tail _ (.head _)))))) rfl
  have b7 : (40 : Int) ≤ s7 ∧ s7 ≤ (40 : Int) := ivX (q := (7, .ofNat 40, .ofNat 40)) (y := s7) (hIv _ (.tail _ (.tail _ (.tail _ (.tail _ (.tail _ (.tail _ (.tail _ (.head _))))))))) rfl
  have hRf : ∀ q ∈ ([((40, .ofNat 173, []), (.ofNat 9, []), 1, .ofNat 0, [])] : List sRf), rfOk [s0, s1, s2, s3, s4, s5, s6, s7, s8] hp q := hH.1
  have h0 : hI hp 173 9 = 0 := rfI0 (hRf _ (.head _)) (sE_k _ _) (sE_k _ _) (sE_k _ _)
  have hFc : ∀ q ∈ ([(192, [(.ofNat 0, [(.ofNat 1, 0)]), (.ofNat 0, [(.ofNat 1, 1)]), (.ofNat 0, [(.ofNat 1, 2)]), (.ofNat 0, [(.ofNat 1, 3)]), (.ofNat 0, [(.ofNat 1, 4)]), (.ofNat 0, [(.ofNat 1, 5)]), (.ofNat 0, [(.ofNat 1, 6)]), (.ofNat 0, [(.ofNat 1, 7)])]), (199, [(.ofNat 0, [(.ofNat 1, 3)]), (.ofNat 6, [])]), (200, [(.ofNat 0, [(.ofNat 1, 3)]), (.ofNat 0, [(.ofNat 1, 8)])])] : List sFc), fcOk fFS [s0, s1, s2, s3, s4, s5, s6, s7, s8] hp q := hH.2
  have f0 : SHq (XT hp) (nmR hp (xnm hp)) s0 s1 s2 s3 s4 s5 s6 s7 ∧ s4 ≠ 4 := fcX (ys := [s0, s1, s2, s3, s4, s5, s6, s7]) (hFc _ (.head _)) ⟨sE_V rfl, sE_V rfl, sE_V rfl, sE_V rfl, sE_V rfl, sE_V rfl, sE_V rfl, sE_V rfl, trivial⟩
  have f1 : (6 : Int) = dp s3 + 1 := fcX (ys := [s3, 6]) (hFc _ (.tail _ (.head _))) ⟨sE_V rfl, sE_k _ _, trivial⟩
  have f2 : s8 = nr s3 := fcX (ys := [s3, s8]) (hFc _ (.tail _ (.tail _ (.head _)))) ⟨sE_V rfl, sE_V rfl, trivial⟩
  have ud : dp s3 ≤ 7 := by omega
  have ut := dp_lt (t := s3) (by omega) ud
  exact poX (.head _) rfl hR (all_nil) (all_nil) (all_cons ⟨[s6, 0, (s2 + 1), (3 * s3 + 2)], ⟨sE_V rfl, sE_k _ _, sEv (y' := ((1 : Int) + ((1 : Int) * s2 + 0))) rfl (by omega), sEv (y' := ((2 : Int) + ((3 : Int) * s3 + 0))) rfl (by omega), trivial⟩, (show SG (XT hp) (nmR hp (xnm hp)) s6 (0 : Int) (s2 + 1) (3 * s3 + 2) from s0_open f0.1 (by omega) (by omega) (by omega) (by omega) ud)⟩ (all_cons ⟨[(3 * s3 + 2), 7], ⟨sEv (y' := ((2 : Int) + ((3 : Int) * s3 + 0))) rfl (by omega), sE_k _ _, trivial⟩, (show (7 : Int) = dp (3 * s3 + 2) + 1 from dp_32 (t := s3) (by omega) (by omega) f1 (by omega) rfl)⟩ (all_cons ⟨[(3 * s3 + 2)], ⟨sEv (y' := ((2 : Int) + ((3 : Int) * s3 + 0))) rfl (by omega), trivial⟩, (show nr (3 * s3 + 2) = (3 * s3 + 2) from nr_32)⟩ (all_nil))))
theorem rl348 : ruOk fFS gR348 := by
  intro r hp hO hN hH
  obtain ⟨s0, rfl⟩ := len1 (show r.length = 1 from hN.1)
  have hR := hN.2.1.1
  have hIv : ∀ q ∈ ([(0, .ofNat 0, .ofNat 6560)] : sIv), ∃ x, ([s0] : List Int)[q.1]? = some x ∧ q.2.1 ≤ x ∧ x ≤ q.2.2 := hN.2.1.2
  have b0 : (0 : Int) ≤ s0 ∧ s0 ≤ (6560 : Int) := ivX (q := (0, .ofNat 0, .ofNat 6560)) (y := s0) (hIv _ (.head _)) rfl
  have hFc : ∀ q ∈ ([(199, [(.ofNat 0, [(.ofNat 1, 0)]), (.ofNat 7, [])])] : List sFc), fcOk fFS [s0] hp q := hH.2
  have f0 : (7 : Int) = dp s0 + 1 := fcX (ys := [s0, 7]) (hFc _ (.head _)) ⟨sE_V rfl, sE_k _ _, trivial⟩
  have u : s0 < 729 := dp_lm 6 (by decide) (by omega) (by omega)
  exact poX (.head _) rfl hR (all_cons (ivO (y := s0) rfl (show (0 : Int) ≤ s0 by omega) (show s0 ≤ (728 : Int) by omega)) (all_nil)) (all_nil) (all_nil)
theorem rl349 : ruOk fFS gR349 := by
  intro r hp hO hN hH
  obtain ⟨s0, s1, s2, s3, s4, s5, s6, s7, s8, rfl⟩ := len9 (show r.length = 9 from hN.1)
  have hR := hN.2.1.1
  have hIv : ∀ q ∈ ([(0, .negSucc 2147483647, .ofNat 2147483647), (1, .ofNat 0, .ofNat 0), (2, .ofNat 0, .ofNat 19), (3, .ofNat 0, .ofNat 6560), (4, .ofNat 3, .ofNat 3), (5, .negSucc 2147483647, .ofNat 2147483647), (6, .negSucc 2147483647, .ofNat 2147483647), (7, .ofNat 40, .ofNat 40), (8, .negSucc 2147483647, .ofNat 2147483647)] : sIv), ∃ x, ([s0, s1, s2, s3, s4, s5, s6, s7, s8] : List Int)[q.1]? = some x ∧ q.2.1 ≤ x ∧ x ≤ q.2.2 := hN.2.1.2
  have b1 : (0 : Int) ≤ s1 ∧ s1 ≤ (0 : Int) := ivX (q := (1, .ofNat 0, .ofNat 0)) (y := s1) (hIv _ (.tail _ (.head _))) rfl
  have b2 : (0 : Int) ≤ s2 ∧ s2 ≤ (19 : Int) := ivX (q := (2, .ofNat 0, .ofNat 19)) (y := s2) (hIv _ (.tail _ (.tail _ (.head _)))) rfl
  have b3 : (0 : Int) ≤ s3 ∧ s3 ≤ (6560 : Int) := ivX (q := (3, .ofNat 0, .ofNat 6560)) (y := s3) (hIv _ (.tail _ (.tail _ (.tail _ (.head _))))) rfl
  have b4 : (3 : Int) ≤ s4 ∧ s4 ≤ (3 : Int) := ivX (q := (4, .ofNat 3, .ofNat 3)) (y := s4) (hIv _ (.tail _ (.tail _ (.tail _ (.tail _ (.head _)))))) rfl
  have b7 : (40 : Int) ≤ s7 ∧ s7 ≤ (40 : Int) := ivX (q := (7, .ofNat 40, .ofNat 40)) (y := s7) (hIv _ (.tail _ (.tail _ (.tail _ (.tail _ (.tail _ (.tail _ (.tail _ (.head _))))))))) rfl
  have hRf : ∀ q ∈ ([((40, .ofNat 173, []), (.ofNat 9, []), 1, .ofNat 0, [])] : List sRf), rfOk [s0, s1, s2, s3, s4, s5, s6, s7, s8] hp q := hH.1
  have h0 : hI hp 173 9 = 0 := rfI0 (hRf _ (.head _)) (sE_k _ _) (sE_k _ _) (sE_k _ _)
  have hFc : ∀ q ∈ ([(192, [(.ofNat 0, [(.ofNat 1, 0)]), (.ofNat 0, [(.ofNat 1, 1)]), (.ofNat 0, [(.ofNat 1, 2)]), (.ofNat 0, [(.ofNat 1, 3)]), (.ofNat 0, [(.ofNat 1, 4)]), (.ofNat 0, [(.ofNat 1, 5)]), (.ofNat 0, [(.ofNat 1, 6)]), (.ofNat 0, [(.ofNat 1, 7)])]), (199, [(.ofNat 0, [(.ofNat 1, 3)]), (.ofNat 7, [])]), (200, [(.ofNat 0, [(.ofNat 1, 3)]), (.ofNat 0, [(.ofNat 1, 8)])])] : List sFc), fcOk fFS [s0, s1, s2, s3, s4, s5, s6, s7, s8] hp q := hH.2
  have f0 : SHq (XT hp) (nmR hp (xnm hp)) s0 s1 s2 s3 s4 s5 s6 s7 ∧ s4 ≠ 4 := fcX (ys := [s0, s1, s2, s3, s4, s5, s6, s7]) (hFc _ (.head _)) ⟨sE_V rfl, sE_V rfl, sE_V rfl, sE_V rfl, sE_V rfl, sE_V rfl, sE_V rfl, sE_V rfl, trivial⟩
  have f1 : (7 : Int) = dp s3 + 1 := fcX (ys := [s3, 7]) (hFc _ (.tail _ (.head _))) ⟨sE_V rfl, sE_k _ _, trivial⟩
  have f2 : s8 = nr s3 := fcX (ys := [s3, s8]) (hFc _ (.tail _ (.tail _ (.head _)))) ⟨sE_V rfl, sE_V rfl, trivial⟩
  have ud : dp s3 ≤ 7 := by omega
  have ut := dp_lt (t := s3) (by omega) ud
  exact poX (.head _) rfl hR (all_nil) (all_nil) (all_cons ⟨[s6, 0, (s2 + 1), (3 * s3 + 2)], ⟨sE_V rfl, sE_k _ _, sEv (y' := ((1 : Int) + ((1 : Int) * s2 + 0))) rfl (by omega), sEv (y' := ((2 : Int) + ((3 : Int) * s3 + 0))) rfl (by omega), trivial⟩, (show SG (XT hp) (nmR hp (xnm hp)) s6 (0 : Int) (s2 + 1) (3 * s3 + 2) from s0_open f0.1 (by omega) (by omega) (by omega) (by omega) ud)⟩ (all_cons ⟨[(3 * s3 + 2), 8], ⟨sEv (y' := ((2 : Int) + ((3 : Int) * s3 + 0))) rfl (by omega), sE_k _ _, trivial⟩, (show (8 : Int) = dp (3 * s3 + 2) + 1 from dp_32 (t := s3) (by omega) (by omega) f1 (by omega) rfl)⟩ (all_cons ⟨[(3 * s3 + 2)], ⟨sEv (y' := ((2 : Int) + ((3 : Int) * s3 + 0))) rfl (by omega), trivial⟩, (show nr (3 * s3 + 2) = (3 * s3 + 2) from nr_32)⟩ (all_nil))))
theorem rl350 : ruOk fFS gR350 := by
  intro r hp hO hN hH
  obtain ⟨s0, rfl⟩ := len1 (show r.length = 1 from hN.1)
  have hR := hN.2.1.1
  have hIv : ∀ q ∈ ([(0, .ofNat 0, .ofNat 6560)] : sIv), ∃ x, ([s0] : List Int)[q.1]? = some x ∧ q.2.1 ≤ x ∧ x ≤ q.2.2 := hN.2.1.2
  have b0 : (0 : Int) ≤ s0 ∧ s0 ≤ (6560 : Int) := ivX (q := (0, .ofNat 0, .ofNat 6560)) (y := s0) (hIv _ (.head _)) rfl
  have hFc : ∀ q ∈ ([(199, [(.ofNat 0, [(.ofNat 1, 0)]), (.ofNat 8, [])])] : List sFc), fcOk fFS [s0] hp q := hH.2
  have f0 : (8 : Int) = dp s0 + 1 := fcX (ys := [s0, 8]) (hFc _ (.head _)) ⟨sE_V rfl, sE_k _ _, trivial⟩
  have u : s0 < 2187 := dp_lm 7 (by decide) (by omega) (by omega)
  exact poX (.head _) rfl hR (all_cons (ivO (y := s0) rfl (show (0 : Int) ≤ s0 by omega) (show s0 ≤ (2186 : Int) by omega)) (all_nil)) (all_nil) (all_nil)
theorem rl351 : ruOk fFS gR351 := by
  intro r hp hO hN hH
  obtain ⟨s0, s1, s2, s3, s4, s5, s6, s7, s8, rfl⟩ := len9 (show r.length = 9 from hN.1)
  have hR := hN.2.1.1
  have hIv : ∀ q ∈ ([(0, .negSucc 2147483647, .ofNat 2147483647), (1, .ofNat 0, .ofNat 0), (2, .ofNat 0, .ofNat 19), (3, .ofNat 0, .ofNat 6560), (4, .ofNat 3, .ofNat 3), (5, .negSucc 2147483647, .ofNat 2147483647), (6, .negSucc 2147483647, .ofNat 2147483647), (7, .ofNat 40, .ofNat 40), (8, .negSucc 2147483647, .ofNat 2147483647)] : sIv), ∃ x, ([s0, s1, s2, s3, s4, s5, s6, s7, s8] : List Int)[q.1]? = some x ∧ q.2.1 ≤ x ∧ x ≤ q.2.2 := hN.2.1.2
  have b1 : (0 : Int) ≤ s1 ∧ s1 ≤ (0 : Int) := ivX (q := (1, .ofNat 0, .ofNat 0)) (y := s1) (hIv _ (.tail _ (.head _))) rfl
  have b2 : (0 : Int) ≤ s2 ∧ s2 ≤ (19 : Int) := ivX (q := (2, .ofNat 0, .ofNat 19)) (y := s2) (hIv _ (.tail _ (.tail _ (.head _)))) rfl
  have b3 : (0 : Int) ≤ s3 ∧ s3 ≤ (6560 : Int) := ivX (q := (3, .ofNat 0, .ofNat 6560)) (y := s3) (hIv _ (.tail _ (.tail _ (.tail _ (.head _))))) rfl
  have b4 : (3 : Int) ≤ s4 ∧ s4 ≤ (3 : Int) := ivX (q := (4, .ofNat 3, .ofNat 3)) (y := s4) (hIv _ (.tail _ (.tail _ (.tail _ (.tail _ (.head _)))))) rfl
  have b7 : (40 : Int) ≤ s7 ∧ s7 ≤ (40 : Int) := ivX (q := (7, .ofNat 40, .ofNat 40)) (y := s7) (hIv _ (.tail _ (.tail _ (.tail _ (.tail _ (.tail _ (.tail _ (.tail _ (.head _))))))))) rfl
  have hRf : ∀ q ∈ ([((40, .ofNat 173, []), (.ofNat 9, []), 1, .ofNat 0, [])] : List sRf), rfOk [s0, s1, s2, s3, s4, s5, s6, s7, s8] hp q := hH.1
  have h0 : hI hp 173 9 = 0 := rfI0 (hRf _ (.head _)) (sE_k _ _) (sE_k _ _) (sE_k _ _)
  have hFc : ∀ q ∈ ([(192, [(.ofNat 0, [(.ofNat 1, 0)]), (.ofNat 0, [(.ofNat 1, 1)]), (.ofNat 0, [(.ofNat 1, 2)]), (.ofNat 0, [(.ofNat 1, 3)]), (.ofNat 0, [(.ofNat 1, 4)]), (.ofNat 0, [(.ofNat 1, 5)]), (.ofNat 0, [(.ofNat 1, 6)]), (.ofNat 0, [(.ofNat 1, 7)])]), (199, [(.ofNat 0, [(.ofNat 1, 3)]), (.ofNat 8, [])]), (200, [(.ofNat 0, [(.ofNat 1, 3)]), (.ofNat 0, [(.ofNat 1, 8)])])] : List sFc), fcOk fFS [s0, s1, s2, s3, s4, s5, s6, s7, s8] hp q := hH.2
  have f0 : SHq (XT hp) (nmR hp (xnm hp)) s0 s1 s2 s3 s4 s5 s6 s7 ∧ s4 ≠ 4 := fcX (ys := [s0, s1, s2, s3, s4, s5, s6, s7]) (hFc _ (.head _)) ⟨sE_V rfl, sE_V rfl, sE_V rfl, sE_V rfl, sE_V rfl, sE_V rfl, sE_V rfl, sE_V rfl, trivial⟩
  have f1 : (8 : Int) = dp s3 + 1 := fcX (ys := [s3, 8]) (hFc _ (.tail _ (.head _))) ⟨sE_V rfl, sE_k _ _, trivial⟩
  have f2 : s8 = nr s3 := fcX (ys := [s3, s8]) (hFc _ (.tail _ (.tail _ (.head _)))) ⟨sE_V rfl, sE_V rfl, trivial⟩
  have ud : dp s3 ≤ 7 := by omega
  have ut := dp_lt (t := s3) (by omega) ud
  exact poX (.head _) rfl hR (all_nil) (all_nil) (all_cons ⟨[s6, 0, (s2 + 1), (3 * s3 + 2)], ⟨sE_V rfl, sE_k _ _, sEv (y' := ((1 : Int) + ((1 : Int) * s2 + 0))) rfl (by omega), sEv (y' := ((2 : Int) + ((3 : Int) * s3 + 0))) rfl (by omega), trivial⟩, (show SG (XT hp) (nmR hp (xnm hp)) s6 (0 : Int) (s2 + 1) (3 * s3 + 2) from s0_open f0.1 (by omega) (by omega) (by omega) (by omega) ud)⟩ (all_cons ⟨[(3 * s3 + 2), 9], ⟨sEv (y' := ((2 : Int) + ((3 : Int) * s3 + 0))) rfl (by omega), sE_k _ _, trivial⟩, (show (9 : Int) = dp (3 * s3 + 2) + 1 from dp_32 (t := s3) (by omega) (by omega) f1 (by omega) rfl)⟩ (all_cons ⟨[(3 * s3 + 2)], ⟨sEv (y' := ((2 : Int) + ((3 : Int) * s3 + 0))) rfl (by omega), trivial⟩, (show nr (3 * s3 + 2) = (3 * s3 + 2) from nr_32)⟩ (all_nil))))
theorem rl352 : ruOk fFS gR352 := by
  intro r hp hO hN hH
  obtain ⟨s0, s1, s2, s3, s4, s5, s6, s7, rfl⟩ := len8 (show r.length = 8 from hN.1)
  have hR := hN.2.1.1
  have hIv : ∀ q ∈ ([(0, .negSucc 2147483647, .ofNat 2147483647), (1, .ofNat 0, .ofNat 0), (2, .ofNat 20, .ofNat 20), (3, .negSucc 2147483647, .ofNat 2147483647), (4, .ofNat 3, .ofNat 3), (5, .negSucc 2147483647, .ofNat 2147483647), (6, .negSucc 2147483647, .ofNat 2147483647), (7, .ofNat 40, .ofNat 40)] : sIv), ∃ x, ([s0, s1, s2, s3, s4, s5, s6, s7] : List Int)[q.1]? = some x ∧ q.2.1 ≤ x ∧ x ≤ q.2.2 := hN.2.1.2
  have b1 : (0 : Int) ≤ s1 ∧ s1 ≤ (0 : Int) := ivX (q := (1, .ofNat 0, .ofNat 0)) (y := s1) (hIv _ (.tail _ (.head _))) rfl
  have b2 : (20 : Int) ≤ s2 ∧ s2 ≤ (20 : Int) := ivX (q := (2, .ofNat 20, .ofNat 20)) (y := s2) (hIv _ (.tail _ (.tail _ (.head _)))) rfl
  have b4 : (3 : Int) ≤ s4 ∧ s4 ≤ (3 : Int) := ivX (q := (4, .ofNat 3, .ofNat 3)) (y := s4) (hIv _ (.tail _ (.tail _ (.tail _ (.tail _ (.head _)))))) rfl
  have b7 : (40 : Int) ≤ s7 ∧ s7 ≤ (40 : Int) := ivX (q := (7, .ofNat 40, .ofNat 40)) (y := s7) (hIv _ (.tail _ (.tail _ (.tail _ (.tail _ (.tail _ (.tail _ (.tail _ (.head _))))))))) rfl
  have hRf : ∀ q ∈ ([((40, .ofNat 173, []), (.ofNat 9, []), 1, .ofNat 0, [])] : List sRf), rfOk [s0, s1, s2, s3, s4, s5, s6, s7] hp q := hH.1
  have h0 : hI hp 173 9 = 0 := rfI0 (hRf _ (.head _)) (sE_k _ _) (sE_k _ _) (sE_k _ _)
  have hFc : ∀ q ∈ ([(192, [(.ofNat 0, [(.ofNat 1, 0)]), (.ofNat 0, [(.ofNat 1, 1)]), (.ofNat 0, [(.ofNat 1, 2)]), (.ofNat 0, [(.ofNat 1, 3)]), (.ofNat 0, [(.ofNat 1, 4)]), (.ofNat 0, [(.ofNat 1, 5)]), (.ofNat 0, [(.ofNat 1, 6)]), (.ofNat 0, [(.ofNat 1, 7)])])] : List sFc), fcOk fFS [s0, s1, s2, s3, s4, s5, s6, s7] hp q := hH.2
  have f0 : SHq (XT hp) (nmR hp (xnm hp)) s0 s1 s2 s3 s4 s5 s6 s7 ∧ s4 ≠ 4 := fcX (ys := [s0, s1, s2, s3, s4, s5, s6, s7]) (hFc _ (.head _)) ⟨sE_V rfl, sE_V rfl, sE_V rfl, sE_V rfl, sE_V rfl, sE_V rfl, sE_V rfl, sE_V rfl, trivial⟩
  exact poX (.head _) rfl hR (all_nil) (all_nil) (all_cons ⟨[4, s5], ⟨sE_k _ _, sE_V rfl, trivial⟩, (show SRS (XT hp) (nmR hp (xnm hp)) (4 : Int) s5 from s0_f4 f0.1 (by omega) (by omega) (by omega))⟩ (all_nil))
theorem rl353 : ruOk fFS gR353 := by
  intro r hp hO hN hH
  obtain ⟨s0, s1, s2, s3, s4, s5, s6, s7, rfl⟩ := len8 (show r.length = 8 from hN.1)
  have hR := hN.2.1.1
  have hIv : ∀ q ∈ ([(0, .negSucc 2147483647, .ofNat 2147483647), (1, .ofNat 0, .ofNat 0), (2, .ofNat 20, .ofNat 20), (3, .negSucc 2147483647, .ofNat 2147483647), (4, .ofNat 1, .ofNat 1), (5, .negSucc 2147483647, .ofNat 2147483647), (6, .negSucc 2147483647, .ofNat 2147483647), (7, .ofNat 13, .ofNat 13)] : sIv), ∃ x, ([s0, s1, s2, s3, s4, s5, s6, s7] : List Int)[q.1]? = some x ∧ q.2.1 ≤ x ∧ x ≤ q.2.2 := hN.2.1.2
  have b1 : (0 : Int) ≤ s1 ∧ s1 ≤ (0 : Int) := ivX (q := (1, .ofNat 0, .ofNat 0)) (y := s1) (hIv _ (.tail _ (.head _))) rfl
  have b2 : (20 : Int) ≤ s2 ∧ s2 ≤ (20 : Int) := ivX (q := (2, .ofNat 20, .ofNat 20)) (y := s2) (hIv _ (.tail _ (.tail _ (.head _)))) rfl
  have b4 : (1 : Int) ≤ s4 ∧ s4 ≤ (1 : Int) := ivX (q := (4, .ofNat 1, .ofNat 1)) (y := s4) (hIv _ (.tail _ (.tail _ (.tail _ (.tail _ (.head _)))))) rfl
  have b7 : (13 : Int) ≤ s7 ∧ s7 ≤ (13 : Int) := ivX (q := (7, .ofNat 13, .ofNat 13)) (y := s7) (hIv _ (.tail _ (.tail _ (.tail _ (.tail _ (.tail _ (.tail _ (.tail _ (.head _))))))))) rfl
  have hRf : ∀ q ∈ ([((40, .ofNat 173, []), (.ofNat 9, []), 1, .ofNat 0, [])] : List sRf), rfOk [s0, s1, s2, s3, s4, s5, s6, s7] hp q := hH.1
  have h0 : hI hp 173 9 = 0 := rfI0 (hRf _ (.head _)) (sE_k _ _) (sE_k _ _) (sE_k _ _)
  have hFc : ∀ q ∈ ([(192, [(.ofNat 0, [(.ofNat 1, 0)]), (.ofNat 0, [(.ofNat 1, 1)]), (.ofNat 0, [(.ofNat 1, 2)]), (.ofNat 0, [(.ofNat 1, 3)]), (.ofNat 0, [(.ofNat 1, 4)]), (.ofNat 0, [(.ofNat 1, 5)]), (.ofNat 0, [(.ofNat 1, 6)]), (.ofNat 0, [(.ofNat 1, 7)])])] : List sFc), fcOk fFS [s0, s1, s2, s3, s4, s5, s6, s7] hp q := hH.2
  have f0 : SHq (XT hp) (nmR hp (xnm hp)) s0 s1 s2 s3 s4 s5 s6 s7 ∧ s4 ≠ 4 := fcX (ys := [s0, s1, s2, s3, s4, s5, s6, s7]) (hFc _ (.head _)) ⟨sE_V rfl, sE_V rfl, sE_V rfl, sE_V rfl, sE_V rfl, sE_V rfl, sE_V rfl, sE_V rfl, trivial⟩
  exact poX (.head _) rfl hR (all_nil) (all_nil) (all_cons ⟨[4, s5], ⟨sE_k _ _, sE_V rfl, trivial⟩, (show SRS (XT hp) (nmR hp (xnm hp)) (4 : Int) s5 from s0_f4 f0.1 (by omega) (by omega) (by omega))⟩ (all_nil))
theorem rl354 : ruOk fFS gR354 := by
  intro r hp hO hN hH
  obtain ⟨s0, s1, s2, s3, s4, s5, s6, s7, rfl⟩ := len8 (show r.length = 8 from hN.1)
  have hR := hN.2.1.1
  have hIv : ∀ q ∈ ([(0, .negSucc 2147483647, .ofNat 2147483647), (1, .ofNat 0, .ofNat 0), (2, .ofNat 20, .ofNat 20), (3, .negSucc 2147483647, .ofNat 2147483647), (4, .ofNat 1, .ofNat 1), (5, .negSucc 2147483647, .ofNat 2147483647), (6, .negSucc 2147483647, .ofNat 2147483647), (7, .ofNat 21, .ofNat 29)] : sIv), ∃ x, ([s0, s1, s2, s3, s4, s5, s6, s7] : List Int)[q.1]? = some x ∧ q.2.1 ≤ x ∧ x ≤ q.2.2 := hN.2.1.2
  have b1 : (0 : Int) ≤ s1 ∧ s1 ≤ (0 : Int) := ivX (q := (1, .ofNat 0, .ofNat 0)) (y := s1) (hIv _ (.tail _ (.head _))) rfl
  have b2 : (20 : Int) ≤ s2 ∧ s2 ≤ (20 : Int) := ivX (q := (2, .ofNat 20, .ofNat 20)) (y := s2) (hIv _ (.tail _ (.tail _ (.head _)))) rfl
  have b4 : (1 : Int) ≤ s4 ∧ s4 ≤ (1 : Int) := ivX (q := (4, .ofNat 1, .ofNat 1)) (y := s4) (hIv _ (.tail _ (.tail _ (.tail _ (.tail _ (.head _)))))) rfl
  have b7 : (21 : Int) ≤ s7 ∧ s7 ≤ (29 : Int) := ivX (q := (7, .ofNat 21, .ofNat 29)) (y := s7) (hIv _ (.tail _ (.tail _ (.tail _ (.tail _ (.tail _ (.tail _ (.tail _ (.head _))))))))) rfl
  have hRf : ∀ q ∈ ([((40, .ofNat 173, []), (.ofNat 9, []), 1, .ofNat 0, [])] : List sRf), rfOk [s0, s1, s2, s3, s4, s5, s6, s7] hp q := hH.1
  have h0 : hI hp 173 9 = 0 := rfI0 (hRf _ (.head _)) (sE_k _ _) (sE_k _ _) (sE_k _ _)
  have hFc : ∀ q ∈ ([(192, [(.ofNat 0, [(.ofNat 1, 0)]), (.ofNat 0, [(.ofNat 1, 1)]), (.ofNat 0, [(.ofNat 1, 2)]), (.ofNat 0, [(.ofNat 1, 3)]), (.ofNat 0, [(.ofNat 1, 4)]), (.ofNat 0, [(.ofNat 1, 5)]), (.ofNat 0, [(.ofNat 1, 6)]), (.ofNat 0, [(.ofNat 1, 7)])])] : List sFc), fcOk fFS [s0, s1, s2, s3, s4, s5, s6, s7] hp q := hH.2
  have f0 : SHq (XT hp) (nmR hp (xnm hp)) s0 s1 s2 s3 s4 s5 s6 s7 ∧ s4 ≠ 4 := fcX (ys := [s0, s1, s2, s3, s4, s5, s6, s7]) (hFc _ (.head _)) ⟨sE_V rfl, sE_V rfl, sE_V rfl, sE_V rfl, sE_V rfl, sE_V rfl, sE_V rfl, sE_V rfl, trivial⟩
  exact poX (.head _) rfl hR (all_nil) (all_nil) (all_cons ⟨[4, s5], ⟨sE_k _ _, sE_V rfl, trivial⟩, (show SRS (XT hp) (nmR hp (xnm hp)) (4 : Int) s5 from s0_f4 f0.1 (by omega) (by omega) (by omega))⟩ (all_nil))
theorem rl355 : ruOk fFS gR355 := by
  intro r hp hO hN hH
  obtain ⟨s0, s1, s2, s3, s4, s5, s6, s7, rfl⟩ := len8 (show r.length = 8 from hN.1)
  have hR := hN.2.1.1
  have hIv : ∀ q ∈ ([(0, .negSucc 2147483647, .ofNat 2147483647), (1, .ofNat 0, .ofNat 0), (2, .negSucc 2147483647, .ofNat 2147483647), (3, .negSucc 2147483647, .ofNat 2147483647), (4, .ofNat 3, .ofNat 3), (5, .negSucc 2147483647, .ofNat 2147483647), (6, .negSucc 2147483647, .ofNat 2147483647), (7, .ofNat 40, .ofNat 40)] : sIv), ∃ x, ([s0, s1, s2, s3, s4, s5, s6, s7] : List Int)[q.1]? = some x ∧ q.2.1 ≤ x ∧ x ≤ q.2.2 := hN.2.1.2
  have b1 : (0 : Int) ≤ s1 ∧ s1 ≤ (0 : Int) := ivX (q := (1, .ofNat 0, .ofNat 0)) (y := s1) (hIv _ (.tail _ (.head _))) rfl
  have b4 : (3 : Int) ≤ s4 ∧ s4 ≤ (3 : Int) := ivX (q := (4, .ofNat 3, .ofNat 3)) (y := s4) (hIv _ (.tail _ (.tail _ (.tail _ (.tail _ (.head _)))))) rfl
  have b7 : (40 : Int) ≤ s7 ∧ s7 ≤ (40 : Int) := ivX (q := (7, .ofNat 40, .ofNat 40)) (y := s7) (hIv _ (.tail _ (.tail _ (.tail _ (.tail _ (.tail _ (.tail _ (.tail _ (.head _))))))))) rfl
  have hRf : ∀ q ∈ ([((40, .ofNat 173, []), (.ofNat 9, []), 1, .ofNat 0, [])] : List sRf), rfOk [s0, s1, s2, s3, s4, s5, s6, s7] hp q := hH.1
  have h0 : hI hp 173 9 = 0 := rfI0 (hRf _ (.head _)) (sE_k _ _) (sE_k _ _) (sE_k _ _)
  have hFc : ∀ q ∈ ([(192, [(.ofNat 0, [(.ofNat 1, 0)]), (.ofNat 0, [(.ofNat 1, 1)]), (.ofNat 0, [(.ofNat 1, 2)]), (.ofNat 0, [(.ofNat 1, 3)]), (.ofNat 0, [(.ofNat 1, 4)]), (.ofNat 0, [(.ofNat 1, 5)]), (.ofNat 0, [(.ofNat 1, 6)]), (.ofNat 0, [(.ofNat 1, 7)])]), (199, [(.ofNat 0, [(.ofNat 1, 3)]), (.ofNat 9, [])])] : List sFc), fcOk fFS [s0, s1, s2, s3, s4, s5, s6, s7] hp q := hH.2
  have f0 : SHq (XT hp) (nmR hp (xnm hp)) s0 s1 s2 s3 s4 s5 s6 s7 ∧ s4 ≠ 4 := fcX (ys := [s0, s1, s2, s3, s4, s5, s6, s7]) (hFc _ (.head _)) ⟨sE_V rfl, sE_V rfl, sE_V rfl, sE_V rfl, sE_V rfl, sE_V rfl, sE_V rfl, sE_V rfl, trivial⟩
  have f1 : (9 : Int) = dp s3 + 1 := fcX (ys := [s3, 9]) (hFc _ (.tail _ (.head _))) ⟨sE_V rfl, sE_k _ _, trivial⟩
  exact poX (.head _) rfl hR (all_nil) (all_nil) (all_cons ⟨[4, s5], ⟨sE_k _ _, sE_V rfl, trivial⟩, (show SRS (XT hp) (nmR hp (xnm hp)) (4 : Int) s5 from s0_f4 f0.1 (by omega) (by omega) (by omega))⟩ (all_nil))
theorem rl356 : ruOk fFS gR356 := by
  intro r hp hO hN hH
  obtain ⟨s0, s1, s2, s3, s4, s5, s6, s7, rfl⟩ := len8 (show r.length = 8 from hN.1)
  have hR := hN.2.1.1
  have hIv : ∀ q ∈ ([(0, .negSucc 2147483647, .ofNat 2147483647), (1, .ofNat 0, .ofNat 0), (2, .negSucc 2147483647, .ofNat 2147483647), (3, .negSucc 2147483647, .ofNat 2147483647), (4, .ofNat 3, .ofNat 3), (5, .negSucc 2147483647, .ofNat 2147483647), (6, .negSucc 2147483647, .ofNat 2147483647), (7, .ofNat 41, .ofNat 2147483647)] : sIv), ∃ x, ([s0, s1, s2, s3, s4, s5, s6, s7] : List Int)[q.1]? = some x ∧ q.2.1 ≤ x ∧ x ≤ q.2.2 := hN.2.1.2
  have b1 : (0 : Int) ≤ s1 ∧ s1 ≤ (0 : Int) := ivX (q := (1, .ofNat 0, .ofNat 0)) (y := s1) (hIv _ (.tail _ (.head _))) rfl
  have b4 : (3 : Int) ≤ s4 ∧ s4 ≤ (3 : Int) := ivX (q := (4, .ofNat 3, .ofNat 3)) (y := s4) (hIv _ (.tail _ (.tail _ (.tail _ (.tail _ (.head _)))))) rfl
  have b7 : (41 : Int) ≤ s7 ∧ s7 ≤ (2147483647 : Int) := ivX (q := (7, .ofNat 41, .ofNat 2147483647)) (y := s7) (hIv _ (.tail _ (.tail _ (.tail _ (.tail _ (.tail _ (.tail _ (.tail _ (.head _))))))))) rfl
  have hRf : ∀ q ∈ ([((40, .ofNat 173, []), (.ofNat 9, []), 1, .ofNat 0, [])] : List sRf), rfOk [s0, s1, s2, s3, s4, s5, s6, s7] hp q := hH.1
  have h0 : hI hp 173 9 = 0 := rfI0 (hRf _ (.head _)) (sE_k _ _) (sE_k _ _) (sE_k _ _)
  have hFc : ∀ q ∈ ([(192, [(.ofNat 0, [(.ofNat 1, 0)]), (.ofNat 0, [(.ofNat 1, 1)]), (.ofNat 0, [(.ofNat 1, 2)]), (.ofNat 0, [(.ofNat 1, 3)]), (.ofNat 0, [(.ofNat 1, 4)]), (.ofNat 0, [(.ofNat 1, 5)]), (.ofNat 0, [(.ofNat 1, 6)]), (.ofNat 0, [(.ofNat 1, 7)])])] : List sFc), fcOk fFS [s0, s1, s2, s3, s4, s5, s6, s7] hp q := hH.2
  have f0 : SHq (XT hp) (nmR hp (xnm hp)) s0 s1 s2 s3 s4 s5 s6 s7 ∧ s4 ≠ 4 := fcX (ys := [s0, s1, s2, s3, s4, s5, s6, s7]) (hFc _ (.head _)) ⟨sE_V rfl, sE_V rfl, sE_V rfl, sE_V rfl, sE_V rfl, sE_V rfl, sE_V rfl, sE_V rfl, trivial⟩
  exact poX (.head _) rfl hR (all_nil) (all_nil) (all_cons ⟨[1, s5], ⟨sE_k _ _, sE_V rfl, trivial⟩, (show SRS (XT hp) (nmR hp (xnm hp)) (1 : Int) s5 from s0_f1 f0.1 (by omega) (by omega) (by omega))⟩ (all_nil))
theorem rl357 : ruOk fFS gR357 := by
  intro r hp hO hN hH
  obtain ⟨s0, s1, s2, s3, s4, s5, s6, s7, rfl⟩ := len8 (show r.length = 8 from hN.1)
  have hR := hN.2.1.1
  have hIv : ∀ q ∈ ([(0, .negSucc 2147483647, .ofNat 2147483647), (1, .ofNat 0, .ofNat 0), (2, .negSucc 2147483647, .ofNat 2147483647), (3, .negSucc 2147483647, .ofNat 2147483647), (4, .ofNat 1, .ofNat 1), (5, .negSucc 2147483647, .ofNat 2147483647), (6, .negSucc 2147483647, .ofNat 2147483647), (7, .ofNat 13, .ofNat 13)] : sIv), ∃ x, ([s0, s1, s2, s3, s4, s5, s6, s7] : List Int)[q.1]? = some x ∧ q.2.1 ≤ x ∧ x ≤ q.2.2 := hN.2.1.2
  have b1 : (0 : Int) ≤ s1 ∧ s1 ≤ (0 : Int) := ivX (q := (1, .ofNat 0, .ofNat 0)) (y := s1) (hIv _ (.tail _ (.head _))) rfl
  have b4 : (1 : Int) ≤ s4 ∧ s4 ≤ (1 : Int) := ivX (q := (4, .ofNat 1, .ofNat 1)) (y := s4) (hIv _ (.tail _ (.tail _ (.tail _ (.tail _ (.head _)))))) rfl
  have b7 : (13 : Int) ≤ s7 ∧ s7 ≤ (13 : Int) := ivX (q := (7, .ofNat 13, .ofNat 13)) (y := s7) (hIv _ (.tail _ (.tail _ (.tail _ (.tail _ (.tail _ (.tail _ (.tail _ (.head _))))))))) rfl
  have hRf : ∀ q ∈ ([((40, .ofNat 173, []), (.ofNat 9, []), 1, .ofNat 0, [])] : List sRf), rfOk [s0, s1, s2, s3, s4, s5, s6, s7] hp q := hH.1
  have h0 : hI hp 173 9 = 0 := rfI0 (hRf _ (.head _)) (sE_k _ _) (sE_k _ _) (sE_k _ _)
  have hFc : ∀ q ∈ ([(192, [(.ofNat 0, [(.ofNat 1, 0)]), (.ofNat 0, [(.ofNat 1, 1)]), (.ofNat 0, [(.ofNat 1, 2)]), (.ofNat 0, [(.ofNat 1, 3)]), (.ofNat 0, [(.ofNat 1, 4)]), (.ofNat 0, [(.ofNat 1, 5)]), (.ofNat 0, [(.ofNat 1, 6)]), (.ofNat 0, [(.ofNat 1, 7)])]), (199, [(.ofNat 0, [(.ofNat 1, 3)]), (.ofNat 9, [])])] : List sFc), fcOk fFS [s0, s1, s2, s3, s4, s5, s6, s7] hp q := hH.2
  have f0 : SHq (XT hp) (nmR hp (xnm hp)) s0 s1 s2 s3 s4 s5 s6 s7 ∧ s4 ≠ 4 := fcX (ys := [s0, s1, s2, s3, s4, s5, s6, s7]) (hFc _ (.head _)) ⟨sE_V rfl, sE_V rfl, sE_V rfl, sE_V rfl, sE_V rfl, sE_V rfl, sE_V rfl, sE_V rfl, trivial⟩
  have f1 : (9 : Int) = dp s3 + 1 := fcX (ys := [s3, 9]) (hFc _ (.tail _ (.head _))) ⟨sE_V rfl, sE_k _ _, trivial⟩
  exact poX (.head _) rfl hR (all_nil) (all_nil) (all_cons ⟨[4, s5], ⟨sE_k _ _, sE_V rfl, trivial⟩, (show SRS (XT hp) (nmR hp (xnm hp)) (4 : Int) s5 from s0_f4 f0.1 (by omega) (by omega) (by omega))⟩ (all_nil))
theorem rl358 : ruOk fFS gR358 := by
  intro r hp hO hN hH
  obtain ⟨s0, s1, s2, s3, s4, s5, s6, s7, rfl⟩ := len8 (show r.length = 8 from hN.1)
  have hR := hN.2.1.1
  have hIv : ∀ q ∈ ([(0, .negSucc 2147483647, .ofNat 2147483647), (1, .ofNat 0, .ofNat 0), (2, .negSucc 2147483647, .ofNat 2147483647), (3, .negSucc 2147483647, .ofNat 2147483647), (4, .ofNat 1, .ofNat 1), (5, .negSucc 2147483647, .ofNat 2147483647), (6, .negSucc 2147483647, .ofNat 2147483647), (7, .ofNat 21, .ofNat 29)] : sIv), ∃ x, ([s0, s1, s2, s3, s4, s5, s6, s7] : List Int)[q.1]? = some x ∧ q.2.1 ≤ x ∧ x ≤ q.2.2 := hN.2.1.2
  have b1 : (0 : Int) ≤ s1 ∧ s1 ≤ (0 : Int) := ivX (q := (1, .ofNat 0, .ofNat 0)) (y := s1) (hIv _ (.tail _ (.head _))) rfl
  have b4 : (1 : Int) ≤ s4 ∧ s4 ≤ (1 : Int) := ivX (q := (4, .ofNat 1, .ofNat 1)) (y := s4) (hIv _ (.tail _ (.tail _ (.tail _ (.tail _ (.head _)))))) rfl
  have b7 : (21 : Int) ≤ s7 ∧ s7 ≤ (29 : Int) := ivX (q := (7, .ofNat 21, .ofNat 29)) (y := s7) (hIv _ (.tail _ (.tail _ (.tail _ (.tail _ (.tail _ (.tail _ (.tail _ (.head _))))))))) rfl
  have hRf : ∀ q ∈ ([((40, .ofNat 173, []), (.ofNat 9, []), 1, .ofNat 0, [])] : List sRf), rfOk [s0, s1, s2, s3, s4, s5, s6, s7] hp q := hH.1
  have h0 : hI hp 173 9 = 0 := rfI0 (hRf _ (.head _)) (sE_k _ _) (sE_k _ _) (sE_k _ _)
  have hFc : ∀ q ∈ ([(192, [(.ofNat 0, [(.ofNat 1, 0)]), (.ofNat 0, [(.ofNat 1, 1)]), (.ofNat 0, [(.ofNat 1, 2)]), (.ofNat 0, [(.ofNat 1, 3)]), (.ofNat 0, [(.ofNat 1, 4)]), (.ofNat 0, [(.ofNat 1, 5)]), (.ofNat 0, [(.ofNat 1, 6)]), (.ofNat 0, [(.ofNat 1, 7)])]), (199, [(.ofNat 0, [(.ofNat 1, 3)]), (.ofNat 9, [])])] : List sFc), fcOk fFS [s0, s1, s2, s3, s4, s5, s6, s7] hp q := hH.2
  have f0 : SHq (XT hp) (nmR hp (xnm hp)) s0 s1 s2 s3 s4 s5 s6 s7 ∧ s4 ≠ 4 := fcX (ys := [s0, s1, s2, s3, s4, s5, s6, s7]) (hFc _ (.head _)) ⟨sE_V rfl, sE_V rfl, sE_V rfl, sE_V rfl, sE_V rfl, sE_V rfl, sE_V rfl, sE_V rfl, trivial⟩
  have f1 : (9 : Int) = dp s3 + 1 := fcX (ys := [s3, 9]) (hFc _ (.tail _ (.head _))) ⟨sE_V rfl, sE_k _ _, trivial⟩
  exact poX (.head _) rfl hR (all_nil) (all_nil) (all_cons ⟨[4, s5], ⟨sE_k _ _, sE_V rfl, trivial⟩, (show SRS (XT hp) (nmR hp (xnm hp)) (4 : Int) s5 from s0_f4 f0.1 (by omega) (by omega) (by omega))⟩ (all_nil))
theorem rl359 : ruOk fFS gR359 := by
  intro r hp hO hN hH
  obtain ⟨s0, s1, s2, s3, s4, s5, s6, s7, rfl⟩ := len8 (show r.length = 8 from hN.1)
  have hR := hN.2.1.1
  have hIv : ∀ q ∈ ([(0, .negSucc 2147483647, .ofNat 2147483647), (1, .ofNat 0, .ofNat 0), (2, .negSucc 2147483647, .ofNat 2147483647), (3, .negSucc 2147483647, .ofNat 2147483647), (4, .ofNat 1, .ofNat 1), (5, .negSucc 2147483647, .ofNat 2147483647), (6, .negSucc 2147483647, .ofNat 2147483647), (7, .negSucc 0, .ofNat 12)] : sIv), ∃ x, ([s0, s1, s2, s3, s4, s5, s6, s7] : List Int)[q.1]? = some x ∧ q.2.1 ≤ x ∧ x ≤ q.2.2 := hN.2.1.2
  have b1 : (0 : Int) ≤ s1 ∧ s1 ≤ (0 : Int) := ivX (q := (1, .ofNat 0, .ofNat 0)) (y := s1) (hIv _ (.tail _ (.head _))) rfl
  have b4 : (1 : Int) ≤ s4 ∧ s4 ≤ (1 : Int) := ivX (q := (4, .ofNat 1, .ofNat 1)) (y := s4) (hIv _ (.tail _ (.tail _ (.tail _ (.tail _ (.head _)))))) rfl
  have b7 : (-1 : Int) ≤ s7 ∧ s7 ≤ (12 : Int) := ivX (q := (7, .negSucc 0, .ofNat 12)) (y := s7) (hIv _ (.tail _ (.tail _ (.tail _ (.tail _ (.tail _ (.tail _ (.tail _ (.head _))))))))) rfl
  have hRf : ∀ q ∈ ([((40, .ofNat 173, []), (.ofNat 9, []), 1, .ofNat 0, [])] : List sRf), rfOk [s0, s1, s2, s3, s4, s5, s6, s7] hp q := hH.1
  have h0 : hI hp 173 9 = 0 := rfI0 (hRf _ (.head _)) (sE_k _ _) (sE_k _ _) (sE_k _ _)
  have hFc : ∀ q ∈ ([(192, [(.ofNat 0, [(.ofNat 1, 0)]), (.ofNat 0, [(.ofNat 1, 1)]), (.ofNat 0, [(.ofNat 1, 2)]), (.ofNat 0, [(.ofNat 1, 3)]), (.ofNat 0, [(.ofNat 1, 4)]), (.ofNat 0, [(.ofNat 1, 5)]), (.ofNat 0, [(.ofNat 1, 6)]), (.ofNat 0, [(.ofNat 1, 7)])])] : List sFc), fcOk fFS [s0, s1, s2, s3, s4, s5, s6, s7] hp q := hH.2
  have f0 : SHq (XT hp) (nmR hp (xnm hp)) s0 s1 s2 s3 s4 s5 s6 s7 ∧ s4 ≠ 4 := fcX (ys := [s0, s1, s2, s3, s4, s5, s6, s7]) (hFc _ (.head _)) ⟨sE_V rfl, sE_V rfl, sE_V rfl, sE_V rfl, sE_V rfl, sE_V rfl, sE_V rfl, sE_V rfl, trivial⟩
  exact poX (.head _) rfl hR (all_nil) (all_nil) (all_cons ⟨[1, s5], ⟨sE_k _ _, sE_V rfl, trivial⟩, (show SRS (XT hp) (nmR hp (xnm hp)) (1 : Int) s5 from s0_f1 f0.1 (by omega) (by omega) (by omega))⟩ (all_nil))
theorem rl360 : ruOk fFS gR360 := by
  intro r hp hO hN hH
  obtain ⟨s0, s1, s2, s3, s4, s5, s6, s7, rfl⟩ := len8 (show r.length = 8 from hN.1)
  have hR := hN.2.1.1
  have hIv : ∀ q ∈ ([(0, .negSucc 2147483647, .ofNat 2147483647), (1, .ofNat 0, .ofNat 0), (2, .negSucc 2147483647, .ofNat 2147483647), (3, .negSucc 2147483647, .ofNat 2147483647), (4, .ofNat 1, .ofNat 1), (5, .negSucc 2147483647, .ofNat 2147483647), (6, .negSucc 2147483647, .ofNat 2147483647), (7, .ofNat 14, .ofNat 20)] : sIv), ∃ x, ([s0, s1, s2, s3, s4, s5, s6, s7] : List Int)[q.1]? = some x ∧ q.2.1 ≤ x ∧ x ≤ q.2.2 := hN.2.1.2
  have b1 : (0 : Int) ≤ s1 ∧ s1 ≤ (0 : Int) := ivX (q := (1, .ofNat 0, .ofNat 0)) (y := s1) (hIv _ (.tail _ (.head _))) rfl
  have b4 : (1 : Int) ≤ s4 ∧ s4 ≤ (1 : Int) := ivX (q := (4, .ofNat 1, .ofNat 1)) (y := s4) (hIv _ (.tail _ (.tail _ (.tail _ (.tail _ (.head _)))))) rfl
  have b7 : (14 : Int) ≤ s7 ∧ s7 ≤ (20 : Int) := ivX (q := (7, .ofNat 14, .ofNat 20)) (y := s7) (hIv _ (.tail _ (.tail _ (.tail _ (.tail _ (.tail _ (.tail _ (.tail _ (.head _))))))))) rfl
  have hRf : ∀ q ∈ ([((40, .ofNat 173, []), (.ofNat 9, []), 1, .ofNat 0, [])] : List sRf), rfOk [s0, s1, s2, s3, s4, s5, s6, s7] hp q := hH.1
  have h0 : hI hp 173 9 = 0 := rfI0 (hRf _ (.head _)) (sE_k _ _) (sE_k _ _) (sE_k _ _)
  have hFc : ∀ q ∈ ([(192, [(.ofNat 0, [(.ofNat 1, 0)]), (.ofNat 0, [(.ofNat 1, 1)]), (.ofNat 0, [(.ofNat 1, 2)]), (.ofNat 0, [(.ofNat 1, 3)]), (.ofNat 0, [(.ofNat 1, 4)]), (.ofNat 0, [(.ofNat 1, 5)]), (.ofNat 0, [(.ofNat 1, 6)]), (.ofNat 0, [(.ofNat 1, 7)])])] : List sFc), fcOk fFS [s0, s1, s2, s3, s4, s5, s6, s7] hp q := hH.2
  have f0 : SHq (XT hp) (nmR hp (xnm hp)) s0 s1 s2 s3 s4 s5 s6 s7 ∧ s4 ≠ 4 := fcX (ys := [s0, s1, s2, s3, s4, s5, s6, s7]) (hFc _ (.head _)) ⟨sE_V rfl, sE_V rfl, sE_V rfl, sE_V rfl, sE_V rfl, sE_V rfl, sE_V rfl, sE_V rfl, trivial⟩
  exact poX (.head _) rfl hR (all_nil) (all_nil) (all_cons ⟨[1, s5], ⟨sE_k _ _, sE_V rfl, trivial⟩, (show SRS (XT hp) (nmR hp (xnm hp)) (1 : Int) s5 from s0_f1 f0.1 (by omega) (by omega) (by omega))⟩ (all_nil))
theorem rl361 : ruOk fFS gR361 := by
  intro r hp hO hN hH
  obtain ⟨s0, s1, s2, s3, s4, s5, s6, s7, rfl⟩ := len8 (show r.length = 8 from hN.1)
  have hR := hN.2.1.1
  have hIv : ∀ q ∈ ([(0, .negSucc 2147483647, .ofNat 2147483647), (1, .negSucc 2147483647, .ofNat 2147483647), (2, .negSucc 2147483647, .ofNat 2147483647), (3, .negSucc 2147483647, .ofNat 2147483647), (4, .negSucc 2147483647, .ofNat 2147483647), (5, .negSucc 2147483647, .ofNat 2147483647), (6, .negSucc 2147483647, .ofNat 2147483647), (7, .negSucc 2147483647, .ofNat 2147483647)] : sIv), ∃ x, ([s0, s1, s2, s3, s4, s5, s6, s7] : List Int)[q.1]? = some x ∧ q.2.1 ≤ x ∧ x ≤ q.2.2 := hN.2.1.2
  have b2 : (-2147483648 : Int) ≤ s2 ∧ s2 ≤ (2147483647 : Int) := ivX (q := (2, .negSucc 2147483647, .ofNat 2147483647)) (y := s2) (hIv _ (.tail _ (.tail _ (.head _)))) rfl
  have b3 : (-2147483648 : Int) ≤ s3 ∧ s3 ≤ (2147483647 : Int) := ivX (q := (3, .negSucc 2147483647, .ofNat 2147483647)) (y := s3) (hIv _ (.tail _ (.tail _ (.tail _ (.head _))))) rfl
  have b4 : (-2147483648 : Int) ≤ s4 ∧ s4 ≤ (2147483647 : Int) := ivX (q := (4, .negSucc 2147483647, .ofNat 2147483647)) (y := s4) (hIv _ (.tail _ (.tail _ (.tail _ (.tail _ (.head _)))))) rfl
  have b7 : (-2147483648 : Int) ≤ s7 ∧ s7 ≤ (2147483647 : Int) := ivX (q := (7, .negSucc 2147483647, .ofNat 2147483647)) (y := s7) (hIv _ (.tail _ (.tail _ (.tail _ (.tail _ (.tail _ (.tail _ (.tail _ (.head _))))))))) rfl
  have hRf : ∀ q ∈ ([((40, .ofNat 173, []), (.ofNat 9, []), 1, .ofNat 0, [])] : List sRf), rfOk [s0, s1, s2, s3, s4, s5, s6, s7] hp q := hH.1
  have h0 : hI hp 173 9 = 0 := rfI0 (hRf _ (.head _)) (sE_k _ _) (sE_k _ _) (sE_k _ _)
  have hFc : ∀ q ∈ ([(192, [(.ofNat 0, [(.ofNat 1, 0)]), (.ofNat 0, [(.ofNat 1, 1)]), (.ofNat 0, [(.ofNat 1, 2)]), (.ofNat 0, [(.ofNat 1, 3)]), (.ofNat 0, [(.ofNat 1, 4)]), (.ofNat 0, [(.ofNat 1, 5)]), (.ofNat 0, [(.ofNat 1, 6)]), (.ofNat 0, [(.ofNat 1, 7)])])] : List sFc), fcOk fFS [s0, s1, s2, s3, s4, s5, s6, s7] hp q := hH.2
  have f0 : SHq (XT hp) (nmR hp (xnm hp)) s0 s1 s2 s3 s4 s5 s6 s7 ∧ s4 ≠ 4 := fcX (ys := [s0, s1, s2, s3, s4, s5, s6, s7]) (hFc _ (.head _)) ⟨sE_V rfl, sE_V rfl, sE_V rfl, sE_V rfl, sE_V rfl, sE_V rfl, sE_V rfl, sE_V rfl, trivial⟩
  have u := sh_bd (XT_ok hO) f0.1
  exact poX (.head _) rfl hR (all_cons (ivO (y := s2) rfl (show (0 : Int) ≤ s2 by omega) (show s2 ≤ (20 : Int) by omega)) (all_cons (ivO (y := s3) rfl (show (0 : Int) ≤ s3 by omega) (show s3 ≤ (6560 : Int) by omega)) (all_cons (ivO (y := s4) rfl (show (0 : Int) ≤ s4 by omega) (show s4 ≤ (3 : Int) by omega)) (all_cons (ivO (y := s7) rfl (show (-1 : Int) ≤ s7 by omega) (show s7 ≤ (99 : Int) by omega)) (all_nil))))) (all_nil) (all_nil)
theorem rl362 : ruOk fFS gR362 := by
  intro r hp hO hN hH
  obtain ⟨s0, s1, s2, s3, s4, s5, s6, s7, s8, s9, rfl⟩ := len10 (show r.length = 10 from hN.1)
  have hR := hN.2.1.1
  have hIv : ∀ q ∈ ([(0, .negSucc 2147483647, .ofNat 2147483647), (1, .ofNat 6, .ofNat 6), (2, .negSucc 2147483647, .ofNat 2147483647), (3, .negSucc 2147483647, .ofNat 2147483647), (4, .ofNat 0, .ofNat 0), (5, .negSucc 2147483647, .ofNat 2147483647), (6, .negSucc 2147483647, .ofNat 2147483647), (7, .negSucc 2147483647, .ofNat 2147483647), (8, .ofNat 0, .ofNat 6560), (9, .negSucc 2147483647, .ofNat 2147483647)] : sIv), ∃ x, ([s0, s1, s2, s3, s4, s5, s6, s7, s8, s9] : List Int)[q.1]? = some x ∧ q.2.1 ≤ x ∧ x ≤ q.2.2 := hN.2.1.2
  have b1 : (6 : Int) ≤ s1 ∧ s1 ≤ (6 : Int) := ivX (q := (1, .ofNat 6, .ofNat 6)) (y := s1) (hIv _ (.tail _ (.head _))) rfl
  have b4 : (0 : Int) ≤ s4 ∧ s4 ≤ (0 : Int) := ivX (q := (4, .ofNat 0, .ofNat 0)) (y := s4) (hIv _ (.tail _ (.tail _ (.tail _ (.tail _ (.head _)))))) rfl
  have b8 : (0 : Int) ≤ s8 ∧ s8 ≤ (6560 : Int) := ivX (q := (8, .ofNat 0, .ofNat 6560)) (y := s8) (hIv _ (.tail _ (.tail _ (.tail _ (.tail _ (.tail _ (.tail _ (.tail _ (.tail _ (.head _)))))))))) rfl
  have hCs : ∀ c ∈ ([(.negSucc 1, [(.ofNat 1, 3), (.negSucc 2, 8)]), (.ofNat 2, [(.negSucc 0, 3), (.ofNat 3, 8)])] : List sLn), ∃ x, sE [s0, s1, s2, s3, s4, s5, s6, s7, s8, s9] c = some x ∧ x ≤ 0 := hN.2.2.1
  have c0 : ((-2 : Int) + ((1 : Int) * s3 + ((-3 : Int) * s8 + 0))) ≤ 0 := csX (hCs _ (.head _)) rfl
  have c1 : ((2 : Int) + ((-1 : Int) * s3 + ((3 : Int) * s8 + 0))) ≤ 0 := csX (hCs _ (.tail _ (.head _))) rfl
  have hRf : ∀ q ∈ ([((40, .ofNat 173, []), (.ofNat 9, []), 1, .ofNat 0, [])] : List sRf), rfOk [s0, s1, s2, s3, s4, s5, s6, s7, s8, s9] hp q := hH.1
  have h0 : hI hp 173 9 = 0 := rfI0 (hRf _ (.head _)) (sE_k _ _) (sE_k _ _) (sE_k _ _)
  have hFc : ∀ q ∈ ([(192, [(.ofNat 0, [(.ofNat 1, 0)]), (.ofNat 0, [(.ofNat 1, 1)]), (.ofNat 0, [(.ofNat 1, 2)]), (.ofNat 0, [(.ofNat 1, 3)]), (.ofNat 0, [(.ofNat 1, 4)]), (.ofNat 0, [(.ofNat 1, 5)]), (.ofNat 0, [(.ofNat 1, 6)]), (.ofNat 0, [(.ofNat 1, 7)])]), (200, [(.ofNat 0, [(.ofNat 1, 8)]), (.ofNat 0, [(.ofNat 1, 9)])])] : List sFc), fcOk fFS [s0, s1, s2, s3, s4, s5, s6, s7, s8, s9] hp q := hH.2
  have f0 : SHq (XT hp) (nmR hp (xnm hp)) s0 s1 s2 s3 s4 s5 s6 s7 ∧ s4 ≠ 4 := fcX (ys := [s0, s1, s2, s3, s4, s5, s6, s7]) (hFc _ (.head _)) ⟨sE_V rfl, sE_V rfl, sE_V rfl, sE_V rfl, sE_V rfl, sE_V rfl, sE_V rfl, sE_V rfl, trivial⟩
  have f1 : s9 = nr s8 := fcX (ys := [s8, s9]) (hFc _ (.tail _ (.head _))) ⟨sE_V rfl, sE_V rfl, trivial⟩
  exact poX (.head _) rfl hR (all_nil) (all_nil) (all_cons ⟨[1, s5], ⟨sE_k _ _, sE_V rfl, trivial⟩, (show SRS (XT hp) (nmR hp (xnm hp)) (1 : Int) s5 from s6_f1 f0.1 (by omega) (by omega) (by omega) (by omega))⟩ (all_nil))
theorem rl363 : ruOk fFS gR363 := by
  intro r hp hO hN hH
  obtain ⟨s0, s1, s2, s3, s4, s5, s6, s7, s8, s9, rfl⟩ := len10 (show r.length = 10 from hN.1)
  have hR := hN.2.1.1
  have hIv : ∀ q ∈ ([(0, .negSucc 2147483647, .ofNat 2147483647), (1, .ofNat 6, .ofNat 6), (2, .negSucc 2147483647, .ofNat 2147483647), (3, .negSucc 2147483647, .ofNat 2147483647), (4, .ofNat 2, .ofNat 2), (5, .negSucc 2147483647, .ofNat 2147483647), (6, .negSucc 2147483647, .ofNat 2147483647), (7, .negSucc 2147483647, .ofNat 2147483647), (8, .ofNat 0, .ofNat 6560), (9, .negSucc 2147483647, .ofNat 2147483647)] : sIv), ∃ x, ([s0, s1, s2, s3, s4, s5, s6, s7, s8, s9] : List Int)[q.1]? = some x ∧ q.2.1 ≤ x ∧ x ≤ q.2.2 := hN.2.1.2
  have b1 : (6 : Int) ≤ s1 ∧ s1 ≤ (6 : Int) := ivX (q := (1, .ofNat 6, .ofNat 6)) (y := s1) (hIv _ (.tail _ (.head _))) rfl
  have b4 : (2 : Int) ≤ s4 ∧ s4 ≤ (2 : Int) := ivX (q := (4, .ofNat 2, .ofNat 2)) (y := s4) (hIv _ (.tail _ (.tail _ (.tail _ (.tail _ (.head _)))))) rfl
  have b8 : (0 : Int) ≤ s8 ∧ s8 ≤ (6560 : Int) := ivX (q := (8, .ofNat 0, .ofNat 6560)) (y := s8) (hIv _ (.tail _ (.tail _ (.tail _ (.tail _ (.tail _ (.tail _ (.tail _ (.tail _ (.head _)))))))))) rfl
  have hCs : ∀ c ∈ ([(.negSucc 1, [(.ofNat 1, 3), (.negSucc 2, 8)]), (.ofNat 2, [(.negSucc 0, 3), (.ofNat 3, 8)])] : List sLn), ∃ x, sE [s0, s1, s2, s3, s4, s5, s6, s7, s8, s9] c = some x ∧ x ≤ 0 := hN.2.2.1
  have c0 : ((-2 : Int) + ((1 : Int) * s3 + ((-3 : Int) * s8 + 0))) ≤ 0 := csX (hCs _ (.head _)) rfl
  have c1 : ((2 : Int) + ((-1 : Int) * s3 + ((3 : Int) * s8 + 0))) ≤ 0 := csX (hCs _ (.tail _ (.head _))) rfl
  have hRf : ∀ q ∈ ([((40, .ofNat 173, []), (.ofNat 9, []), 1, .ofNat 0, [])] : List sRf), rfOk [s0, s1, s2, s3, s4, s5, s6, s7, s8, s9] hp q := hH.1
  have h0 : hI hp 173 9 = 0 := rfI0 (hRf _ (.head _)) (sE_k _ _) (sE_k _ _) (sE_k _ _)
  have hFc : ∀ q ∈ ([(192, [(.ofNat 0, [(.ofNat 1, 0)]), (.ofNat 0, [(.ofNat 1, 1)]), (.ofNat 0, [(.ofNat 1, 2)]), (.ofNat 0, [(.ofNat 1, 3)]), (.ofNat 0, [(.ofNat 1, 4)]), (.ofNat 0, [(.ofNat 1, 5)]), (.ofNat 0, [(.ofNat 1, 6)]), (.ofNat 0, [(.ofNat 1, 7)])]), (200, [(.ofNat 0, [(.ofNat 1, 8)]), (.ofNat 0, [(.ofNat 1, 9)])])] : List sFc), fcOk fFS [s0, s1, s2, s3, s4, s5, s6, s7, s8, s9] hp q := hH.2
  have f0 : SHq (XT hp) (nmR hp (xnm hp)) s0 s1 s2 s3 s4 s5 s6 s7 ∧ s4 ≠ 4 := fcX (ys := [s0, s1, s2, s3, s4, s5, s6, s7]) (hFc _ (.head _)) ⟨sE_V rfl, sE_V rfl, sE_V rfl, sE_V rfl, sE_V rfl, sE_V rfl, sE_V rfl, sE_V rfl, trivial⟩
  have f1 : s9 = nr s8 := fcX (ys := [s8, s9]) (hFc _ (.tail _ (.head _))) ⟨sE_V rfl, sE_V rfl, trivial⟩
  exact poX (.head _) rfl hR (all_nil) (all_nil) (all_cons ⟨[1, s5], ⟨sE_k _ _, sE_V rfl, trivial⟩, (show SRS (XT hp) (nmR hp (xnm hp)) (1 : Int) s5 from s6_f1 f0.1 (by omega) (by omega) (by omega) (by omega))⟩ (all_nil))
theorem rl364 : ruOk fFS gR364 := by
  intro r hp hO hN hH
  obtain ⟨s0, s1, s2, s3, s4, s5, s6, s7, s8, s9, rfl⟩ := len10 (show r.length = 10 from hN.1)
  have hR := hN.2.1.1
  have hIv : ∀ q ∈ ([(0, .negSucc 2147483647, .ofNat 2147483647), (1, .ofNat 6, .ofNat 6), (2, .negSucc 2147483647, .ofNat 2147483647), (3, .negSucc 2147483647, .ofNat 2147483647), (4, .ofNat 3, .ofNat 3), (5, .negSucc 2147483647, .ofNat 2147483647), (6, .negSucc 2147483647, .ofNat 2147483647), (7, .negSucc 0, .ofNat 40), (8, .ofNat 0, .ofNat 6560), (9, .negSucc 2147483647, .ofNat 2147483647)] : sIv), ∃ x, ([s0, s1, s2, s3, s4, s5, s6, s7, s8, s9] : List Int)[q.1]? = some x ∧ q.2.1 ≤ x ∧ x ≤ q.2.2 := hN.2.1.2
  have b1 : (6 : Int) ≤ s1 ∧ s1 ≤ (6 : Int) := ivX (q := (1, .ofNat 6, .ofNat 6)) (y := s1) (hIv _ (.tail _ (.head _))) rfl
  have b4 : (3 : Int) ≤ s4 ∧ s4 ≤ (3 : Int) := ivX (q := (4, .ofNat 3, .ofNat 3)) (y := s4) (hIv _ (.tail _ (.tail _ (.tail _ (.tail _ (.head _)))))) rfl
  have b7 : (-1 : Int) ≤ s7 ∧ s7 ≤ (40 : Int) := ivX (q := (7, .negSucc 0, .ofNat 40)) (y := s7) (hIv _ (.tail _ (.tail _ (.tail _ (.tail _ (.tail _ (.tail _ (.tail _ (.head _))))))))) rfl
  have b8 : (0 : Int) ≤ s8 ∧ s8 ≤ (6560 : Int) := ivX (q := (8, .ofNat 0, .ofNat 6560)) (y := s8) (hIv _ (.tail _ (.tail _ (.tail _ (.tail _ (.tail _ (.tail _ (.tail _ (.tail _ (.head _)))))))))) rfl
  have hCs : ∀ c ∈ ([(.negSucc 1, [(.ofNat 1, 3), (.negSucc 2, 8)]), (.ofNat 2, [(.negSucc 0, 3), (.ofNat 3, 8)])] : List sLn), ∃ x, sE [s0, s1, s2, s3, s4, s5, s6, s7, s8, s9] c = some x ∧ x ≤ 0 := hN.2.2.1
  have c0 : ((-2 : Int) + ((1 : Int) * s3 + ((-3 : Int) * s8 + 0))) ≤ 0 := csX (hCs _ (.head _)) rfl
  have c1 : ((2 : Int) + ((-1 : Int) * s3 + ((3 : Int) * s8 + 0))) ≤ 0 := csX (hCs _ (.tail _ (.head _))) rfl
  have hRf : ∀ q ∈ ([((40, .ofNat 173, []), (.ofNat 9, []), 1, .ofNat 0, [])] : List sRf), rfOk [s0, s1, s2, s3, s4, s5, s6, s7, s8, s9] hp q := hH.1
  have h0 : hI hp 173 9 = 0 := rfI0 (hRf _ (.head _)) (sE_k _ _) (sE_k _ _) (sE_k _ _)
  have hFc : ∀ q ∈ ([(192, [(.ofNat 0, [(.ofNat 1, 0)]), (.ofNat 0, [(.ofNat 1, 1)]), (.ofNat 0, [(.ofNat 1, 2)]), (.ofNat 0, [(.ofNat 1, 3)]), (.ofNat 0, [(.ofNat 1, 4)]), (.ofNat 0, [(.ofNat 1, 5)]), (.ofNat 0, [(.ofNat 1, 6)]), (.ofNat 0, [(.ofNat 1, 7)])]), (200, [(.ofNat 0, [(.ofNat 1, 8)]), (.ofNat 0, [(.ofNat 1, 9)])])] : List sFc), fcOk fFS [s0, s1, s2, s3, s4, s5, s6, s7, s8, s9] hp q := hH.2
  have f0 : SHq (XT hp) (nmR hp (xnm hp)) s0 s1 s2 s3 s4 s5 s6 s7 ∧ s4 ≠ 4 := fcX (ys := [s0, s1, s2, s3, s4, s5, s6, s7]) (hFc _ (.head _)) ⟨sE_V rfl, sE_V rfl, sE_V rfl, sE_V rfl, sE_V rfl, sE_V rfl, sE_V rfl, sE_V rfl, trivial⟩
  have f1 : s9 = nr s8 := fcX (ys := [s8, s9]) (hFc _ (.tail _ (.head _))) ⟨sE_V rfl, sE_V rfl, trivial⟩
  exact poX (.head _) rfl hR (all_nil) (all_nil) (all_cons ⟨[1, s5], ⟨sE_k _ _, sE_V rfl, trivial⟩, (show SRS (XT hp) (nmR hp (xnm hp)) (1 : Int) s5 from s6_f1 f0.1 (by omega) (by omega) (by omega) (by omega))⟩ (all_nil))
theorem rl365 : ruOk fFS gR365 := by
  intro r hp hO hN hH
  obtain ⟨s0, s1, s2, s3, s4, s5, s6, s7, s8, s9, rfl⟩ := len10 (show r.length = 10 from hN.1)
  have hR := hN.2.1.1
  have hIv : ∀ q ∈ ([(0, .negSucc 2147483647, .ofNat 2147483647), (1, .ofNat 6, .ofNat 6), (2, .negSucc 2147483647, .ofNat 2147483647), (3, .negSucc 2147483647, .ofNat 2147483647), (4, .ofNat 3, .ofNat 3), (5, .negSucc 2147483647, .ofNat 2147483647), (6, .negSucc 2147483647, .ofNat 2147483647), (7, .ofNat 42, .ofNat 2147483647), (8, .ofNat 0, .ofNat 6560), (9, .negSucc 2147483647, .ofNat 2147483647)] : sIv), ∃ x, ([s0, s1, s2, s3, s4, s5, s6, s7, s8, s9] : List Int)[q.1]? = some x ∧ q.2.1 ≤ x ∧ x ≤ q.2.2 := hN.2.1.2
  have b1 : (6 : Int) ≤ s1 ∧ s1 ≤ (6 : Int) := ivX (q := (1, .ofNat 6, .ofNat 6)) (y := s1) (hIv _ (.tail _ (.head _))) rfl
  have b4 : (3 : Int) ≤ s4 ∧ s4 ≤ (3 : Int) := ivX (q := (4, .ofNat 3, .ofNat 3)) (y := s4) (hIv _ (.tail _ (.tail _ (.tail _ (.tail _ (.head _)))))) rfl
  have b7 : (42 : Int) ≤ s7 ∧ s7 ≤ (2147483647 : Int) := ivX (q := (7, .ofNat 42, .ofNat 2147483647)) (y := s7) (hIv _ (.tail _ (.tail _ (.tail _ (.tail _ (.tail _ (.tail _ (.tail _ (.head _))))))))) rfl
  have b8 : (0 : Int) ≤ s8 ∧ s8 ≤ (6560 : Int) := ivX (q := (8, .ofNat 0, .ofNat 6560)) (y := s8) (hIv _ (.tail _ (.tail _ (.tail _ (.tail _ (.tail _ (.tail _ (.tail _ (.tail _ (.head _)))))))))) rfl
  have hCs : ∀ c ∈ ([(.negSucc 1, [(.ofNat 1, 3), (.negSucc 2, 8)]), (.ofNat 2, [(.negSucc 0, 3), (.ofNat 3, 8)])] : List sLn), ∃ x, sE [s0, s1, s2, s3, s4, s5, s6, s7, s8, s9] c = some x ∧ x ≤ 0 := hN.2.2.1
  have c0 : ((-2 : Int) + ((1 : Int) * s3 + ((-3 : Int) * s8 + 0))) ≤ 0 := csX (hCs _ (.head _)) rfl
  have c1 : ((2 : Int) + ((-1 : Int) * s3 + ((3 : Int) * s8 + 0))) ≤ 0 := csX (hCs _ (.tail _ (.head _))) rfl
  have hRf : ∀ q ∈ ([((40, .ofNat 173, []), (.ofNat 9, []), 1, .ofNat 0, [])] : List sRf), rfOk [s0, s1, s2, s3, s4, s5, s6, s7, s8, s9] hp q := hH.1
  have h0 : hI hp 173 9 = 0 := rfI0 (hRf _ (.head _)) (sE_k _ _) (sE_k _ _) (sE_k _ _)
  have hFc : ∀ q ∈ ([(192, [(.ofNat 0, [(.ofNat 1, 0)]), (.ofNat 0, [(.ofNat 1, 1)]), (.ofNat 0, [(.ofNat 1, 2)]), (.ofNat 0, [(.ofNat 1, 3)]), (.ofNat 0, [(.ofNat 1, 4)]), (.ofNat 0, [(.ofNat 1, 5)]), (.ofNat 0, [(.ofNat 1, 6)]), (.ofNat 0, [(.ofNat 1, 7)])]), (200, [(.ofNat 0, [(.ofNat 1, 8)]), (.ofNat 0, [(.ofNat 1, 9)])])] : List sFc), fcOk fFS [s0, s1, s2, s3, s4, s5, s6, s7, s8, s9] hp q := hH.2
  have f0 : SHq (XT hp) (nmR hp (xnm hp)) s0 s1 s2 s3 s4 s5 s6 s7 ∧ s4 ≠ 4 := fcX (ys := [s0, s1, s2, s3, s4, s5, s6, s7]) (hFc _ (.head _)) ⟨sE_V rfl, sE_V rfl, sE_V rfl, sE_V rfl, sE_V rfl, sE_V rfl, sE_V rfl, sE_V rfl, trivial⟩
  have f1 : s9 = nr s8 := fcX (ys := [s8, s9]) (hFc _ (.tail _ (.head _))) ⟨sE_V rfl, sE_V rfl, trivial⟩
  exact poX (.head _) rfl hR (all_nil) (all_nil) (all_cons ⟨[1, s5], ⟨sE_k _ _, sE_V rfl, trivial⟩, (show SRS (XT hp) (nmR hp (xnm hp)) (1 : Int) s5 from s6_f1 f0.1 (by omega) (by omega) (by omega) (by omega))⟩ (all_nil))
theorem rl366 : ruOk fFS gR366 := by
  intro r hp hO hN hH
  obtain ⟨s0, s1, s2, s3, s4, s5, s6, s7, s8, s9, rfl⟩ := len10 (show r.length = 10 from hN.1)
  have hR := hN.2.1.1
  have hIv : ∀ q ∈ ([(0, .negSucc 2147483647, .ofNat 2147483647), (1, .ofNat 6, .ofNat 6), (2, .negSucc 2147483647, .ofNat 2147483647), (3, .negSucc 2147483647, .ofNat 2147483647), (4, .ofNat 1, .ofNat 1), (5, .negSucc 2147483647, .ofNat 2147483647), (6, .negSucc 2147483647, .ofNat 2147483647), (7, .negSucc 0, .ofNat 18), (8, .ofNat 0, .ofNat 6560), (9, .negSucc 2147483647, .ofNat 2147483647)] : sIv), ∃ x, ([s0, s1, s2, s3, s4, s5, s6, s7, s8, s9] : List Int)[q.1]? = some x ∧ q.2.1 ≤ x ∧ x ≤ q.2.2 := hN.2.1.2
  have b1 : (6 : Int) ≤ s1 ∧ s1 ≤ (6 : Int) := ivX (q := (1, .ofNat 6, .ofNat 6)) (y := s1) (hIv _ (.tail _ (.head _))) rfl
  have b4 : (1 : Int) ≤ s4 ∧ s4 ≤ (1 : Int) := ivX (q := (4, .ofNat 1, .ofNat 1)) (y := s4) (hIv _ (.tail _ (.tail _ (.tail _ (.tail _ (.head _)))))) rfl
  have b7 : (-1 : Int) ≤ s7 ∧ s7 ≤ (18 : Int) := ivX (q := (7, .negSucc 0, .ofNat 18)) (y := s7) (hIv _ (.tail _ (.tail _ (.tail _ (.tail _ (.tail _ (.tail _ (.tail _ (.head _))))))))) rfl
  have b8 : (0 : Int) ≤ s8 ∧ s8 ≤ (6560 : Int) := ivX (q := (8, .ofNat 0, .ofNat 6560)) (y := s8) (hIv _ (.tail _ (.tail _ (.tail _ (.tail _ (.tail _ (.tail _ (.tail _ (.tail _ (.head _)))))))))) rfl
  have hCs : ∀ c ∈ ([(.negSucc 1, [(.ofNat 1, 3), (.negSucc 2, 8)]), (.ofNat 2, [(.negSucc 0, 3), (.ofNat 3, 8)])] : List sLn), ∃ x, sE [s0, s1, s2, s3, s4, s5, s6, s7, s8, s9] c = some x ∧ x ≤ 0 := hN.2.2.1
  have c0 : ((-2 : Int) + ((1 : Int) * s3 + ((-3 : Int) * s8 + 0))) ≤ 0 := csX (hCs _ (.head _)) rfl
  have c1 : ((2 : Int) + ((-1 : Int) * s3 + ((3 : Int) * s8 + 0))) ≤ 0 := csX (hCs _ (.tail _ (.head _))) rfl
  have hRf : ∀ q ∈ ([((40, .ofNat 173, []), (.ofNat 9, []), 1, .ofNat 0, [])] : List sRf), rfOk [s0, s1, s2, s3, s4, s5, s6, s7, s8, s9] hp q := hH.1
  have h0 : hI hp 173 9 = 0 := rfI0 (hRf _ (.head _)) (sE_k _ _) (sE_k _ _) (sE_k _ _)
  have hFc : ∀ q ∈ ([(192, [(.ofNat 0, [(.ofNat 1, 0)]), (.ofNat 0, [(.ofNat 1, 1)]), (.ofNat 0, [(.ofNat 1, 2)]), (.ofNat 0, [(.ofNat 1, 3)]), (.ofNat 0, [(.ofNat 1, 4)]), (.ofNat 0, [(.ofNat 1, 5)]), (.ofNat 0, [(.ofNat 1, 6)]), (.ofNat 0, [(.ofNat 1, 7)])]), (200, [(.ofNat 0, [(.ofNat 1, 8)]), (.ofNat 0, [(.ofNat 1, 9)])])] : List sFc), fcOk fFS [s0, s1, s2, s3, s4, s5, s6, s7, s8, s9] hp q := hH.2
  have f0 : SHq (XT hp) (nmR hp (xnm hp)) s0 s1 s2 s3 s4 s5 s6 s7 ∧ s4 ≠ 4 := fcX (ys := [s0, s1, s2, s3, s4, s5, s6, s7]) (hFc _ (.head _)) ⟨sE_V rfl, sE_V rfl, sE_V rfl, sE_V rfl, sE_V rfl, sE_V rfl, sE_V rfl, sE_V rfl, trivial⟩
  have f1 : s9 = nr s8 := fcX (ys := [s8, s9]) (hFc _ (.tail _ (.head _))) ⟨sE_V rfl, sE_V rfl, trivial⟩
  exact poX (.head _) rfl hR (all_nil) (all_nil) (all_cons ⟨[1, s5], ⟨sE_k _ _, sE_V rfl, trivial⟩, (show SRS (XT hp) (nmR hp (xnm hp)) (1 : Int) s5 from s6_f1 f0.1 (by omega) (by omega) (by omega) (by omega))⟩ (all_nil))
theorem rl367 : ruOk fFS gR367 := by
  intro r hp hO hN hH
  obtain ⟨s0, s1, s2, s3, s4, s5, s6, s7, s8, s9, rfl⟩ := len10 (show r.length = 10 from hN.1)
  have hR := hN.2.1.1
  have hIv : ∀ q ∈ ([(0, .negSucc 2147483647, .ofNat 2147483647), (1, .ofNat 6, .ofNat 6), (2, .negSucc 2147483647, .ofNat 2147483647), (3, .negSucc 2147483647, .ofNat 2147483647), (4, .ofNat 1, .ofNat 1), (5, .negSucc 2147483647, .ofNat 2147483647), (6, .negSucc 2147483647, .ofNat 2147483647), (7, .ofNat 21, .ofNat 2147483647), (8, .ofNat 0, .ofNat 6560), (9, .negSucc 2147483647, .ofNat 2147483647)] : sIv), ∃ x, ([s0, s1, s2, s3, s4, s5, s6, s7, s8, s9] : List Int)[q.1]? = some x ∧ q.2.1 ≤ x ∧ x ≤ q.2.2 := hN.2.1.2
  have b1 : (6 : Int) ≤ s1 ∧ s1 ≤ (6 : Int) := ivX (q := (1, .ofNat 6, .ofNat 6)) (y := s1) (hIv _ (.tail _ (.head _))) rfl
  have b4 : (1 : Int) ≤ s4 ∧ s4 ≤ (1 : Int) := ivX (q := (4, .ofNat 1, .ofNat 1)) (y := s4) (hIv _ (.tail _ (.tail _ (.tail _ (.tail _ (.head _)))))) rfl
  have b7 : (21 : Int) ≤ s7 ∧ s7 ≤ (2147483647 : Int) := ivX (q := (7, .ofNat 21, .ofNat 2147483647)) (y := s7) (hIv _ (.tail _ (.tail _ (.tail _ (.tail _ (.tail _ (.tail _ (.tail _ (.head _))))))))) rfl
  have b8 : (0 : Int) ≤ s8 ∧ s8 ≤ (6560 : Int) := ivX (q := (8, .ofNat 0, .ofNat 6560)) (y := s8) (hIv _ (.tail _ (.tail _ (.tail _ (.tail _ (.tail _ (.tail _ (.tail _ (.tail _ (.head _)))))))))) rfl
  have hCs : ∀ c ∈ ([(.negSucc 1, [(.ofNat 1, 3), (.negSucc 2, 8)]), (.ofNat 2, [(.negSucc 0, 3), (.ofNat 3, 8)])] : List sLn), ∃ x, sE [s0, s1, s2, s3, s4, s5, s6, s7, s8, s9] c = some x ∧ x ≤ 0 := hN.2.2.1
  have c0 : ((-2 : Int) + ((1 : Int) * s3 + ((-3 : Int) * s8 + 0))) ≤ 0 := csX (hCs _ (.head _)) rfl
  have c1 : ((2 : Int) + ((-1 : Int) * s3 + ((3 : Int) * s8 + 0))) ≤ 0 := csX (hCs _ (.tail _ (.head _))) rfl
  have hRf : ∀ q ∈ ([((40, .ofNat 173, []), (.ofNat 9, []), 1, .ofNat 0, [])] : List sRf), rfOk [s0, s1, s2, s3, s4, s5, s6, s7, s8, s9] hp q := hH.1
  have h0 : hI hp 173 9 = 0 := rfI0 (hRf _ (.head _)) (sE_k _ _) (sE_k _ _) (sE_k _ _)
  have hFc : ∀ q ∈ ([(192, [(.ofNat 0, [(.ofNat 1, 0)]), (.ofNat 0, [(.ofNat 1, 1)]), (.ofNat 0, [(.ofNat 1, 2)]), (.ofNat 0, [(.ofNat 1, 3)]), (.ofNat 0, [(.ofNat 1, 4)]), (.ofNat 0, [(.ofNat 1, 5)]), (.ofNat 0, [(.ofNat 1, 6)]), (.ofNat 0, [(.ofNat 1, 7)])]), (200, [(.ofNat 0, [(.ofNat 1, 8)]), (.ofNat 0, [(.ofNat 1, 9)])])] : List sFc), fcOk fFS [s0, s1, s2, s3, s4, s5, s6, s7, s8, s9] hp q := hH.2
  have f0 : SHq (XT hp) (nmR hp (xnm hp)) s0 s1 s2 s3 s4 s5 s6 s7 ∧ s4 ≠ 4 := fcX (ys := [s0, s1, s2, s3, s4, s5, s6, s7]) (hFc _ (.head _)) ⟨sE_V rfl, sE_V rfl, sE_V rfl, sE_V rfl, sE_V rfl, sE_V rfl, sE_V rfl, sE_V rfl, trivial⟩
  have f1 : s9 = nr s8 := fcX (ys := [s8, s9]) (hFc _ (.tail _ (.head _))) ⟨sE_V rfl, sE_V rfl, trivial⟩
  exact poX (.head _) rfl hR (all_nil) (all_nil) (all_cons ⟨[1, s5], ⟨sE_k _ _, sE_V rfl, trivial⟩, (show SRS (XT hp) (nmR hp (xnm hp)) (1 : Int) s5 from s6_f1 f0.1 (by omega) (by omega) (by omega) (by omega))⟩ (all_nil))
theorem rl368 : ruOk fFS gR368 := by
  intro r hp hO hN hH
  obtain ⟨s0, s1, s2, s3, s4, s5, s6, s7, s8, s9, rfl⟩ := len10 (show r.length = 10 from hN.1)
  have hR := hN.2.1.1
  have hIv : ∀ q ∈ ([(0, .negSucc 2147483647, .ofNat 2147483647), (1, .ofNat 6, .ofNat 6), (2, .negSucc 2147483647, .ofNat 2147483647), (3, .negSucc 2147483647, .ofNat 2147483647), (4, .ofNat 3, .ofNat 3), (5, .negSucc 2147483647, .ofNat 2147483647), (6, .negSucc 2147483647, .ofNat 2147483647), (7, .ofNat 41, .ofNat 41), (8, .ofNat 0, .ofNat 6560), (9, .negSucc 2147483647, .ofNat 2147483647)] : sIv), ∃ x, ([s0, s1, s2, s3, s4, s5, s6, s7, s8, s9] : List Int)[q.1]? = some x ∧ q.2.1 ≤ x ∧ x ≤ q.2.2 := hN.2.1.2
  have b1 : (6 : Int) ≤ s1 ∧ s1 ≤ (6 : Int) := ivX (q := (1, .ofNat 6, .ofNat 6)) (y := s1) (hIv _ (.tail _ (.head _))) rfl
  have b4 : (3 : Int) ≤ s4 ∧ s4 ≤ (3 : Int) := ivX (q := (4, .ofNat 3, .ofNat 3)) (y := s4) (hIv _ (.tail _ (.tail _ (.tail _ (.tail _ (.head _)))))) rfl
  have b7 : (41 : Int) ≤ s7 ∧ s7 ≤ (41 : Int) := ivX (q := (7, .ofNat 41, .ofNat 41)) (y := s7) (hIv _ (.tail _ (.tail _ (.tail _ (.tail _ (.tail _ (.tail _ (.tail _ (.head _))))))))) rfl
  have b8 : (0 : Int) ≤ s8 ∧ s8 ≤ (6560 : Int) := ivX (q := (8, .ofNat 0, .ofNat 6560)) (y := s8) (hIv _ (.tail _ (.tail _ (.tail _ (.tail _ (.tail _ (.tail _ (.tail _ (.tail _ (.head _)))))))))) rfl
  have hCs : ∀ c ∈ ([(.negSucc 1, [(.ofNat 1, 3), (.negSucc 2, 8)]), (.ofNat 2, [(.negSucc 0, 3), (.ofNat 3, 8)])] : List sLn), ∃ x, sE [s0, s1, s2, s3, s4, s5, s6, s7, s8, s9] c = some x ∧ x ≤ 0 := hN.2.2.1
  have c0 : ((-2 : Int) + ((1 : Int) * s3 + ((-3 : Int) * s8 + 0))) ≤ 0 := csX (hCs _ (.head _)) rfl
  have c1 : ((2 : Int) + ((-1 : Int) * s3 + ((3 : Int) * s8 + 0))) ≤ 0 := csX (hCs _ (.tail _ (.head _))) rfl
  have hRf : ∀ q ∈ ([((40, .ofNat 173, []), (.ofNat 9, []), 1, .ofNat 0, [])] : List sRf), rfOk [s0, s1, s2, s3, s4, s5, s6, s7, s8, s9] hp q := hH.1
  have h0 : hI hp 173 9 = 0 := rfI0 (hRf _ (.head _)) (sE_k _ _) (sE_k _ _) (sE_k _ _)
  have hFc : ∀ q ∈ ([(192, [(.ofNat 0, [(.ofNat 1, 0)]), (.ofNat 0, [(.ofNat 1, 1)]), (.ofNat 0, [(.ofNat 1, 2)]), (.ofNat 0, [(.ofNat 1, 3)]), (.ofNat 0, [(.ofNat 1, 4)]), (.ofNat 0, [(.ofNat 1, 5)]), (.ofNat 0, [(.ofNat 1, 6)]), (.ofNat 0, [(.ofNat 1, 7)])]), (200, [(.ofNat 0, [(.ofNat 1, 8)]), (.ofNat 0, [(.ofNat 1, 9)])])] : List sFc), fcOk fFS [s0, s1, s2, s3, s4, s5, s6, s7, s8, s9] hp q := hH.2
  have f0 : SHq (XT hp) (nmR hp (xnm hp)) s0 s1 s2 s3 s4 s5 s6 s7 ∧ s4 ≠ 4 := fcX (ys := [s0, s1, s2, s3, s4, s5, s6, s7]) (hFc _ (.head _)) ⟨sE_V rfl, sE_V rfl, sE_V rfl, sE_V rfl, sE_V rfl, sE_V rfl, sE_V rfl, sE_V rfl, trivial⟩
  have f1 : s9 = nr s8 := fcX (ys := [s8, s9]) (hFc _ (.tail _ (.head _))) ⟨sE_V rfl, sE_V rfl, trivial⟩
  have ew : s3 / 3 = s8 := by omega
  have hz := s6_cl f0.1 (by omega) (by omega) (by omega) (by omega)
  rw [ew] at hz
  exact poX (.head _) rfl hR (all_nil) (all_nil) (all_cons ⟨[s6, 6, s2, s9], ⟨sE_V rfl, sE_k _ _, sE_V rfl, sE_V rfl, trivial⟩, (show SG (XT hp) (nmR hp (xnm hp)) s6 (6 : Int) s2 s9 from sg_u f1 hz)⟩ (all_nil))
theorem rl369 : ruOk fFS gR369 := by
  intro r hp hO hN hH
  obtain ⟨s0, s1, s2, s3, s4, s5, s6, s7, s8, rfl⟩ := len9 (show r.length = 9 from hN.1)
  have hR := hN.2.1.1
  have hIv : ∀ q ∈ ([(0, .negSucc 2147483647, .ofNat 2147483647), (1, .ofNat 0, .ofNat 0), (2, .ofNat 0, .ofNat 19), (3, .ofNat 0, .ofNat 6560), (4, .ofNat 1, .ofNat 1), (5, .negSucc 2147483647, .ofNat 2147483647), (6, .negSucc 2147483647, .ofNat 2147483647), (7, .ofNat 13, .ofNat 13), (8, .negSucc 2147483647, .ofNat 2147483647)] : sIv), ∃ x, ([s0, s1, s2, s3, s4, s5, s6, s7, s8] : List Int)[q.1]? = some x ∧ q.2.1 ≤ x ∧ x ≤ q.2.2 := hN.2.1.2
  have b1 : (0 : Int) ≤ s1 ∧ s1 ≤ (0 : Int) := ivX (q := (1, .ofNat 0, .ofNat 0)) (y := s1) (hIv _ (.tail _ (.head _))) rfl
  have b2 : (0 : Int) ≤ s2 ∧ s2 ≤ (19 : Int) := ivX (q := (2, .ofNat 0, .ofNat 19)) (y := s2) (hIv _ (.tail _ (.tail _ (.head _)))) rfl
  have b3 : (0 : Int) ≤ s3 ∧ s3 ≤ (6560 : Int) := ivX (q := (3, .ofNat 0, .ofNat 6560)) (y := s3) (hIv _ (.tail _ (.tail _ (.tail _ (.head _))))) rfl
  have b4 : (1 : Int) ≤ s4 ∧ s4 ≤ (1 : Int) := ivX (q := (4, .ofNat 1, .ofNat 1)) (y := s4) (hIv _ (.tail _ (.tail _ (.tail _ (.tail _ (.head _)))))) rfl
  have b7 : (13 : Int) ≤ s7 ∧ s7 ≤ (13 : Int) := ivX (q := (7, .ofNat 13, .ofNat 13)) (y := s7) (hIv _ (.tail _ (.tail _ (.tail _ (.tail _ (.tail _ (.tail _ (.tail _ (.head _))))))))) rfl
  have hRf : ∀ q ∈ ([((40, .ofNat 173, []), (.ofNat 9, []), 1, .ofNat 0, [])] : List sRf), rfOk [s0, s1, s2, s3, s4, s5, s6, s7, s8] hp q := hH.1
  have h0 : hI hp 173 9 = 0 := rfI0 (hRf _ (.head _)) (sE_k _ _) (sE_k _ _) (sE_k _ _)
  have hFc : ∀ q ∈ ([(192, [(.ofNat 0, [(.ofNat 1, 0)]), (.ofNat 0, [(.ofNat 1, 1)]), (.ofNat 0, [(.ofNat 1, 2)]), (.ofNat 0, [(.ofNat 1, 3)]), (.ofNat 0, [(.ofNat 1, 4)]), (.ofNat 0, [(.ofNat 1, 5)]), (.ofNat 0, [(.ofNat 1, 6)]), (.ofNat 0, [(.ofNat 1, 7)])]), (199, [(.ofNat 0, [(.ofNat 1, 3)]), (.ofNat 1, [])]), (200, [(.ofNat 0, [(.ofNat 1, 3)]), (.ofNat 0, [(.ofNat 1, 8)])])] : List sFc), fcOk fFS [s0, s1, s2, s3, s4, s5, s6, s7, s8] hp q := hH.2
  have f0 : SHq (XT hp) (nmR hp (xnm hp)) s0 s1 s2 s3 s4 s5 s6 s7 ∧ s4 ≠ 4 := fcX (ys := [s0, s1, s2, s3, s4, s5, s6, s7]) (hFc _ (.head _)) ⟨sE_V rfl, sE_V rfl, sE_V rfl, sE_V rfl, sE_V rfl, sE_V rfl, sE_V rfl, sE_V rfl, trivial⟩
  have f1 : (1 : Int) = dp s3 + 1 := fcX (ys := [s3, 1]) (hFc _ (.tail _ (.head _))) ⟨sE_V rfl, sE_k _ _, trivial⟩
  have f2 : s8 = nr s3 := fcX (ys := [s3, s8]) (hFc _ (.tail _ (.tail _ (.head _)))) ⟨sE_V rfl, sE_V rfl, trivial⟩
  have ud : dp s3 ≤ 7 := by omega
  have ut := dp_lt (t := s3) (by omega) ud
  exact poX (.head _) rfl hR (all_nil) (all_nil) (all_cons ⟨[s6, 6, (s2 + 1), s8], ⟨sE_V rfl, sE_k _ _, sEv (y' := ((1 : Int) + ((1 : Int) * s2 + 0))) rfl (by omega), sE_V rfl, trivial⟩, (show SG (XT hp) (nmR hp (xnm hp)) s6 (6 : Int) (s2 + 1) s8 from sg_u f2 (s0_leaf f0.1 (by omega) (by omega) (by omega) (by omega) ud))⟩ (all_cons ⟨[s8, s8], ⟨sE_V rfl, sE_V rfl, trivial⟩, (show s8 = nr s8 from (by rw [f2]; exact (nr_nr (by omega) (by omega)).symm))⟩ (all_nil)))
theorem rl370 : ruOk fFS gR370 := by
  intro r hp hO hN hH
  obtain ⟨s0, s1, s2, s3, s4, s5, s6, s7, s8, rfl⟩ := len9 (show r.length = 9 from hN.1)
  have hR := hN.2.1.1
  have hIv : ∀ q ∈ ([(0, .negSucc 2147483647, .ofNat 2147483647), (1, .ofNat 0, .ofNat 0), (2, .ofNat 0, .ofNat 19), (3, .ofNat 0, .ofNat 6560), (4, .ofNat 1, .ofNat 1), (5, .negSucc 2147483647, .ofNat 2147483647), (6, .negSucc 2147483647, .ofNat 2147483647), (7, .ofNat 13, .ofNat 13), (8, .negSucc 2147483647, .ofNat 2147483647)] : sIv), ∃ x, ([s0, s1, s2, s3, s4, s5, s6, s7, s8] : List Int)[q.1]? = some x ∧ q.2.1 ≤ x ∧ x ≤ q.2.2 := hN.2.1.2
  have b1 : (0 : Int) ≤ s1 ∧ s1 ≤ (0 : Int) := ivX (q := (1, .ofNat 0, .ofNat 0)) (y := s1) (hIv _ (.tail _ (.head _))) rfl
  have b2 : (0 : Int) ≤ s2 ∧ s2 ≤ (19 : Int) := ivX (q := (2, .ofNat 0, .ofNat 19)) (y := s2) (hIv _ (.tail _ (.tail _ (.head _)))) rfl
  have b3 : (0 : Int) ≤ s3 ∧ s3 ≤ (6560 : Int) := ivX (q := (3, .ofNat 0, .ofNat 6560)) (y := s3) (hIv _ (.tail _ (.tail _ (.tail _ (.head _))))) rfl
  have b4 : (1 : Int) ≤ s4 ∧ s4 ≤ (1 : Int) := ivX (q := (4, .ofNat 1, .ofNat 1)) (y := s4) (hIv _ (.tail _ (.tail _ (.tail _ (.tail _ (.head _)))))) rfl
  have b7 : (13 : Int) ≤ s7 ∧ s7 ≤ (13 : Int) := ivX (q := (7, .ofNat 13, .ofNat 13)) (y := s7) (hIv _ (.tail _ (.tail _ (.tail _ (.tail _ (.tail _ (.tail _ (.tail _ (.head _))))))))) rfl
  have hRf : ∀ q ∈ ([((40, .ofNat 173, []), (.ofNat 9, []), 1, .ofNat 0, [])] : List sRf), rfOk [s0, s1, s2, s3, s4, s5, s6, s7, s8] hp q := hH.1
  have h0 : hI hp 173 9 = 0 := rfI0 (hRf _ (.head _)) (sE_k _ _) (sE_k _ _) (sE_k _ _)
  have hFc : ∀ q ∈ ([(192, [(.ofNat 0, [(.ofNat 1, 0)]), (.ofNat 0, [(.ofNat 1, 1)]), (.ofNat 0, [(.ofNat 1, 2)]), (.ofNat 0, [(.ofNat 1, 3)]), (.ofNat 0, [(.ofNat 1, 4)]), (.ofNat 0, [(.ofNat 1, 5)]), (.ofNat 0, [(.ofNat 1, 6)]), (.ofNat 0, [(.ofNat 1, 7)])]), (199, [(.ofNat 0, [(.ofNat 1, 3)]), (.ofNat 2, [])]), (200, [(.ofNat 0, [(.ofNat 1, 3)]), (.ofNat 0, [(.ofNat 1, 8)])])] : List sFc), fcOk fFS [s0, s1, s2, s3, s4, s5, s6, s7, s8] hp q := hH.2
  have f0 : SHq (XT hp) (nmR hp (xnm hp)) s0 s1 s2 s3 s4 s5 s6 s7 ∧ s4 ≠ 4 := fcX (ys := [s0, s1, s2, s3, s4, s5, s6, s7]) (hFc _ (.head _)) ⟨sE_V rfl, sE_V rfl, sE_V rfl, sE_V rfl, sE_V rfl, sE_V rfl, sE_V rfl, sE_V rfl, trivial⟩
  have f1 : (2 : Int) = dp s3 + 1 := fcX (ys := [s3, 2]) (hFc _ (.tail _ (.head _))) ⟨sE_V rfl, sE_k _ _, trivial⟩
  have f2 : s8 = nr s3 := fcX (ys := [s3, s8]) (hFc _ (.tail _ (.tail _ (.head _)))) ⟨sE_V rfl, sE_V rfl, trivial⟩
  have ud : dp s3 ≤ 7 := by omega
  have ut := dp_lt (t := s3) (by omega) ud
  exact poX (.head _) rfl hR (all_nil) (all_nil) (all_cons ⟨[s6, 6, (s2 + 1), s8], ⟨sE_V rfl, sE_k _ _, sEv (y' := ((1 : Int) + ((1 : Int) * s2 + 0))) rfl (by omega), sE_V rfl, trivial⟩, (show SG (XT hp) (nmR hp (xnm hp)) s6 (6 : Int) (s2 + 1) s8 from sg_u f2 (s0_leaf f0.1 (by omega) (by omega) (by omega) (by omega) ud))⟩ (all_cons ⟨[s8, s8], ⟨sE_V rfl, sE_V rfl, trivial⟩, (show s8 = nr s8 from (by rw [f2]; exact (nr_nr (by omega) (by omega)).symm))⟩ (all_nil)))
theorem rl371 : ruOk fFS gR371 := by
  intro r hp hO hN hH
  obtain ⟨s0, s1, s2, s3, s4, s5, s6, s7, s8, rfl⟩ := len9 (show r.length = 9 from hN.1)
  have hR := hN.2.1.1
  have hIv : ∀ q ∈ ([(0, .negSucc 2147483647, .ofNat 2147483647), (1, .ofNat 0, .ofNat 0), (2, .ofNat 0, .ofNat 19), (3, .ofNat 0, .ofNat 6560), (4, .ofNat 1, .ofNat 1), (5, .negSucc 2147483647, .ofNat 2147483647), (6, .negSucc 2147483647, .ofNat 2147483647), (7, .ofNat 13, .ofNat 13), (8, .negSucc 2147483647, .ofNat 2147483647)] : sIv), ∃ x, ([s0, s1, s2, s3, s4, s5, s6, s7, s8] : List Int)[q.1]? = some x ∧ q.2.1 ≤ x ∧ x ≤ q.2.2 := hN.2.1.2
  have b1 : (0 : Int) ≤ s1 ∧ s1 ≤ (0 : Int) := ivX (q := (1, .ofNat 0, .ofNat 0)) (y := s1) (hIv _ (.tail _ (.head _))) rfl
  have b2 : (0 : Int) ≤ s2 ∧ s2 ≤ (19 : Int) := ivX (q := (2, .ofNat 0, .ofNat 19)) (y := s2) (hIv _ (.tail _ (.tail _ (.head _)))) rfl
  have b3 : (0 : Int) ≤ s3 ∧ s3 ≤ (6560 : Int) := ivX (q := (3, .ofNat 0, .ofNat 6560)) (y := s3) (hIv _ (.tail _ (.tail _ (.tail _ (.head _))))) rfl
  have b4 : (1 : Int) ≤ s4 ∧ s4 ≤ (1 : Int) := ivX (q := (4, .ofNat 1, .ofNat 1)) (y := s4) (hIv _ (.tail _ (.tail _ (.tail _ (.tail _ (.head _)))))) rfl
  have b7 : (13 : Int) ≤ s7 ∧ s7 ≤ (13 : Int) := ivX (q := (7, .ofNat 13, .ofNat 13)) (y := s7) (hIv _ (.tail _ (.tail _ (.tail _ (.tail _ (.tail _ (.tail _ (.tail _ (.head _))))))))) rfl
  have hRf : ∀ q ∈ ([((40, .ofNat 173, []), (.ofNat 9, []), 1, .ofNat 0, [])] : List sRf), rfOk [s0, s1, s2, s3, s4, s5, s6, s7, s8] hp q := hH.1
  have h0 : hI hp 173 9 = 0 := rfI0 (hRf _ (.head _)) (sE_k _ _) (sE_k _ _) (sE_k _ _)
  have hFc : ∀ q ∈ ([(192, [(.ofNat 0, [(.ofNat 1, 0)]), (.ofNat 0, [(.ofNat 1, 1)]), (.ofNat 0, [(.ofNat 1, 2)]), (.ofNat 0, [(.ofNat 1, 3)]), (.ofNat 0, [(.ofNat 1, 4)]), (.ofNat 0, [(.ofNat 1, 5)]), (.ofNat 0, [(.ofNat 1, 6)]), (.ofNat 0, [(.ofNat 1, 7)])]), (199, [(.ofNat 0, [(.ofNat 1, 3)]), (.ofNat 3, [])]), (200, [(.ofNat 0, [(.ofNat 1, 3)]), (.ofNat 0, [(.ofNat 1, 8)])])] : List sFc), fcOk fFS [s0, s1, s2, s3, s4, s5, s6, s7, s8] hp q := hH.2
  have f0 : SHq (XT hp) (nmR hp (xnm hp)) s0 s1 s2 s3 s4 s5 s6 s7 ∧ s4 ≠ 4 := fcX (ys := [s0, s1, s2, s3, s4, s5, s6, s7]) (hFc _ (.head _)) ⟨sE_V rfl, sE_V rfl, sE_V rfl, sE_V rfl, sE_V rfl, sE_V rfl, sE_V rfl, sE_V rfl, trivial⟩
  have f1 : (3 : Int) = dp s3 + 1 := fcX (ys := [s3, 3]) (hFc _ (.tail _ (.head _))) ⟨sE_V rfl, sE_k _ _, trivial⟩
  have f2 : s8 = nr s3 := fcX (ys := [s3, s8]) (hFc _ (.tail _ (.tail _ (.head _)))) ⟨sE_V rfl, sE_V rfl, trivial⟩
  have ud : dp s3 ≤ 7 := by omega
  have ut := dp_lt (t := s3) (by omega) ud
  exact poX (.head _) rfl hR (all_nil) (all_nil) (all_cons ⟨[s6, 6, (s2 + 1), s8], ⟨sE_V rfl, sE_k _ _, sEv (y' := ((1 : Int) + ((1 : Int) * s2 + 0))) rfl (by omega), sE_V rfl, trivial⟩, (show SG (XT hp) (nmR hp (xnm hp)) s6 (6 : Int) (s2 + 1) s8 from sg_u f2 (s0_leaf f0.1 (by omega) (by omega) (by omega) (by omega) ud))⟩ (all_cons ⟨[s8, s8], ⟨sE_V rfl, sE_V rfl, trivial⟩, (show s8 = nr s8 from (by rw [f2]; exact (nr_nr (by omega) (by omega)).symm))⟩ (all_nil)))
theorem rl372 : ruOk fFS gR372 := by
  intro r hp hO hN hH
  obtain ⟨s0, s1, s2, s3, s4, s5, s6, s7, s8, rfl⟩ := len9 (show r.length = 9 from hN.1)
  have hR := hN.2.1.1
  have hIv : ∀ q ∈ ([(0, .negSucc 2147483647, .ofNat 2147483647), (1, .ofNat 0, .ofNat 0), (2, .ofNat 0, .ofNat 19), (3, .ofNat 0, .ofNat 6560), (4, .ofNat 1, .ofNat 1), (5, .negSucc 2147483647, .ofNat 2147483647), (6, .negSucc 2147483647, .ofNat 2147483647), (7, .ofNat 13, .ofNat 13), (8, .negSucc 2147483647, .ofNat 2147483647)] : sIv), ∃ x, ([s0, s1, s2, s3, s4, s5, s6, s7, s8] : List Int)[q.1]? = some x ∧ q.2.1 ≤ x ∧ x ≤ q.2.2 := hN.2.1.2
  have b1 : (0 : Int) ≤ s1 ∧ s1 ≤ (0 : Int) := ivX (q := (1, .ofNat 0, .ofNat 0)) (y := s1) (hIv _ (.tail _ (.head _))) rfl
  have b2 : (0 : Int) ≤ s2 ∧ s2 ≤ (19 : Int) := ivX (q := (2, .ofNat 0, .ofNat 19)) (y := s2) (hIv _ (.tail _ (.tail _ (.head _)))) rfl
  have b3 : (0 : Int) ≤ s3 ∧ s3 ≤ (6560 : Int) := ivX (q := (3, .ofNat 0, .ofNat 6560)) (y := s3) (hIv _ (.tail _ (.tail _ (.tail _ (.head _))))) rfl
  have b4 : (1 : Int) ≤ s4 ∧ s4 ≤ (1 : Int) := ivX (q := (4, .ofNat 1, .ofNat 1)) (y := s4) (hIv _ (.tail _ (.tail _ (.tail _ (.tail _ (.head _)))))) rfl
  have b7 : (13 : Int) ≤ s7 ∧ s7 ≤ (13 : Int) := ivX (q := (7, .ofNat 13, .ofNat 13)) (y := s7) (hIv _ (.tail _ (.tail _ (.tail _ (.tail _ (.tail _ (.tail _ (.tail _ (.head _))))))))) rfl
  have hRf : ∀ q ∈ ([((40, .ofNat 173, []), (.ofNat 9, []), 1, .ofNat 0, [])] : List sRf), rfOk [s0, s1, s2, s3, s4, s5, s6, s7, s8] hp q := hH.1
  have h0 : hI hp 173 9 = 0 := rfI0 (hRf _ (.head _)) (sE_k _ _) (sE_k _ _) (sE_k _ _)
  have hFc : ∀ q ∈ ([(192, [(.ofNat 0, [(.ofNat 1, 0)]), (.ofNat 0, [(.ofNat 1, 1)]), (.ofNat 0, [(.ofNat 1, 2)]), (.ofNat 0, [(.ofNat 1, 3)]), (.ofNat 0, [(.ofNat 1, 4)]), (.ofNat 0, [(.ofNat 1, 5)]), (.ofNat 0, [(.ofNat 1, 6)]), (.ofNat 0, [(.ofNat 1, 7)])]), (199, [(.ofNat 0, [(.ofNat 1, 3)]), (.ofNat 4, [])]), (200, [(.ofNat 0, [(.ofNat 1, 3)]), (.ofNat 0, [(.ofNat 1, 8)])])] : List sFc), fcOk fFS [s0, s1, s2, s3, s4, s5, s6, s7, s8] hp q := hH.2
  have f0 : SHq (XT hp) (nmR hp (xnm hp)) s0 s1 s2 s3 s4 s5 s6 s7 ∧ s4 ≠ 4 := fcX (ys := [s0, s1, s2, s3, s4, s5, s6, s7]) (hFc _ (.head _)) ⟨sE_V rfl, sE_V rfl, sE_V rfl, sE_V rfl, sE_V rfl, sE_V rfl, sE_V rfl, sE_V rfl, trivial⟩
  have f1 : (4 : Int) = dp s3 + 1 := fcX (ys := [s3, 4]) (hFc _ (.tail _ (.head _))) ⟨sE_V rfl, sE_k _ _, trivial⟩
  have f2 : s8 = nr s3 := fcX (ys := [s3, s8]) (hFc _ (.tail _ (.tail _ (.head _)))) ⟨sE_V rfl, sE_V rfl, trivial⟩
  have ud : dp s3 ≤ 7 := by omega
  have ut := dp_lt (t := s3) (by omega) ud
  exact poX (.head _) rfl hR (all_nil) (all_nil) (all_cons ⟨[s6, 6, (s2 + 1), s8], ⟨sE_V rfl, sE_k _ _, sEv (y' := ((1 : Int) + ((1 : Int) * s2 + 0))) rfl (by omega), sE_V rfl, trivial⟩, (show SG (XT hp) (nmR hp (xnm hp)) s6 (6 : Int) (s2 + 1) s8 from sg_u f2 (s0_leaf f0.1 (by omega) (by omega) (by omega) (by omega) ud))⟩ (all_cons ⟨[s8, s8], ⟨sE_V rfl, sE_V rfl, trivial⟩, (show s8 = nr s8 from (by rw [f2]; exact (nr_nr (by omega) (by omega)).symm))⟩ (all_nil)))
theorem rl373 : ruOk fFS gR373 := by
  intro r hp hO hN hH
  obtain ⟨s0, s1, s2, s3, s4, s5, s6, s7, s8, rfl⟩ := len9 (show r.length = 9 from hN.1)
  have hR := hN.2.1.1
  have hIv : ∀ q ∈ ([(0, .negSucc 2147483647, .ofNat 2147483647), (1, .ofNat 0, .ofNat 0), (2, .ofNat 0, .ofNat 19), (3, .ofNat 0, .ofNat 6560), (4, .ofNat 1, .ofNat 1), (5, .negSucc 2147483647, .ofNat 2147483647), (6, .negSucc 2147483647, .ofNat 2147483647), (7, .ofNat 13, .ofNat 13), (8, .negSucc 2147483647, .ofNat 2147483647)] : sIv), ∃ x, ([s0, s1, s2, s3, s4, s5, s6, s7, s8] : List Int)[q.1]? = some x ∧ q.2.1 ≤ x ∧ x ≤ q.2.2 := hN.2.1.2
  have b1 : (0 : Int) ≤ s1 ∧ s1 ≤ (0 : Int) := ivX (q := (1, .ofNat 0, .ofNat 0)) (y := s1) (hIv _ (.tail _ (.head _))) rfl
  have b2 : (0 : Int) ≤ s2 ∧ s2 ≤ (19 : Int) := ivX (q := (2, .ofNat 0, .ofNat 19)) (y := s2) (hIv _ (.tail _ (.tail _ (.head _)))) rfl
  have b3 : (0 : Int) ≤ s3 ∧ s3 ≤ (6560 : Int) := ivX (q := (3, .ofNat 0, .ofNat 6560)) (y := s3) (hIv _ (.tail _ (.tail _ (.tail _ (.head _))))) rfl
  have b4 : (1 : Int) ≤ s4 ∧ s4 ≤ (1 : Int) := ivX (q := (4, .ofNat 1, .ofNat 1)) (y := s4) (hIv _ (.tail _ (.tail _ (.tail _ (.tail _ (.head _)))))) rfl
  have b7 : (13 : Int) ≤ s7 ∧ s7 ≤ (13 : Int) := ivX (q := (7, .ofNat 13, .ofNat 13)) (y := s7) (hIv _ (.tail _ (.tail _ (.tail _ (.tail _ (.tail _ (.tail _ (.tail _ (.head _))))))))) rfl
  have hRf : ∀ q ∈ ([((40, .ofNat 173, []), (.ofNat 9, []), 1, .ofNat 0, [])] : List sRf), rfOk [s0, s1, s2, s3, s4, s5, s6, s7, s8] hp q := hH.1
  have h0 : hI hp 173 9 = 0 := rfI0 (hRf _ (.head _)) (sE_k _ _) (sE_k _ _) (sE_k _ _)
  have hFc : ∀ q ∈ ([(192, [(.ofNat 0, [(.ofNat 1, 0)]), (.ofNat 0, [(.ofNat 1, 1)]), (.ofNat 0, [(.ofNat 1, 2)]), (.ofNat 0, [(.ofNat 1, 3)]), (.ofNat 0, [(.ofNat 1, 4)]), (.ofNat 0, [(.ofNat 1, 5)]), (.ofNat 0, [(.ofNat 1, 6)]), (.ofNat 0, [(.ofNat 1, 7)])]), (199, [(.ofNat 0, [(.ofNat 1, 3)]), (.ofNat 5, [])]), (200, [(.ofNat 0, [(.ofNat 1, 3)]), (.ofNat 0, [(.ofNat 1, 8)])])] : List sFc), fcOk fFS [s0, s1, s2, s3, s4, s5, s6, s7, s8] hp q := hH.2
  have f0 : SHq (XT hp) (nmR hp (xnm hp)) s0 s1 s2 s3 s4 s5 s6 s7 ∧ s4 ≠ 4 := fcX (ys := [s0, s1, s2, s3, s4, s5, s6, s7]) (hFc _ (.head _)) ⟨sE_V rfl, sE_V rfl, sE_V rfl, sE_V rfl, sE_V rfl, sE_V rfl, sE_V rfl, sE_V rfl, trivial⟩
  have f1 : (5 : Int) = dp s3 + 1 := fcX (ys := [s3, 5]) (hFc _ (.tail _ (.head _))) ⟨sE_V rfl, sE_k _ _, trivial⟩
  have f2 : s8 = nr s3 := fcX (ys := [s3, s8]) (hFc _ (.tail _ (.tail _ (.head _)))) ⟨sE_V rfl, sE_V rfl, trivial⟩
  have ud : dp s3 ≤ 7 := by omega
  have ut := dp_lt (t := s3) (by omega) ud
  exact poX (.head _) rfl hR (all_nil) (all_nil) (all_cons ⟨[s6, 6, (s2 + 1), s8], ⟨sE_V rfl, sE_k _ _, sEv (y' := ((1 : Int) + ((1 : Int) * s2 + 0))) rfl (by omega), sE_V rfl, trivial⟩, (show SG (XT hp) (nmR hp (xnm hp)) s6 (6 : Int) (s2 + 1) s8 from sg_u f2 (s0_leaf f0.1 (by omega) (by omega) (by omega) (by omega) ud))⟩ (all_cons ⟨[s8, s8], ⟨sE_V rfl, sE_V rfl, trivial⟩, (show s8 = nr s8 from (by rw [f2]; exact (nr_nr (by omega) (by omega)).symm))⟩ (all_nil)))
theorem rl374 : ruOk fFS gR374 := by
  intro r hp hO hN hH
  obtain ⟨s0, s1, s2, s3, s4, s5, s6, s7, s8, rfl⟩ := len9 (show r.length = 9 from hN.1)
  have hR := hN.2.1.1
  have hIv : ∀ q ∈ ([(0, .negSucc 2147483647, .ofNat 2147483647), (1, .ofNat 0, .ofNat 0), (2, .ofNat 0, .ofNat 19), (3, .ofNat 0, .ofNat 6560), (4, .ofNat 1, .ofNat 1), (5, .negSucc 2147483647, .ofNat 2147483647), (6, .negSucc 2147483647, .ofNat 2147483647), (7, .ofNat 13, .ofNat 13), (8, .negSucc 2147483647, .ofNat 2147483647)] : sIv), ∃ x, ([s0, s1, s2, s3, s4, s5, s6, s7, s8] : List Int)[q.1]? = some x ∧ q.2.1 ≤ x ∧ x ≤ q.2.2 := hN.2.1.2
  have b1 : (0 : Int) ≤ s1 ∧ s1 ≤ (0 : Int) := ivX (q := (1, .ofNat 0, .ofNat 0)) (y := s1) (hIv _ (.tail _ (.head _))) rfl
  have b2 : (0 : Int) ≤ s2 ∧ s2 ≤ (19 : Int) := ivX (q := (2, .ofNat 0, .ofNat 19)) (y := s2) (hIv _ (.tail _ (.tail _ (.head _)))) rfl
  have b3 : (0 : Int) ≤ s3 ∧ s3 ≤ (6560 : Int) := ivX (q := (3, .ofNat 0, .ofNat 6560)) (y := s3) (hIv _ (.tail _ (.tail _ (.tail _ (.head _))))) rfl
  have b4 : (1 : Int) ≤ s4 ∧ s4 ≤ (1 : Int) := ivX (q := (4, .ofNat 1, .ofNat 1)) (y := s4) (hIv _ (.tail _ (.tail _ (.tail _ (.tail _ (.head _)))))) rfl
  have b7 : (13 : Int) ≤ s7 ∧ s7 ≤ (13 : Int) := ivX (q := (7, .ofNat 13, .ofNat 13)) (y := s7) (hIv _ (.tail _ (.tail _ (.tail _ (.tail _ (.tail _ (.tail _ (.tail _ (.head _))))))))) rfl
  have hRf : ∀ q ∈ ([((40, .ofNat 173, []), (.ofNat 9, []), 1, .ofNat 0, [])] : List sRf), rfOk [s0, s1, s2, s3, s4, s5, s6, s7, s8] hp q := hH.1
  have h0 : hI hp 173 9 = 0 := rfI0 (hRf _ (.head _)) (sE_k _ _) (sE_k _ _) (sE_k _ _)
  have hFc : ∀ q ∈ ([(192, [(.ofNat 0, [(.ofNat 1, 0)]), (.ofNat 0, [(.ofNat 1, 1)]), (.ofNat 0, [(.ofNat 1, 2)]), (.ofNat 0, [(.ofNat 1, 3)]), (.ofNat 0, [(.ofNat 1, 4)]), (.ofNat 0, [(.ofNat 1, 5)]), (.ofNat 0, [(.ofNat 1, 6)]), (.ofNat 0, [(.ofNat 1, 7)])]), (199, [(.ofNat 0, [(.ofNat 1, 3)]), (.ofNat 6, [])]), (200, [(.ofNat 0, [(.ofNat 1, 3)]), (.ofNat 0, [(.ofNat 1, 8)])])] : List sFc), fcOk fFS [s0, s1, s2, s3, s4, s5, s6, s7, s8] hp q := hH.2
  have f0 : SHq (XT hp) (nmR hp (xnm hp)) s0 s1 s2 s3 s4 s5 s6 s7 ∧ s4 ≠ 4 := fcX (ys := [s0, s1, s2, s3, s4, s5, s6, s7]) (hFc _ (.head _)) ⟨sE_V rfl, sE_V rfl, sE_V rfl, sE_V rfl, sE_V rfl, sE_V rfl, sE_V rfl, sE_V rfl, trivial⟩
  have f1 : (6 : Int) = dp s3 + 1 := fcX (ys := [s3, 6]) (hFc _ (.tail _ (.head _))) ⟨sE_V rfl, sE_k _ _, trivial⟩
  have f2 : s8 = nr s3 := fcX (ys := [s3, s8]) (hFc _ (.tail _ (.tail _ (.head _)))) ⟨sE_V rfl, sE_V rfl, trivial⟩
  have ud : dp s3 ≤ 7 := by omega
  have ut := dp_lt (t := s3) (by omega) ud
  exact poX (.head _) rfl hR (all_nil) (all_nil) (all_cons ⟨[s6, 6, (s2 + 1), s8], ⟨sE_V rfl, sE_k _ _, sEv (y' := ((1 : Int) + ((1 : Int) * s2 + 0))) rfl (by omega), sE_V rfl, trivial⟩, (show SG (XT hp) (nmR hp (xnm hp)) s6 (6 : Int) (s2 + 1) s8 from sg_u f2 (s0_leaf f0.1 (by omega) (by omega) (by omega) (by omega) ud))⟩ (all_cons ⟨[s8, s8], ⟨sE_V rfl, sE_V rfl, trivial⟩, (show s8 = nr s8 from (by rw [f2]; exact (nr_nr (by omega) (by omega)).symm))⟩ (all_nil)))
theorem rl375 : ruOk fFS gR375 := by
  intro r hp hO hN hH
  obtain ⟨s0, s1, s2, s3, s4, s5, s6, s7, s8, rfl⟩ := len9 (show r.length = 9 from hN.1)
  have hR := hN.2.1.1
  have hIv : ∀ q ∈ ([(0, .negSucc 2147483647, .ofNat 2147483647), (1, .ofNat 0, .ofNat 0), (2, .ofNat 0, .ofNat 19), (3, .ofNat 0, .ofNat 6560), (4, .ofNat 1, .ofNat 1), (5, .negSucc 2147483647, .ofNat 2147483647), (6, .negSucc 2147483647, .ofNat 2147483647), (7, .ofNat 13, .ofNat 13), (8, .negSucc 2147483647, .ofNat 2147483647)] : sIv), ∃ x, ([s0, s1, s2, s3, s4, s5, s6, s7, s8] : List Int)[q.1]? = some x ∧ q.2.1 ≤ x ∧ x ≤ q.2.2 := hN.2.1.2
  have b1 : (0 : Int) ≤ s1 ∧ s1 ≤ (0 : Int) := ivX (q := (1, .ofNat 0, .ofNat 0)) (y := s1) (hIv _ (.tail _ (.head _))) rfl
  have b2 : (0 : Int) ≤ s2 ∧ s2 ≤ (19 : Int) := ivX (q := (2, .ofNat 0, .ofNat 19)) (y := s2) (hIv _ (.tail _ (.tail _ (.head _)))) rfl
  have b3 : (0 : Int) ≤ s3 ∧ s3 ≤ (6560 : Int) := ivX (q := (3, .ofNat 0, .ofNat 6560)) (y := s3) (hIv _ (.tail _ (.tail _ (.tail _ (.head _))))) rfl
  have b4 : (1 : Int) ≤ s4 ∧ s4 ≤ (1 : Int) := ivX (q := (4, .ofNat 1, .ofNat 1)) (y := s4) (hIv _ (.tail _ (.tail _ (.tail _ (.tail _ (.head _)))))) rfl
  have b7 : (13 : Int) ≤ s7 ∧ s7 ≤ (13 : Int) := ivX (q := (7, .ofNat 13, .ofNat 13)) (y := s7) (hIv _ (.tail _ (.tail _ (.tail _ (.tail _ (.tail _ (.tail _ (.tail _ (.head _))))))))) rfl
  have hRf : ∀ q ∈ ([((40, .ofNat 173, []), (.ofNat 9, []), 1, .ofNat 0, [])] : List sRf), rfOk [s0, s1, s2, s3, s4, s5, s6, s7, s8] hp q := hH.1
  have h0 : hI hp 173 9 = 0 := rfI0 (hRf _ (.head _)) (sE_k _ _) (sE_k _ _) (sE_k _ _)
  have hFc : ∀ q ∈ ([(192, [(.ofNat 0, [(.ofNat 1, 0)]), (.ofNat 0, [(.ofNat 1, 1)]), (.ofNat 0, [(.ofNat 1, 2)]), (.ofNat 0, [(.ofNat 1, 3)]), (.ofNat 0, [(.ofNat 1, 4)]), (.ofNat 0, [(.ofNat 1, 5)]), (.ofNat 0, [(.ofNat 1, 6)]), (.ofNat 0, [(.ofNat 1, 7)])]), (199, [(.ofNat 0, [(.ofNat 1, 3)]), (.ofNat 7, [])]), (200, [(.ofNat 0, [(.ofNat 1, 3)]), (.ofNat 0, [(.ofNat 1, 8)])])] : List sFc), fcOk fFS [s0, s1, s2, s3, s4, s5, s6, s7, s8] hp q := hH.2
  have f0 : SHq (XT hp) (nmR hp (xnm hp)) s0 s1 s2 s3 s4 s5 s6 s7 ∧ s4 ≠ 4 := fcX (ys := [s0, s1, s2, s3, s4, s5, s6, s7]) (hFc _ (.head _)) ⟨sE_V rfl, sE_V rfl, sE_V rfl, sE_V rfl, sE_V rfl, sE_V rfl, sE_V rfl, sE_V rfl, trivial⟩
  have f1 : (7 : Int) = dp s3 + 1 := fcX (ys := [s3, 7]) (hFc _ (.tail _ (.head _))) ⟨sE_V rfl, sE_k _ _, trivial⟩
  have f2 : s8 = nr s3 := fcX (ys := [s3, s8]) (hFc _ (.tail _ (.tail _ (.head _)))) ⟨sE_V rfl, sE_V rfl, trivial⟩
  have ud : dp s3 ≤ 7 := by omega
  have ut := dp_lt (t := s3) (by omega) ud
  exact poX (.head _) rfl hR (all_nil) (all_nil) (all_cons ⟨[s6, 6, (s2 + 1), s8], ⟨sE_V rfl, sE_k _ _, sEv (y' := ((1 : Int) + ((1 : Int) * s2 + 0))) rfl (by omega), sE_V rfl, trivial⟩, (show SG (XT hp) (nmR hp (xnm hp)) s6 (6 : Int) (s2 + 1) s8 from sg_u f2 (s0_leaf f0.1 (by omega) (by omega) (by omega) (by omega) ud))⟩ (all_cons ⟨[s8, s8], ⟨sE_V rfl, sE_V rfl, trivial⟩, (show s8 = nr s8 from (by rw [f2]; exact (nr_nr (by omega) (by omega)).symm))⟩ (all_nil)))
theorem rl376 : ruOk fFS gR376 := by
  intro r hp hO hN hH
  obtain ⟨s0, s1, s2, s3, s4, s5, s6, s7, s8, rfl⟩ := len9 (show r.length = 9 from hN.1)
  have hR := hN.2.1.1
  have hIv : ∀ q ∈ ([(0, .negSucc 2147483647, .ofNat 2147483647), (1, .ofNat 0, .ofNat 0), (2, .ofNat 0, .ofNat 19), (3, .ofNat 0, .ofNat 6560), (4, .ofNat 1, .ofNat 1), (5, .negSucc 2147483647, .ofNat 2147483647), (6, .negSucc 2147483647, .ofNat 2147483647), (7, .ofNat 13, .ofNat 13), (8, .negSucc 2147483647, .ofNat 2147483647)] : sIv), ∃ x, ([s0, s1, s2, s3, s4, s5, s6, s7, s8] : List Int)[q.1]? = some x ∧ q.2.1 ≤ x ∧ x ≤ q.2.2 := hN.2.1.2
  have b1 : (0 : Int) ≤ s1 ∧ s1 ≤ (0 : Int) := ivX (q := (1, .ofNat 0, .ofNat 0)) (y := s1) (hIv _ (.tail _ (.head _))) rfl
  have b2 : (0 : Int) ≤ s2 ∧ s2 ≤ (19 : Int) := ivX (q := (2, .ofNat 0, .ofNat 19)) (y := s2) (hIv _ (.tail _ (.tail _ (.head _)))) rfl
  have b3 : (0 : Int) ≤ s3 ∧ s3 ≤ (6560 : Int) := ivX (q := (3, .ofNat 0, .ofNat 6560)) (y := s3) (hIv _ (.tail _ (.tail _ (.tail _ (.head _))))) rfl
  have b4 : (1 : Int) ≤ s4 ∧ s4 ≤ (1 : Int) := ivX (q := (4, .ofNat 1, .ofNat 1)) (y := s4) (hIv _ (.tail _ (.tail _ (.tail _ (.tail _ (.head _)))))) rfl
  have b7 : (13 : Int) ≤ s7 ∧ s7 ≤ (13 : Int) := ivX (q := (7, .ofNat 13, .ofNat 13)) (y := s7) (hIv _ (.tail _ (.tail _ (.tail _ (.tail _ (.tail _ (.tail _ (.tail _ (.head _))))))))) rfl
  have hRf : ∀ q ∈ ([((40, .ofNat 173, []), (.ofNat 9, []), 1, .ofNat 0, [])] : List sRf), rfOk [s0, s1, s2, s3, s4, s5, s6, s7, s8] hp q := hH.1
  have h0 : hI hp 173 9 = 0 := rfI0 (hRf _ (.head _)) (sE_k _ _) (sE_k _ _) (sE_k _ _)
  have hFc : ∀ q ∈ ([(192, [(.ofNat 0, [(.ofNat 1, 0)]), (.ofNat 0, [(.ofNat 1, 1)]), (.ofNat 0, [(.ofNat 1, 2)]), (.ofNat 0, [(.ofNat 1, 3)]), (.ofNat 0, [(.ofNat 1, 4)]), (.ofNat 0, [(.ofNat 1, 5)]), (.ofNat 0, [(.ofNat 1, 6)]), (.ofNat 0, [(.ofNat 1, 7)])]), (199, [(.ofNat 0, [(.ofNat 1, 3)]), (.ofNat 8, [])]), (200, [(.ofNat 0, [(.ofNat 1, 3)]), (.ofNat 0, [(.ofNat 1, 8)])])] : List sFc), fcOk fFS [s0, s1, s2, s3, s4, s5, s6, s7, s8] hp q := hH.2
  have f0 : SHq (XT hp) (nmR hp (xnm hp)) s0 s1 s2 s3 s4 s5 s6 s7 ∧ s4 ≠ 4 := fcX (ys := [s0, s1, s2, s3, s4, s5, s6, s7]) (hFc _ (.head _)) ⟨sE_V rfl, sE_V rfl, sE_V rfl, sE_V rfl, sE_V rfl, sE_V rfl, sE_V rfl, sE_V rfl, trivial⟩
  have f1 : (8 : Int) = dp s3 + 1 := fcX (ys := [s3, 8]) (hFc _ (.tail _ (.head _))) ⟨sE_V rfl, sE_k _ _, trivial⟩
  have f2 : s8 = nr s3 := fcX (ys := [s3, s8]) (hFc _ (.tail _ (.tail _ (.head _)))) ⟨sE_V rfl, sE_V rfl, trivial⟩
  have ud : dp s3 ≤ 7 := by omega
  have ut := dp_lt (t := s3) (by omega) ud
  exact poX (.head _) rfl hR (all_nil) (all_nil) (all_cons ⟨[s6, 6, (s2 + 1), s8], ⟨sE_V rfl, sE_k _ _, sEv (y' := ((1 : Int) + ((1 : Int) * s2 + 0))) rfl (by omega), sE_V rfl, trivial⟩, (show SG (XT hp) (nmR hp (xnm hp)) s6 (6 : Int) (s2 + 1) s8 from sg_u f2 (s0_leaf f0.1 (by omega) (by omega) (by omega) (by omega) ud))⟩ (all_cons ⟨[s8, s8], ⟨sE_V rfl, sE_V rfl, trivial⟩, (show s8 = nr s8 from (by rw [f2]; exact (nr_nr (by omega) (by omega)).symm))⟩ (all_nil)))
theorem rl377 : ruOk fFS gR377 := by
  intro r hp hO hN hH
  obtain ⟨s0, s1, s2, s3, s4, s5, s6, s7, s8, rfl⟩ := len9 (show r.length = 9 from hN.1)
  have hR := hN.2.1.1
  have hIv : ∀ q ∈ ([(0, .negSucc 2147483647, .ofNat 2147483647), (1, .ofNat 0, .ofNat 0), (2, .ofNat 0, .ofNat 19), (3, .ofNat 0, .ofNat 6560), (4, .ofNat 1, .ofNat 1), (5, .negSucc 2147483647, .ofNat 2147483647), (6, .negSucc 2147483647, .ofNat 2147483647), (7, .ofNat 22, .ofNat 22), (8, .negSucc 2147483647, .ofNat 2147483647)] : sIv), ∃ x, ([s0, s1, s2, s3, s4, s5, s6, s7, s8] : List Int)[q.1]? = some x ∧ q.2.1 ≤ x ∧ x ≤ q.2.2 := hN.2.1.2
  have b1 : (0 : Int) ≤ s1 ∧ s1 ≤ (0 : Int) := ivX (q := (1, .ofNat 0, .ofNat 0)) (y := s1) (hIv _ (.tail _ (.head _))) rfl
  have b2 : (0 : Int) ≤ s2 ∧ s2 ≤ (19 : Int) := ivX (q := (2, .ofNat 0, .ofNat 19)) (y := s2) (hIv _ (.tail _ (.tail _ (.head _)))) rfl
  have b3 : (0 : Int) ≤ s3 ∧ s3 ≤ (6560 : Int) := ivX (q := (3, .ofNat 0, .ofNat 6560)) (y := s3) (hIv _ (.tail _ (.tail _ (.tail _ (.head _))))) rfl
  have b4 : (1 : Int) ≤ s4 ∧ s4 ≤ (1 : Int) := ivX (q := (4, .ofNat 1, .ofNat 1)) (y := s4) (hIv _ (.tail _ (.tail _ (.tail _ (.tail _ (.head _)))))) rfl
  have b7 : (22 : Int) ≤ s7 ∧ s7 ≤ (22 : Int) := ivX (q := (7, .ofNat 22, .ofNat 22)) (y := s7) (hIv _ (.tail _ (.tail _ (.tail _ (.tail _ (.tail _ (.tail _ (.tail _ (.head _))))))))) rfl
  have hRf : ∀ q ∈ ([((40, .ofNat 173, []), (.ofNat 9, []), 1, .ofNat 0, [])] : List sRf), rfOk [s0, s1, s2, s3, s4, s5, s6, s7, s8] hp q := hH.1
  have h0 : hI hp 173 9 = 0 := rfI0 (hRf _ (.head _)) (sE_k _ _) (sE_k _ _) (sE_k _ _)
  have hFc : ∀ q ∈ ([(192, [(.ofNat 0, [(.ofNat 1, 0)]), (.ofNat 0, [(.ofNat 1, 1)]), (.ofNat 0, [(.ofNat 1, 2)]), (.ofNat 0, [(.ofNat 1, 3)]), (.ofNat 0, [(.ofNat 1, 4)]), (.ofNat 0, [(.ofNat 1, 5)]), (.ofNat 0, [(.ofNat 1, 6)]), (.ofNat 0, [(.ofNat 1, 7)])]), (199, [(.ofNat 0, [(.ofNat 1, 3)]), (.ofNat 1, [])]), (200, [(.ofNat 0, [(.ofNat 1, 3)]), (.ofNat 0, [(.ofNat 1, 8)])])] : List sFc), fcOk fFS [s0, s1, s2, s3, s4, s5, s6, s7, s8] hp q := hH.2
  have f0 : SHq (XT hp) (nmR hp (xnm hp)) s0 s1 s2 s3 s4 s5 s6 s7 ∧ s4 ≠ 4 := fcX (ys := [s0, s1, s2, s3, s4, s5, s6, s7]) (hFc _ (.head _)) ⟨sE_V rfl, sE_V rfl, sE_V rfl, sE_V rfl, sE_V rfl, sE_V rfl, sE_V rfl, sE_V rfl, trivial⟩
  have f1 : (1 : Int) = dp s3 + 1 := fcX (ys := [s3, 1]) (hFc _ (.tail _ (.head _))) ⟨sE_V rfl, sE_k _ _, trivial⟩
  have f2 : s8 = nr s3 := fcX (ys := [s3, s8]) (hFc _ (.tail _ (.tail _ (.head _)))) ⟨sE_V rfl, sE_V rfl, trivial⟩
  have ud : dp s3 ≤ 7 := by omega
  have ut := dp_lt (t := s3) (by omega) ud
  exact poX (.head _) rfl hR (all_nil) (all_nil) (all_cons ⟨[s6, 6, (s2 + 1), s8], ⟨sE_V rfl, sE_k _ _, sEv (y' := ((1 : Int) + ((1 : Int) * s2 + 0))) rfl (by omega), sE_V rfl, trivial⟩, (show SG (XT hp) (nmR hp (xnm hp)) s6 (6 : Int) (s2 + 1) s8 from sg_u f2 (s0_leaf f0.1 (by omega) (by omega) (by omega) (by omega) ud))⟩ (all_cons ⟨[s8, s8], ⟨sE_V rfl, sE_V rfl, trivial⟩, (show s8 = nr s8 from (by rw [f2]; exact (nr_nr (by omega) (by omega)).symm))⟩ (all_nil)))
theorem rl378 : ruOk fFS gR378 := by
  intro r hp hO hN hH
  obtain ⟨s0, s1, s2, s3, s4, s5, s6, s7, s8, rfl⟩ := len9 (show r.length = 9 from hN.1)
  have hR := hN.2.1.1
  have hIv : ∀ q ∈ ([(0, .negSucc 2147483647, .ofNat 2147483647), (1, .ofNat 0, .ofNat 0), (2, .ofNat 0, .ofNat 19), (3, .ofNat 0, .ofNat 6560), (4, .ofNat 1, .ofNat 1), (5, .negSucc 2147483647, .ofNat 2147483647), (6, .negSucc 2147483647, .ofNat 2147483647), (7, .ofNat 22, .ofNat 22), (8, .negSucc 2147483647, .ofNat 2147483647)] : sIv), ∃ x, ([s0, s1, s2, s3, s4, s5, s6, s7, s8] : List Int)[q.1]? = some x ∧ q.2.1 ≤ x ∧ x ≤ q.2.2 := hN.2.1.2
  have b1 : (0 : Int) ≤ s1 ∧ s1 ≤ (0 : Int) := ivX (q := (1, .ofNat 0, .ofNat 0)) (y := s1) (hIv _ (.tail _ (.head _))) rfl
  have b2 : (0 : Int) ≤ s2 ∧ s2 ≤ (19 : Int) := ivX (q := (2, .ofNat 0, .ofNat 19)) (y := s2) (hIv _ (.tail _ (.tail _ (.head _)))) rfl
  have b3 : (0 : Int) ≤ s3 ∧ s3 ≤ (6560 : Int) := ivX (q := (3, .ofNat 0, .ofNat 6560)) (y := s3) (hIv _ (.tail _ (.tail _ (.tail _ (.head _))))) rfl
  have b4 : (1 : Int) ≤ s4 ∧ s4 ≤ (1 : Int) := ivX (q := (4, .ofNat 1, .ofNat 1)) (y := s4) (hIv _ (.tail _ (.tail _ (.tail _ (.tail _ (.head _)))))) rfl
  have b7 : (22 : Int) ≤ s7 ∧ s7 ≤ (22 : Int) := ivX (q := (7, .ofNat 22, .ofNat 22)) (y := s7) (hIv _ (.tail _ (.tail _ (.tail _ (.tail _ (.tail _ (.tail _ (.tail _ (.head _))))))))) rfl
  have hRf : ∀ q ∈ ([((40, .ofNat 173, []), (.ofNat 9, []), 1, .ofNat 0, [])] : List sRf), rfOk [s0, s1, s2, s3, s4, s5, s6, s7, s8] hp q := hH.1
  have h0 : hI hp 173 9 = 0 := rfI0 (hRf _ (.head _)) (sE_k _ _) (sE_k _ _) (sE_k _ _)
  have hFc : ∀ q ∈ ([(192, [(.ofNat 0, [(.ofNat 1, 0)]), (.ofNat 0, [(.ofNat 1, 1)]), (.ofNat 0, [(.ofNat 1, 2)]), (.ofNat 0, [(.ofNat 1, 3)]), (.ofNat 0, [(.ofNat 1, 4)]), (.ofNat 0, [(.ofNat 1, 5)]), (.ofNat 0, [(.ofNat 1, 6)]), (.ofNat 0, [(.ofNat 1, 7)])]), (199, [(.ofNat 0, [(.ofNat 1, 3)]), (.ofNat 2, [])]), (200, [(.ofNat 0, [(.ofNat 1, 3)]), (.ofNat 0, [(.ofNat 1, 8)])])] : List sFc), fcOk fFS [s0, s1, s2, s3, s4, s5, s6, s7, s8] hp q := hH.2
  have f0 : SHq (XT hp) (nmR hp (xnm hp)) s0 s1 s2 s3 s4 s5 s6 s7 ∧ s4 ≠ 4 := fcX (ys := [s0, s1, s2, s3, s4, s5, s6, s7]) (hFc _ (.head _)) ⟨sE_V rfl, sE_V rfl, sE_V rfl, sE_V rfl, sE_V rfl, sE_V rfl, sE_V rfl, sE_V rfl, trivial⟩
  have f1 : (2 : Int) = dp s3 + 1 := fcX (ys := [s3, 2]) (hFc _ (.tail _ (.head _))) ⟨sE_V rfl, sE_k _ _, trivial⟩
  have f2 : s8 = nr s3 := fcX (ys := [s3, s8]) (hFc _ (.tail _ (.tail _ (.head _)))) ⟨sE_V rfl, sE_V rfl, trivial⟩
  have ud : dp s3 ≤ 7 := by omega
  have ut := dp_lt (t := s3) (by omega) ud
  exact poX (.head _) rfl hR (all_nil) (all_nil) (all_cons ⟨[s6, 6, (s2 + 1), s8], ⟨sE_V rfl, sE_k _ _, sEv (y' := ((1 : Int) + ((1 : Int) * s2 + 0))) rfl (by omega), sE_V rfl, trivial⟩, (show SG (XT hp) (nmR hp (xnm hp)) s6 (6 : Int) (s2 + 1) s8 from sg_u f2 (s0_leaf f0.1 (by omega) (by omega) (by omega) (by omega) ud))⟩ (all_cons ⟨[s8, s8], ⟨sE_V rfl, sE_V rfl, trivial⟩, (show s8 = nr s8 from (by rw [f2]; exact (nr_nr (by omega) (by omega)).symm))⟩ (all_nil)))
theorem rl379 : ruOk fFS gR379 := by
  intro r hp hO hN hH
  obtain ⟨s0, s1, s2, s3, s4, s5, s6, s7, s8, rfl⟩ := len9 (show r.length = 9 from hN.1)
  have hR := hN.2.1.1
  have hIv : ∀ q ∈ ([(0, .negSucc 2147483647, .ofNat 2147483647), (1, .ofNat 0, .ofNat 0), (2, .ofNat 0, .ofNat 19), (3, .ofNat 0, .ofNat 6560), (4, .ofNat 1, .ofNat 1), (5, .negSucc 2147483647, .ofNat 2147483647), (6, .negSucc 2147483647, .ofNat 2147483647), (7, .ofNat 22, .ofNat 22), (8, .negSucc 2147483647, .ofNat 2147483647)] : sIv), ∃ x, ([s0, s1, s2, s3, s4, s5, s6, s7, s8] : List Int)[q.1]? = some x ∧ q.2.1 ≤ x ∧ x ≤ q.2.2 := hN.2.1.2
  have b1 : (0 : Int) ≤ s1 ∧ s1 ≤ (0 : Int) := ivX (q := (1, .ofNat 0, .ofNat 0)) (y := s1) (hIv _ (.tail _ (.head _))) rfl
  have b2 : (0 : Int) ≤ s2 ∧ s2 ≤ (19 : Int) := ivX (q := (2, .ofNat 0, .ofNat 19)) (y := s2) (hIv _ (.tail _ (.tail _ (.head _)))) rfl
  have b3 : (0 : Int) ≤ s3 ∧ s3 ≤ (6560 : Int) := ivX (q := (3, .ofNat 0, .ofNat 6560)) (y := s3) (hIv _ (.tail _ (.tail _ (.tail _ (.head _))))) rfl
  have b4 : (1 : Int) ≤ s4 ∧ s4 ≤ (1 : Int) := ivX (q := (4, .ofNat 1, .ofNat 1)) (y := s4) (hIv _ (.tail _ (.tail _ (.tail _ (.tail _ (.head _)))))) rfl
  have b7 : (22 : Int) ≤ s7 ∧ s7 ≤ (22 : Int) := ivX (q := (7, .ofNat 22, .ofNat 22)) (y := s7) (hIv _ (.tail _ (.tail _ (.tail _ (.tail _ (.tail _ (.tail _ (.tail _ (.head _))))))))) rfl
  have hRf : ∀ q ∈ ([((40, .ofNat 173, []), (.ofNat 9, []), 1, .ofNat 0, [])] : List sRf), rfOk [s0, s1, s2, s3, s4, s5, s6, s7, s8] hp q := hH.1
  have h0 : hI hp 173 9 = 0 := rfI0 (hRf _ (.head _)) (sE_k _ _) (sE_k _ _) (sE_k _ _)
  have hFc : ∀ q ∈ ([(192, [(.ofNat 0, [(.ofNat 1, 0)]), (.ofNat 0, [(.ofNat 1, 1)]), (.ofNat 0, [(.ofNat 1, 2)]), (.ofNat 0, [(.ofNat 1, 3)]), (.ofNat 0, [(.ofNat 1, 4)]), (.ofNat 0, [(.ofNat 1, 5)]), (.ofNat 0, [(.ofNat 1, 6)]), (.ofNat 0, [(.ofNat 1, 7)])]), (199, [(.ofNat 0, [(.ofNat 1, 3)]), (.ofNat 3, [])]), (200, [(.ofNat 0, [(.ofNat 1, 3)]), (.ofNat 0, [(.ofNat 1, 8)])])] : List sFc), fcOk fFS [s0, s1, s2, s3, s4, s5, s6, s7, s8] hp q := hH.2
  have f0 : SHq (XT hp) (nmR hp (xnm hp)) s0 s1 s2 s3 s4 s5 s6 s7 ∧ s4 ≠ 4 := fcX (ys := [s0, s1, s2, s3, s4, s5, s6, s7]) (hFc _ (.head _)) ⟨sE_V rfl, sE_V rfl, sE_V rfl, sE_V rfl, sE_V rfl, sE_V rfl, sE_V rfl, sE_V rfl, trivial⟩
  have f1 : (3 : Int) = dp s3 + 1 := fcX (ys := [s3, 3]) (hFc _ (.tail _ (.head _))) ⟨sE_V rfl, sE_k _ _, trivial⟩
  have f2 : s8 = nr s3 := fcX (ys := [s3, s8]) (hFc _ (.tail _ (.tail _ (.head _)))) ⟨sE_V rfl, sE_V rfl, trivial⟩
  have ud : dp s3 ≤ 7 := by omega
  have ut := dp_lt (t := s3) (by omega) ud
  exact poX (.head _) rfl hR (all_nil) (all_nil) (all_cons ⟨[s6, 6, (s2 + 1), s8], ⟨sE_V rfl, sE_k _ _, sEv (y' := ((1 : Int) + ((1 : Int) * s2 + 0))) rfl (by omega), sE_V rfl, trivial⟩, (show SG (XT hp) (nmR hp (xnm hp)) s6 (6 : Int) (s2 + 1) s8 from sg_u f2 (s0_leaf f0.1 (by omega) (by omega) (by omega) (by omega) ud))⟩ (all_cons ⟨[s8, s8], ⟨sE_V rfl, sE_V rfl, trivial⟩, (show s8 = nr s8 from (by rw [f2]; exact (nr_nr (by omega) (by omega)).symm))⟩ (all_nil)))
theorem rl380 : ruOk fFS gR380 := by
  intro r hp hO hN hH
  obtain ⟨s0, s1, s2, s3, s4, s5, s6, s7, s8, rfl⟩ := len9 (show r.length = 9 from hN.1)
  have hR := hN.2.1.1
  have hIv : ∀ q ∈ ([(0, .negSucc 2147483647, .ofNat 2147483647), (1, .ofNat 0, .ofNat 0), (2, .ofNat 0, .ofNat 19), (3, .ofNat 0, .ofNat 6560), (4, .ofNat 1, .ofNat 1), (5, .negSucc 2147483647, .ofNat 2147483647), (6, .negSucc 2147483647, .ofNat 2147483647), (7, .ofNat 22, .ofNat 22), (8, .negSucc 2147483647, .ofNat 2147483647)] : sIv), ∃ x, ([s0, s1, s2, s3, s4, s5, s6, s7, s8] : List Int)[q.1]? = some x ∧ q.2.1 ≤ x ∧ x ≤ q.2.2 := hN.2.1.2
  have b1 : (0 : Int) ≤ s1 ∧ s1 ≤ (0 : Int) := ivX (q := (1, .ofNat 0, .ofNat 0)) (y := s1) (hIv _ (.tail _ (.head _))) rfl
  have b2 : (0 : Int) ≤ s2 ∧ s2 ≤ (19 : Int) := ivX (q := (2, .ofNat 0, .ofNat 19)) (y := s2) (hIv _ (.tail _ (.tail _ (.head _)))) rfl
  have b3 : (0 : Int) ≤ s3 ∧ s3 ≤ (6560 : Int) := ivX (q := (3, .ofNat 0, .ofNat 6560)) (y := s3) (hIv _ (.tail _ (.tail _ (.tail _ (.head _))))) rfl
  have b4 : (1 : Int) ≤ s4 ∧ s4 ≤ (1 : Int) := ivX (q := (4, .ofNat 1, .ofNat 1)) (y := s4) (hIv _ (.tail _ (.tail _ (.tail _ (.tail _ (.head _)))))) rfl
  have b7 : (22 : Int) ≤ s7 ∧ s7 ≤ (22 : Int) := ivX (q := (7, .ofNat 22, .ofNat 22)) (y := s7) (hIv _ (.tail _ (.tail _ (.tail _ (.tail _ (.tail _ (.tail _ (.tail _ (.head _))))))))) rfl
  have hRf : ∀ q ∈ ([((40, .ofNat 173, []), (.ofNat 9, []), 1, .ofNat 0, [])] : List sRf), rfOk [s0, s1, s2, s3, s4, s5, s6, s7, s8] hp q := hH.1
  have h0 : hI hp 173 9 = 0 := rfI0 (hRf _ (.head _)) (sE_k _ _) (sE_k _ _) (sE_k _ _)
  have hFc : ∀ q ∈ ([(192, [(.ofNat 0, [(.ofNat 1, 0)]), (.ofNat 0, [(.ofNat 1, 1)]), (.ofNat 0, [(.ofNat 1, 2)]), (.ofNat 0, [(.ofNat 1, 3)]), (.ofNat 0, [(.ofNat 1, 4)]), (.ofNat 0, [(.ofNat 1, 5)]), (.ofNat 0, [(.ofNat 1, 6)]), (.ofNat 0, [(.ofNat 1, 7)])]), (199, [(.ofNat 0, [(.ofNat 1, 3)]), (.ofNat 4, [])]), (200, [(.ofNat 0, [(.ofNat 1, 3)]), (.ofNat 0, [(.ofNat 1, 8)])])] : List sFc), fcOk fFS [s0, s1, s2, s3, s4, s5, s6, s7, s8] hp q := hH.2
  have f0 : SHq (XT hp) (nmR hp (xnm hp)) s0 s1 s2 s3 s4 s5 s6 s7 ∧ s4 ≠ 4 := fcX (ys := [s0, s1, s2, s3, s4, s5, s6, s7]) (hFc _ (.head _)) ⟨sE_V rfl, sE_V rfl, sE_V rfl, sE_V rfl, sE_V rfl, sE_V rfl, sE_V rfl, sE_V rfl, trivial⟩
  have f1 : (4 : Int) = dp s3 + 1 := fcX (ys := [s3, 4]) (hFc _ (.tail _ (.head _))) ⟨sE_V rfl, sE_k _ _, trivial⟩
  have f2 : s8 = nr s3 := fcX (ys := [s3, s8]) (hFc _ (.tail _ (.tail _ (.head _)))) ⟨sE_V rfl, sE_V rfl, trivial⟩
  have ud : dp s3 ≤ 7 := by omega
  have ut := dp_lt (t := s3) (by omega) ud
  exact poX (.head _) rfl hR (all_nil) (all_nil) (all_cons ⟨[s6, 6, (s2 + 1), s8], ⟨sE_V rfl, sE_k _ _, sEv (y' := ((1 : Int) + ((1 : Int) * s2 + 0))) rfl (by omega), sE_V rfl, trivial⟩, (show SG (XT hp) (nmR hp (xnm hp)) s6 (6 : Int) (s2 + 1) s8 from sg_u f2 (s0_leaf f0.1 (by omega) (by omega) (by omega) (by omega) ud))⟩ (all_cons ⟨[s8, s8], ⟨sE_V rfl, sE_V rfl, trivial⟩, (show s8 = nr s8 from (by rw [f2]; exact (nr_nr (by omega) (by omega)).symm))⟩ (all_nil)))
theorem rl381 : ruOk fFS gR381 := by
  intro r hp hO hN hH
  obtain ⟨s0, s1, s2, s3, s4, s5, s6, s7, s8, rfl⟩ := len9 (show r.length = 9 from hN.1)
  have hR := hN.2.1.1
  have hIv : ∀ q ∈ ([(0, .negSucc 2147483647, .ofNat 2147483647), (1, .ofNat 0, .ofNat 0), (2, .ofNat 0, .ofNat 19), (3, .ofNat 0, .ofNat 6560), (4, .ofNat 1, .ofNat 1), (5, .negSucc 2147483647, .ofNat 2147483647), (6, .negSucc 2147483647, .ofNat 2147483647), (7, .ofNat 22, .ofNat 22), (8, .negSucc 2147483647, .ofNat 2147483647)] : sIv), ∃ x, ([s0, s1, s2, s3, s4, s5, s6, s7, s8] : List Int)[q.1]? = some x ∧ q.2.1 ≤ x ∧ x ≤ q.2.2 := hN.2.1.2
  have b1 : (0 : Int) ≤ s1 ∧ s1 ≤ (0 : Int) := ivX (q := (1, .ofNat 0, .ofNat 0)) (y := s1) (hIv _ (.tail _ (.head _))) rfl
  have b2 : (0 : Int) ≤ s2 ∧ s2 ≤ (19 : Int) := ivX (q := (2, .ofNat 0, .ofNat 19)) (y := s2) (hIv _ (.tail _ (.tail _ (.head _)))) rfl
  have b3 : (0 : Int) ≤ s3 ∧ s3 ≤ (6560 : Int) := ivX (q := (3, .ofNat 0, .ofNat 6560)) (y := s3) (hIv _ (.tail _ (.tail _ (.tail _ (.head _))))) rfl
  have b4 : (1 : Int) ≤ s4 ∧ s4 ≤ (1 : Int) := ivX (q := (4, .ofNat 1, .ofNat 1)) (y := s4) (hIv _ (.tail _ (.tail _ (.tail _ (.tail _ (.head _)))))) rfl
  have b7 : (22 : Int) ≤ s7 ∧ s7 ≤ (22 : Int) := ivX (q := (7, .ofNat 22, .ofNat 22)) (y := s7) (hIv _ (.tail _ (.tail _ (.tail _ (.tail _ (.tail _ (.tail _ (.tail _ (.head _))))))))) rfl
  have hRf : ∀ q ∈ ([((40, .ofNat 173, []), (.ofNat 9, []), 1, .ofNat 0, [])] : List sRf), rfOk [s0, s1, s2, s3, s4, s5, s6, s7, s8] hp q := hH.1
  have h0 : hI hp 173 9 = 0 := rfI0 (hRf _ (.head _)) (sE_k _ _) (sE_k _ _) (sE_k _ _)
  have hFc : ∀ q ∈ ([(192, [(.ofNat 0, [(.ofNat 1, 0)]), (.ofNat 0, [(.ofNat 1, 1)]), (.ofNat 0, [(.ofNat 1, 2)]), (.ofNat 0, [(.ofNat 1, 3)]), (.ofNat 0, [(.ofNat 1, 4)]), (.ofNat 0, [(.ofNat 1, 5)]), (.ofNat 0, [(.ofNat 1, 6)]), (.ofNat 0, [(.ofNat 1, 7)])]), (199, [(.ofNat 0, [(.ofNat 1, 3)]), (.ofNat 5, [])]), (200, [(.ofNat 0, [(.ofNat 1, 3)]), (.ofNat 0, [(.ofNat 1, 8)])])] : List sFc), fcOk fFS [s0, s1, s2, s3, s4, s5, s6, s7, s8] hp q := hH.2
  have f0 : SHq (XT hp) (nmR hp (xnm hp)) s0 s1 s2 s3 s4 s5 s6 s7 ∧ s4 ≠ 4 := fcX (ys := [s0, s1, s2, s3, s4, s5, s6, s7]) (hFc _ (.head _)) ⟨sE_V rfl, sE_V rfl, sE_V rfl, sE_V rfl, sE_V rfl, sE_V rfl, sE_V rfl, sE_V rfl, trivial⟩
  have f1 : (5 : Int) = dp s3 + 1 := fcX (ys := [s3, 5]) (hFc _ (.tail _ (.head _))) ⟨sE_V rfl, sE_k _ _, trivial⟩
  have f2 : s8 = nr s3 := fcX (ys := [s3, s8]) (hFc _ (.tail _ (.tail _ (.head _)))) ⟨sE_V rfl, sE_V rfl, trivial⟩
  have ud : dp s3 ≤ 7 := by omega
  have ut := dp_lt (t := s3) (by omega) ud
  exact poX (.head _) rfl hR (all_nil) (all_nil) (all_cons ⟨[s6, 6, (s2 + 1), s8], ⟨sE_V rfl, sE_k _ _, sEv (y' := ((1 : Int) + ((1 : Int) * s2 + 0))) rfl (by omega), sE_V rfl, trivial⟩, (show SG (XT hp) (nmR hp (xnm hp)) s6 (6 : Int) (s2 + 1) s8 from sg_u f2 (s0_leaf f0.1 (by omega) (by omega) (by omega) (by omega) ud))⟩ (all_cons ⟨[s8, s8], ⟨sE_V rfl, sE_V rfl, trivial⟩, (show s8 = nr s8 from (by rw [f2]; exact (nr_nr (by omega) (by omega)).symm))⟩ (all_nil)))
theorem rl382 : ruOk fFS gR382 := by
  intro r hp hO hN hH
  obtain ⟨s0, s1, s2, s3, s4, s5, s6, s7, s8, rfl⟩ := len9 (show r.length = 9 from hN.1)
  have hR := hN.2.1.1
  have hIv : ∀ q ∈ ([(0, .negSucc 2147483647, .ofNat 2147483647), (1, .ofNat 0, .ofNat 0), (2, .ofNat 0, .ofNat 19), (3, .ofNat 0, .ofNat 6560), (4, .ofNat 1, .ofNat 1), (5, .negSucc 2147483647, .ofNat 2147483647), (6, .negSucc 2147483647, .ofNat 2147483647), (7, .ofNat 22, .ofNat 22), (8, .negSucc 2147483647, .ofNat 2147483647)] : sIv), ∃ x, ([s0, s1, s2, s3, s4, s5, s6, s7, s8] : List Int)[q.1]? = some x ∧ q.2.1 ≤ x ∧ x ≤ q.2.2 := hN.2.1.2
  have b1 : (0 : Int) ≤ s1 ∧ s1 ≤ (0 : Int) := ivX (q := (1, .ofNat 0, .ofNat 0)) (y := s1) (hIv _ (.tail _ (.head _))) rfl
  have b2 : (0 : Int) ≤ s2 ∧ s2 ≤ (19 : Int) := ivX (q := (2, .ofNat 0, .ofNat 19)) (y := s2) (hIv _ (.tail _ (.tail _ (.head _)))) rfl
  have b3 : (0 : Int) ≤ s3 ∧ s3 ≤ (6560 : Int) := ivX (q := (3, .ofNat 0, .ofNat 6560)) (y := s3) (hIv _ (.tail _ (.tail _ (.tail _ (.head _))))) rfl
  have b4 : (1 : Int) ≤ s4 ∧ s4 ≤ (1 : Int) := ivX (q := (4, .ofNat 1, .ofNat 1)) (y := s4) (hIv _ (.tail _ (.tail _ (.tail _ (.tail _ (.head _)))))) rfl
  have b7 : (22 : Int) ≤ s7 ∧ s7 ≤ (22 : Int) := ivX (q := (7, .ofNat 22, .ofNat 22)) (y := s7) (hIv _ (.tail _ (.tail _ (.tail _ (.tail _ (.tail _ (.tail _ (.tail _ (.head _))))))))) rfl
  have hRf : ∀ q ∈ ([((40, .ofNat 173, []), (.ofNat 9, []), 1, .ofNat 0, [])] : List sRf), rfOk [s0, s1, s2, s3, s4, s5, s6, s7, s8] hp q := hH.1
  have h0 : hI hp 173 9 = 0 := rfI0 (hRf _ (.head _)) (sE_k _ _) (sE_k _ _) (sE_k _ _)
  have hFc : ∀ q ∈ ([(192, [(.ofNat 0, [(.ofNat 1, 0)]), (.ofNat 0, [(.ofNat 1, 1)]), (.ofNat 0, [(.ofNat 1, 2)]), (.ofNat 0, [(.ofNat 1, 3)]), (.ofNat 0, [(.ofNat 1, 4)]), (.ofNat 0, [(.ofNat 1, 5)]), (.ofNat 0, [(.ofNat 1, 6)]), (.ofNat 0, [(.ofNat 1, 7)])]), (199, [(.ofNat 0, [(.ofNat 1, 3)]), (.ofNat 6, [])]), (200, [(.ofNat 0, [(.ofNat 1, 3)]), (.ofNat 0, [(.ofNat 1, 8)])])] : List sFc), fcOk fFS [s0, s1, s2, s3, s4, s5, s6, s7, s8] hp q := hH.2
  have f0 : SHq (XT hp) (nmR hp (xnm hp)) s0 s1 s2 s3 s4 s5 s6 s7 ∧ s4 ≠ 4 := fcX (ys := [s0, s1, s2, s3, s4, s5, s6, s7]) (hFc _ (.head _)) ⟨sE_V rfl, sE_V rfl, sE_V rfl, sE_V rfl, sE_V rfl, sE_V rfl, sE_V rfl, sE_V rfl, trivial⟩
  have f1 : (6 : Int) = dp s3 + 1 := fcX (ys := [s3, 6]) (hFc _ (.tail _ (.head _))) ⟨sE_V rfl, sE_k _ _, trivial⟩
  have f2 : s8 = nr s3 := fcX (ys := [s3, s8]) (hFc _ (.tail _ (.tail _ (.head _)))) ⟨sE_V rfl, sE_V rfl, trivial⟩
  have ud : dp s3 ≤ 7 := by omega
  have ut := dp_lt (t := s3) (by omega) ud
  exact poX (.head _) rfl hR (all_nil) (all_nil) (all_cons ⟨[s6, 6, (s2 + 1), s8], ⟨sE_V rfl, sE_k _ _, sEv (y' := ((1 : Int) + ((1 : Int) * s2 + 0))) rfl (by omega), sE_V rfl, trivial⟩, (show SG (XT hp) (nmR hp (xnm hp)) s6 (6 : Int) (s2 + 1) s8 from sg_u f2 (s0_leaf f0.1 (by omega) (by omega) (by omega) (by omega) ud))⟩ (all_cons ⟨[s8, s8], ⟨sE_V rfl, sE_V rfl, trivial⟩, (show s8 = nr s8 from (by rw [f2]; exact (nr_nr (by omega) (by omega)).symm))⟩ (all_nil)))
theorem rl383 : ruOk fFS gR383 := by
  intro r hp hO hN hH
  obtain ⟨s0, s1, s2, s3, s4, s5, s6, s7, s8, rfl⟩ := len9 (show r.length = 9 from hN.1)
  have hR := hN.2.1.1
  have hIv : ∀ q ∈ ([(0, .negSucc 2147483647, .ofNat 2147483647), (1, .ofNat 0, .ofNat 0), (2, .ofNat 0, .ofNat 19), (3, .ofNat 0, .ofNat 6560), (4, .ofNat 1, .ofNat 1), (5, .negSucc 2147483647, .ofNat 2147483647), (6, .negSucc 2147483647, .ofNat 2147483647), (7, .ofNat 22, .ofNat 22), (8, .negSucc 2147483647, .ofNat 2147483647)] : sIv), ∃ x, ([s0, s1, s2, s3, s4, s5, s6, s7, s8] : List Int)[q.1]? = some x ∧ q.2.1 ≤ x ∧ x ≤ q.2.2 := hN.2.1.2
  have b1 : (0 : Int) ≤ s1 ∧ s1 ≤ (0 : Int) := ivX (q := (1, .ofNat 0, .ofNat 0)) (y := s1) (hIv _ (.tail _ (.head _))) rfl
  have b2 : (0 : Int) ≤ s2 ∧ s2 ≤ (19 : Int) := ivX (q := (2, .ofNat 0, .ofNat 19)) (y := s2) (hIv _ (.tail _ (.tail _ (.head _)))) rfl
  have b3 : (0 : Int) ≤ s3 ∧ s3 ≤ (6560 : Int) := ivX (q := (3, .ofNat 0, .ofNat 6560)) (y := s3) (hIv _ (.tail _ (.tail _ (.tail _ (.head _))))) rfl
  have b4 : (1 : Int) ≤ s4 ∧ s4 ≤ (1 : Int) := ivX (q := (4, .ofNat 1, .ofNat 1)) (y := s4) (hIv _ (.tail _ (.tail _ (.tail _ (.tail _ (.head _)))))) rfl
  have b7 : (22 : Int) ≤ s7 ∧ s7 ≤ (22 : Int) := ivX (q := (7, .ofNat 22, .ofNat 22)) (y := s7) (hIv _ (.tail _ (.tail _ (.tail _ (.tail _ (.tail _ (.tail _ (.tail _ (.head _))))))))) rfl
  have hRf : ∀ q ∈ ([((40, .ofNat 173, []), (.ofNat 9, []), 1, .ofNat 0, [])] : List sRf), rfOk [s0, s1, s2, s3, s4, s5, s6, s7, s8] hp q := hH.1
  have h0 : hI hp 173 9 = 0 := rfI0 (hRf _ (.head _)) (sE_k _ _) (sE_k _ _) (sE_k _ _)
  have hFc : ∀ q ∈ ([(192, [(.ofNat 0, [(.ofNat 1, 0)]), (.ofNat 0, [(.ofNat 1, 1)]), (.ofNat 0, [(.ofNat 1, 2)]), (.ofNat 0, [(.ofNat 1, 3)]), (.ofNat 0, [(.ofNat 1, 4)]), (.ofNat 0, [(.ofNat 1, 5)]), (.ofNat 0, [(.ofNat 1, 6)]), (.ofNat 0, [(.ofNat 1, 7)])]), (199, [(.ofNat 0, [(.ofNat 1, 3)]), (.ofNat 7, [])]), (200, [(.ofNat 0, [(.ofNat 1, 3)]), (.ofNat 0, [(.ofNat 1, 8)])])] : List sFc), fcOk fFS [s0, s1, s2, s3, s4, s5, s6, s7, s8] hp q := hH.2
  have f0 : SHq (XT hp) (nmR hp (xnm hp)) s0 s1 s2 s3 s4 s5 s6 s7 ∧ s4 ≠ 4 := fcX (ys := [s0, s1, s2, s3, s4, s5, s6, s7]) (hFc _ (.head _)) ⟨sE_V rfl, sE_V rfl, sE_V rfl, sE_V rfl, sE_V rfl, sE_V rfl, sE_V rfl, sE_V rfl, trivial⟩
  have f1 : (7 : Int) = dp s3 + 1 := fcX (ys := [s3, 7]) (hFc _ (.tail _ (.head _))) ⟨sE_V rfl, sE_k _ _, trivial⟩
  have f2 : s8 = nr s3 := fcX (ys := [s3, s8]) (hFc _ (.tail _ (.tail _ (.head _)))) ⟨sE_V rfl, sE_V rfl, trivial⟩
  have ud : dp s3 ≤ 7 := by omega
  have ut := dp_lt (t := s3) (by omega) ud
  exact poX (.head _) rfl hR (all_nil) (all_nil) (all_cons ⟨[s6, 6, (s2 + 1), s8], ⟨sE_V rfl, sE_k _ _, sEv (y' := ((1 : Int) + ((1 : Int) * s2 + 0))) rfl (by omega), sE_V rfl, trivial⟩, (show SG (XT hp) (nmR hp (xnm hp)) s6 (6 : Int) (s2 + 1) s8 from sg_u f2 (s0_leaf f0.1 (by omega) (by omega) (by omega) (by omega) ud))⟩ (all_cons ⟨[s8, s8], ⟨sE_V rfl, sE_V rfl, trivial⟩, (show s8 = nr s8 from (by rw [f2]; exact (nr_nr (by omega) (by omega)).symm))⟩ (all_nil)))
theorem rl384 : ruOk fFS gR384 := by
  intro r hp hO hN hH
  obtain ⟨s0, s1, s2, s3, s4, s5, s6, s7, s8, rfl⟩ := len9 (show r.length = 9 from hN.1)
  have hR := hN.2.1.1
  have hIv : ∀ q ∈ ([(0, .negSucc 2147483647, .ofNat 2147483647), (1, .ofNat 0, .ofNat 0), (2, .ofNat 0, .ofNat 19), (3, .ofNat 0, .ofNat 6560), (4, .ofNat 1, .ofNat 1), (5, .negSucc 2147483647, .ofNat 2147483647), (6, .negSucc 2147483647, .ofNat 2147483647), (7, .ofNat 22, .ofNat 22), (8, .negSucc 2147483647, .ofNat 2147483647)] : sIv), ∃ x, ([s0, s1, s2, s3, s4, s5, s6, s7, s8] : List Int)[q.1]? = some x ∧ q.2.1 ≤ x ∧ x ≤ q.2.2 := hN.2.1.2
  have b1 : (0 : Int) ≤ s1 ∧ s1 ≤ (0 : Int) := ivX (q := (1, .ofNat 0, .ofNat 0)) (y := s1) (hIv _ (.tail _ (.head _))) rfl
  have b2 : (0 : Int) ≤ s2 ∧ s2 ≤ (19 : Int) := ivX (q := (2, .ofNat 0, .ofNat 19)) (y := s2) (hIv _ (.tail _ (.tail _ (.head _)))) rfl
  have b3 : (0 : Int) ≤ s3 ∧ s3 ≤ (6560 : Int) := ivX (q := (3, .ofNat 0, .ofNat 6560)) (y := s3) (hIv _ (.tail _ (.tail _ (.tail _ (.head _))))) rfl
  have b4 : (1 : Int) ≤ s4 ∧ s4 ≤ (1 : Int) := ivX (q := (4, .ofNat 1, .ofNat 1)) (y := s4) (hIv _ (.tail _ (.tail _ (.tail _ (.tail _ (.head _)))))) rfl
  have b7 : (22 : Int) ≤ s7 ∧ s7 ≤ (22 : Int) := ivX (q := (7, .ofNat 22, .ofNat 22)) (y := s7) (hIv _ (.tail _ (.tail _ (.tail _ (.tail _ (.tail _ (.tail _ (.tail _ (.head _))))))))) rfl
  have hRf : ∀ q ∈ ([((40, .ofNat 173, []), (.ofNat 9, []), 1, .ofNat 0, [])] : List sRf), rfOk [s0, s1, s2, s3, s4, s5, s6, s7, s8] hp q := hH.1
  have h0 : hI hp 173 9 = 0 := rfI0 (hRf _ (.head _)) (sE_k _ _) (sE_k _ _) (sE_k _ _)
  have hFc : ∀ q ∈ ([(192, [(.ofNat 0, [(.ofNat 1, 0)]), (.ofNat 0, [(.ofNat 1, 1)]), (.ofNat 0, [(.ofNat 1, 2)]), (.ofNat 0, [(.ofNat 1, 3)]), (.ofNat 0, [(.ofNat 1, 4)]), (.ofNat 0, [(.ofNat 1, 5)]), (.ofNat 0, [(.ofNat 1, 6)]), (.ofNat 0, [(.ofNat 1, 7)])]), (199, [(.ofNat 0, [(.ofNat 1, 3)]), (.ofNat 8, [])]), (200, [(.ofNat 0, [(.ofNat 1, 3)]), (.ofNat 0, [(.ofNat 1, 8)])])] : List sFc), fcOk fFS [s0, s1, s2, s3, s4, s5, s6, s7, s8] hp q := hH.2
  have f0 : SHq (XT hp) (nmR hp (xnm hp)) s0 s1 s2 s3 s4 s5 s6 s7 ∧ s4 ≠ 4 := fcX (ys := [s0, s1, s2, s3, s4, s5, s6, s7]) (hFc _ (.head _)) ⟨sE_V rfl, sE_V rfl, sE_V rfl, sE_V rfl, sE_V rfl, sE_V rfl, sE_V rfl, sE_V rfl, trivial⟩
  have f1 : (8 : Int) = dp s3 + 1 := fcX (ys := [s3, 8]) (hFc _ (.tail _ (.head _))) ⟨sE_V rfl, sE_k _ _, trivial⟩
  have f2 : s8 = nr s3 := fcX (ys := [s3, s8]) (hFc _ (.tail _ (.tail _ (.head _)))) ⟨sE_V rfl, sE_V rfl, trivial⟩
  have ud : dp s3 ≤ 7 := by omega
  have ut := dp_lt (t := s3) (by omega) ud
  exact poX (.head _) rfl hR (all_nil) (all_nil) (all_cons ⟨[s6, 6, (s2 + 1), s8], ⟨sE_V rfl, sE_k _ _, sEv (y' := ((1 : Int) + ((1 : Int) * s2 + 0))) rfl (by omega), sE_V rfl, trivial⟩, (show SG (XT hp) (nmR hp (xnm hp)) s6 (6 : Int) (s2 + 1) s8 from sg_u f2 (s0_leaf f0.1 (by omega) (by omega) (by omega) (by omega) ud))⟩ (all_cons ⟨[s8, s8], ⟨sE_V rfl, sE_V rfl, trivial⟩, (show s8 = nr s8 from (by rw [f2]; exact (nr_nr (by omega) (by omega)).symm))⟩ (all_nil)))
theorem rl385 : ruOk fFS gR385 := by
  intro r hp hO hN hH
  obtain ⟨s0, s1, s2, s3, s4, s5, s6, s7, s8, rfl⟩ := len9 (show r.length = 9 from hN.1)
  have hR := hN.2.1.1
  have hIv : ∀ q ∈ ([(0, .negSucc 2147483647, .ofNat 2147483647), (1, .ofNat 0, .ofNat 0), (2, .ofNat 0, .ofNat 19), (3, .ofNat 0, .ofNat 6560), (4, .ofNat 1, .ofNat 1), (5, .negSucc 2147483647, .ofNat 2147483647), (6, .negSucc 2147483647, .ofNat 2147483647), (7, .ofNat 23, .ofNat 23), (8, .negSucc 2147483647, .ofNat 2147483647)] : sIv), ∃ x, ([s0, s1, s2, s3, s4, s5, s6, s7, s8] : List Int)[q.1]? = some x ∧ q.2.1 ≤ x ∧ x ≤ q.2.2 := hN.2.1.2
  have b1 : (0 : Int) ≤ s1 ∧ s1 ≤ (0 : Int) := ivX (q := (1, .ofNat 0, .ofNat 0)) (y := s1) (hIv _ (.tail _ (.head _))) rfl
  have b2 : (0 : Int) ≤ s2 ∧ s2 ≤ (19 : Int) := ivX (q := (2, .ofNat 0, .ofNat 19)) (y := s2) (hIv _ (.tail _ (.tail _ (.head _)))) rfl
  have b3 : (0 : Int) ≤ s3 ∧ s3 ≤ (6560 : Int) := ivX (q := (3, .ofNat 0, .ofNat 6560)) (y := s3) (hIv _ (.tail _ (.tail _ (.tail _ (.head _))))) rfl
  have b4 : (1 : Int) ≤ s4 ∧ s4 ≤ (1 : Int) := ivX (q := (4, .ofNat 1, .ofNat 1)) (y := s4) (hIv _ (.tail _ (.tail _ (.tail _ (.tail _ (.head _)))))) rfl
  have b7 : (23 : Int) ≤ s7 ∧ s7 ≤ (23 : Int) := ivX (q := (7, .ofNat 23, .ofNat 23)) (y := s7) (hIv _ (.tail _ (.tail _ (.tail _ (.tail _ (.tail _ (.tail _ (.tail _ (.head _))))))))) rfl
  have hRf : ∀ q ∈ ([((40, .ofNat 173, []), (.ofNat 9, []), 1, .ofNat 0, [])] : List sRf), rfOk [s0, s1, s2, s3, s4, s5, s6, s7, s8] hp q := hH.1
  have h0 : hI hp 173 9 = 0 := rfI0 (hRf _ (.head _)) (sE_k _ _) (sE_k _ _) (sE_k _ _)
  have hFc : ∀ q ∈ ([(192, [(.ofNat 0, [(.ofNat 1, 0)]), (.ofNat 0, [(.ofNat 1, 1)]), (.ofNat 0, [(.ofNat 1, 2)]), (.ofNat 0, [(.ofNat 1, 3)]), (.ofNat 0, [(.ofNat 1, 4)]), (.ofNat 0, [(.ofNat 1, 5)]), (.ofNat 0, [(.ofNat 1, 6)]), (.ofNat 0, [(.ofNat 1, 7)])]), (199, [(.ofNat 0, [(.ofNat 1, 3)]), (.ofNat 1, [])]), (200, [(.ofNat 0, [(.ofNat 1, 3)]), (.ofNat 0, [(.ofNat 1, 8)])])] : List sFc), fcOk fFS [s0, s1, s2, s3, s4, s5, s6, s7, s8] hp q := hH.2
  have f0 : SHq (XT hp) (nmR hp (xnm hp)) s0 s1 s2 s3 s4 s5 s6 s7 ∧ s4 ≠ 4 := fcX (ys := [s0, s1, s2, s3, s4, s5, s6, s7]) (hFc _ (.head _)) ⟨sE_V rfl, sE_V rfl, sE_V rfl, sE_V rfl, sE_V rfl, sE_V rfl, sE_V rfl, sE_V rfl, trivial⟩
  have f1 : (1 : Int) = dp s3 + 1 := fcX (ys := [s3, 1]) (hFc _ (.tail _ (.head _))) ⟨sE_V rfl, sE_k _ _, trivial⟩
  have f2 : s8 = nr s3 := fcX (ys := [s3, s8]) (hFc _ (.tail _ (.tail _ (.head _)))) ⟨sE_V rfl, sE_V rfl, trivial⟩
  have ud : dp s3 ≤ 7 := by omega
  have ut := dp_lt (t := s3) (by omega) ud
  exact poX (.head _) rfl hR (all_nil) (all_nil) (all_cons ⟨[s6, 1, (s2 + 1), s3], ⟨sE_V rfl, sE_k _ _, sEv (y' := ((1 : Int) + ((1 : Int) * s2 + 0))) rfl (by omega), sE_V rfl, trivial⟩, (show SG (XT hp) (nmR hp (xnm hp)) s6 (1 : Int) (s2 + 1) s3 from s0_of f0.1 (by omega) (by omega) (by omega) (by omega) ud)⟩ (all_nil))
theorem rl386 : ruOk fFS gR386 := by
  intro r hp hO hN hH
  obtain ⟨s0, s1, s2, s3, s4, s5, s6, s7, s8, rfl⟩ := len9 (show r.length = 9 from hN.1)
  have hR := hN.2.1.1
  have hIv : ∀ q ∈ ([(0, .negSucc 2147483647, .ofNat 2147483647), (1, .ofNat 0, .ofNat 0), (2, .ofNat 0, .ofNat 19), (3, .ofNat 0, .ofNat 6560), (4, .ofNat 1, .ofNat 1), (5, .negSucc 2147483647, .ofNat 2147483647), (6, .negSucc 2147483647, .ofNat 2147483647), (7, .ofNat 23, .ofNat 23), (8, .negSucc 2147483647, .ofNat 2147483647)] : sIv), ∃ x, ([s0, s1, s2, s3, s4, s5, s6, s7, s8] : List Int)[q.1]? = some x ∧ q.2.1 ≤ x ∧ x ≤ q.2.2 := hN.2.1.2
  have b1 : (0 : Int) ≤ s1 ∧ s1 ≤ (0 : Int) := ivX (q := (1, .ofNat 0, .ofNat 0)) (y := s1) (hIv _ (.tail _ (.head _))) rfl
  have b2 : (0 : Int) ≤ s2 ∧ s2 ≤ (19 : Int) := ivX (q := (2, .ofNat 0, .ofNat 19)) (y := s2) (hIv _ (.tail _ (.tail _ (.head _)))) rfl
  have b3 : (0 : Int) ≤ s3 ∧ s3 ≤ (6560 : Int) := ivX (q := (3, .ofNat 0, .ofNat 6560)) (y := s3) (hIv _ (.tail _ (.tail _ (.tail _ (.head _))))) rfl
  have b4 : (1 : Int) ≤ s4 ∧ s4 ≤ (1 : Int) := ivX (q := (4, .ofNat 1, .ofNat 1)) (y := s4) (hIv _ (.tail _ (.tail _ (.tail _ (.tail _ (.head _)))))) rfl
  have b7 : (23 : Int) ≤ s7 ∧ s7 ≤ (23 : Int) := ivX (q := (7, .ofNat 23, .ofNat 23)) (y := s7) (hIv _ (.tail _ (.tail _ (.tail _ (.tail _ (.tail _ (.tail _ (.tail _ (.head _))))))))) rfl
  have hRf : ∀ q ∈ ([((40, .ofNat 173, []), (.ofNat 9, []), 1, .ofNat 0, [])] : List sRf), rfOk [s0, s1, s2, s3, s4, s5, s6, s7, s8] hp q := hH.1
  have h0 : hI hp 173 9 = 0 := rfI0 (hRf _ (.head _)) (sE_k _ _) (sE_k _ _) (sE_k _ _)
  have hFc : ∀ q ∈ ([(192, [(.ofNat 0, [(.ofNat 1, 0)]), (.ofNat 0, [(.ofNat 1, 1)]), (.ofNat 0, [(.ofNat 1, 2)]), (.ofNat 0, [(.ofNat 1, 3)]), (.ofNat 0, [(.ofNat 1, 4)]), (.ofNat 0, [(.ofNat 1, 5)]), (.ofNat 0, [(.ofNat 1, 6)]), (.ofNat 0, [(.ofNat 1, 7)])]), (199, [(.ofNat 0, [(.ofNat 1, 3)]), (.ofNat 2, [])]), (200, [(.ofNat 0, [(.ofNat 1, 3)]), (.ofNat 0, [(.ofNat 1, 8)])])] : List sFc), fcOk fFS [s0, s1, s2, s3, s4, s5, s6, s7, s8] hp q := hH.2
  have f0 : SHq (XT hp) (nmR hp (xnm hp)) s0 s1 s2 s3 s4 s5 s6 s7 ∧ s4 ≠ 4 := fcX (ys := [s0, s1, s2, s3, s4, s5, s6, s7]) (hFc _ (.head _)) ⟨sE_V rfl, sE_V rfl, sE_V rfl, sE_V rfl, sE_V rfl, sE_V rfl, sE_V rfl, sE_V rfl, trivial⟩
  have f1 : (2 : Int) = dp s3 + 1 := fcX (ys := [s3, 2]) (hFc _ (.tail _ (.head _))) ⟨sE_V rfl, sE_k _ _, trivial⟩
  have f2 : s8 = nr s3 := fcX (ys := [s3, s8]) (hFc _ (.tail _ (.tail _ (.head _)))) ⟨sE_V rfl, sE_V rfl, trivial⟩
  have ud : dp s3 ≤ 7 := by omega
  have ut := dp_lt (t := s3) (by omega) ud
  exact poX (.head _) rfl hR (all_nil) (all_nil) (all_cons ⟨[s6, 1, (s2 + 1), s3], ⟨sE_V rfl, sE_k _ _, sEv (y' := ((1 : Int) + ((1 : Int) * s2 + 0))) rfl (by omega), sE_V rfl, trivial⟩, (show SG (XT hp) (nmR hp (xnm hp)) s6 (1 : Int) (s2 + 1) s3 from s0_of f0.1 (by omega) (by omega) (by omega) (by omega) ud)⟩ (all_nil))
theorem rl387 : ruOk fFS gR387 := by
  intro r hp hO hN hH
  obtain ⟨s0, s1, s2, s3, s4, s5, s6, s7, s8, rfl⟩ := len9 (show r.length = 9 from hN.1)
  have hR := hN.2.1.1
  have hIv : ∀ q ∈ ([(0, .negSucc 2147483647, .ofNat 2147483647), (1, .ofNat 0, .ofNat 0), (2, .ofNat 0, .ofNat 19), (3, .ofNat 0, .ofNat 6560), (4, .ofNat 1, .ofNat 1), (5, .negSucc 2147483647, .ofNat 2147483647), (6, .negSucc 2147483647, .ofNat 2147483647), (7, .ofNat 23, .ofNat 23), (8, .negSucc 2147483647, .ofNat 2147483647)] : sIv), ∃ x, ([s0, s1, s2, s3, s4, s5, s6, s7, s8] : List Int)[q.1]? = some x ∧ q.2.1 ≤ x ∧ x ≤ q.2.2 := hN.2.1.2
  have b1 : (0 : Int) ≤ s1 ∧ s1 ≤ (0 : Int) := ivX (q := (1, .ofNat 0, .ofNat 0)) (y := s1) (hIv _ (.tail _ (.head _))) rfl
  have b2 : (0 : Int) ≤ s2 ∧ s2 ≤ (19 : Int) := ivX (q := (2, .ofNat 0, .ofNat 19)) (y := s2) (hIv _ (.tail _ (.tail _ (.head _)))) rfl
  have b3 : (0 : Int) ≤ s3 ∧ s3 ≤ (6560 : Int) := ivX (q := (3, .ofNat 0, .ofNat 6560)) (y := s3) (hIv _ (.tail _ (.tail _ (.tail _ (.head _))))) rfl
  have b4 : (1 : Int) ≤ s4 ∧ s4 ≤ (1 : Int) := ivX (q := (4, .ofNat 1, .ofNat 1)) (y := s4) (hIv _ (.tail _ (.tail _ (.tail _ (.tail _ (.head _)))))) rfl
  have b7 : (23 : Int) ≤ s7 ∧ s7 ≤ (23 : Int) := ivX (q := (7, .ofNat 23, .ofNat 23)) (y := s7) (hIv _ (.tail _ (.tail _ (.tail _ (.tail _ (.tail _ (.tail _ (.tail _ (.head _))))))))) rfl
  have hRf : ∀ q ∈ ([((40, .ofNat 173, []), (.ofNat 9, []), 1, .ofNat 0, [])] : List sRf), rfOk [s0, s1, s2, s3, s4, s5, s6, s7, s8] hp q := hH.1
  have h0 : hI hp 173 9 = 0 := rfI0 (hRf _ (.head _)) (sE_k _ _) (sE_k _ _) (sE_k _ _)
  have hFc : ∀ q ∈ ([(192, [(.ofNat 0, [(.ofNat 1, 0)]), (.ofNat 0, [(.ofNat 1, 1)]), (.ofNat 0, [(.ofNat 1, 2)]), (.ofNat 0, [(.ofNat 1, 3)]), (.ofNat 0, [(.ofNat 1, 4)]), (.ofNat 0, [(.ofNat 1, 5)]), (.ofNat 0, [(.ofNat 1, 6)]), (.ofNat 0, [(.ofNat 1, 7)])]), (199, [(.ofNat 0, [(.ofNat 1, 3)]), (.ofNat 3, [])]), (200, [(.ofNat 0, [(.ofNat 1, 3)]), (.ofNat 0, [(.ofNat 1, 8)])])] : List sFc), fcOk fFS [s0, s1, s2, s3, s4, s5, s6, s7, s8] hp q := hH.2
  have f0 : SHq (XT hp) (nmR hp (xnm hp)) s0 s1 s2 s3 s4 s5 s6 s7 ∧ s4 ≠ 4 := fcX (ys := [s0, s1, s2, s3, s4, s5, s6, s7]) (hFc _ (.head _)) ⟨sE_V rfl, sE_V rfl, sE_V rfl, sE_V rfl, sE_V rfl, sE_V rfl, sE_V rfl, sE_V rfl, trivial⟩
  have f1 : (3 : Int) = dp s3 + 1 := fcX (ys := [s3, 3]) (hFc _ (.tail _ (.head _))) ⟨sE_V rfl, sE_k _ _, trivial⟩
  have f2 : s8 = nr s3 := fcX (ys := [s3, s8]) (hFc _ (.tail _ (.tail _ (.head _)))) ⟨sE_V rfl, sE_V rfl, trivial⟩
  have ud : dp s3 ≤ 7 := by omega
  have ut := dp_lt (t := s3) (by omega) ud
  exact poX (.head _) rfl hR (all_nil) (all_nil) (all_cons ⟨[s6, 1, (s2 + 1), s3], ⟨sE_V rfl, sE_k _ _, sEv (y' := ((1 : Int) + ((1 : Int) * s2 + 0))) rfl (by omega), sE_V rfl, trivial⟩, (show SG (XT hp) (nmR hp (xnm hp)) s6 (1 : Int) (s2 + 1) s3 from s0_of f0.1 (by omega) (by omega) (by omega) (by omega) ud)⟩ (all_nil))
theorem rl388 : ruOk fFS gR388 := by
  intro r hp hO hN hH
  obtain ⟨s0, s1, s2, s3, s4, s5, s6, s7, s8, rfl⟩ := len9 (show r.length = 9 from hN.1)
  have hR := hN.2.1.1
  have hIv : ∀ q ∈ ([(0, .negSucc 2147483647, .ofNat 2147483647), (1, .ofNat 0, .ofNat 0), (2, .ofNat 0, .ofNat 19), (3, .ofNat 0, .ofNat 6560), (4, .ofNat 1, .ofNat 1), (5, .negSucc 2147483647, .ofNat 2147483647), (6, .negSucc 2147483647, .ofNat 2147483647), (7, .ofNat 23, .ofNat 23), (8, .negSucc 2147483647, .ofNat 2147483647)] : sIv), ∃ x, ([s0, s1, s2, s3, s4, s5, s6, s7, s8] : List Int)[q.1]? = some x ∧ q.2.1 ≤ x ∧ x ≤ q.2.2 := hN.2.1.2
  have b1 : (0 : Int) ≤ s1 ∧ s1 ≤ (0 : Int) := ivX (q := (1, .ofNat 0, .ofNat 0)) (y := s1) (hIv _ (.tail _ (.head _))) rfl
  have b2 : (0 : Int) ≤ s2 ∧ s2 ≤ (19 : Int) := ivX (q := (2, .ofNat 0, .ofNat 19)) (y := s2) (hIv _ (.tail _ (.tail _ (.head _)))) rfl
  have b3 : (0 : Int) ≤ s3 ∧ s3 ≤ (6560 : Int) := ivX (q := (3, .ofNat 0, .ofNat 6560)) (y := s3) (hIv _ (.tail _ (.tail _ (.tail _ (.head _))))) rfl
  have b4 : (1 : Int) ≤ s4 ∧ s4 ≤ (1 : Int) := ivX (q := (4, .ofNat 1, .ofNat 1)) (y := s4) (hIv _ (.tail _ (.tail _ (.tail _ (.tail _ (.head _)))))) rfl
  have b7 : (23 : Int) ≤ s7 ∧ s7 ≤ (23 : Int) := ivX (q := (7, .ofNat 23, .ofNat 23)) (y := s7) (hIv _ (.tail _ (.tail _ (.tail _ (.tail _ (.tail _ (.tail _ (.tail _ (.head _))))))))) rfl
  have hRf : ∀ q ∈ ([((40, .ofNat 173, []), (.ofNat 9, []), 1, .ofNat 0, [])] : List sRf), rfOk [s0, s1, s2, s3, s4, s5, s6, s7, s8] hp q := hH.1
  have h0 : hI hp 173 9 = 0 := rfI0 (hRf _ (.head _)) (sE_k _ _) (sE_k _ _) (sE_k _ _)
  have hFc : ∀ q ∈ ([(192, [(.ofNat 0, [(.ofNat 1, 0)]), (.ofNat 0, [(.ofNat 1, 1)]), (.ofNat 0, [(.ofNat 1, 2)]), (.ofNat 0, [(.ofNat 1, 3)]), (.ofNat 0, [(.ofNat 1, 4)]), (.ofNat 0, [(.ofNat 1, 5)]), (.ofNat 0, [(.ofNat 1, 6)]), (.ofNat 0, [(.ofNat 1, 7)])]), (199, [(.ofNat 0, [(.ofNat 1, 3)]), (.ofNat 4, [])]), (200, [(.ofNat 0, [(.ofNat 1, 3)]), (.ofNat 0, [(.ofNat 1, 8)])])] : List sFc), fcOk fFS [s0, s1, s2, s3, s4, s5, s6, s7, s8] hp q := hH.2
  have f0 : SHq (XT hp) (nmR hp (xnm hp)) s0 s1 s2 s3 s4 s5 s6 s7 ∧ s4 ≠ 4 := fcX (ys := [s0, s1, s2, s3, s4, s5, s6, s7]) (hFc _ (.head _)) ⟨sE_V rfl, sE_V rfl, sE_V rfl, sE_V rfl, sE_V rfl, sE_V rfl, sE_V rfl, sE_V rfl, trivial⟩
  have f1 : (4 : Int) = dp s3 + 1 := fcX (ys := [s3, 4]) (hFc _ (.tail _ (.head _))) ⟨sE_V rfl, sE_k _ _, trivial⟩
  have f2 : s8 = nr s3 := fcX (ys := [s3, s8]) (hFc _ (.tail _ (.tail _ (.head _)))) ⟨sE_V rfl, sE_V rfl, trivial⟩
  have ud : dp s3 ≤ 7 := by omega
  have ut := dp_lt (t := s3) (by omega) ud
  exact poX (.head _) rfl hR (all_nil) (all_nil) (all_cons ⟨[s6, 1, (s2 + 1), s3], ⟨sE_V rfl, sE_k _ _, sEv (y' := ((1 : Int) + ((1 : Int) * s2 + 0))) rfl (by omega), sE_V rfl, trivial⟩, (show SG (XT hp) (nmR hp (xnm hp)) s6 (1 : Int) (s2 + 1) s3 from s0_of f0.1 (by omega) (by omega) (by omega) (by omega) ud)⟩ (all_nil))
theorem rl389 : ruOk fFS gR389 := by
  intro r hp hO hN hH
  obtain ⟨s0, s1, s2, s3, s4, s5, s6, s7, s8, rfl⟩ := len9 (show r.length = 9 from hN.1)
  have hR := hN.2.1.1
  have hIv : ∀ q ∈ ([(0, .negSucc 2147483647, .ofNat 2147483647), (1, .ofNat 0, .ofNat 0), (2, .ofNat 0, .ofNat 19), (3, .ofNat 0, .ofNat 6560), (4, .ofNat 1, .ofNat 1), (5, .negSucc 2147483647, .ofNat 2147483647), (6, .negSucc 2147483647, .ofNat 2147483647), (7, .ofNat 23, .ofNat 23), (8, .negSucc 2147483647, .ofNat 2147483647)] : sIv), ∃ x, ([s0, s1, s2, s3, s4, s5, s6, s7, s8] : List Int)[q.1]? = some x ∧ q.2.1 ≤ x ∧ x ≤ q.2.2 := hN.2.1.2
  have b1 : (0 : Int) ≤ s1 ∧ s1 ≤ (0 : Int) := ivX (q := (1, .ofNat 0, .ofNat 0)) (y := s1) (hIv _ (.tail _ (.head _))) rfl
  have b2 : (0 : Int) ≤ s2 ∧ s2 ≤ (19 : Int) := ivX (q := (2, .ofNat 0, .ofNat 19)) (y := s2) (hIv _ (.tail _ (.tail _ (.head _)))) rfl
  have b3 : (0 : Int) ≤ s3 ∧ s3 ≤ (6560 : Int) := ivX (q := (3, .ofNat 0, .ofNat 6560)) (y := s3) (hIv _ (.tail _ (.tail _ (.tail _ (.head _))))) rfl
  have b4 : (1 : Int) ≤ s4 ∧ s4 ≤ (1 : Int) := ivX (q := (4, .ofNat 1, .ofNat 1)) (y := s4) (hIv _ (.tail _ (.tail _ (.tail _ (.tail _ (.head _)))))) rfl
  have b7 : (23 : Int) ≤ s7 ∧ s7 ≤ (23 : Int) := ivX (q := (7, .ofNat 23, .ofNat 23)) (y := s7) (hIv _ (.tail _ (.tail _ (.tail _ (.tail _ (.tail _ (.tail _ (.tail _ (.head _))))))))) rfl
  have hRf : ∀ q ∈ ([((40, .ofNat 173, []), (.ofNat 9, []), 1, .ofNat 0, [])] : List sRf), rfOk [s0, s1, s2, s3, s4, s5, s6, s7, s8] hp q := hH.1
  have h0 : hI hp 173 9 = 0 := rfI0 (hRf _ (.head _)) (sE_k _ _) (sE_k _ _) (sE_k _ _)
  have hFc : ∀ q ∈ ([(192, [(.ofNat 0, [(.ofNat 1, 0)]), (.ofNat 0, [(.ofNat 1, 1)]), (.ofNat 0, [(.ofNat 1, 2)]), (.ofNat 0, [(.ofNat 1, 3)]), (.ofNat 0, [(.ofNat 1, 4)]), (.ofNat 0, [(.ofNat 1, 5)]), (.ofNat 0, [(.ofNat 1, 6)]), (.ofNat 0, [(.ofNat 1, 7)])]), (199, [(.ofNat 0, [(.ofNat 1, 3)]), (.ofNat 5, [])]), (200, [(.ofNat 0, [(.ofNat 1, 3)]), (.ofNat 0, [(.ofNat 1, 8)])])] : List sFc), fcOk fFS [s0, s1, s2, s3, s4, s5, s6, s7, s8] hp q := hH.2
  have f0 : SHq (XT hp) (nmR hp (xnm hp)) s0 s1 s2 s3 s4 s5 s6 s7 ∧ s4 ≠ 4 := fcX (ys := [s0, s1, s2, s3, s4, s5, s6, s7]) (hFc _ (.head _)) ⟨sE_V rfl, sE_V rfl, sE_V rfl, sE_V rfl, sE_V rfl, sE_V rfl, sE_V rfl, sE_V rfl, trivial⟩
  have f1 : (5 : Int) = dp s3 + 1 := fcX (ys := [s3, 5]) (hFc _ (.tail _ (.head _))) ⟨sE_V rfl, sE_k _ _, trivial⟩
  have f2 : s8 = nr s3 := fcX (ys := [s3, s8]) (hFc _ (.tail _ (.tail _ (.head _)))) ⟨sE_V rfl, sE_V rfl, trivial⟩
  have ud : dp s3 ≤ 7 := by omega
  have ut := dp_lt (t := s3) (by omega) ud
  exact poX (.head _) rfl hR (all_nil) (all_nil) (all_cons ⟨[s6, 1, (s2 + 1), s3], ⟨sE_V rfl, sE_k _ _, sEv (y' := ((1 : Int) + ((1 : Int) * s2 + 0))) rfl (by omega), sE_V rfl, trivial⟩, (show SG (XT hp) (nmR hp (xnm hp)) s6 (1 : Int) (s2 + 1) s3 from s0_of f0.1 (by omega) (by omega) (by omega) (by omega) ud)⟩ (all_nil))
theorem rl390 : ruOk fFS gR390 := by
  intro r hp hO hN hH
  obtain ⟨s0, s1, s2, s3, s4, s5, s6, s7, s8, rfl⟩ := len9 (show r.length = 9 from hN.1)
  have hR := hN.2.1.1
  have hIv : ∀ q ∈ ([(0, .negSucc 2147483647, .ofNat 2147483647), (1, .ofNat 0, .ofNat 0), (2, .ofNat 0, .ofNat 19), (3, .ofNat 0, .ofNat 6560), (4, .ofNat 1, .ofNat 1), (5, .negSucc 2147483647, .ofNat 2147483647), (6, .negSucc 2147483647, .ofNat 2147483647), (7, .ofNat 23, .ofNat 23), (8, .negSucc 2147483647, .ofNat 2147483647)] : sIv), ∃ x, ([s0, s1, s2, s3, s4, s5, s6, s7, s8] : List Int)[q.1]? = some x ∧ q.2.1 ≤ x ∧ x ≤ q.2.2 := hN.2.1.2
  have b1 : (0 : Int) ≤ s1 ∧ s1 ≤ (0 : Int) := ivX (q := (1, .ofNat 0, .ofNat 0)) (y := s1) (hIv _ (.tail _ (.head _))) rfl
  have b2 : (0 : Int) ≤ s2 ∧ s2 ≤ (19 : Int) := ivX (q := (2, .ofNat 0, .ofNat 19)) (y := s2) (hIv _ (.tail _ (.tail _ (.head _)))) rfl
  have b3 : (0 : Int) ≤ s3 ∧ s3 ≤ (6560 : Int) := ivX (q := (3, .ofNat 0, .ofNat 6560)) (y := s3) (hIv _ (.tail _ (.tail _ (.tail _ (.head _))))) rfl
  have b4 : (1 : Int) ≤ s4 ∧ s4 ≤ (1 : Int) := ivX (q := (4, .ofNat 1, .ofNat 1)) (y := s4) (hIv _ (.tail _ (.tail _ (.tail _ (.tail _ (.head _)))))) rfl
  have b7 : (23 : Int) ≤ s7 ∧ s7 ≤ (23 : Int) := ivX (q := (7, .ofNat 23, .ofNat 23)) (y := s7) (hIv _ (.tail _ (.tail _ (.tail _ (.tail _ (.tail _ (.tail _ (.tail _ (.head _))))))))) rfl
  have hRf : ∀ q ∈ ([((40, .ofNat 173, []), (.ofNat 9, []), 1, .ofNat 0, [])] : List sRf), rfOk [s0, s1, s2, s3, s4, s5, s6, s7, s8] hp q := hH.1
  have h0 : hI hp 173 9 = 0 := rfI0 (hRf _ (.head _)) (sE_k _ _) (sE_k _ _) (sE_k _ _)
  have hFc : ∀ q ∈ ([(192, [(.ofNat 0, [(.ofNat 1, 0)]), (.ofNat 0, [(.ofNat 1, 1)]), (.ofNat 0, [(.ofNat 1, 2)]), (.ofNat 0, [(.ofNat 1, 3)]), (.ofNat 0, [(.ofNat 1, 4)]), (.ofNat 0, [(.ofNat 1, 5)]), (.ofNat 0, [(.ofNat 1, 6)]), (.ofNat 0, [(.ofNat 1, 7)])]), (199, [(.ofNat 0, [(.ofNat 1, 3)]), (.ofNat 6, [])]), (200, [(.ofNat 0, [(.ofNat 1, 3)]), (.ofNat 0, [(.ofNat 1, 8)])])] : List sFc), fcOk fFS [s0, s1, s2, s3, s4, s5, s6, s7, s8] hp q := hH.2
  have f0 : SHq (XT hp) (nmR hp (xnm hp)) s0 s1 s2 s3 s4 s5 s6 s7 ∧ s4 ≠ 4 := fcX (ys := [s0, s1, s2, s3, s4, s5, s6, s7]) (hFc _ (.head _)) ⟨sE_V rfl, sE_V rfl, sE_V rfl, sE_V rfl, sE_V rfl, sE_V rfl, sE_V rfl, sE_V rfl, trivial⟩
  have f1 : (6 : Int) = dp s3 + 1 := fcX (ys := [s3, 6]) (hFc _ (.tail _ (.head _))) ⟨sE_V rfl, sE_k _ _, trivial⟩
  have f2 : s8 = nr s3 := fcX (ys := [s3, s8]) (hFc _ (.tail _ (.tail _ (.head _)))) ⟨sE_V rfl, sE_V rfl, trivial⟩
  have ud : dp s3 ≤ 7 := by omega
  have ut := dp_lt (t := s3) (by omega) ud
  exact poX (.head _) rfl hR (all_nil) (all_nil) (all_cons ⟨[s6, 1, (s2 + 1), s3], ⟨sE_V rfl, sE_k _ _, sEv (y' := ((1 : Int) + ((1 : Int) * s2 + 0))) rfl (by omega), sE_V rfl, trivial⟩, (show SG (XT hp) (nmR hp (xnm hp)) s6 (1 : Int) (s2 + 1) s3 from s0_of f0.1 (by omega) (by omega) (by omega) (by omega) ud)⟩ (all_nil))
theorem rl391 : ruOk fFS gR391 := by
  intro r hp hO hN hH
  obtain ⟨s0, s1, s2, s3, s4, s5, s6, s7, s8, rfl⟩ := len9 (show r.length = 9 from hN.1)
  have hR := hN.2.1.1
  have hIv : ∀ q ∈ ([(0, .negSucc 2147483647, .ofNat 2147483647), (1, .ofNat 0, .ofNat 0), (2, .ofNat 0, .ofNat 19), (3, .ofNat 0, .ofNat 6560), (4, .ofNat 1, .ofNat 1), (5, .negSucc 2147483647, .ofNat 2147483647), (6, .negSucc 2147483647, .ofNat 2147483647), (7, .ofNat 23, .ofNat 23), (8, .negSucc 2147483647, .ofNat 2147483647)] : sIv), ∃ x, ([s0, s1, s2, s3, s4, s5, s6, s7, s8] : List Int)[q.1]? = some x ∧ q.2.1 ≤ x ∧ x ≤ q.2.2 := hN.2.1.2
  have b1 : (0 : Int) ≤ s1 ∧ s1 ≤ (0 : Int) := ivX (q := (1, .ofNat 0, .ofNat 0)) (y := s1) (hIv _ (.tail _ (.head _))) rfl
  have b2 : (0 : Int) ≤ s2 ∧ s2 ≤ (19 : Int) := ivX (q := (2, .ofNat 0, .ofNat 19)) (y := s2) (hIv _ (.tail _ (.tail _ (.head _)))) rfl
  have b3 : (0 : Int) ≤ s3 ∧ s3 ≤ (6560 : Int) := ivX (q := (3, .ofNat 0, .ofNat 6560)) (y := s3) (hIv _ (.tail _ (.tail _ (.tail _ (.head _))))) rfl
  have b4 : (1 : Int) ≤ s4 ∧ s4 ≤ (1 : Int) := ivX (q := (4, .ofNat 1, .ofNat 1)) (y := s4) (hIv _ (.tail _ (.tail _ (.tail _ (.tail _ (.head _)))))) rfl
  have b7 : (23 : Int) ≤ s7 ∧ s7 ≤ (23 : Int) := ivX (q := (7, .ofNat 23, .ofNat 23)) (y := s7) (hIv _ (.tail _ (.tail _ (.tail _ (.tail _ (.tail _ (.tail _ (.tail _ (.head _))))))))) rfl
  have hRf : ∀ q ∈ ([((40, .ofNat 173, []), (.ofNat 9, []), 1, .ofNat 0, [])] : List sRf), rfOk [s0, s1, s2, s3, s4, s5, s6, s7, s8] hp q := hH.1
  have h0 : hI hp 173 9 = 0 := rfI0 (hRf _ (.head _)) (sE_k _ _) (sE_k _ _) (sE_k _ _)
  have hFc : ∀ q ∈ ([(192, [(.ofNat 0, [(.ofNat 1, 0)]), (.ofNat 0, [(.ofNat 1, 1)]), (.ofNat 0, [(.ofNat 1, 2)]), (.ofNat 0, [(.ofNat 1, 3)]), (.ofNat 0, [(.ofNat 1, 4)]), (.ofNat 0, [(.ofNat 1, 5)]), (.ofNat 0, [(.ofNat 1, 6)]), (.ofNat 0, [(.ofNat 1, 7)])]), (199, [(.ofNat 0, [(.ofNat 1, 3)]), (.ofNat 7, [])]), (200, [(.ofNat 0, [(.ofNat 1, 3)]), (.ofNat 0, [(.ofNat 1, 8)])])] : List sFc), fcOk fFS [s0, s1, s2, s3, s4, s5, s6, s7, s8] hp q := hH.2
  have f0 : SHq (XT hp) (nmR hp (xnm hp)) s0 s1 s2 s3 s4 s5 s6 s7 ∧ s4 ≠ 4 := fcX (ys := [s0, s1, s2, s3, s4, s5, s6, s7]) (hFc _ (.head _)) ⟨sE_V rfl, sE_V rfl, sE_V rfl, sE_V rfl, sE_V rfl, sE_V rfl, sE_V rfl, sE_V rfl, trivial⟩
  have f1 : (7 : Int) = dp s3 + 1 := fcX (ys := [s3, 7]) (hFc _ (.tail _ (.head _))) ⟨sE_V rfl, sE_k _ _, trivial⟩
  have f2 : s8 = nr s3 := fcX (ys := [s3, s8]) (hFc _ (.tail _ (.tail _ (.head _)))) ⟨sE_V rfl, sE_V rfl, trivial⟩
  have ud : dp s3 ≤ 7 := by omega
  have ut := dp_lt (t := s3) (by omega) ud
  exact poX (.head _) rfl hR (all_nil) (all_nil) (all_cons ⟨[s6, 1, (s2 + 1), s3], ⟨sE_V rfl, sE_k _ _, sEv (y' := ((1 : Int) + ((1 : Int) * s2 + 0))) rfl (by omega), sE_V rfl, trivial⟩, (show SG (XT hp) (nmR hp (xnm hp)) s6 (1 : Int) (s2 + 1) s3 from s0_of f0.1 (by omega) (by omega) (by omega) (by omega) ud)⟩ (all_nil))
theorem rl392 : ruOk fFS gR392 := by
  intro r hp hO hN hH
  obtain ⟨s0, s1, s2, s3, s4, s5, s6, s7, s8, rfl⟩ := len9 (show r.length = 9 from hN.1)
  have hR := hN.2.1.1
  have hIv : ∀ q ∈ ([(0, .negSucc 2147483647, .ofNat 2147483647), (1, .ofNat 0, .ofNat 0), (2, .ofNat 0, .ofNat 19), (3, .ofNat 0, .ofNat 6560), (4, .ofNat 1, .ofNat 1), (5, .negSucc 2147483647, .ofNat 2147483647), (6, .negSucc 2147483647, .ofNat 2147483647), (7, .ofNat 23, .ofNat 23), (8, .negSucc 2147483647, .ofNat 2147483647)] : sIv), ∃ x, ([s0, s1, s2, s3, s4, s5, s6, s7, s8] : List Int)[q.1]? = some x ∧ q.2.1 ≤ x ∧ x ≤ q.2.2 := hN.2.1.2
  have b1 : (0 : Int) ≤ s1 ∧ s1 ≤ (0 : Int) := ivX (q := (1, .ofNat 0, .ofNat 0)) (y := s1) (hIv _ (.tail _ (.head _))) rfl
  have b2 : (0 : Int) ≤ s2 ∧ s2 ≤ (19 : Int) := ivX (q := (2, .ofNat 0, .ofNat 19)) (y := s2) (hIv _ (.tail _ (.tail _ (.head _)))) rfl
  have b3 : (0 : Int) ≤ s3 ∧ s3 ≤ (6560 : Int) := ivX (q := (3, .ofNat 0, .ofNat 6560)) (y := s3) (hIv _ (.tail _ (.tail _ (.tail _ (.head _))))) rfl
  have b4 : (1 : Int) ≤ s4 ∧ s4 ≤ (1 : Int) := ivX (q := (4, .ofNat 1, .ofNat 1)) (y := s4) (hIv _ (.tail _ (.tail _ (.tail _ (.tail _ (.head _)))))) rfl
  have b7 : (23 : Int) ≤ s7 ∧ s7 ≤ (23 : Int) := ivX (q := (7, .ofNat 23, .ofNat 23)) (y := s7) (hIv _ (.tail _ (.tail _ (.tail _ (.tail _ (.tail _ (.tail _ (.tail _ (.head _))))))))) rfl
  have hRf : ∀ q ∈ ([((40, .ofNat 173, []), (.ofNat 9, []), 1, .ofNat 0, [])] : List sRf), rfOk [s0, s1, s2, s3, s4, s5, s6, s7, s8] hp q := hH.1
  have h0 : hI hp 173 9 = 0 := rfI0 (hRf _ (.head _)) (sE_k _ _) (sE_k _ _) (sE_k _ _)
  have hFc : ∀ q ∈ ([(192, [(.ofNat 0, [(.ofNat 1, 0)]), (.ofNat 0, [(.ofNat 1, 1)]), (.ofNat 0, [(.ofNat 1, 2)]), (.ofNat 0, [(.ofNat 1, 3)]), (.ofNat 0, [(.ofNat 1, 4)]), (.ofNat 0, [(.ofNat 1, 5)]), (.ofNat 0, [(.ofNat 1, 6)]), (.ofNat 0, [(.ofNat 1, 7)])]), (199, [(.ofNat 0, [(.ofNat 1, 3)]), (.ofNat 8, [])]), (200, [(.ofNat 0, [(.ofNat 1, 3)]), (.ofNat 0, [(.ofNat 1, 8)])])] : List sFc), fcOk fFS [s0, s1, s2, s3, s4, s5, s6, s7, s8] hp q := hH.2
  have f0 : SHq (XT hp) (nmR hp (xnm hp)) s0 s1 s2 s3 s4 s5 s6 s7 ∧ s4 ≠ 4 := fcX (ys := [s0, s1, s2, s3, s4, s5, s6, s7]) (hFc _ (.head _)) ⟨sE_V rfl, sE_V rfl, sE_V rfl, sE_V rfl, sE_V rfl, sE_V rfl, sE_V rfl, sE_V rfl, trivial⟩
  have f1 : (8 : Int) = dp s3 + 1 := fcX (ys := [s3, 8]) (hFc _ (.tail _ (.head _))) ⟨sE_V rfl, sE_k _ _, trivial⟩
  have f2 : s8 = nr s3 := fcX (ys := [s3, s8]) (hFc _ (.tail _ (.tail _ (.head _)))) ⟨sE_V rfl, sE_V rfl, trivial⟩
  have ud : dp s3 ≤ 7 := by omega
  have ut := dp_lt (t := s3) (by omega) ud
  exact poX (.head _) rfl hR (all_nil) (all_nil) (all_cons ⟨[s6, 1, (s2 + 1), s3], ⟨sE_V rfl, sE_k _ _, sEv (y' := ((1 : Int) + ((1 : Int) * s2 + 0))) rfl (by omega), sE_V rfl, trivial⟩, (show SG (XT hp) (nmR hp (xnm hp)) s6 (1 : Int) (s2 + 1) s3 from s0_of f0.1 (by omega) (by omega) (by omega) (by omega) ud)⟩ (all_nil))
theorem rl393 : ruOk fFS gR393 := by
  intro r hp hO hN hH
  obtain ⟨s0, s1, s2, s3, s4, s5, s6, s7, s8, rfl⟩ := len9 (show r.length = 9 from hN.1)
  have hR := hN.2.1.1
  have hIv : ∀ q ∈ ([(0, .negSucc 2147483647, .ofNat 2147483647), (1, .ofNat 0, .ofNat 0), (2, .ofNat 0, .ofNat 19), (3, .ofNat 0, .ofNat 6560), (4, .ofNat 1, .ofNat 1), (5, .negSucc 2147483647, .ofNat 2147483647), (6, .negSucc 2147483647, .ofNat 2147483647), (7, .ofNat 24, .ofNat 24), (8, .negSucc 2147483647, .ofNat 2147483647)] : sIv), ∃ x, ([s0, s1, s2, s3, s4, s5, s6, s7, s8] : List Int)[q.1]? = some x ∧ q.2.1 ≤ x ∧ x ≤ q.2.2 := hN.2.1.2
  have b1 : (0 : Int) ≤ s1 ∧ s1 ≤ (0 : Int) := ivX (q := (1, .ofNat 0, .ofNat 0)) (y := s1) (hIv _ (.tail _ (.head _))) rfl
  have b2 : (0 : Int) ≤ s2 ∧ s2 ≤ (19 : Int) := ivX (q := (2, .ofNat 0, .ofNat 19)) (y := s2) (hIv _ (.tail _ (.tail _ (.head _)))) rfl
  have b3 : (0 : Int) ≤ s3 ∧ s3 ≤ (6560 : Int) := ivX (q := (3, .ofNat 0, .ofNat 6560)) (y := s3) (hIv _ (.tail _ (.tail _ (.tail _ (.head _))))) rfl
  have b4 : (1 : Int) ≤ s4 ∧ s4 ≤ (1 : Int) := ivX (q := (4, .ofNat 1, .ofNat 1)) (y := s4) (hIv _ (.tail _ (.tail _ (.tail _ (.tail _ (.head _)))))) rfl
  have b7 : (24 : Int) ≤ s7 ∧ s7 ≤ (24 : Int) := ivX (q := (7, .ofNat 24, .ofNat 24)) (y := s7) (hIv _ (.tail _ (.tail _ (.tail _ (.tail _ (.tail _ (.tail _ (.tail _ (.head _))))))))) rfl
  have hRf : ∀ q ∈ ([((40, .ofNat 173, []), (.ofNat 9, []), 1, .ofNat 0, [])] : List sRf), rfOk [s0, s1, s2, s3, s4, s5, s6, s7, s8] hp q := hH.1
  have h0 : hI hp 173 9 = 0 := rfI0 (hRf _ (.head _)) (sE_k _ _) (sE_k _ _) (sE_k _ _)
  have hFc : ∀ q ∈ ([(192, [(.ofNat 0, [(.ofNat 1, 0)]), (.ofNat 0, [(.ofNat 1, 1)]), (.ofNat 0, [(.ofNat 1, 2)]), (.ofNat 0, [(.ofNat 1, 3)]), (.ofNat 0, [(.ofNat 1, 4)]), (.ofNat 0, [(.ofNat 1, 5)]), (.ofNat 0, [(.ofNat 1, 6)]), (.ofNat 0, [(.ofNat 1, 7)])]), (199, [(.ofNat 0, [(.ofNat 1, 3)]), (.ofNat 1, [])]), (200, [(.ofNat 0, [(.ofNat 1, 3)]), (.ofNat 0, [(.ofNat 1, 8)])])] : List sFc), fcOk fFS [s0, s1, s2, s3, s4, s5, s6, s7, s8] hp q := hH.2
  have f0 : SHq (XT hp) (nmR hp (xnm hp)) s0 s1 s2 s3 s4 s5 s6 s7 ∧ s4 ≠ 4 := fcX (ys := [s0, s1, s2, s3, s4, s5, s6, s7]) (hFc _ (.head _)) ⟨sE_V rfl, sE_V rfl, sE_V rfl, sE_V rfl, sE_V rfl, sE_V rfl, sE_V rfl, sE_V rfl, trivial⟩
  have f1 : (1 : Int) = dp s3 + 1 := fcX (ys := [s3, 1]) (hFc _ (.tail _ (.head _))) ⟨sE_V rfl, sE_k _ _, trivial⟩
  have f2 : s8 = nr s3 := fcX (ys := [s3, s8]) (hFc _ (.tail _ (.tail _ (.head _)))) ⟨sE_V rfl, sE_V rfl, trivial⟩
  have ud : dp s3 ≤ 7 := by omega
  have ut := dp_lt (t := s3) (by omega) ud
  exact poX (.head _) rfl hR (all_nil) (all_nil) (all_cons ⟨[s6, 2, (s2 + 1), s3], ⟨sE_V rfl, sE_k _ _, sEv (y' := ((1 : Int) + ((1 : Int) * s2 + 0))) rfl (by omega), sE_V rfl, trivial⟩, (show SG (XT hp) (nmR hp (xnm hp)) s6 (2 : Int) (s2 + 1) s3 from s0_for f0.1 (by omega) (by omega) (by omega) (by omega) ud)⟩ (all_nil))
theorem rl394 : ruOk fFS gR394 := by
  intro r hp hO hN hH
  obtain ⟨s0, s1, s2, s3, s4, s5, s6, s7, s8, rfl⟩ := len9 (show r.length = 9 from hN.1)
  have hR := hN.2.1.1
  have hIv : ∀ q ∈ ([(0, .negSucc 2147483647, .ofNat 2147483647), (1, .ofNat 0, .ofNat 0), (2, .ofNat 0, .ofNat 19), (3, .ofNat 0, .ofNat 6560), (4, .ofNat 1, .ofNat 1), (5, .negSucc 2147483647, .ofNat 2147483647), (6, .negSucc 2147483647, .ofNat 2147483647), (7, .ofNat 24, .ofNat 24), (8, .negSucc 2147483647, .ofNat 2147483647)] : sIv), ∃ x, ([s0, s1, s2, s3, s4, s5, s6, s7, s8] : List Int)[q.1]? = some x ∧ q.2.1 ≤ x ∧ x ≤ q.2.2 := hN.2.1.2
  have b1 : (0 : Int) ≤ s1 ∧ s1 ≤ (0 : Int) := ivX (q := (1, .ofNat 0, .ofNat 0)) (y := s1) (hIv _ (.tail _ (.head _))) rfl
  have b2 : (0 : Int) ≤ s2 ∧ s2 ≤ (19 : Int) := ivX (q := (2, .ofNat 0, .ofNat 19)) (y := s2) (hIv _ (.tail _ (.tail _ (.head _)))) rfl
  have b3 : (0 : Int) ≤ s3 ∧ s3 ≤ (6560 : Int) := ivX (q := (3, .ofNat 0, .ofNat 6560)) (y := s3) (hIv _ (.tail _ (.tail _ (.tail _ (.head _))))) rfl
  have b4 : (1 : Int) ≤ s4 ∧ s4 ≤ (1 : Int) := ivX (q := (4, .ofNat 1, .ofNat 1)) (y := s4) (hIv _ (.tail _ (.tail _ (.tail _ (.tail _ (.head _)))))) rfl
  have b7 : (24 : Int) ≤ s7 ∧ s7 ≤ (24 : Int) := ivX (q := (7, .ofNat 24, .ofNat 24)) (y := s7) (hIv _ (.tail _ (.tail _ (.tail _ (.tail _ (.tail _ (.tail _ (.tail _ (.head _))))))))) rfl
  have hRf : ∀ q ∈ ([((40, .ofNat 173, []), (.ofNat 9, []), 1, .ofNat 0, [])] : List sRf), rfOk [s0, s1, s2, s3, s4, s5, s6, s7, s8] hp q := hH.1
  have h0 : hI hp 173 9 = 0 := rfI0 (hRf _ (.head _)) (sE_k _ _) (sE_k _ _) (sE_k _ _)
  have hFc : ∀ q ∈ ([(192, [(.ofNat 0, [(.ofNat 1, 0)]), (.ofNat 0, [(.ofNat 1, 1)]), (.ofNat 0, [(.ofNat 1, 2)]), (.ofNat 0, [(.ofNat 1, 3)]), (.ofNat 0, [(.ofNat 1, 4)]), (.ofNat 0, [(.ofNat 1, 5)]), (.ofNat 0, [(.ofNat 1, 6)]), (.ofNat 0, [(.ofNat 1, 7)])]), (199, [(.ofNat 0, [(.ofNat 1, 3)]), (.ofNat 2, [])]), (200, [(.ofNat 0, [(.ofNat 1, 3)]), (.ofNat 0, [(.ofNat 1, 8)])])] : List sFc), fcOk fFS [s0, s1, s2, s3, s4, s5, s6, s7, s8] hp q := hH.2
  have f0 : SHq (XT hp) (nmR hp (xnm hp)) s0 s1 s2 s3 s4 s5 s6 s7 ∧ s4 ≠ 4 := fcX (ys := [s0, s1, s2, s3, s4, s5, s6, s7]) (hFc _ (.head _)) ⟨sE_V rfl, sE_V rfl, sE_V rfl, sE_V rfl, sE_V rfl, sE_V rfl, sE_V rfl, sE_V rfl, trivial⟩
  have f1 : (2 : Int) = dp s3 + 1 := fcX (ys := [s3, 2]) (hFc _ (.tail _ (.head _))) ⟨sE_V rfl, sE_k _ _, trivial⟩
  have f2 : s8 = nr s3 := fcX (ys := [s3, s8]) (hFc _ (.tail _ (.tail _ (.head _)))) ⟨sE_V rfl, sE_V rfl, trivial⟩
  have ud : dp s3 ≤ 7 := by omega
  have ut := dp_lt (t := s3) (by omega) ud
  exact poX (.head _) rfl hR (all_nil) (all_nil) (all_cons ⟨[s6, 2, (s2 + 1), s3], ⟨sE_V rfl, sE_k _ _, sEv (y' := ((1 : Int) + ((1 : Int) * s2 + 0))) rfl (by omega), sE_V rfl, trivial⟩, (show SG (XT hp) (nmR hp (xnm hp)) s6 (2 : Int) (s2 + 1) s3 from s0_for f0.1 (by omega) (by omega) (by omega) (by omega) ud)⟩ (all_nil))
theorem rl395 : ruOk fFS gR395 := by
  intro r hp hO hN hH
  obtain ⟨s0, s1, s2, s3, s4, s5, s6, s7, s8, rfl⟩ := len9 (show r.length = 9 from hN.1)
  have hR := hN.2.1.1
  have hIv : ∀ q ∈ ([(0, .negSucc 2147483647, .ofNat 2147483647), (1, .ofNat 0, .ofNat 0), (2, .ofNat 0, .ofNat 19), (3, .ofNat 0, .ofNat 6560), (4, .ofNat 1, .ofNat 1), (5, .negSucc 2147483647, .ofNat 2147483647), (6, .negSucc 2147483647, .ofNat 2147483647), (7, .ofNat 24, .ofNat 24), (8, .negSucc 2147483647, .ofNat 2147483647)] : sIv), ∃ x, ([s0, s1, s2, s3, s4, s5, s6, s7, s8] : List Int)[q.1]? = some x ∧ q.2.1 ≤ x ∧ x ≤ q.2.2 := hN.2.1.2
  have b1 : (0 : Int) ≤ s1 ∧ s1 ≤ (0 : Int) := ivX (q := (1, .ofNat 0, .ofNat 0)) (y := s1) (hIv _ (.tail _ (.head _))) rfl
  have b2 : (0 : Int) ≤ s2 ∧ s2 ≤ (19 : Int) := ivX (q := (2, .ofNat 0, .ofNat 19)) (y := s2) (hIv _ (.tail _ (.tail _ (.head _)))) rfl
  have b3 : (0 : Int) ≤ s3 ∧ s3 ≤ (6560 : Int) := ivX (q := (3, .ofNat 0, .ofNat 6560)) (y := s3) (hIv _ (.tail _ (.tail _ (.tail _ (.head _))))) rfl
  have b4 : (1 : Int) ≤ s4 ∧ s4 ≤ (1 : Int) := ivX (q := (4, .ofNat 1, .ofNat 1)) (y := s4) (hIv _ (.tail _ (.tail _ (.tail _ (.tail _ (.head _)))))) rfl
  have b7 : (24 : Int) ≤ s7 ∧ s7 ≤ (24 : Int) := ivX (q := (7, .ofNat 24, .ofNat 24)) (y := s7) (hIv _ (.tail _ (.tail _ (.tail _ (.tail _ (.tail _ (.tail _ (.tail _ (.head _))))))))) rfl
  have hRf : ∀ q ∈ ([((40, .ofNat 173, []), (.ofNat 9, []), 1, .ofNat 0, [])] : List sRf), rfOk [s0, s1, s2, s3, s4, s5, s6, s7, s8] hp q := hH.1
  have h0 : hI hp 173 9 = 0 := rfI0 (hRf _ (.head _)) (sE_k _ _) (sE_k _ _) (sE_k _ _)
  have hFc : ∀ q ∈ ([(192, [(.ofNat 0, [(.ofNat 1, 0)]), (.ofNat 0, [(.ofNat 1, 1)]), (.ofNat 0, [(.ofNat 1, 2)]), (.ofNat 0, [(.ofNat 1, 3)]), (.ofNat 0, [(.ofNat 1, 4)]), (.ofNat 0, [(.ofNat 1, 5)]), (.ofNat 0, [(.ofNat 1, 6)]), (.ofNat 0, [(.ofNat 1, 7)])]), (199, [(.ofNat 0, [(.ofNat 1, 3)]), (.ofNat 3, [])]), (200, [(.ofNat 0, [(.ofNat 1, 3)]), (.ofNat 0, [(.ofNat 1, 8)])])] : List sFc), fcOk fFS [s0, s1, s2, s3, s4, s5, s6, s7, s8] hp q := hH.2
  have f0 : SHq (XT hp) (nmR hp (xnm hp)) s0 s1 s2 s3 s4 s5 s6 s7 ∧ s4 ≠ 4 := fcX (ys := [s0, s1, s2, s3, s4, s5, s6, s7]) (hFc _ (.head _)) ⟨sE_V rfl, sE_V rfl, sE_V rfl, sE_V rfl, sE_V rfl, sE_V rfl, sE_V rfl, sE_V rfl, trivial⟩
  have f1 : (3 : Int) = dp s3 + 1 := fcX (ys := [s3, 3]) (hFc _ (.tail _ (.head _))) ⟨sE_V rfl, sE_k _ _, trivial⟩
  have f2 : s8 = nr s3 := fcX (ys := [s3, s8]) (hFc _ (.tail _ (.tail _ (.head _)))) ⟨sE_V rfl, sE_V rfl, trivial⟩
  have ud : dp s3 ≤ 7 := by omega
  have ut := dp_lt (t := s3) (by omega) ud
  exact poX (.head _) rfl hR (all_nil) (all_nil) (all_cons ⟨[s6, 2, (s2 + 1), s3], ⟨sE_V rfl, sE_k _ _, sEv (y' := ((1 : Int) + ((1 : Int) * s2 + 0))) rfl (by omega), sE_V rfl, trivial⟩, (show SG (XT hp) (nmR hp (xnm hp)) s6 (2 : Int) (s2 + 1) s3 from s0_for f0.1 (by omega) (by omega) (by omega) (by omega) ud)⟩ (all_nil))
theorem rl396 : ruOk fFS gR396 := by
  intro r hp hO hN hH
  obtain ⟨s0, s1, s2, s3, s4, s5, s6, s7, s8, rfl⟩ := len9 (show r.length = 9 from hN.1)
  have hR := hN.2.1.1
  have hIv : ∀ q ∈ ([(0, .negSucc 2147483647, .ofNat 2147483647), (1, .ofNat 0, .ofNat 0), (2, .ofNat 0, .ofNat 19), (3, .ofNat 0, .ofNat 6560), (4, .ofNat 1, .ofNat 1), (5, .negSucc 2147483647, .ofNat 2147483647), (6, .negSucc 2147483647, .ofNat 2147483647), (7, .ofNat 24, .ofNat 24), (8, .negSucc 2147483647, .ofNat 2147483647)] : sIv), ∃ x, ([s0, s1, s2, s3, s4, s5, s6, s7, s8] : List Int)[q.1]? = some x ∧ q.2.1 ≤ x ∧ x ≤ q.2.2 := hN.2.1.2
  have b1 : (0 : Int) ≤ s1 ∧ s1 ≤ (0 : Int) := ivX (q := (1, .ofNat 0, .ofNat 0)) (y := s1) (hIv _ (.tail _ (.head _))) rfl
  have b2 : (0 : Int) ≤ s2 ∧ s2 ≤ (19 : Int) := ivX (q := (2, .ofNat 0, .ofNat 19)) (y := s2) (hIv _ (.tail _ (.tail _ (.head _)))) rfl
  have b3 : (0 : Int) ≤ s3 ∧ s3 ≤ (6560 : Int) := ivX (q := (3, .ofNat 0, .ofNat 6560)) (y := s3) (hIv _ (.tail _ (.tail _ (.tail _ (.head _))))) rfl
  have b4 : (1 : Int) ≤ s4 ∧ s4 ≤ (1 : Int) := ivX (q := (4, .ofNat 1, .ofNat 1)) (y := s4) (hIv _ (.tail _ (.tail _ (.tail _ (.tail _ (.head _)))))) rfl
  have b7 : (24 : Int) ≤ s7 ∧ s7 ≤ (24 : Int) := ivX (q := (7, .ofNat 24, .ofNat 24)) (y := s7) (hIv _ (.tail _ (.tail _ (.tail _ (.tail _ (.tail _ (.tail _ (.tail _ (.head _))))))))) rfl
  have hRf : ∀ q ∈ ([((40, .ofNat 173, []), (.ofNat 9, []), 1, .ofNat 0, [])] : List sRf), rfOk [s0, s1, s2, s3, s4, s5, s6, s7, s8] hp q := hH.1
  have h0 : hI hp 173 9 = 0 := rfI0 (hRf _ (.head _)) (sE_k _ _) (sE_k _ _) (sE_k _ _)
  have hFc : ∀ q ∈ ([(192, [(.ofNat 0, [(.ofNat 1, 0)]), (.ofNat 0, [(.ofNat 1, 1)]), (.ofNat 0, [(.ofNat 1, 2)]), (.ofNat 0, [(.ofNat 1, 3)]), (.ofNat 0, [(.ofNat 1, 4)]), (.ofNat 0, [(.ofNat 1, 5)]), (.ofNat 0, [(.ofNat 1, 6)]), (.ofNat 0, [(.ofNat 1, 7)])]), (199, [(.ofNat 0, [(.ofNat 1, 3)]), (.ofNat 4, [])]), (200, [(.ofNat 0, [(.ofNat 1, 3)]), (.ofNat 0, [(.ofNat 1, 8)])])] : List sFc), fcOk fFS [s0, s1, s2, s3, s4, s5, s6, s7, s8] hp q := hH.2
  have f0 : SHq (XT hp) (nmR hp (xnm hp)) s0 s1 s2 s3 s4 s5 s6 s7 ∧ s4 ≠ 4 := fcX (ys := [s0, s1, s2, s3, s4, s5, s6, s7]) (hFc _ (.head _)) ⟨sE_V rfl, sE_V rfl, sE_V rfl, sE_V rfl, sE_V rfl, sE_V rfl, sE_V rfl, sE_V rfl, trivial⟩
  have f1 : (4 : Int) = dp s3 + 1 := fcX (ys := [s3, 4]) (hFc _ (.tail _ (.head _))) ⟨sE_V rfl, sE_k _ _, trivial⟩
  have f2 : s8 = nr s3 := fcX (ys := [s3, s8]) (hFc _ (.tail _ (.tail _ (.head _)))) ⟨sE_V rfl, sE_V rfl, trivial⟩
  have ud : dp s3 ≤ 7 := by omega
  have ut := dp_lt (t := s3) (by omega) ud
  exact poX (.head _) rfl hR (all_nil) (all_nil) (all_cons ⟨[s6, 2, (s2 + 1), s3], ⟨sE_V rfl, sE_k _ _, sEv (y' := ((1 : Int) + ((1 : Int) * s2 + 0))) rfl (by omega), sE_V rfl, trivial⟩, (show SG (XT hp) (nmR hp (xnm hp)) s6 (2 : Int) (s2 + 1) s3 from s0_for f0.1 (by omega) (by omega) (by omega) (by omega) ud)⟩ (all_nil))
theorem rl397 : ruOk fFS gR397 := by
  intro r hp hO hN hH
  obtain ⟨s0, s1, s2, s3, s4, s5, s6, s7, s8, rfl⟩ := len9 (show r.length = 9 from hN.1)
  have hR := hN.2.1.1
  have hIv : ∀ q ∈ ([(0, .negSucc 2147483647, .ofNat 2147483647), (1, .ofNat 0, .ofNat 0), (2, .ofNat 0, .ofNat 19), (3, .ofNat 0, .ofNat 6560), (4, .ofNat 1, .ofNat 1), (5, .negSucc 2147483647, .ofNat 2147483647), (6, .negSucc 2147483647, .ofNat 2147483647), (7, .ofNat 24, .ofNat 24), (8, .negSucc 2147483647, .ofNat 2147483647)] : sIv), ∃ x, ([s0, s1, s2, s3, s4, s5, s6, s7, s8] : List Int)[q.1]? = some x ∧ q.2.1 ≤ x ∧ x ≤ q.2.2 := hN.2.1.2
  have b1 : (0 : Int) ≤ s1 ∧ s1 ≤ (0 : Int) := ivX (q := (1, .ofNat 0, .ofNat 0)) (y := s1) (hIv _ (.tail _ (.head _))) rfl
  have b2 : (0 : Int) ≤ s2 ∧ s2 ≤ (19 : Int) := ivX (q := (2, .ofNat 0, .ofNat 19)) (y := s2) (hIv _ (.tail _ (.tail _ (.head _)))) rfl
  have b3 : (0 : Int) ≤ s3 ∧ s3 ≤ (6560 : Int) := ivX (q := (3, .ofNat 0, .ofNat 6560)) (y := s3) (hIv _ (.tail _ (.tail _ (.tail _ (.head _))))) rfl
  have b4 : (1 : Int) ≤ s4 ∧ s4 ≤ (1 : Int) := ivX (q := (4, .ofNat 1, .ofNat 1)) (y := s4) (hIv _ (.tail _ (.tail _ (.tail _ (.tail _ (.head _)))))) rfl
  have b7 : (24 : Int) ≤ s7 ∧ s7 ≤ (24 : Int) := ivX (q := (7, .ofNat 24, .ofNat 24)) (y := s7) (hIv _ (.tail _ (.tail _ (.tail _ (.tail _ (.tail _ (.tail _ (.tail _ (.head _))))))))) rfl
  have hRf : ∀ q ∈ ([((40, .ofNat 173, []), (.ofNat 9, []), 1, .ofNat 0, [])] : List sRf), rfOk [s0, s1, s2, s3, s4, s5, s6, s7, s8] hp q := hH.1
  have h0 : hI hp 173 9 = 0 := rfI0 (hRf _ (.head _)) (sE_k _ _) (sE_k _ _) (sE_k _ _)
  have hFc : ∀ q ∈ ([(192, [(.ofNat 0, [(.ofNat 1, 0)]), (.ofNat 0, [(.ofNat 1, 1)]), (.ofNat 0, [(.ofNat 1, 2)]), (.ofNat 0, [(.ofNat 1, 3)]), (.ofNat 0, [(.ofNat 1, 4)]), (.ofNat 0, [(.ofNat 1, 5)]), (.ofNat 0, [(.ofNat 1, 6)]), (.ofNat 0, [(.ofNat 1, 7)])]), (199, [(.ofNat 0, [(.ofNat 1, 3)]), (.ofNat 5, [])]), (200, [(.ofNat 0, [(.ofNat 1, 3)]), (.ofNat 0, [(.ofNat 1, 8)])])] : List sFc), fcOk fFS [s0, s1, s2, s3, s4, s5, s6, s7, s8] hp q := hH.2
  have f0 : SHq (XT hp) (nmR hp (xnm hp)) s0 s1 s2 s3 s4 s5 s6 s7 ∧ s4 ≠ 4 := fcX (ys := [s0, s1, s2, s3, s4, s5, s6, s7]) (hFc _ (.head _)) ⟨sE_V rfl, sE_V rfl, sE_V rfl, sE_V rfl, sE_V rfl, sE_V rfl, sE_V rfl, sE_V rfl, trivial⟩
  have f1 : (5 : Int) = dp s3 + 1 := fcX (ys := [s3, 5]) (hFc _ (.tail _ (.head _))) ⟨sE_V rfl, sE_k _ _, trivial⟩
  have f2 : s8 = nr s3 := fcX (ys := [s3, s8]) (hFc _ (.tail _ (.tail _ (.head _)))) ⟨sE_V rfl, sE_V rfl, trivial⟩
  have ud : dp s3 ≤ 7 := by omega
  have ut := dp_lt (t := s3) (by omega) ud
  exact poX (.head _) rfl hR (all_nil) (all_nil) (all_cons ⟨[s6, 2, (s2 + 1), s3], ⟨sE_V rfl, sE_k _ _, sEv (y' := ((1 : Int) + ((1 : Int) * s2 + 0))) rfl (by omega), sE_V rfl, trivial⟩, (show SG (XT hp) (nmR hp (xnm hp)) s6 (2 : Int) (s2 + 1) s3 from s0_for f0.1 (by omega) (by omega) (by omega) (by omega) ud)⟩ (all_nil))
theorem rl398 : ruOk fFS gR398 := by
  intro r hp hO hN hH
  obtain ⟨s0, s1, s2, s3, s4, s5, s6, s7, s8, rfl⟩ := len9 (show r.length = 9 from hN.1)
  have hR := hN.2.1.1
  have hIv : ∀ q ∈ ([(0, .negSucc 2147483647, .ofNat 2147483647), (1, .ofNat 0, .ofNat 0), (2, .ofNat 0, .ofNat 19), (3, .ofNat 0, .ofNat 6560), (4, .ofNat 1, .ofNat 1), (5, .negSucc 2147483647, .ofNat 2147483647), (6, .negSucc 2147483647, .ofNat 2147483647), (7, .ofNat 24, .ofNat 24), (8, .negSucc 2147483647, .ofNat 2147483647)] : sIv), ∃ x, ([s0, s1, s2, s3, s4, s5, s6, s7, s8] : List Int)[q.1]? = some x ∧ q.2.1 ≤ x ∧ x ≤ q.2.2 := hN.2.1.2
  have b1 : (0 : Int) ≤ s1 ∧ s1 ≤ (0 : Int) := ivX (q := (1, .ofNat 0, .ofNat 0)) (y := s1) (hIv _ (.tail _ (.head _))) rfl
  have b2 : (0 : Int) ≤ s2 ∧ s2 ≤ (19 : Int) := ivX (q := (2, .ofNat 0, .ofNat 19)) (y := s2) (hIv _ (.tail _ (.tail _ (.head _)))) rfl
  have b3 : (0 : Int) ≤ s3 ∧ s3 ≤ (6560 : Int) := ivX (q := (3, .ofNat 0, .ofNat 6560)) (y := s3) (hIv _ (.tail _ (.tail _ (.tail _ (.head _))))) rfl
  have b4 : (1 : Int) ≤ s4 ∧ s4 ≤ (1 : Int) := ivX (q := (4, .ofNat 1, .ofNat 1)) (y := s4) (hIv _ (.tail _ (.tail _ (.tail _ (.tail _ (.head _)))))) rfl
  have b7 : (24 : Int) ≤ s7 ∧ s7 ≤ (24 : Int) := ivX (q := (7, .ofNat 24, .ofNat 24)) (y := s7) (hIv _ (.tail _ (.tail _ (.tail _ (.tail _ (.tail _ (.tail _ (.tail _ (.head _))))))))) rfl
  have hRf : ∀ q ∈ ([((40, .ofNat 173, []), (.ofNat 9, []), 1, .ofNat 0, [])] : List sRf), rfOk [s0, s1, s2, s3, s4, s5, s6, s7, s8] hp q := hH.1
  have h0 : hI hp 173 9 = 0 := rfI0 (hRf _ (.head _)) (sE_k _ _) (sE_k _ _) (sE_k _ _)
  have hFc : ∀ q ∈ ([(192, [(.ofNat 0, [(.ofNat 1, 0)]), (.ofNat 0, [(.ofNat 1, 1)]), (.ofNat 0, [(.ofNat 1, 2)]), (.ofNat 0, [(.ofNat 1, 3)]), (.ofNat 0, [(.ofNat 1, 4)]), (.ofNat 0, [(.ofNat 1, 5)]), (.ofNat 0, [(.ofNat 1, 6)]), (.ofNat 0, [(.ofNat 1, 7)])]), (199, [(.ofNat 0, [(.ofNat 1, 3)]), (.ofNat 6, [])]), (200, [(.ofNat 0, [(.ofNat 1, 3)]), (.ofNat 0, [(.ofNat 1, 8)])])] : List sFc), fcOk fFS [s0, s1, s2, s3, s4, s5, s6, s7, s8] hp q := hH.2
  have f0 : SHq (XT hp) (nmR hp (xnm hp)) s0 s1 s2 s3 s4 s5 s6 s7 ∧ s4 ≠ 4 := fcX (ys := [s0, s1, s2, s3, s4, s5, s6, s7]) (hFc _ (.head _)) ⟨sE_V rfl, sE_V rfl, sE_V rfl, sE_V rfl, sE_V rfl, sE_V rfl, sE_V rfl, sE_V rfl, trivial⟩
  have f1 : (6 : Int) = dp s3 + 1 := fcX (ys := [s3, 6]) (hFc _ (.tail _ (.head _))) ⟨sE_V rfl, sE_k _ _, trivial⟩
  have f2 : s8 = nr s3 := fcX (ys := [s3, s8]) (hFc _ (.tail _ (.tail _ (.head _)))) ⟨sE_V rfl, sE_V rfl, trivial⟩
  have ud : dp s3 ≤ 7 := by omega
  have ut := dp_lt (t := s3) (by omega) ud
  exact poX (.head _) rfl hR (all_nil) (all_nil) (all_cons ⟨[s6, 2, (s2 + 1), s3], ⟨sE_V rfl, sE_k _ _, sEv (y' := ((1 : Int) + ((1 : Int) * s2 + 0))) rfl (by omega), sE_V rfl, trivial⟩, (show SG (XT hp) (nmR hp (xnm hp)) s6 (2 : Int) (s2 + 1) s3 from s0_for f0.1 (by omega) (by omega) (by omega) (by omega) ud)⟩ (all_nil))
theorem rl399 : ruOk fFS gR399 := by
  intro r hp hO hN hH
  obtain ⟨s0, s1, s2, s3, s4, s5, s6, s7, s8, rfl⟩ := len9 (show r.length = 9 from hN.1)
  have hR := hN.2.1.1
  have hIv : ∀ q ∈ ([(0, .negSucc 2147483647, .ofNat 2147483647), (1, .ofNat 0, .ofNat 0), (2, .ofNat 0, .ofNat 19), (3, .ofNat 0, .ofNat 6560), (4, .ofNat 1, .ofNat 1), (5, .negSucc 2147483647, .ofNat 2147483647), (6, .negSucc 2147483647, .ofNat 2147483647), (7, .ofNat 24, .ofNat 24), (8, .negSucc 2147483647, .ofNat 2147483647)] : sIv), ∃ x, ([s0, s1, s2, s3, s4, s5, s6, s7, s8] : List Int)[q.1]? = some x ∧ q.2.1 ≤ x ∧ x ≤ q.2.2 := hN.2.1.2
  have b1 : (0 : Int) ≤ s1 ∧ s1 ≤ (0 : Int) := ivX (q := (1, .ofNat 0, .ofNat 0)) (y := s1) (hIv _ (.tail _ (.head _))) rfl
  have b2 : (0 : Int) ≤ s2 ∧ s2 ≤ (19 : Int) := ivX (q := (2, .ofNat 0, .ofNat 19)) (y := s2) (hIv _ (.tail _ (.tail _ (.head _)))) rfl
  have b3 : (0 : Int) ≤ s3 ∧ s3 ≤ (6560 : Int) := ivX (q := (3, .ofNat 0, .ofNat 6560)) (y := s3) (hIv _ (.tail _ (.tail _ (.tail _ (.head _))))) rfl
  have b4 : (1 : Int) ≤ s4 ∧ s4 ≤ (1 : Int) := ivX (q := (4, .ofNat 1, .ofNat 1)) (y := s4) (hIv _ (.tail _ (.tail _ (.tail _ (.tail _ (.head _)))))) rfl
  have b7 : (24 : Int) ≤ s7 ∧ s7 ≤ (24 : Int) := ivX (q := (7, .ofNat 24, .ofNat 24)) (y := s7) (hIv _ (.tail _ (.tail _ (.tail _ (.tail _ (.tail _ (.tail _ (.tail _ (.head _))))))))) rfl
  have hRf : ∀ q ∈ ([((40, .ofNat 173, []), (.ofNat 9, []), 1, .ofNat 0, [])] : List sRf), rfOk [s0, s1, s2, s3, s4, s5, s6, s7, s8] hp q := hH.1
  have h0 : hI hp 173 9 = 0 := rfI0 (hRf _ (.head _)) (sE_k _ _) (sE_k _ _) (sE_k _ _)
  have hFc : ∀ q ∈ ([(192, [(.ofNat 0, [(.ofNat 1, 0)]), (.ofNat 0, [(.ofNat 1, 1)]), (.ofNat 0, [(.ofNat 1, 2)]), (.ofNat 0, [(.ofNat 1, 3)]), (.ofNat 0, [(.ofNat 1, 4)]), (.ofNat 0, [(.ofNat 1, 5)]), (.ofNat 0, [(.ofNat 1, 6)]), (.ofNat 0, [(.ofNat 1, 7)])]), (199, [(.ofNat 0, [(.ofNat 1, 3)]), (.ofNat 7, [])]), (200, [(.ofNat 0, [(.ofNat 1, 3)]), (.ofNat 0, [(.ofNat 1, 8)])])] : List sFc), fcOk fFS [s0, s1, s2, s3, s4, s5, s6, s7, s8] hp q := hH.2
  have f0 : SHq (XT hp) (nmR hp (xnm hp)) s0 s1 s2 s3 s4 s5 s6 s7 ∧ s4 ≠ 4 := fcX (ys := [s0, s1, s2, s3, s4, s5, s6, s7]) (hFc _ (.head _)) ⟨sE_V rfl, sE_V rfl, sE_V rfl, sE_V rfl, sE_V rfl, sE_V rfl, sE_V rfl, sE_V rfl, trivial⟩
  have f1 : (7 : Int) = dp s3 + 1 := fcX (ys := [s3, 7]) (hFc _ (.tail _ (.head _))) ⟨sE_V rfl, sE_k _ _, trivial⟩
  have f2 : s8 = nr s3 := fcX (ys := [s3, s8]) (hFc _ (.tail _ (.tail _ (.head _)))) ⟨sE_V rfl, sE_V rfl, trivial⟩
  have ud : dp s3 ≤ 7 := by omega
  have ut := dp_lt (t := s3) (by omega) ud
  exact poX (.head _) rfl hR (all_nil) (all_nil) (all_cons ⟨[s6, 2, (s2 + 1), s3], ⟨sE_V rfl, sE_k _ _, sEv (y' := ((1 : Int) + ((1 : Int) * s2 + 0))) rfl (by omega), sE_V rfl, trivial⟩, (show SG (XT hp) (nmR hp (xnm hp)) s6 (2 : Int) (s2 + 1) s3 from s0_for f0.1 (by omega) (by omega) (by omega) (by omega) ud)⟩ (all_nil))
end CkRul4
