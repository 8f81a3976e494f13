section CkRul7
theorem rl560 : ruOk fFS gR560 := by
  intro r hp hO hN hH
  obtain ⟨s0, s1, s2, rfl⟩ := len3 (show r.length = 3 from hN.1)
  have hR := hN.2.1.1
  have hIv : ∀ q ∈ ([(0, .negSucc 2147483647, .ofNat 2147483647), (1, .negSucc 2147483647, .ofNat 2147483647), (2, .negSucc 2147483647, .ofNat 2147483647)] : sIv), ∃ x, ([s0, s1, s2] : List Int)[q.1]? = some x ∧ q.2.1 ≤ x ∧ x ≤ q.2.2 := hN.2.1.2
  have hRf : ∀ q ∈ ([((80, .ofNat 275, []), (.ofNat 250, [(.ofNat 1, 1)]), 1, .ofNat 0, [(.ofNat 1, 2)])] : List sRf), rfOk [s0, s1, s2] hp q := hH.1
  obtain ⟨i0, e0, l0, h0⟩ := rfI (xv := s2) (iv := (s1 + 250)) (hRf _ (.head _)) (sE_k _ _) (sEv (y' := ((250 : Int) + ((1 : Int) * s1 + 0))) rfl (by omega)) (sE_V rfl)
  have l0 : i0 < 871 := l0
  have h0 : hI hp 275 i0 = s2 := h0
  have hFc : ∀ q ∈ ([(9, [(.ofNat 0, [(.ofNat 1, 1)]), (.ofNat 0, [(.ofNat 1, 0), (.negSucc 0, 2)])])] : List sFc), fcOk fFS [s0, s1, s2] hp q := hH.2
  have f0 : fPsum s1 (s0 - s2) hp := fcX (ys := [s1, (s0 - s2)]) (hFc _ (.head _)) ⟨sE_V rfl, sEv (y' := ((0 : Int) + ((1 : Int) * s0 + ((-1 : Int) * s2 + 0)))) rfl (by omega), trivial⟩
  exact poX (.head _) rfl hR (all_nil) (all_nil) (all_cons ⟨[(s1 + 1), s0], ⟨sEv (y' := ((1 : Int) + ((1 : Int) * s1 + 0))) rfl (by omega), sE_V rfl, trivial⟩, (show fPsum (s1 + 1) s0 hp from psum_add f0 h0 (by omega) (by omega) (by omega))⟩ (all_nil))
theorem rl561 : ruOk fFS gR561 := by
  intro r hp hO hN hH
  obtain ⟨s0, s1, s2, rfl⟩ := len3 (show r.length = 3 from hN.1)
  have hR := hN.2.1.1
  have hIv : ∀ q ∈ ([(0, .negSucc 2147483647, .ofNat 2147483647), (1, .negSucc 2147483647, .ofNat 2147483647), (2, .negSucc 2147483647, .ofNat 2147483647)] : sIv), ∃ x, ([s0, s1, s2] : List Int)[q.1]? = some x ∧ q.2.1 ≤ x ∧ x ≤ q.2.2 := hN.2.1.2
  have hCs : ∀ c ∈ ([(.ofNat 0, [(.negSucc 0, 1), (.ofNat 1, 2)]), (.ofNat 0, [(.ofNat 1, 1), (.negSucc 0, 2)])] : List sLn), ∃ x, sE [s0, s1, s2] c = some x ∧ x ≤ 0 := hN.2.2.1
  have c0 : ((0 : Int) + ((-1 : Int) * s1 + ((1 : Int) * s2 + 0))) ≤ 0 := csX (hCs _ (.head _)) rfl
  have c1 : ((0 : Int) + ((1 : Int) * s1 + ((-1 : Int) * s2 + 0))) ≤ 0 := csX (hCs _ (.tail _ (.head _))) rfl
  have hRf : ∀ q ∈ ([((80, .ofNat 275, []), (.ofNat 6, []), 1, .ofNat 0, [(.ofNat 1, 2)])] : List sRf), rfOk [s0, s1, s2] hp q := hH.1
  have h0 : hI hp 275 6 = s2 := rfI0 (hRf _ (.head _)) (sE_k _ _) (sE_k _ _) (sE_V rfl)
  have y0 : (0 : Int) ≤ s2 ∧ s2 ≤ (8 : Int) := by rw [← h0]; exact hI_ty hO (by decide) rfl
  have hFc : ∀ q ∈ ([(9, [(.ofNat 0, [(.ofNat 1, 1)]), (.ofNat 0, [(.ofNat 1, 0)])])] : List sFc), fcOk fFS [s0, s1, s2] hp q := hH.2
  have f0 : fPsum s1 s0 hp := fcX (ys := [s1, s0]) (hFc _ (.head _)) ⟨sE_V rfl, sE_V rfl, trivial⟩
  exact poX (.head _) rfl hR (all_nil) (all_nil) (all_cons ⟨[0, s0], ⟨sE_k _ _, sE_V rfl, trivial⟩, (show fSum 0 s0 hp from sum_of' hO f0 h0 (by omega) (by omega))⟩ (all_nil))
theorem rl562 : ruOk fFS gR562 := by
  intro r hp hO hN hH
  have hr0 := len0 (show r.length = 0 from hN.1)
  subst hr0
  have hR := hN.2.1.1
  exact poX (.head _) rfl hR (all_nil) (all_nil) (all_cons ⟨[(-1)], ⟨sE_k _ _, trivial⟩, (show fMod (-1) from Or.inl (by omega))⟩ (all_nil))
theorem rl563 : ruOk fFS gR563 := by
  intro r hp hO hN hH
  obtain ⟨s0, rfl⟩ := len1 (show r.length = 1 from hN.1)
  have hR := hN.2.1.1
  have hIv : ∀ q ∈ ([(0, .ofNat 1, .ofNat 10)] : sIv), ∃ x, ([s0] : List Int)[q.1]? = some x ∧ q.2.1 ≤ x ∧ x ≤ q.2.2 := hN.2.1.2
  have b0 : (1 : Int) ≤ s0 ∧ s0 ≤ (10 : Int) := ivX (q := (0, .ofNat 1, .ofNat 10)) (y := s0) (hIv _ (.head _)) rfl
  have hRf : ∀ q ∈ ([((80, .ofNat 275, []), (.ofNat 0, []), 1, .ofNat 0, [(.ofNat 1, 0)])] : List sRf), rfOk [s0] hp q := hH.1
  have h0 : hI hp 275 0 = s0 := rfI0 (hRf _ (.head _)) (sE_k _ _) (sE_k _ _) (sE_V rfl)
  have y0 : (1 : Int) ≤ s0 ∧ s0 ≤ (10 : Int) := by rw [← h0]; exact hI_ty hO (by decide) rfl
  have y : (((1 : Int) ≤ s0 ∧ s0 ≤ (1 : Int))) ∨ (((2 : Int) ≤ s0 ∧ s0 ≤ (2 : Int))) ∨ (((3 : Int) ≤ s0 ∧ s0 ≤ (3 : Int))) ∨ (((4 : Int) ≤ s0 ∧ s0 ≤ (4 : Int))) ∨ (((5 : Int) ≤ s0 ∧ s0 ≤ (5 : Int))) ∨ (((6 : Int) ≤ s0 ∧ s0 ≤ (6 : Int))) ∨ (((7 : Int) ≤ s0 ∧ s0 ≤ (7 : Int))) ∨ (((8 : Int) ≤ s0 ∧ s0 ≤ (8 : Int))) ∨ (((9 : Int) ≤ s0 ∧ s0 ≤ (9 : Int))) ∨ (((10 : Int) ≤ s0 ∧ s0 ≤ (10 : Int))) := by omega
  rcases y with y | y | y | y | y | y | y | y | y | y
  · exact poX (.head _) rfl hR (all_cons (ivO (y := s0) rfl (show (1 : Int) ≤ s0 by omega) (show s0 ≤ (1 : Int) by omega)) (all_nil)) (all_nil) (all_nil)
  · exact poX (.tail _ (.head _)) rfl hR (all_cons (ivO (y := s0) rfl (show (2 : Int) ≤ s0 by omega) (show s0 ≤ (2 : Int) by omega)) (all_nil)) (all_nil) (all_nil)
  · exact poX (.tail _ (.tail _ (.head _))) rfl hR (all_cons (ivO (y := s0) rfl (show (3 : Int) ≤ s0 by omega) (show s0 ≤ (3 : Int) by omega)) (all_nil)) (all_nil) (all_nil)
  · exact poX (.tail _ (.tail _ (.tail _ (.head _)))) rfl hR (all_cons (ivO (y := s0) rfl (show (4 : Int) ≤ s0 by omega) (show s0 ≤ (4 : Int) by omega)) (all_nil)) (all_nil) (all_nil)
  · exact poX (.tail _ (.tail _ (.tail _ (.tail _ (.head _))))) rfl hR (all_cons (ivO (y := s0) rfl (show (5 : Int) ≤ s0 by omega) (show s0 ≤ (5 : Int) by omega)) (all_nil)) (all_nil) (all_nil)
  · exact poX (.tail _ (.tail _ (.tail _ (.tail _ (.tail _ (.head _)))))) rfl hR (all_cons (ivO (y := s0) rfl (show (6 : Int) ≤ s0 by omega) (show s0 ≤ (6 : Int) by omega)) (all_nil)) (all_nil) (all_nil)
  · exact poX (.tail _ (.tail _ (.tail _ (.tail _ (.tail _ (.tail _ (.head _))))))) rfl hR (all_cons (ivO (y := s0) rfl (show (7 : Int) ≤ s0 by omega) (show s0 ≤ (7 : Int) by omega)) (all_nil)) (all_nil) (all_nil)
  · exact poX (.tail _ (.tail _ (.tail _ (.tail _ (.tail _ (.tail _ (.tail _ (.head _)))))))) rfl hR (all_cons (ivO (y := s0) rfl (show (8 : Int) ≤ s0 by omega) (show s0 ≤ (8 : Int) by omega)) (all_nil)) (all_nil) (all_nil)
  · exact poX (.tail _ (.tail _ (.tail _ (.tail _ (.tail _ (.tail _ (.tail _ (.tail _ (.head _))))))))) rfl hR (all_cons (ivO (y := s0) rfl (show (9 : Int) ≤ s0 by omega) (show s0 ≤ (9 : Int) by omega)) (all_nil)) (all_nil) (all_nil)
  · exact poX (.tail _ (.tail _ (.tail _ (.tail _ (.tail _ (.tail _ (.tail _ (.tail _ (.tail _ (.head _)))))))))) rfl hR (all_cons (ivO (y := s0) rfl (show (10 : Int) ≤ s0 by omega) (show s0 ≤ (10 : Int) by omega)) (all_nil)) (all_nil) (all_nil)
theorem rl564 : ruOk fFS gR564 := by
  intro r hp hO hN hH
  obtain ⟨s0, rfl⟩ := len1 (show r.length = 1 from hN.1)
  have hR := hN.2.1.1
  have hIv : ∀ q ∈ ([(0, .ofNat 1, .ofNat 10)] : sIv), ∃ x, ([s0] : List Int)[q.1]? = some x ∧ q.2.1 ≤ x ∧ x ≤ q.2.2 := hN.2.1.2
  have b0 : (1 : Int) ≤ s0 ∧ s0 ≤ (10 : Int) := ivX (q := (0, .ofNat 1, .ofNat 10)) (y := s0) (hIv _ (.head _)) rfl
  have hRf : ∀ q ∈ ([((80, .ofNat 275, []), (.ofNat 1, []), 1, .ofNat 0, [(.ofNat 1, 0)])] : List sRf), rfOk [s0] hp q := hH.1
  have h0 : hI hp 275 1 = s0 := rfI0 (hRf _ (.head _)) (sE_k _ _) (sE_k _ _) (sE_V rfl)
  have y0 : (1 : Int) ≤ s0 ∧ s0 ≤ (10 : Int) := by rw [← h0]; exact hI_ty hO (by decide) rfl
  have y : (((1 : Int) ≤ s0 ∧ s0 ≤ (1 : Int))) ∨ (((2 : Int) ≤ s0 ∧ s0 ≤ (2 : Int))) ∨ (((3 : Int) ≤ s0 ∧ s0 ≤ (3 : Int))) ∨ (((4 : Int) ≤ s0 ∧ s0 ≤ (4 : Int))) ∨ (((5 : Int) ≤ s0 ∧ s0 ≤ (5 : Int))) ∨ (((6 : Int) ≤ s0 ∧ s0 ≤ (6 : Int))) ∨ (((7 : Int) ≤ s0 ∧ s0 ≤ (7 : Int))) ∨ (((8 : Int) ≤ s0 ∧ s0 ≤ (8 : Int))) ∨ (((9 : Int) ≤ s0 ∧ s0 ≤ (9 : Int))) ∨ (((10 : Int) ≤ s0 ∧ s0 ≤ (10 : Int))) := by omega
  rcases y with y | y | y | y | y | y | y | y | y | y
  · exact poX (.head _) rfl hR (all_cons (ivO (y := s0) rfl (show (1 : Int) ≤ s0 by omega) (show s0 ≤ (1 : Int) by omega)) (all_nil)) (all_nil) (all_nil)
  · exact poX (.tail _ (.head _)) rfl hR (all_cons (ivO (y := s0) rfl (show (2 : Int) ≤ s0 by omega) (show s0 ≤ (2 : Int) by omega)) (all_nil)) (all_nil) (all_nil)
  · exact poX (.tail _ (.tail _ (.head _))) rfl hR (all_cons (ivO (y := s0) rfl (show (3 : Int) ≤ s0 by omega) (show s0 ≤ (3 : Int) by omega)) (all_nil)) (all_nil) (all_nil)
  · exact poX (.tail _ (.tail _ (.tail _ (.head _)))) rfl hR (all_cons (ivO (y := s0) rfl (show (4 : Int) ≤ s0 by omega) (show s0 ≤ (4 : Int) by omega)) (all_nil)) (all_nil) (all_nil)
  · exact poX (.tail _ (.tail _ (.tail _ (.tail _ (.head _))))) rfl hR (all_cons (ivO (y := s0) rfl (show (5 : Int) ≤ s0 by omega) (show s0 ≤ (5 : Int) by omega)) (all_nil)) (all_nil) (all_nil)
  · exact poX (.tail _ (.tail _ (.tail _ (.tail _ (.tail _ (.head _)))))) rfl hR (all_cons (ivO (y := s0) rfl (show (6 : Int) ≤ s0 by omega) (show s0 ≤ (6 : Int) by omega)) (all_nil)) (all_nil) (all_nil)
  · exact poX (.tail _ (.tail _ (.tail _ (.tail _ (.tail _ (.tail _ (.head _))))))) rfl hR (all_cons (ivO (y := s0) rfl (show (7 : Int) ≤ s0 by omega) (show s0 ≤ (7 : Int) by omega)) (all_nil)) (all_nil) (all_nil)
  · exact poX (.tail _ (.tail _ (.tail _ (.tail _ (.tail _ (.tail _ (.tail _ (.head _)))))))) rfl hR (all_cons (ivO (y := s0) rfl (show (8 : Int) ≤ s0 by omega) (show s0 ≤ (8 : Int) by omega)) (all_nil)) (all_nil) (all_nil)
  · exact poX (.tail _ (.tail _ (.tail _ (.tail _ (.tail _ (.tail _ (.tail _ (.tail _ (.head _))))))))) rfl hR (all_cons (ivO (y := s0) rfl (show (9 : Int) ≤ s0 by omega) (show s0 ≤ (9 : Int) by omega)) (all_nil)) (all_nil) (all_nil)
  · exact poX (.tail _ (.tail _ (.tail _ (.tail _ (.tail _ (.tail _ (.tail _ (.tail _ (.tail _ (.head _)))))))))) rfl hR (all_cons (ivO (y := s0) rfl (show (10 : Int) ≤ s0 by omega) (show s0 ≤ (10 : Int) by omega)) (all_nil)) (all_nil) (all_nil)
theorem rl565 : ruOk fFS gR565 := by
  intro r hp hO hN hH
  obtain ⟨s0, s1, s2, s3, rfl⟩ := len4 (show r.length = 4 from hN.1)
  have hR := hN.2.1.1
  have hIv : ∀ q ∈ ([(0, .ofNat 0, .ofNat 2147483647), (1, .negSucc 2147483647, .ofNat 2147483647), (2, .negSucc 2147483647, .ofNat 2147483647), (3, .negSucc 2147483647, .ofNat 2147483647)] : sIv), ∃ x, ([s0, s1, s2, s3] : List Int)[q.1]? = some x ∧ q.2.1 ≤ x ∧ x ≤ q.2.2 := hN.2.1.2
  have b0 : (0 : Int) ≤ s0 ∧ s0 ≤ (2147483647 : Int) := ivX (q := (0, .ofNat 0, .ofNat 2147483647)) (y := s0) (hIv _ (.head _)) rfl
  have b1 : (-2147483648 : Int) ≤ s1 ∧ s1 ≤ (2147483647 : Int) := ivX (q := (1, .negSucc 2147483647, .ofNat 2147483647)) (y := s1) (hIv _ (.tail _ (.head _))) rfl
  have hCs : ∀ c ∈ ([(.ofNat 1, [(.ofNat 1, 0), (.negSucc 0, 3)])] : List sLn), ∃ x, sE [s0, s1, s2, s3] c = some x ∧ x ≤ 0 := hN.2.2.1
  have c0 : ((1 : Int) + ((1 : Int) * s0 + ((-1 : Int) * s3 + 0))) ≤ 0 := csX (hCs _ (.head _)) rfl
  have hRf : ∀ q ∈ ([((80, .ofNat 275, []), (.ofNat 6, []), 1, .ofNat 0, [(.ofNat 1, 2)])] : List sRf), rfOk [s0, s1, s2, s3] hp q := hH.1
  have h0 : hI hp 275 6 = s2 := rfI0 (hRf _ (.head _)) (sE_k _ _) (sE_k _ _) (sE_V rfl)
  have y0 : (0 : Int) ≤ s2 ∧ s2 ≤ (8 : Int) := by rw [← h0]; exact hI_ty hO (by decide) rfl
  have hFc : ∀ q ∈ ([(10, [(.ofNat 0, [(.ofNat 1, 1)]), (.ofNat 0, [(.ofNat 1, 3)])])] : List sFc), fcOk fFS [s0, s1, s2, s3] hp q := hH.2
  have f0 : fSum s1 s3 hp := fcX (ys := [s1, s3]) (hFc _ (.head _)) ⟨sE_V rfl, sE_V rfl, trivial⟩
  have u := sum_use f0 h0 (by omega)
  exact poX (.head _) rfl hR (all_cons (ivO (y := s1) rfl (show (0 : Int) ≤ s1 by omega) (show s1 ≤ (7 : Int) by omega)) (all_nil)) (all_cons ⟨((1 : Int) + ((1 : Int) * s1 + ((-1 : Int) * s2 + 0))), rfl, (show ((1 : Int) + ((1 : Int) * s1 + ((-1 : Int) * s2 + 0))) ≤ 0 by omega)⟩ (all_nil)) (all_nil)
theorem rl566 : ruOk fFS gR566 := by
  intro r hp hO hN hH
  obtain ⟨s0, s1, s2, s3, s4, rfl⟩ := len5 (show r.length = 5 from hN.1)
  have hR := hN.2.1.1
  have hIv : ∀ q ∈ ([(0, .negSucc 2147483647, .ofNat 2147483647), (1, .negSucc 2147483647, .ofNat 2147483647), (2, .negSucc 2147483647, .ofNat 2147483647), (3, .negSucc 2147483647, .ofNat 2147483647), (4, .negSucc 2147483647, .ofNat 2147483647)] : sIv), ∃ x, ([s0, s1, s2, s3, s4] : List Int)[q.1]? = some x ∧ q.2.1 ≤ x ∧ x ≤ q.2.2 := hN.2.1.2
  have hCs : ∀ c ∈ ([(.ofNat 1, [(.ofNat 1, 1), (.negSucc 0, 3)])] : List sLn), ∃ x, sE [s0, s1, s2, s3, s4] c = some x ∧ x ≤ 0 := hN.2.2.1
  have c0 : ((1 : Int) + ((1 : Int) * s1 + ((-1 : Int) * s3 + 0))) ≤ 0 := csX (hCs _ (.head _)) rfl
  have hRf : ∀ q ∈ ([((80, .ofNat 275, []), (.ofNat 250, [(.ofNat 1, 1)]), 1, .ofNat 0, [(.ofNat 1, 2)]), ((80, .ofNat 275, []), (.ofNat 6, []), 1, .ofNat 0, [(.ofNat 1, 3)])] : List sRf), rfOk [s0, s1, s2, s3, s4] hp q := hH.1
  obtain ⟨i0, e0, l0, h0⟩ := rfI (xv := s2) (iv := (s1 + 250)) (hRf _ (.head _)) (sE_k _ _) (sEv (y' := ((250 : Int) + ((1 : Int) * s1 + 0))) rfl (by omega)) (sE_V rfl)
  have l0 : i0 < 871 := l0
  have h0 : hI hp 275 i0 = s2 := h0
  have h1 : hI hp 275 6 = s3 := rfI0 (hRf _ (.tail _ (.head _))) (sE_k _ _) (sE_k _ _) (sE_V rfl)
  have y1 : (0 : Int) ≤ s3 ∧ s3 ≤ (8 : Int) := by rw [← h1]; exact hI_ty hO (by decide) rfl
  have hFc : ∀ q ∈ ([(10, [(.ofNat 0, [(.ofNat 1, 1)]), (.ofNat 0, [(.ofNat 1, 4)])])] : List sFc), fcOk fFS [s0, s1, s2, s3, s4] hp q := hH.2
  have f0 : fSum s1 s4 hp := fcX (ys := [s1, s4]) (hFc _ (.head _)) ⟨sE_V rfl, sE_V rfl, trivial⟩
  exact poX (.head _) rfl hR (all_nil) (all_nil) (all_cons ⟨[(s1 + 1), (-s2 + s4)], ⟨sEv (y' := ((1 : Int) + ((1 : Int) * s1 + 0))) rfl (by omega), sEv (y' := ((0 : Int) + ((-1 : Int) * s2 + ((1 : Int) * s4 + 0)))) rfl (by omega), trivial⟩, (show fSum (s1 + 1) (-s2 + s4) hp from sum_nx f0 h0 (by omega) h1 (by omega) (by omega) (by omega))⟩ (all_nil))
theorem rl567 : ruOk fFS gR567 := by
  intro r hp hO hN hH
  have hr0 := len0 (show r.length = 0 from hN.1)
  subst hr0
  have hR := hN.2.1.1
  exact poX (.head _) rfl hR (all_nil) (all_nil) (all_cons ⟨[0], ⟨sE_k _ _, trivial⟩, (show fRollm 0 hp from rollm0 (by omega))⟩ (all_nil))
theorem rl568 : ruOk fFS gR568 := by
  intro r hp hO hN hH
  obtain ⟨s0, s1, s2, s3, s4, rfl⟩ := len5 (show r.length = 5 from hN.1)
  have hR := hN.2.1.1
  have hIv : ∀ q ∈ ([(0, .ofNat 0, .ofNat 39), (1, .ofNat 0, .ofNat 0), (2, .ofNat 0, .ofNat 4), (3, .ofNat 0, .ofNat 4), (4, .negSucc 2147483647, .ofNat 2147483647)] : sIv), ∃ x, ([s0, s1, s2, s3, s4] : List Int)[q.1]? = some x ∧ q.2.1 ≤ x ∧ x ≤ q.2.2 := hN.2.1.2
  have b0 : (0 : Int) ≤ s0 ∧ s0 ≤ (39 : Int) := ivX (q := (0, .ofNat 0, .ofNat 39)) (y := s0) (hIv _ (.head _)) rfl
  have b1 : (0 : Int) ≤ s1 ∧ s1 ≤ (0 : Int) := ivX (q := (1, .ofNat 0, .ofNat 0)) (y := s1) (hIv _ (.tail _ (.head _))) rfl
  have b2 : (0 : Int) ≤ s2 ∧ s2 ≤ (4 : Int) := ivX (q := (2, .ofNat 0, .ofNat 4)) (y := s2) (hIv _ (.tail _ (.tail _ (.head _)))) rfl
  have b3 : (0 : Int) ≤ s3 ∧ s3 ≤ (4 : Int) := ivX (q := (3, .ofNat 0, .ofNat 4)) (y := s3) (hIv _ (.tail _ (.tail _ (.tail _ (.head _))))) rfl
  have hRf : ∀ q ∈ ([((78, .ofNat 273, []), (.ofNat 44, []), 1, .ofNat 0, [(.ofNat 1, 0)]), ((82, .ofNat 277, []), (.ofNat 0, [(.ofNat 4, 0)]), 1, .ofNat 0, [(.ofNat 1, 1)]), ((82, .ofNat 277, []), (.ofNat 1, [(.ofNat 4, 0)]), 1, .ofNat 0, [(.ofNat 1, 2)]), ((82, .ofNat 277, []), (.ofNat 2, [(.ofNat 4, 0)]), 1, .ofNat 0, [(.ofNat 1, 3)]), ((82, .ofNat 277, []), (.ofNat 3, [(.ofNat 4, 0)]), 1, .ofNat 0, [(.ofNat 1, 4)])] : List sRf), rfOk [s0, s1, s2, s3, s4] hp q := hH.1
  have h0 : hI hp 273 44 = s0 := rfI0 (hRf _ (.head _)) (sE_k _ _) (sE_k _ _) (sE_V rfl)
  have y0 : (0 : Int) ≤ s0 ∧ s0 ≤ (40 : Int) := by rw [← h0]; exact hI_ty hO (by decide) rfl
  obtain ⟨i1, e1, l1, h1⟩ := rfI (xv := s1) (iv := (4 * s0)) (hRf _ (.tail _ (.head _))) (sE_k _ _) (sEv (y' := ((0 : Int) + ((4 : Int) * s0 + 0))) rfl (by omega)) (sE_V rfl)
  have l1 : i1 < 160 := l1
  have h1 : hI hp 277 i1 = s1 := h1
  obtain ⟨i2, e2, l2, h2⟩ := rfI (xv := s2) (iv := (4 * s0 + 1)) (hRf _ (.tail _ (.tail _ (.head _)))) (sE_k _ _) (sEv (y' := ((1 : Int) + ((4 : Int) * s0 + 0))) rfl (by omega)) (sE_V rfl)
  have l2 : i2 < 160 := l2
  have h2 : hI hp 277 i2 = s2 := h2
  obtain ⟨i3, e3, l3, h3⟩ := rfI (xv := s3) (iv := (4 * s0 + 2)) (hRf _ (.tail _ (.tail _ (.tail _ (.head _))))) (sE_k _ _) (sEv (y' := ((2 : Int) + ((4 : Int) * s0 + 0))) rfl (by omega)) (sE_V rfl)
  have l3 : i3 < 160 := l3
  have h3 : hI hp 277 i3 = s3 := h3
  obtain ⟨i4, e4, l4, h4⟩ := rfI (xv := s4) (iv := (4 * s0 + 3)) (hRf _ (.tail _ (.tail _ (.tail _ (.tail _ (.head _)))))) (sE_k _ _) (sEv (y' := ((3 : Int) + ((4 : Int) * s0 + 0))) rfl (by omega)) (sE_V rfl)
  have l4 : i4 < 160 := l4
  have h4 : hI hp 277 i4 = s4 := h4
  have hFc : ∀ q ∈ ([(11, [(.ofNat 0, [(.ofNat 1, 0)])])] : List sFc), fcOk fFS [s0, s1, s2, s3, s4] hp q := hH.2
  have f0 : fRollm s0 hp := fcX (ys := [s0]) (hFc _ (.head _)) ⟨sE_V rfl, trivial⟩
  exact poX (.head _) rfl hR (all_nil) (all_nil) (all_cons ⟨[(s0 + 1)], ⟨sEv (y' := ((1 : Int) + ((1 : Int) * s0 + 0))) rfl (by omega), trivial⟩, (show fRollm (s0 + 1) hp from rollm_add f0 h1 h2 h3 h4 (by omega) (by omega) (by omega) (by omega) (by unfold bxM; omega) (by omega))⟩ (all_nil))
theorem rl569 : ruOk fFS gR569 := by
  intro r hp hO hN hH
  obtain ⟨s0, s1, s2, s3, s4, rfl⟩ := len5 (show r.length = 5 from hN.1)
  have hR := hN.2.1.1
  have hIv : ∀ q ∈ ([(0, .ofNat 0, .ofNat 39), (1, .ofNat 1, .ofNat 1), (2, .ofNat 0, .ofNat 9), (3, .ofNat 0, .ofNat 9), (4, .ofNat 0, .ofNat 4)] : sIv), ∃ x, ([s0, s1, s2, s3, s4] : List Int)[q.1]? = some x ∧ q.2.1 ≤ x ∧ x ≤ q.2.2 := hN.2.1.2
  have b0 : (0 : Int) ≤ s0 ∧ s0 ≤ (39 : Int) := ivX (q := (0, .ofNat 0, .ofNat 39)) (y := s0) (hIv _ (.head _)) rfl
  have b1 : (1 : Int) ≤ s1 ∧ s1 ≤ (1 : Int) := ivX (q := (1, .ofNat 1, .ofNat 1)) (y := s1) (hIv _ (.tail _ (.head _))) rfl
  have b2 : (0 : Int) ≤ s2 ∧ s2 ≤ (9 : Int) := ivX (q := (2, .ofNat 0, .ofNat 9)) (y := s2) (hIv _ (.tail _ (.tail _ (.head _)))) rfl
  have b3 : (0 : Int) ≤ s3 ∧ s3 ≤ (9 : Int) := ivX (q := (3, .ofNat 0, .ofNat 9)) (y := s3) (hIv _ (.tail _ (.tail _ (.tail _ (.head _))))) rfl
  have b4 : (0 : Int) ≤ s4 ∧ s4 ≤ (4 : Int) := ivX (q := (4, .ofNat 0, .ofNat 4)) (y := s4) (hIv _ (.tail _ (.tail _ (.tail _ (.tail _ (.head _)))))) rfl
  have hRf : ∀ q ∈ ([((78, .ofNat 273, []), (.ofNat 44, []), 1, .ofNat 0, [(.ofNat 1, 0)]), ((82, .ofNat 277, []), (.ofNat 0, [(.ofNat 4, 0)]), 1, .ofNat 0, [(.ofNat 1, 1)]), ((82, .ofNat 277, []), (.ofNat 1, [(.ofNat 4, 0)]), 1, .ofNat 0, [(.ofNat 1, 2)]), ((82, .ofNat 277, []), (.ofNat 2, [(.ofNat 4, 0)]), 1, .ofNat 0, [(.ofNat 1, 3)]), ((82, .ofNat 277, []), (.ofNat 3, [(.ofNat 4, 0)]), 1, .ofNat 0, [(.ofNat 1, 4)])] : List sRf), rfOk [s0, s1, s2, s3, s4] hp q := hH.1
  have h0 : hI hp 273 44 = s0 := rfI0 (hRf _ (.head _)) (sE_k _ _) (sE_k _ _) (sE_V rfl)
  have y0 : (0 : Int) ≤ s0 ∧ s0 ≤ (40 : Int) := by rw [← h0]; exact hI_ty hO (by decide) rfl
  obtain ⟨i1, e1, l1, h1⟩ := rfI (xv := s1) (iv := (4 * s0)) (hRf _ (.tail _ (.head _))) (sE_k _ _) (sEv (y' := ((0 : Int) + ((4 : Int) * s0 + 0))) rfl (by omega)) (sE_V rfl)
  have l1 : i1 < 160 := l1
  have h1 : hI hp 277 i1 = s1 := h1
  obtain ⟨i2, e2, l2, h2⟩ := rfI (xv := s2) (iv := (4 * s0 + 1)) (hRf _ (.tail _ (.tail _ (.head _)))) (sE_k _ _) (sEv (y' := ((1 : Int) + ((4 : Int) * s0 + 0))) rfl (by omega)) (sE_V rfl)
  have l2 : i2 < 160 := l2
  have h2 : hI hp 277 i2 = s2 := h2
  obtain ⟨i3, e3, l3, h3⟩ := rfI (xv := s3) (iv := (4 * s0 + 2)) (hRf _ (.tail _ (.tail _ (.tail _ (.head _))))) (sE_k _ _) (sEv (y' := ((2 : Int) + ((4 : Int) * s0 + 0))) rfl (by omega)) (sE_V rfl)
  have l3 : i3 < 160 := l3
  have h3 : hI hp 277 i3 = s3 := h3
  obtain ⟨i4, e4, l4, h4⟩ := rfI (xv := s4) (iv := (4 * s0 + 3)) (hRf _ (.tail _ (.tail _ (.tail _ (.tail _ (.head _)))))) (sE_k _ _) (sEv (y' := ((3 : Int) + ((4 : Int) * s0 + 0))) rfl (by omega)) (sE_V rfl)
  have l4 : i4 < 160 := l4
  have h4 : hI hp 277 i4 = s4 := h4
  have hFc : ∀ q ∈ ([(11, [(.ofNat 0, [(.ofNat 1, 0)])])] : List sFc), fcOk fFS [s0, s1, s2, s3, s4] hp q := hH.2
  have f0 : fRollm s0 hp := fcX (ys := [s0]) (hFc _ (.head _)) ⟨sE_V rfl, trivial⟩
  exact poX (.head _) rfl hR (all_nil) (all_nil) (all_cons ⟨[(s0 + 1)], ⟨sEv (y' := ((1 : Int) + ((1 : Int) * s0 + 0))) rfl (by omega), trivial⟩, (show fRollm (s0 + 1) hp from rollm_add f0 h1 h2 h3 h4 (by omega) (by omega) (by omega) (by omega) (by unfold bxM; omega) (by omega))⟩ (all_nil))
theorem rl570 : ruOk fFS gR570 := by
  intro r hp hO hN hH
  obtain ⟨s0, s1, s2, s3, s4, rfl⟩ := len5 (show r.length = 5 from hN.1)
  have hR := hN.2.1.1
  have hIv : ∀ q ∈ ([(0, .ofNat 0, .ofNat 39), (1, .ofNat 2, .ofNat 4), (2, .ofNat 0, .ofNat 9), (3, .ofNat 0, .ofNat 9), (4, .negSucc 2147483647, .ofNat 2147483647)] : sIv), ∃ x, ([s0, s1, s2, s3, s4] : List Int)[q.1]? = some x ∧ q.2.1 ≤ x ∧ x ≤ q.2.2 := hN.2.1.2
  have b0 : (0 : Int) ≤ s0 ∧ s0 ≤ (39 : Int) := ivX (q := (0, .ofNat 0, .ofNat 39)) (y := s0) (hIv _ (.head _)) rfl
  have b1 : (2 : Int) ≤ s1 ∧ s1 ≤ (4 : Int) := ivX (q := (1, .ofNat 2, .ofNat 4)) (y := s1) (hIv _ (.tail _ (.head _))) rfl
  have b2 : (0 : Int) ≤ s2 ∧ s2 ≤ (9 : Int) := ivX (q := (2, .ofNat 0, .ofNat 9)) (y := s2) (hIv _ (.tail _ (.tail _ (.head _)))) rfl
  have b3 : (0 : Int) ≤ s3 ∧ s3 ≤ (9 : Int) := ivX (q := (3, .ofNat 0, .ofNat 9)) (y := s3) (hIv _ (.tail _ (.tail _ (.tail _ (.head _))))) rfl
  have hRf : ∀ q ∈ ([((78, .ofNat 273, []), (.ofNat 44, []), 1, .ofNat 0, [(.ofNat 1, 0)]), ((82, .ofNat 277, []), (.ofNat 0, [(.ofNat 4, 0)]), 1, .ofNat 0, [(.ofNat 1, 1)]), ((82, .ofNat 277, []), (.ofNat 1, [(.ofNat 4, 0)]), 1, .ofNat 0, [(.ofNat 1, 2)]), ((82, .ofNat 277, []), (.ofNat 2, [(.ofNat 4, 0)]), 1, .ofNat 0, [(.ofNat 1, 3)]), ((82, .ofNat 277, []), (.ofNat 3, [(.ofNat 4, 0)]), 1, .ofNat 0, [(.ofNat 1, 4)])] : List sRf), rfOk [s0, s1, s2, s3, s4] hp q := hH.1
  have h0 : hI hp 273 44 = s0 := rfI0 (hRf _ (.head _)) (sE_k _ _) (sE_k _ _) (sE_V rfl)
  have y0 : (0 : Int) ≤ s0 ∧ s0 ≤ (40 : Int) := by rw [← h0]; exact hI_ty hO (by decide) rfl
  obtain ⟨i1, e1, l1, h1⟩ := rfI (xv := s1) (iv := (4 * s0)) (hRf _ (.tail _ (.head _))) (sE_k _ _) (sEv (y' := ((0 : Int) + ((4 : Int) * s0 + 0))) rfl (by omega)) (sE_V rfl)
  have l1 : i1 < 160 := l1
  have h1 : hI hp 277 i1 = s1 := h1
  obtain ⟨i2, e2, l2, h2⟩ := rfI (xv := s2) (iv := (4 * s0 + 1)) (hRf _ (.tail _ (.tail _ (.head _)))) (sE_k _ _) (sEv (y' := ((1 : Int) + ((4 : Int) * s0 + 0))) rfl (by omega)) (sE_V rfl)
  have l2 : i2 < 160 := l2
  have h2 : hI hp 277 i2 = s2 := h2
  obtain ⟨i3, e3, l3, h3⟩ := rfI (xv := s3) (iv := (4 * s0 + 2)) (hRf _ (.tail _ (.tail _ (.tail _ (.head _))))) (sE_k _ _) (sEv (y' := ((2 : Int) + ((4 : Int) * s0 + 0))) rfl (by omega)) (sE_V rfl)
  have l3 : i3 < 160 := l3
  have h3 : hI hp 277 i3 = s3 := h3
  obtain ⟨i4, e4, l4, h4⟩ := rfI (xv := s4) (iv := (4 * s0 + 3)) (hRf _ (.tail _ (.tail _ (.tail _ (.tail _ (.head _)))))) (sE_k _ _) (sEv (y' := ((3 : Int) + ((4 : Int) * s0 + 0))) rfl (by omega)) (sE_V rfl)
  have l4 : i4 < 160 := l4
  have h4 : hI hp 277 i4 = s4 := h4
  have hFc : ∀ q ∈ ([(11, [(.ofNat 0, [(.ofNat 1, 0)])])] : List sFc), fcOk fFS [s0, s1, s2, s3, s4] hp q := hH.2
  have f0 : fRollm s0 hp := fcX (ys := [s0]) (hFc _ (.head _)) ⟨sE_V rfl, trivial⟩
  exact poX (.head _) rfl hR (all_nil) (all_nil) (all_cons ⟨[(s0 + 1)], ⟨sEv (y' := ((1 : Int) + ((1 : Int) * s0 + 0))) rfl (by omega), trivial⟩, (show fRollm (s0 + 1) hp from rollm_add f0 h1 h2 h3 h4 (by omega) (by omega) (by omega) (by omega) (by unfold bxM; omega) (by omega))⟩ (all_nil))
theorem rl571 : ruOk fFS gR571 := by
  intro r hp hO hN hH
  obtain ⟨s0, s1, s2, s3, s4, rfl⟩ := len5 (show r.length = 5 from hN.1)
  have hR := hN.2.1.1
  have hIv : ∀ q ∈ ([(0, .ofNat 0, .ofNat 39), (1, .ofNat 2, .ofNat 2), (2, .negSucc 2147483647, .ofNat 2147483647), (3, .negSucc 2147483647, .ofNat 2147483647), (4, .negSucc 2147483647, .ofNat 2147483647)] : sIv), ∃ x, ([s0, s1, s2, s3, s4] : List Int)[q.1]? = some x ∧ q.2.1 ≤ x ∧ x ≤ q.2.2 := hN.2.1.2
  have b0 : (0 : Int) ≤ s0 ∧ s0 ≤ (39 : Int) := ivX (q := (0, .ofNat 0, .ofNat 39)) (y := s0) (hIv _ (.head _)) rfl
  have b1 : (2 : Int) ≤ s1 ∧ s1 ≤ (2 : Int) := ivX (q := (1, .ofNat 2, .ofNat 2)) (y := s1) (hIv _ (.tail _ (.head _))) rfl
  have hRf : ∀ q ∈ ([((78, .ofNat 273, []), (.ofNat 44, []), 1, .ofNat 0, [(.ofNat 1, 0)]), ((82, .ofNat 277, []), (.ofNat 0, [(.ofNat 4, 0)]), 1, .ofNat 0, [(.ofNat 1, 1)]), ((82, .ofNat 277, []), (.ofNat 1, [(.ofNat 4, 0)]), 1, .ofNat 0, [(.ofNat 1, 2)]), ((82, .ofNat 277, []), (.ofNat 2, [(.ofNat 4, 0)]), 1, .ofNat 0, [(.ofNat 1, 3)]), ((82, .ofNat 277, []), (.ofNat 3, [(.ofNat 4, 0)]), 1, .ofNat 0, [(.ofNat 1, 4)])] : List sRf), rfOk [s0, s1, s2, s3, s4] hp q := hH.1
  have h0 : hI hp 273 44 = s0 := rfI0 (hRf _ (.head _)) (sE_k _ _) (sE_k _ _) (sE_V rfl)
  have y0 : (0 : Int) ≤ s0 ∧ s0 ≤ (40 : Int) := by rw [← h0]; exact hI_ty hO (by decide) rfl
  obtain ⟨i1, e1, l1, h1⟩ := rfI (xv := s1) (iv := (4 * s0)) (hRf _ (.tail _ (.head _))) (sE_k _ _) (sEv (y' := ((0 : Int) + ((4 : Int) * s0 + 0))) rfl (by omega)) (sE_V rfl)
  have l1 : i1 < 160 := l1
  have h1 : hI hp 277 i1 = s1 := h1
  obtain ⟨i2, e2, l2, h2⟩ := rfI (xv := s2) (iv := (4 * s0 + 1)) (hRf _ (.tail _ (.tail _ (.head _)))) (sE_k _ _) (sEv (y' := ((1 : Int) + ((4 : Int) * s0 + 0))) rfl (by omega)) (sE_V rfl)
  have l2 : i2 < 160 := l2
  have h2 : hI hp 277 i2 = s2 := h2
  obtain ⟨i3, e3, l3, h3⟩ := rfI (xv := s3) (iv := (4 * s0 + 2)) (hRf _ (.tail _ (.tail _ (.tail _ (.head _))))) (sE_k _ _) (sEv (y' := ((2 : Int) + ((4 : Int) * s0 + 0))) rfl (by omega)) (sE_V rfl)
  have l3 : i3 < 160 := l3
  have h3 : hI hp 277 i3 = s3 := h3
  obtain ⟨i4, e4, l4, h4⟩ := rfI (xv := s4) (iv := (4 * s0 + 3)) (hRf _ (.tail _ (.tail _ (.tail _ (.tail _ (.head _)))))) (sE_k _ _) (sEv (y' := ((3 : Int) + ((4 : Int) * s0 + 0))) rfl (by omega)) (sE_V rfl)
  have l4 : i4 < 160 := l4
  have h4 : hI hp 277 i4 = s4 := h4
  have hFc : ∀ q ∈ ([(11, [(.ofNat 0, [(.ofNat 1, 0)])])] : List sFc), fcOk fFS [s0, s1, s2, s3, s4] hp q := hH.2
  have f0 : fRollm s0 hp := fcX (ys := [s0]) (hFc _ (.head _)) ⟨sE_V rfl, trivial⟩
  exact poX (.head _) rfl hR (all_nil) (all_nil) (all_cons ⟨[(s0 + 1)], ⟨sEv (y' := ((1 : Int) + ((1 : Int) * s0 + 0))) rfl (by omega), trivial⟩, (show fRollm (s0 + 1) hp from rollm_add f0 h1 h2 h3 h4 (by omega) (by omega) (by omega) (by omega) (by unfold bxM; omega) (by omega))⟩ (all_nil))
theorem rl572 : ruOk fFS gR572 := by
  intro r hp hO hN hH
  obtain ⟨s0, s1, rfl⟩ := len2 (show r.length = 2 from hN.1)
  have hR := hN.2.1.1
  have hIv : ∀ q ∈ ([(0, .negSucc 2147483647, .ofNat 2147483647), (1, .negSucc 2147483647, .ofNat 2147483647)] : sIv), ∃ x, ([s0, s1] : List Int)[q.1]? = some x ∧ q.2.1 ≤ x ∧ x ≤ q.2.2 := hN.2.1.2
  have b1 : (-2147483648 : Int) ≤ s1 ∧ s1 ≤ (2147483647 : Int) := ivX (q := (1, .negSucc 2147483647, .ofNat 2147483647)) (y := s1) (hIv _ (.tail _ (.head _))) rfl
  have hRf : ∀ q ∈ ([((82, .ofNat 277, []), (.ofNat 0, [(.ofNat 4, 0)]), 1, .ofNat 0, [(.ofNat 1, 1)])] : List sRf), rfOk [s0, s1] hp q := hH.1
  obtain ⟨i0, e0, l0, h0⟩ := rfI (xv := s1) (iv := (4 * s0)) (hRf _ (.head _)) (sE_k _ _) (sEv (y' := ((0 : Int) + ((4 : Int) * s0 + 0))) rfl (by omega)) (sE_V rfl)
  have l0 : i0 < 160 := l0
  have h0 : hI hp 277 i0 = s1 := h0
  have y : (((-2147483648 : Int) ≤ s1 ∧ s1 ≤ (-1 : Int))) ∨ (((0 : Int) ≤ s1 ∧ s1 ≤ (0 : Int))) ∨ (((1 : Int) ≤ s1 ∧ s1 ≤ (1 : Int))) ∨ (((2 : Int) ≤ s1 ∧ s1 ≤ (2 : Int))) ∨ (((3 : Int) ≤ s1 ∧ s1 ≤ (3 : Int))) ∨ (((4 : Int) ≤ s1 ∧ s1 ≤ (2147483647 : Int))) := by omega
  rcases y with y | y | y | y | y | y
  · exact poX (.head _) rfl hR (all_cons (ivO (y := s1) rfl (show (-2147483648 : Int) ≤ s1 by omega) (show s1 ≤ (-1 : Int) by omega)) (all_nil)) (all_nil) (all_nil)
  · exact poX (.tail _ (.head _)) rfl hR (all_cons (ivO (y := s1) rfl (show (0 : Int) ≤ s1 by omega) (show s1 ≤ (0 : Int) by omega)) (all_nil)) (all_nil) (all_nil)
  · exact poX (.tail _ (.tail _ (.head _))) rfl hR (all_cons (ivO (y := s1) rfl (show (1 : Int) ≤ s1 by omega) (show s1 ≤ (1 : Int) by omega)) (all_nil)) (all_nil) (all_nil)
  · exact poX (.tail _ (.tail _ (.tail _ (.head _)))) rfl hR (all_cons (ivO (y := s1) rfl (show (2 : Int) ≤ s1 by omega) (show s1 ≤ (2 : Int) by omega)) (all_nil)) (all_nil) (all_nil)
  · exact poX (.tail _ (.tail _ (.tail _ (.tail _ (.head _))))) rfl hR (all_cons (ivO (y := s1) rfl (show (3 : Int) ≤ s1 by omega) (show s1 ≤ (3 : Int) by omega)) (all_nil)) (all_nil) (all_nil)
  · exact poX (.tail _ (.tail _ (.tail _ (.tail _ (.tail _ (.head _)))))) rfl hR (all_cons (ivO (y := s1) rfl (show (4 : Int) ≤ s1 by omega) (show s1 ≤ (2147483647 : Int) by omega)) (all_nil)) (all_nil) (all_nil)
theorem rl573 : ruOk fFS gR573 := by
  intro r hp hO hN hH
  obtain ⟨s0, s1, s2, s3, s4, s5, rfl⟩ := len6 (show r.length = 6 from hN.1)
  have hR := hN.2.1.1
  have hIv : ∀ q ∈ ([(0, .ofNat 0, .ofNat 39), (1, .ofNat 0, .ofNat 0), (2, .negSucc 2147483647, .ofNat 2147483647), (3, .negSucc 2147483647, .ofNat 2147483647), (4, .negSucc 2147483647, .ofNat 2147483647), (5, .negSucc 2147483647, .ofNat 2147483647)] : sIv), ∃ x, ([s0, s1, s2, s3, s4, s5] : List Int)[q.1]? = some x ∧ q.2.1 ≤ x ∧ x ≤ q.2.2 := hN.2.1.2
  have b0 : (0 : Int) ≤ s0 ∧ s0 ≤ (39 : Int) := ivX (q := (0, .ofNat 0, .ofNat 39)) (y := s0) (hIv _ (.head _)) rfl
  have b1 : (0 : Int) ≤ s1 ∧ s1 ≤ (0 : Int) := ivX (q := (1, .ofNat 0, .ofNat 0)) (y := s1) (hIv _ (.tail _ (.head _))) rfl
  have b2 : (-2147483648 : Int) ≤ s2 ∧ s2 ≤ (2147483647 : Int) := ivX (q := (2, .negSucc 2147483647, .ofNat 2147483647)) (y := s2) (hIv _ (.tail _ (.tail _ (.head _)))) rfl
  have b3 : (-2147483648 : Int) ≤ s3 ∧ s3 ≤ (2147483647 : Int) := ivX (q := (3, .negSucc 2147483647, .ofNat 2147483647)) (y := s3) (hIv _ (.tail _ (.tail _ (.tail _ (.head _))))) rfl
  have hCs : ∀ c ∈ ([(.ofNat 1, [(.ofNat 1, 0), (.negSucc 0, 5)])] : List sLn), ∃ x, sE [s0, s1, s2, s3, s4, s5] c = some x ∧ x ≤ 0 := hN.2.2.1
  have c0 : ((1 : Int) + ((1 : Int) * s0 + ((-1 : Int) * s5 + 0))) ≤ 0 := csX (hCs _ (.head _)) rfl
  have hRf : ∀ q ∈ ([((82, .ofNat 277, []), (.ofNat 0, [(.ofNat 4, 0)]), 1, .ofNat 0, [(.ofNat 1, 1)]), ((82, .ofNat 277, []), (.ofNat 1, [(.ofNat 4, 0)]), 1, .ofNat 0, [(.ofNat 1, 2)]), ((82, .ofNat 277, []), (.ofNat 2, [(.ofNat 4, 0)]), 1, .ofNat 0, [(.ofNat 1, 3)]), ((82, .ofNat 277, []), (.ofNat 3, [(.ofNat 4, 0)]), 1, .ofNat 0, [(.ofNat 1, 4)])] : List sRf), rfOk [s0, s1, s2, s3, s4, s5] hp q := hH.1
  obtain ⟨i0, e0, l0, h0⟩ := rfI (xv := s1) (iv := (4 * s0)) (hRf _ (.head _)) (sE_k _ _) (sEv (y' := ((0 : Int) + ((4 : Int) * s0 + 0))) rfl (by omega)) (sE_V rfl)
  have l0 : i0 < 160 := l0
  have h0 : hI hp 277 i0 = s1 := h0
  obtain ⟨i1, e1, l1, h1⟩ := rfI (xv := s2) (iv := (4 * s0 + 1)) (hRf _ (.tail _ (.head _))) (sE_k _ _) (sEv (y' := ((1 : Int) + ((4 : Int) * s0 + 0))) rfl (by omega)) (sE_V rfl)
  have l1 : i1 < 160 := l1
  have h1 : hI hp 277 i1 = s2 := h1
  obtain ⟨i2, e2, l2, h2⟩ := rfI (xv := s3) (iv := (4 * s0 + 2)) (hRf _ (.tail _ (.tail _ (.head _)))) (sE_k _ _) (sEv (y' := ((2 : Int) + ((4 : Int) * s0 + 0))) rfl (by omega)) (sE_V rfl)
  have l2 : i2 < 160 := l2
  have h2 : hI hp 277 i2 = s3 := h2
  obtain ⟨i3, e3, l3, h3⟩ := rfI (xv := s4) (iv := (4 * s0 + 3)) (hRf _ (.tail _ (.tail _ (.tail _ (.head _))))) (sE_k _ _) (sEv (y' := ((3 : Int) + ((4 : Int) * s0 + 0))) rfl (by omega)) (sE_V rfl)
  have l3 : i3 < 160 := l3
  have h3 : hI hp 277 i3 = s4 := h3
  have hFc : ∀ q ∈ ([(11, [(.ofNat 0, [(.ofNat 1, 5)])])] : List sFc), fcOk fFS [s0, s1, s2, s3, s4, s5] hp q := hH.2
  have f0 : fRollm s5 hp := fcX (ys := [s5]) (hFc _ (.head _)) ⟨sE_V rfl, trivial⟩
  have u := rollm_use (x := s0) f0 h0 h1 h2 h3 (by omega) (by omega) (by omega) (by omega) (by omega) (by omega) (by omega)
  unfold bxM at u
  exact poX (.head _) rfl hR (all_cons (ivO (y := s2) rfl (show (0 : Int) ≤ s2 by omega) (show s2 ≤ (4 : Int) by omega)) (all_cons (ivO (y := s3) rfl (show (0 : Int) ≤ s3 by omega) (show s3 ≤ (4 : Int) by omega)) (all_nil))) (all_nil) (all_nil)
theorem rl574 : ruOk fFS gR574 := by
  intro r hp hO hN hH
  obtain ⟨s0, s1, s2, s3, s4, s5, rfl⟩ := len6 (show r.length = 6 from hN.1)
  have hR := hN.2.1.1
  have hIv : ∀ q ∈ ([(0, .ofNat 0, .ofNat 39), (1, .ofNat 1, .ofNat 1), (2, .negSucc 2147483647, .ofNat 2147483647), (3, .negSucc 2147483647, .ofNat 2147483647), (4, .negSucc 2147483647, .ofNat 2147483647), (5, .negSucc 2147483647, .ofNat 2147483647)] : sIv), ∃ x, ([s0, s1, s2, s3, s4, s5] : List Int)[q.1]? = some x ∧ q.2.1 ≤ x ∧ x ≤ q.2.2 := hN.2.1.2
  have b0 : (0 : Int) ≤ s0 ∧ s0 ≤ (39 : Int) := ivX (q := (0, .ofNat 0, .ofNat 39)) (y := s0) (hIv _ (.head _)) rfl
  have b1 : (1 : Int) ≤ s1 ∧ s1 ≤ (1 : Int) := ivX (q := (1, .ofNat 1, .ofNat 1)) (y := s1) (hIv _ (.tail _ (.head _))) rfl
  have b2 : (-2147483648 : Int) ≤ s2 ∧ s2 ≤ (2147483647 : Int) := ivX (q := (2, .negSucc 2147483647, .ofNat 2147483647)) (y := s2) (hIv _ (.tail _ (.tail _ (.head _)))) rfl
  have b3 : (-2147483648 : Int) ≤ s3 ∧ s3 ≤ (2147483647 : Int) := ivX (q := (3, .negSucc 2147483647, .ofNat 2147483647)) (y := s3) (hIv _ (.tail _ (.tail _ (.tail _ (.head _))))) rfl
  have b4 : (-2147483648 : Int) ≤ s4 ∧ s4 ≤ (2147483647 : Int) := ivX (q := (4, .negSucc 2147483647, .ofNat 2147483647)) (y := s4) (hIv _ (.tail _ (.tail _ (.tail _ (.tail _ (.head _)))))) rfl
  have hCs : ∀ c ∈ ([(.ofNat 1, [(.ofNat 1, 0), (.negSucc 0, 5)])] : List sLn), ∃ x, sE [s0, s1, s2, s3, s4, s5] c = some x ∧ x ≤ 0 := hN.2.2.1
  have c0 : ((1 : Int) + ((1 : Int) * s0 + ((-1 : Int) * s5 + 0))) ≤ 0 := csX (hCs _ (.head _)) rfl
  have hRf : ∀ q ∈ ([((82, .ofNat 277, []), (.ofNat 0, [(.ofNat 4, 0)]), 1, .ofNat 0, [(.ofNat 1, 1)]), ((82, .ofNat 277, []), (.ofNat 1, [(.ofNat 4, 0)]), 1, .ofNat 0, [(.ofNat 1, 2)]), ((82, .ofNat 277, []), (.ofNat 2, [(.ofNat 4, 0)]), 1, .ofNat 0, [(.ofNat 1, 3)]), ((82, .ofNat 277, []), (.ofNat 3, [(.ofNat 4, 0)]), 1, .ofNat 0, [(.ofNat 1, 4)])] : List sRf), rfOk [s0, s1, s2, s3, s4, s5] hp q := hH.1
  obtain ⟨i0, e0, l0, h0⟩ := rfI (xv := s1) (iv := (4 * s0)) (hRf _ (.head _)) (sE_k _ _) (sEv (y' := ((0 : Int) + ((4 : Int) * s0 + 0))) rfl (by omega)) (sE_V rfl)
  have l0 : i0 < 160 := l0
  have h0 : hI hp 277 i0 = s1 := h0
  obtain ⟨i1, e1, l1, h1⟩ := rfI (xv := s2) (iv := (4 * s0 + 1)) (hRf _ (.tail _ (.head _))) (sE_k _ _) (sEv (y' := ((1 : Int) + ((4 : Int) * s0 + 0))) rfl (by omega)) (sE_V rfl)
  have l1 : i1 < 160 := l1
  have h1 : hI hp 277 i1 = s2 := h1
  obtain ⟨i2, e2, l2, h2⟩ := rfI (xv := s3) (iv := (4 * s0 + 2)) (hRf _ (.tail _ (.tail _ (.head _)))) (sE_k _ _) (sEv (y' := ((2 : Int) + ((4 : Int) * s0 + 0))) rfl (by omega)) (sE_V rfl)
  have l2 : i2 < 160 := l2
  have h2 : hI hp 277 i2 = s3 := h2
  obtain ⟨i3, e3, l3, h3⟩ := rfI (xv := s4) (iv := (4 * s0 + 3)) (hRf _ (.tail _ (.tail _ (.tail _ (.head _))))) (sE_k _ _) (sEv (y' := ((3 : Int) + ((4 : Int) * s0 + 0))) rfl (by omega)) (sE_V rfl)
  have l3 : i3 < 160 := l3
  have h3 : hI hp 277 i3 = s4 := h3
  have hFc : ∀ q ∈ ([(11, [(.ofNat 0, [(.ofNat 1, 5)])])] : List sFc), fcOk fFS [s0, s1, s2, s3, s4, s5] hp q := hH.2
  have f0 : fRollm s5 hp := fcX (ys := [s5]) (hFc _ (.head _)) ⟨sE_V rfl, trivial⟩
  have u := rollm_use (x := s0) f0 h0 h1 h2 h3 (by omega) (by omega) (by omega) (by omega) (by omega) (by omega) (by omega)
  unfold bxM at u
  exact poX (.head _) rfl hR (all_cons (ivO (y := s2) rfl (show (0 : Int) ≤ s2 by omega) (show s2 ≤ (9 : Int) by omega)) (all_cons (ivO (y := s3) rfl (show (0 : Int) ≤ s3 by omega) (show s3 ≤ (9 : Int) by omega)) (all_cons (ivO (y := s4) rfl (show (0 : Int) ≤ s4 by omega) (show s4 ≤ (4 : Int) by omega)) (all_nil)))) (all_nil) (all_nil)
theorem rl575 : ruOk fFS gR575 := by
  intro r hp hO hN hH
  obtain ⟨s0, s1, s2, s3, s4, s5, rfl⟩ := len6 (show r.length = 6 from hN.1)
  have hR := hN.2.1.1
  have hIv : ∀ q ∈ ([(0, .ofNat 0, .ofNat 39), (1, .ofNat 3, .ofNat 2147483647), (2, .negSucc 2147483647, .ofNat 2147483647), (3, .negSucc 2147483647, .ofNat 2147483647), (4, .negSucc 2147483647, .ofNat 2147483647), (5, .negSucc 2147483647, .ofNat 2147483647)] : sIv), ∃ x, ([s0, s1, s2, s3, s4, s5] : List Int)[q.1]? = some x ∧ q.2.1 ≤ x ∧ x ≤ q.2.2 := hN.2.1.2
  have b0 : (0 : Int) ≤ s0 ∧ s0 ≤ (39 : Int) := ivX (q := (0, .ofNat 0, .ofNat 39)) (y := s0) (hIv _ (.head _)) rfl
  have b1 : (3 : Int) ≤ s1 ∧ s1 ≤ (2147483647 : Int) := ivX (q := (1, .ofNat 3, .ofNat 2147483647)) (y := s1) (hIv _ (.tail _ (.head _))) rfl
  have b2 : (-2147483648 : Int) ≤ s2 ∧ s2 ≤ (2147483647 : Int) := ivX (q := (2, .negSucc 2147483647, .ofNat 2147483647)) (y := s2) (hIv _ (.tail _ (.tail _ (.head _)))) rfl
  have b3 : (-2147483648 : Int) ≤ s3 ∧ s3 ≤ (2147483647 : Int) := ivX (q := (3, .negSucc 2147483647, .ofNat 2147483647)) (y := s3) (hIv _ (.tail _ (.tail _ (.tail _ (.head _))))) rfl
  have hCs : ∀ c ∈ ([(.ofNat 1, [(.ofNat 1, 0), (.negSucc 0, 5)])] : List sLn), ∃ x, sE [s0, s1, s2, s3, s4, s5] c = some x ∧ x ≤ 0 := hN.2.2.1
  have c0 : ((1 : Int) + ((1 : Int) * s0 + ((-1 : Int) * s5 + 0))) ≤ 0 := csX (hCs _ (.head _)) rfl
  have hRf : ∀ q ∈ ([((82, .ofNat 277, []), (.ofNat 0, [(.ofNat 4, 0)]), 1, .ofNat 0, [(.ofNat 1, 1)]), ((82, .ofNat 277, []), (.ofNat 1, [(.ofNat 4, 0)]), 1, .ofNat 0, [(.ofNat 1, 2)]), ((82, .ofNat 277, []), (.ofNat 2, [(.ofNat 4, 0)]), 1, .ofNat 0, [(.ofNat 1, 3)]), ((82, .ofNat 277, []), (.ofNat 3, [(.ofNat 4, 0)]), 1, .ofNat 0, [(.ofNat 1, 4)])] : List sRf), rfOk [s0, s1, s2, s3, s4, s5] hp q := hH.1
  obtain ⟨i0, e0, l0, h0⟩ := rfI (xv := s1) (iv := (4 * s0)) (hRf _ (.head _)) (sE_k _ _) (sEv (y' := ((0 : Int) + ((4 : Int) * s0 + 0))) rfl (by omega)) (sE_V rfl)
  have l0 : i0 < 160 := l0
  have h0 : hI hp 277 i0 = s1 := h0
  obtain ⟨i1, e1, l1, h1⟩ := rfI (xv := s2) (iv := (4 * s0 + 1)) (hRf _ (.tail _ (.head _))) (sE_k _ _) (sEv (y' := ((1 : Int) + ((4 : Int) * s0 + 0))) rfl (by omega)) (sE_V rfl)
  have l1 : i1 < 160 := l1
  have h1 : hI hp 277 i1 = s2 := h1
  obtain ⟨i2, e2, l2, h2⟩ := rfI (xv := s3) (iv := (4 * s0 + 2)) (hRf _ (.tail _ (.tail _ (.head _)))) (sE_k _ _) (sEv (y' := ((2 : Int) + ((4 : Int) * s0 + 0))) rfl (by omega)) (sE_V rfl)
  have l2 : i2 < 160 := l2
  have h2 : hI hp 277 i2 = s3 := h2
  obtain ⟨i3, e3, l3, h3⟩ := rfI (xv := s4) (iv := (4 * s0 + 3)) (hRf _ (.tail _ (.tail _ (.tail _ (.head _))))) (sE_k _ _) (sEv (y' := ((3 : Int) + ((4 : Int) * s0 + 0))) rfl (by omega)) (sE_V rfl)
  have l3 : i3 < 160 := l3
  have h3 : hI hp 277 i3 = s4 := h3
  have hFc : ∀ q ∈ ([(11, [(.ofNat 0, [(.ofNat 1, 5)])])] : List sFc), fcOk fFS [s0, s1, s2, s3, s4, s5] hp q := hH.2
  have f0 : fRollm s5 hp := fcX (ys := [s5]) (hFc _ (.head _)) ⟨sE_V rfl, trivial⟩
  have u := rollm_use (x := s0) f0 h0 h1 h2 h3 (by omega) (by omega) (by omega) (by omega) (by omega) (by omega) (by omega)
  unfold bxM at u
  exact poX (.head _) rfl hR (all_cons (ivO (y := s2) rfl (show (0 : Int) ≤ s2 by omega) (show s2 ≤ (9 : Int) by omega)) (all_cons (ivO (y := s3) rfl (show (0 : Int) ≤ s3 by omega) (show s3 ≤ (9 : Int) by omega)) (all_nil))) (all_nil) (all_nil)
theorem rl576 : ruOk fFS gR576 := by
  intro r hp hO hN hH
  obtain ⟨s0, s1, s2, s3, s4, s5, rfl⟩ := len6 (show r.length = 6 from hN.1)
  have hR := hN.2.1.1
  have hIv : ∀ q ∈ ([(0, .ofNat 0, .ofNat 39), (1, .negSucc 2147483647, .negSucc 0), (2, .negSucc 2147483647, .ofNat 2147483647), (3, .negSucc 2147483647, .ofNat 2147483647), (4, .negSucc 2147483647, .ofNat 2147483647), (5, .negSucc 2147483647, .ofNat 2147483647)] : sIv), ∃ x, ([s0, s1, s2, s3, s4, s5] : List Int)[q.1]? = some x ∧ q.2.1 ≤ x ∧ x ≤ q.2.2 := hN.2.1.2
  have b0 : (0 : Int) ≤ s0 ∧ s0 ≤ (39 : Int) := ivX (q := (0, .ofNat 0, .ofNat 39)) (y := s0) (hIv _ (.head _)) rfl
  have b1 : (-2147483648 : Int) ≤ s1 ∧ s1 ≤ (-1 : Int) := ivX (q := (1, .negSucc 2147483647, .negSucc 0)) (y := s1) (hIv _ (.tail _ (.head _))) rfl
  have b2 : (-2147483648 : Int) ≤ s2 ∧ s2 ≤ (2147483647 : Int) := ivX (q := (2, .negSucc 2147483647, .ofNat 2147483647)) (y := s2) (hIv _ (.tail _ (.tail _ (.head _)))) rfl
  have b3 : (-2147483648 : Int) ≤ s3 ∧ s3 ≤ (2147483647 : Int) := ivX (q := (3, .negSucc 2147483647, .ofNat 2147483647)) (y := s3) (hIv _ (.tail _ (.tail _ (.tail _ (.head _))))) rfl
  have hCs : ∀ c ∈ ([(.ofNat 1, [(.ofNat 1, 0), (.negSucc 0, 5)])] : List sLn), ∃ x, sE [s0, s1, s2, s3, s4, s5] c = some x ∧ x ≤ 0 := hN.2.2.1
  have c0 : ((1 : Int) + ((1 : Int) * s0 + ((-1 : Int) * s5 + 0))) ≤ 0 := csX (hCs _ (.head _)) rfl
  have hRf : ∀ q ∈ ([((82, .ofNat 277, []), (.ofNat 0, [(.ofNat 4, 0)]), 1, .ofNat 0, [(.ofNat 1, 1)]), ((82, .ofNat 277, []), (.ofNat 1, [(.ofNat 4, 0)]), 1, .ofNat 0, [(.ofNat 1, 2)]), ((82, .ofNat 277, []), (.ofNat 2, [(.ofNat 4, 0)]), 1, .ofNat 0, [(.ofNat 1, 3)]), ((82, .ofNat 277, []), (.ofNat 3, [(.ofNat 4, 0)]), 1, .ofNat 0, [(.ofNat 1, 4)])] : List sRf), rfOk [s0, s1, s2, s3, s4, s5] hp q := hH.1
  obtain ⟨i0, e0, l0, h0⟩ := rfI (xv := s1) (iv := (4 * s0)) (hRf _ (.head _)) (sE_k _ _) (sEv (y' := ((0 : Int) + ((4 : Int) * s0 + 0))) rfl (by omega)) (sE_V rfl)
  have l0 : i0 < 160 := l0
  have h0 : hI hp 277 i0 = s1 := h0
  obtain ⟨i1, e1, l1, h1⟩ := rfI (xv := s2) (iv := (4 * s0 + 1)) (hRf _ (.tail _ (.head _))) (sE_k _ _) (sEv (y' := ((1 : Int) + ((4 : Int) * s0 + 0))) rfl (by omega)) (sE_V rfl)
  have l1 : i1 < 160 := l1
  have h1 : hI hp 277 i1 = s2 := h1
  obtain ⟨i2, e2, l2, h2⟩ := rfI (xv := s3) (iv := (4 * s0 + 2)) (hRf _ (.tail _ (.tail _ (.head _)))) (sE_k _ _) (sEv (y' := ((2 : Int) + ((4 : Int) * s0 + 0))) rfl (by omega)) (sE_V rfl)
  have l2 : i2 < 160 := l2
  have h2 : hI hp 277 i2 = s3 := h2
  obtain ⟨i3, e3, l3, h3⟩ := rfI (xv := s4) (iv := (4 * s0 + 3)) (hRf _ (.tail _ (.tail _ (.tail _ (.head _))))) (sE_k _ _) (sEv (y' := ((3 : Int) + ((4 : Int) * s0 + 0))) rfl (by omega)) (sE_V rfl)
  have l3 : i3 < 160 := l3
  have h3 : hI hp 277 i3 = s4 := h3
  have hFc : ∀ q ∈ ([(11, [(.ofNat 0, [(.ofNat 1, 5)])])] : List sFc), fcOk fFS [s0, s1, s2, s3, s4, s5] hp q := hH.2
  have f0 : fRollm s5 hp := fcX (ys := [s5]) (hFc _ (.head _)) ⟨sE_V rfl, trivial⟩
  have u := rollm_use (x := s0) f0 h0 h1 h2 h3 (by omega) (by omega) (by omega) (by omega) (by omega) (by omega) (by omega)
  unfold bxM at u
  exact poX (.head _) rfl hR (all_cons (ivO (y := s2) rfl (show (0 : Int) ≤ s2 by omega) (show s2 ≤ (9 : Int) by omega)) (all_cons (ivO (y := s3) rfl (show (0 : Int) ≤ s3 by omega) (show s3 ≤ (9 : Int) by omega)) (all_nil))) (all_nil) (all_nil)
theorem rl577 : ruOk fFS gR577 := by
  intro r hp hO hN hH
  have hr0 := len0 (show r.length = 0 from hN.1)
  subst hr0
  have hR := hN.2.1.1
  exact poX (.head _) rfl hR (all_nil) (all_nil) (all_cons ⟨[0, 0], ⟨sE_k _ _, sE_k _ _, trivial⟩, (show fStk 0 0 hp from stk0' (by omega) (by omega))⟩ (all_nil))
theorem rl578 : ruOk fFS gR578 := by
  intro r hp hO hN hH
  have hr0 := len0 (show r.length = 0 from hN.1)
  subst hr0
  have hR := hN.2.1.1
  exact poX (.head _) rfl hR (all_nil) (all_nil) (all_cons ⟨[0, 0], ⟨sE_k _ _, sE_k _ _, trivial⟩, (show fCode 0 0 hp from code0' (by omega) (by omega))⟩ (all_nil))
theorem rl579 : ruOk fFS gR579 := by
  intro r hp hO hN hH
  obtain ⟨s0, s1, s2, rfl⟩ := len3 (show r.length = 3 from hN.1)
  have hR := hN.2.1.1
  have hIv : ∀ q ∈ ([(0, .ofNat 0, .ofNat 44), (1, .ofNat 20, .ofNat 20), (2, .negSucc 2147483647, .ofNat 2147483647)] : sIv), ∃ x, ([s0, s1, s2] : List Int)[q.1]? = some x ∧ q.2.1 ≤ x ∧ x ≤ q.2.2 := hN.2.1.2
  have b0 : (0 : Int) ≤ s0 ∧ s0 ≤ (44 : Int) := ivX (q := (0, .ofNat 0, .ofNat 44)) (y := s0) (hIv _ (.head _)) rfl
  have b1 : (20 : Int) ≤ s1 ∧ s1 ≤ (20 : Int) := ivX (q := (1, .ofNat 20, .ofNat 20)) (y := s1) (hIv _ (.tail _ (.head _))) rfl
  have hRf : ∀ q ∈ ([((78, .ofNat 273, []), (.ofNat 50, []), 1, .ofNat 0, [(.ofNat 1, 0)]), ((92, .ofNat 287, []), (.ofNat 0, [(.ofNat 1, 0)]), 1, .ofNat 0, [(.ofNat 1, 1)])] : List sRf), rfOk [s0, s1, s2] hp q := hH.1
  have h0 : hI hp 273 50 = s0 := rfI0 (hRf _ (.head _)) (sE_k _ _) (sE_k _ _) (sE_V rfl)
  have y0 : (0 : Int) ≤ s0 ∧ s0 ≤ (45 : Int) := by rw [← h0]; exact hI_ty hO (by decide) rfl
  obtain ⟨i1, e1, l1, h1⟩ := rfI (xv := s1) (iv := s0) (hRf _ (.tail _ (.head _))) (sE_k _ _) (sE_V rfl) (sE_V rfl)
  have l1 : i1 < 45 := l1
  have h1 : hI hp 287 i1 = s1 := h1
  have hFc : ∀ q ∈ ([(15, [(.ofNat 0, [(.ofNat 1, 0)]), (.ofNat 0, [(.ofNat 1, 2)])])] : List sFc), fcOk fFS [s0, s1, s2] hp q := hH.2
  have f0 : fStk s0 s2 hp := fcX (ys := [s0, s2]) (hFc _ (.head _)) ⟨sE_V rfl, sE_V rfl, trivial⟩
  exact poX (.head _) rfl hR (all_nil) (all_nil) (all_cons ⟨[(s0 + 1), s2], ⟨sEv (y' := ((1 : Int) + ((1 : Int) * s0 + 0))) rfl (by omega), sE_V rfl, trivial⟩, (show fStk (s0 + 1) s2 hp from stk_psh f0 h1 (by omega) (by omega) (by omega) (by omega))⟩ (all_nil))
theorem rl580 : ruOk fFS gR580 := by
  intro r hp hO hN hH
  obtain ⟨s0, s1, s2, s3, rfl⟩ := len4 (show r.length = 4 from hN.1)
  have hR := hN.2.1.1
  have hIv : ∀ q ∈ ([(0, .ofNat 0, .ofNat 45), (1, .ofNat 20, .ofNat 20), (2, .negSucc 2147483647, .ofNat 2147483647), (3, .ofNat 1, .ofNat 20)] : sIv), ∃ x, ([s0, s1, s2, s3] : List Int)[q.1]? = some x ∧ q.2.1 ≤ x ∧ x ≤ q.2.2 := hN.2.1.2
  have b0 : (0 : Int) ≤ s0 ∧ s0 ≤ (45 : Int) := ivX (q := (0, .ofNat 0, .ofNat 45)) (y := s0) (hIv _ (.head _)) rfl
  have b1 : (20 : Int) ≤ s1 ∧ s1 ≤ (20 : Int) := ivX (q := (1, .ofNat 20, .ofNat 20)) (y := s1) (hIv _ (.tail _ (.head _))) rfl
  have b3 : (1 : Int) ≤ s3 ∧ s3 ≤ (20 : Int) := ivX (q := (3, .ofNat 1, .ofNat 20)) (y := s3) (hIv _ (.tail _ (.tail _ (.tail _ (.head _))))) rfl
  have hRf : ∀ q ∈ ([((78, .ofNat 273, []), (.ofNat 48, []), 1, .ofNat 0, [(.ofNat 1, 0)]), ((82, .ofNat 277, []), (.ofNat 0, [(.ofNat 3, 0)]), 1, .ofNat 0, [(.ofNat 1, 1)]), ((82, .ofNat 277, []), (.ofNat 2, [(.ofNat 3, 0)]), 1, .ofNat 0, [(.ofNat 1, 2)])] : List sRf), rfOk [s0, s1, s2, s3] hp q := hH.1
  have h0 : hI hp 273 48 = s0 := rfI0 (hRf _ (.head _)) (sE_k _ _) (sE_k _ _) (sE_V rfl)
  have y0 : (0 : Int) ≤ s0 ∧ s0 ≤ (53 : Int) := by rw [← h0]; exact hI_ty hO (by decide) rfl
  obtain ⟨i1, e1, l1, h1⟩ := rfI (xv := s1) (iv := (3 * s0)) (hRf _ (.tail _ (.head _))) (sE_k _ _) (sEv (y' := ((0 : Int) + ((3 : Int) * s0 + 0))) rfl (by omega)) (sE_V rfl)
  have l1 : i1 < 160 := l1
  have h1 : hI hp 277 i1 = s1 := h1
  obtain ⟨i2, e2, l2, h2⟩ := rfI (xv := s2) (iv := (3 * s0 + 2)) (hRf _ (.tail _ (.tail _ (.head _)))) (sE_k _ _) (sEv (y' := ((2 : Int) + ((3 : Int) * s0 + 0))) rfl (by omega)) (sE_V rfl)
  have l2 : i2 < 160 := l2
  have h2 : hI hp 277 i2 = s2 := h2
  have hFc : ∀ q ∈ ([(14, [(.ofNat 0, [(.ofNat 1, 0)]), (.ofNat 0, [(.ofNat 1, 3)])])] : List sFc), fcOk fFS [s0, s1, s2, s3] hp q := hH.2
  have f0 : fCode s0 s3 hp := fcX (ys := [s0, s3]) (hFc _ (.head _)) ⟨sE_V rfl, sE_V rfl, trivial⟩
  exact poX (.head _) rfl hR (all_nil) (all_nil) (all_cons ⟨[(s0 + 1), s3], ⟨sEv (y' := ((1 : Int) + ((1 : Int) * s0 + 0))) rfl (by omega), sE_V rfl, trivial⟩, (show fCode (s0 + 1) s3 hp from code_add f0 h1 h2 (by omega) (by omega) (by omega) (by unfold stC; omega) (by omega))⟩ (all_nil))
theorem rl581 : ruOk fFS gR581 := by
  intro r hp hO hN hH
  obtain ⟨s0, s1, s2, s3, rfl⟩ := len4 (show r.length = 4 from hN.1)
  have hR := hN.2.1.1
  have hIv : ∀ q ∈ ([(0, .ofNat 0, .ofNat 45), (1, .ofNat 21, .ofNat 22), (2, .negSucc 2147483647, .ofNat 2147483647), (3, .ofNat 2, .ofNat 20)] : sIv), ∃ x, ([s0, s1, s2, s3] : List Int)[q.1]? = some x ∧ q.2.1 ≤ x ∧ x ≤ q.2.2 := hN.2.1.2
  have b0 : (0 : Int) ≤ s0 ∧ s0 ≤ (45 : Int) := ivX (q := (0, .ofNat 0, .ofNat 45)) (y := s0) (hIv _ (.head _)) rfl
  have b1 : (21 : Int) ≤ s1 ∧ s1 ≤ (22 : Int) := ivX (q := (1, .ofNat 21, .ofNat 22)) (y := s1) (hIv _ (.tail _ (.head _))) rfl
  have b3 : (2 : Int) ≤ s3 ∧ s3 ≤ (20 : Int) := ivX (q := (3, .ofNat 2, .ofNat 20)) (y := s3) (hIv _ (.tail _ (.tail _ (.tail _ (.head _))))) rfl
  have hRf : ∀ q ∈ ([((78, .ofNat 273, []), (.ofNat 48, []), 1, .ofNat 0, [(.ofNat 1, 0)]), ((82, .ofNat 277, []), (.ofNat 0, [(.ofNat 3, 0)]), 1, .ofNat 0, [(.ofNat 1, 1)]), ((82, .ofNat 277, []), (.ofNat 2, [(.ofNat 3, 0)]), 1, .ofNat 0, [(.ofNat 1, 2)])] : List sRf), rfOk [s0, s1, s2, s3] hp q := hH.1
  have h0 : hI hp 273 48 = s0 := rfI0 (hRf _ (.head _)) (sE_k _ _) (sE_k _ _) (sE_V rfl)
  have y0 : (0 : Int) ≤ s0 ∧ s0 ≤ (53 : Int) := by rw [← h0]; exact hI_ty hO (by decide) rfl
  obtain ⟨i1, e1, l1, h1⟩ := rfI (xv := s1) (iv := (3 * s0)) (hRf _ (.tail _ (.head _))) (sE_k _ _) (sEv (y' := ((0 : Int) + ((3 : Int) * s0 + 0))) rfl (by omega)) (sE_V rfl)
  have l1 : i1 < 160 := l1
  have h1 : hI hp 277 i1 = s1 := h1
  obtain ⟨i2, e2, l2, h2⟩ := rfI (xv := s2) (iv := (3 * s0 + 2)) (hRf _ (.tail _ (.tail _ (.head _)))) (sE_k _ _) (sEv (y' := ((2 : Int) + ((3 : Int) * s0 + 0))) rfl (by omega)) (sE_V rfl)
  have l2 : i2 < 160 := l2
  have h2 : hI hp 277 i2 = s2 := h2
  have hFc : ∀ q ∈ ([(14, [(.ofNat 0, [(.ofNat 1, 0)]), (.ofNat 0, [(.ofNat 1, 3)])])] : List sFc), fcOk fFS [s0, s1, s2, s3] hp q := hH.2
  have f0 : fCode s0 s3 hp := fcX (ys := [s0, s3]) (hFc _ (.head _)) ⟨sE_V rfl, sE_V rfl, trivial⟩
  exact poX (.head _) rfl hR (all_nil) (all_nil) (all_cons ⟨[(s0 + 1), (s3 - 1)], ⟨sEv (y' := ((1 : Int) + ((1 : Int) * s0 + 0))) rfl (by omega), sEv (y' := ((-1 : Int) + ((1 : Int) * s3 + 0))) rfl (by omega), trivial⟩, (show fCode (s0 + 1) (s3 - 1) hp from code_add f0 h1 h2 (by omega) (by omega) (by omega) (by unfold stC; omega) (by omega))⟩ (all_nil))
theorem rl582 : ruOk fFS gR582 := by
  intro r hp hO hN hH
  obtain ⟨s0, s1, s2, s3, rfl⟩ := len4 (show r.length = 4 from hN.1)
  have hR := hN.2.1.1
  have hIv : ∀ q ∈ ([(0, .ofNat 0, .ofNat 45), (1, .ofNat 0, .ofNat 3), (2, .negSucc 2147483647, .ofNat 2147483647), (3, .ofNat 0, .ofNat 19)] : sIv), ∃ x, ([s0, s1, s2, s3] : List Int)[q.1]? = some x ∧ q.2.1 ≤ x ∧ x ≤ q.2.2 := hN.2.1.2
  have b0 : (0 : Int) ≤ s0 ∧ s0 ≤ (45 : Int) := ivX (q := (0, .ofNat 0, .ofNat 45)) (y := s0) (hIv _ (.head _)) rfl
  have b1 : (0 : Int) ≤ s1 ∧ s1 ≤ (3 : Int) := ivX (q := (1, .ofNat 0, .ofNat 3)) (y := s1) (hIv _ (.tail _ (.head _))) rfl
  have b3 : (0 : Int) ≤ s3 ∧ s3 ≤ (19 : Int) := ivX (q := (3, .ofNat 0, .ofNat 19)) (y := s3) (hIv _ (.tail _ (.tail _ (.tail _ (.head _))))) rfl
  have hRf : ∀ q ∈ ([((78, .ofNat 273, []), (.ofNat 48, []), 1, .ofNat 0, [(.ofNat 1, 0)]), ((82, .ofNat 277, []), (.ofNat 0, [(.ofNat 3, 0)]), 1, .ofNat 0, [(.ofNat 1, 1)]), ((82, .ofNat 277, []), (.ofNat 2, [(.ofNat 3, 0)]), 1, .ofNat 0, [(.ofNat 1, 2)])] : List sRf), rfOk [s0, s1, s2, s3] hp q := hH.1
  have h0 : hI hp 273 48 = s0 := rfI0 (hRf _ (.head _)) (sE_k _ _) (sE_k _ _) (sE_V rfl)
  have y0 : (0 : Int) ≤ s0 ∧ s0 ≤ (53 : Int) := by rw [← h0]; exact hI_ty hO (by decide) rfl
  obtain ⟨i1, e1, l1, h1⟩ := rfI (xv := s1) (iv := (3 * s0)) (hRf _ (.tail _ (.head _))) (sE_k _ _) (sEv (y' := ((0 : Int) + ((3 : Int) * s0 + 0))) rfl (by omega)) (sE_V rfl)
  have l1 : i1 < 160 := l1
  have h1 : hI hp 277 i1 = s1 := h1
  obtain ⟨i2, e2, l2, h2⟩ := rfI (xv := s2) (iv := (3 * s0 + 2)) (hRf _ (.tail _ (.tail _ (.head _)))) (sE_k _ _) (sEv (y' := ((2 : Int) + ((3 : Int) * s0 + 0))) rfl (by omega)) (sE_V rfl)
  have l2 : i2 < 160 := l2
  have h2 : hI hp 277 i2 = s2 := h2
  have hFc : ∀ q ∈ ([(14, [(.ofNat 0, [(.ofNat 1, 0)]), (.ofNat 0, [(.ofNat 1, 3)])])] : List sFc), fcOk fFS [s0, s1, s2, s3] hp q := hH.2
  have f0 : fCode s0 s3 hp := fcX (ys := [s0, s3]) (hFc _ (.head _)) ⟨sE_V rfl, sE_V rfl, trivial⟩
  exact poX (.head _) rfl hR (all_nil) (all_nil) (all_cons ⟨[(s0 + 1), (s3 + 1)], ⟨sEv (y' := ((1 : Int) + ((1 : Int) * s0 + 0))) rfl (by omega), sEv (y' := ((1 : Int) + ((1 : Int) * s3 + 0))) rfl (by omega), trivial⟩, (show fCode (s0 + 1) (s3 + 1) hp from code_add f0 h1 h2 (by omega) (by omega) (by omega) (by unfold stC; omega) (by omega))⟩ (all_nil))
theorem rl583 : ruOk fFS gR583 := by
  intro r hp hO hN hH
  obtain ⟨s0, s1, s2, s3, rfl⟩ := len4 (show r.length = 4 from hN.1)
  have hR := hN.2.1.1
  have hIv : ∀ q ∈ ([(0, .ofNat 0, .ofNat 45), (1, .ofNat 5, .ofNat 8), (2, .negSucc 2147483647, .ofNat 2147483647), (3, .ofNat 0, .ofNat 19)] : sIv), ∃ x, ([s0, s1, s2, s3] : List Int)[q.1]? = some x ∧ q.2.1 ≤ x ∧ x ≤ q.2.2 := hN.2.1.2
  have b0 : (0 : Int) ≤ s0 ∧ s0 ≤ (45 : Int) := ivX (q := (0, .ofNat 0, .ofNat 45)) (y := s0) (hIv _ (.head _)) rfl
  have b1 : (5 : Int) ≤ s1 ∧ s1 ≤ (8 : Int) := ivX (q := (1, .ofNat 5, .ofNat 8)) (y := s1) (hIv _ (.tail _ (.head _))) rfl
  have b3 : (0 : Int) ≤ s3 ∧ s3 ≤ (19 : Int) := ivX (q := (3, .ofNat 0, .ofNat 19)) (y := s3) (hIv _ (.tail _ (.tail _ (.tail _ (.head _))))) rfl
  have hRf : ∀ q ∈ ([((78, .ofNat 273, []), (.ofNat 48, []), 1, .ofNat 0, [(.ofNat 1, 0)]), ((82, .ofNat 277, []), (.ofNat 0, [(.ofNat 3, 0)]), 1, .ofNat 0, [(.ofNat 1, 1)]), ((82, .ofNat 277, []), (.ofNat 2, [(.ofNat 3, 0)]), 1, .ofNat 0, [(.ofNat 1, 2)])] : List sRf), rfOk [s0, s1, s2, s3] hp q := hH.1
  have h0 : hI hp 273 48 = s0 := rfI0 (hRf _ (.head _)) (sE_k _ _) (sE_k _ _) (sE_V rfl)
  have y0 : (0 : Int) ≤ s0 ∧ s0 ≤ (53 : Int) := by rw [← h0]; exact hI_ty hO (by decide) rfl
  obtain ⟨i1, e1, l1, h1⟩ := rfI (xv := s1) (iv := (3 * s0)) (hRf _ (.tail _ (.head _))) (sE_k _ _) (sEv (y' := ((0 : Int) + ((3 : Int) * s0 + 0))) rfl (by omega)) (sE_V rfl)
  have l1 : i1 < 160 := l1
  have h1 : hI hp 277 i1 = s1 := h1
  obtain ⟨i2, e2, l2, h2⟩ := rfI (xv := s2) (iv := (3 * s0 + 2)) (hRf _ (.tail _ (.tail _ (.head _)))) (sE_k _ _) (sEv (y' := ((2 : Int) + ((3 : Int) * s0 + 0))) rfl (by omega)) (sE_V rfl)
  have l2 : i2 < 160 := l2
  have h2 : hI hp 277 i2 = s2 := h2
  have hFc : ∀ q ∈ ([(14, [(.ofNat 0, [(.ofNat 1, 0)]), (.ofNat 0, [(.ofNat 1, 3)])])] : List sFc), fcOk fFS [s0, s1, s2, s3] hp q := hH.2
  have f0 : fCode s0 s3 hp := fcX (ys := [s0, s3]) (hFc _ (.head _)) ⟨sE_V rfl, sE_V rfl, trivial⟩
  exact poX (.head _) rfl hR (all_nil) (all_nil) (all_cons ⟨[(s0 + 1), (s3 + 1)], ⟨sEv (y' := ((1 : Int) + ((1 : Int) * s0 + 0))) rfl (by omega), sEv (y' := ((1 : Int) + ((1 : Int) * s3 + 0))) rfl (by omega), trivial⟩, (show fCode (s0 + 1) (s3 + 1) hp from code_add f0 h1 h2 (by omega) (by omega) (by omega) (by unfold stC; omega) (by omega))⟩ (all_nil))
theorem rl584 : ruOk fFS gR584 := by
  intro r hp hO hN hH
  obtain ⟨s0, s1, s2, s3, rfl⟩ := len4 (show r.length = 4 from hN.1)
  have hR := hN.2.1.1
  have hIv : ∀ q ∈ ([(0, .ofNat 0, .ofNat 45), (1, .ofNat 4, .ofNat 4), (2, .ofNat 0, .ofNat 2), (3, .ofNat 0, .ofNat 19)] : sIv), ∃ x, ([s0, s1, s2, s3] : List Int)[q.1]? = some x ∧ q.2.1 ≤ x ∧ x ≤ q.2.2 := hN.2.1.2
  have b0 : (0 : Int) ≤ s0 ∧ s0 ≤ (45 : Int) := ivX (q := (0, .ofNat 0, .ofNat 45)) (y := s0) (hIv _ (.head _)) rfl
  have b1 : (4 : Int) ≤ s1 ∧ s1 ≤ (4 : Int) := ivX (q := (1, .ofNat 4, .ofNat 4)) (y := s1) (hIv _ (.tail _ (.head _))) rfl
  have b2 : (0 : Int) ≤ s2 ∧ s2 ≤ (2 : Int) := ivX (q := (2, .ofNat 0, .ofNat 2)) (y := s2) (hIv _ (.tail _ (.tail _ (.head _)))) rfl
  have b3 : (0 : Int) ≤ s3 ∧ s3 ≤ (19 : Int) := ivX (q := (3, .ofNat 0, .ofNat 19)) (y := s3) (hIv _ (.tail _ (.tail _ (.tail _ (.head _))))) rfl
  have hRf : ∀ q ∈ ([((78, .ofNat 273, []), (.ofNat 48, []), 1, .ofNat 0, [(.ofNat 1, 0)]), ((82, .ofNat 277, []), (.ofNat 0, [(.ofNat 3, 0)]), 1, .ofNat 0, [(.ofNat 1, 1)]), ((82, .ofNat 277, []), (.ofNat 2, [(.ofNat 3, 0)]), 1, .ofNat 0, [(.ofNat 1, 2)])] : List sRf), rfOk [s0, s1, s2, s3] hp q := hH.1
  have h0 : hI hp 273 48 = s0 := rfI0 (hRf _ (.head _)) (sE_k _ _) (sE_k _ _) (sE_V rfl)
  have y0 : (0 : Int) ≤ s0 ∧ s0 ≤ (53 : Int) := by rw [← h0]; exact hI_ty hO (by decide) rfl
  obtain ⟨i1, e1, l1, h1⟩ := rfI (xv := s1) (iv := (3 * s0)) (hRf _ (.tail _ (.head _))) (sE_k _ _) (sEv (y' := ((0 : Int) + ((3 : Int) * s0 + 0))) rfl (by omega)) (sE_V rfl)
  have l1 : i1 < 160 := l1
  have h1 : hI hp 277 i1 = s1 := h1
  obtain ⟨i2, e2, l2, h2⟩ := rfI (xv := s2) (iv := (3 * s0 + 2)) (hRf _ (.tail _ (.tail _ (.head _)))) (sE_k _ _) (sEv (y' := ((2 : Int) + ((3 : Int) * s0 + 0))) rfl (by omega)) (sE_V rfl)
  have l2 : i2 < 160 := l2
  have h2 : hI hp 277 i2 = s2 := h2
  have hFc : ∀ q ∈ ([(14, [(.ofNat 0, [(.ofNat 1, 0)]), (.ofNat 0, [(.ofNat 1, 3)])])] : List sFc), fcOk fFS [s0, s1, s2, s3] hp q := hH.2
  have f0 : fCode s0 s3 hp := fcX (ys := [s0, s3]) (hFc _ (.head _)) ⟨sE_V rfl, sE_V rfl, trivial⟩
  exact poX (.head _) rfl hR (all_nil) (all_nil) (all_cons ⟨[(s0 + 1), (s3 + 1)], ⟨sEv (y' := ((1 : Int) + ((1 : Int) * s0 + 0))) rfl (by omega), sEv (y' := ((1 : Int) + ((1 : Int) * s3 + 0))) rfl (by omega), trivial⟩, (show fCode (s0 + 1) (s3 + 1) hp from code_add f0 h1 h2 (by omega) (by omega) (by omega) (by unfold stC; omega) (by omega))⟩ (all_nil))
theorem rl585 : ruOk fFS gR585 := by
  intro r hp hO hN hH
  obtain ⟨s0, s1, s2, rfl⟩ := len3 (show r.length = 3 from hN.1)
  have hR := hN.2.1.1
  have hIv : ∀ q ∈ ([(0, .ofNat 0, .ofNat 44), (1, .ofNat 23, .ofNat 23), (2, .negSucc 2147483647, .ofNat 2147483647)] : sIv), ∃ x, ([s0, s1, s2] : List Int)[q.1]? = some x ∧ q.2.1 ≤ x ∧ x ≤ q.2.2 := hN.2.1.2
  have b0 : (0 : Int) ≤ s0 ∧ s0 ≤ (44 : Int) := ivX (q := (0, .ofNat 0, .ofNat 44)) (y := s0) (hIv _ (.head _)) rfl
  have b1 : (23 : Int) ≤ s1 ∧ s1 ≤ (23 : Int) := ivX (q := (1, .ofNat 23, .ofNat 23)) (y := s1) (hIv _ (.tail _ (.head _))) rfl
  have hRf : ∀ q ∈ ([((78, .ofNat 273, []), (.ofNat 50, []), 1, .ofNat 0, [(.ofNat 1, 0)]), ((92, .ofNat 287, []), (.ofNat 0, [(.ofNat 1, 0)]), 1, .ofNat 0, [(.ofNat 1, 1)])] : List sRf), rfOk [s0, s1, s2] hp q := hH.1
  have h0 : hI hp 273 50 = s0 := rfI0 (hRf _ (.head _)) (sE_k _ _) (sE_k _ _) (sE_V rfl)
  have y0 : (0 : Int) ≤ s0 ∧ s0 ≤ (45 : Int) := by rw [← h0]; exact hI_ty hO (by decide) rfl
  obtain ⟨i1, e1, l1, h1⟩ := rfI (xv := s1) (iv := s0) (hRf _ (.tail _ (.head _))) (sE_k _ _) (sE_V rfl) (sE_V rfl)
  have l1 : i1 < 45 := l1
  have h1 : hI hp 287 i1 = s1 := h1
  have hFc : ∀ q ∈ ([(15, [(.ofNat 0, [(.ofNat 1, 0)]), (.ofNat 0, [(.ofNat 1, 2)])])] : List sFc), fcOk fFS [s0, s1, s2] hp q := hH.2
  have f0 : fStk s0 s2 hp := fcX (ys := [s0, s2]) (hFc _ (.head _)) ⟨sE_V rfl, sE_V rfl, trivial⟩
  exact poX (.head _) rfl hR (all_nil) (all_nil) (all_cons ⟨[(s0 + 1), s2], ⟨sEv (y' := ((1 : Int) + ((1 : Int) * s0 + 0))) rfl (by omega), sE_V rfl, trivial⟩, (show fStk (s0 + 1) s2 hp from stk_psh f0 h1 (by omega) (by omega) (by omega) (by omega))⟩ (all_nil))
theorem rl586 : ruOk fFS gR586 := by
  intro r hp hO hN hH
  obtain ⟨s0, s1, s2, rfl⟩ := len3 (show r.length = 3 from hN.1)
  have hR := hN.2.1.1
  have hIv : ∀ q ∈ ([(0, .ofNat 1, .ofNat 45), (1, .ofNat 20, .ofNat 20), (2, .negSucc 2147483647, .ofNat 2147483647)] : sIv), ∃ x, ([s0, s1, s2] : List Int)[q.1]? = some x ∧ q.2.1 ≤ x ∧ x ≤ q.2.2 := hN.2.1.2
  have b0 : (1 : Int) ≤ s0 ∧ s0 ≤ (45 : Int) := ivX (q := (0, .ofNat 1, .ofNat 45)) (y := s0) (hIv _ (.head _)) rfl
  have b1 : (20 : Int) ≤ s1 ∧ s1 ≤ (20 : Int) := ivX (q := (1, .ofNat 20, .ofNat 20)) (y := s1) (hIv _ (.tail _ (.head _))) rfl
  have hRf : ∀ q ∈ ([((78, .ofNat 273, []), (.ofNat 50, []), 1, .ofNat 0, [(.ofNat 1, 0)]), ((92, .ofNat 287, []), (.negSucc 0, [(.ofNat 1, 0)]), 1, .ofNat 0, [(.ofNat 1, 1)])] : List sRf), rfOk [s0, s1, s2] hp q := hH.1
  have h0 : hI hp 273 50 = s0 := rfI0 (hRf _ (.head _)) (sE_k _ _) (sE_k _ _) (sE_V rfl)
  have y0 : (0 : Int) ≤ s0 ∧ s0 ≤ (45 : Int) := by rw [← h0]; exact hI_ty hO (by decide) rfl
  obtain ⟨i1, e1, l1, h1⟩ := rfI (xv := s1) (iv := (s0 - 1)) (hRf _ (.tail _ (.head _))) (sE_k _ _) (sEv (y' := ((-1 : Int) + ((1 : Int) * s0 + 0))) rfl (by omega)) (sE_V rfl)
  have l1 : i1 < 45 := l1
  have h1 : hI hp 287 i1 = s1 := h1
  have hFc : ∀ q ∈ ([(15, [(.ofNat 0, [(.ofNat 1, 0)]), (.ofNat 0, [(.ofNat 1, 2)])])] : List sFc), fcOk fFS [s0, s1, s2] hp q := hH.2
  have f0 : fStk s0 s2 hp := fcX (ys := [s0, s2]) (hFc _ (.head _)) ⟨sE_V rfl, sE_V rfl, trivial⟩
  obtain ⟨v, v1, v2, v3, v4⟩ := stk_pop f0 h1 (by omega)
  exact poX (.head _) rfl hR (all_nil) (all_nil) (all_cons ⟨[(s0 - 1), s2], ⟨sEv (y' := ((-1 : Int) + ((1 : Int) * s0 + 0))) rfl (by omega), sE_V rfl, trivial⟩, (show fStk (s0 - 1) s2 hp from stk_cg v1 (by omega) (by omega))⟩ (all_nil))
theorem rl587 : ruOk fFS gR587 := by
  intro r hp hO hN hH
  obtain ⟨s0, s1, rfl⟩ := len2 (show r.length = 2 from hN.1)
  have hR := hN.2.1.1
  have hIv : ∀ q ∈ ([(0, .ofNat 1, .ofNat 45), (1, .negSucc 2147483647, .ofNat 2147483647)] : sIv), ∃ x, ([s0, s1] : List Int)[q.1]? = some x ∧ q.2.1 ≤ x ∧ x ≤ q.2.2 := hN.2.1.2
  have b0 : (1 : Int) ≤ s0 ∧ s0 ≤ (45 : Int) := ivX (q := (0, .ofNat 1, .ofNat 45)) (y := s0) (hIv _ (.head _)) rfl
  have b1 : (-2147483648 : Int) ≤ s1 ∧ s1 ≤ (2147483647 : Int) := ivX (q := (1, .negSucc 2147483647, .ofNat 2147483647)) (y := s1) (hIv _ (.tail _ (.head _))) rfl
  have hRf : ∀ q ∈ ([((78, .ofNat 273, []), (.ofNat 50, []), 1, .ofNat 0, [(.ofNat 1, 0)]), ((92, .ofNat 287, []), (.negSucc 0, [(.ofNat 1, 0)]), 1, .ofNat 0, [(.ofNat 1, 1)])] : List sRf), rfOk [s0, s1] hp q := hH.1
  have h0 : hI hp 273 50 = s0 := rfI0 (hRf _ (.head _)) (sE_k _ _) (sE_k _ _) (sE_V rfl)
  have y0 : (0 : Int) ≤ s0 ∧ s0 ≤ (45 : Int) := by rw [← h0]; exact hI_ty hO (by decide) rfl
  obtain ⟨i1, e1, l1, h1⟩ := rfI (xv := s1) (iv := (s0 - 1)) (hRf _ (.tail _ (.head _))) (sE_k _ _) (sEv (y' := ((-1 : Int) + ((1 : Int) * s0 + 0))) rfl (by omega)) (sE_V rfl)
  have l1 : i1 < 45 := l1
  have h1 : hI hp 287 i1 = s1 := h1
  have y : (((-2147483648 : Int) ≤ s1 ∧ s1 ≤ (20 : Int))) ∨ (((21 : Int) ≤ s1 ∧ s1 ≤ (21 : Int))) ∨ (((22 : Int) ≤ s1 ∧ s1 ≤ (22 : Int))) ∨ (((23 : Int) ≤ s1 ∧ s1 ≤ (2147483647 : Int))) := by omega
  rcases y with y | y | y | y
  · exact poX (.head _) rfl hR (all_cons (ivO (y := s1) rfl (show (-2147483648 : Int) ≤ s1 by omega) (show s1 ≤ (20 : Int) by omega)) (all_nil)) (all_nil) (all_nil)
  · exact poX (.tail _ (.head _)) rfl hR (all_cons (ivO (y := s1) rfl (show (21 : Int) ≤ s1 by omega) (show s1 ≤ (21 : Int) by omega)) (all_nil)) (all_nil) (all_nil)
  · exact poX (.tail _ (.tail _ (.head _))) rfl hR (all_cons (ivO (y := s1) rfl (show (22 : Int) ≤ s1 by omega) (show s1 ≤ (22 : Int) by omega)) (all_nil)) (all_nil) (all_nil)
  · exact poX (.tail _ (.tail _ (.tail _ (.head _)))) rfl hR (all_cons (ivO (y := s1) rfl (show (23 : Int) ≤ s1 by omega) (show s1 ≤ (2147483647 : Int) by omega)) (all_nil)) (all_nil) (all_nil)
theorem rl588 : ruOk fFS gR588 := by
  intro r hp hO hN hH
  obtain ⟨s0, rfl⟩ := len1 (show r.length = 1 from hN.1)
  have hR := hN.2.1.1
  have hIv : ∀ q ∈ ([(0, .ofNat 0, .ofNat 0)] : sIv), ∃ x, ([s0] : List Int)[q.1]? = some x ∧ q.2.1 ≤ x ∧ x ≤ q.2.2 := hN.2.1.2
  have b0 : (0 : Int) ≤ s0 ∧ s0 ≤ (0 : Int) := ivX (q := (0, .ofNat 0, .ofNat 0)) (y := s0) (hIv _ (.head _)) rfl
  have hRf : ∀ q ∈ ([((78, .ofNat 273, []), (.ofNat 50, []), 1, .ofNat 0, [(.ofNat 1, 0)])] : List sRf), rfOk [s0] hp q := hH.1
  have h0 : hI hp 273 50 = s0 := rfI0 (hRf _ (.head _)) (sE_k _ _) (sE_k _ _) (sE_V rfl)
  have y0 : (0 : Int) ≤ s0 ∧ s0 ≤ (45 : Int) := by rw [← h0]; exact hI_ty hO (by decide) rfl
  exact poX (.head _) rfl hR (all_nil) (all_nil) (all_cons ⟨[s0], ⟨sE_V rfl, trivial⟩, (show fNj s0 hp from nj0 (by omega))⟩ (all_nil))
theorem rl589 : ruOk fFS gR589 := by
  intro r hp hO hN hH
  obtain ⟨s0, s1, rfl⟩ := len2 (show r.length = 2 from hN.1)
  have hR := hN.2.1.1
  have hIv : ∀ q ∈ ([(0, .ofNat 1, .ofNat 45), (1, .ofNat 0, .ofNat 20)] : sIv), ∃ x, ([s0, s1] : List Int)[q.1]? = some x ∧ q.2.1 ≤ x ∧ x ≤ q.2.2 := hN.2.1.2
  have b0 : (1 : Int) ≤ s0 ∧ s0 ≤ (45 : Int) := ivX (q := (0, .ofNat 1, .ofNat 45)) (y := s0) (hIv _ (.head _)) rfl
  have b1 : (0 : Int) ≤ s1 ∧ s1 ≤ (20 : Int) := ivX (q := (1, .ofNat 0, .ofNat 20)) (y := s1) (hIv _ (.tail _ (.head _))) rfl
  have hRf : ∀ q ∈ ([((78, .ofNat 273, []), (.ofNat 50, []), 1, .ofNat 0, [(.ofNat 1, 0)]), ((92, .ofNat 287, []), (.negSucc 0, [(.ofNat 1, 0)]), 1, .ofNat 0, [(.ofNat 1, 1)])] : List sRf), rfOk [s0, s1] hp q := hH.1
  have h0 : hI hp 273 50 = s0 := rfI0 (hRf _ (.head _)) (sE_k _ _) (sE_k _ _) (sE_V rfl)
  have y0 : (0 : Int) ≤ s0 ∧ s0 ≤ (45 : Int) := by rw [← h0]; exact hI_ty hO (by decide) rfl
  obtain ⟨i1, e1, l1, h1⟩ := rfI (xv := s1) (iv := (s0 - 1)) (hRf _ (.tail _ (.head _))) (sE_k _ _) (sEv (y' := ((-1 : Int) + ((1 : Int) * s0 + 0))) rfl (by omega)) (sE_V rfl)
  have l1 : i1 < 45 := l1
  have h1 : hI hp 287 i1 = s1 := h1
  exact poX (.head _) rfl hR (all_nil) (all_nil) (all_cons ⟨[s0], ⟨sE_V rfl, trivial⟩, (show fNj s0 hp from nj_of h1 (by omega) (by omega) (by omega))⟩ (all_nil))
theorem rl590 : ruOk fFS gR590 := by
  intro r hp hO hN hH
  obtain ⟨s0, s1, rfl⟩ := len2 (show r.length = 2 from hN.1)
  have hR := hN.2.1.1
  have hIv : ∀ q ∈ ([(0, .ofNat 1, .ofNat 45), (1, .ofNat 23, .ofNat 23)] : sIv), ∃ x, ([s0, s1] : List Int)[q.1]? = some x ∧ q.2.1 ≤ x ∧ x ≤ q.2.2 := hN.2.1.2
  have b0 : (1 : Int) ≤ s0 ∧ s0 ≤ (45 : Int) := ivX (q := (0, .ofNat 1, .ofNat 45)) (y := s0) (hIv _ (.head _)) rfl
  have b1 : (23 : Int) ≤ s1 ∧ s1 ≤ (23 : Int) := ivX (q := (1, .ofNat 23, .ofNat 23)) (y := s1) (hIv _ (.tail _ (.head _))) rfl
  have hRf : ∀ q ∈ ([((78, .ofNat 273, []), (.ofNat 50, []), 1, .ofNat 0, [(.ofNat 1, 0)]), ((92, .ofNat 287, []), (.negSucc 0, [(.ofNat 1, 0)]), 1, .ofNat 0, [(.ofNat 1, 1)])] : List sRf), rfOk [s0, s1] hp q := hH.1
  have h0 : hI hp 273 50 = s0 := rfI0 (hRf _ (.head _)) (sE_k _ _) (sE_k _ _) (sE_V rfl)
  have y0 : (0 : Int) ≤ s0 ∧ s0 ≤ (45 : Int) := by rw [← h0]; exact hI_ty hO (by decide) rfl
  obtain ⟨i1, e1, l1, h1⟩ := rfI (xv := s1) (iv := (s0 - 1)) (hRf _ (.tail _ (.head _))) (sE_k _ _) (sEv (y' := ((-1 : Int) + ((1 : Int) * s0 + 0))) rfl (by omega)) (sE_V rfl)
  have l1 : i1 < 45 := l1
  have h1 : hI hp 287 i1 = s1 := h1
  exact poX (.head _) rfl hR (all_nil) (all_nil) (all_cons ⟨[s0], ⟨sE_V rfl, trivial⟩, (show fNj s0 hp from nj_of h1 (by omega) (by omega) (by omega))⟩ (all_nil))
theorem rl591 : ruOk fFS gR591 := by
  intro r hp hO hN hH
  obtain ⟨s0, s1, s2, rfl⟩ := len3 (show r.length = 3 from hN.1)
  have hR := hN.2.1.1
  have hIv : ∀ q ∈ ([(0, .ofNat 1, .ofNat 45), (1, .ofNat 21, .ofNat 22), (2, .negSucc 2147483647, .ofNat 2147483647)] : sIv), ∃ x, ([s0, s1, s2] : List Int)[q.1]? = some x ∧ q.2.1 ≤ x ∧ x ≤ q.2.2 := hN.2.1.2
  have b0 : (1 : Int) ≤ s0 ∧ s0 ≤ (45 : Int) := ivX (q := (0, .ofNat 1, .ofNat 45)) (y := s0) (hIv _ (.head _)) rfl
  have b1 : (21 : Int) ≤ s1 ∧ s1 ≤ (22 : Int) := ivX (q := (1, .ofNat 21, .ofNat 22)) (y := s1) (hIv _ (.tail _ (.head _))) rfl
  have b2 : (-2147483648 : Int) ≤ s2 ∧ s2 ≤ (2147483647 : Int) := ivX (q := (2, .negSucc 2147483647, .ofNat 2147483647)) (y := s2) (hIv _ (.tail _ (.tail _ (.head _)))) rfl
  have hRf : ∀ q ∈ ([((78, .ofNat 273, []), (.ofNat 50, []), 1, .ofNat 0, [(.ofNat 1, 0)]), ((92, .ofNat 287, []), (.negSucc 0, [(.ofNat 1, 0)]), 1, .ofNat 0, [(.ofNat 1, 1)])] : List sRf), rfOk [s0, s1, s2] hp q := hH.1
  have h0 : hI hp 273 50 = s0 := rfI0 (hRf _ (.head _)) (sE_k _ _) (sE_k _ _) (sE_V rfl)
  have y0 : (0 : Int) ≤ s0 ∧ s0 ≤ (45 : Int) := by rw [← h0]; exact hI_ty hO (by decide) rfl
  obtain ⟨i1, e1, l1, h1⟩ := rfI (xv := s1) (iv := (s0 - 1)) (hRf _ (.tail _ (.head _))) (sE_k _ _) (sEv (y' := ((-1 : Int) + ((1 : Int) * s0 + 0))) rfl (by omega)) (sE_V rfl)
  have l1 : i1 < 45 := l1
  have h1 : hI hp 287 i1 = s1 := h1
  have hFc : ∀ q ∈ ([(15, [(.ofNat 0, [(.ofNat 1, 0)]), (.ofNat 0, [(.ofNat 1, 2)])])] : List sFc), fcOk fFS [s0, s1, s2] hp q := hH.2
  have f0 : fStk s0 s2 hp := fcX (ys := [s0, s2]) (hFc _ (.head _)) ⟨sE_V rfl, sE_V rfl, trivial⟩
  obtain ⟨v, v1, v2, v3, v4⟩ := stk_pop f0 h1 (by omega)
  exact poX (.head _) rfl hR (all_cons (ivO (y := s2) rfl (show (1 : Int) ≤ s2 by omega) (show s2 ≤ (45 : Int) by omega)) (all_nil)) (all_nil) (all_cons ⟨[(s0 - 1), (s2 - 1)], ⟨sEv (y' := ((-1 : Int) + ((1 : Int) * s0 + 0))) rfl (by omega), sEv (y' := ((-1 : Int) + ((1 : Int) * s2 + 0))) rfl (by omega), trivial⟩, (show fStk (s0 - 1) (s2 - 1) hp from stk_cg v1 (by omega) (by omega))⟩ (all_nil))
theorem rl592 : ruOk fFS gR592 := by
  intro r hp hO hN hH
  obtain ⟨s0, s1, s2, rfl⟩ := len3 (show r.length = 3 from hN.1)
  have hR := hN.2.1.1
  have hIv : ∀ q ∈ ([(0, .ofNat 0, .ofNat 44), (1, .ofNat 21, .ofNat 22), (2, .negSucc 2147483647, .ofNat 2147483647)] : sIv), ∃ x, ([s0, s1, s2] : List Int)[q.1]? = some x ∧ q.2.1 ≤ x ∧ x ≤ q.2.2 := hN.2.1.2
  have b0 : (0 : Int) ≤ s0 ∧ s0 ≤ (44 : Int) := ivX (q := (0, .ofNat 0, .ofNat 44)) (y := s0) (hIv _ (.head _)) rfl
  have b1 : (21 : Int) ≤ s1 ∧ s1 ≤ (22 : Int) := ivX (q := (1, .ofNat 21, .ofNat 22)) (y := s1) (hIv _ (.tail _ (.head _))) rfl
  have hRf : ∀ q ∈ ([((78, .ofNat 273, []), (.ofNat 50, []), 1, .ofNat 0, [(.ofNat 1, 0)]), ((92, .ofNat 287, []), (.ofNat 0, [(.ofNat 1, 0)]), 1, .ofNat 0, [(.ofNat 1, 1)])] : List sRf), rfOk [s0, s1, s2] hp q := hH.1
  have h0 : hI hp 273 50 = s0 := rfI0 (hRf _ (.head _)) (sE_k _ _) (sE_k _ _) (sE_V rfl)
  have y0 : (0 : Int) ≤ s0 ∧ s0 ≤ (45 : Int) := by rw [← h0]; exact hI_ty hO (by decide) rfl
  obtain ⟨i1, e1, l1, h1⟩ := rfI (xv := s1) (iv := s0) (hRf _ (.tail _ (.head _))) (sE_k _ _) (sE_V rfl) (sE_V rfl)
  have l1 : i1 < 45 := l1
  have h1 : hI hp 287 i1 = s1 := h1
  have hFc : ∀ q ∈ ([(15, [(.ofNat 0, [(.ofNat 1, 0)]), (.ofNat 0, [(.ofNat 1, 2)])])] : List sFc), fcOk fFS [s0, s1, s2] hp q := hH.2
  have f0 : fStk s0 s2 hp := fcX (ys := [s0, s2]) (hFc _ (.head _)) ⟨sE_V rfl, sE_V rfl, trivial⟩
  exact poX (.head _) rfl hR (all_nil) (all_nil) (all_cons ⟨[(s0 + 1), (s2 + 1)], ⟨sEv (y' := ((1 : Int) + ((1 : Int) * s0 + 0))) rfl (by omega), sEv (y' := ((1 : Int) + ((1 : Int) * s2 + 0))) rfl (by omega), trivial⟩, (show fStk (s0 + 1) (s2 + 1) hp from stk_psh f0 h1 (by omega) (by omega) (by omega) (by omega))⟩ (all_nil))
theorem rl593 : ruOk fFS gR593 := by
  intro r hp hO hN hH
  obtain ⟨s0, s1, rfl⟩ := len2 (show r.length = 2 from hN.1)
  have hR := hN.2.1.1
  have hIv : ∀ q ∈ ([(0, .ofNat 1, .ofNat 45), (1, .negSucc 2147483647, .ofNat 2147483647)] : sIv), ∃ x, ([s0, s1] : List Int)[q.1]? = some x ∧ q.2.1 ≤ x ∧ x ≤ q.2.2 := hN.2.1.2
  have b0 : (1 : Int) ≤ s0 ∧ s0 ≤ (45 : Int) := ivX (q := (0, .ofNat 1, .ofNat 45)) (y := s0) (hIv _ (.head _)) rfl
  have hRf : ∀ q ∈ ([((78, .ofNat 273, []), (.ofNat 50, []), 1, .ofNat 0, [(.ofNat 1, 0)])] : List sRf), rfOk [s0, s1] hp q := hH.1
  have h0 : hI hp 273 50 = s0 := rfI0 (hRf _ (.head _)) (sE_k _ _) (sE_k _ _) (sE_V rfl)
  have y0 : (0 : Int) ≤ s0 ∧ s0 ≤ (45 : Int) := by rw [← h0]; exact hI_ty hO (by decide) rfl
  have hFc : ∀ q ∈ ([(15, [(.ofNat 0, [(.ofNat 1, 0)]), (.ofNat 0, [(.ofNat 1, 1)])]), (23, [(.ofNat 0, [(.ofNat 1, 0)])])] : List sFc), fcOk fFS [s0, s1] hp q := hH.2
  have f0 : fStk s0 s1 hp := fcX (ys := [s0, s1]) (hFc _ (.head _)) ⟨sE_V rfl, sE_V rfl, trivial⟩
  have f1 : fNj s0 hp := fcX (ys := [s0]) (hFc _ (.tail _ (.head _))) ⟨sE_V rfl, trivial⟩
  exact poX (.head _) rfl hR (all_nil) (all_nil) (all_cons ⟨[(s0 - 1), s1], ⟨sEv (y' := ((-1 : Int) + ((1 : Int) * s0 + 0))) rfl (by omega), sE_V rfl, trivial⟩, (show fStk (s0 - 1) s1 hp from stk_cg (stk_nj f0 f1 (by omega)) (by omega) (by omega))⟩ (all_nil))
theorem rl594 : ruOk fFS gR594 := by
  intro r hp hO hN hH
  obtain ⟨s0, rfl⟩ := len1 (show r.length = 1 from hN.1)
  have hR := hN.2.1.1
  have hIv : ∀ q ∈ ([(0, .negSucc 2147483647, .ofNat 2147483647)] : sIv), ∃ x, ([s0] : List Int)[q.1]? = some x ∧ q.2.1 ≤ x ∧ x ≤ q.2.2 := hN.2.1.2
  have b0 : (-2147483648 : Int) ≤ s0 ∧ s0 ≤ (2147483647 : Int) := ivX (q := (0, .negSucc 2147483647, .ofNat 2147483647)) (y := s0) (hIv _ (.head _)) rfl
  have hFc : ∀ q ∈ ([(15, [(.ofNat 0, []), (.ofNat 0, [(.ofNat 1, 0)])])] : List sFc), fcOk fFS [s0] hp q := hH.2
  have f0 : fStk 0 s0 hp := fcX (ys := [0, s0]) (hFc _ (.head _)) ⟨sE_k _ _, sE_V rfl, trivial⟩
  have u := stk_z' f0 (by omega)
  exact poX (.head _) rfl hR (all_cons (ivO (y := s0) rfl (show (0 : Int) ≤ s0 by omega) (show s0 ≤ (0 : Int) by omega)) (all_nil)) (all_nil) (all_nil)
theorem rl595 : ruOk fFS gR595 := by
  intro r hp hO hN hH
  have hr0 := len0 (show r.length = 0 from hN.1)
  subst hr0
  have hR := hN.2.1.1
  exact poX (.head _) rfl hR (all_nil) (all_nil) (all_cons ⟨[0], ⟨sE_k _ _, trivial⟩, (show fEq 275 691 277 0 160 0 hp from eq0 (by omega))⟩ (all_nil))
theorem rl596 : ruOk fFS gR596 := by
  intro r hp hO hN hH
  obtain ⟨s0, s1, rfl⟩ := len2 (show r.length = 2 from hN.1)
  have hR := hN.2.1.1
  have hIv : ∀ q ∈ ([(0, .ofNat 0, .ofNat 159), (1, .negSucc 2147483647, .ofNat 2147483647)] : sIv), ∃ x, ([s0, s1] : List Int)[q.1]? = some x ∧ q.2.1 ≤ x ∧ x ≤ q.2.2 := hN.2.1.2
  have b0 : (0 : Int) ≤ s0 ∧ s0 ≤ (159 : Int) := ivX (q := (0, .ofNat 0, .ofNat 159)) (y := s0) (hIv _ (.head _)) rfl
  have hRf : ∀ q ∈ ([((80, .ofNat 275, []), (.ofNat 691, [(.ofNat 1, 0)]), 1, .ofNat 0, [(.ofNat 1, 1)]), ((82, .ofNat 277, []), (.ofNat 0, [(.ofNat 1, 0)]), 1, .ofNat 0, [(.ofNat 1, 1)])] : List sRf), rfOk [s0, s1] hp q := hH.1
  obtain ⟨i0, e0, l0, h0⟩ := rfI (xv := s1) (iv := (s0 + 691)) (hRf _ (.head _)) (sE_k _ _) (sEv (y' := ((691 : Int) + ((1 : Int) * s0 + 0))) rfl (by omega)) (sE_V rfl)
  have l0 : i0 < 871 := l0
  have h0 : hI hp 275 i0 = s1 := h0
  obtain ⟨i1, e1, l1, h1⟩ := rfI (xv := s1) (iv := s0) (hRf _ (.tail _ (.head _))) (sE_k _ _) (sE_V rfl) (sE_V rfl)
  have l1 : i1 < 160 := l1
  have h1 : hI hp 277 i1 = s1 := h1
  have hFc : ∀ q ∈ ([(16, [(.ofNat 0, [(.ofNat 1, 0)])])] : List sFc), fcOk fFS [s0, s1] hp q := hH.2
  have f0 : fEq 275 691 277 0 160 s0 hp := fcX (ys := [s0]) (hFc _ (.head _)) ⟨sE_V rfl, trivial⟩
  exact poX (.head _) rfl hR (all_nil) (all_nil) (all_cons ⟨[(s0 + 1)], ⟨sEv (y' := ((1 : Int) + ((1 : Int) * s0 + 0))) rfl (by omega), trivial⟩, (show fEq 275 691 277 0 160 (s0 + 1) hp from eq_add f0 h0 h1 (by omega) (by omega) (by omega))⟩ (all_nil))
theorem rl597 : ruOk fFS gR597 := by
  intro r hp hO hN hH
  obtain ⟨s0, s1, rfl⟩ := len2 (show r.length = 2 from hN.1)
  have hR := hN.2.1.1
  have hIv : ∀ q ∈ ([(0, .negSucc 2147483647, .ofNat 2147483647), (1, .ofNat 0, .ofNat 53)] : sIv), ∃ x, ([s0, s1] : List Int)[q.1]? = some x ∧ q.2.1 ≤ x ∧ x ≤ q.2.2 := hN.2.1.2
  have b1 : (0 : Int) ≤ s1 ∧ s1 ≤ (53 : Int) := ivX (q := (1, .ofNat 0, .ofNat 53)) (y := s1) (hIv _ (.tail _ (.head _))) rfl
  have hCs : ∀ c ∈ ([(.ofNat 0, [(.negSucc 0, 0), (.ofNat 3, 1)])] : List sLn), ∃ x, sE [s0, s1] c = some x ∧ x ≤ 0 := hN.2.2.1
  have c0 : ((0 : Int) + ((-1 : Int) * s0 + ((3 : Int) * s1 + 0))) ≤ 0 := csX (hCs _ (.head _)) rfl
  have hRf : ∀ q ∈ ([((80, .ofNat 275, []), (.ofNat 690, []), 1, .ofNat 0, [(.ofNat 1, 1)]), ((78, .ofNat 273, []), (.ofNat 48, []), 1, .ofNat 0, [(.ofNat 1, 1)])] : List sRf), rfOk [s0, s1] hp q := hH.1
  have h0 : hI hp 275 690 = s1 := rfI0 (hRf _ (.head _)) (sE_k _ _) (sE_k _ _) (sE_V rfl)
  have y0 : (0 : Int) ≤ s1 ∧ s1 ≤ (53 : Int) := by rw [← h0]; exact hI_ty hO (by decide) rfl
  have h1 : hI hp 273 48 = s1 := rfI0 (hRf _ (.tail _ (.head _))) (sE_k _ _) (sE_k _ _) (sE_V rfl)
  have y1 : (0 : Int) ≤ s1 ∧ s1 ≤ (53 : Int) := by rw [← h1]; exact hI_ty hO (by decide) rfl
  have hFc : ∀ q ∈ ([(16, [(.ofNat 0, [(.ofNat 1, 0)])]), (14, [(.ofNat 0, [(.ofNat 1, 1)]), (.ofNat 1, [])])] : List sFc), fcOk fFS [s0, s1] hp q := hH.2
  have f0 : fEq 275 691 277 0 160 s0 hp := fcX (ys := [s0]) (hFc _ (.head _)) ⟨sE_V rfl, trivial⟩
  have f1 : fCode s1 1 hp := fcX (ys := [s1, 1]) (hFc _ (.tail _ (.head _))) ⟨sE_V rfl, sE_k _ _, trivial⟩
  exact poX (.head _) rfl hR (all_nil) (all_nil) (all_cons ⟨[], trivial, (show fPfs 275 690 hp from pfs_of h0 (by omega) f0 (by omega) f1)⟩ (all_nil))
theorem rl598 : ruOk fFS gR598 := by
  intro r hp hO hN hH
  have hr0 := len0 (show r.length = 0 from hN.1)
  subst hr0
  have hR := hN.2.1.1
  have hFc : ∀ q ∈ ([(12, [])] : List sFc), fcOk fFS [] hp q := hH.2
  have f0 : fPfs 275 690 hp := fcX (ys := []) (hFc _ (.head _)) trivial
  exact poX (.head _) rfl hR (all_nil) (all_nil) (all_cons ⟨[0, 0], ⟨sE_k _ _, sE_k _ _, trivial⟩, (show fDep 0 0 hp from dep0' f0 (by omega) (by omega))⟩ (all_nil))
theorem rl599 : ruOk fFS gR599 := by
  intro r hp hO hN hH
  obtain ⟨s0, s1, rfl⟩ := len2 (show r.length = 2 from hN.1)
  have hR := hN.2.1.1
  have hIv : ∀ q ∈ ([(0, .negSucc 2147483647, .ofNat 2147483647), (1, .negSucc 2147483647, .ofNat 2147483647)] : sIv), ∃ x, ([s0, s1] : List Int)[q.1]? = some x ∧ q.2.1 ≤ x ∧ x ≤ q.2.2 := hN.2.1.2
  have b1 : (-2147483648 : Int) ≤ s1 ∧ s1 ≤ (2147483647 : Int) := ivX (q := (1, .negSucc 2147483647, .ofNat 2147483647)) (y := s1) (hIv _ (.tail _ (.head _))) rfl
  have hRf : ∀ q ∈ ([((80, .ofNat 275, []), (.ofNat 691, [(.ofNat 3, 0)]), 1, .ofNat 0, [(.ofNat 1, 1)])] : List sRf), rfOk [s0, s1] hp q := hH.1
  obtain ⟨i0, e0, l0, h0⟩ := rfI (xv := s1) (iv := (3 * s0 + 691)) (hRf _ (.head _)) (sE_k _ _) (sEv (y' := ((691 : Int) + ((3 : Int) * s0 + 0))) rfl (by omega)) (sE_V rfl)
  have l0 : i0 < 871 := l0
  have h0 : hI hp 275 i0 = s1 := h0
  have y : (((-2147483648 : Int) ≤ s1 ∧ s1 ≤ (3 : Int))) ∨ (((4 : Int) ≤ s1 ∧ s1 ≤ (4 : Int))) ∨ (((5 : Int) ≤ s1 ∧ s1 ≤ (19 : Int))) ∨ (((20 : Int) ≤ s1 ∧ s1 ≤ (20 : Int))) ∨ (((21 : Int) ≤ s1 ∧ s1 ≤ (21 : Int))) ∨ (((22 : Int) ≤ s1 ∧ s1 ≤ (22 : Int))) ∨ (((23 : Int) ≤ s1 ∧ s1 ≤ (2147483647 : Int))) := by omega
  rcases y with y | y | y | y | y | y | y
  · exact poX (.head _) rfl hR (all_cons (ivO (y := s1) rfl (show (-2147483648 : Int) ≤ s1 by omega) (show s1 ≤ (3 : Int) by omega)) (all_nil)) (all_nil) (all_nil)
  · exact poX (.tail _ (.head _)) rfl hR (all_cons (ivO (y := s1) rfl (show (4 : Int) ≤ s1 by omega) (show s1 ≤ (4 : Int) by omega)) (all_nil)) (all_nil) (all_nil)
  · exact poX (.tail _ (.tail _ (.head _))) rfl hR (all_cons (ivO (y := s1) rfl (show (5 : Int) ≤ s1 by omega) (show s1 ≤ (19 : Int) by omega)) (all_nil)) (all_nil) (all_nil)
  · exact poX (.tail _ (.tail _ (.tail _ (.head _)))) rfl hR (all_cons (ivO (y := s1) rfl (show (20 : Int) ≤ s1 by omega) (show s1 ≤ (20 : Int) by omega)) (all_nil)) (all_nil) (all_nil)
  · exact poX (.tail _ (.tail _ (.tail _ (.tail _ (.head _))))) rfl hR (all_cons (ivO (y := s1) rfl (show (21 : Int) ≤ s1 by omega) (show s1 ≤ (21 : Int) by omega)) (all_nil)) (all_nil) (all_nil)
  · exact poX (.tail _ (.tail _ (.tail _ (.tail _ (.tail _ (.head _)))))) rfl hR (all_cons (ivO (y := s1) rfl (show (22 : Int) ≤ s1 by omega) (show s1 ≤ (22 : Int) by omega)) (all_nil)) (all_nil) (all_nil)
  · exact poX (.tail _ (.tail _ (.tail _ (.tail _ (.tail _ (.tail _ (.head _))))))) rfl hR (all_cons (ivO (y := s1) rfl (show (23 : Int) ≤ s1 by omega) (show s1 ≤ (2147483647 : Int) by omega)) (all_nil)) (all_nil) (all_nil)
theorem rl600 : ruOk fFS gR600 := by
  intro r hp hO hN hH
  obtain ⟨s0, s1, s2, s3, s4, rfl⟩ := len5 (show r.length = 5 from hN.1)
  have hR := hN.2.1.1
  have hIv : ∀ q ∈ ([(0, .negSucc 2147483647, .ofNat 2147483647), (1, .ofNat 0, .ofNat 52), (2, .negSucc 2147483647, .ofNat 2147483647), (3, .ofNat 20, .ofNat 20), (4, .negSucc 2147483647, .ofNat 2147483647)] : sIv), ∃ x, ([s0, s1, s2, s3, s4] : List Int)[q.1]? = some x ∧ q.2.1 ≤ x ∧ x ≤ q.2.2 := hN.2.1.2
  have b0 : (-2147483648 : Int) ≤ s0 ∧ s0 ≤ (2147483647 : Int) := ivX (q := (0, .negSucc 2147483647, .ofNat 2147483647)) (y := s0) (hIv _ (.head _)) rfl
  have b1 : (0 : Int) ≤ s1 ∧ s1 ≤ (52 : Int) := ivX (q := (1, .ofNat 0, .ofNat 52)) (y := s1) (hIv _ (.tail _ (.head _))) rfl
  have b3 : (20 : Int) ≤ s3 ∧ s3 ≤ (20 : Int) := ivX (q := (3, .ofNat 20, .ofNat 20)) (y := s3) (hIv _ (.tail _ (.tail _ (.tail _ (.head _))))) rfl
  have hCs : ∀ c ∈ ([(.ofNat 1, [(.ofNat 1, 1), (.negSucc 0, 2)])] : List sLn), ∃ x, sE [s0, s1, s2, s3, s4] c = some x ∧ x ≤ 0 := hN.2.2.1
  have c0 : ((1 : Int) + ((1 : Int) * s1 + ((-1 : Int) * s2 + 0))) ≤ 0 := csX (hCs _ (.head _)) rfl
  have hRf : ∀ q ∈ ([((80, .ofNat 275, []), (.ofNat 690, []), 1, .ofNat 0, [(.ofNat 1, 2)]), ((80, .ofNat 275, []), (.ofNat 691, [(.ofNat 3, 1)]), 1, .ofNat 0, [(.ofNat 1, 3)]), ((80, .ofNat 275, []), (.ofNat 693, [(.ofNat 3, 1)]), 1, .ofNat 0, [(.ofNat 1, 4)])] : List sRf), rfOk [s0, s1, s2, s3, s4] hp q := hH.1
  have h0 : hI hp 275 690 = s2 := rfI0 (hRf _ (.head _)) (sE_k _ _) (sE_k _ _) (sE_V rfl)
  have y0 : (0 : Int) ≤ s2 ∧ s2 ≤ (53 : Int) := by rw [← h0]; exact hI_ty hO (by decide) rfl
  obtain ⟨i1, e1, l1, h1⟩ := rfI (xv := s3) (iv := (3 * s1 + 691)) (hRf _ (.tail _ (.head _))) (sE_k _ _) (sEv (y' := ((691 : Int) + ((3 : Int) * s1 + 0))) rfl (by omega)) (sE_V rfl)
  have l1 : i1 < 871 := l1
  have h1 : hI hp 275 i1 = s3 := h1
  obtain ⟨i2, e2, l2, h2⟩ := rfI (xv := s4) (iv := (3 * s1 + 693)) (hRf _ (.tail _ (.tail _ (.head _)))) (sE_k _ _) (sEv (y' := ((693 : Int) + ((3 : Int) * s1 + 0))) rfl (by omega)) (sE_V rfl)
  have l2 : i2 < 871 := l2
  have h2 : hI hp 275 i2 = s4 := h2
  have hFc : ∀ q ∈ ([(13, [(.ofNat 0, [(.ofNat 1, 1)]), (.ofNat 0, [(.ofNat 1, 0)])])] : List sFc), fcOk fFS [s0, s1, s2, s3, s4] hp q := hH.2
  have f0 : fDep s1 s0 hp := fcX (ys := [s1, s0]) (hFc _ (.head _)) ⟨sE_V rfl, sE_V rfl, trivial⟩
  obtain ⟨d, u, u2⟩ := dep_use f0 h0 (by omega) h1 h2 (by omega) (by omega)
  unfold stC at u
  exact poX (.head _) rfl hR (all_cons (ivO (y := s0) rfl (show (1 : Int) ≤ s0 by omega) (show s0 ≤ (20 : Int) by omega)) (all_nil)) (all_nil) (all_cons ⟨[(s1 + 1), s0], ⟨sEv (y' := ((1 : Int) + ((1 : Int) * s1 + 0))) rfl (by omega), sE_V rfl, trivial⟩, (show fDep (s1 + 1) s0 hp from dep_cg u2 (by omega) (by omega))⟩ (all_nil))
theorem rl601 : ruOk fFS gR601 := by
  intro r hp hO hN hH
  obtain ⟨s0, s1, s2, s3, s4, rfl⟩ := len5 (show r.length = 5 from hN.1)
  have hR := hN.2.1.1
  have hIv : ∀ q ∈ ([(0, .negSucc 2147483647, .ofNat 2147483647), (1, .ofNat 0, .ofNat 52), (2, .negSucc 2147483647, .ofNat 2147483647), (3, .ofNat 21, .ofNat 22), (4, .negSucc 2147483647, .ofNat 2147483647)] : sIv), ∃ x, ([s0, s1, s2, s3, s4] : List Int)[q.1]? = some x ∧ q.2.1 ≤ x ∧ x ≤ q.2.2 := hN.2.1.2
  have b0 : (-2147483648 : Int) ≤ s0 ∧ s0 ≤ (2147483647 : Int) := ivX (q := (0, .negSucc 2147483647, .ofNat 2147483647)) (y := s0) (hIv _ (.head _)) rfl
  have b1 : (0 : Int) ≤ s1 ∧ s1 ≤ (52 : Int) := ivX (q := (1, .ofNat 0, .ofNat 52)) (y := s1) (hIv _ (.tail _ (.head _))) rfl
  have b3 : (21 : Int) ≤ s3 ∧ s3 ≤ (22 : Int) := ivX (q := (3, .ofNat 21, .ofNat 22)) (y := s3) (hIv _ (.tail _ (.tail _ (.tail _ (.head _))))) rfl
  have hCs : ∀ c ∈ ([(.ofNat 1, [(.ofNat 1, 1), (.negSucc 0, 2)])] : List sLn), ∃ x, sE [s0, s1, s2, s3, s4] c = some x ∧ x ≤ 0 := hN.2.2.1
  have c0 : ((1 : Int) + ((1 : Int) * s1 + ((-1 : Int) * s2 + 0))) ≤ 0 := csX (hCs _ (.head _)) rfl
  have hRf : ∀ q ∈ ([((80, .ofNat 275, []), (.ofNat 690, []), 1, .ofNat 0, [(.ofNat 1, 2)]), ((80, .ofNat 275, []), (.ofNat 691, [(.ofNat 3, 1)]), 1, .ofNat 0, [(.ofNat 1, 3)]), ((80, .ofNat 275, []), (.ofNat 693, [(.ofNat 3, 1)]), 1, .ofNat 0, [(.ofNat 1, 4)])] : List sRf), rfOk [s0, s1, s2, s3, s4] hp q := hH.1
  have h0 : hI hp 275 690 = s2 := rfI0 (hRf _ (.head _)) (sE_k _ _) (sE_k _ _) (sE_V rfl)
  have y0 : (0 : Int) ≤ s2 ∧ s2 ≤ (53 : Int) := by rw [← h0]; exact hI_ty hO (by decide) rfl
  obtain ⟨i1, e1, l1, h1⟩ := rfI (xv := s3) (iv := (3 * s1 + 691)) (hRf _ (.tail _ (.head _))) (sE_k _ _) (sEv (y' := ((691 : Int) + ((3 : Int) * s1 + 0))) rfl (by omega)) (sE_V rfl)
  have l1 : i1 < 871 := l1
  have h1 : hI hp 275 i1 = s3 := h1
  obtain ⟨i2, e2, l2, h2⟩ := rfI (xv := s4) (iv := (3 * s1 + 693)) (hRf _ (.tail _ (.tail _ (.head _)))) (sE_k _ _) (sEv (y' := ((693 : Int) + ((3 : Int) * s1 + 0))) rfl (by omega)) (sE_V rfl)
  have l2 : i2 < 871 := l2
  have h2 : hI hp 275 i2 = s4 := h2
  have hFc : ∀ q ∈ ([(13, [(.ofNat 0, [(.ofNat 1, 1)]), (.ofNat 0, [(.ofNat 1, 0)])])] : List sFc), fcOk fFS [s0, s1, s2, s3, s4] hp q := hH.2
  have f0 : fDep s1 s0 hp := fcX (ys := [s1, s0]) (hFc _ (.head _)) ⟨sE_V rfl, sE_V rfl, trivial⟩
  obtain ⟨d, u, u2⟩ := dep_use f0 h0 (by omega) h1 h2 (by omega) (by omega)
  unfold stC at u
  exact poX (.head _) rfl hR (all_cons (ivO (y := s0) rfl (show (2 : Int) ≤ s0 by omega) (show s0 ≤ (20 : Int) by omega)) (all_nil)) (all_nil) (all_cons ⟨[(s1 + 1), (s0 - 1)], ⟨sEv (y' := ((1 : Int) + ((1 : Int) * s1 + 0))) rfl (by omega), sEv (y' := ((-1 : Int) + ((1 : Int) * s0 + 0))) rfl (by omega), trivial⟩, (show fDep (s1 + 1) (s0 - 1) hp from dep_cg u2 (by omega) (by omega))⟩ (all_nil))
theorem rl602 : ruOk fFS gR602 := by
  intro r hp hO hN hH
  obtain ⟨s0, s1, s2, s3, s4, rfl⟩ := len5 (show r.length = 5 from hN.1)
  have hR := hN.2.1.1
  have hIv : ∀ q ∈ ([(0, .negSucc 2147483647, .ofNat 2147483647), (1, .ofNat 0, .ofNat 52), (2, .negSucc 2147483647, .ofNat 2147483647), (3, .ofNat 4, .ofNat 4), (4, .negSucc 2147483647, .ofNat 2147483647)] : sIv), ∃ x, ([s0, s1, s2, s3, s4] : List Int)[q.1]? = some x ∧ q.2.1 ≤ x ∧ x ≤ q.2.2 := hN.2.1.2
  have b0 : (-2147483648 : Int) ≤ s0 ∧ s0 ≤ (2147483647 : Int) := ivX (q := (0, .negSucc 2147483647, .ofNat 2147483647)) (y := s0) (hIv _ (.head _)) rfl
  have b1 : (0 : Int) ≤ s1 ∧ s1 ≤ (52 : Int) := ivX (q := (1, .ofNat 0, .ofNat 52)) (y := s1) (hIv _ (.tail _ (.head _))) rfl
  have b3 : (4 : Int) ≤ s3 ∧ s3 ≤ (4 : Int) := ivX (q := (3, .ofNat 4, .ofNat 4)) (y := s3) (hIv _ (.tail _ (.tail _ (.tail _ (.head _))))) rfl
  have b4 : (-2147483648 : Int) ≤ s4 ∧ s4 ≤ (2147483647 : Int) := ivX (q := (4, .negSucc 2147483647, .ofNat 2147483647)) (y := s4) (hIv _ (.tail _ (.tail _ (.tail _ (.tail _ (.head _)))))) rfl
  have hCs : ∀ c ∈ ([(.ofNat 1, [(.ofNat 1, 1), (.negSucc 0, 2)])] : List sLn), ∃ x, sE [s0, s1, s2, s3, s4] c = some x ∧ x ≤ 0 := hN.2.2.1
  have c0 : ((1 : Int) + ((1 : Int) * s1 + ((-1 : Int) * s2 + 0))) ≤ 0 := csX (hCs _ (.head _)) rfl
  have hRf : ∀ q ∈ ([((80, .ofNat 275, []), (.ofNat 690, []), 1, .ofNat 0, [(.ofNat 1, 2)]), ((80, .ofNat 275, []), (.ofNat 691, [(.ofNat 3, 1)]), 1, .ofNat 0, [(.ofNat 1, 3)]), ((80, .ofNat 275, []), (.ofNat 693, [(.ofNat 3, 1)]), 1, .ofNat 0, [(.ofNat 1, 4)])] : List sRf), rfOk [s0, s1, s2, s3, s4] hp q := hH.1
  have h0 : hI hp 275 690 = s2 := rfI0 (hRf _ (.head _)) (sE_k _ _) (sE_k _ _) (sE_V rfl)
  have y0 : (0 : Int) ≤ s2 ∧ s2 ≤ (53 : Int) := by rw [← h0]; exact hI_ty hO (by decide) rfl
  obtain ⟨i1, e1, l1, h1⟩ := rfI (xv := s3) (iv := (3 * s1 + 691)) (hRf _ (.tail _ (.head _))) (sE_k _ _) (sEv (y' := ((691 : Int) + ((3 : Int) * s1 + 0))) rfl (by omega)) (sE_V rfl)
  have l1 : i1 < 871 := l1
  have h1 : hI hp 275 i1 = s3 := h1
  obtain ⟨i2, e2, l2, h2⟩ := rfI (xv := s4) (iv := (3 * s1 + 693)) (hRf _ (.tail _ (.tail _ (.head _)))) (sE_k _ _) (sEv (y' := ((693 : Int) + ((3 : Int) * s1 + 0))) rfl (by omega)) (sE_V rfl)
  have l2 : i2 < 871 := l2
  have h2 : hI hp 275 i2 = s4 := h2
  have hFc : ∀ q ∈ ([(13, [(.ofNat 0, [(.ofNat 1, 1)]), (.ofNat 0, [(.ofNat 1, 0)])])] : List sFc), fcOk fFS [s0, s1, s2, s3, s4] hp q := hH.2
  have f0 : fDep s1 s0 hp := fcX (ys := [s1, s0]) (hFc _ (.head _)) ⟨sE_V rfl, sE_V rfl, trivial⟩
  obtain ⟨d, u, u2⟩ := dep_use f0 h0 (by omega) h1 h2 (by omega) (by omega)
  unfold stC at u
  exact poX (.head _) rfl hR (all_cons (ivO (y := s0) rfl (show (0 : Int) ≤ s0 by omega) (show s0 ≤ (19 : Int) by omega)) (all_cons (ivO (y := s4) rfl (show (0 : Int) ≤ s4 by omega) (show s4 ≤ (2 : Int) by omega)) (all_nil))) (all_nil) (all_cons ⟨[(s1 + 1), (s0 + 1)], ⟨sEv (y' := ((1 : Int) + ((1 : Int) * s1 + 0))) rfl (by omega), sEv (y' := ((1 : Int) + ((1 : Int) * s0 + 0))) rfl (by omega), trivial⟩, (show fDep (s1 + 1) (s0 + 1) hp from dep_cg u2 (by omega) (by omega))⟩ (all_nil))
theorem rl603 : ruOk fFS gR603 := by
  intro r hp hO hN hH
  obtain ⟨s0, s1, s2, s3, s4, rfl⟩ := len5 (show r.length = 5 from hN.1)
  have hR := hN.2.1.1
  have hIv : ∀ q ∈ ([(0, .negSucc 2147483647, .ofNat 2147483647), (1, .ofNat 0, .ofNat 52), (2, .negSucc 2147483647, .ofNat 2147483647), (3, .negSucc 2147483647, .ofNat 19), (4, .negSucc 2147483647, .ofNat 2147483647)] : sIv), ∃ x, ([s0, s1, s2, s3, s4] : List Int)[q.1]? = some x ∧ q.2.1 ≤ x ∧ x ≤ q.2.2 := hN.2.1.2
  have b0 : (-2147483648 : Int) ≤ s0 ∧ s0 ≤ (2147483647 : Int) := ivX (q := (0, .negSucc 2147483647, .ofNat 2147483647)) (y := s0) (hIv _ (.head _)) rfl
  have b1 : (0 : Int) ≤ s1 ∧ s1 ≤ (52 : Int) := ivX (q := (1, .ofNat 0, .ofNat 52)) (y := s1) (hIv _ (.tail _ (.head _))) rfl
  have b3 : (-2147483648 : Int) ≤ s3 ∧ s3 ≤ (19 : Int) := ivX (q := (3, .negSucc 2147483647, .ofNat 19)) (y := s3) (hIv _ (.tail _ (.tail _ (.tail _ (.head _))))) rfl
  have hCs : ∀ c ∈ ([(.ofNat 1, [(.ofNat 1, 1), (.negSucc 0, 2)])] : List sLn), ∃ x, sE [s0, s1, s2, s3, s4] c = some x ∧ x ≤ 0 := hN.2.2.1
  have c0 : ((1 : Int) + ((1 : Int) * s1 + ((-1 : Int) * s2 + 0))) ≤ 0 := csX (hCs _ (.head _)) rfl
  have hRf : ∀ q ∈ ([((80, .ofNat 275, []), (.ofNat 690, []), 1, .ofNat 0, [(.ofNat 1, 2)]), ((80, .ofNat 275, []), (.ofNat 691, [(.ofNat 3, 1)]), 1, .ofNat 0, [(.ofNat 1, 3)]), ((80, .ofNat 275, []), (.ofNat 693, [(.ofNat 3, 1)]), 1, .ofNat 0, [(.ofNat 1, 4)])] : List sRf), rfOk [s0, s1, s2, s3, s4] hp q := hH.1
  have h0 : hI hp 275 690 = s2 := rfI0 (hRf _ (.head _)) (sE_k _ _) (sE_k _ _) (sE_V rfl)
  have y0 : (0 : Int) ≤ s2 ∧ s2 ≤ (53 : Int) := by rw [← h0]; exact hI_ty hO (by decide) rfl
  obtain ⟨i1, e1, l1, h1⟩ := rfI (xv := s3) (iv := (3 * s1 + 691)) (hRf _ (.tail _ (.head _))) (sE_k _ _) (sEv (y' := ((691 : Int) + ((3 : Int) * s1 + 0))) rfl (by omega)) (sE_V rfl)
  have l1 : i1 < 871 := l1
  have h1 : hI hp 275 i1 = s3 := h1
  obtain ⟨i2, e2, l2, h2⟩ := rfI (xv := s4) (iv := (3 * s1 + 693)) (hRf _ (.tail _ (.tail _ (.head _)))) (sE_k _ _) (sEv (y' := ((693 : Int) + ((3 : Int) * s1 + 0))) rfl (by omega)) (sE_V rfl)
  have l2 : i2 < 871 := l2
  have h2 : hI hp 275 i2 = s4 := h2
  have hFc : ∀ q ∈ ([(13, [(.ofNat 0, [(.ofNat 1, 1)]), (.ofNat 0, [(.ofNat 1, 0)])])] : List sFc), fcOk fFS [s0, s1, s2, s3, s4] hp q := hH.2
  have f0 : fDep s1 s0 hp := fcX (ys := [s1, s0]) (hFc _ (.head _)) ⟨sE_V rfl, sE_V rfl, trivial⟩
  obtain ⟨d, u, u2⟩ := dep_use f0 h0 (by omega) h1 h2 (by omega) (by omega)
  unfold stC at u
  exact poX (.head _) rfl hR (all_cons (ivO (y := s0) rfl (show (0 : Int) ≤ s0 by omega) (show s0 ≤ (19 : Int) by omega)) (all_nil)) (all_nil) (all_cons ⟨[(s1 + 1), (s0 + 1)], ⟨sEv (y' := ((1 : Int) + ((1 : Int) * s1 + 0))) rfl (by omega), sEv (y' := ((1 : Int) + ((1 : Int) * s0 + 0))) rfl (by omega), trivial⟩, (show fDep (s1 + 1) (s0 + 1) hp from dep_cg u2 (by omega) (by omega))⟩ (all_nil))
theorem rl604 : ruOk fFS gR604 := by
  intro r hp hO hN hH
  obtain ⟨s0, s1, s2, s3, s4, rfl⟩ := len5 (show r.length = 5 from hN.1)
  have hR := hN.2.1.1
  have hIv : ∀ q ∈ ([(0, .negSucc 2147483647, .ofNat 2147483647), (1, .ofNat 0, .ofNat 52), (2, .negSucc 2147483647, .ofNat 2147483647), (3, .ofNat 23, .ofNat 2147483647), (4, .negSucc 2147483647, .ofNat 2147483647)] : sIv), ∃ x, ([s0, s1, s2, s3, s4] : List Int)[q.1]? = some x ∧ q.2.1 ≤ x ∧ x ≤ q.2.2 := hN.2.1.2
  have b0 : (-2147483648 : Int) ≤ s0 ∧ s0 ≤ (2147483647 : Int) := ivX (q := (0, .negSucc 2147483647, .ofNat 2147483647)) (y := s0) (hIv _ (.head _)) rfl
  have b1 : (0 : Int) ≤ s1 ∧ s1 ≤ (52 : Int) := ivX (q := (1, .ofNat 0, .ofNat 52)) (y := s1) (hIv _ (.tail _ (.head _))) rfl
  have b3 : (23 : Int) ≤ s3 ∧ s3 ≤ (2147483647 : Int) := ivX (q := (3, .ofNat 23, .ofNat 2147483647)) (y := s3) (hIv _ (.tail _ (.tail _ (.tail _ (.head _))))) rfl
  have hCs : ∀ c ∈ ([(.ofNat 1, [(.ofNat 1, 1), (.negSucc 0, 2)])] : List sLn), ∃ x, sE [s0, s1, s2, s3, s4] c = some x ∧ x ≤ 0 := hN.2.2.1
  have c0 : ((1 : Int) + ((1 : Int) * s1 + ((-1 : Int) * s2 + 0))) ≤ 0 := csX (hCs _ (.head _)) rfl
  have hRf : ∀ q ∈ ([((80, .ofNat 275, []), (.ofNat 690, []), 1, .ofNat 0, [(.ofNat 1, 2)]), ((80, .ofNat 275, []), (.ofNat 691, [(.ofNat 3, 1)]), 1, .ofNat 0, [(.ofNat 1, 3)]), ((80, .ofNat 275, []), (.ofNat 693, [(.ofNat 3, 1)]), 1, .ofNat 0, [(.ofNat 1, 4)])] : List sRf), rfOk [s0, s1, s2, s3, s4] hp q := hH.1
  have h0 : hI hp 275 690 = s2 := rfI0 (hRf _ (.head _)) (sE_k _ _) (sE_k _ _) (sE_V rfl)
  have y0 : (0 : Int) ≤ s2 ∧ s2 ≤ (53 : Int) := by rw [← h0]; exact hI_ty hO (by decide) rfl
  obtain ⟨i1, e1, l1, h1⟩ := rfI (xv := s3) (iv := (3 * s1 + 691)) (hRf _ (.tail _ (.head _))) (sE_k _ _) (sEv (y' := ((691 : Int) + ((3 : Int) * s1 + 0))) rfl (by omega)) (sE_V rfl)
  have l1 : i1 < 871 := l1
  have h1 : hI hp 275 i1 = s3 := h1
  obtain ⟨i2, e2, l2, h2⟩ := rfI (xv := s4) (iv := (3 * s1 + 693)) (hRf _ (.tail _ (.tail _ (.head _)))) (sE_k _ _) (sEv (y' := ((693 : Int) + ((3 : Int) * s1 + 0))) rfl (by omega)) (sE_V rfl)
  have l2 : i2 < 871 := l2
  have h2 : hI hp 275 i2 = s4 := h2
  have hFc : ∀ q ∈ ([(13, [(.ofNat 0, [(.ofNat 1, 1)]), (.ofNat 0, [(.ofNat 1, 0)])])] : List sFc), fcOk fFS [s0, s1, s2, s3, s4] hp q := hH.2
  have f0 : fDep s1 s0 hp := fcX (ys := [s1, s0]) (hFc _ (.head _)) ⟨sE_V rfl, sE_V rfl, trivial⟩
  obtain ⟨d, u, u2⟩ := dep_use f0 h0 (by omega) h1 h2 (by omega) (by omega)
  unfold stC at u
  exact poX (.head _) rfl hR (all_cons (ivO (y := s0) rfl (show (0 : Int) ≤ s0 by omega) (show s0 ≤ (19 : Int) by omega)) (all_nil)) (all_nil) (all_cons ⟨[(s1 + 1), (s0 + 1)], ⟨sEv (y' := ((1 : Int) + ((1 : Int) * s1 + 0))) rfl (by omega), sEv (y' := ((1 : Int) + ((1 : Int) * s0 + 0))) rfl (by omega), trivial⟩, (show fDep (s1 + 1) (s0 + 1) hp from dep_cg u2 (by omega) (by omega))⟩ (all_nil))
theorem rl605 : ruOk fFS gR605 := by
  intro r hp hO hN hH
  have hr0 := len0 (show r.length = 0 from hN.1)
  subst hr0
  have hR := hN.2.1.1
  exact poX (.head _) rfl hR (all_nil) (all_nil) (all_cons ⟨[0], ⟨sE_k _ _, trivial⟩, (show fEq 289 0 275 0 871 0 hp from eq0 (by omega))⟩ (all_nil))
theorem rl606 : ruOk fFS gR606 := by
  intro r hp hO hN hH
  have hr0 := len0 (show r.length = 0 from hN.1)
  subst hr0
  have hR := hN.2.1.1
  exact poX (.head _) rfl hR (all_nil) (all_nil) (all_cons ⟨[0], ⟨sE_k _ _, trivial⟩, (show fEq 289 871 275 0 871 0 hp from eq0 (by omega))⟩ (all_nil))
theorem rl607 : ruOk fFS gR607 := by
  intro r hp hO hN hH
  obtain ⟨s0, s1, rfl⟩ := len2 (show r.length = 2 from hN.1)
  have hR := hN.2.1.1
  have hIv : ∀ q ∈ ([(0, .ofNat 0, .ofNat 870), (1, .negSucc 2147483647, .ofNat 2147483647)] : sIv), ∃ x, ([s0, s1] : List Int)[q.1]? = some x ∧ q.2.1 ≤ x ∧ x ≤ q.2.2 := hN.2.1.2
  have b0 : (0 : Int) ≤ s0 ∧ s0 ≤ (870 : Int) := ivX (q := (0, .ofNat 0, .ofNat 870)) (y := s0) (hIv _ (.head _)) rfl
  have hRf : ∀ q ∈ ([((94, .ofNat 289, []), (.ofNat 871, [(.ofNat 1, 0)]), 1, .ofNat 0, [(.ofNat 1, 1)]), ((80, .ofNat 275, []), (.ofNat 0, [(.ofNat 1, 0)]), 1, .ofNat 0, [(.ofNat 1, 1)])] : List sRf), rfOk [s0, s1] hp q := hH.1
  obtain ⟨i0, e0, l0, h0⟩ := rfI (xv := s1) (iv := (s0 + 871)) (hRf _ (.head _)) (sE_k _ _) (sEv (y' := ((871 : Int) + ((1 : Int) * s0 + 0))) rfl (by omega)) (sE_V rfl)
  have l0 : i0 < 1742 := l0
  have h0 : hI hp 289 i0 = s1 := h0
  obtain ⟨i1, e1, l1, h1⟩ := rfI (xv := s1) (iv := s0) (hRf _ (.tail _ (.head _))) (sE_k _ _) (sE_V rfl) (sE_V rfl)
  have l1 : i1 < 871 := l1
  have h1 : hI hp 275 i1 = s1 := h1
  have hFc : ∀ q ∈ ([(20, [(.ofNat 0, [(.ofNat 1, 0)])])] : List sFc), fcOk fFS [s0, s1] hp q := hH.2
  have f0 : fEq 289 871 275 0 871 s0 hp := fcX (ys := [s0]) (hFc _ (.head _)) ⟨sE_V rfl, trivial⟩
  exact poX (.head _) rfl hR (all_nil) (all_nil) (all_cons ⟨[(s0 + 1)], ⟨sEv (y' := ((1 : Int) + ((1 : Int) * s0 + 0))) rfl (by omega), trivial⟩, (show fEq 289 871 275 0 871 (s0 + 1) hp from eq_add f0 h0 h1 (by omega) (by omega) (by omega))⟩ (all_nil))
theorem rl608 : ruOk fFS gR608 := by
  intro r hp hO hN hH
  obtain ⟨s0, s1, rfl⟩ := len2 (show r.length = 2 from hN.1)
  have hR := hN.2.1.1
  have hIv : ∀ q ∈ ([(0, .ofNat 0, .ofNat 870), (1, .negSucc 2147483647, .ofNat 2147483647)] : sIv), ∃ x, ([s0, s1] : List Int)[q.1]? = some x ∧ q.2.1 ≤ x ∧ x ≤ q.2.2 := hN.2.1.2
  have b0 : (0 : Int) ≤ s0 ∧ s0 ≤ (870 : Int) := ivX (q := (0, .ofNat 0, .ofNat 870)) (y := s0) (hIv _ (.head _)) rfl
  have hRf : ∀ q ∈ ([((94, .ofNat 289, []), (.ofNat 0, [(.ofNat 1, 0)]), 1, .ofNat 0, [(.ofNat 1, 1)]), ((80, .ofNat 275, []), (.ofNat 0, [(.ofNat 1, 0)]), 1, .ofNat 0, [(.ofNat 1, 1)])] : List sRf), rfOk [s0, s1] hp q := hH.1
  obtain ⟨i0, e0, l0, h0⟩ := rfI (xv := s1) (iv := s0) (hRf _ (.head _)) (sE_k _ _) (sE_V rfl) (sE_V rfl)
  have l0 : i0 < 1742 := l0
  have h0 : hI hp 289 i0 = s1 := h0
  obtain ⟨i1, e1, l1, h1⟩ := rfI (xv := s1) (iv := s0) (hRf _ (.tail _ (.head _))) (sE_k _ _) (sE_V rfl) (sE_V rfl)
  have l1 : i1 < 871 := l1
  have h1 : hI hp 275 i1 = s1 := h1
  have hFc : ∀ q ∈ ([(18, [(.ofNat 0, [(.ofNat 1, 0)])])] : List sFc), fcOk fFS [s0, s1] hp q := hH.2
  have f0 : fEq 289 0 275 0 871 s0 hp := fcX (ys := [s0]) (hFc _ (.head _)) ⟨sE_V rfl, trivial⟩
  exact poX (.head _) rfl hR (all_nil) (all_nil) (all_cons ⟨[(s0 + 1)], ⟨sEv (y' := ((1 : Int) + ((1 : Int) * s0 + 0))) rfl (by omega), trivial⟩, (show fEq 289 0 275 0 871 (s0 + 1) hp from eq_add f0 h0 h1 (by omega) (by omega) (by omega))⟩ (all_nil))
theorem rl609 : ruOk fFS gR609 := by
  intro r hp hO hN hH
  obtain ⟨s0, s1, rfl⟩ := len2 (show r.length = 2 from hN.1)
  have hR := hN.2.1.1
  have hIv : ∀ q ∈ ([(0, .ofNat 0, .ofNat 8), (1, .ofNat 871, .ofNat 871)] : sIv), ∃ x, ([s0, s1] : List Int)[q.1]? = some x ∧ q.2.1 ≤ x ∧ x ≤ q.2.2 := hN.2.1.2
  have b0 : (0 : Int) ≤ s0 ∧ s0 ≤ (8 : Int) := ivX (q := (0, .ofNat 0, .ofNat 8)) (y := s0) (hIv _ (.head _)) rfl
  have b1 : (871 : Int) ≤ s1 ∧ s1 ≤ (871 : Int) := ivX (q := (1, .ofNat 871, .ofNat 871)) (y := s1) (hIv _ (.tail _ (.head _))) rfl
  have hRf : ∀ q ∈ ([((80, .ofNat 275, []), (.ofNat 6, []), 1, .ofNat 0, [(.ofNat 1, 0)])] : List sRf), rfOk [s0, s1] hp q := hH.1
  have h0 : hI hp 275 6 = s0 := rfI0 (hRf _ (.head _)) (sE_k _ _) (sE_k _ _) (sE_V rfl)
  have y0 : (0 : Int) ≤ s0 ∧ s0 ≤ (8 : Int) := by rw [← h0]; exact hI_ty hO (by decide) rfl
  have hFc : ∀ q ∈ ([(20, [(.ofNat 0, [(.ofNat 1, 1)])]), (7, [(.ofNat 0, [(.ofNat 1, 0)])]), (12, [])] : List sFc), fcOk fFS [s0, s1] hp q := hH.2
  have f0 : fEq 289 871 275 0 871 s1 hp := fcX (ys := [s1]) (hFc _ (.head _)) ⟨sE_V rfl, trivial⟩
  have f1 : fCh 275 250 s0 hp := fcX (ys := [s0]) (hFc _ (.tail _ (.head _))) ⟨sE_V rfl, trivial⟩
  have f2 : fPfs 275 690 hp := fcX (ys := []) (hFc _ (.tail _ (.tail _ (.head _)))) trivial
  exact poX (.head _) rfl hR (all_nil) (all_nil) (all_cons ⟨[], trivial, (show fKept 871 1 hp from kept_of hO f0 (by omega) h0 f1 f2)⟩ (all_nil))
theorem rl610 : ruOk fFS gR610 := by
  intro r hp hO hN hH
  obtain ⟨s0, s1, rfl⟩ := len2 (show r.length = 2 from hN.1)
  have hR := hN.2.1.1
  have hIv : ∀ q ∈ ([(0, .ofNat 0, .ofNat 8), (1, .ofNat 871, .ofNat 871)] : sIv), ∃ x, ([s0, s1] : List Int)[q.1]? = some x ∧ q.2.1 ≤ x ∧ x ≤ q.2.2 := hN.2.1.2
  have b0 : (0 : Int) ≤ s0 ∧ s0 ≤ (8 : Int) := ivX (q := (0, .ofNat 0, .ofNat 8)) (y := s0) (hIv _ (.head _)) rfl
  have b1 : (871 : Int) ≤ s1 ∧ s1 ≤ (871 : Int) := ivX (q := (1, .ofNat 871, .ofNat 871)) (y := s1) (hIv _ (.tail _ (.head _))) rfl
  have hRf : ∀ q ∈ ([((80, .ofNat 275, []), (.ofNat 6, []), 1, .ofNat 0, [(.ofNat 1, 0)])] : List sRf), rfOk [s0, s1] hp q := hH.1
  have h0 : hI hp 275 6 = s0 := rfI0 (hRf _ (.head _)) (sE_k _ _) (sE_k _ _) (sE_V rfl)
  have y0 : (0 : Int) ≤ s0 ∧ s0 ≤ (8 : Int) := by rw [← h0]; exact hI_ty hO (by decide) rfl
  have hFc : ∀ q ∈ ([(18, [(.ofNat 0, [(.ofNat 1, 1)])]), (7, [(.ofNat 0, [(.ofNat 1, 0)])]), (12, [])] : List sFc), fcOk fFS [s0, s1] hp q := hH.2
  have f0 : fEq 289 0 275 0 871 s1 hp := fcX (ys := [s1]) (hFc _ (.head _)) ⟨sE_V rfl, trivial⟩
  have f1 : fCh 275 250 s0 hp := fcX (ys := [s0]) (hFc _ (.tail _ (.head _))) ⟨sE_V rfl, trivial⟩
  have f2 : fPfs 275 690 hp := fcX (ys := []) (hFc _ (.tail _ (.tail _ (.head _)))) trivial
  exact poX (.head _) rfl hR (all_nil) (all_nil) (all_cons ⟨[], trivial, (show fKept 0 0 hp from kept_of hO f0 (by omega) h0 f1 f2)⟩ (all_nil))
theorem rl611 : ruOk fFS gR611 := by
  intro r hp hO hN hH
  obtain ⟨s0, s1, s2, rfl⟩ := len3 (show r.length = 3 from hN.1)
  have hR := hN.2.1.1
  have hIv : ∀ q ∈ ([(0, .ofNat 1, .ofNat 1), (1, .negSucc 2147483647, .ofNat 2147483647), (2, .negSucc 2147483647, .ofNat 2147483647)] : sIv), ∃ x, ([s0, s1, s2] : List Int)[q.1]? = some x ∧ q.2.1 ≤ x ∧ x ≤ q.2.2 := hN.2.1.2
  have b0 : (1 : Int) ≤ s0 ∧ s0 ≤ (1 : Int) := ivX (q := (0, .ofNat 1, .ofNat 1)) (y := s0) (hIv _ (.head _)) rfl
  have b1 : (-2147483648 : Int) ≤ s1 ∧ s1 ≤ (2147483647 : Int) := ivX (q := (1, .negSucc 2147483647, .ofNat 2147483647)) (y := s1) (hIv _ (.tail _ (.head _))) rfl
  have b2 : (-2147483648 : Int) ≤ s2 ∧ s2 ≤ (2147483647 : Int) := ivX (q := (2, .negSucc 2147483647, .ofNat 2147483647)) (y := s2) (hIv _ (.tail _ (.tail _ (.head _)))) rfl
  have hRf : ∀ q ∈ ([((96, .ofNat 291, []), (.ofNat 1, []), 1, .ofNat 0, [(.ofNat 1, 0)]), ((94, .ofNat 289, []), (.ofNat 871, []), 1, .ofNat 0, [(.ofNat 1, 1)]), ((94, .ofNat 289, []), (.ofNat 872, []), 1, .ofNat 0, [(.ofNat 1, 2)])] : List sRf), rfOk [s0, s1, s2] hp q := hH.1
  have h0 : hI hp 291 1 = s0 := rfI0 (hRf _ (.head _)) (sE_k _ _) (sE_k _ _) (sE_V rfl)
  have y0 : (0 : Int) ≤ s0 ∧ s0 ≤ (1 : Int) := by rw [← h0]; exact hI_ty hO (by decide) rfl
  have h1 : hI hp 289 871 = s1 := rfI0 (hRf _ (.tail _ (.head _))) (sE_k _ _) (sE_k _ _) (sE_V rfl)
  have y1 : (0 : Int) ≤ s1 ∧ s1 ≤ (10 : Int) := by rw [← h1]; exact hI_ty hO (by decide) rfl
  have h2 : hI hp 289 872 = s2 := rfI0 (hRf _ (.tail _ (.tail _ (.head _)))) (sE_k _ _) (sE_k _ _) (sE_V rfl)
  have y2 : (0 : Int) ≤ s2 ∧ s2 ≤ (10 : Int) := by rw [← h2]; exact hI_ty hO (by decide) rfl
  have hFc : ∀ q ∈ ([(19, [])] : List sFc), fcOk fFS [s0, s1, s2] hp q := hH.2
  have f0 : fKept 871 1 hp := fcX (ys := []) (hFc _ (.head _)) trivial
  have u := kept_b f0 h0 (by omega) h1 h2 rfl
  exact poX (.head _) rfl hR (all_cons (ivO (y := s1) rfl (show (1 : Int) ≤ s1 by omega) (show s1 ≤ (10 : Int) by omega)) (all_cons (ivO (y := s2) rfl (show (1 : Int) ≤ s2 by omega) (show s2 ≤ (10 : Int) by omega)) (all_nil))) (all_nil) (all_nil)
theorem rl612 : ruOk fFS gR612 := by
  intro r hp hO hN hH
  obtain ⟨s0, s1, s2, rfl⟩ := len3 (show r.length = 3 from hN.1)
  have hR := hN.2.1.1
  have hIv : ∀ q ∈ ([(0, .ofNat 1, .ofNat 1), (1, .negSucc 2147483647, .ofNat 2147483647), (2, .negSucc 2147483647, .ofNat 2147483647)] : sIv), ∃ x, ([s0, s1, s2] : List Int)[q.1]? = some x ∧ q.2.1 ≤ x ∧ x ≤ q.2.2 := hN.2.1.2
  have b0 : (1 : Int) ≤ s0 ∧ s0 ≤ (1 : Int) := ivX (q := (0, .ofNat 1, .ofNat 1)) (y := s0) (hIv _ (.head _)) rfl
  have b1 : (-2147483648 : Int) ≤ s1 ∧ s1 ≤ (2147483647 : Int) := ivX (q := (1, .negSucc 2147483647, .ofNat 2147483647)) (y := s1) (hIv _ (.tail _ (.head _))) rfl
  have b2 : (-2147483648 : Int) ≤ s2 ∧ s2 ≤ (2147483647 : Int) := ivX (q := (2, .negSucc 2147483647, .ofNat 2147483647)) (y := s2) (hIv _ (.tail _ (.tail _ (.head _)))) rfl
  have hRf : ∀ q ∈ ([((96, .ofNat 291, []), (.ofNat 0, []), 1, .ofNat 0, [(.ofNat 1, 0)]), ((94, .ofNat 289, []), (.ofNat 0, []), 1, .ofNat 0, [(.ofNat 1, 1)]), ((94, .ofNat 289, []), (.ofNat 1, []), 1, .ofNat 0, [(.ofNat 1, 2)])] : List sRf), rfOk [s0, s1, s2] hp q := hH.1
  have h0 : hI hp 291 0 = s0 := rfI0 (hRf _ (.head _)) (sE_k _ _) (sE_k _ _) (sE_V rfl)
  have y0 : (0 : Int) ≤ s0 ∧ s0 ≤ (1 : Int) := by rw [← h0]; exact hI_ty hO (by decide) rfl
  have h1 : hI hp 289 0 = s1 := rfI0 (hRf _ (.tail _ (.head _))) (sE_k _ _) (sE_k _ _) (sE_V rfl)
  have y1 : (0 : Int) ≤ s1 ∧ s1 ≤ (10 : Int) := by rw [← h1]; exact hI_ty hO (by decide) rfl
  have h2 : hI hp 289 1 = s2 := rfI0 (hRf _ (.tail _ (.tail _ (.head _)))) (sE_k _ _) (sE_k _ _) (sE_V rfl)
  have y2 : (0 : Int) ≤ s2 ∧ s2 ≤ (10 : Int) := by rw [← h2]; exact hI_ty hO (by decide) rfl
  have hFc : ∀ q ∈ ([(17, [])] : List sFc), fcOk fFS [s0, s1, s2] hp q := hH.2
  have f0 : fKept 0 0 hp := fcX (ys := []) (hFc _ (.head _)) trivial
  have u := kept_b f0 h0 (by omega) h1 h2 rfl
  exact poX (.head _) rfl hR (all_cons (ivO (y := s1) rfl (show (1 : Int) ≤ s1 by omega) (show s1 ≤ (10 : Int) by omega)) (all_cons (ivO (y := s2) rfl (show (1 : Int) ≤ s2 by omega) (show s2 ≤ (10 : Int) by omega)) (all_nil))) (all_nil) (all_nil)
theorem rl613 : ruOk fFS gR613 := by
  intro r hp hO hN hH
  obtain ⟨s0, s1, s2, rfl⟩ := len3 (show r.length = 3 from hN.1)
  have hR := hN.2.1.1
  have hIv : ∀ q ∈ ([(0, .ofNat 1, .ofNat 1), (1, .ofNat 0, .ofNat 8), (2, .ofNat 871, .ofNat 871)] : sIv), ∃ x, ([s0, s1, s2] : List Int)[q.1]? = some x ∧ q.2.1 ≤ x ∧ x ≤ q.2.2 := hN.2.1.2
  have b0 : (1 : Int) ≤ s0 ∧ s0 ≤ (1 : Int) := ivX (q := (0, .ofNat 1, .ofNat 1)) (y := s0) (hIv _ (.head _)) rfl
  have b1 : (0 : Int) ≤ s1 ∧ s1 ≤ (8 : Int) := ivX (q := (1, .ofNat 0, .ofNat 8)) (y := s1) (hIv _ (.tail _ (.head _))) rfl
  have b2 : (871 : Int) ≤ s2 ∧ s2 ≤ (871 : Int) := ivX (q := (2, .ofNat 871, .ofNat 871)) (y := s2) (hIv _ (.tail _ (.tail _ (.head _)))) rfl
  have hRf : ∀ q ∈ ([((96, .ofNat 291, []), (.ofNat 1, []), 1, .ofNat 0, [(.ofNat 1, 0)]), ((80, .ofNat 275, []), (.ofNat 6, []), 1, .ofNat 0, [(.ofNat 1, 1)])] : List sRf), rfOk [s0, s1, s2] hp q := hH.1
  have h0 : hI hp 291 1 = s0 := rfI0 (hRf _ (.head _)) (sE_k _ _) (sE_k _ _) (sE_V rfl)
  have y0 : (0 : Int) ≤ s0 ∧ s0 ≤ (1 : Int) := by rw [← h0]; exact hI_ty hO (by decide) rfl
  have h1 : hI hp 275 6 = s1 := rfI0 (hRf _ (.tail _ (.head _))) (sE_k _ _) (sE_k _ _) (sE_V rfl)
  have y1 : (0 : Int) ≤ s1 ∧ s1 ≤ (8 : Int) := by rw [← h1]; exact hI_ty hO (by decide) rfl
  have hFc : ∀ q ∈ ([(20, [(.ofNat 0, [(.ofNat 1, 2)])]), (19, [])] : List sFc), fcOk fFS [s0, s1, s2] hp q := hH.2
  have f0 : fEq 289 871 275 0 871 s2 hp := fcX (ys := [s2]) (hFc _ (.head _)) ⟨sE_V rfl, trivial⟩
  have f1 : fKept 871 1 hp := fcX (ys := []) (hFc _ (.tail _ (.head _))) trivial
  have u := kept_ch f1 (by rw [h0]; omega) f0 (by omega) h1
  exact poX (.head _) rfl hR (all_nil) (all_nil) (all_cons ⟨[s1], ⟨sE_V rfl, trivial⟩, (show fCh 275 250 s1 hp from u.1)⟩ (all_cons ⟨[], trivial, (show fPfs 275 690 hp from u.2)⟩ (all_nil)))
theorem rl614 : ruOk fFS gR614 := by
  intro r hp hO hN hH
  obtain ⟨s0, s1, s2, rfl⟩ := len3 (show r.length = 3 from hN.1)
  have hR := hN.2.1.1
  have hIv : ∀ q ∈ ([(0, .ofNat 1, .ofNat 1), (1, .ofNat 0, .ofNat 8), (2, .ofNat 871, .ofNat 871)] : sIv), ∃ x, ([s0, s1, s2] : List Int)[q.1]? = some x ∧ q.2.1 ≤ x ∧ x ≤ q.2.2 := hN.2.1.2
  have b0 : (1 : Int) ≤ s0 ∧ s0 ≤ (1 : Int) := ivX (q := (0, .ofNat 1, .ofNat 1)) (y := s0) (hIv _ (.head _)) rfl
  have b1 : (0 : Int) ≤ s1 ∧ s1 ≤ (8 : Int) := ivX (q := (1, .ofNat 0, .ofNat 8)) (y := s1) (hIv _ (.tail _ (.head _))) rfl
  have b2 : (871 : Int) ≤ s2 ∧ s2 ≤ (871 : Int) := ivX (q := (2, .ofNat 871, .ofNat 871)) (y := s2) (hIv _ (.tail _ (.tail _ (.head _)))) rfl
  have hRf : ∀ q ∈ ([((96, .ofNat 291, []), (.ofNat 0, []), 1, .ofNat 0, [(.ofNat 1, 0)]), ((80, .ofNat 275, []), (.ofNat 6, []), 1, .ofNat 0, [(.ofNat 1, 1)])] : List sRf), rfOk [s0, s1, s2] hp q := hH.1
  have h0 : hI hp 291 0 = s0 := rfI0 (hRf _ (.head _)) (sE_k _ _) (sE_k _ _) (sE_V rfl)
  have y0 : (0 : Int) ≤ s0 ∧ s0 ≤ (1 : Int) := by rw [← h0]; exact hI_ty hO (by decide) rfl
  have h1 : hI hp 275 6 = s1 := rfI0 (hRf _ (.tail _ (.head _))) (sE_k _ _) (sE_k _ _) (sE_V rfl)
  have y1 : (0 : Int) ≤ s1 ∧ s1 ≤ (8 : Int) := by rw [← h1]; exact hI_ty hO (by decide) rfl
  have hFc : ∀ q ∈ ([(18, [(.ofNat 0, [(.ofNat 1, 2)])]), (17, [])] : List sFc), fcOk fFS [s0, s1, s2] hp q := hH.2
  have f0 : fEq 289 0 275 0 871 s2 hp := fcX (ys := [s2]) (hFc _ (.head _)) ⟨sE_V rfl, trivial⟩
  have f1 : fKept 0 0 hp := fcX (ys := []) (hFc _ (.tail _ (.head _))) trivial
  have u := kept_ch f1 (by rw [h0]; omega) f0 (by omega) h1
  exact poX (.head _) rfl hR (all_nil) (all_nil) (all_cons ⟨[s1], ⟨sE_V rfl, trivial⟩, (show fCh 275 250 s1 hp from u.1)⟩ (all_cons ⟨[], trivial, (show fPfs 275 690 hp from u.2)⟩ (all_nil)))
end CkRul7
