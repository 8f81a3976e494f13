section CkRul7
theorem rl560 : ruOk fFS gR560 := by
  intro r hp hO hN hH
  obtain ⟨s0, s1, s2, s3, s4, s5, s6, s7, s8, s9, s10, s11, rfl⟩ := len12 (show r.length = 12 from hN.1)
  have hR := hN.2.1.1
  have hIv : ∀ q ∈ ([(0, .ofNat 0, .ofNat 0), (1, .ofNat 1, .ofNat 1), (2, .negSucc 2147483647, .ofNat 2147483647), (3, .ofNat 1, .ofNat 2), (4, .negSucc 2147483647, .ofNat 2147483647), (6, .negSucc 2147483647, .ofNat 2147483647), (7, .negSucc 2147483647, .ofNat 2147483647), (8, .ofNat 1, .ofNat 1), (9, .negSucc 2147483647, .ofNat 2147483647), (11, .ofNat 48, .ofNat 57)] : sIv), ∃ x, ([s0, s1, s2, s3, s4, s5, s6, s7, s8, s9, s10, s11] : List Int)[q.1]? = some x ∧ q.2.1 ≤ x ∧ x ≤ q.2.2 := hN.2.1.2
  have b0 : (0 : Int) ≤ s0 ∧ s0 ≤ (0 : Int) := ivX (q := (0, .ofNat 0, .ofNat 0)) (y := s0) (hIv _ (.head _)) rfl
  have b1 : (1 : Int) ≤ s1 ∧ s1 ≤ (1 : Int) := ivX (q := (1, .ofNat 1, .ofNat 1)) (y := s1) (hIv _ (.tail _ (.head _))) rfl
  have b3 : (1 : Int) ≤ s3 ∧ s3 ≤ (2 : Int) := ivX (q := (3, .ofNat 1, .ofNat 2)) (y := s3) (hIv _ (.tail _ (.tail _ (.tail _ (.head _))))) rfl
  have b7 : (1 : Int) ≤ s8 ∧ s8 ≤ (1 : Int) := ivX (q := (8, .ofNat 1, .ofNat 1)) (y := s8) (hIv _ (.tail _ (.tail _ (.tail _ (.tail _ (.tail _ (.tail _ (.tail _ (.head _))))))))) rfl
  have b9 : (48 : Int) ≤ s11 ∧ s11 ≤ (57 : Int) := ivX (q := (11, .ofNat 48, .ofNat 57)) (y := s11) (hIv _ (.tail _ (.tail _ (.tail _ (.tail _ (.tail _ (.tail _ (.tail _ (.tail _ (.tail _ (.head _))))))))))) rfl
  have hCs : ∀ c ∈ ([(.ofNat 1, [(.ofNat 1, 2), (.negSucc 0, 6)]), (.ofNat 0, [(.ofNat 1, 5), (.negSucc 255, 10), (.negSucc 0, 11)]), (.ofNat 0, [(.negSucc 0, 5), (.ofNat 256, 10), (.ofNat 1, 11)]), (.ofNat 48, [(.ofNat 1, 4), (.negSucc 9, 9), (.negSucc 0, 11)]), (.negSucc 47, [(.negSucc 0, 4), (.ofNat 10, 9), (.ofNat 1, 11)])] : List sLn), ∃ x, sE [s0, s1, s2, s3, s4, s5, s6, s7, s8, s9, s10, s11] c = some x ∧ x ≤ 0 := hN.2.2.1
  have c0 : ((1 : Int) + ((1 : Int) * s2 + ((-1 : Int) * s6 + 0))) ≤ 0 := csX (hCs _ (.head _)) rfl
  have c1 : ((0 : Int) + ((1 : Int) * s5 + ((-256 : Int) * s10 + ((-1 : Int) * s11 + 0)))) ≤ 0 := csX (hCs _ (.tail _ (.head _))) rfl
  have c2 : ((0 : Int) + ((-1 : Int) * s5 + ((256 : Int) * s10 + ((1 : Int) * s11 + 0)))) ≤ 0 := csX (hCs _ (.tail _ (.tail _ (.head _)))) rfl
  have c3 : ((48 : Int) + ((1 : Int) * s4 + ((-10 : Int) * s9 + ((-1 : Int) * s11 + 0)))) ≤ 0 := csX (hCs _ (.tail _ (.tail _ (.tail _ (.head _))))) rfl
  have c4 : ((-48 : Int) + ((-1 : Int) * s4 + ((10 : Int) * s9 + ((1 : Int) * s11 + 0)))) ≤ 0 := csX (hCs _ (.tail _ (.tail _ (.tail _ (.tail _ (.head _)))))) rfl
  have hRf : ∀ q ∈ ([((78, .ofNat 273, []), (.ofNat 4, []), 1, .ofNat 0, [(.ofNat 1, 2)]), ((78, .ofNat 273, []), (.ofNat 13, []), 1, .ofNat 0, [(.ofNat 1, 3)]), ((78, .ofNat 273, []), (.ofNat 14, []), 1, .ofNat 0, [(.ofNat 1, 4)]), ((78, .ofNat 273, []), (.ofNat 17, []), 5, .ofNat 0, [(.ofNat 1, 5)]), ((78, .ofNat 273, []), (.ofNat 3, []), 1, .ofNat 0, [(.ofNat 1, 6)])] : List sRf), rfOk [s0, s1, s2, s3, s4, s5, s6, s7, s8, s9, s10, s11] hp q := hH.1
  have h0 : hI hp 273 4 = s2 := rfI0 (hRf _ (.head _)) (sE_k _ _) (sE_k _ _) (sE_V rfl)
  have y0 : (0 : Int) ≤ s2 ∧ s2 ≤ (940 : Int) := by rw [← h0]; exact hI_ty hO (by decide) rfl
  have h1 : hI hp 273 13 = s3 := rfI0 (hRf _ (.tail _ (.head _))) (sE_k _ _) (sE_k _ _) (sE_V rfl)
  have h2 : hI hp 273 14 = s4 := rfI0 (hRf _ (.tail _ (.tail _ (.head _)))) (sE_k _ _) (sE_k _ _) (sE_V rfl)
  have h3 : hL hp 273 17 = s5 := rfL0 (hRf _ (.tail _ (.tail _ (.tail _ (.head _))))) (sE_k _ _) (sE_k _ _) (sE_V rfl)
  have h4 : hI hp 273 3 = s6 := rfI0 (hRf _ (.tail _ (.tail _ (.tail _ (.tail _ (.head _)))))) (sE_k _ _) (sE_k _ _) (sE_V rfl)
  have y4 : (0 : Int) ≤ s6 ∧ s6 ≤ (940 : Int) := by rw [← h4]; exact hI_ty hO (by decide) rfl
  have tnm : (MT hp).2.1 = s6 := h4
  have hFc : ∀ q ∈ ([(114, [(.ofNat 0, [(.ofNat 1, 7)]), (.ofNat 0, [(.ofNat 1, 2)]), (.negSucc 0, [(.ofNat 1, 3)]), (.ofNat 0, [(.ofNat 1, 0)]), (.ofNat 0, [(.ofNat 1, 8)]), (.ofNat 0, [(.ofNat 1, 9)]), (.ofNat 0, [(.ofNat 1, 10)])]), (113, [(.ofNat 0, [(.ofNat 1, 2)]), (.ofNat 0, [(.ofNat 1, 11)])])] : List sFc), fcOk fFS [s0, s1, s2, s3, s4, s5, s6, s7, s8, s9, s10, s11] hp q := hH.2
  have f0 : RNm (MT hp) s7 s2 (s3 - 1) s0 s8 s9 s10 := fcX (ys := [s7, s2, (s3 - 1), s0, s8, s9, s10]) (hFc _ (.head _)) ⟨sE_V rfl, sE_V rfl, sEv (y' := ((-1 : Int) + ((1 : Int) * s3 + 0))) rfl (by omega), sE_V rfl, sE_V rfl, sE_V rfl, sE_V rfl, trivial⟩
  have f1 : 0 ≤ s2 ∧ s2 < 940 ∧ s11 = MB hp s2 := fcX (ys := [s2, s11]) (hFc _ (.tail _ (.head _))) ⟨sE_V rfl, sE_V rfl, trivial⟩
  exact poX (.head _) rfl hR (all_nil) (all_nil) (all_cons ⟨[s7, (s2 + 1), s3, s0, s1, s4, s5], ⟨sE_V rfl, sEv (y' := ((1 : Int) + ((1 : Int) * s2 + 0))) rfl (by omega), sE_V rfl, sE_V rfl, sE_V rfl, sE_V rfl, sE_V rfl, trivial⟩, (show RNm (MT hp) s7 (s2 + 1) s3 s0 s1 s4 s5 from rms_m f0 f1 (by omega) (by omega) (by omega) (by omega) (fun _ => by omega) (fun _ => by omega))⟩ (all_nil))
theorem rl561 : ruOk fFS gR561 := by
  intro r hp hO hN hH
  obtain ⟨s0, s1, s2, s3, s4, s5, s6, s7, s8, s9, s10, s11, rfl⟩ := len12 (show r.length = 12 from hN.1)
  have hR := hN.2.1.1
  have hIv : ∀ q ∈ ([(0, .ofNat 1, .ofNat 1), (1, .ofNat 0, .ofNat 0), (2, .negSucc 2147483647, .ofNat 2147483647), (3, .ofNat 1, .ofNat 2), (4, .negSucc 2147483647, .ofNat 2147483647), (6, .negSucc 2147483647, .ofNat 2147483647), (7, .negSucc 2147483647, .ofNat 2147483647), (8, .ofNat 1, .ofNat 1), (9, .negSucc 2147483647, .ofNat 2147483647), (11, .ofNat 48, .ofNat 57)] : sIv), ∃ x, ([s0, s1, s2, s3, s4, s5, s6, s7, s8, s9, s10, s11] : List Int)[q.1]? = some x ∧ q.2.1 ≤ x ∧ x ≤ q.2.2 := hN.2.1.2
  have b0 : (1 : Int) ≤ s0 ∧ s0 ≤ (1 : Int) := ivX (q := (0, .ofNat 1, .ofNat 1)) (y := s0) (hIv _ (.head _)) rfl
  have b1 : (0 : Int) ≤ s1 ∧ s1 ≤ (0 : Int) := ivX (q := (1, .ofNat 0, .ofNat 0)) (y := s1) (hIv _ (.tail _ (.head _))) rfl
  have b3 : (1 : Int) ≤ s3 ∧ s3 ≤ (2 : Int) := ivX (q := (3, .ofNat 1, .ofNat 2)) (y := s3) (hIv _ (.tail _ (.tail _ (.tail _ (.head _))))) rfl
  have b7 : (1 : Int) ≤ s8 ∧ s8 ≤ (1 : Int) := ivX (q := (8, .ofNat 1, .ofNat 1)) (y := s8) (hIv _ (.tail _ (.tail _ (.tail _ (.tail _ (.tail _ (.tail _ (.tail _ (.head _))))))))) rfl
  have b9 : (48 : Int) ≤ s11 ∧ s11 ≤ (57 : Int) := ivX (q := (11, .ofNat 48, .ofNat 57)) (y := s11) (hIv _ (.tail _ (.tail _ (.tail _ (.tail _ (.tail _ (.tail _ (.tail _ (.tail _ (.tail _ (.head _))))))))))) rfl
  have hCs : ∀ c ∈ ([(.ofNat 1, [(.ofNat 1, 2), (.negSucc 0, 6)]), (.ofNat 0, [(.ofNat 1, 5), (.negSucc 255, 10), (.negSucc 0, 11)]), (.ofNat 0, [(.negSucc 0, 5), (.ofNat 256, 10), (.ofNat 1, 11)]), (.ofNat 48, [(.ofNat 1, 4), (.negSucc 9, 9), (.negSucc 0, 11)]), (.negSucc 47, [(.negSucc 0, 4), (.ofNat 10, 9), (.ofNat 1, 11)])] : List sLn), ∃ x, sE [s0, s1, s2, s3, s4, s5, s6, s7, s8, s9, s10, s11] c = some x ∧ x ≤ 0 := hN.2.2.1
  have c0 : ((1 : Int) + ((1 : Int) * s2 + ((-1 : Int) * s6 + 0))) ≤ 0 := csX (hCs _ (.head _)) rfl
  have c1 : ((0 : Int) + ((1 : Int) * s5 + ((-256 : Int) * s10 + ((-1 : Int) * s11 + 0)))) ≤ 0 := csX (hCs _ (.tail _ (.head _))) rfl
  have c2 : ((0 : Int) + ((-1 : Int) * s5 + ((256 : Int) * s10 + ((1 : Int) * s11 + 0)))) ≤ 0 := csX (hCs _ (.tail _ (.tail _ (.head _)))) rfl
  have c3 : ((48 : Int) + ((1 : Int) * s4 + ((-10 : Int) * s9 + ((-1 : Int) * s11 + 0)))) ≤ 0 := csX (hCs _ (.tail _ (.tail _ (.tail _ (.head _))))) rfl
  have c4 : ((-48 : Int) + ((-1 : Int) * s4 + ((10 : Int) * s9 + ((1 : Int) * s11 + 0)))) ≤ 0 := csX (hCs _ (.tail _ (.tail _ (.tail _ (.tail _ (.head _)))))) rfl
  have hRf : ∀ q ∈ ([((78, .ofNat 273, []), (.ofNat 4, []), 1, .ofNat 0, [(.ofNat 1, 2)]), ((78, .ofNat 273, []), (.ofNat 13, []), 1, .ofNat 0, [(.ofNat 1, 3)]), ((78, .ofNat 273, []), (.ofNat 14, []), 1, .ofNat 0, [(.ofNat 1, 4)]), ((78, .ofNat 273, []), (.ofNat 17, []), 5, .ofNat 0, [(.ofNat 1, 5)]), ((78, .ofNat 273, []), (.ofNat 3, []), 1, .ofNat 0, [(.ofNat 1, 6)])] : List sRf), rfOk [s0, s1, s2, s3, s4, s5, s6, s7, s8, s9, s10, s11] hp q := hH.1
  have h0 : hI hp 273 4 = s2 := rfI0 (hRf _ (.head _)) (sE_k _ _) (sE_k _ _) (sE_V rfl)
  have y0 : (0 : Int) ≤ s2 ∧ s2 ≤ (940 : Int) := by rw [← h0]; exact hI_ty hO (by decide) rfl
  have h1 : hI hp 273 13 = s3 := rfI0 (hRf _ (.tail _ (.head _))) (sE_k _ _) (sE_k _ _) (sE_V rfl)
  have h2 : hI hp 273 14 = s4 := rfI0 (hRf _ (.tail _ (.tail _ (.head _)))) (sE_k _ _) (sE_k _ _) (sE_V rfl)
  have h3 : hL hp 273 17 = s5 := rfL0 (hRf _ (.tail _ (.tail _ (.tail _ (.head _))))) (sE_k _ _) (sE_k _ _) (sE_V rfl)
  have h4 : hI hp 273 3 = s6 := rfI0 (hRf _ (.tail _ (.tail _ (.tail _ (.tail _ (.head _)))))) (sE_k _ _) (sE_k _ _) (sE_V rfl)
  have y4 : (0 : Int) ≤ s6 ∧ s6 ≤ (940 : Int) := by rw [← h4]; exact hI_ty hO (by decide) rfl
  have tnm : (MT hp).2.1 = s6 := h4
  have hFc : ∀ q ∈ ([(114, [(.ofNat 0, [(.ofNat 1, 7)]), (.ofNat 0, [(.ofNat 1, 2)]), (.negSucc 0, [(.ofNat 1, 3)]), (.ofNat 0, [(.ofNat 1, 0)]), (.ofNat 0, [(.ofNat 1, 8)]), (.ofNat 0, [(.ofNat 1, 9)]), (.ofNat 0, [(.ofNat 1, 10)])]), (113, [(.ofNat 0, [(.ofNat 1, 2)]), (.ofNat 0, [(.ofNat 1, 11)])])] : List sFc), fcOk fFS [s0, s1, s2, s3, s4, s5, s6, s7, s8, s9, s10, s11] hp q := hH.2
  have f0 : RNm (MT hp) s7 s2 (s3 - 1) s0 s8 s9 s10 := fcX (ys := [s7, s2, (s3 - 1), s0, s8, s9, s10]) (hFc _ (.head _)) ⟨sE_V rfl, sE_V rfl, sEv (y' := ((-1 : Int) + ((1 : Int) * s3 + 0))) rfl (by omega), sE_V rfl, sE_V rfl, sE_V rfl, sE_V rfl, trivial⟩
  have f1 : 0 ≤ s2 ∧ s2 < 940 ∧ s11 = MB hp s2 := fcX (ys := [s2, s11]) (hFc _ (.tail _ (.head _))) ⟨sE_V rfl, sE_V rfl, trivial⟩
  exact poX (.head _) rfl hR (all_nil) (all_nil) (all_cons ⟨[s7, (s2 + 1), s3, s0, s1, s4, s5], ⟨sE_V rfl, sEv (y' := ((1 : Int) + ((1 : Int) * s2 + 0))) rfl (by omega), sE_V rfl, sE_V rfl, sE_V rfl, sE_V rfl, sE_V rfl, trivial⟩, (show RNm (MT hp) s7 (s2 + 1) s3 s0 s1 s4 s5 from rms_m f0 f1 (by omega) (by omega) (by omega) (by omega) (fun _ => by omega) (fun _ => by omega))⟩ (all_nil))
theorem rl562 : ruOk fFS gR562 := by
  intro r hp hO hN hH
  obtain ⟨s0, s1, s2, s3, s4, s5, s6, s7, rfl⟩ := len8 (show r.length = 8 from hN.1)
  have hR := hN.2.1.1
  have hIv : ∀ q ∈ ([(0, .negSucc 2147483647, .ofNat 2147483647), (1, .negSucc 2147483647, .ofNat 2147483647), (2, .negSucc 2147483647, .ofNat 2147483647), (3, .negSucc 2147483647, .ofNat 2147483647), (4, .negSucc 2147483647, .ofNat 2147483647), (6, .negSucc 2147483647, .ofNat 2147483647), (7, .ofNat 0, .ofNat 47)] : sIv), ∃ x, ([s0, s1, s2, s3, s4, s5, s6, s7] : List Int)[q.1]? = some x ∧ q.2.1 ≤ x ∧ x ≤ q.2.2 := hN.2.1.2
  have b6 : (0 : Int) ≤ s7 ∧ s7 ≤ (47 : Int) := ivX (q := (7, .ofNat 0, .ofNat 47)) (y := s7) (hIv _ (.tail _ (.tail _ (.tail _ (.tail _ (.tail _ (.tail _ (.head _)))))))) rfl
  have hRf : ∀ q ∈ ([((78, .ofNat 273, []), (.ofNat 4, []), 1, .ofNat 0, [(.ofNat 1, 2)]), ((78, .ofNat 273, []), (.ofNat 13, []), 1, .ofNat 0, [(.ofNat 1, 3)]), ((78, .ofNat 273, []), (.ofNat 14, []), 1, .ofNat 0, [(.ofNat 1, 4)]), ((78, .ofNat 273, []), (.ofNat 17, []), 5, .ofNat 0, [(.ofNat 1, 5)])] : List sRf), rfOk [s0, s1, s2, s3, s4, s5, s6, s7] hp q := hH.1
  have h0 : hI hp 273 4 = s2 := rfI0 (hRf _ (.head _)) (sE_k _ _) (sE_k _ _) (sE_V rfl)
  have y0 : (0 : Int) ≤ s2 ∧ s2 ≤ (940 : Int) := by rw [← h0]; exact hI_ty hO (by decide) rfl
  have h1 : hI hp 273 13 = s3 := rfI0 (hRf _ (.tail _ (.head _))) (sE_k _ _) (sE_k _ _) (sE_V rfl)
  have h2 : hI hp 273 14 = s4 := rfI0 (hRf _ (.tail _ (.tail _ (.head _)))) (sE_k _ _) (sE_k _ _) (sE_V rfl)
  have h3 : hL hp 273 17 = s5 := rfL0 (hRf _ (.tail _ (.tail _ (.tail _ (.head _))))) (sE_k _ _) (sE_k _ _) (sE_V rfl)
  have hFc : ∀ q ∈ ([(114, [(.ofNat 0, [(.ofNat 1, 6)]), (.ofNat 0, [(.ofNat 1, 2)]), (.ofNat 0, [(.ofNat 1, 3)]), (.ofNat 0, [(.ofNat 1, 0)]), (.ofNat 0, [(.ofNat 1, 1)]), (.ofNat 0, [(.ofNat 1, 4)]), (.ofNat 0, [(.ofNat 1, 5)])]), (113, [(.ofNat 0, [(.ofNat 1, 2)]), (.ofNat 0, [(.ofNat 1, 7)])])] : List sFc), fcOk fFS [s0, s1, s2, s3, s4, s5, s6, s7] hp q := hH.2
  have f0 : RNm (MT hp) s6 s2 s3 s0 s1 s4 s5 := fcX (ys := [s6, s2, s3, s0, s1, s4, s5]) (hFc _ (.head _)) ⟨sE_V rfl, sE_V rfl, sE_V rfl, sE_V rfl, sE_V rfl, sE_V rfl, sE_V rfl, trivial⟩
  have f1 : 0 ≤ s2 ∧ s2 < 940 ∧ s7 = MB hp s2 := fcX (ys := [s2, s7]) (hFc _ (.tail _ (.head _))) ⟨sE_V rfl, sE_V rfl, trivial⟩
  exact poX (.head _) rfl hR (all_nil) (all_nil) (all_cons ⟨[s6, s2, s3, s0, s1, s4, s5], ⟨sE_V rfl, sE_V rfl, sE_V rfl, sE_V rfl, sE_V rfl, sE_V rfl, sE_V rfl, trivial⟩, (show REm (MT hp) s6 s2 s3 s0 s1 s4 s5 from rme_m f0 f1 (by omega))⟩ (all_nil))
theorem rl563 : ruOk fFS gR563 := by
  intro r hp hO hN hH
  obtain ⟨s0, s1, s2, s3, s4, s5, s6, s7, rfl⟩ := len8 (show r.length = 8 from hN.1)
  have hR := hN.2.1.1
  have hIv : ∀ q ∈ ([(0, .negSucc 2147483647, .ofNat 2147483647), (1, .negSucc 2147483647, .ofNat 2147483647), (2, .negSucc 2147483647, .ofNat 2147483647), (3, .negSucc 2147483647, .ofNat 2147483647), (4, .negSucc 2147483647, .ofNat 2147483647), (6, .negSucc 2147483647, .ofNat 2147483647), (7, .ofNat 58, .ofNat 96)] : sIv), ∃ x, ([s0, s1, s2, s3, s4, s5, s6, s7] : List Int)[q.1]? = some x ∧ q.2.1 ≤ x ∧ x ≤ q.2.2 := hN.2.1.2
  have b6 : (58 : Int) ≤ s7 ∧ s7 ≤ (96 : Int) := ivX (q := (7, .ofNat 58, .ofNat 96)) (y := s7) (hIv _ (.tail _ (.tail _ (.tail _ (.tail _ (.tail _ (.tail _ (.head _)))))))) rfl
  have hRf : ∀ q ∈ ([((78, .ofNat 273, []), (.ofNat 4, []), 1, .ofNat 0, [(.ofNat 1, 2)]), ((78, .ofNat 273, []), (.ofNat 13, []), 1, .ofNat 0, [(.ofNat 1, 3)]), ((78, .ofNat 273, []), (.ofNat 14, []), 1, .ofNat 0, [(.ofNat 1, 4)]), ((78, .ofNat 273, []), (.ofNat 17, []), 5, .ofNat 0, [(.ofNat 1, 5)])] : List sRf), rfOk [s0, s1, s2, s3, s4, s5, s6, s7] hp q := hH.1
  have h0 : hI hp 273 4 = s2 := rfI0 (hRf _ (.head _)) (sE_k _ _) (sE_k _ _) (sE_V rfl)
  have y0 : (0 : Int) ≤ s2 ∧ s2 ≤ (940 : Int) := by rw [← h0]; exact hI_ty hO (by decide) rfl
  have h1 : hI hp 273 13 = s3 := rfI0 (hRf _ (.tail _ (.head _))) (sE_k _ _) (sE_k _ _) (sE_V rfl)
  have h2 : hI hp 273 14 = s4 := rfI0 (hRf _ (.tail _ (.tail _ (.head _)))) (sE_k _ _) (sE_k _ _) (sE_V rfl)
  have h3 : hL hp 273 17 = s5 := rfL0 (hRf _ (.tail _ (.tail _ (.tail _ (.head _))))) (sE_k _ _) (sE_k _ _) (sE_V rfl)
  have hFc : ∀ q ∈ ([(114, [(.ofNat 0, [(.ofNat 1, 6)]), (.ofNat 0, [(.ofNat 1, 2)]), (.ofNat 0, [(.ofNat 1, 3)]), (.ofNat 0, [(.ofNat 1, 0)]), (.ofNat 0, [(.ofNat 1, 1)]), (.ofNat 0, [(.ofNat 1, 4)]), (.ofNat 0, [(.ofNat 1, 5)])]), (113, [(.ofNat 0, [(.ofNat 1, 2)]), (.ofNat 0, [(.ofNat 1, 7)])])] : List sFc), fcOk fFS [s0, s1, s2, s3, s4, s5, s6, s7] hp q := hH.2
  have f0 : RNm (MT hp) s6 s2 s3 s0 s1 s4 s5 := fcX (ys := [s6, s2, s3, s0, s1, s4, s5]) (hFc _ (.head _)) ⟨sE_V rfl, sE_V rfl, sE_V rfl, sE_V rfl, sE_V rfl, sE_V rfl, sE_V rfl, trivial⟩
  have f1 : 0 ≤ s2 ∧ s2 < 940 ∧ s7 = MB hp s2 := fcX (ys := [s2, s7]) (hFc _ (.tail _ (.head _))) ⟨sE_V rfl, sE_V rfl, trivial⟩
  exact poX (.head _) rfl hR (all_nil) (all_nil) (all_cons ⟨[s6, s2, s3, s0, s1, s4, s5], ⟨sE_V rfl, sE_V rfl, sE_V rfl, sE_V rfl, sE_V rfl, sE_V rfl, sE_V rfl, trivial⟩, (show REm (MT hp) s6 s2 s3 s0 s1 s4 s5 from rme_m f0 f1 (by omega))⟩ (all_nil))
theorem rl564 : ruOk fFS gR564 := by
  intro r hp hO hN hH
  obtain ⟨s0, s1, s2, s3, s4, s5, s6, s7, rfl⟩ := len8 (show r.length = 8 from hN.1)
  have hR := hN.2.1.1
  have hIv : ∀ q ∈ ([(0, .ofNat 1, .ofNat 1), (1, .ofNat 1, .ofNat 1), (2, .negSucc 2147483647, .ofNat 2147483647), (3, .ofNat 0, .ofNat 7), (4, .negSucc 2147483647, .ofNat 2147483647), (6, .negSucc 2147483647, .ofNat 2147483647), (7, .negSucc 2147483647, .ofNat 2147483647)] : sIv), ∃ x, ([s0, s1, s2, s3, s4, s5, s6, s7] : List Int)[q.1]? = some x ∧ q.2.1 ≤ x ∧ x ≤ q.2.2 := hN.2.1.2
  have b0 : (1 : Int) ≤ s0 ∧ s0 ≤ (1 : Int) := ivX (q := (0, .ofNat 1, .ofNat 1)) (y := s0) (hIv _ (.head _)) rfl
  have b1 : (1 : Int) ≤ s1 ∧ s1 ≤ (1 : Int) := ivX (q := (1, .ofNat 1, .ofNat 1)) (y := s1) (hIv _ (.tail _ (.head _))) rfl
  have b3 : (0 : Int) ≤ s3 ∧ s3 ≤ (7 : Int) := ivX (q := (3, .ofNat 0, .ofNat 7)) (y := s3) (hIv _ (.tail _ (.tail _ (.tail _ (.head _))))) rfl
  have hRf : ∀ q ∈ ([((78, .ofNat 273, []), (.ofNat 4, []), 1, .ofNat 0, [(.ofNat 1, 2)]), ((78, .ofNat 273, []), (.ofNat 13, []), 1, .ofNat 0, [(.ofNat 1, 3)]), ((78, .ofNat 273, []), (.ofNat 14, []), 1, .ofNat 0, [(.ofNat 1, 4)]), ((78, .ofNat 273, []), (.ofNat 17, []), 5, .ofNat 0, [(.ofNat 1, 5)])] : List sRf), rfOk [s0, s1, s2, s3, s4, s5, s6, s7] hp q := hH.1
  have h0 : hI hp 273 4 = s2 := rfI0 (hRf _ (.head _)) (sE_k _ _) (sE_k _ _) (sE_V rfl)
  have y0 : (0 : Int) ≤ s2 ∧ s2 ≤ (940 : Int) := by rw [← h0]; exact hI_ty hO (by decide) rfl
  have h1 : hI hp 273 13 = s3 := rfI0 (hRf _ (.tail _ (.head _))) (sE_k _ _) (sE_k _ _) (sE_V rfl)
  have h2 : hI hp 273 14 = s4 := rfI0 (hRf _ (.tail _ (.tail _ (.head _)))) (sE_k _ _) (sE_k _ _) (sE_V rfl)
  have h3 : hL hp 273 17 = s5 := rfL0 (hRf _ (.tail _ (.tail _ (.tail _ (.head _))))) (sE_k _ _) (sE_k _ _) (sE_V rfl)
  have hFc : ∀ q ∈ ([(115, [(.ofNat 0, [(.ofNat 1, 6)]), (.ofNat 0, [(.ofNat 1, 2)]), (.ofNat 0, [(.ofNat 1, 3)]), (.ofNat 0, [(.ofNat 1, 0)]), (.ofNat 0, [(.ofNat 1, 1)]), (.ofNat 0, [(.ofNat 1, 4)]), (.ofNat 0, [(.ofNat 1, 5)])]), (111, [(.ofNat 0, [(.ofNat 1, 7)]), (.ofNat 0, [(.ofNat 1, 6)])])] : List sFc), fcOk fFS [s0, s1, s2, s3, s4, s5, s6, s7] hp q := hH.2
  have f0 : REm (MT hp) s6 s2 s3 s0 s1 s4 s5 := fcX (ys := [s6, s2, s3, s0, s1, s4, s5]) (hFc _ (.head _)) ⟨sE_V rfl, sE_V rfl, sE_V rfl, sE_V rfl, sE_V rfl, sE_V rfl, sE_V rfl, trivial⟩
  have f1 : P2 (MT hp) s7 s6 := fcX (ys := [s7, s6]) (hFc _ (.tail _ (.head _))) ⟨sE_V rfl, sE_V rfl, trivial⟩
  have u := rm_tw f0 f1 (by omega) (by omega) (by omega)
  exact poX (.head _) rfl hR (all_nil) (all_nil) (all_cons ⟨[s7, s6, s2], ⟨sE_V rfl, sE_V rfl, sE_V rfl, trivial⟩, (show TW (MT hp) s7 s6 s2 from u.1)⟩ (all_cons ⟨[s6, s2], ⟨sE_V rfl, sE_V rfl, trivial⟩, (show isW (bs (MT hp).1 s6 s2) ∧ hL hp 273 17 = cd 256 0 (bs (MT hp).1 s6 s2) from ⟨u.2.1, by rw [h3]; exact u.2.2⟩)⟩ (all_nil)))
theorem rl565 : ruOk fFS gR565 := by
  intro r hp hO hN hH
  obtain ⟨s0, s1, s2, s3, s4, s5, s6, s7, rfl⟩ := len8 (show r.length = 8 from hN.1)
  have hR := hN.2.1.1
  have hIv : ∀ q ∈ ([(0, .ofNat 0, .ofNat 0), (1, .ofNat 1, .ofNat 1), (2, .negSucc 2147483647, .ofNat 2147483647), (3, .ofNat 0, .ofNat 2), (4, .negSucc 2147483647, .ofNat 2147483647), (6, .negSucc 2147483647, .ofNat 2147483647), (7, .negSucc 2147483647, .ofNat 2147483647)] : sIv), ∃ x, ([s0, s1, s2, s3, s4, s5, s6, s7] : List Int)[q.1]? = some x ∧ q.2.1 ≤ x ∧ x ≤ q.2.2 := hN.2.1.2
  have b0 : (0 : Int) ≤ s0 ∧ s0 ≤ (0 : Int) := ivX (q := (0, .ofNat 0, .ofNat 0)) (y := s0) (hIv _ (.head _)) rfl
  have b1 : (1 : Int) ≤ s1 ∧ s1 ≤ (1 : Int) := ivX (q := (1, .ofNat 1, .ofNat 1)) (y := s1) (hIv _ (.tail _ (.head _))) rfl
  have b3 : (0 : Int) ≤ s3 ∧ s3 ≤ (2 : Int) := ivX (q := (3, .ofNat 0, .ofNat 2)) (y := s3) (hIv _ (.tail _ (.tail _ (.tail _ (.head _))))) rfl
  have b4 : (-2147483648 : Int) ≤ s4 ∧ s4 ≤ (2147483647 : Int) := ivX (q := (4, .negSucc 2147483647, .ofNat 2147483647)) (y := s4) (hIv _ (.tail _ (.tail _ (.tail _ (.tail _ (.head _)))))) rfl
  have hRf : ∀ q ∈ ([((78, .ofNat 273, []), (.ofNat 4, []), 1, .ofNat 0, [(.ofNat 1, 2)]), ((78, .ofNat 273, []), (.ofNat 13, []), 1, .ofNat 0, [(.ofNat 1, 3)]), ((78, .ofNat 273, []), (.ofNat 14, []), 1, .ofNat 0, [(.ofNat 1, 4)]), ((78, .ofNat 273, []), (.ofNat 17, []), 5, .ofNat 0, [(.ofNat 1, 5)])] : List sRf), rfOk [s0, s1, s2, s3, s4, s5, s6, s7] hp q := hH.1
  have h0 : hI hp 273 4 = s2 := rfI0 (hRf _ (.head _)) (sE_k _ _) (sE_k _ _) (sE_V rfl)
  have y0 : (0 : Int) ≤ s2 ∧ s2 ≤ (940 : Int) := by rw [← h0]; exact hI_ty hO (by decide) rfl
  have h1 : hI hp 273 13 = s3 := rfI0 (hRf _ (.tail _ (.head _))) (sE_k _ _) (sE_k _ _) (sE_V rfl)
  have h2 : hI hp 273 14 = s4 := rfI0 (hRf _ (.tail _ (.tail _ (.head _)))) (sE_k _ _) (sE_k _ _) (sE_V rfl)
  have h3 : hL hp 273 17 = s5 := rfL0 (hRf _ (.tail _ (.tail _ (.tail _ (.head _))))) (sE_k _ _) (sE_k _ _) (sE_V rfl)
  have hFc : ∀ q ∈ ([(115, [(.ofNat 0, [(.ofNat 1, 6)]), (.ofNat 0, [(.ofNat 1, 2)]), (.ofNat 0, [(.ofNat 1, 3)]), (.ofNat 0, [(.ofNat 1, 0)]), (.ofNat 0, [(.ofNat 1, 1)]), (.ofNat 0, [(.ofNat 1, 4)]), (.ofNat 0, [(.ofNat 1, 5)])]), (111, [(.ofNat 0, [(.ofNat 1, 7)]), (.ofNat 0, [(.ofNat 1, 6)])])] : List sFc), fcOk fFS [s0, s1, s2, s3, s4, s5, s6, s7] hp q := hH.2
  have f0 : REm (MT hp) s6 s2 s3 s0 s1 s4 s5 := fcX (ys := [s6, s2, s3, s0, s1, s4, s5]) (hFc _ (.head _)) ⟨sE_V rfl, sE_V rfl, sE_V rfl, sE_V rfl, sE_V rfl, sE_V rfl, sE_V rfl, trivial⟩
  have f1 : P2 (MT hp) s7 s6 := fcX (ys := [s7, s6]) (hFc _ (.tail _ (.head _))) ⟨sE_V rfl, sE_V rfl, trivial⟩
  have u := rm_num (MT_ok hO) f0 f1 (by omega) (by omega) (by omega)
  exact poX (.head _) rfl hR (all_cons (ivO (y := s4) rfl (show (0 : Int) ≤ s4 by omega) (show s4 ≤ (99 : Int) by omega)) (all_nil)) (all_nil) (all_cons ⟨[s7, 2, s6, s2, s4], ⟨sE_V rfl, sE_k _ _, sE_V rfl, sE_V rfl, sE_V rfl, trivial⟩, (show TKB (MT hp) s7 (2 : Int) s6 s2 s4 from u.1)⟩ (all_nil))
theorem rl566 : ruOk fFS gR566 := by
  intro r hp hO hN hH
  obtain ⟨s0, s1, s2, s3, s4, s5, s6, s7, s8, s9, s10, s11, rfl⟩ := len12 (show r.length = 12 from hN.1)
  have hR := hN.2.1.1
  have hIv : ∀ q ∈ ([(0, .ofNat 0, .ofNat 1), (1, .ofNat 0, .ofNat 0), (2, .negSucc 2147483647, .ofNat 2147483647), (3, .ofNat 1, .ofNat 2), (4, .negSucc 2147483647, .ofNat 2147483647), (6, .negSucc 2147483647, .ofNat 2147483647), (7, .negSucc 2147483647, .ofNat 2147483647), (8, .ofNat 0, .ofNat 0), (9, .negSucc 2147483647, .ofNat 2147483647), (11, .ofNat 97, .ofNat 122)] : sIv), ∃ x, ([s0, s1, s2, s3, s4, s5, s6, s7, s8, s9, s10, s11] : List Int)[q.1]? = some x ∧ q.2.1 ≤ x ∧ x ≤ q.2.2 := hN.2.1.2
  have b0 : (0 : Int) ≤ s0 ∧ s0 ≤ (1 : Int) := ivX (q := (0, .ofNat 0, .ofNat 1)) (y := s0) (hIv _ (.head _)) rfl
  have b1 : (0 : Int) ≤ s1 ∧ s1 ≤ (0 : Int) := ivX (q := (1, .ofNat 0, .ofNat 0)) (y := s1) (hIv _ (.tail _ (.head _))) rfl
  have b3 : (1 : Int) ≤ s3 ∧ s3 ≤ (2 : Int) := ivX (q := (3, .ofNat 1, .ofNat 2)) (y := s3) (hIv _ (.tail _ (.tail _ (.tail _ (.head _))))) rfl
  have b7 : (0 : Int) ≤ s8 ∧ s8 ≤ (0 : Int) := ivX (q := (8, .ofNat 0, .ofNat 0)) (y := s8) (hIv _ (.tail _ (.tail _ (.tail _ (.tail _ (.tail _ (.tail _ (.tail _ (.head _))))))))) rfl
  have b9 : (97 : Int) ≤ s11 ∧ s11 ≤ (122 : Int) := ivX (q := (11, .ofNat 97, .ofNat 122)) (y := s11) (hIv _ (.tail _ (.tail _ (.tail _ (.tail _ (.tail _ (.tail _ (.tail _ (.tail _ (.tail _ (.head _))))))))))) rfl
  have hCs : ∀ c ∈ ([(.ofNat 1, [(.ofNat 1, 2), (.negSucc 0, 6)]), (.ofNat 0, [(.ofNat 1, 5), (.negSucc 255, 10), (.negSucc 0, 11)]), (.ofNat 0, [(.negSucc 0, 5), (.ofNat 256, 10), (.ofNat 1, 11)]), (.ofNat 48, [(.ofNat 1, 4), (.negSucc 9, 9), (.negSucc 0, 11)]), (.negSucc 47, [(.negSucc 0, 4), (.ofNat 10, 9), (.ofNat 1, 11)])] : List sLn), ∃ x, sE [s0, s1, s2, s3, s4, s5, s6, s7, s8, s9, s10, s11] c = some x ∧ x ≤ 0 := hN.2.2.1
  have c0 : ((1 : Int) + ((1 : Int) * s2 + ((-1 : Int) * s6 + 0))) ≤ 0 := csX (hCs _ (.head _)) rfl
  have c1 : ((0 : Int) + ((1 : Int) * s5 + ((-256 : Int) * s10 + ((-1 : Int) * s11 + 0)))) ≤ 0 := csX (hCs _ (.tail _ (.head _))) rfl
  have c2 : ((0 : Int) + ((-1 : Int) * s5 + ((256 : Int) * s10 + ((1 : Int) * s11 + 0)))) ≤ 0 := csX (hCs _ (.tail _ (.tail _ (.head _)))) rfl
  have c3 : ((48 : Int) + ((1 : Int) * s4 + ((-10 : Int) * s9 + ((-1 : Int) * s11 + 0)))) ≤ 0 := csX (hCs _ (.tail _ (.tail _ (.tail _ (.head _))))) rfl
  have c4 : ((-48 : Int) + ((-1 : Int) * s4 + ((10 : Int) * s9 + ((1 : Int) * s11 + 0)))) ≤ 0 := csX (hCs _ (.tail _ (.tail _ (.tail _ (.tail _ (.head _)))))) rfl
  have hRf : ∀ q ∈ ([((78, .ofNat 273, []), (.ofNat 4, []), 1, .ofNat 0, [(.ofNat 1, 2)]), ((78, .ofNat 273, []), (.ofNat 13, []), 1, .ofNat 0, [(.ofNat 1, 3)]), ((78, .ofNat 273, []), (.ofNat 14, []), 1, .ofNat 0, [(.ofNat 1, 4)]), ((78, .ofNat 273, []), (.ofNat 17, []), 5, .ofNat 0, [(.ofNat 1, 5)]), ((78, .ofNat 273, []), (.ofNat 3, []), 1, .ofNat 0, [(.ofNat 1, 6)])] : List sRf), rfOk [s0, s1, s2, s3, s4, s5, s6, s7, s8, s9, s10, s11] hp q := hH.1
  have h0 : hI hp 273 4 = s2 := rfI0 (hRf _ (.head _)) (sE_k _ _) (sE_k _ _) (sE_V rfl)
  have y0 : (0 : Int) ≤ s2 ∧ s2 ≤ (940 : Int) := by rw [← h0]; exact hI_ty hO (by decide) rfl
  have h1 : hI hp 273 13 = s3 := rfI0 (hRf _ (.tail _ (.head _))) (sE_k _ _) (sE_k _ _) (sE_V rfl)
  have h2 : hI hp 273 14 = s4 := rfI0 (hRf _ (.tail _ (.tail _ (.head _)))) (sE_k _ _) (sE_k _ _) (sE_V rfl)
  have h3 : hL hp 273 17 = s5 := rfL0 (hRf _ (.tail _ (.tail _ (.tail _ (.head _))))) (sE_k _ _) (sE_k _ _) (sE_V rfl)
  have h4 : hI hp 273 3 = s6 := rfI0 (hRf _ (.tail _ (.tail _ (.tail _ (.tail _ (.head _)))))) (sE_k _ _) (sE_k _ _) (sE_V rfl)
  have y4 : (0 : Int) ≤ s6 ∧ s6 ≤ (940 : Int) := by rw [← h4]; exact hI_ty hO (by decide) rfl
  have tnm : (MT hp).2.1 = s6 := h4
  have hFc : ∀ q ∈ ([(114, [(.ofNat 0, [(.ofNat 1, 7)]), (.ofNat 0, [(.ofNat 1, 2)]), (.negSucc 0, [(.ofNat 1, 3)]), (.ofNat 0, [(.ofNat 1, 0)]), (.ofNat 0, [(.ofNat 1, 8)]), (.ofNat 0, [(.ofNat 1, 9)]), (.ofNat 0, [(.ofNat 1, 10)])]), (113, [(.ofNat 0, [(.ofNat 1, 2)]), (.ofNat 0, [(.ofNat 1, 11)])])] : List sFc), fcOk fFS [s0, s1, s2, s3, s4, s5, s6, s7, s8, s9, s10, s11] hp q := hH.2
  have f0 : RNm (MT hp) s7 s2 (s3 - 1) s0 s8 s9 s10 := fcX (ys := [s7, s2, (s3 - 1), s0, s8, s9, s10]) (hFc _ (.head _)) ⟨sE_V rfl, sE_V rfl, sEv (y' := ((-1 : Int) + ((1 : Int) * s3 + 0))) rfl (by omega), sE_V rfl, sE_V rfl, sE_V rfl, sE_V rfl, trivial⟩
  have f1 : 0 ≤ s2 ∧ s2 < 940 ∧ s11 = MB hp s2 := fcX (ys := [s2, s11]) (hFc _ (.tail _ (.head _))) ⟨sE_V rfl, sE_V rfl, trivial⟩
  exact poX (.head _) rfl hR (all_nil) (all_nil) (all_cons ⟨[s7, (s2 + 1), s3, s0, s1, s4, s5], ⟨sE_V rfl, sEv (y' := ((1 : Int) + ((1 : Int) * s2 + 0))) rfl (by omega), sE_V rfl, sE_V rfl, sE_V rfl, sE_V rfl, sE_V rfl, trivial⟩, (show RNm (MT hp) s7 (s2 + 1) s3 s0 s1 s4 s5 from rms_m f0 f1 (by omega) (by omega) (by omega) (by omega) (fun _ => by omega) (fun _ => by omega))⟩ (all_nil))
theorem rl567 : ruOk fFS gR567 := by
  intro r hp hO hN hH
  obtain ⟨s0, s1, s2, s3, s4, s5, s6, s7, s8, s9, s10, s11, rfl⟩ := len12 (show r.length = 12 from hN.1)
  have hR := hN.2.1.1
  have hIv : ∀ q ∈ ([(0, .ofNat 0, .ofNat 0), (1, .ofNat 0, .ofNat 0), (2, .negSucc 2147483647, .ofNat 2147483647), (3, .ofNat 1, .ofNat 2), (4, .negSucc 2147483647, .ofNat 2147483647), (6, .negSucc 2147483647, .ofNat 2147483647), (7, .negSucc 2147483647, .ofNat 2147483647), (8, .ofNat 1, .ofNat 1), (9, .negSucc 2147483647, .ofNat 2147483647), (11, .ofNat 97, .ofNat 122)] : sIv), ∃ x, ([s0, s1, s2, s3, s4, s5, s6, s7, s8, s9, s10, s11] : List Int)[q.1]? = some x ∧ q.2.1 ≤ x ∧ x ≤ q.2.2 := hN.2.1.2
  have b0 : (0 : Int) ≤ s0 ∧ s0 ≤ (0 : Int) := ivX (q := (0, .ofNat 0, .ofNat 0)) (y := s0) (hIv _ (.head _)) rfl
  have b1 : (0 : Int) ≤ s1 ∧ s1 ≤ (0 : Int) := ivX (q := (1, .ofNat 0, .ofNat 0)) (y := s1) (hIv _ (.tail _ (.head _))) rfl
  have b3 : (1 : Int) ≤ s3 ∧ s3 ≤ (2 : Int) := ivX (q := (3, .ofNat 1, .ofNat 2)) (y := s3) (hIv _ (.tail _ (.tail _ (.tail _ (.head _))))) rfl
  have b7 : (1 : Int) ≤ s8 ∧ s8 ≤ (1 : Int) := ivX (q := (8, .ofNat 1, .ofNat 1)) (y := s8) (hIv _ (.tail _ (.tail _ (.tail _ (.tail _ (.tail _ (.tail _ (.tail _ (.head _))))))))) rfl
  have b9 : (97 : Int) ≤ s11 ∧ s11 ≤ (122 : Int) := ivX (q := (11, .ofNat 97, .ofNat 122)) (y := s11) (hIv _ (.tail _ (.tail _ (.tail _ (.tail _ (.tail _ (.tail _ (.tail _ (.tail _ (.tail _ (.head _))))))))))) rfl
  have hCs : ∀ c ∈ ([(.ofNat 1, [(.ofNat 1, 2), (.negSucc 0, 6)]), (.ofNat 0, [(.ofNat 1, 5), (.negSucc 255, 10), (.negSucc 0, 11)]), (.ofNat 0, [(.negSucc 0, 5), (.ofNat 256, 10), (.ofNat 1, 11)]), (.ofNat 48, [(.ofNat 1, 4), (.negSucc 9, 9), (.negSucc 0, 11)]), (.negSucc 47, [(.negSucc 0, 4), (.ofNat 10, 9), (.ofNat 1, 11)])] : List sLn), ∃ x, sE [s0, s1, s2, s3, s4, s5, s6, s7, s8, s9, s10, s11] c = some x ∧ x ≤ 0 := hN.2.2.1
  have c0 : ((1 : Int) + ((1 : Int) * s2 + ((-1 : Int) * s6 + 0))) ≤ 0 := csX (hCs _ (.head _)) rfl
  have c1 : ((0 : Int) + ((1 : Int) * s5 + ((-256 : Int) * s10 + ((-1 : Int) * s11 + 0)))) ≤ 0 := csX (hCs _ (.tail _ (.head _))) rfl
  have c2 : ((0 : Int) + ((-1 : Int) * s5 + ((256 : Int) * s10 + ((1 : Int) * s11 + 0)))) ≤ 0 := csX (hCs _ (.tail _ (.tail _ (.head _)))) rfl
  have c3 : ((48 : Int) + ((1 : Int) * s4 + ((-10 : Int) * s9 + ((-1 : Int) * s11 + 0)))) ≤ 0 := csX (hCs _ (.tail _ (.tail _ (.tail _ (.head _))))) rfl
  have c4 : ((-48 : Int) + ((-1 : Int) * s4 + ((10 : Int) * s9 + ((1 : Int) * s11 + 0)))) ≤ 0 := csX (hCs _ (.tail _ (.tail _ (.tail _ (.tail _ (.head _)))))) rfl
  have hRf : ∀ q ∈ ([((78, .ofNat 273, []), (.ofNat 4, []), 1, .ofNat 0, [(.ofNat 1, 2)]), ((78, .ofNat 273, []), (.ofNat 13, []), 1, .ofNat 0, [(.ofNat 1, 3)]), ((78, .ofNat 273, []), (.ofNat 14, []), 1, .ofNat 0, [(.ofNat 1, 4)]), ((78, .ofNat 273, []), (.ofNat 17, []), 5, .ofNat 0, [(.ofNat 1, 5)]), ((78, .ofNat 273, []), (.ofNat 3, []), 1, .ofNat 0, [(.ofNat 1, 6)])] : List sRf), rfOk [s0, s1, s2, s3, s4, s5, s6, s7, s8, s9, s10, s11] hp q := hH.1
  have h0 : hI hp 273 4 = s2 := rfI0 (hRf _ (.head _)) (sE_k _ _) (sE_k _ _) (sE_V rfl)
  have y0 : (0 : Int) ≤ s2 ∧ s2 ≤ (940 : Int) := by rw [← h0]; exact hI_ty hO (by decide) rfl
  have h1 : hI hp 273 13 = s3 := rfI0 (hRf _ (.tail _ (.head _))) (sE_k _ _) (sE_k _ _) (sE_V rfl)
  have h2 : hI hp 273 14 = s4 := rfI0 (hRf _ (.tail _ (.tail _ (.head _)))) (sE_k _ _) (sE_k _ _) (sE_V rfl)
  have h3 : hL hp 273 17 = s5 := rfL0 (hRf _ (.tail _ (.tail _ (.tail _ (.head _))))) (sE_k _ _) (sE_k _ _) (sE_V rfl)
  have h4 : hI hp 273 3 = s6 := rfI0 (hRf _ (.tail _ (.tail _ (.tail _ (.tail _ (.head _)))))) (sE_k _ _) (sE_k _ _) (sE_V rfl)
  have y4 : (0 : Int) ≤ s6 ∧ s6 ≤ (940 : Int) := by rw [← h4]; exact hI_ty hO (by decide) rfl
  have tnm : (MT hp).2.1 = s6 := h4
  have hFc : ∀ q ∈ ([(114, [(.ofNat 0, [(.ofNat 1, 7)]), (.ofNat 0, [(.ofNat 1, 2)]), (.negSucc 0, [(.ofNat 1, 3)]), (.ofNat 0, [(.ofNat 1, 0)]), (.ofNat 0, [(.ofNat 1, 8)]), (.ofNat 0, [(.ofNat 1, 9)]), (.ofNat 0, [(.ofNat 1, 10)])]), (113, [(.ofNat 0, [(.ofNat 1, 2)]), (.ofNat 0, [(.ofNat 1, 11)])])] : List sFc), fcOk fFS [s0, s1, s2, s3, s4, s5, s6, s7, s8, s9, s10, s11] hp q := hH.2
  have f0 : RNm (MT hp) s7 s2 (s3 - 1) s0 s8 s9 s10 := fcX (ys := [s7, s2, (s3 - 1), s0, s8, s9, s10]) (hFc _ (.head _)) ⟨sE_V rfl, sE_V rfl, sEv (y' := ((-1 : Int) + ((1 : Int) * s3 + 0))) rfl (by omega), sE_V rfl, sE_V rfl, sE_V rfl, sE_V rfl, trivial⟩
  have f1 : 0 ≤ s2 ∧ s2 < 940 ∧ s11 = MB hp s2 := fcX (ys := [s2, s11]) (hFc _ (.tail _ (.head _))) ⟨sE_V rfl, sE_V rfl, trivial⟩
  exact poX (.head _) rfl hR (all_nil) (all_nil) (all_cons ⟨[s7, (s2 + 1), s3, s0, s1, s4, s5], ⟨sE_V rfl, sEv (y' := ((1 : Int) + ((1 : Int) * s2 + 0))) rfl (by omega), sE_V rfl, sE_V rfl, sE_V rfl, sE_V rfl, sE_V rfl, trivial⟩, (show RNm (MT hp) s7 (s2 + 1) s3 s0 s1 s4 s5 from rms_m f0 f1 (by omega) (by omega) (by omega) (by omega) (fun _ => by omega) (fun _ => by omega))⟩ (all_nil))
theorem rl568 : ruOk fFS gR568 := by
  intro r hp hO hN hH
  obtain ⟨s0, s1, s2, s3, s4, s5, s6, s7, s8, s9, s10, s11, rfl⟩ := len12 (show r.length = 12 from hN.1)
  have hR := hN.2.1.1
  have hIv : ∀ q ∈ ([(0, .ofNat 1, .ofNat 1), (1, .ofNat 1, .ofNat 1), (2, .negSucc 2147483647, .ofNat 2147483647), (3, .ofNat 1, .ofNat 2), (4, .negSucc 2147483647, .ofNat 2147483647), (6, .negSucc 2147483647, .ofNat 2147483647), (7, .negSucc 2147483647, .ofNat 2147483647), (8, .ofNat 1, .ofNat 1), (9, .negSucc 2147483647, .ofNat 2147483647), (11, .ofNat 97, .ofNat 122)] : sIv), ∃ x, ([s0, s1, s2, s3, s4, s5, s6, s7, s8, s9, s10, s11] : List Int)[q.1]? = some x ∧ q.2.1 ≤ x ∧ x ≤ q.2.2 := hN.2.1.2
  have b0 : (1 : Int) ≤ s0 ∧ s0 ≤ (1 : Int) := ivX (q := (0, .ofNat 1, .ofNat 1)) (y := s0) (hIv _ (.head _)) rfl
  have b1 : (1 : Int) ≤ s1 ∧ s1 ≤ (1 : Int) := ivX (q := (1, .ofNat 1, .ofNat 1)) (y := s1) (hIv _ (.tail _ (.head _))) rfl
  have b3 : (1 : Int) ≤ s3 ∧ s3 ≤ (2 : Int) := ivX (q := (3, .ofNat 1, .ofNat 2)) (y := s3) (hIv _ (.tail _ (.tail _ (.tail _ (.head _))))) rfl
  have b7 : (1 : Int) ≤ s8 ∧ s8 ≤ (1 : Int) := ivX (q := (8, .ofNat 1, .ofNat 1)) (y := s8) (hIv _ (.tail _ (.tail _ (.tail _ (.tail _ (.tail _ (.tail _ (.tail _ (.head _))))))))) rfl
  have b9 : (97 : Int) ≤ s11 ∧ s11 ≤ (122 : Int) := ivX (q := (11, .ofNat 97, .ofNat 122)) (y := s11) (hIv _ (.tail _ (.tail _ (.tail _ (.tail _ (.tail _ (.tail _ (.tail _ (.tail _ (.tail _ (.head _))))))))))) rfl
  have hCs : ∀ c ∈ ([(.ofNat 1, [(.ofNat 1, 2), (.negSucc 0, 6)]), (.ofNat 0, [(.ofNat 1, 5), (.negSucc 255, 10), (.negSucc 0, 11)]), (.ofNat 0, [(.negSucc 0, 5), (.ofNat 256, 10), (.ofNat 1, 11)]), (.ofNat 48, [(.ofNat 1, 4), (.negSucc 9, 9), (.negSucc 0, 11)]), (.negSucc 47, [(.negSucc 0, 4), (.ofNat 10, 9), (.ofNat 1, 11)])] : List sLn), ∃ x, sE [s0, s1, s2, s3, s4, s5, s6, s7, s8, s9, s10, s11] c = some x ∧ x ≤ 0 := hN.2.2.1
  have c0 : ((1 : Int) + ((1 : Int) * s2 + ((-1 : Int) * s6 + 0))) ≤ 0 := csX (hCs _ (.head _)) rfl
  have c1 : ((0 : Int) + ((1 : Int) * s5 + ((-256 : Int) * s10 + ((-1 : Int) * s11 + 0)))) ≤ 0 := csX (hCs _ (.tail _ (.head _))) rfl
  have c2 : ((0 : Int) + ((-1 : Int) * s5 + ((256 : Int) * s10 + ((1 : Int) * s11 + 0)))) ≤ 0 := csX (hCs _ (.tail _ (.tail _ (.head _)))) rfl
  have c3 : ((48 : Int) + ((1 : Int) * s4 + ((-10 : Int) * s9 + ((-1 : Int) * s11 + 0)))) ≤ 0 := csX (hCs _ (.tail _ (.tail _ (.tail _ (.head _))))) rfl
  have c4 : ((-48 : Int) + ((-1 : Int) * s4 + ((10 : Int) * s9 + ((1 : Int) * s11 + 0)))) ≤ 0 := csX (hCs _ (.tail _ (.tail _ (.tail _ (.tail _ (.head _)))))) rfl
  have hRf : ∀ q ∈ ([((78, .ofNat 273, []), (.ofNat 4, []), 1, .ofNat 0, [(.ofNat 1, 2)]), ((78, .ofNat 273, []), (.ofNat 13, []), 1, .ofNat 0, [(.ofNat 1, 3)]), ((78, .ofNat 273, []), (.ofNat 14, []), 1, .ofNat 0, [(.ofNat 1, 4)]), ((78, .ofNat 273, []), (.ofNat 17, []), 5, .ofNat 0, [(.ofNat 1, 5)]), ((78, .ofNat 273, []), (.ofNat 3, []), 1, .ofNat 0, [(.ofNat 1, 6)])] : List sRf), rfOk [s0, s1, s2, s3, s4, s5, s6, s7, s8, s9, s10, s11] hp q := hH.1
  have h0 : hI hp 273 4 = s2 := rfI0 (hRf _ (.head _)) (sE_k _ _) (sE_k _ _) (sE_V rfl)
  have y0 : (0 : Int) ≤ s2 ∧ s2 ≤ (940 : Int) := by rw [← h0]; exact hI_ty hO (by decide) rfl
  have h1 : hI hp 273 13 = s3 := rfI0 (hRf _ (.tail _ (.head _))) (sE_k _ _) (sE_k _ _) (sE_V rfl)
  have h2 : hI hp 273 14 = s4 := rfI0 (hRf _ (.tail _ (.tail _ (.head _)))) (sE_k _ _) (sE_k _ _) (sE_V rfl)
  have h3 : hL hp 273 17 = s5 := rfL0 (hRf _ (.tail _ (.tail _ (.tail _ (.head _))))) (sE_k _ _) (sE_k _ _) (sE_V rfl)
  have h4 : hI hp 273 3 = s6 := rfI0 (hRf _ (.tail _ (.tail _ (.tail _ (.tail _ (.head _)))))) (sE_k _ _) (sE_k _ _) (sE_V rfl)
  have y4 : (0 : Int) ≤ s6 ∧ s6 ≤ (940 : Int) := by rw [← h4]; exact hI_ty hO (by decide) rfl
  have tnm : (MT hp).2.1 = s6 := h4
  have hFc : ∀ q ∈ ([(114, [(.ofNat 0, [(.ofNat 1, 7)]), (.ofNat 0, [(.ofNat 1, 2)]), (.negSucc 0, [(.ofNat 1, 3)]), (.ofNat 0, [(.ofNat 1, 0)]), (.ofNat 0, [(.ofNat 1, 8)]), (.ofNat 0, [(.ofNat 1, 9)]), (.ofNat 0, [(.ofNat 1, 10)])]), (113, [(.ofNat 0, [(.ofNat 1, 2)]), (.ofNat 0, [(.ofNat 1, 11)])])] : List sFc), fcOk fFS [s0, s1, s2, s3, s4, s5, s6, s7, s8, s9, s10, s11] hp q := hH.2
  have f0 : RNm (MT hp) s7 s2 (s3 - 1) s0 s8 s9 s10 := fcX (ys := [s7, s2, (s3 - 1), s0, s8, s9, s10]) (hFc _ (.head _)) ⟨sE_V rfl, sE_V rfl, sEv (y' := ((-1 : Int) + ((1 : Int) * s3 + 0))) rfl (by omega), sE_V rfl, sE_V rfl, sE_V rfl, sE_V rfl, trivial⟩
  have f1 : 0 ≤ s2 ∧ s2 < 940 ∧ s11 = MB hp s2 := fcX (ys := [s2, s11]) (hFc _ (.tail _ (.head _))) ⟨sE_V rfl, sE_V rfl, trivial⟩
  exact poX (.head _) rfl hR (all_nil) (all_nil) (all_cons ⟨[s7, (s2 + 1), s3, s0, s1, s4, s5], ⟨sE_V rfl, sEv (y' := ((1 : Int) + ((1 : Int) * s2 + 0))) rfl (by omega), sE_V rfl, sE_V rfl, sE_V rfl, sE_V rfl, sE_V rfl, trivial⟩, (show RNm (MT hp) s7 (s2 + 1) s3 s0 s1 s4 s5 from rms_m f0 f1 (by omega) (by omega) (by omega) (by omega) (fun _ => by omega) (fun _ => by omega))⟩ (all_nil))
theorem rl569 : ruOk fFS gR569 := by
  intro r hp hO hN hH
  obtain ⟨s0, s1, s2, s3, s4, s5, s6, s7, rfl⟩ := len8 (show r.length = 8 from hN.1)
  have hR := hN.2.1.1
  have hIv : ∀ q ∈ ([(0, .negSucc 2147483647, .ofNat 2147483647), (1, .negSucc 2147483647, .ofNat 2147483647), (2, .negSucc 2147483647, .ofNat 2147483647), (3, .negSucc 2147483647, .ofNat 2147483647), (4, .negSucc 2147483647, .ofNat 2147483647), (6, .negSucc 2147483647, .ofNat 2147483647), (7, .ofNat 123, .ofNat 255)] : sIv), ∃ x, ([s0, s1, s2, s3, s4, s5, s6, s7] : List Int)[q.1]? = some x ∧ q.2.1 ≤ x ∧ x ≤ q.2.2 := hN.2.1.2
  have b6 : (123 : Int) ≤ s7 ∧ s7 ≤ (255 : Int) := ivX (q := (7, .ofNat 123, .ofNat 255)) (y := s7) (hIv _ (.tail _ (.tail _ (.tail _ (.tail _ (.tail _ (.tail _ (.head _)))))))) rfl
  have hRf : ∀ q ∈ ([((78, .ofNat 273, []), (.ofNat 4, []), 1, .ofNat 0, [(.ofNat 1, 2)]), ((78, .ofNat 273, []), (.ofNat 13, []), 1, .ofNat 0, [(.ofNat 1, 3)]), ((78, .ofNat 273, []), (.ofNat 14, []), 1, .ofNat 0, [(.ofNat 1, 4)]), ((78, .ofNat 273, []), (.ofNat 17, []), 5, .ofNat 0, [(.ofNat 1, 5)])] : List sRf), rfOk [s0, s1, s2, s3, s4, s5, s6, s7] hp q := hH.1
  have h0 : hI hp 273 4 = s2 := rfI0 (hRf _ (.head _)) (sE_k _ _) (sE_k _ _) (sE_V rfl)
  have y0 : (0 : Int) ≤ s2 ∧ s2 ≤ (940 : Int) := by rw [← h0]; exact hI_ty hO (by decide) rfl
  have h1 : hI hp 273 13 = s3 := rfI0 (hRf _ (.tail _ (.head _))) (sE_k _ _) (sE_k _ _) (sE_V rfl)
  have h2 : hI hp 273 14 = s4 := rfI0 (hRf _ (.tail _ (.tail _ (.head _)))) (sE_k _ _) (sE_k _ _) (sE_V rfl)
  have h3 : hL hp 273 17 = s5 := rfL0 (hRf _ (.tail _ (.tail _ (.tail _ (.head _))))) (sE_k _ _) (sE_k _ _) (sE_V rfl)
  have hFc : ∀ q ∈ ([(114, [(.ofNat 0, [(.ofNat 1, 6)]), (.ofNat 0, [(.ofNat 1, 2)]), (.ofNat 0, [(.ofNat 1, 3)]), (.ofNat 0, [(.ofNat 1, 0)]), (.ofNat 0, [(.ofNat 1, 1)]), (.ofNat 0, [(.ofNat 1, 4)]), (.ofNat 0, [(.ofNat 1, 5)])]), (113, [(.ofNat 0, [(.ofNat 1, 2)]), (.ofNat 0, [(.ofNat 1, 7)])])] : List sFc), fcOk fFS [s0, s1, s2, s3, s4, s5, s6, s7] hp q := hH.2
  have f0 : RNm (MT hp) s6 s2 s3 s0 s1 s4 s5 := fcX (ys := [s6, s2, s3, s0, s1, s4, s5]) (hFc _ (.head _)) ⟨sE_V rfl, sE_V rfl, sE_V rfl, sE_V rfl, sE_V rfl, sE_V rfl, sE_V rfl, trivial⟩
  have f1 : 0 ≤ s2 ∧ s2 < 940 ∧ s7 = MB hp s2 := fcX (ys := [s2, s7]) (hFc _ (.tail _ (.head _))) ⟨sE_V rfl, sE_V rfl, trivial⟩
  exact poX (.head _) rfl hR (all_nil) (all_nil) (all_cons ⟨[s6, s2, s3, s0, s1, s4, s5], ⟨sE_V rfl, sE_V rfl, sE_V rfl, sE_V rfl, sE_V rfl, sE_V rfl, sE_V rfl, trivial⟩, (show REm (MT hp) s6 s2 s3 s0 s1 s4 s5 from rme_m f0 f1 (by omega))⟩ (all_nil))
theorem rl570 : ruOk fFS gR570 := by
  intro r hp hO hN hH
  obtain ⟨s0, s1, s2, s3, s4, s5, s6, s7, rfl⟩ := len8 (show r.length = 8 from hN.1)
  have hR := hN.2.1.1
  have hIv : ∀ q ∈ ([(0, .negSucc 2147483647, .ofNat 2147483647), (1, .negSucc 2147483647, .ofNat 2147483647), (2, .negSucc 2147483647, .ofNat 2147483647), (3, .negSucc 2147483647, .ofNat 2147483647), (4, .negSucc 2147483647, .ofNat 2147483647), (6, .negSucc 2147483647, .ofNat 2147483647), (7, .negSucc 2147483647, .ofNat 2147483647)] : sIv), ∃ x, ([s0, s1, s2, s3, s4, s5, s6, s7] : List Int)[q.1]? = some x ∧ q.2.1 ≤ x ∧ x ≤ q.2.2 := hN.2.1.2
  have hCs : ∀ c ∈ ([(.ofNat 0, [(.negSucc 0, 2), (.ofNat 1, 6)])] : List sLn), ∃ x, sE [s0, s1, s2, s3, s4, s5, s6, s7] c = some x ∧ x ≤ 0 := hN.2.2.1
  have c0 : ((0 : Int) + ((-1 : Int) * s2 + ((1 : Int) * s6 + 0))) ≤ 0 := csX (hCs _ (.head _)) rfl
  have hRf : ∀ q ∈ ([((78, .ofNat 273, []), (.ofNat 4, []), 1, .ofNat 0, [(.ofNat 1, 2)]), ((78, .ofNat 273, []), (.ofNat 13, []), 1, .ofNat 0, [(.ofNat 1, 3)]), ((78, .ofNat 273, []), (.ofNat 14, []), 1, .ofNat 0, [(.ofNat 1, 4)]), ((78, .ofNat 273, []), (.ofNat 17, []), 5, .ofNat 0, [(.ofNat 1, 5)]), ((78, .ofNat 273, []), (.ofNat 3, []), 1, .ofNat 0, [(.ofNat 1, 6)])] : List sRf), rfOk [s0, s1, s2, s3, s4, s5, s6, s7] hp q := hH.1
  have h0 : hI hp 273 4 = s2 := rfI0 (hRf _ (.head _)) (sE_k _ _) (sE_k _ _) (sE_V rfl)
  have y0 : (0 : Int) ≤ s2 ∧ s2 ≤ (940 : Int) := by rw [← h0]; exact hI_ty hO (by decide) rfl
  have h1 : hI hp 273 13 = s3 := rfI0 (hRf _ (.tail _ (.head _))) (sE_k _ _) (sE_k _ _) (sE_V rfl)
  have h2 : hI hp 273 14 = s4 := rfI0 (hRf _ (.tail _ (.tail _ (.head _)))) (sE_k _ _) (sE_k _ _) (sE_V rfl)
  have h3 : hL hp 273 17 = s5 := rfL0 (hRf _ (.tail _ (.tail _ (.tail _ (.head _))))) (sE_k _ _) (sE_k _ _) (sE_V rfl)
  have h4 : hI hp 273 3 = s6 := rfI0 (hRf _ (.tail _ (.tail _ (.tail _ (.tail _ (.head _)))))) (sE_k _ _) (sE_k _ _) (sE_V rfl)
  have y4 : (0 : Int) ≤ s6 ∧ s6 ≤ (940 : Int) := by rw [← h4]; exact hI_ty hO (by decide) rfl
  have tnm : (MT hp).2.1 = s6 := h4
  have hFc : ∀ q ∈ ([(114, [(.ofNat 0, [(.ofNat 1, 7)]), (.ofNat 0, [(.ofNat 1, 2)]), (.ofNat 0, [(.ofNat 1, 3)]), (.ofNat 0, [(.ofNat 1, 0)]), (.ofNat 0, [(.ofNat 1, 1)]), (.ofNat 0, [(.ofNat 1, 4)]), (.ofNat 0, [(.ofNat 1, 5)])])] : List sFc), fcOk fFS [s0, s1, s2, s3, s4, s5, s6, s7] hp q := hH.2
  have f0 : RNm (MT hp) s7 s2 s3 s0 s1 s4 s5 := fcX (ys := [s7, s2, s3, s0, s1, s4, s5]) (hFc _ (.head _)) ⟨sE_V rfl, sE_V rfl, sE_V rfl, sE_V rfl, sE_V rfl, sE_V rfl, sE_V rfl, trivial⟩
  exact poX (.head _) rfl hR (all_nil) (all_nil) (all_cons ⟨[s7, s2, s3, s0, s1, s4, s5], ⟨sE_V rfl, sE_V rfl, sE_V rfl, sE_V rfl, sE_V rfl, sE_V rfl, sE_V rfl, trivial⟩, (show REm (MT hp) s7 s2 s3 s0 s1 s4 s5 from ⟨f0, fun w => absurd w (by omega)⟩)⟩ (all_nil))
theorem rl571 : ruOk fFS gR571 := by
  intro r hp hO hN hH
  obtain ⟨s0, s1, s2, s3, s4, s5, s6, s7, rfl⟩ := len8 (show r.length = 8 from hN.1)
  have hR := hN.2.1.1
  have hIv : ∀ q ∈ ([(0, .negSucc 2147483647, .ofNat 2147483647), (1, .ofNat 0, .ofNat 0), (2, .negSucc 2147483647, .ofNat 2147483647), (3, .negSucc 2147483647, .ofNat 2147483647), (4, .negSucc 2147483647, .ofNat 2147483647), (6, .negSucc 2147483647, .ofNat 2147483647), (7, .negSucc 2147483647, .ofNat 2147483647)] : sIv), ∃ x, ([s0, s1, s2, s3, s4, s5, s6, s7] : List Int)[q.1]? = some x ∧ q.2.1 ≤ x ∧ x ≤ q.2.2 := hN.2.1.2
  have b1 : (0 : Int) ≤ s1 ∧ s1 ≤ (0 : Int) := ivX (q := (1, .ofNat 0, .ofNat 0)) (y := s1) (hIv _ (.tail _ (.head _))) rfl
  have hRf : ∀ q ∈ ([((78, .ofNat 273, []), (.ofNat 4, []), 1, .ofNat 0, [(.ofNat 1, 2)]), ((78, .ofNat 273, []), (.ofNat 13, []), 1, .ofNat 0, [(.ofNat 1, 3)]), ((78, .ofNat 273, []), (.ofNat 14, []), 1, .ofNat 0, [(.ofNat 1, 4)]), ((78, .ofNat 273, []), (.ofNat 17, []), 5, .ofNat 0, [(.ofNat 1, 5)])] : List sRf), rfOk [s0, s1, s2, s3, s4, s5, s6, s7] hp q := hH.1
  have h0 : hI hp 273 4 = s2 := rfI0 (hRf _ (.head _)) (sE_k _ _) (sE_k _ _) (sE_V rfl)
  have y0 : (0 : Int) ≤ s2 ∧ s2 ≤ (940 : Int) := by rw [← h0]; exact hI_ty hO (by decide) rfl
  have h1 : hI hp 273 13 = s3 := rfI0 (hRf _ (.tail _ (.head _))) (sE_k _ _) (sE_k _ _) (sE_V rfl)
  have h2 : hI hp 273 14 = s4 := rfI0 (hRf _ (.tail _ (.tail _ (.head _)))) (sE_k _ _) (sE_k _ _) (sE_V rfl)
  have h3 : hL hp 273 17 = s5 := rfL0 (hRf _ (.tail _ (.tail _ (.tail _ (.head _))))) (sE_k _ _) (sE_k _ _) (sE_V rfl)
  have hFc : ∀ q ∈ ([(115, [(.ofNat 0, [(.ofNat 1, 6)]), (.ofNat 0, [(.ofNat 1, 2)]), (.ofNat 0, [(.ofNat 1, 3)]), (.ofNat 0, [(.ofNat 1, 0)]), (.ofNat 0, [(.ofNat 1, 1)]), (.ofNat 0, [(.ofNat 1, 4)]), (.ofNat 0, [(.ofNat 1, 5)])]), (111, [(.ofNat 0, [(.ofNat 1, 7)]), (.ofNat 0, [(.ofNat 1, 6)])])] : List sFc), fcOk fFS [s0, s1, s2, s3, s4, s5, s6, s7] hp q := hH.2
  have f0 : REm (MT hp) s6 s2 s3 s0 s1 s4 s5 := fcX (ys := [s6, s2, s3, s0, s1, s4, s5]) (hFc _ (.head _)) ⟨sE_V rfl, sE_V rfl, sE_V rfl, sE_V rfl, sE_V rfl, sE_V rfl, sE_V rfl, trivial⟩
  have f1 : P2 (MT hp) s7 s6 := fcX (ys := [s7, s6]) (hFc _ (.tail _ (.head _))) ⟨sE_V rfl, sE_V rfl, trivial⟩
  exact poX (.head _) rfl hR (all_nil) (all_nil) (all_cons ⟨[s7, 4, s6, s2, (-1)], ⟨sE_V rfl, sE_k _ _, sE_V rfl, sE_V rfl, sE_k _ _, trivial⟩, (show TKB (MT hp) s7 (4 : Int) s6 s2 (-1 : Int) from rm_bad (MT_ok hO) f0 f1 (by omega))⟩ (all_nil))
theorem rl572 : ruOk fFS gR572 := by
  intro r hp hO hN hH
  obtain ⟨s0, s1, s2, s3, s4, s5, s6, s7, rfl⟩ := len8 (show r.length = 8 from hN.1)
  have hR := hN.2.1.1
  have hIv : ∀ q ∈ ([(0, .ofNat 1, .ofNat 1), (1, .ofNat 1, .ofNat 1), (2, .negSucc 2147483647, .ofNat 2147483647), (3, .ofNat 8, .ofNat 941), (4, .negSucc 2147483647, .ofNat 2147483647), (6, .negSucc 2147483647, .ofNat 2147483647), (7, .negSucc 2147483647, .ofNat 2147483647)] : sIv), ∃ x, ([s0, s1, s2, s3, s4, s5, s6, s7] : List Int)[q.1]? = some x ∧ q.2.1 ≤ x ∧ x ≤ q.2.2 := hN.2.1.2
  have b0 : (1 : Int) ≤ s0 ∧ s0 ≤ (1 : Int) := ivX (q := (0, .ofNat 1, .ofNat 1)) (y := s0) (hIv _ (.head _)) rfl
  have b1 : (1 : Int) ≤ s1 ∧ s1 ≤ (1 : Int) := ivX (q := (1, .ofNat 1, .ofNat 1)) (y := s1) (hIv _ (.tail _ (.head _))) rfl
  have b3 : (8 : Int) ≤ s3 ∧ s3 ≤ (941 : Int) := ivX (q := (3, .ofNat 8, .ofNat 941)) (y := s3) (hIv _ (.tail _ (.tail _ (.tail _ (.head _))))) rfl
  have hRf : ∀ q ∈ ([((78, .ofNat 273, []), (.ofNat 4, []), 1, .ofNat 0, [(.ofNat 1, 2)]), ((78, .ofNat 273, []), (.ofNat 13, []), 1, .ofNat 0, [(.ofNat 1, 3)]), ((78, .ofNat 273, []), (.ofNat 14, []), 1, .ofNat 0, [(.ofNat 1, 4)]), ((78, .ofNat 273, []), (.ofNat 17, []), 5, .ofNat 0, [(.ofNat 1, 5)])] : List sRf), rfOk [s0, s1, s2, s3, s4, s5, s6, s7] hp q := hH.1
  have h0 : hI hp 273 4 = s2 := rfI0 (hRf _ (.head _)) (sE_k _ _) (sE_k _ _) (sE_V rfl)
  have y0 : (0 : Int) ≤ s2 ∧ s2 ≤ (940 : Int) := by rw [← h0]; exact hI_ty hO (by decide) rfl
  have h1 : hI hp 273 13 = s3 := rfI0 (hRf _ (.tail _ (.head _))) (sE_k _ _) (sE_k _ _) (sE_V rfl)
  have h2 : hI hp 273 14 = s4 := rfI0 (hRf _ (.tail _ (.tail _ (.head _)))) (sE_k _ _) (sE_k _ _) (sE_V rfl)
  have h3 : hL hp 273 17 = s5 := rfL0 (hRf _ (.tail _ (.tail _ (.tail _ (.head _))))) (sE_k _ _) (sE_k _ _) (sE_V rfl)
  have hFc : ∀ q ∈ ([(115, [(.ofNat 0, [(.ofNat 1, 6)]), (.ofNat 0, [(.ofNat 1, 2)]), (.ofNat 0, [(.ofNat 1, 3)]), (.ofNat 0, [(.ofNat 1, 0)]), (.ofNat 0, [(.ofNat 1, 1)]), (.ofNat 0, [(.ofNat 1, 4)]), (.ofNat 0, [(.ofNat 1, 5)])]), (111, [(.ofNat 0, [(.ofNat 1, 7)]), (.ofNat 0, [(.ofNat 1, 6)])])] : List sFc), fcOk fFS [s0, s1, s2, s3, s4, s5, s6, s7] hp q := hH.2
  have f0 : REm (MT hp) s6 s2 s3 s0 s1 s4 s5 := fcX (ys := [s6, s2, s3, s0, s1, s4, s5]) (hFc _ (.head _)) ⟨sE_V rfl, sE_V rfl, sE_V rfl, sE_V rfl, sE_V rfl, sE_V rfl, sE_V rfl, trivial⟩
  have f1 : P2 (MT hp) s7 s6 := fcX (ys := [s7, s6]) (hFc _ (.tail _ (.head _))) ⟨sE_V rfl, sE_V rfl, trivial⟩
  exact poX (.head _) rfl hR (all_nil) (all_nil) (all_cons ⟨[s7, 4, s6, s2, (-1)], ⟨sE_V rfl, sE_k _ _, sE_V rfl, sE_V rfl, sE_k _ _, trivial⟩, (show TKB (MT hp) s7 (4 : Int) s6 s2 (-1 : Int) from rm_bad (MT_ok hO) f0 f1 (by omega))⟩ (all_nil))
theorem rl573 : ruOk fFS gR573 := by
  intro r hp hO hN hH
  obtain ⟨s0, s1, s2, s3, s4, s5, s6, s7, rfl⟩ := len8 (show r.length = 8 from hN.1)
  have hR := hN.2.1.1
  have hIv : ∀ q ∈ ([(0, .ofNat 0, .ofNat 0), (1, .ofNat 1, .ofNat 1), (2, .negSucc 2147483647, .ofNat 2147483647), (3, .ofNat 3, .ofNat 941), (4, .negSucc 2147483647, .ofNat 2147483647), (6, .negSucc 2147483647, .ofNat 2147483647), (7, .negSucc 2147483647, .ofNat 2147483647)] : sIv), ∃ x, ([s0, s1, s2, s3, s4, s5, s6, s7] : List Int)[q.1]? = some x ∧ q.2.1 ≤ x ∧ x ≤ q.2.2 := hN.2.1.2
  have b0 : (0 : Int) ≤ s0 ∧ s0 ≤ (0 : Int) := ivX (q := (0, .ofNat 0, .ofNat 0)) (y := s0) (hIv _ (.head _)) rfl
  have b1 : (1 : Int) ≤ s1 ∧ s1 ≤ (1 : Int) := ivX (q := (1, .ofNat 1, .ofNat 1)) (y := s1) (hIv _ (.tail _ (.head _))) rfl
  have b3 : (3 : Int) ≤ s3 ∧ s3 ≤ (941 : Int) := ivX (q := (3, .ofNat 3, .ofNat 941)) (y := s3) (hIv _ (.tail _ (.tail _ (.tail _ (.head _))))) rfl
  have hRf : ∀ q ∈ ([((78, .ofNat 273, []), (.ofNat 4, []), 1, .ofNat 0, [(.ofNat 1, 2)]), ((78, .ofNat 273, []), (.ofNat 13, []), 1, .ofNat 0, [(.ofNat 1, 3)]), ((78, .ofNat 273, []), (.ofNat 14, []), 1, .ofNat 0, [(.ofNat 1, 4)]), ((78, .ofNat 273, []), (.ofNat 17, []), 5, .ofNat 0, [(.ofNat 1, 5)])] : List sRf), rfOk [s0, s1, s2, s3, s4, s5, s6, s7] hp q := hH.1
  have h0 : hI hp 273 4 = s2 := rfI0 (hRf _ (.head _)) (sE_k _ _) (sE_k _ _) (sE_V rfl)
  have y0 : (0 : Int) ≤ s2 ∧ s2 ≤ (940 : Int) := by rw [← h0]; exact hI_ty hO (by decide) rfl
  have h1 : hI hp 273 13 = s3 := rfI0 (hRf _ (.tail _ (.head _))) (sE_k _ _) (sE_k _ _) (sE_V rfl)
  have h2 : hI hp 273 14 = s4 := rfI0 (hRf _ (.tail _ (.tail _ (.head _)))) (sE_k _ _) (sE_k _ _) (sE_V rfl)
  have h3 : hL hp 273 17 = s5 := rfL0 (hRf _ (.tail _ (.tail _ (.tail _ (.head _))))) (sE_k _ _) (sE_k _ _) (sE_V rfl)
  have hFc : ∀ q ∈ ([(115, [(.ofNat 0, [(.ofNat 1, 6)]), (.ofNat 0, [(.ofNat 1, 2)]), (.ofNat 0, [(.ofNat 1, 3)]), (.ofNat 0, [(.ofNat 1, 0)]), (.ofNat 0, [(.ofNat 1, 1)]), (.ofNat 0, [(.ofNat 1, 4)]), (.ofNat 0, [(.ofNat 1, 5)])]), (111, [(.ofNat 0, [(.ofNat 1, 7)]), (.ofNat 0, [(.ofNat 1, 6)])])] : List sFc), fcOk fFS [s0, s1, s2, s3, s4, s5, s6, s7] hp q := hH.2
  have f0 : REm (MT hp) s6 s2 s3 s0 s1 s4 s5 := fcX (ys := [s6, s2, s3, s0, s1, s4, s5]) (hFc _ (.head _)) ⟨sE_V rfl, sE_V rfl, sE_V rfl, sE_V rfl, sE_V rfl, sE_V rfl, sE_V rfl, trivial⟩
  have f1 : P2 (MT hp) s7 s6 := fcX (ys := [s7, s6]) (hFc _ (.tail _ (.head _))) ⟨sE_V rfl, sE_V rfl, trivial⟩
  exact poX (.head _) rfl hR (all_nil) (all_nil) (all_cons ⟨[s7, 4, s6, s2, (-1)], ⟨sE_V rfl, sE_k _ _, sE_V rfl, sE_V rfl, sE_k _ _, trivial⟩, (show TKB (MT hp) s7 (4 : Int) s6 s2 (-1 : Int) from rm_bad (MT_ok hO) f0 f1 (by omega))⟩ (all_nil))
theorem rl574 : ruOk fFS gR574 := by
  intro r hp hO hN hH
  obtain ⟨s0, s1, s2, s3, s4, s5, s6, s7, s8, s9, s10, s11, rfl⟩ := len12 (show r.length = 12 from hN.1)
  have hR := hN.2.1.1
  have hIv : ∀ q ∈ ([(0, .ofNat 0, .ofNat 1), (1, .ofNat 0, .ofNat 0), (2, .negSucc 2147483647, .ofNat 2147483647), (3, .ofNat 3, .ofNat 7), (4, .negSucc 2147483647, .ofNat 2147483647), (6, .negSucc 2147483647, .ofNat 2147483647), (7, .negSucc 2147483647, .ofNat 2147483647), (8, .ofNat 0, .ofNat 0), (9, .negSucc 2147483647, .ofNat 2147483647), (11, .ofNat 48, .ofNat 57)] : sIv), ∃ x, ([s0, s1, s2, s3, s4, s5, s6, s7, s8, s9, s10, s11] : List Int)[q.1]? = some x ∧ q.2.1 ≤ x ∧ x ≤ q.2.2 := hN.2.1.2
  have b0 : (0 : Int) ≤ s0 ∧ s0 ≤ (1 : Int) := ivX (q := (0, .ofNat 0, .ofNat 1)) (y := s0) (hIv _ (.head _)) rfl
  have b1 : (0 : Int) ≤ s1 ∧ s1 ≤ (0 : Int) := ivX (q := (1, .ofNat 0, .ofNat 0)) (y := s1) (hIv _ (.tail _ (.head _))) rfl
  have b3 : (3 : Int) ≤ s3 ∧ s3 ≤ (7 : Int) := ivX (q := (3, .ofNat 3, .ofNat 7)) (y := s3) (hIv _ (.tail _ (.tail _ (.tail _ (.head _))))) rfl
  have b7 : (0 : Int) ≤ s8 ∧ s8 ≤ (0 : Int) := ivX (q := (8, .ofNat 0, .ofNat 0)) (y := s8) (hIv _ (.tail _ (.tail _ (.tail _ (.tail _ (.tail _ (.tail _ (.tail _ (.head _))))))))) rfl
  have b9 : (48 : Int) ≤ s11 ∧ s11 ≤ (57 : Int) := ivX (q := (11, .ofNat 48, .ofNat 57)) (y := s11) (hIv _ (.tail _ (.tail _ (.tail _ (.tail _ (.tail _ (.tail _ (.tail _ (.tail _ (.tail _ (.head _))))))))))) rfl
  have hCs : ∀ c ∈ ([(.ofNat 1, [(.ofNat 1, 2), (.negSucc 0, 6)]), (.ofNat 0, [(.ofNat 1, 5), (.negSucc 255, 10), (.negSucc 0, 11)]), (.ofNat 0, [(.negSucc 0, 5), (.ofNat 256, 10), (.ofNat 1, 11)])] : List sLn), ∃ x, sE [s0, s1, s2, s3, s4, s5, s6, s7, s8, s9, s10, s11] c = some x ∧ x ≤ 0 := hN.2.2.1
  have c0 : ((1 : Int) + ((1 : Int) * s2 + ((-1 : Int) * s6 + 0))) ≤ 0 := csX (hCs _ (.head _)) rfl
  have c1 : ((0 : Int) + ((1 : Int) * s5 + ((-256 : Int) * s10 + ((-1 : Int) * s11 + 0)))) ≤ 0 := csX (hCs _ (.tail _ (.head _))) rfl
  have c2 : ((0 : Int) + ((-1 : Int) * s5 + ((256 : Int) * s10 + ((1 : Int) * s11 + 0)))) ≤ 0 := csX (hCs _ (.tail _ (.tail _ (.head _)))) rfl
  have hRf : ∀ q ∈ ([((78, .ofNat 273, []), (.ofNat 4, []), 1, .ofNat 0, [(.ofNat 1, 2)]), ((78, .ofNat 273, []), (.ofNat 13, []), 1, .ofNat 0, [(.ofNat 1, 3)]), ((78, .ofNat 273, []), (.ofNat 14, []), 1, .ofNat 0, [(.ofNat 1, 4)]), ((78, .ofNat 273, []), (.ofNat 17, []), 5, .ofNat 0, [(.ofNat 1, 5)]), ((78, .ofNat 273, []), (.ofNat 3, []), 1, .ofNat 0, [(.ofNat 1, 6)])] : List sRf), rfOk [s0, s1, s2, s3, s4, s5, s6, s7, s8, s9, s10, s11] hp q := hH.1
  have h0 : hI hp 273 4 = s2 := rfI0 (hRf _ (.head _)) (sE_k _ _) (sE_k _ _) (sE_V rfl)
  have y0 : (0 : Int) ≤ s2 ∧ s2 ≤ (940 : Int) := by rw [← h0]; exact hI_ty hO (by decide) rfl
  have h1 : hI hp 273 13 = s3 := rfI0 (hRf _ (.tail _ (.head _))) (sE_k _ _) (sE_k _ _) (sE_V rfl)
  have h2 : hI hp 273 14 = s4 := rfI0 (hRf _ (.tail _ (.tail _ (.head _)))) (sE_k _ _) (sE_k _ _) (sE_V rfl)
  have h3 : hL hp 273 17 = s5 := rfL0 (hRf _ (.tail _ (.tail _ (.tail _ (.head _))))) (sE_k _ _) (sE_k _ _) (sE_V rfl)
  have h4 : hI hp 273 3 = s6 := rfI0 (hRf _ (.tail _ (.tail _ (.tail _ (.tail _ (.head _)))))) (sE_k _ _) (sE_k _ _) (sE_V rfl)
  have y4 : (0 : Int) ≤ s6 ∧ s6 ≤ (940 : Int) := by rw [← h4]; exact hI_ty hO (by decide) rfl
  have tnm : (MT hp).2.1 = s6 := h4
  have hFc : ∀ q ∈ ([(114, [(.ofNat 0, [(.ofNat 1, 7)]), (.ofNat 0, [(.ofNat 1, 2)]), (.negSucc 0, [(.ofNat 1, 3)]), (.ofNat 0, [(.ofNat 1, 0)]), (.ofNat 0, [(.ofNat 1, 8)]), (.ofNat 0, [(.ofNat 1, 9)]), (.ofNat 0, [(.ofNat 1, 10)])]), (113, [(.ofNat 0, [(.ofNat 1, 2)]), (.ofNat 0, [(.ofNat 1, 11)])])] : List sFc), fcOk fFS [s0, s1, s2, s3, s4, s5, s6, s7, s8, s9, s10, s11] hp q := hH.2
  have f0 : RNm (MT hp) s7 s2 (s3 - 1) s0 s8 s9 s10 := fcX (ys := [s7, s2, (s3 - 1), s0, s8, s9, s10]) (hFc _ (.head _)) ⟨sE_V rfl, sE_V rfl, sEv (y' := ((-1 : Int) + ((1 : Int) * s3 + 0))) rfl (by omega), sE_V rfl, sE_V rfl, sE_V rfl, sE_V rfl, trivial⟩
  have f1 : 0 ≤ s2 ∧ s2 < 940 ∧ s11 = MB hp s2 := fcX (ys := [s2, s11]) (hFc _ (.tail _ (.head _))) ⟨sE_V rfl, sE_V rfl, trivial⟩
  exact poX (.head _) rfl hR (all_nil) (all_nil) (all_cons ⟨[s7, (s2 + 1), s3, s0, s1, s4, s5], ⟨sE_V rfl, sEv (y' := ((1 : Int) + ((1 : Int) * s2 + 0))) rfl (by omega), sE_V rfl, sE_V rfl, sE_V rfl, sE_V rfl, sE_V rfl, trivial⟩, (show RNm (MT hp) s7 (s2 + 1) s3 s0 s1 s4 s5 from rms_m f0 f1 (by omega) (by omega) (by omega) (by omega) (fun _ => by omega) (fun _ => by omega))⟩ (all_nil))
theorem rl575 : ruOk fFS gR575 := by
  intro r hp hO hN hH
  obtain ⟨s0, s1, s2, s3, s4, s5, s6, s7, s8, s9, s10, s11, rfl⟩ := len12 (show r.length = 12 from hN.1)
  have hR := hN.2.1.1
  have hIv : ∀ q ∈ ([(0, .ofNat 0, .ofNat 0), (1, .ofNat 1, .ofNat 1), (2, .negSucc 2147483647, .ofNat 2147483647), (3, .ofNat 3, .ofNat 7), (4, .negSucc 2147483647, .ofNat 2147483647), (6, .negSucc 2147483647, .ofNat 2147483647), (7, .negSucc 2147483647, .ofNat 2147483647), (8, .ofNat 1, .ofNat 1), (9, .negSucc 2147483647, .ofNat 2147483647), (11, .ofNat 48, .ofNat 57)] : sIv), ∃ x, ([s0, s1, s2, s3, s4, s5, s6, s7, s8, s9, s10, s11] : List Int)[q.1]? = some x ∧ q.2.1 ≤ x ∧ x ≤ q.2.2 := hN.2.1.2
  have b0 : (0 : Int) ≤ s0 ∧ s0 ≤ (0 : Int) := ivX (q := (0, .ofNat 0, .ofNat 0)) (y := s0) (hIv _ (.head _)) rfl
  have b1 : (1 : Int) ≤ s1 ∧ s1 ≤ (1 : Int) := ivX (q := (1, .ofNat 1, .ofNat 1)) (y := s1) (hIv _ (.tail _ (.head _))) rfl
  have b3 : (3 : Int) ≤ s3 ∧ s3 ≤ (7 : Int) := ivX (q := (3, .ofNat 3, .ofNat 7)) (y := s3) (hIv _ (.tail _ (.tail _ (.tail _ (.head _))))) rfl
  have b7 : (1 : Int) ≤ s8 ∧ s8 ≤ (1 : Int) := ivX (q := (8, .ofNat 1, .ofNat 1)) (y := s8) (hIv _ (.tail _ (.tail _ (.tail _ (.tail _ (.tail _ (.tail _ (.tail _ (.head _))))))))) rfl
  have b9 : (48 : Int) ≤ s11 ∧ s11 ≤ (57 : Int) := ivX (q := (11, .ofNat 48, .ofNat 57)) (y := s11) (hIv _ (.tail _ (.tail _ (.tail _ (.tail _ (.tail _ (.tail _ (.tail _ (.tail _ (.tail _ (.head _))))))))))) rfl
  have hCs : ∀ c ∈ ([(.ofNat 1, [(.ofNat 1, 2), (.negSucc 0, 6)]), (.ofNat 0, [(.ofNat 1, 5), (.negSucc 255, 10), (.negSucc 0, 11)]), (.ofNat 0, [(.negSucc 0, 5), (.ofNat 256, 10), (.ofNat 1, 11)])] : List sLn), ∃ x, sE [s0, s1, s2, s3, s4, s5, s6, s7, s8, s9, s10, s11] c = some x ∧ x ≤ 0 := hN.2.2.1
  have c0 : ((1 : Int) + ((1 : Int) * s2 + ((-1 : Int) * s6 + 0))) ≤ 0 := csX (hCs _ (.head _)) rfl
  have c1 : ((0 : Int) + ((1 : Int) * s5 + ((-256 : Int) * s10 + ((-1 : Int) * s11 + 0)))) ≤ 0 := csX (hCs _ (.tail _ (.head _))) rfl
  have c2 : ((0 : Int) + ((-1 : Int) * s5 + ((256 : Int) * s10 + ((1 : Int) * s11 + 0)))) ≤ 0 := csX (hCs _ (.tail _ (.tail _ (.head _)))) rfl
  have hRf : ∀ q ∈ ([((78, .ofNat 273, []), (.ofNat 4, []), 1, .ofNat 0, [(.ofNat 1, 2)]), ((78, .ofNat 273, []), (.ofNat 13, []), 1, .ofNat 0, [(.ofNat 1, 3)]), ((78, .ofNat 273, []), (.ofNat 14, []), 1, .ofNat 0, [(.ofNat 1, 4)]), ((78, .ofNat 273, []), (.ofNat 17, []), 5, .ofNat 0, [(.ofNat 1, 5)]), ((78, .ofNat 273, []), (.ofNat 3, []), 1, .ofNat 0, [(.ofNat 1, 6)])] : List sRf), rfOk [s0, s1, s2, s3, s4, s5, s6, s7, s8, s9, s10, s11] hp q := hH.1
  have h0 : hI hp 273 4 = s2 := rfI0 (hRf _ (.head _)) (sE_k _ _) (sE_k _ _) (sE_V rfl)
  have y0 : (0 : Int) ≤ s2 ∧ s2 ≤ (940 : Int) := by rw [← h0]; exact hI_ty hO (by decide) rfl
  have h1 : hI hp 273 13 = s3 := rfI0 (hRf _ (.tail _ (.head _))) (sE_k _ _) (sE_k _ _) (sE_V rfl)
  have h2 : hI hp 273 14 = s4 := rfI0 (hRf _ (.tail _ (.tail _ (.head _)))) (sE_k _ _) (sE_k _ _) (sE_V rfl)
  have h3 : hL hp 273 17 = s5 := rfL0 (hRf _ (.tail _ (.tail _ (.tail _ (.head _))))) (sE_k _ _) (sE_k _ _) (sE_V rfl)
  have h4 : hI hp 273 3 = s6 := rfI0 (hRf _ (.tail _ (.tail _ (.tail _ (.tail _ (.head _)))))) (sE_k _ _) (sE_k _ _) (sE_V rfl)
  have y4 : (0 : Int) ≤ s6 ∧ s6 ≤ (940 : Int) := by rw [← h4]; exact hI_ty hO (by decide) rfl
  have tnm : (MT hp).2.1 = s6 := h4
  have hFc : ∀ q ∈ ([(114, [(.ofNat 0, [(.ofNat 1, 7)]), (.ofNat 0, [(.ofNat 1, 2)]), (.negSucc 0, [(.ofNat 1, 3)]), (.ofNat 0, [(.ofNat 1, 0)]), (.ofNat 0, [(.ofNat 1, 8)]), (.ofNat 0, [(.ofNat 1, 9)]), (.ofNat 0, [(.ofNat 1, 10)])]), (113, [(.ofNat 0, [(.ofNat 1, 2)]), (.ofNat 0, [(.ofNat 1, 11)])])] : List sFc), fcOk fFS [s0, s1, s2, s3, s4, s5, s6, s7, s8, s9, s10, s11] hp q := hH.2
  have f0 : RNm (MT hp) s7 s2 (s3 - 1) s0 s8 s9 s10 := fcX (ys := [s7, s2, (s3 - 1), s0, s8, s9, s10]) (hFc _ (.head _)) ⟨sE_V rfl, sE_V rfl, sEv (y' := ((-1 : Int) + ((1 : Int) * s3 + 0))) rfl (by omega), sE_V rfl, sE_V rfl, sE_V rfl, sE_V rfl, trivial⟩
  have f1 : 0 ≤ s2 ∧ s2 < 940 ∧ s11 = MB hp s2 := fcX (ys := [s2, s11]) (hFc _ (.tail _ (.head _))) ⟨sE_V rfl, sE_V rfl, trivial⟩
  exact poX (.head _) rfl hR (all_nil) (all_nil) (all_cons ⟨[s7, (s2 + 1), s3, s0, s1, s4, s5], ⟨sE_V rfl, sEv (y' := ((1 : Int) + ((1 : Int) * s2 + 0))) rfl (by omega), sE_V rfl, sE_V rfl, sE_V rfl, sE_V rfl, sE_V rfl, trivial⟩, (show RNm (MT hp) s7 (s2 + 1) s3 s0 s1 s4 s5 from rms_m f0 f1 (by omega) (by omega) (by omega) (by omega) (fun _ => by omega) (fun _ => by omega))⟩ (all_nil))
theorem rl576 : ruOk fFS gR576 := by
  intro r hp hO hN hH
  obtain ⟨s0, s1, s2, s3, s4, s5, s6, s7, s8, s9, s10, s11, rfl⟩ := len12 (show r.length = 12 from hN.1)
  have hR := hN.2.1.1
  have hIv : ∀ q ∈ ([(0, .ofNat 1, .ofNat 1), (1, .ofNat 0, .ofNat 0), (2, .negSucc 2147483647, .ofNat 2147483647), (3, .ofNat 3, .ofNat 7), (4, .negSucc 2147483647, .ofNat 2147483647), (6, .negSucc 2147483647, .ofNat 2147483647), (7, .negSucc 2147483647, .ofNat 2147483647), (8, .ofNat 1, .ofNat 1), (9, .negSucc 2147483647, .ofNat 2147483647), (11, .ofNat 48, .ofNat 57)] : sIv), ∃ x, ([s0, s1, s2, s3, s4, s5, s6, s7, s8, s9, s10, s11] : List Int)[q.1]? = some x ∧ q.2.1 ≤ x ∧ x ≤ q.2.2 := hN.2.1.2
  have b0 : (1 : Int) ≤ s0 ∧ s0 ≤ (1 : Int) := ivX (q := (0, .ofNat 1, .ofNat 1)) (y := s0) (hIv _ (.head _)) rfl
  have b1 : (0 : Int) ≤ s1 ∧ s1 ≤ (0 : Int) := ivX (q := (1, .ofNat 0, .ofNat 0)) (y := s1) (hIv _ (.tail _ (.head _))) rfl
  have b3 : (3 : Int) ≤ s3 ∧ s3 ≤ (7 : Int) := ivX (q := (3, .ofNat 3, .ofNat 7)) (y := s3) (hIv _ (.tail _ (.tail _ (.tail _ (.head _))))) rfl
  have b7 : (1 : Int) ≤ s8 ∧ s8 ≤ (1 : Int) := ivX (q := (8, .ofNat 1, .ofNat 1)) (y := s8) (hIv _ (.tail _ (.tail _ (.tail _ (.tail _ (.tail _ (.tail _ (.tail _ (.head _))))))))) rfl
  have b9 : (48 : Int) ≤ s11 ∧ s11 ≤ (57 : Int) := ivX (q := (11, .ofNat 48, .ofNat 57)) (y := s11) (hIv _ (.tail _ (.tail _ (.tail _ (.tail _ (.tail _ (.tail _ (.tail _ (.tail _ (.tail _ (.head _))))))))))) rfl
  have hCs : ∀ c ∈ ([(.ofNat 1, [(.ofNat 1, 2), (.negSucc 0, 6)]), (.ofNat 0, [(.ofNat 1, 5), (.negSucc 255, 10), (.negSucc 0, 11)]), (.ofNat 0, [(.negSucc 0, 5), (.ofNat 256, 10), (.ofNat 1, 11)])] : List sLn), ∃ x, sE [s0, s1, s2, s3, s4, s5, s6, s7, s8, s9, s10, s11] c = some x ∧ x ≤ 0 := hN.2.2.1
  have c0 : ((1 : Int) + ((1 : Int) * s2 + ((-1 : Int) * s6 + 0))) ≤ 0 := csX (hCs _ (.head _)) rfl
  have c1 : ((0 : Int) + ((1 : Int) * s5 + ((-256 : Int) * s10 + ((-1 : Int) * s11 + 0)))) ≤ 0 := csX (hCs _ (.tail _ (.head _))) rfl
  have c2 : ((0 : Int) + ((-1 : Int) * s5 + ((256 : Int) * s10 + ((1 : Int) * s11 + 0)))) ≤ 0 := csX (hCs _ (.tail _ (.tail _ (.head _)))) rfl
  have hRf : ∀ q ∈ ([((78, .ofNat 273, []), (.ofNat 4, []), 1, .ofNat 0, [(.ofNat 1, 2)]), ((78, .ofNat 273, []), (.ofNat 13, []), 1, .ofNat 0, [(.ofNat 1, 3)]), ((78, .ofNat 273, []), (.ofNat 14, []), 1, .ofNat 0, [(.ofNat 1, 4)]), ((78, .ofNat 273, []), (.ofNat 17, []), 5, .ofNat 0, [(.ofNat 1, 5)]), ((78, .ofNat 273, []), (.ofNat 3, []), 1, .ofNat 0, [(.ofNat 1, 6)])] : List sRf), rfOk [s0, s1, s2, s3, s4, s5, s6, s7, s8, s9, s10, s11] hp q := hH.1
  have h0 : hI hp 273 4 = s2 := rfI0 (hRf _ (.head _)) (sE_k _ _) (sE_k _ _) (sE_V rfl)
  have y0 : (0 : Int) ≤ s2 ∧ s2 ≤ (940 : Int) := by rw [← h0]; exact hI_ty hO (by decide) rfl
  have h1 : hI hp 273 13 = s3 := rfI0 (hRf _ (.tail _ (.head _))) (sE_k _ _) (sE_k _ _) (sE_V rfl)
  have h2 : hI hp 273 14 = s4 := rfI0 (hRf _ (.tail _ (.tail _ (.head _)))) (sE_k _ _) (sE_k _ _) (sE_V rfl)
  have h3 : hL hp 273 17 = s5 := rfL0 (hRf _ (.tail _ (.tail _ (.tail _ (.head _))))) (sE_k _ _) (sE_k _ _) (sE_V rfl)
  have h4 : hI hp 273 3 = s6 := rfI0 (hRf _ (.tail _ (.tail _ (.tail _ (.tail _ (.head _)))))) (sE_k _ _) (sE_k _ _) (sE_V rfl)
  have y4 : (0 : Int) ≤ s6 ∧ s6 ≤ (940 : Int) := by rw [← h4]; exact hI_ty hO (by decide) rfl
  have tnm : (MT hp).2.1 = s6 := h4
  have hFc : ∀ q ∈ ([(114, [(.ofNat 0, [(.ofNat 1, 7)]), (.ofNat 0, [(.ofNat 1, 2)]), (.negSucc 0, [(.ofNat 1, 3)]), (.ofNat 0, [(.ofNat 1, 0)]), (.ofNat 0, [(.ofNat 1, 8)]), (.ofNat 0, [(.ofNat 1, 9)]), (.ofNat 0, [(.ofNat 1, 10)])]), (113, [(.ofNat 0, [(.ofNat 1, 2)]), (.ofNat 0, [(.ofNat 1, 11)])])] : List sFc), fcOk fFS [s0, s1, s2, s3, s4, s5, s6, s7, s8, s9, s10, s11] hp q := hH.2
  have f0 : RNm (MT hp) s7 s2 (s3 - 1) s0 s8 s9 s10 := fcX (ys := [s7, s2, (s3 - 1), s0, s8, s9, s10]) (hFc _ (.head _)) ⟨sE_V rfl, sE_V rfl, sEv (y' := ((-1 : Int) + ((1 : Int) * s3 + 0))) rfl (by omega), sE_V rfl, sE_V rfl, sE_V rfl, sE_V rfl, trivial⟩
  have f1 : 0 ≤ s2 ∧ s2 < 940 ∧ s11 = MB hp s2 := fcX (ys := [s2, s11]) (hFc _ (.tail _ (.head _))) ⟨sE_V rfl, sE_V rfl, trivial⟩
  exact poX (.head _) rfl hR (all_nil) (all_nil) (all_cons ⟨[s7, (s2 + 1), s3, s0, s1, s4, s5], ⟨sE_V rfl, sEv (y' := ((1 : Int) + ((1 : Int) * s2 + 0))) rfl (by omega), sE_V rfl, sE_V rfl, sE_V rfl, sE_V rfl, sE_V rfl, trivial⟩, (show RNm (MT hp) s7 (s2 + 1) s3 s0 s1 s4 s5 from rms_m f0 f1 (by omega) (by omega) (by omega) (by omega) (fun _ => by omega) (fun _ => by omega))⟩ (all_nil))
theorem rl577 : ruOk fFS gR577 := by
  intro r hp hO hN hH
  obtain ⟨s0, s1, s2, s3, s4, s5, s6, s7, s8, s9, s10, s11, rfl⟩ := len12 (show r.length = 12 from hN.1)
  have hR := hN.2.1.1
  have hIv : ∀ q ∈ ([(0, .ofNat 0, .ofNat 1), (1, .ofNat 0, .ofNat 0), (2, .negSucc 2147483647, .ofNat 2147483647), (3, .ofNat 3, .ofNat 7), (4, .negSucc 2147483647, .ofNat 2147483647), (6, .negSucc 2147483647, .ofNat 2147483647), (7, .negSucc 2147483647, .ofNat 2147483647), (8, .ofNat 0, .ofNat 0), (9, .negSucc 2147483647, .ofNat 2147483647), (11, .ofNat 97, .ofNat 122)] : sIv), ∃ x, ([s0, s1, s2, s3, s4, s5, s6, s7, s8, s9, s10, s11] : List Int)[q.1]? = some x ∧ q.2.1 ≤ x ∧ x ≤ q.2.2 := hN.2.1.2
  have b0 : (0 : Int) ≤ s0 ∧ s0 ≤ (1 : Int) := ivX (q := (0, .ofNat 0, .ofNat 1)) (y := s0) (hIv _ (.head _)) rfl
  have b1 : (0 : Int) ≤ s1 ∧ s1 ≤ (0 : Int) := ivX (q := (1, .ofNat 0, .ofNat 0)) (y := s1) (hIv _ (.tail _ (.head _))) rfl
  have b3 : (3 : Int) ≤ s3 ∧ s3 ≤ (7 : Int) := ivX (q := (3, .ofNat 3, .ofNat 7)) (y := s3) (hIv _ (.tail _ (.tail _ (.tail _ (.head _))))) rfl
  have b7 : (0 : Int) ≤ s8 ∧ s8 ≤ (0 : Int) := ivX (q := (8, .ofNat 0, .ofNat 0)) (y := s8) (hIv _ (.tail _ (.tail _ (.tail _ (.tail _ (.tail _ (.tail _ (.tail _ (.head _))))))))) rfl
  have b9 : (97 : Int) ≤ s11 ∧ s11 ≤ (122 : Int) := ivX (q := (11, .ofNat 97, .ofNat 122)) (y := s11) (hIv _ (.tail _ (.tail _ (.tail _ (.tail _ (.tail _ (.tail _ (.tail _ (.tail _ (.tail _ (.head _))))))))))) rfl
  have hCs : ∀ c ∈ ([(.ofNat 1, [(.ofNat 1, 2), (.negSucc 0, 6)]), (.ofNat 0, [(.ofNat 1, 5), (.negSucc 255, 10), (.negSucc 0, 11)]), (.ofNat 0, [(.negSucc 0, 5), (.ofNat 256, 10), (.ofNat 1, 11)])] : List sLn), ∃ x, sE [s0, s1, s2, s3, s4, s5, s6, s7, s8, s9, s10, s11] c = some x ∧ x ≤ 0 := hN.2.2.1
  have c0 : ((1 : Int) + ((1 : Int) * s2 + ((-1 : Int) * s6 + 0))) ≤ 0 := csX (hCs _ (.head _)) rfl
  have c1 : ((0 : Int) + ((1 : Int) * s5 + ((-256 : Int) * s10 + ((-1 : Int) * s11 + 0)))) ≤ 0 := csX (hCs _ (.tail _ (.head _))) rfl
  have c2 : ((0 : Int) + ((-1 : Int) * s5 + ((256 : Int) * s10 + ((1 : Int) * s11 + 0)))) ≤ 0 := csX (hCs _ (.tail _ (.tail _ (.head _)))) rfl
  have hRf : ∀ q ∈ ([((78, .ofNat 273, []), (.ofNat 4, []), 1, .ofNat 0, [(.ofNat 1, 2)]), ((78, .ofNat 273, []), (.ofNat 13, []), 1, .ofNat 0, [(.ofNat 1, 3)]), ((78, .ofNat 273, []), (.ofNat 14, []), 1, .ofNat 0, [(.ofNat 1, 4)]), ((78, .ofNat 273, []), (.ofNat 17, []), 5, .ofNat 0, [(.ofNat 1, 5)]), ((78, .ofNat 273, []), (.ofNat 3, []), 1, .ofNat 0, [(.ofNat 1, 6)])] : List sRf), rfOk [s0, s1, s2, s3, s4, s5, s6, s7, s8, s9, s10, s11] hp q := hH.1
  have h0 : hI hp 273 4 = s2 := rfI0 (hRf _ (.head _)) (sE_k _ _) (sE_k _ _) (sE_V rfl)
  have y0 : (0 : Int) ≤ s2 ∧ s2 ≤ (940 : Int) := by rw [← h0]; exact hI_ty hO (by decide) rfl
  have h1 : hI hp 273 13 = s3 := rfI0 (hRf _ (.tail _ (.head _))) (sE_k _ _) (sE_k _ _) (sE_V rfl)
  have h2 : hI hp 273 14 = s4 := rfI0 (hRf _ (.tail _ (.tail _ (.head _)))) (sE_k _ _) (sE_k _ _) (sE_V rfl)
  have h3 : hL hp 273 17 = s5 := rfL0 (hRf _ (.tail _ (.tail _ (.tail _ (.head _))))) (sE_k _ _) (sE_k _ _) (sE_V rfl)
  have h4 : hI hp 273 3 = s6 := rfI0 (hRf _ (.tail _ (.tail _ (.tail _ (.tail _ (.head _)))))) (sE_k _ _) (sE_k _ _) (sE_V rfl)
  have y4 : (0 : Int) ≤ s6 ∧ s6 ≤ (940 : Int) := by rw [← h4]; exact hI_ty hO (by decide) rfl
  have tnm : (MT hp).2.1 = s6 := h4
  have hFc : ∀ q ∈ ([(114, [(.ofNat 0, [(.ofNat 1, 7)]), (.ofNat 0, [(.ofNat 1, 2)]), (.negSucc 0, [(.ofNat 1, 3)]), (.ofNat 0, [(.ofNat 1, 0)]), (.ofNat 0, [(.ofNat 1, 8)]), (.ofNat 0, [(.ofNat 1, 9)]), (.ofNat 0, [(.ofNat 1, 10)])]), (113, [(.ofNat 0, [(.ofNat 1, 2)]), (.ofNat 0, [(.ofNat 1, 11)])])] : List sFc), fcOk fFS [s0, s1, s2, s3, s4, s5, s6, s7, s8, s9, s10, s11] hp q := hH.2
  have f0 : RNm (MT hp) s7 s2 (s3 - 1) s0 s8 s9 s10 := fcX (ys := [s7, s2, (s3 - 1), s0, s8, s9, s10]) (hFc _ (.head _)) ⟨sE_V rfl, sE_V rfl, sEv (y' := ((-1 : Int) + ((1 : Int) * s3 + 0))) rfl (by omega), sE_V rfl, sE_V rfl, sE_V rfl, sE_V rfl, trivial⟩
  have f1 : 0 ≤ s2 ∧ s2 < 940 ∧ s11 = MB hp s2 := fcX (ys := [s2, s11]) (hFc _ (.tail _ (.head _))) ⟨sE_V rfl, sE_V rfl, trivial⟩
  exact poX (.head _) rfl hR (all_nil) (all_nil) (all_cons ⟨[s7, (s2 + 1), s3, s0, s1, s4, s5], ⟨sE_V rfl, sEv (y' := ((1 : Int) + ((1 : Int) * s2 + 0))) rfl (by omega), sE_V rfl, sE_V rfl, sE_V rfl, sE_V rfl, sE_V rfl, trivial⟩, (show RNm (MT hp) s7 (s2 + 1) s3 s0 s1 s4 s5 from rms_m f0 f1 (by omega) (by omega) (by omega) (by omega) (fun _ => by omega) (fun _ => by omega))⟩ (all_nil))
theorem rl578 : ruOk fFS gR578 := by
  intro r hp hO hN hH
  obtain ⟨s0, s1, s2, s3, s4, s5, s6, s7, s8, s9, s10, s11, rfl⟩ := len12 (show r.length = 12 from hN.1)
  have hR := hN.2.1.1
  have hIv : ∀ q ∈ ([(0, .ofNat 0, .ofNat 0), (1, .ofNat 0, .ofNat 0), (2, .negSucc 2147483647, .ofNat 2147483647), (3, .ofNat 3, .ofNat 7), (4, .negSucc 2147483647, .ofNat 2147483647), (6, .negSucc 2147483647, .ofNat 2147483647), (7, .negSucc 2147483647, .ofNat 2147483647), (8, .ofNat 1, .ofNat 1), (9, .negSucc 2147483647, .ofNat 2147483647), (11, .ofNat 97, .ofNat 122)] : sIv), ∃ x, ([s0, s1, s2, s3, s4, s5, s6, s7, s8, s9, s10, s11] : List Int)[q.1]? = some x ∧ q.2.1 ≤ x ∧ x ≤ q.2.2 := hN.2.1.2
  have b0 : (0 : Int) ≤ s0 ∧ s0 ≤ (0 : Int) := ivX (q := (0, .ofNat 0, .ofNat 0)) (y := s0) (hIv _ (.head _)) rfl
  have b1 : (0 : Int) ≤ s1 ∧ s1 ≤ (0 : Int) := ivX (q := (1, .ofNat 0, .ofNat 0)) (y := s1) (hIv _ (.tail _ (.head _))) rfl
  have b3 : (3 : Int) ≤ s3 ∧ s3 ≤ (7 : Int) := ivX (q := (3, .ofNat 3, .ofNat 7)) (y := s3) (hIv _ (.tail _ (.tail _ (.tail _ (.head _))))) rfl
  have b7 : (1 : Int) ≤ s8 ∧ s8 ≤ (1 : Int) := ivX (q := (8, .ofNat 1, .ofNat 1)) (y := s8) (hIv _ (.tail _ (.tail _ (.tail _ (.tail _ (.tail _ (.tail _ (.tail _ (.head _))))))))) rfl
  have b9 : (97 : Int) ≤ s11 ∧ s11 ≤ (122 : Int) := ivX (q := (11, .ofNat 97, .ofNat 122)) (y := s11) (hIv _ (.tail _ (.tail _ (.tail _ (.tail _ (.tail _ (.tail _ (.tail _ (.tail _ (.tail _ (.head _))))))))))) rfl
  have hCs : ∀ c ∈ ([(.ofNat 1, [(.ofNat 1, 2), (.negSucc 0, 6)]), (.ofNat 0, [(.ofNat 1, 5), (.negSucc 255, 10), (.negSucc 0, 11)]), (.ofNat 0, [(.negSucc 0, 5), (.ofNat 256, 10), (.ofNat 1, 11)])] : List sLn), ∃ x, sE [s0, s1, s2, s3, s4, s5, s6, s7, s8, s9, s10, s11] c = some x ∧ x ≤ 0 := hN.2.2.1
  have c0 : ((1 : Int) + ((1 : Int) * s2 + ((-1 : Int) * s6 + 0))) ≤ 0 := csX (hCs _ (.head _)) rfl
  have c1 : ((0 : Int) + ((1 : Int) * s5 + ((-256 : Int) * s10 + ((-1 : Int) * s11 + 0)))) ≤ 0 := csX (hCs _ (.tail _ (.head _))) rfl
  have c2 : ((0 : Int) + ((-1 : Int) * s5 + ((256 : Int) * s10 + ((1 : Int) * s11 + 0)))) ≤ 0 := csX (hCs _ (.tail _ (.tail _ (.head _)))) rfl
  have hRf : ∀ q ∈ ([((78, .ofNat 273, []), (.ofNat 4, []), 1, .ofNat 0, [(.ofNat 1, 2)]), ((78, .ofNat 273, []), (.ofNat 13, []), 1, .ofNat 0, [(.ofNat 1, 3)]), ((78, .ofNat 273, []), (.ofNat 14, []), 1, .ofNat 0, [(.ofNat 1, 4)]), ((78, .ofNat 273, []), (.ofNat 17, []), 5, .ofNat 0, [(.ofNat 1, 5)]), ((78, .ofNat 273, []), (.ofNat 3, []), 1, .ofNat 0, [(.ofNat 1, 6)])] : List sRf), rfOk [s0, s1, s2, s3, s4, s5, s6, s7, s8, s9, s10, s11] hp q := hH.1
  have h0 : hI hp 273 4 = s2 := rfI0 (hRf _ (.head _)) (sE_k _ _) (sE_k _ _) (sE_V rfl)
  have y0 : (0 : Int) ≤ s2 ∧ s2 ≤ (940 : Int) := by rw [← h0]; exact hI_ty hO (by decide) rfl
  have h1 : hI hp 273 13 = s3 := rfI0 (hRf _ (.tail _ (.head _))) (sE_k _ _) (sE_k _ _) (sE_V rfl)
  have h2 : hI hp 273 14 = s4 := rfI0 (hRf _ (.tail _ (.tail _ (.head _)))) (sE_k _ _) (sE_k _ _) (sE_V rfl)
  have h3 : hL hp 273 17 = s5 := rfL0 (hRf _ (.tail _ (.tail _ (.tail _ (.head _))))) (sE_k _ _) (sE_k _ _) (sE_V rfl)
  have h4 : hI hp 273 3 = s6 := rfI0 (hRf _ (.tail _ (.tail _ (.tail _ (.tail _ (.head _)))))) (sE_k _ _) (sE_k _ _) (sE_V rfl)
  have y4 : (0 : Int) ≤ s6 ∧ s6 ≤ (940 : Int) := by rw [← h4]; exact hI_ty hO (by decide) rfl
  have tnm : (MT hp).2.1 = s6 := h4
  have hFc : ∀ q ∈ ([(114, [(.ofNat 0, [(.ofNat 1, 7)]), (.ofNat 0, [(.ofNat 1, 2)]), (.negSucc 0, [(.ofNat 1, 3)]), (.ofNat 0, [(.ofNat 1, 0)]), (.ofNat 0, [(.ofNat 1, 8)]), (.ofNat 0, [(.ofNat 1, 9)]), (.ofNat 0, [(.ofNat 1, 10)])]), (113, [(.ofNat 0, [(.ofNat 1, 2)]), (.ofNat 0, [(.ofNat 1, 11)])])] : List sFc), fcOk fFS [s0, s1, s2, s3, s4, s5, s6, s7, s8, s9, s10, s11] hp q := hH.2
  have f0 : RNm (MT hp) s7 s2 (s3 - 1) s0 s8 s9 s10 := fcX (ys := [s7, s2, (s3 - 1), s0, s8, s9, s10]) (hFc _ (.head _)) ⟨sE_V rfl, sE_V rfl, sEv (y' := ((-1 : Int) + ((1 : Int) * s3 + 0))) rfl (by omega), sE_V rfl, sE_V rfl, sE_V rfl, sE_V rfl, trivial⟩
  have f1 : 0 ≤ s2 ∧ s2 < 940 ∧ s11 = MB hp s2 := fcX (ys := [s2, s11]) (hFc _ (.tail _ (.head _))) ⟨sE_V rfl, sE_V rfl, trivial⟩
  exact poX (.head _) rfl hR (all_nil) (all_nil) (all_cons ⟨[s7, (s2 + 1), s3, s0, s1, s4, s5], ⟨sE_V rfl, sEv (y' := ((1 : Int) + ((1 : Int) * s2 + 0))) rfl (by omega), sE_V rfl, sE_V rfl, sE_V rfl, sE_V rfl, sE_V rfl, trivial⟩, (show RNm (MT hp) s7 (s2 + 1) s3 s0 s1 s4 s5 from rms_m f0 f1 (by omega) (by omega) (by omega) (by omega) (fun _ => by omega) (fun _ => by omega))⟩ (all_nil))
theorem rl579 : ruOk fFS gR579 := by
  intro r hp hO hN hH
  obtain ⟨s0, s1, s2, s3, s4, s5, s6, s7, s8, s9, s10, s11, rfl⟩ := len12 (show r.length = 12 from hN.1)
  have hR := hN.2.1.1
  have hIv : ∀ q ∈ ([(0, .ofNat 1, .ofNat 1), (1, .ofNat 1, .ofNat 1), (2, .negSucc 2147483647, .ofNat 2147483647), (3, .ofNat 3, .ofNat 7), (4, .negSucc 2147483647, .ofNat 2147483647), (6, .negSucc 2147483647, .ofNat 2147483647), (7, .negSucc 2147483647, .ofNat 2147483647), (8, .ofNat 1, .ofNat 1), (9, .negSucc 2147483647, .ofNat 2147483647), (11, .ofNat 97, .ofNat 122)] : sIv), ∃ x, ([s0, s1, s2, s3, s4, s5, s6, s7, s8, s9, s10, s11] : List Int)[q.1]? = some x ∧ q.2.1 ≤ x ∧ x ≤ q.2.2 := hN.2.1.2
  have b0 : (1 : Int) ≤ s0 ∧ s0 ≤ (1 : Int) := ivX (q := (0, .ofNat 1, .ofNat 1)) (y := s0) (hIv _ (.head _)) rfl
  have b1 : (1 : Int) ≤ s1 ∧ s1 ≤ (1 : Int) := ivX (q := (1, .ofNat 1, .ofNat 1)) (y := s1) (hIv _ (.tail _ (.head _))) rfl
  have b3 : (3 : Int) ≤ s3 ∧ s3 ≤ (7 : Int) := ivX (q := (3, .ofNat 3, .ofNat 7)) (y := s3) (hIv _ (.tail _ (.tail _ (.tail _ (.head _))))) rfl
  have b7 : (1 : Int) ≤ s8 ∧ s8 ≤ (1 : Int) := ivX (q := (8, .ofNat 1, .ofNat 1)) (y := s8) (hIv _ (.tail _ (.tail _ (.tail _ (.tail _ (.tail _ (.tail _ (.tail _ (.head _))))))))) rfl
  have b9 : (97 : Int) ≤ s11 ∧ s11 ≤ (122 : Int) := ivX (q := (11, .ofNat 97, .ofNat 122)) (y := s11) (hIv _ (.tail _ (.tail _ (.tail _ (.tail _ (.tail _ (.tail _ (.tail _ (.tail _ (.tail _ (.head _))))))))))) rfl
  have hCs : ∀ c ∈ ([(.ofNat 1, [(.ofNat 1, 2), (.negSucc 0, 6)]), (.ofNat 0, [(.ofNat 1, 5), (.negSucc 255, 10), (.negSucc 0, 11)]), (.ofNat 0, [(.negSucc 0, 5), (.ofNat 256, 10), (.ofNat 1, 11)])] : List sLn), ∃ x, sE [s0, s1, s2, s3, s4, s5, s6, s7, s8, s9, s10, s11] c = some x ∧ x ≤ 0 := hN.2.2.1
  have c0 : ((1 : Int) + ((1 : Int) * s2 + ((-1 : Int) * s6 + 0))) ≤ 0 := csX (hCs _ (.head _)) rfl
  have c1 : ((0 : Int) + ((1 : Int) * s5 + ((-256 : Int) * s10 + ((-1 : Int) * s11 + 0)))) ≤ 0 := csX (hCs _ (.tail _ (.head _))) rfl
  have c2 : ((0 : Int) + ((-1 : Int) * s5 + ((256 : Int) * s10 + ((1 : Int) * s11 + 0)))) ≤ 0 := csX (hCs _ (.tail _ (.tail _ (.head _)))) rfl
  have hRf : ∀ q ∈ ([((78, .ofNat 273, []), (.ofNat 4, []), 1, .ofNat 0, [(.ofNat 1, 2)]), ((78, .ofNat 273, []), (.ofNat 13, []), 1, .ofNat 0, [(.ofNat 1, 3)]), ((78, .ofNat 273, []), (.ofNat 14, []), 1, .ofNat 0, [(.ofNat 1, 4)]), ((78, .ofNat 273, []), (.ofNat 17, []), 5, .ofNat 0, [(.ofNat 1, 5)]), ((78, .ofNat 273, []), (.ofNat 3, []), 1, .ofNat 0, [(.ofNat 1, 6)])] : List sRf), rfOk [s0, s1, s2, s3, s4, s5, s6, s7, s8, s9, s10, s11] hp q := hH.1
  have h0 : hI hp 273 4 = s2 := rfI0 (hRf _ (.head _)) (sE_k _ _) (sE_k _ _) (sE_V rfl)
  have y0 : (0 : Int) ≤ s2 ∧ s2 ≤ (940 : Int) := by rw [← h0]; exact hI_ty hO (by decide) rfl
  have h1 : hI hp 273 13 = s3 := rfI0 (hRf _ (.tail _ (.head _))) (sE_k _ _) (sE_k _ _) (sE_V rfl)
  have h2 : hI hp 273 14 = s4 := rfI0 (hRf _ (.tail _ (.tail _ (.head _)))) (sE_k _ _) (sE_k _ _) (sE_V rfl)
  have h3 : hL hp 273 17 = s5 := rfL0 (hRf _ (.tail _ (.tail _ (.tail _ (.head _))))) (sE_k _ _) (sE_k _ _) (sE_V rfl)
  have h4 : hI hp 273 3 = s6 := rfI0 (hRf _ (.tail _ (.tail _ (.tail _ (.tail _ (.head _)))))) (sE_k _ _) (sE_k _ _) (sE_V rfl)
  have y4 : (0 : Int) ≤ s6 ∧ s6 ≤ (940 : Int) := by rw [← h4]; exact hI_ty hO (by decide) rfl
  have tnm : (MT hp).2.1 = s6 := h4
  have hFc : ∀ q ∈ ([(114, [(.ofNat 0, [(.ofNat 1, 7)]), (.ofNat 0, [(.ofNat 1, 2)]), (.negSucc 0, [(.ofNat 1, 3)]), (.ofNat 0, [(.ofNat 1, 0)]), (.ofNat 0, [(.ofNat 1, 8)]), (.ofNat 0, [(.ofNat 1, 9)]), (.ofNat 0, [(.ofNat 1, 10)])]), (113, [(.ofNat 0, [(.ofNat 1, 2)]), (.ofNat 0, [(.ofNat 1, 11)])])] : List sFc), fcOk fFS [s0, s1, s2, s3, s4, s5, s6, s7, s8, s9, s10, s11] hp q := hH.2
  have f0 : RNm (MT hp) s7 s2 (s3 - 1) s0 s8 s9 s10 := fcX (ys := [s7, s2, (s3 - 1), s0, s8, s9, s10]) (hFc _ (.head _)) ⟨sE_V rfl, sE_V rfl, sEv (y' := ((-1 : Int) + ((1 : Int) * s3 + 0))) rfl (by omega), sE_V rfl, sE_V rfl, sE_V rfl, sE_V rfl, trivial⟩
  have f1 : 0 ≤ s2 ∧ s2 < 940 ∧ s11 = MB hp s2 := fcX (ys := [s2, s11]) (hFc _ (.tail _ (.head _))) ⟨sE_V rfl, sE_V rfl, trivial⟩
  exact poX (.head _) rfl hR (all_nil) (all_nil) (all_cons ⟨[s7, (s2 + 1), s3, s0, s1, s4, s5], ⟨sE_V rfl, sEv (y' := ((1 : Int) + ((1 : Int) * s2 + 0))) rfl (by omega), sE_V rfl, sE_V rfl, sE_V rfl, sE_V rfl, sE_V rfl, trivial⟩, (show RNm (MT hp) s7 (s2 + 1) s3 s0 s1 s4 s5 from rms_m f0 f1 (by omega) (by omega) (by omega) (by omega) (fun _ => by omega) (fun _ => by omega))⟩ (all_nil))
theorem rl580 : ruOk fFS gR580 := by
  intro r hp hO hN hH
  obtain ⟨s0, s1, s2, s3, s4, s5, s6, s7, s8, s9, s10, s11, rfl⟩ := len12 (show r.length = 12 from hN.1)
  have hR := hN.2.1.1
  have hIv : ∀ q ∈ ([(0, .ofNat 0, .ofNat 1), (1, .ofNat 0, .ofNat 0), (2, .negSucc 2147483647, .ofNat 2147483647), (3, .ofNat 8, .ofNat 941), (4, .negSucc 2147483647, .ofNat 2147483647), (6, .negSucc 2147483647, .ofNat 2147483647), (7, .negSucc 2147483647, .ofNat 2147483647), (8, .ofNat 0, .ofNat 0), (9, .negSucc 2147483647, .ofNat 2147483647), (11, .ofNat 48, .ofNat 57)] : sIv), ∃ x, ([s0, s1, s2, s3, s4, s5, s6, s7, s8, s9, s10, s11] : List Int)[q.1]? = some x ∧ q.2.1 ≤ x ∧ x ≤ q.2.2 := hN.2.1.2
  have b0 : (0 : Int) ≤ s0 ∧ s0 ≤ (1 : Int) := ivX (q := (0, .ofNat 0, .ofNat 1)) (y := s0) (hIv _ (.head _)) rfl
  have b1 : (0 : Int) ≤ s1 ∧ s1 ≤ (0 : Int) := ivX (q := (1, .ofNat 0, .ofNat 0)) (y := s1) (hIv _ (.tail _ (.head _))) rfl
  have b3 : (8 : Int) ≤ s3 ∧ s3 ≤ (941 : Int) := ivX (q := (3, .ofNat 8, .ofNat 941)) (y := s3) (hIv _ (.tail _ (.tail _ (.tail _ (.head _))))) rfl
  have b7 : (0 : Int) ≤ s8 ∧ s8 ≤ (0 : Int) := ivX (q := (8, .ofNat 0, .ofNat 0)) (y := s8) (hIv _ (.tail _ (.tail _ (.tail _ (.tail _ (.tail _ (.tail _ (.tail _ (.head _))))))))) rfl
  have b9 : (48 : Int) ≤ s11 ∧ s11 ≤ (57 : Int) := ivX (q := (11, .ofNat 48, .ofNat 57)) (y := s11) (hIv _ (.tail _ (.tail _ (.tail _ (.tail _ (.tail _ (.tail _ (.tail _ (.tail _ (.tail _ (.head _))))))))))) rfl
  have hCs : ∀ c ∈ ([(.ofNat 1, [(.ofNat 1, 2), (.negSucc 0, 6)])] : List sLn), ∃ x, sE [s0, s1, s2, s3, s4, s5, s6, s7, s8, s9, s10, s11] c = some x ∧ x ≤ 0 := hN.2.2.1
  have c0 : ((1 : Int) + ((1 : Int) * s2 + ((-1 : Int) * s6 + 0))) ≤ 0 := csX (hCs _ (.head _)) rfl
  have hRf : ∀ q ∈ ([((78, .ofNat 273, []), (.ofNat 4, []), 1, .ofNat 0, [(.ofNat 1, 2)]), ((78, .ofNat 273, []), (.ofNat 13, []), 1, .ofNat 0, [(.ofNat 1, 3)]), ((78, .ofNat 273, []), (.ofNat 14, []), 1, .ofNat 0, [(.ofNat 1, 4)]), ((78, .ofNat 273, []), (.ofNat 17, []), 5, .ofNat 0, [(.ofNat 1, 5)]), ((78, .ofNat 273, []), (.ofNat 3, []), 1, .ofNat 0, [(.ofNat 1, 6)])] : List sRf), rfOk [s0, s1, s2, s3, s4, s5, s6, s7, s8, s9, s10, s11] hp q := hH.1
  have h0 : hI hp 273 4 = s2 := rfI0 (hRf _ (.head _)) (sE_k _ _) (sE_k _ _) (sE_V rfl)
  have y0 : (0 : Int) ≤ s2 ∧ s2 ≤ (940 : Int) := by rw [← h0]; exact hI_ty hO (by decide) rfl
  have h1 : hI hp 273 13 = s3 := rfI0 (hRf _ (.tail _ (.head _))) (sE_k _ _) (sE_k _ _) (sE_V rfl)
  have h2 : hI hp 273 14 = s4 := rfI0 (hRf _ (.tail _ (.tail _ (.head _)))) (sE_k _ _) (sE_k _ _) (sE_V rfl)
  have h3 : hL hp 273 17 = s5 := rfL0 (hRf _ (.tail _ (.tail _ (.tail _ (.head _))))) (sE_k _ _) (sE_k _ _) (sE_V rfl)
  have h4 : hI hp 273 3 = s6 := rfI0 (hRf _ (.tail _ (.tail _ (.tail _ (.tail _ (.head _)))))) (sE_k _ _) (sE_k _ _) (sE_V rfl)
  have y4 : (0 : Int) ≤ s6 ∧ s6 ≤ (940 : Int) := by rw [← h4]; exact hI_ty hO (by decide) rfl
  have tnm : (MT hp).2.1 = s6 := h4
  have hFc : ∀ q ∈ ([(114, [(.ofNat 0, [(.ofNat 1, 7)]), (.ofNat 0, [(.ofNat 1, 2)]), (.negSucc 0, [(.ofNat 1, 3)]), (.ofNat 0, [(.ofNat 1, 0)]), (.ofNat 0, [(.ofNat 1, 8)]), (.ofNat 0, [(.ofNat 1, 9)]), (.ofNat 0, [(.ofNat 1, 10)])]), (113, [(.ofNat 0, [(.ofNat 1, 2)]), (.ofNat 0, [(.ofNat 1, 11)])])] : List sFc), fcOk fFS [s0, s1, s2, s3, s4, s5, s6, s7, s8, s9, s10, s11] hp q := hH.2
  have f0 : RNm (MT hp) s7 s2 (s3 - 1) s0 s8 s9 s10 := fcX (ys := [s7, s2, (s3 - 1), s0, s8, s9, s10]) (hFc _ (.head _)) ⟨sE_V rfl, sE_V rfl, sEv (y' := ((-1 : Int) + ((1 : Int) * s3 + 0))) rfl (by omega), sE_V rfl, sE_V rfl, sE_V rfl, sE_V rfl, trivial⟩
  have f1 : 0 ≤ s2 ∧ s2 < 940 ∧ s11 = MB hp s2 := fcX (ys := [s2, s11]) (hFc _ (.tail _ (.head _))) ⟨sE_V rfl, sE_V rfl, trivial⟩
  exact poX (.head _) rfl hR (all_nil) (all_nil) (all_cons ⟨[s7, (s2 + 1), s3, s0, s1, s4, s5], ⟨sE_V rfl, sEv (y' := ((1 : Int) + ((1 : Int) * s2 + 0))) rfl (by omega), sE_V rfl, sE_V rfl, sE_V rfl, sE_V rfl, sE_V rfl, trivial⟩, (show RNm (MT hp) s7 (s2 + 1) s3 s0 s1 s4 s5 from rms_m f0 f1 (by omega) (by omega) (by omega) (by omega) (fun _ => by omega) (fun _ => by omega))⟩ (all_nil))
theorem rl581 : ruOk fFS gR581 := by
  intro r hp hO hN hH
  obtain ⟨s0, s1, s2, s3, s4, s5, s6, s7, s8, s9, s10, s11, rfl⟩ := len12 (show r.length = 12 from hN.1)
  have hR := hN.2.1.1
  have hIv : ∀ q ∈ ([(0, .ofNat 0, .ofNat 0), (1, .ofNat 1, .ofNat 1), (2, .negSucc 2147483647, .ofNat 2147483647), (3, .ofNat 8, .ofNat 941), (4, .negSucc 2147483647, .ofNat 2147483647), (6, .negSucc 2147483647, .ofNat 2147483647), (7, .negSucc 2147483647, .ofNat 2147483647), (8, .ofNat 1, .ofNat 1), (9, .negSucc 2147483647, .ofNat 2147483647), (11, .ofNat 48, .ofNat 57)] : sIv), ∃ x, ([s0, s1, s2, s3, s4, s5, s6, s7, s8, s9, s10, s11] : List Int)[q.1]? = some x ∧ q.2.1 ≤ x ∧ x ≤ q.2.2 := hN.2.1.2
  have b0 : (0 : Int) ≤ s0 ∧ s0 ≤ (0 : Int) := ivX (q := (0, .ofNat 0, .ofNat 0)) (y := s0) (hIv _ (.head _)) rfl
  have b1 : (1 : Int) ≤ s1 ∧ s1 ≤ (1 : Int) := ivX (q := (1, .ofNat 1, .ofNat 1)) (y := s1) (hIv _ (.tail _ (.head _))) rfl
  have b3 : (8 : Int) ≤ s3 ∧ s3 ≤ (941 : Int) := ivX (q := (3, .ofNat 8, .ofNat 941)) (y := s3) (hIv _ (.tail _ (.tail _ (.tail _ (.head _))))) rfl
  have b7 : (1 : Int) ≤ s8 ∧ s8 ≤ (1 : Int) := ivX (q := (8, .ofNat 1, .ofNat 1)) (y := s8) (hIv _ (.tail _ (.tail _ (.tail _ (.tail _ (.tail _ (.tail _ (.tail _ (.head _))))))))) rfl
  have b9 : (48 : Int) ≤ s11 ∧ s11 ≤ (57 : Int) := ivX (q := (11, .ofNat 48, .ofNat 57)) (y := s11) (hIv _ (.tail _ (.tail _ (.tail _ (.tail _ (.tail _ (.tail _ (.tail _ (.tail _ (.tail _ (.head _))))))))))) rfl
  have hCs : ∀ c ∈ ([(.ofNat 1, [(.ofNat 1, 2), (.negSucc 0, 6)])] : List sLn), ∃ x, sE [s0, s1, s2, s3, s4, s5, s6, s7, s8, s9, s10, s11] c = some x ∧ x ≤ 0 := hN.2.2.1
  have c0 : ((1 : Int) + ((1 : Int) * s2 + ((-1 : Int) * s6 + 0))) ≤ 0 := csX (hCs _ (.head _)) rfl
  have hRf : ∀ q ∈ ([((78, .ofNat 273, []), (.ofNat 4, []), 1, .ofNat 0, [(.ofNat 1, 2)]), ((78, .ofNat 273, []), (.ofNat 13, []), 1, .ofNat 0, [(.ofNat 1, 3)]), ((78, .ofNat 273, []), (.ofNat 14, []), 1, .ofNat 0, [(.ofNat 1, 4)]), ((78, .ofNat 273, []), (.ofNat 17, []), 5, .ofNat 0, [(.ofNat 1, 5)]), ((78, .ofNat 273, []), (.ofNat 3, []), 1, .ofNat 0, [(.ofNat 1, 6)])] : List sRf), rfOk [s0, s1, s2, s3, s4, s5, s6, s7, s8, s9, s10, s11] hp q := hH.1
  have h0 : hI hp 273 4 = s2 := rfI0 (hRf _ (.head _)) (sE_k _ _) (sE_k _ _) (sE_V rfl)
  have y0 : (0 : Int) ≤ s2 ∧ s2 ≤ (940 : Int) := by rw [← h0]; exact hI_ty hO (by decide) rfl
  have h1 : hI hp 273 13 = s3 := rfI0 (hRf _ (.tail _ (.head _))) (sE_k _ _) (sE_k _ _) (sE_V rfl)
  have h2 : hI hp 273 14 = s4 := rfI0 (hRf _ (.tail _ (.tail _ (.head _)))) (sE_k _ _) (sE_k _ _) (sE_V rfl)
  have h3 : hL hp 273 17 = s5 := rfL0 (hRf _ (.tail _ (.tail _ (.tail _ (.head _))))) (sE_k _ _) (sE_k _ _) (sE_V rfl)
  have h4 : hI hp 273 3 = s6 := rfI0 (hRf _ (.tail _ (.tail _ (.tail _ (.tail _ (.head _)))))) (sE_k _ _) (sE_k _ _) (sE_V rfl)
  have y4 : (0 : Int) ≤ s6 ∧ s6 ≤ (940 : Int) := by rw [← h4]; exact hI_ty hO (by decide) rfl
  have tnm : (MT hp).2.1 = s6 := h4
  have hFc : ∀ q ∈ ([(114, [(.ofNat 0, [(.ofNat 1, 7)]), (.ofNat 0, [(.ofNat 1, 2)]), (.negSucc 0, [(.ofNat 1, 3)]), (.ofNat 0, [(.ofNat 1, 0)]), (.ofNat 0, [(.ofNat 1, 8)]), (.ofNat 0, [(.ofNat 1, 9)]), (.ofNat 0, [(.ofNat 1, 10)])]), (113, [(.ofNat 0, [(.ofNat 1, 2)]), (.ofNat 0, [(.ofNat 1, 11)])])] : List sFc), fcOk fFS [s0, s1, s2, s3, s4, s5, s6, s7, s8, s9, s10, s11] hp q := hH.2
  have f0 : RNm (MT hp) s7 s2 (s3 - 1) s0 s8 s9 s10 := fcX (ys := [s7, s2, (s3 - 1), s0, s8, s9, s10]) (hFc _ (.head _)) ⟨sE_V rfl, sE_V rfl, sEv (y' := ((-1 : Int) + ((1 : Int) * s3 + 0))) rfl (by omega), sE_V rfl, sE_V rfl, sE_V rfl, sE_V rfl, trivial⟩
  have f1 : 0 ≤ s2 ∧ s2 < 940 ∧ s11 = MB hp s2 := fcX (ys := [s2, s11]) (hFc _ (.tail _ (.head _))) ⟨sE_V rfl, sE_V rfl, trivial⟩
  exact poX (.head _) rfl hR (all_nil) (all_nil) (all_cons ⟨[s7, (s2 + 1), s3, s0, s1, s4, s5], ⟨sE_V rfl, sEv (y' := ((1 : Int) + ((1 : Int) * s2 + 0))) rfl (by omega), sE_V rfl, sE_V rfl, sE_V rfl, sE_V rfl, sE_V rfl, trivial⟩, (show RNm (MT hp) s7 (s2 + 1) s3 s0 s1 s4 s5 from rms_m f0 f1 (by omega) (by omega) (by omega) (by omega) (fun _ => by omega) (fun _ => by omega))⟩ (all_nil))
theorem rl582 : ruOk fFS gR582 := by
  intro r hp hO hN hH
  obtain ⟨s0, s1, s2, s3, s4, s5, s6, s7, s8, s9, s10, s11, rfl⟩ := len12 (show r.length = 12 from hN.1)
  have hR := hN.2.1.1
  have hIv : ∀ q ∈ ([(0, .ofNat 1, .ofNat 1), (1, .ofNat 0, .ofNat 0), (2, .negSucc 2147483647, .ofNat 2147483647), (3, .ofNat 8, .ofNat 941), (4, .negSucc 2147483647, .ofNat 2147483647), (6, .negSucc 2147483647, .ofNat 2147483647), (7, .negSucc 2147483647, .ofNat 2147483647), (8, .ofNat 1, .ofNat 1), (9, .negSucc 2147483647, .ofNat 2147483647), (11, .ofNat 48, .ofNat 57)] : sIv), ∃ x, ([s0, s1, s2, s3, s4, s5, s6, s7, s8, s9, s10, s11] : List Int)[q.1]? = some x ∧ q.2.1 ≤ x ∧ x ≤ q.2.2 := hN.2.1.2
  have b0 : (1 : Int) ≤ s0 ∧ s0 ≤ (1 : Int) := ivX (q := (0, .ofNat 1, .ofNat 1)) (y := s0) (hIv _ (.head _)) rfl
  have b1 : (0 : Int) ≤ s1 ∧ s1 ≤ (0 : Int) := ivX (q := (1, .ofNat 0, .ofNat 0)) (y := s1) (hIv _ (.tail _ (.head _))) rfl
  have b3 : (8 : Int) ≤ s3 ∧ s3 ≤ (941 : Int) := ivX (q := (3, .ofNat 8, .ofNat 941)) (y := s3) (hIv _ (.tail _ (.tail _ (.tail _ (.head _))))) rfl
  have b7 : (1 : Int) ≤ s8 ∧ s8 ≤ (1 : Int) := ivX (q := (8, .ofNat 1, .ofNat 1)) (y := s8) (hIv _ (.tail _ (.tail _ (.tail _ (.tail _ (.tail _ (.tail _ (.tail _ (.head _))))))))) rfl
  have b9 : (48 : Int) ≤ s11 ∧ s11 ≤ (57 : Int) := ivX (q := (11, .ofNat 48, .ofNat 57)) (y := s11) (hIv _ (.tail _ (.tail _ (.tail _ (.tail _ (.tail _ (.tail _ (.tail _ (.tail _ (.tail _ (.head _))))))))))) rfl
  have hCs : ∀ c ∈ ([(.ofNat 1, [(.ofNat 1, 2), (.negSucc 0, 6)])] : List sLn), ∃ x, sE [s0, s1, s2, s3, s4, s5, s6, s7, s8, s9, s10, s11] c = some x ∧ x ≤ 0 := hN.2.2.1
  have c0 : ((1 : Int) + ((1 : Int) * s2 + ((-1 : Int) * s6 + 0))) ≤ 0 := csX (hCs _ (.head _)) rfl
  have hRf : ∀ q ∈ ([((78, .ofNat 273, []), (.ofNat 4, []), 1, .ofNat 0, [(.ofNat 1, 2)]), ((78, .ofNat 273, []), (.ofNat 13, []), 1, .ofNat 0, [(.ofNat 1, 3)]), ((78, .ofNat 273, []), (.ofNat 14, []), 1, .ofNat 0, [(.ofNat 1, 4)]), ((78, .ofNat 273, []), (.ofNat 17, []), 5, .ofNat 0, [(.ofNat 1, 5)]), ((78, .ofNat 273, []), (.ofNat 3, []), 1, .ofNat 0, [(.ofNat 1, 6)])] : List sRf), rfOk [s0, s1, s2, s3, s4, s5, s6, s7, s8, s9, s10, s11] hp q := hH.1
  have h0 : hI hp 273 4 = s2 := rfI0 (hRf _ (.head _)) (sE_k _ _) (sE_k _ _) (sE_V rfl)
  have y0 : (0 : Int) ≤ s2 ∧ s2 ≤ (940 : Int) := by rw [← h0]; exact hI_ty hO (by decide) rfl
  have h1 : hI hp 273 13 = s3 := rfI0 (hRf _ (.tail _ (.head _))) (sE_k _ _) (sE_k _ _) (sE_V rfl)
  have h2 : hI hp 273 14 = s4 := rfI0 (hRf _ (.tail _ (.tail _ (.head _)))) (sE_k _ _) (sE_k _ _) (sE_V rfl)
  have h3 : hL hp 273 17 = s5 := rfL0 (hRf _ (.tail _ (.tail _ (.tail _ (.head _))))) (sE_k _ _) (sE_k _ _) (sE_V rfl)
  have h4 : hI hp 273 3 = s6 := rfI0 (hRf _ (.tail _ (.tail _ (.tail _ (.tail _ (.head _)))))) (sE_k _ _) (sE_k _ _) (sE_V rfl)
  have y4 : (0 : Int) ≤ s6 ∧ s6 ≤ (940 : Int) := by rw [← h4]; exact hI_ty hO (by decide) rfl
  have tnm : (MT hp).2.1 = s6 := h4
  have hFc : ∀ q ∈ ([(114, [(.ofNat 0, [(.ofNat 1, 7)]), (.ofNat 0, [(.ofNat 1, 2)]), (.negSucc 0, [(.ofNat 1, 3)]), (.ofNat 0, [(.ofNat 1, 0)]), (.ofNat 0, [(.ofNat 1, 8)]), (.ofNat 0, [(.ofNat 1, 9)]), (.ofNat 0, [(.ofNat 1, 10)])]), (113, [(.ofNat 0, [(.ofNat 1, 2)]), (.ofNat 0, [(.ofNat 1, 11)])])] : List sFc), fcOk fFS [s0, s1, s2, s3, s4, s5, s6, s7, s8, s9, s10, s11] hp q := hH.2
  have f0 : RNm (MT hp) s7 s2 (s3 - 1) s0 s8 s9 s10 := fcX (ys := [s7, s2, (s3 - 1), s0, s8, s9, s10]) (hFc _ (.head _)) ⟨sE_V rfl, sE_V rfl, sEv (y' := ((-1 : Int) + ((1 : Int) * s3 + 0))) rfl (by omega), sE_V rfl, sE_V rfl, sE_V rfl, sE_V rfl, trivial⟩
  have f1 : 0 ≤ s2 ∧ s2 < 940 ∧ s11 = MB hp s2 := fcX (ys := [s2, s11]) (hFc _ (.tail _ (.head _))) ⟨sE_V rfl, sE_V rfl, trivial⟩
  exact poX (.head _) rfl hR (all_nil) (all_nil) (all_cons ⟨[s7, (s2 + 1), s3, s0, s1, s4, s5], ⟨sE_V rfl, sEv (y' := ((1 : Int) + ((1 : Int) * s2 + 0))) rfl (by omega), sE_V rfl, sE_V rfl, sE_V rfl, sE_V rfl, sE_V rfl, trivial⟩, (show RNm (MT hp) s7 (s2 + 1) s3 s0 s1 s4 s5 from rms_m f0 f1 (by omega) (by omega) (by omega) (by omega) (fun _ => by omega) (fun _ => by omega))⟩ (all_nil))
theorem rl583 : ruOk fFS gR583 := by
  intro r hp hO hN hH
  obtain ⟨s0, s1, s2, s3, s4, s5, s6, s7, s8, s9, s10, s11, rfl⟩ := len12 (show r.length = 12 from hN.1)
  have hR := hN.2.1.1
  have hIv : ∀ q ∈ ([(0, .ofNat 0, .ofNat 1), (1, .ofNat 0, .ofNat 0), (2, .negSucc 2147483647, .ofNat 2147483647), (3, .ofNat 8, .ofNat 941), (4, .negSucc 2147483647, .ofNat 2147483647), (6, .negSucc 2147483647, .ofNat 2147483647), (7, .negSucc 2147483647, .ofNat 2147483647), (8, .ofNat 0, .ofNat 0), (9, .negSucc 2147483647, .ofNat 2147483647), (11, .ofNat 97, .ofNat 122)] : sIv), ∃ x, ([s0, s1, s2, s3, s4, s5, s6, s7, s8, s9, s10, s11] : List Int)[q.1]? = some x ∧ q.2.1 ≤ x ∧ x ≤ q.2.2 := hN.2.1.2
  have b0 : (0 : Int) ≤ s0 ∧ s0 ≤ (1 : Int) := ivX (q := (0, .ofNat 0, .ofNat 1)) (y := s0) (hIv _ (.head _)) rfl
  have b1 : (0 : Int) ≤ s1 ∧ s1 ≤ (0 : Int) := ivX (q := (1, .ofNat 0, .ofNat 0)) (y := s1) (hIv _ (.tail _ (.head _))) rfl
  have b3 : (8 : Int) ≤ s3 ∧ s3 ≤ (941 : Int) := ivX (q := (3, .ofNat 8, .ofNat 941)) (y := s3) (hIv _ (.tail _ (.tail _ (.tail _ (.head _))))) rfl
  have b7 : (0 : Int) ≤ s8 ∧ s8 ≤ (0 : Int) := ivX (q := (8, .ofNat 0, .ofNat 0)) (y := s8) (hIv _ (.tail _ (.tail _ (.tail _ (.tail _ (.tail _ (.tail _ (.tail _ (.head _))))))))) rfl
  have b9 : (97 : Int) ≤ s11 ∧ s11 ≤ (122 : Int) := ivX (q := (11, .ofNat 97, .ofNat 122)) (y := s11) (hIv _ (.tail _ (.tail _ (.tail _ (.tail _ (.tail _ (.tail _ (.tail _ (.tail _ (.tail _ (.head _))))))))))) rfl
  have hCs : ∀ c ∈ ([(.ofNat 1, [(.ofNat 1, 2), (.negSucc 0, 6)])] : List sLn), ∃ x, sE [s0, s1, s2, s3, s4, s5, s6, s7, s8, s9, s10, s11] c = some x ∧ x ≤ 0 := hN.2.2.1
  have c0 : ((1 : Int) + ((1 : Int) * s2 + ((-1 : Int) * s6 + 0))) ≤ 0 := csX (hCs _ (.head _)) rfl
  have hRf : ∀ q ∈ ([((78, .ofNat 273, []), (.ofNat 4, []), 1, .ofNat 0, [(.ofNat 1, 2)]), ((78, .ofNat 273, []), (.ofNat 13, []), 1, .ofNat 0, [(.ofNat 1, 3)]), ((78, .ofNat 273, []), (.ofNat 14, []), 1, .ofNat 0, [(.ofNat 1, 4)]), ((78, .ofNat 273, []), (.ofNat 17, []), 5, .ofNat 0, [(.ofNat 1, 5)]), ((78, .ofNat 273, []), (.ofNat 3, []), 1, .ofNat 0, [(.ofNat 1, 6)])] : List sRf), rfOk [s0, s1, s2, s3, s4, s5, s6, s7, s8, s9, s10, s11] hp q := hH.1
  have h0 : hI hp 273 4 = s2 := rfI0 (hRf _ (.head _)) (sE_k _ _) (sE_k _ _) (sE_V rfl)
  have y0 : (0 : Int) ≤ s2 ∧ s2 ≤ (940 : Int) := by rw [← h0]; exact hI_ty hO (by decide) rfl
  have h1 : hI hp 273 13 = s3 := rfI0 (hRf _ (.tail _ (.head _))) (sE_k _ _) (sE_k _ _) (sE_V rfl)
  have h2 : hI hp 273 14 = s4 := rfI0 (hRf _ (.tail _ (.tail _ (.head _)))) (sE_k _ _) (sE_k _ _) (sE_V rfl)
  have h3 : hL hp 273 17 = s5 := rfL0 (hRf _ (.tail _ (.tail _ (.tail _ (.head _))))) (sE_k _ _) (sE_k _ _) (sE_V rfl)
  have h4 : hI hp 273 3 = s6 := rfI0 (hRf _ (.tail _ (.tail _ (.tail _ (.tail _ (.head _)))))) (sE_k _ _) (sE_k _ _) (sE_V rfl)
  have y4 : (0 : Int) ≤ s6 ∧ s6 ≤ (940 : Int) := by rw [← h4]; exact hI_ty hO (by decide) rfl
  have tnm : (MT hp).2.1 = s6 := h4
  have hFc : ∀ q ∈ ([(114, [(.ofNat 0, [(.ofNat 1, 7)]), (.ofNat 0, [(.ofNat 1, 2)]), (.negSucc 0, [(.ofNat 1, 3)]), (.ofNat 0, [(.ofNat 1, 0)]), (.ofNat 0, [(.ofNat 1, 8)]), (.ofNat 0, [(.ofNat 1, 9)]), (.ofNat 0, [(.ofNat 1, 10)])]), (113, [(.ofNat 0, [(.ofNat 1, 2)]), (.ofNat 0, [(.ofNat 1, 11)])])] : List sFc), fcOk fFS [s0, s1, s2, s3, s4, s5, s6, s7, s8, s9, s10, s11] hp q := hH.2
  have f0 : RNm (MT hp) s7 s2 (s3 - 1) s0 s8 s9 s10 := fcX (ys := [s7, s2, (s3 - 1), s0, s8, s9, s10]) (hFc _ (.head _)) ⟨sE_V rfl, sE_V rfl, sEv (y' := ((-1 : Int) + ((1 : Int) * s3 + 0))) rfl (by omega), sE_V rfl, sE_V rfl, sE_V rfl, sE_V rfl, trivial⟩
  have f1 : 0 ≤ s2 ∧ s2 < 940 ∧ s11 = MB hp s2 := fcX (ys := [s2, s11]) (hFc _ (.tail _ (.head _))) ⟨sE_V rfl, sE_V rfl, trivial⟩
  exact poX (.head _) rfl hR (all_nil) (all_nil) (all_cons ⟨[s7, (s2 + 1), s3, s0, s1, s4, s5], ⟨sE_V rfl, sEv (y' := ((1 : Int) + ((1 : Int) * s2 + 0))) rfl (by omega), sE_V rfl, sE_V rfl, sE_V rfl, sE_V rfl, sE_V rfl, trivial⟩, (show RNm (MT hp) s7 (s2 + 1) s3 s0 s1 s4 s5 from rms_m f0 f1 (by omega) (by omega) (by omega) (by omega) (fun _ => by omega) (fun _ => by omega))⟩ (all_nil))
theorem rl584 : ruOk fFS gR584 := by
  intro r hp hO hN hH
  obtain ⟨s0, s1, s2, s3, s4, s5, s6, s7, s8, s9, s10, s11, rfl⟩ := len12 (show r.length = 12 from hN.1)
  have hR := hN.2.1.1
  have hIv : ∀ q ∈ ([(0, .ofNat 0, .ofNat 0), (1, .ofNat 0, .ofNat 0), (2, .negSucc 2147483647, .ofNat 2147483647), (3, .ofNat 8, .ofNat 941), (4, .negSucc 2147483647, .ofNat 2147483647), (6, .negSucc 2147483647, .ofNat 2147483647), (7, .negSucc 2147483647, .ofNat 2147483647), (8, .ofNat 1, .ofNat 1), (9, .negSucc 2147483647, .ofNat 2147483647), (11, .ofNat 97, .ofNat 122)] : sIv), ∃ x, ([s0, s1, s2, s3, s4, s5, s6, s7, s8, s9, s10, s11] : List Int)[q.1]? = some x ∧ q.2.1 ≤ x ∧ x ≤ q.2.2 := hN.2.1.2
  have b0 : (0 : Int) ≤ s0 ∧ s0 ≤ (0 : Int) := ivX (q := (0, .ofNat 0, .ofNat 0)) (y := s0) (hIv _ (.head _)) rfl
  have b1 : (0 : Int) ≤ s1 ∧ s1 ≤ (0 : Int) := ivX (q := (1, .ofNat 0, .ofNat 0)) (y := s1) (hIv _ (.tail _ (.head _))) rfl
  have b3 : (8 : Int) ≤ s3 ∧ s3 ≤ (941 : Int) := ivX (q := (3, .ofNat 8, .ofNat 941)) (y := s3) (hIv _ (.tail _ (.tail _ (.tail _ (.head _))))) rfl
  have b7 : (1 : Int) ≤ s8 ∧ s8 ≤ (1 : Int) := ivX (q := (8, .ofNat 1, .ofNat 1)) (y := s8) (hIv _ (.tail _ (.tail _ (.tail _ (.tail _ (.tail _ (.tail _ (.tail _ (.head _))))))))) rfl
  have b9 : (97 : Int) ≤ s11 ∧ s11 ≤ (122 : Int) := ivX (q := (11, .ofNat 97, .ofNat 122)) (y := s11) (hIv _ (.tail _ (.tail _ (.tail _ (.tail _ (.tail _ (.tail _ (.tail _ (.tail _ (.tail _ (.head _))))))))))) rfl
  have hCs : ∀ c ∈ ([(.ofNat 1, [(.ofNat 1, 2), (.negSucc 0, 6)])] : List sLn), ∃ x, sE [s0, s1, s2, s3, s4, s5, s6, s7, s8, s9, s10, s11] c = some x ∧ x ≤ 0 := hN.2.2.1
  have c0 : ((1 : Int) + ((1 : Int) * s2 + ((-1 : Int) * s6 + 0))) ≤ 0 := csX (hCs _ (.head _)) rfl
  have hRf : ∀ q ∈ ([((78, .ofNat 273, []), (.ofNat 4, []), 1, .ofNat 0, [(.ofNat 1, 2)]), ((78, .ofNat 273, []), (.ofNat 13, []), 1, .ofNat 0, [(.ofNat 1, 3)]), ((78, .ofNat 273, []), (.ofNat 14, []), 1, .ofNat 0, [(.ofNat 1, 4)]), ((78, .ofNat 273, []), (.ofNat 17, []), 5, .ofNat 0, [(.ofNat 1, 5)]), ((78, .ofNat 273, []), (.ofNat 3, []), 1, .ofNat 0, [(.ofNat 1, 6)])] : List sRf), rfOk [s0, s1, s2, s3, s4, s5, s6, s7, s8, s9, s10, s11] hp q := hH.1
  have h0 : hI hp 273 4 = s2 := rfI0 (hRf _ (.head _)) (sE_k _ _) (sE_k _ _) (sE_V rfl)
  have y0 : (0 : Int) ≤ s2 ∧ s2 ≤ (940 : Int) := by rw [← h0]; exact hI_ty hO (by decide) rfl
  have h1 : hI hp 273 13 = s3 := rfI0 (hRf _ (.tail _ (.head _))) (sE_k _ _) (sE_k _ _) (sE_V rfl)
  have h2 : hI hp 273 14 = s4 := rfI0 (hRf _ (.tail _ (.tail _ (.head _)))) (sE_k _ _) (sE_k _ _) (sE_V rfl)
  have h3 : hL hp 273 17 = s5 := rfL0 (hRf _ (.tail _ (.tail _ (.tail _ (.head _))))) (sE_k _ _) (sE_k _ _) (sE_V rfl)
  have h4 : hI hp 273 3 = s6 := rfI0 (hRf _ (.tail _ (.tail _ (.tail _ (.tail _ (.head _)))))) (sE_k _ _) (sE_k _ _) (sE_V rfl)
  have y4 : (0 : Int) ≤ s6 ∧ s6 ≤ (940 : Int) := by rw [← h4]; exact hI_ty hO (by decide) rfl
  have tnm : (MT hp).2.1 = s6 := h4
  have hFc : ∀ q ∈ ([(114, [(.ofNat 0, [(.ofNat 1, 7)]), (.ofNat 0, [(.ofNat 1, 2)]), (.negSucc 0, [(.ofNat 1, 3)]), (.ofNat 0, [(.ofNat 1, 0)]), (.ofNat 0, [(.ofNat 1, 8)]), (.ofNat 0, [(.ofNat 1, 9)]), (.ofNat 0, [(.ofNat 1, 10)])]), (113, [(.ofNat 0, [(.ofNat 1, 2)]), (.ofNat 0, [(.ofNat 1, 11)])])] : List sFc), fcOk fFS [s0, s1, s2, s3, s4, s5, s6, s7, s8, s9, s10, s11] hp q := hH.2
  have f0 : RNm (MT hp) s7 s2 (s3 - 1) s0 s8 s9 s10 := fcX (ys := [s7, s2, (s3 - 1), s0, s8, s9, s10]) (hFc _ (.head _)) ⟨sE_V rfl, sE_V rfl, sEv (y' := ((-1 : Int) + ((1 : Int) * s3 + 0))) rfl (by omega), sE_V rfl, sE_V rfl, sE_V rfl, sE_V rfl, trivial⟩
  have f1 : 0 ≤ s2 ∧ s2 < 940 ∧ s11 = MB hp s2 := fcX (ys := [s2, s11]) (hFc _ (.tail _ (.head _))) ⟨sE_V rfl, sE_V rfl, trivial⟩
  exact poX (.head _) rfl hR (all_nil) (all_nil) (all_cons ⟨[s7, (s2 + 1), s3, s0, s1, s4, s5], ⟨sE_V rfl, sEv (y' := ((1 : Int) + ((1 : Int) * s2 + 0))) rfl (by omega), sE_V rfl, sE_V rfl, sE_V rfl, sE_V rfl, sE_V rfl, trivial⟩, (show RNm (MT hp) s7 (s2 + 1) s3 s0 s1 s4 s5 from rms_m f0 f1 (by omega) (by omega) (by omega) (by omega) (fun _ => by omega) (fun _ => by omega))⟩ (all_nil))
theorem rl585 : ruOk fFS gR585 := by
  intro r hp hO hN hH
  obtain ⟨s0, s1, s2, s3, s4, s5, s6, s7, s8, s9, s10, s11, rfl⟩ := len12 (show r.length = 12 from hN.1)
  have hR := hN.2.1.1
  have hIv : ∀ q ∈ ([(0, .ofNat 1, .ofNat 1), (1, .ofNat 1, .ofNat 1), (2, .negSucc 2147483647, .ofNat 2147483647), (3, .ofNat 8, .ofNat 941), (4, .negSucc 2147483647, .ofNat 2147483647), (6, .negSucc 2147483647, .ofNat 2147483647), (7, .negSucc 2147483647, .ofNat 2147483647), (8, .ofNat 1, .ofNat 1), (9, .negSucc 2147483647, .ofNat 2147483647), (11, .ofNat 97, .ofNat 122)] : sIv), ∃ x, ([s0, s1, s2, s3, s4, s5, s6, s7, s8, s9, s10, s11] : List Int)[q.1]? = some x ∧ q.2.1 ≤ x ∧ x ≤ q.2.2 := hN.2.1.2
  have b0 : (1 : Int) ≤ s0 ∧ s0 ≤ (1 : Int) := ivX (q := (0, .ofNat 1, .ofNat 1)) (y := s0) (hIv _ (.head _)) rfl
  have b1 : (1 : Int) ≤ s1 ∧ s1 ≤ (1 : Int) := ivX (q := (1, .ofNat 1, .ofNat 1)) (y := s1) (hIv _ (.tail _ (.head _))) rfl
  have b3 : (8 : Int) ≤ s3 ∧ s3 ≤ (941 : Int) := ivX (q := (3, .ofNat 8, .ofNat 941)) (y := s3) (hIv _ (.tail _ (.tail _ (.tail _ (.head _))))) rfl
  have b7 : (1 : Int) ≤ s8 ∧ s8 ≤ (1 : Int) := ivX (q := (8, .ofNat 1, .ofNat 1)) (y := s8) (hIv _ (.tail _ (.tail _ (.tail _ (.tail _ (.tail _ (.tail _ (.tail _ (.head _))))))))) rfl
  have b9 : (97 : Int) ≤ s11 ∧ s11 ≤ (122 : Int) := ivX (q := (11, .ofNat 97, .ofNat 122)) (y := s11) (hIv _ (.tail _ (.tail _ (.tail _ (.tail _ (.tail _ (.tail _ (.tail _ (.tail _ (.tail _ (.head _))))))))))) rfl
  have hCs : ∀ c ∈ ([(.ofNat 1, [(.ofNat 1, 2), (.negSucc 0, 6)])] : List sLn), ∃ x, sE [s0, s1, s2, s3, s4, s5, s6, s7, s8, s9, s10, s11] c = some x ∧ x ≤ 0 := hN.2.2.1
  have c0 : ((1 : Int) + ((1 : Int) * s2 + ((-1 : Int) * s6 + 0))) ≤ 0 := csX (hCs _ (.head _)) rfl
  have hRf : ∀ q ∈ ([((78, .ofNat 273, []), (.ofNat 4, []), 1, .ofNat 0, [(.ofNat 1, 2)]), ((78, .ofNat 273, []), (.ofNat 13, []), 1, .ofNat 0, [(.ofNat 1, 3)]), ((78, .ofNat 273, []), (.ofNat 14, []), 1, .ofNat 0, [(.ofNat 1, 4)]), ((78, .ofNat 273, []), (.ofNat 17, []), 5, .ofNat 0, [(.ofNat 1, 5)]), ((78, .ofNat 273, []), (.ofNat 3, []), 1, .ofNat 0, [(.ofNat 1, 6)])] : List sRf), rfOk [s0, s1, s2, s3, s4, s5, s6, s7, s8, s9, s10, s11] hp q := hH.1
  have h0 : hI hp 273 4 = s2 := rfI0 (hRf _ (.head _)) (sE_k _ _) (sE_k _ _) (sE_V rfl)
  have y0 : (0 : Int) ≤ s2 ∧ s2 ≤ (940 : Int) := by rw [← h0]; exact hI_ty hO (by decide) rfl
  have h1 : hI hp 273 13 = s3 := rfI0 (hRf _ (.tail _ (.head _))) (sE_k _ _) (sE_k _ _) (sE_V rfl)
  have h2 : hI hp 273 14 = s4 := rfI0 (hRf _ (.tail _ (.tail _ (.head _)))) (sE_k _ _) (sE_k _ _) (sE_V rfl)
  have h3 : hL hp 273 17 = s5 := rfL0 (hRf _ (.tail _ (.tail _ (.tail _ (.head _))))) (sE_k _ _) (sE_k _ _) (sE_V rfl)
  have h4 : hI hp 273 3 = s6 := rfI0 (hRf _ (.tail _ (.tail _ (.tail _ (.tail _ (.head _)))))) (sE_k _ _) (sE_k _ _) (sE_V rfl)
  have y4 : (0 : Int) ≤ s6 ∧ s6 ≤ (940 : Int) := by rw [← h4]; exact hI_ty hO (by decide) rfl
  have tnm : (MT hp).2.1 = s6 := h4
  have hFc : ∀ q ∈ ([(114, [(.ofNat 0, [(.ofNat 1, 7)]), (.ofNat 0, [(.ofNat 1, 2)]), (.negSucc 0, [(.ofNat 1, 3)]), (.ofNat 0, [(.ofNat 1, 0)]), (.ofNat 0, [(.ofNat 1, 8)]), (.ofNat 0, [(.ofNat 1, 9)]), (.ofNat 0, [(.ofNat 1, 10)])]), (113, [(.ofNat 0, [(.ofNat 1, 2)]), (.ofNat 0, [(.ofNat 1, 11)])])] : List sFc), fcOk fFS [s0, s1, s2, s3, s4, s5, s6, s7, s8, s9, s10, s11] hp q := hH.2
  have f0 : RNm (MT hp) s7 s2 (s3 - 1) s0 s8 s9 s10 := fcX (ys := [s7, s2, (s3 - 1), s0, s8, s9, s10]) (hFc _ (.head _)) ⟨sE_V rfl, sE_V rfl, sEv (y' := ((-1 : Int) + ((1 : Int) * s3 + 0))) rfl (by omega), sE_V rfl, sE_V rfl, sE_V rfl, sE_V rfl, trivial⟩
  have f1 : 0 ≤ s2 ∧ s2 < 940 ∧ s11 = MB hp s2 := fcX (ys := [s2, s11]) (hFc _ (.tail _ (.head _))) ⟨sE_V rfl, sE_V rfl, trivial⟩
  exact poX (.head _) rfl hR (all_nil) (all_nil) (all_cons ⟨[s7, (s2 + 1), s3, s0, s1, s4, s5], ⟨sE_V rfl, sEv (y' := ((1 : Int) + ((1 : Int) * s2 + 0))) rfl (by omega), sE_V rfl, sE_V rfl, sE_V rfl, sE_V rfl, sE_V rfl, trivial⟩, (show RNm (MT hp) s7 (s2 + 1) s3 s0 s1 s4 s5 from rms_m f0 f1 (by omega) (by omega) (by omega) (by omega) (fun _ => by omega) (fun _ => by omega))⟩ (all_nil))
theorem rl586 : ruOk fFS gR586 := by
  intro r hp hO hN hH
  obtain ⟨s0, s1, s2, s3, s4, s5, s6, s7, s8, s9, s10, s11, s12, rfl⟩ := len13 (show r.length = 13 from hN.1)
  have hR := hN.2.1.1
  have hIv : ∀ q ∈ ([(0, .negSucc 2147483647, .ofNat 2147483647), (1, .ofNat 0, .ofNat 0), (2, .negSucc 2147483647, .ofNat 2147483647), (3, .negSucc 2147483647, .ofNat 2147483647), (4, .negSucc 2147483647, .ofNat 2147483647), (5, .negSucc 2147483647, .ofNat 2147483647), (6, .negSucc 2147483647, .ofNat 2147483647), (7, .negSucc 2147483647, .ofNat 2147483647), (8, .negSucc 2147483647, .ofNat 2147483647), (9, .negSucc 2147483647, .ofNat 2147483647), (10, .negSucc 2147483647, .ofNat 2147483647), (11, .negSucc 2147483647, .ofNat 2147483647), (12, .negSucc 2147483647, .ofNat 2147483647)] : sIv), ∃ x, ([s0, s1, s2, s3, s4, s5, s6, s7, s8, s9, s10, s11, s12] : List Int)[q.1]? = some x ∧ q.2.1 ≤ x ∧ x ≤ q.2.2 := hN.2.1.2
  have b0 : (-2147483648 : Int) ≤ s0 ∧ s0 ≤ (2147483647 : Int) := ivX (q := (0, .negSucc 2147483647, .ofNat 2147483647)) (y := s0) (hIv _ (.head _)) rfl
  have b1 : (0 : Int) ≤ s1 ∧ s1 ≤ (0 : Int) := ivX (q := (1, .ofNat 0, .ofNat 0)) (y := s1) (hIv _ (.tail _ (.head _))) rfl
  have b2 : (-2147483648 : Int) ≤ s2 ∧ s2 ≤ (2147483647 : Int) := ivX (q := (2, .negSucc 2147483647, .ofNat 2147483647)) (y := s2) (hIv _ (.tail _ (.tail _ (.head _)))) rfl
  have hFc : ∀ q ∈ ([(119, [(.ofNat 0, [(.ofNat 1, 0)]), (.ofNat 0, [(.ofNat 1, 1)]), (.ofNat 0, [(.ofNat 1, 2)]), (.ofNat 0, [(.ofNat 1, 3)]), (.ofNat 0, [(.ofNat 1, 4)]), (.ofNat 0, [(.ofNat 1, 5)]), (.ofNat 0, [(.ofNat 1, 6)]), (.ofNat 0, [(.ofNat 1, 7)]), (.ofNat 0, [(.ofNat 1, 8)]), (.ofNat 0, [(.ofNat 1, 9)]), (.ofNat 0, [(.ofNat 1, 10)]), (.ofNat 0, [(.ofNat 1, 11)]), (.ofNat 0, [(.ofNat 1, 12)])])] : List sFc), fcOk fFS [s0, s1, s2, s3, s4, s5, s6, s7, s8, s9, s10, s11, s12] hp q := hH.2
  have f0 : Hq (MT hp) s0 s1 s2 s3 s4 s5 s6 s7 s8 s9 s10 s11 s12 := fcX (ys := [s0, s1, s2, s3, s4, s5, s6, s7, s8, s9, s10, s11, s12]) (hFc _ (.head _)) ⟨sE_V rfl, sE_V rfl, sE_V rfl, sE_V rfl, sE_V rfl, sE_V rfl, sE_V rfl, sE_V rfl, sE_V rfl, sE_V rfl, sE_V rfl, sE_V rfl, sE_V rfl, trivial⟩
  have u := h_bd (MT_ok hO) f0
  exact poX (.head _) rfl hR (all_cons (ivO (y := s0) rfl (show (0 : Int) ≤ s0 by omega) (show s0 ≤ (940 : Int) by omega)) (all_cons (ivO (y := s2) rfl (show (0 : Int) ≤ s2 by omega) (show s2 ≤ (470 : Int) by omega)) (all_nil))) (all_nil) (all_nil)
theorem rl587 : ruOk fFS gR587 := by
  intro r hp hO hN hH
  obtain ⟨s0, s1, s2, s3, s4, s5, s6, s7, s8, s9, s10, rfl⟩ := len11 (show r.length = 11 from hN.1)
  have hR := hN.2.1.1
  have hIv : ∀ q ∈ ([(0, .negSucc 2147483647, .ofNat 2147483647), (1, .negSucc 2147483647, .ofNat 2147483647), (2, .negSucc 2147483647, .ofNat 2147483647), (3, .negSucc 2147483647, .ofNat 2147483647), (4, .negSucc 2147483647, .ofNat 2147483647), (5, .negSucc 2147483647, .ofNat 2147483647), (6, .negSucc 2147483647, .ofNat 2147483647), (7, .negSucc 2147483647, .ofNat 2147483647), (8, .negSucc 2147483647, .ofNat 2147483647), (9, .negSucc 2147483647, .ofNat 2147483647), (10, .negSucc 2147483647, .ofNat 2147483647)] : sIv), ∃ x, ([s0, s1, s2, s3, s4, s5, s6, s7, s8, s9, s10] : List Int)[q.1]? = some x ∧ q.2.1 ≤ x ∧ x ≤ q.2.2 := hN.2.1.2
  have b1 : (-2147483648 : Int) ≤ s1 ∧ s1 ≤ (2147483647 : Int) := ivX (q := (1, .negSucc 2147483647, .ofNat 2147483647)) (y := s1) (hIv _ (.tail _ (.head _))) rfl
  have b2 : (-2147483648 : Int) ≤ s2 ∧ s2 ≤ (2147483647 : Int) := ivX (q := (2, .negSucc 2147483647, .ofNat 2147483647)) (y := s2) (hIv _ (.tail _ (.tail _ (.head _)))) rfl
  have b3 : (-2147483648 : Int) ≤ s3 ∧ s3 ≤ (2147483647 : Int) := ivX (q := (3, .negSucc 2147483647, .ofNat 2147483647)) (y := s3) (hIv _ (.tail _ (.tail _ (.tail _ (.head _))))) rfl
  have b4 : (-2147483648 : Int) ≤ s4 ∧ s4 ≤ (2147483647 : Int) := ivX (q := (4, .negSucc 2147483647, .ofNat 2147483647)) (y := s4) (hIv _ (.tail _ (.tail _ (.tail _ (.tail _ (.head _)))))) rfl
  have b5 : (-2147483648 : Int) ≤ s5 ∧ s5 ≤ (2147483647 : Int) := ivX (q := (5, .negSucc 2147483647, .ofNat 2147483647)) (y := s5) (hIv _ (.tail _ (.tail _ (.tail _ (.tail _ (.tail _ (.head _))))))) rfl
  have b6 : (-2147483648 : Int) ≤ s6 ∧ s6 ≤ (2147483647 : Int) := ivX (q := (6, .negSucc 2147483647, .ofNat 2147483647)) (y := s6) (hIv _ (.tail _ (.tail _ (.tail _ (.tail _ (.tail _ (.tail _ (.head _)))))))) rfl
  have b7 : (-2147483648 : Int) ≤ s7 ∧ s7 ≤ (2147483647 : Int) := ivX (q := (7, .negSucc 2147483647, .ofNat 2147483647)) (y := s7) (hIv _ (.tail _ (.tail _ (.tail _ (.tail _ (.tail _ (.tail _ (.tail _ (.head _))))))))) rfl
  have b8 : (-2147483648 : Int) ≤ s8 ∧ s8 ≤ (2147483647 : Int) := ivX (q := (8, .negSucc 2147483647, .ofNat 2147483647)) (y := s8) (hIv _ (.tail _ (.tail _ (.tail _ (.tail _ (.tail _ (.tail _ (.tail _ (.tail _ (.head _)))))))))) rfl
  have b9 : (-2147483648 : Int) ≤ s9 ∧ s9 ≤ (2147483647 : Int) := ivX (q := (9, .negSucc 2147483647, .ofNat 2147483647)) (y := s9) (hIv _ (.tail _ (.tail _ (.tail _ (.tail _ (.tail _ (.tail _ (.tail _ (.tail _ (.tail _ (.head _))))))))))) rfl
  have b10 : (-2147483648 : Int) ≤ s10 ∧ s10 ≤ (2147483647 : Int) := ivX (q := (10, .negSucc 2147483647, .ofNat 2147483647)) (y := s10) (hIv _ (.tail _ (.tail _ (.tail _ (.tail _ (.tail _ (.tail _ (.tail _ (.tail _ (.tail _ (.tail _ (.head _)))))))))))) rfl
  have hFc : ∀ q ∈ ([(125, [(.ofNat 0, [(.ofNat 1, 0)]), (.ofNat 0, [(.ofNat 1, 1)]), (.ofNat 0, [(.ofNat 1, 2)]), (.ofNat 0, [(.ofNat 1, 3)]), (.ofNat 0, [(.ofNat 1, 4)]), (.ofNat 0, [(.ofNat 1, 5)]), (.ofNat 0, [(.ofNat 1, 6)]), (.ofNat 0, [(.ofNat 1, 7)]), (.ofNat 0, [(.ofNat 1, 8)]), (.ofNat 0, [(.ofNat 1, 9)]), (.ofNat 0, [(.ofNat 1, 10)])])] : List sFc), fcOk fFS [s0, s1, s2, s3, s4, s5, s6, s7, s8, s9, s10] hp q := hH.2
  have f0 : CT (MT hp) s0 s1 s2 s3 s4 s5 s6 s7 s8 s9 s10 := fcX (ys := [s0, s1, s2, s3, s4, s5, s6, s7, s8, s9, s10]) (hFc _ (.head _)) ⟨sE_V rfl, sE_V rfl, sE_V rfl, sE_V rfl, sE_V rfl, sE_V rfl, sE_V rfl, sE_V rfl, sE_V rfl, sE_V rfl, sE_V rfl, trivial⟩
  have u := ct_b (MT_ok hO) f0
  exact poX (.head _) rfl hR (all_cons (ivO (y := s1) rfl (show (0 : Int) ≤ s1 by omega) (show s1 ≤ (4 : Int) by omega)) (all_cons (ivO (y := s2) rfl (show (0 : Int) ≤ s2 by omega) (show s2 ≤ (3 : Int) by omega)) (all_cons (ivO (y := s3) rfl (show (0 : Int) ≤ s3 by omega) (show s3 ≤ (5 : Int) by omega)) (all_cons (ivO (y := s4) rfl (show (0 : Int) ≤ s4 by omega) (show s4 ≤ (8 : Int) by omega)) (all_cons (ivO (y := s5) rfl (show (0 : Int) ≤ s5 by omega) (show s5 ≤ (14 : Int) by omega)) (all_cons (ivO (y := s6) rfl (show (0 : Int) ≤ s6 by omega) (show s6 ≤ (10 : Int) by omega)) (all_cons (ivO (y := s7) rfl (show (0 : Int) ≤ s7 by omega) (show s7 ≤ (8 : Int) by omega)) (all_cons (ivO (y := s8) rfl (show (0 : Int) ≤ s8 by omega) (show s8 ≤ (1 : Int) by omega)) (all_cons (ivO (y := s9) rfl (show (1 : Int) ≤ s9 by omega) (show s9 ≤ (10 : Int) by omega)) (all_cons (ivO (y := s10) rfl (show (1 : Int) ≤ s10 by omega) (show s10 ≤ (10 : Int) by omega)) (all_nil))))))))))) (all_nil) (all_nil)
theorem rl588 : ruOk fFS gR588 := by
  intro r hp hO hN hH
  obtain ⟨s0, s1, s2, s3, s4, s5, s6, s7, s8, s9, s10, s11, s12, rfl⟩ := len13 (show r.length = 13 from hN.1)
  have hR := hN.2.1.1
  have hIv : ∀ q ∈ ([(0, .negSucc 2147483647, .ofNat 2147483647), (1, .negSucc 2147483647, .ofNat 2147483647), (2, .negSucc 2147483647, .ofNat 2147483647), (3, .negSucc 2147483647, .ofNat 2147483647), (4, .negSucc 2147483647, .ofNat 2147483647), (5, .negSucc 2147483647, .ofNat 2147483647), (6, .negSucc 2147483647, .ofNat 2147483647), (7, .negSucc 2147483647, .ofNat 2147483647), (8, .negSucc 2147483647, .ofNat 2147483647), (9, .negSucc 2147483647, .ofNat 2147483647), (10, .negSucc 2147483647, .ofNat 2147483647), (11, .negSucc 2147483647, .ofNat 2147483647), (12, .negSucc 2147483647, .ofNat 2147483647)] : sIv), ∃ x, ([s0, s1, s2, s3, s4, s5, s6, s7, s8, s9, s10, s11, s12] : List Int)[q.1]? = some x ∧ q.2.1 ≤ x ∧ x ≤ q.2.2 := hN.2.1.2
  have b3 : (-2147483648 : Int) ≤ s3 ∧ s3 ≤ (2147483647 : Int) := ivX (q := (3, .negSucc 2147483647, .ofNat 2147483647)) (y := s3) (hIv _ (.tail _ (.tail _ (.tail _ (.head _))))) rfl
  have b4 : (-2147483648 : Int) ≤ s4 ∧ s4 ≤ (2147483647 : Int) := ivX (q := (4, .negSucc 2147483647, .ofNat 2147483647)) (y := s4) (hIv _ (.tail _ (.tail _ (.tail _ (.tail _ (.head _)))))) rfl
  have b5 : (-2147483648 : Int) ≤ s5 ∧ s5 ≤ (2147483647 : Int) := ivX (q := (5, .negSucc 2147483647, .ofNat 2147483647)) (y := s5) (hIv _ (.tail _ (.tail _ (.tail _ (.tail _ (.tail _ (.head _))))))) rfl
  have b6 : (-2147483648 : Int) ≤ s6 ∧ s6 ≤ (2147483647 : Int) := ivX (q := (6, .negSucc 2147483647, .ofNat 2147483647)) (y := s6) (hIv _ (.tail _ (.tail _ (.tail _ (.tail _ (.tail _ (.tail _ (.head _)))))))) rfl
  have b7 : (-2147483648 : Int) ≤ s7 ∧ s7 ≤ (2147483647 : Int) := ivX (q := (7, .negSucc 2147483647, .ofNat 2147483647)) (y := s7) (hIv _ (.tail _ (.tail _ (.tail _ (.tail _ (.tail _ (.tail _ (.tail _ (.head _))))))))) rfl
  have b8 : (-2147483648 : Int) ≤ s8 ∧ s8 ≤ (2147483647 : Int) := ivX (q := (8, .negSucc 2147483647, .ofNat 2147483647)) (y := s8) (hIv _ (.tail _ (.tail _ (.tail _ (.tail _ (.tail _ (.tail _ (.tail _ (.tail _ (.head _)))))))))) rfl
  have b9 : (-2147483648 : Int) ≤ s9 ∧ s9 ≤ (2147483647 : Int) := ivX (q := (9, .negSucc 2147483647, .ofNat 2147483647)) (y := s9) (hIv _ (.tail _ (.tail _ (.tail _ (.tail _ (.tail _ (.tail _ (.tail _ (.tail _ (.tail _ (.head _))))))))))) rfl
  have b10 : (-2147483648 : Int) ≤ s10 ∧ s10 ≤ (2147483647 : Int) := ivX (q := (10, .negSucc 2147483647, .ofNat 2147483647)) (y := s10) (hIv _ (.tail _ (.tail _ (.tail _ (.tail _ (.tail _ (.tail _ (.tail _ (.tail _ (.tail _ (.tail _ (.head _)))))))))))) rfl
  have b11 : (-2147483648 : Int) ≤ s11 ∧ s11 ≤ (2147483647 : Int) := ivX (q := (11, .negSucc 2147483647, .ofNat 2147483647)) (y := s11) (hIv _ (.tail _ (.tail _ (.tail _ (.tail _ (.tail _ (.tail _ (.tail _ (.tail _ (.tail _ (.tail _ (.tail _ (.head _))))))))))))) rfl
  have b12 : (-2147483648 : Int) ≤ s12 ∧ s12 ≤ (2147483647 : Int) := ivX (q := (12, .negSucc 2147483647, .ofNat 2147483647)) (y := s12) (hIv _ (.tail _ (.tail _ (.tail _ (.tail _ (.tail _ (.tail _ (.tail _ (.tail _ (.tail _ (.tail _ (.tail _ (.tail _ (.head _)))))))))))))) rfl
  have hFc : ∀ q ∈ ([(119, [(.ofNat 0, [(.ofNat 1, 0)]), (.ofNat 0, [(.ofNat 1, 1)]), (.ofNat 0, [(.ofNat 1, 2)]), (.ofNat 0, [(.ofNat 1, 3)]), (.ofNat 0, [(.ofNat 1, 4)]), (.ofNat 0, [(.ofNat 1, 5)]), (.ofNat 0, [(.ofNat 1, 6)]), (.ofNat 0, [(.ofNat 1, 7)]), (.ofNat 0, [(.ofNat 1, 8)]), (.ofNat 0, [(.ofNat 1, 9)]), (.ofNat 0, [(.ofNat 1, 10)]), (.ofNat 0, [(.ofNat 1, 11)]), (.ofNat 0, [(.ofNat 1, 12)])])] : List sFc), fcOk fFS [s0, s1, s2, s3, s4, s5, s6, s7, s8, s9, s10, s11, s12] hp q := hH.2
  have f0 : Hq (MT hp) s0 s1 s2 s3 s4 s5 s6 s7 s8 s9 s10 s11 s12 := fcX (ys := [s0, s1, s2, s3, s4, s5, s6, s7, s8, s9, s10, s11, s12]) (hFc _ (.head _)) ⟨sE_V rfl, sE_V rfl, sE_V rfl, sE_V rfl, sE_V rfl, sE_V rfl, sE_V rfl, sE_V rfl, sE_V rfl, sE_V rfl, sE_V rfl, sE_V rfl, sE_V rfl, trivial⟩
  have u := h_bd (MT_ok hO) f0
  exact poX (.head _) rfl hR (all_cons (ivO (y := s3) rfl (show (-1 : Int) ≤ s3 by omega) (show s3 ≤ (99 : Int) by omega)) (all_cons (ivO (y := s4) rfl (show (-1 : Int) ≤ s4 by omega) (show s4 ≤ (99 : Int) by omega)) (all_cons (ivO (y := s5) rfl (show (-1 : Int) ≤ s5 by omega) (show s5 ≤ (99 : Int) by omega)) (all_cons (ivO (y := s6) rfl (show (-1 : Int) ≤ s6 by omega) (show s6 ≤ (99 : Int) by omega)) (all_cons (ivO (y := s7) rfl (show (0 : Int) ≤ s7 by omega) (show s7 ≤ (940 : Int) by omega)) (all_cons (ivO (y := s8) rfl (show (0 : Int) ≤ s8 by omega) (show s8 ≤ (940 : Int) by omega)) (all_cons (ivO (y := s9) rfl (show (0 : Int) ≤ s9 by omega) (show s9 ≤ (4 : Int) by omega)) (all_cons (ivO (y := s10) rfl (show (0 : Int) ≤ s10 by omega) (show s10 ≤ (940 : Int) by omega)) (all_cons (ivO (y := s11) rfl (show (0 : Int) ≤ s11 by omega) (show s11 ≤ (940 : Int) by omega)) (all_cons (ivO (y := s12) rfl (show (-1 : Int) ≤ s12 by omega) (show s12 ≤ (99 : Int) by omega)) (all_nil))))))))))) (all_nil) (all_nil)
theorem rl589 : ruOk fFS gR589 := by
  intro r hp hO hN hH
  obtain ⟨s0, s1, s2, s3, s4, s5, s6, s7, s8, s9, s10, s11, s12, rfl⟩ := len13 (show r.length = 13 from hN.1)
  have hR := hN.2.1.1
  have hIv : ∀ q ∈ ([(0, .negSucc 2147483647, .ofNat 2147483647), (1, .negSucc 2147483647, .ofNat 2147483647), (2, .negSucc 2147483647, .ofNat 2147483647), (3, .negSucc 2147483647, .ofNat 2147483647), (4, .negSucc 2147483647, .ofNat 2147483647), (5, .negSucc 2147483647, .ofNat 2147483647), (6, .negSucc 2147483647, .ofNat 2147483647), (7, .negSucc 2147483647, .ofNat 2147483647), (8, .negSucc 2147483647, .ofNat 2147483647), (9, .ofNat 1, .ofNat 4), (10, .negSucc 2147483647, .ofNat 2147483647), (11, .negSucc 2147483647, .ofNat 2147483647), (12, .negSucc 2147483647, .ofNat 2147483647)] : sIv), ∃ x, ([s0, s1, s2, s3, s4, s5, s6, s7, s8, s9, s10, s11, s12] : List Int)[q.1]? = some x ∧ q.2.1 ≤ x ∧ x ≤ q.2.2 := hN.2.1.2
  have b9 : (1 : Int) ≤ s9 ∧ s9 ≤ (4 : Int) := ivX (q := (9, .ofNat 1, .ofNat 4)) (y := s9) (hIv _ (.tail _ (.tail _ (.tail _ (.tail _ (.tail _ (.tail _ (.tail _ (.tail _ (.tail _ (.head _))))))))))) rfl
  have hFc : ∀ q ∈ ([(119, [(.ofNat 0, [(.ofNat 1, 0)]), (.ofNat 0, [(.ofNat 1, 1)]), (.ofNat 0, [(.ofNat 1, 2)]), (.ofNat 0, [(.ofNat 1, 3)]), (.ofNat 0, [(.ofNat 1, 4)]), (.ofNat 0, [(.ofNat 1, 5)]), (.ofNat 0, [(.ofNat 1, 6)]), (.ofNat 0, [(.ofNat 1, 7)]), (.ofNat 0, [(.ofNat 1, 8)]), (.ofNat 0, [(.ofNat 1, 9)]), (.ofNat 0, [(.ofNat 1, 10)]), (.ofNat 0, [(.ofNat 1, 11)]), (.ofNat 0, [(.ofNat 1, 12)])])] : List sFc), fcOk fFS [s0, s1, s2, s3, s4, s5, s6, s7, s8, s9, s10, s11, s12] hp q := hH.2
  have f0 : Hq (MT hp) s0 s1 s2 s3 s4 s5 s6 s7 s8 s9 s10 s11 s12 := fcX (ys := [s0, s1, s2, s3, s4, s5, s6, s7, s8, s9, s10, s11, s12]) (hFc _ (.head _)) ⟨sE_V rfl, sE_V rfl, sE_V rfl, sE_V rfl, sE_V rfl, sE_V rfl, sE_V rfl, sE_V rfl, sE_V rfl, sE_V rfl, sE_V rfl, sE_V rfl, sE_V rfl, trivial⟩
  have u := h_bd (MT_ok hO) f0
  have y : (((1 : Int) ≤ s9 ∧ s9 ≤ (1 : Int))) ∨ (((2 : Int) ≤ s9 ∧ s9 ≤ (2 : Int))) ∨ (((3 : Int) ≤ s9 ∧ s9 ≤ (3 : Int))) ∨ (((4 : Int) ≤ s9 ∧ s9 ≤ (4 : Int))) := by omega
  rcases y with y | y | y | y
  · exact poX (.head _) rfl hR (all_cons (ivO (y := s9) rfl (show (1 : Int) ≤ s9 by omega) (show s9 ≤ (1 : Int) by omega)) (all_nil)) (all_nil) (all_nil)
  · exact poX (.tail _ (.head _)) rfl hR (all_cons (ivO (y := s9) rfl (show (2 : Int) ≤ s9 by omega) (show s9 ≤ (2 : Int) by omega)) (all_nil)) (all_nil) (all_nil)
  · exact poX (.tail _ (.tail _ (.head _))) rfl hR (all_cons (ivO (y := s9) rfl (show (3 : Int) ≤ s9 by omega) (show s9 ≤ (3 : Int) by omega)) (all_nil)) (all_nil) (all_nil)
  · exact poX (.tail _ (.tail _ (.tail _ (.head _)))) rfl hR (all_cons (ivO (y := s9) rfl (show (4 : Int) ≤ s9 by omega) (show s9 ≤ (4 : Int) by omega)) (all_nil)) (all_nil) (all_nil)
theorem rl590 : ruOk fFS gR590 := by
  intro r hp hO hN hH
  obtain ⟨s0, s1, s2, s3, s4, s5, s6, s7, s8, s9, s10, s11, s12, rfl⟩ := len13 (show r.length = 13 from hN.1)
  have hR := hN.2.1.1
  have hIv : ∀ q ∈ ([(0, .negSucc 2147483647, .ofNat 2147483647), (1, .negSucc 2147483647, .ofNat 2147483647), (2, .negSucc 2147483647, .ofNat 2147483647), (3, .negSucc 2147483647, .ofNat 2147483647), (4, .negSucc 2147483647, .ofNat 2147483647), (5, .negSucc 2147483647, .ofNat 2147483647), (6, .negSucc 2147483647, .ofNat 2147483647), (7, .negSucc 2147483647, .ofNat 2147483647), (8, .negSucc 2147483647, .ofNat 2147483647), (9, .ofNat 1, .ofNat 1), (10, .negSucc 2147483647, .ofNat 2147483647), (11, .negSucc 2147483647, .ofNat 2147483647), (12, .negSucc 2147483647, .ofNat 2147483647)] : sIv), ∃ x, ([s0, s1, s2, s3, s4, s5, s6, s7, s8, s9, s10, s11, s12] : List Int)[q.1]? = some x ∧ q.2.1 ≤ x ∧ x ≤ q.2.2 := hN.2.1.2
  have b9 : (1 : Int) ≤ s9 ∧ s9 ≤ (1 : Int) := ivX (q := (9, .ofNat 1, .ofNat 1)) (y := s9) (hIv _ (.tail _ (.tail _ (.tail _ (.tail _ (.tail _ (.tail _ (.tail _ (.tail _ (.tail _ (.head _))))))))))) rfl
  have b12 : (-2147483648 : Int) ≤ s12 ∧ s12 ≤ (2147483647 : Int) := ivX (q := (12, .negSucc 2147483647, .ofNat 2147483647)) (y := s12) (hIv _ (.tail _ (.tail _ (.tail _ (.tail _ (.tail _ (.tail _ (.tail _ (.tail _ (.tail _ (.tail _ (.tail _ (.tail _ (.head _)))))))))))))) rfl
  have hFc : ∀ q ∈ ([(119, [(.ofNat 0, [(.ofNat 1, 0)]), (.ofNat 0, [(.ofNat 1, 1)]), (.ofNat 0, [(.ofNat 1, 2)]), (.ofNat 0, [(.ofNat 1, 3)]), (.ofNat 0, [(.ofNat 1, 4)]), (.ofNat 0, [(.ofNat 1, 5)]), (.ofNat 0, [(.ofNat 1, 6)]), (.ofNat 0, [(.ofNat 1, 7)]), (.ofNat 0, [(.ofNat 1, 8)]), (.ofNat 0, [(.ofNat 1, 9)]), (.ofNat 0, [(.ofNat 1, 10)]), (.ofNat 0, [(.ofNat 1, 11)]), (.ofNat 0, [(.ofNat 1, 12)])])] : List sFc), fcOk fFS [s0, s1, s2, s3, s4, s5, s6, s7, s8, s9, s10, s11, s12] hp q := hH.2
  have f0 : Hq (MT hp) s0 s1 s2 s3 s4 s5 s6 s7 s8 s9 s10 s11 s12 := fcX (ys := [s0, s1, s2, s3, s4, s5, s6, s7, s8, s9, s10, s11, s12]) (hFc _ (.head _)) ⟨sE_V rfl, sE_V rfl, sE_V rfl, sE_V rfl, sE_V rfl, sE_V rfl, sE_V rfl, sE_V rfl, sE_V rfl, sE_V rfl, sE_V rfl, sE_V rfl, sE_V rfl, trivial⟩
  have u := h_bd (MT_ok hO) f0
  have u3 := h_k1 (MT_ok hO) f0 (by omega)
  have y : (((-1 : Int) ≤ s12 ∧ s12 ≤ (-1 : Int))) ∨ (((0 : Int) ≤ s12 ∧ s12 ≤ (0 : Int))) ∨ (((1 : Int) ≤ s12 ∧ s12 ≤ (1 : Int))) ∨ (((2 : Int) ≤ s12 ∧ s12 ≤ (2 : Int))) ∨ (((3 : Int) ≤ s12 ∧ s12 ≤ (3 : Int))) ∨ (((4 : Int) ≤ s12 ∧ s12 ≤ (4 : Int))) ∨ (((5 : Int) ≤ s12 ∧ s12 ≤ (5 : Int))) ∨ (((6 : Int) ≤ s12 ∧ s12 ≤ (6 : Int))) ∨ (((7 : Int) ≤ s12 ∧ s12 ≤ (7 : Int))) ∨ (((8 : Int) ≤ s12 ∧ s12 ≤ (99 : Int))) := by omega
  rcases y with y | y | y | y | y | y | y | y | y | y
  · exact poX (.head _) rfl hR (all_cons (ivO (y := s12) rfl (show (-1 : Int) ≤ s12 by omega) (show s12 ≤ (-1 : Int) by omega)) (all_nil)) (all_nil) (all_nil)
  · exact poX (.tail _ (.head _)) rfl hR (all_cons (ivO (y := s12) rfl (show (0 : Int) ≤ s12 by omega) (show s12 ≤ (0 : Int) by omega)) (all_nil)) (all_nil) (all_nil)
  · exact poX (.tail _ (.tail _ (.head _))) rfl hR (all_cons (ivO (y := s12) rfl (show (1 : Int) ≤ s12 by omega) (show s12 ≤ (1 : Int) by omega)) (all_nil)) (all_nil) (all_nil)
  · exact poX (.tail _ (.tail _ (.tail _ (.head _)))) rfl hR (all_cons (ivO (y := s12) rfl (show (2 : Int) ≤ s12 by omega) (show s12 ≤ (2 : Int) by omega)) (all_nil)) (all_nil) (all_nil)
  · exact poX (.tail _ (.tail _ (.tail _ (.tail _ (.head _))))) rfl hR (all_cons (ivO (y := s12) rfl (show (3 : Int) ≤ s12 by omega) (show s12 ≤ (3 : Int) by omega)) (all_nil)) (all_nil) (all_nil)
  · exact poX (.tail _ (.tail _ (.tail _ (.tail _ (.tail _ (.head _)))))) rfl hR (all_cons (ivO (y := s12) rfl (show (4 : Int) ≤ s12 by omega) (show s12 ≤ (4 : Int) by omega)) (all_nil)) (all_nil) (all_nil)
  · exact poX (.tail _ (.tail _ (.tail _ (.tail _ (.tail _ (.tail _ (.head _))))))) rfl hR (all_cons (ivO (y := s12) rfl (show (5 : Int) ≤ s12 by omega) (show s12 ≤ (5 : Int) by omega)) (all_nil)) (all_nil) (all_nil)
  · exact poX (.tail _ (.tail _ (.tail _ (.tail _ (.tail _ (.tail _ (.tail _ (.head _)))))))) rfl hR (all_cons (ivO (y := s12) rfl (show (6 : Int) ≤ s12 by omega) (show s12 ≤ (6 : Int) by omega)) (all_nil)) (all_nil) (all_nil)
  · exact poX (.tail _ (.tail _ (.tail _ (.tail _ (.tail _ (.tail _ (.tail _ (.tail _ (.head _))))))))) rfl hR (all_cons (ivO (y := s12) rfl (show (7 : Int) ≤ s12 by omega) (show s12 ≤ (7 : Int) by omega)) (all_nil)) (all_nil) (all_nil)
  · exact poX (.tail _ (.tail _ (.tail _ (.tail _ (.tail _ (.tail _ (.tail _ (.tail _ (.tail _ (.head _)))))))))) rfl hR (all_cons (ivO (y := s12) rfl (show (8 : Int) ≤ s12 by omega) (show s12 ≤ (99 : Int) by omega)) (all_nil)) (all_nil) (all_nil)
theorem rl591 : ruOk fFS gR591 := by
  intro r hp hO hN hH
  have hr0 := len0 (show r.length = 0 from hN.1)
  subst hr0
  have hR := hN.2.1.1
  exact poX (.head _) rfl hR (all_nil) (all_nil) (all_cons ⟨[1936292453, 0], ⟨sE_k _ _, sE_k _ _, trivial⟩, (show ∃ j : Nat, j < 30 ∧ (0 : Int) = (j : Int) ∧ (1936292453 : Int) = cd 256 0 (wrd j) from rw_k (j := 0) (by decide) (by decide) (by decide))⟩ (all_nil))
theorem rl592 : ruOk fFS gR592 := by
  intro r hp hO hN hH
  obtain ⟨s0, s1, s2, s3, s4, s5, s6, s7, s8, s9, s10, s11, s12, s13, s14, s15, rfl⟩ := len16 (show r.length = 16 from hN.1)
  have hR := hN.2.1.1
  have hIv : ∀ q ∈ ([(2, .negSucc 2147483647, .ofNat 2147483647), (3, .negSucc 2147483647, .ofNat 2147483647), (4, .negSucc 2147483647, .ofNat 2147483647), (5, .negSucc 2147483647, .ofNat 2147483647), (6, .negSucc 2147483647, .ofNat 2147483647), (7, .negSucc 2147483647, .ofNat 2147483647), (8, .negSucc 2147483647, .ofNat 2147483647), (9, .negSucc 2147483647, .ofNat 2147483647), (10, .negSucc 2147483647, .ofNat 2147483647), (11, .negSucc 2147483647, .ofNat 2147483647), (12, .ofNat 1, .ofNat 1), (13, .negSucc 2147483647, .ofNat 2147483647), (14, .negSucc 2147483647, .ofNat 2147483647), (15, .negSucc 2147483647, .ofNat 2147483647)] : sIv), ∃ x, ([s0, s1, s2, s3, s4, s5, s6, s7, s8, s9, s10, s11, s12, s13, s14, s15] : List Int)[q.1]? = some x ∧ q.2.1 ≤ x ∧ x ≤ q.2.2 := hN.2.1.2
  have b10 : (1 : Int) ≤ s12 ∧ s12 ≤ (1 : Int) := ivX (q := (12, .ofNat 1, .ofNat 1)) (y := s12) (hIv _ (.tail _ (.tail _ (.tail _ (.tail _ (.tail _ (.tail _ (.tail _ (.tail _ (.tail _ (.tail _ (.head _)))))))))))) rfl
  have hCs : ∀ c ∈ ([(.ofNat 1, [(.negSucc 0, 0), (.ofNat 1, 1)])] : List sLn), ∃ x, sE [s0, s1, s2, s3, s4, s5, s6, s7, s8, s9, s10, s11, s12, s13, s14, s15] c = some x ∧ x ≤ 0 := hN.2.2.1
  have c0 : ((1 : Int) + ((-1 : Int) * s0 + ((1 : Int) * s1 + 0))) ≤ 0 := csX (hCs _ (.head _)) rfl
  have hRf : ∀ q ∈ ([((78, .ofNat 273, []), (.ofNat 17, []), 5, .ofNat 0, [(.ofNat 1, 1)])] : List sRf), rfOk [s0, s1, s2, s3, s4, s5, s6, s7, s8, s9, s10, s11, s12, s13, s14, s15] hp q := hH.1
  have h0 : hL hp 273 17 = s1 := rfL0 (hRf _ (.head _)) (sE_k _ _) (sE_k _ _) (sE_V rfl)
  have hFc : ∀ q ∈ ([(134, [(.ofNat 0, [(.ofNat 1, 0)]), (.ofNat 0, [(.ofNat 1, 2)])]), (119, [(.ofNat 0, [(.ofNat 1, 3)]), (.ofNat 0, [(.ofNat 1, 4)]), (.ofNat 0, [(.ofNat 1, 5)]), (.ofNat 0, [(.ofNat 1, 6)]), (.ofNat 0, [(.ofNat 1, 7)]), (.ofNat 0, [(.ofNat 1, 8)]), (.ofNat 0, [(.ofNat 1, 9)]), (.ofNat 0, [(.ofNat 1, 10)]), (.ofNat 0, [(.ofNat 1, 11)]), (.ofNat 0, [(.ofNat 1, 12)]), (.ofNat 0, [(.ofNat 1, 13)]), (.ofNat 0, [(.ofNat 1, 14)]), (.ofNat 0, [(.ofNat 1, 15)])]), (131, [(.ofNat 0, [(.ofNat 1, 13)]), (.ofNat 0, [(.ofNat 1, 14)])])] : List sFc), fcOk fFS [s0, s1, s2, s3, s4, s5, s6, s7, s8, s9, s10, s11, s12, s13, s14, s15] hp q := hH.2
  have f0 : ∃ j : Nat, j < 30 ∧ s2 = (j : Int) ∧ s0 = cd 256 0 (wrd j) := fcX (ys := [s0, s2]) (hFc _ (.head _)) ⟨sE_V rfl, sE_V rfl, trivial⟩
  have f1 : Hq (MT hp) s3 s4 s5 s6 s7 s8 s9 s10 s11 s12 s13 s14 s15 := fcX (ys := [s3, s4, s5, s6, s7, s8, s9, s10, s11, s12, s13, s14, s15]) (hFc _ (.tail _ (.head _))) ⟨sE_V rfl, sE_V rfl, sE_V rfl, sE_V rfl, sE_V rfl, sE_V rfl, sE_V rfl, sE_V rfl, sE_V rfl, sE_V rfl, sE_V rfl, sE_V rfl, sE_V rfl, trivial⟩
  have f2 : isW (bs (MT hp).1 s13 s14) ∧ hL hp 273 17 = cd 256 0 (bs (MT hp).1 s13 s14) := fcX (ys := [s13, s14]) (hFc _ (.tail _ (.tail _ (.head _)))) ⟨sE_V rfl, sE_V rfl, trivial⟩
  have u := isw_n (w := s1) (MT_ok hO) f0 f1 (by omega) ⟨f2.1, by rw [← h0]; exact f2.2⟩ (by omega)
  have y : (((1 : Int) + ((-1 : Int) * s2 + ((1 : Int) * s15 + 0))) ≤ 0) ∨ (((1 : Int) + ((1 : Int) * s2 + ((-1 : Int) * s15 + 0))) ≤ 0) := by omega
  rcases y with y | y
  · exact poX (.head _) rfl hR (all_nil) (all_cons ⟨((1 : Int) + ((-1 : Int) * s2 + ((1 : Int) * s15 + 0))), rfl, (show ((1 : Int) + ((-1 : Int) * s2 + ((1 : Int) * s15 + 0))) ≤ 0 by omega)⟩ (all_nil)) (all_nil)
  · exact poX (.tail _ (.head _)) rfl hR (all_nil) (all_cons ⟨((1 : Int) + ((1 : Int) * s2 + ((-1 : Int) * s15 + 0))), rfl, (show ((1 : Int) + ((1 : Int) * s2 + ((-1 : Int) * s15 + 0))) ≤ 0 by omega)⟩ (all_nil)) (all_nil)
theorem rl593 : ruOk fFS gR593 := by
  intro r hp hO hN hH
  obtain ⟨s0, s1, s2, s3, s4, s5, s6, s7, s8, s9, s10, s11, s12, s13, s14, s15, rfl⟩ := len16 (show r.length = 16 from hN.1)
  have hR := hN.2.1.1
  have hIv : ∀ q ∈ ([(2, .negSucc 2147483647, .ofNat 2147483647), (3, .negSucc 2147483647, .ofNat 2147483647), (4, .negSucc 2147483647, .ofNat 2147483647), (5, .negSucc 2147483647, .ofNat 2147483647), (6, .negSucc 2147483647, .ofNat 2147483647), (7, .negSucc 2147483647, .ofNat 2147483647), (8, .negSucc 2147483647, .ofNat 2147483647), (9, .negSucc 2147483647, .ofNat 2147483647), (10, .negSucc 2147483647, .ofNat 2147483647), (11, .negSucc 2147483647, .ofNat 2147483647), (12, .ofNat 1, .ofNat 1), (13, .negSucc 2147483647, .ofNat 2147483647), (14, .negSucc 2147483647, .ofNat 2147483647), (15, .negSucc 2147483647, .ofNat 2147483647)] : sIv), ∃ x, ([s0, s1, s2, s3, s4, s5, s6, s7, s8, s9, s10, s11, s12, s13, s14, s15] : List Int)[q.1]? = some x ∧ q.2.1 ≤ x ∧ x ≤ q.2.2 := hN.2.1.2
  have b10 : (1 : Int) ≤ s12 ∧ s12 ≤ (1 : Int) := ivX (q := (12, .ofNat 1, .ofNat 1)) (y := s12) (hIv _ (.tail _ (.tail _ (.tail _ (.tail _ (.tail _ (.tail _ (.tail _ (.tail _ (.tail _ (.tail _ (.head _)))))))))))) rfl
  have hCs : ∀ c ∈ ([(.ofNat 1, [(.ofNat 1, 0), (.negSucc 0, 1)])] : List sLn), ∃ x, sE [s0, s1, s2, s3, s4, s5, s6, s7, s8, s9, s10, s11, s12, s13, s14, s15] c = some x ∧ x ≤ 0 := hN.2.2.1
  have c0 : ((1 : Int) + ((1 : Int) * s0 + ((-1 : Int) * s1 + 0))) ≤ 0 := csX (hCs _ (.head _)) rfl
  have hRf : ∀ q ∈ ([((78, .ofNat 273, []), (.ofNat 17, []), 5, .ofNat 0, [(.ofNat 1, 1)])] : List sRf), rfOk [s0, s1, s2, s3, s4, s5, s6, s7, s8, s9, s10, s11, s12, s13, s14, s15] hp q := hH.1
  have h0 : hL hp 273 17 = s1 := rfL0 (hRf _ (.head _)) (sE_k _ _) (sE_k _ _) (sE_V rfl)
  have hFc : ∀ q ∈ ([(134, [(.ofNat 0, [(.ofNat 1, 0)]), (.ofNat 0, [(.ofNat 1, 2)])]), (119, [(.ofNat 0, [(.ofNat 1, 3)]), (.ofNat 0, [(.ofNat 1, 4)]), (.ofNat 0, [(.ofNat 1, 5)]), (.ofNat 0, [(.ofNat 1, 6)]), (.ofNat 0, [(.ofNat 1, 7)]), (.ofNat 0, [(.ofNat 1, 8)]), (.ofNat 0, [(.ofNat 1, 9)]), (.ofNat 0, [(.ofNat 1, 10)]), (.ofNat 0, [(.ofNat 1, 11)]), (.ofNat 0, [(.ofNat 1, 12)]), (.ofNat 0, [(.ofNat 1, 13)]), (.ofNat 0, [(.ofNat 1, 14)]), (.ofNat 0, [(.ofNat 1, 15)])]), (131, [(.ofNat 0, [(.ofNat 1, 13)]), (.ofNat 0, [(.ofNat 1, 14)])])] : List sFc), fcOk fFS [s0, s1, s2, s3, s4, s5, s6, s7, s8, s9, s10, s11, s12, s13, s14, s15] hp q := hH.2
  have f0 : ∃ j : Nat, j < 30 ∧ s2 = (j : Int) ∧ s0 = cd 256 0 (wrd j) := fcX (ys := [s0, s2]) (hFc _ (.head _)) ⟨sE_V rfl, sE_V rfl, trivial⟩
  have f1 : Hq (MT hp) s3 s4 s5 s6 s7 s8 s9 s10 s11 s12 s13 s14 s15 := fcX (ys := [s3, s4, s5, s6, s7, s8, s9, s10, s11, s12, s13, s14, s15]) (hFc _ (.tail _ (.head _))) ⟨sE_V rfl, sE_V rfl, sE_V rfl, sE_V rfl, sE_V rfl, sE_V rfl, sE_V rfl, sE_V rfl, sE_V rfl, sE_V rfl, sE_V rfl, sE_V rfl, sE_V rfl, trivial⟩
  have f2 : isW (bs (MT hp).1 s13 s14) ∧ hL hp 273 17 = cd 256 0 (bs (MT hp).1 s13 s14) := fcX (ys := [s13, s14]) (hFc _ (.tail _ (.tail _ (.head _)))) ⟨sE_V rfl, sE_V rfl, trivial⟩
  have u := isw_n (w := s1) (MT_ok hO) f0 f1 (by omega) ⟨f2.1, by rw [← h0]; exact f2.2⟩ (by omega)
  have y : (((1 : Int) + ((-1 : Int) * s2 + ((1 : Int) * s15 + 0))) ≤ 0) ∨ (((1 : Int) + ((1 : Int) * s2 + ((-1 : Int) * s15 + 0))) ≤ 0) := by omega
  rcases y with y | y
  · exact poX (.head _) rfl hR (all_nil) (all_cons ⟨((1 : Int) + ((-1 : Int) * s2 + ((1 : Int) * s15 + 0))), rfl, (show ((1 : Int) + ((-1 : Int) * s2 + ((1 : Int) * s15 + 0))) ≤ 0 by omega)⟩ (all_nil)) (all_nil)
  · exact poX (.tail _ (.head _)) rfl hR (all_nil) (all_cons ⟨((1 : Int) + ((1 : Int) * s2 + ((-1 : Int) * s15 + 0))), rfl, (show ((1 : Int) + ((1 : Int) * s2 + ((-1 : Int) * s15 + 0))) ≤ 0 by omega)⟩ (all_nil)) (all_nil)
theorem rl594 : ruOk fFS gR594 := by
  intro r hp hO hN hH
  obtain ⟨s0, s1, s2, s3, s4, s5, s6, s7, s8, s9, s10, rfl⟩ := len11 (show r.length = 11 from hN.1)
  have hR := hN.2.1.1
  have hIv : ∀ q ∈ ([(2, .negSucc 2147483647, .ofNat 2147483647), (3, .negSucc 2147483647, .ofNat 2147483647), (4, .negSucc 2147483647, .ofNat 2147483647), (5, .negSucc 2147483647, .ofNat 2147483647), (6, .negSucc 2147483647, .ofNat 2147483647), (7, .ofNat 1, .ofNat 1), (8, .negSucc 2147483647, .ofNat 2147483647), (9, .negSucc 2147483647, .ofNat 2147483647), (10, .negSucc 2147483647, .ofNat 2147483647)] : sIv), ∃ x, ([s0, s1, s2, s3, s4, s5, s6, s7, s8, s9, s10] : List Int)[q.1]? = some x ∧ q.2.1 ≤ x ∧ x ≤ q.2.2 := hN.2.1.2
  have b5 : (1 : Int) ≤ s7 ∧ s7 ≤ (1 : Int) := ivX (q := (7, .ofNat 1, .ofNat 1)) (y := s7) (hIv _ (.tail _ (.tail _ (.tail _ (.tail _ (.tail _ (.head _))))))) rfl
  have hCs : ∀ c ∈ ([(.ofNat 1, [(.negSucc 0, 0), (.ofNat 1, 1)])] : List sLn), ∃ x, sE [s0, s1, s2, s3, s4, s5, s6, s7, s8, s9, s10] c = some x ∧ x ≤ 0 := hN.2.2.1
  have c0 : ((1 : Int) + ((-1 : Int) * s0 + ((1 : Int) * s1 + 0))) ≤ 0 := csX (hCs _ (.head _)) rfl
  have hRf : ∀ q ∈ ([((78, .ofNat 273, []), (.ofNat 17, []), 5, .ofNat 0, [(.ofNat 1, 1)])] : List sRf), rfOk [s0, s1, s2, s3, s4, s5, s6, s7, s8, s9, s10] hp q := hH.1
  have h0 : hL hp 273 17 = s1 := rfL0 (hRf _ (.head _)) (sE_k _ _) (sE_k _ _) (sE_V rfl)
  have hFc : ∀ q ∈ ([(134, [(.ofNat 0, [(.ofNat 1, 0)]), (.ofNat 0, [(.ofNat 1, 2)])]), (207, [(.ofNat 0, [(.ofNat 1, 3)]), (.ofNat 0, [(.ofNat 1, 4)]), (.ofNat 0, [(.ofNat 1, 5)]), (.ofNat 0, [(.ofNat 1, 6)]), (.ofNat 0, [(.ofNat 1, 7)]), (.ofNat 0, [(.ofNat 1, 8)]), (.ofNat 0, [(.ofNat 1, 9)]), (.ofNat 0, [(.ofNat 1, 10)])]), (131, [(.ofNat 0, [(.ofNat 1, 8)]), (.ofNat 0, [(.ofNat 1, 9)])])] : List sFc), fcOk fFS [s0, s1, s2, s3, s4, s5, s6, s7, s8, s9, s10] hp q := hH.2
  have f0 : ∃ j : Nat, j < 30 ∧ s2 = (j : Int) ∧ s0 = cd 256 0 (wrd j) := fcX (ys := [s0, s2]) (hFc _ (.head _)) ⟨sE_V rfl, sE_V rfl, trivial⟩
  have f1 : SHq (MT hp) (nmM hp) s3 s4 s5 s6 s7 s8 s9 s10 := fcX (ys := [s3, s4, s5, s6, s7, s8, s9, s10]) (hFc _ (.tail _ (.head _))) ⟨sE_V rfl, sE_V rfl, sE_V rfl, sE_V rfl, sE_V rfl, sE_V rfl, sE_V rfl, sE_V rfl, trivial⟩
  have f2 : isW (bs (MT hp).1 s8 s9) ∧ hL hp 273 17 = cd 256 0 (bs (MT hp).1 s8 s9) := fcX (ys := [s8, s9]) (hFc _ (.tail _ (.tail _ (.head _)))) ⟨sE_V rfl, sE_V rfl, trivial⟩
  have u := isw_nS (w := s1) (MT_ok hO) f0 f1 (by omega) ⟨f2.1, by rw [← h0]; exact f2.2⟩ (by omega)
  have y : (((1 : Int) + ((-1 : Int) * s2 + ((1 : Int) * s10 + 0))) ≤ 0) ∨ (((1 : Int) + ((1 : Int) * s2 + ((-1 : Int) * s10 + 0))) ≤ 0) := by omega
  rcases y with y | y
  · exact poX (.head _) rfl hR (all_nil) (all_cons ⟨((1 : Int) + ((-1 : Int) * s2 + ((1 : Int) * s10 + 0))), rfl, (show ((1 : Int) + ((-1 : Int) * s2 + ((1 : Int) * s10 + 0))) ≤ 0 by omega)⟩ (all_nil)) (all_nil)
  · exact poX (.tail _ (.head _)) rfl hR (all_nil) (all_cons ⟨((1 : Int) + ((1 : Int) * s2 + ((-1 : Int) * s10 + 0))), rfl, (show ((1 : Int) + ((1 : Int) * s2 + ((-1 : Int) * s10 + 0))) ≤ 0 by omega)⟩ (all_nil)) (all_nil)
theorem rl595 : ruOk fFS gR595 := by
  intro r hp hO hN hH
  obtain ⟨s0, s1, s2, s3, s4, s5, s6, s7, s8, s9, s10, rfl⟩ := len11 (show r.length = 11 from hN.1)
  have hR := hN.2.1.1
  have hIv : ∀ q ∈ ([(2, .negSucc 2147483647, .ofNat 2147483647), (3, .negSucc 2147483647, .ofNat 2147483647), (4, .negSucc 2147483647, .ofNat 2147483647), (5, .negSucc 2147483647, .ofNat 2147483647), (6, .negSucc 2147483647, .ofNat 2147483647), (7, .ofNat 1, .ofNat 1), (8, .negSucc 2147483647, .ofNat 2147483647), (9, .negSucc 2147483647, .ofNat 2147483647), (10, .negSucc 2147483647, .ofNat 2147483647)] : sIv), ∃ x, ([s0, s1, s2, s3, s4, s5, s6, s7, s8, s9, s10] : List Int)[q.1]? = some x ∧ q.2.1 ≤ x ∧ x ≤ q.2.2 := hN.2.1.2
  have b5 : (1 : Int) ≤ s7 ∧ s7 ≤ (1 : Int) := ivX (q := (7, .ofNat 1, .ofNat 1)) (y := s7) (hIv _ (.tail _ (.tail _ (.tail _ (.tail _ (.tail _ (.head _))))))) rfl
  have hCs : ∀ c ∈ ([(.ofNat 1, [(.ofNat 1, 0), (.negSucc 0, 1)])] : List sLn), ∃ x, sE [s0, s1, s2, s3, s4, s5, s6, s7, s8, s9, s10] c = some x ∧ x ≤ 0 := hN.2.2.1
  have c0 : ((1 : Int) + ((1 : Int) * s0 + ((-1 : Int) * s1 + 0))) ≤ 0 := csX (hCs _ (.head _)) rfl
  have hRf : ∀ q ∈ ([((78, .ofNat 273, []), (.ofNat 17, []), 5, .ofNat 0, [(.ofNat 1, 1)])] : List sRf), rfOk [s0, s1, s2, s3, s4, s5, s6, s7, s8, s9, s10] hp q := hH.1
  have h0 : hL hp 273 17 = s1 := rfL0 (hRf _ (.head _)) (sE_k _ _) (sE_k _ _) (sE_V rfl)
  have hFc : ∀ q ∈ ([(134, [(.ofNat 0, [(.ofNat 1, 0)]), (.ofNat 0, [(.ofNat 1, 2)])]), (207, [(.ofNat 0, [(.ofNat 1, 3)]), (.ofNat 0, [(.ofNat 1, 4)]), (.ofNat 0, [(.ofNat 1, 5)]), (.ofNat 0, [(.ofNat 1, 6)]), (.ofNat 0, [(.ofNat 1, 7)]), (.ofNat 0, [(.ofNat 1, 8)]), (.ofNat 0, [(.ofNat 1, 9)]), (.ofNat 0, [(.ofNat 1, 10)])]), (131, [(.ofNat 0, [(.ofNat 1, 8)]), (.ofNat 0, [(.ofNat 1, 9)])])] : List sFc), fcOk fFS [s0, s1, s2, s3, s4, s5, s6, s7, s8, s9, s10] hp q := hH.2
  have f0 : ∃ j : Nat, j < 30 ∧ s2 = (j : Int) ∧ s0 = cd 256 0 (wrd j) := fcX (ys := [s0, s2]) (hFc _ (.head _)) ⟨sE_V rfl, sE_V rfl, trivial⟩
  have f1 : SHq (MT hp) (nmM hp) s3 s4 s5 s6 s7 s8 s9 s10 := fcX (ys := [s3, s4, s5, s6, s7, s8, s9, s10]) (hFc _ (.tail _ (.head _))) ⟨sE_V rfl, sE_V rfl, sE_V rfl, sE_V rfl, sE_V rfl, sE_V rfl, sE_V rfl, sE_V rfl, trivial⟩
  have f2 : isW (bs (MT hp).1 s8 s9) ∧ hL hp 273 17 = cd 256 0 (bs (MT hp).1 s8 s9) := fcX (ys := [s8, s9]) (hFc _ (.tail _ (.tail _ (.head _)))) ⟨sE_V rfl, sE_V rfl, trivial⟩
  have u := isw_nS (w := s1) (MT_ok hO) f0 f1 (by omega) ⟨f2.1, by rw [← h0]; exact f2.2⟩ (by omega)
  have y : (((1 : Int) + ((-1 : Int) * s2 + ((1 : Int) * s10 + 0))) ≤ 0) ∨ (((1 : Int) + ((1 : Int) * s2 + ((-1 : Int) * s10 + 0))) ≤ 0) := by omega
  rcases y with y | y
  · exact poX (.head _) rfl hR (all_nil) (all_cons ⟨((1 : Int) + ((-1 : Int) * s2 + ((1 : Int) * s10 + 0))), rfl, (show ((1 : Int) + ((-1 : Int) * s2 + ((1 : Int) * s10 + 0))) ≤ 0 by omega)⟩ (all_nil)) (all_nil)
  · exact poX (.tail _ (.head _)) rfl hR (all_nil) (all_cons ⟨((1 : Int) + ((1 : Int) * s2 + ((-1 : Int) * s10 + 0))), rfl, (show ((1 : Int) + ((1 : Int) * s2 + ((-1 : Int) * s10 + 0))) ≤ 0 by omega)⟩ (all_nil)) (all_nil)
theorem rl596 : ruOk fFS gR596 := by
  intro r hp hO hN hH
  obtain ⟨s0, s1, s2, s3, s4, s5, s6, s7, s8, s9, rfl⟩ := len10 (show r.length = 10 from hN.1)
  have hR := hN.2.1.1
  have hIv : ∀ q ∈ ([(2, .negSucc 2147483647, .ofNat 2147483647), (3, .negSucc 2147483647, .ofNat 2147483647), (4, .negSucc 2147483647, .ofNat 2147483647), (5, .negSucc 2147483647, .ofNat 2147483647), (6, .ofNat 1, .ofNat 1), (7, .negSucc 2147483647, .ofNat 2147483647), (8, .negSucc 2147483647, .ofNat 2147483647), (9, .negSucc 2147483647, .ofNat 2147483647)] : sIv), ∃ x, ([s0, s1, s2, s3, s4, s5, s6, s7, s8, s9] : List Int)[q.1]? = some x ∧ q.2.1 ≤ x ∧ x ≤ q.2.2 := hN.2.1.2
  have b4 : (1 : Int) ≤ s6 ∧ s6 ≤ (1 : Int) := ivX (q := (6, .ofNat 1, .ofNat 1)) (y := s6) (hIv _ (.tail _ (.tail _ (.tail _ (.tail _ (.head _)))))) rfl
  have hCs : ∀ c ∈ ([(.ofNat 1, [(.negSucc 0, 0), (.ofNat 1, 1)])] : List sLn), ∃ x, sE [s0, s1, s2, s3, s4, s5, s6, s7, s8, s9] c = some x ∧ x ≤ 0 := hN.2.2.1
  have c0 : ((1 : Int) + ((-1 : Int) * s0 + ((1 : Int) * s1 + 0))) ≤ 0 := csX (hCs _ (.head _)) rfl
  have hRf : ∀ q ∈ ([((78, .ofNat 273, []), (.ofNat 17, []), 5, .ofNat 0, [(.ofNat 1, 1)])] : List sRf), rfOk [s0, s1, s2, s3, s4, s5, s6, s7, s8, s9] hp q := hH.1
  have h0 : hL hp 273 17 = s1 := rfL0 (hRf _ (.head _)) (sE_k _ _) (sE_k _ _) (sE_V rfl)
  have hFc : ∀ q ∈ ([(134, [(.ofNat 0, [(.ofNat 1, 0)]), (.ofNat 0, [(.ofNat 1, 2)])]), (250, [(.ofNat 0, [(.ofNat 1, 3)]), (.ofNat 0, [(.ofNat 1, 4)]), (.ofNat 0, [(.ofNat 1, 5)]), (.ofNat 0, [(.ofNat 1, 6)]), (.ofNat 0, [(.ofNat 1, 7)]), (.ofNat 0, [(.ofNat 1, 8)]), (.ofNat 0, [(.ofNat 1, 9)])]), (131, [(.ofNat 0, [(.ofNat 1, 7)]), (.ofNat 0, [(.ofNat 1, 8)])])] : List sFc), fcOk fFS [s0, s1, s2, s3, s4, s5, s6, s7, s8, s9] hp q := hH.2
  have f0 : ∃ j : Nat, j < 30 ∧ s2 = (j : Int) ∧ s0 = cd 256 0 (wrd j) := fcX (ys := [s0, s2]) (hFc _ (.head _)) ⟨sE_V rfl, sE_V rfl, trivial⟩
  have f1 : roH (MT hp) (nmM hp) (hI hp 275 0) (hI hp 275 1) s3 s4 s5 s6 s7 s8 s9 := fcX (ys := [s3, s4, s5, s6, s7, s8, s9]) (hFc _ (.tail _ (.head _))) ⟨sE_V rfl, sE_V rfl, sE_V rfl, sE_V rfl, sE_V rfl, sE_V rfl, sE_V rfl, trivial⟩
  have f2 : isW (bs (MT hp).1 s7 s8) ∧ hL hp 273 17 = cd 256 0 (bs (MT hp).1 s7 s8) := fcX (ys := [s7, s8]) (hFc _ (.tail _ (.tail _ (.head _)))) ⟨sE_V rfl, sE_V rfl, trivial⟩
  have u := isw_nR (w := s1) (MT_ok hO) f0 f1 (by omega) ⟨f2.1, by rw [← h0]; exact f2.2⟩ (by omega)
  have y : (((1 : Int) + ((-1 : Int) * s2 + ((1 : Int) * s9 + 0))) ≤ 0) ∨ (((1 : Int) + ((1 : Int) * s2 + ((-1 : Int) * s9 + 0))) ≤ 0) := by omega
  rcases y with y | y
  · exact poX (.head _) rfl hR (all_nil) (all_cons ⟨((1 : Int) + ((-1 : Int) * s2 + ((1 : Int) * s9 + 0))), rfl, (show ((1 : Int) + ((-1 : Int) * s2 + ((1 : Int) * s9 + 0))) ≤ 0 by omega)⟩ (all_nil)) (all_nil)
  · exact poX (.tail _ (.head _)) rfl hR (all_nil) (all_cons ⟨((1 : Int) + ((1 : Int) * s2 + ((-1 : Int) * s9 + 0))), rfl, (show ((1 : Int) + ((1 : Int) * s2 + ((-1 : Int) * s9 + 0))) ≤ 0 by omega)⟩ (all_nil)) (all_nil)
theorem rl597 : ruOk fFS gR597 := by
  intro r hp hO hN hH
  obtain ⟨s0, s1, s2, s3, s4, s5, s6, s7, s8, s9, rfl⟩ := len10 (show r.length = 10 from hN.1)
  have hR := hN.2.1.1
  have hIv : ∀ q ∈ ([(2, .negSucc 2147483647, .ofNat 2147483647), (3, .negSucc 2147483647, .ofNat 2147483647), (4, .negSucc 2147483647, .ofNat 2147483647), (5, .negSucc 2147483647, .ofNat 2147483647), (6, .ofNat 1, .ofNat 1), (7, .negSucc 2147483647, .ofNat 2147483647), (8, .negSucc 2147483647, .ofNat 2147483647), (9, .negSucc 2147483647, .ofNat 2147483647)] : sIv), ∃ x, ([s0, s1, s2, s3, s4, s5, s6, s7, s8, s9] : List Int)[q.1]? = some x ∧ q.2.1 ≤ x ∧ x ≤ q.2.2 := hN.2.1.2
  have b4 : (1 : Int) ≤ s6 ∧ s6 ≤ (1 : Int) := ivX (q := (6, .ofNat 1, .ofNat 1)) (y := s6) (hIv _ (.tail _ (.tail _ (.tail _ (.tail _ (.head _)))))) rfl
  have hCs : ∀ c ∈ ([(.ofNat 1, [(.ofNat 1, 0), (.negSucc 0, 1)])] : List sLn), ∃ x, sE [s0, s1, s2, s3, s4, s5, s6, s7, s8, s9] c = some x ∧ x ≤ 0 := hN.2.2.1
  have c0 : ((1 : Int) + ((1 : Int) * s0 + ((-1 : Int) * s1 + 0))) ≤ 0 := csX (hCs _ (.head _)) rfl
  have hRf : ∀ q ∈ ([((78, .ofNat 273, []), (.ofNat 17, []), 5, .ofNat 0, [(.ofNat 1, 1)])] : List sRf), rfOk [s0, s1, s2, s3, s4, s5, s6, s7, s8, s9] hp q := hH.1
  have h0 : hL hp 273 17 = s1 := rfL0 (hRf _ (.head _)) (sE_k _ _) (sE_k _ _) (sE_V rfl)
  have hFc : ∀ q ∈ ([(134, [(.ofNat 0, [(.ofNat 1, 0)]), (.ofNat 0, [(.ofNat 1, 2)])]), (250, [(.ofNat 0, [(.ofNat 1, 3)]), (.ofNat 0, [(.ofNat 1, 4)]), (.ofNat 0, [(.ofNat 1, 5)]), (.ofNat 0, [(.ofNat 1, 6)]), (.ofNat 0, [(.ofNat 1, 7)]), (.ofNat 0, [(.ofNat 1, 8)]), (.ofNat 0, [(.ofNat 1, 9)])]), (131, [(.ofNat 0, [(.ofNat 1, 7)]), (.ofNat 0, [(.ofNat 1, 8)])])] : List sFc), fcOk fFS [s0, s1, s2, s3, s4, s5, s6, s7, s8, s9] hp q := hH.2
  have f0 : ∃ j : Nat, j < 30 ∧ s2 = (j : Int) ∧ s0 = cd 256 0 (wrd j) := fcX (ys := [s0, s2]) (hFc _ (.head _)) ⟨sE_V rfl, sE_V rfl, trivial⟩
  have f1 : roH (MT hp) (nmM hp) (hI hp 275 0) (hI hp 275 1) s3 s4 s5 s6 s7 s8 s9 := fcX (ys := [s3, s4, s5, s6, s7, s8, s9]) (hFc _ (.tail _ (.head _))) ⟨sE_V rfl, sE_V rfl, sE_V rfl, sE_V rfl, sE_V rfl, sE_V rfl, sE_V rfl, trivial⟩
  have f2 : isW (bs (MT hp).1 s7 s8) ∧ hL hp 273 17 = cd 256 0 (bs (MT hp).1 s7 s8) := fcX (ys := [s7, s8]) (hFc _ (.tail _ (.tail _ (.head _)))) ⟨sE_V rfl, sE_V rfl, trivial⟩
  have u := isw_nR (w := s1) (MT_ok hO) f0 f1 (by omega) ⟨f2.1, by rw [← h0]; exact f2.2⟩ (by omega)
  have y : (((1 : Int) + ((-1 : Int) * s2 + ((1 : Int) * s9 + 0))) ≤ 0) ∨ (((1 : Int) + ((1 : Int) * s2 + ((-1 : Int) * s9 + 0))) ≤ 0) := by omega
  rcases y with y | y
  · exact poX (.head _) rfl hR (all_nil) (all_cons ⟨((1 : Int) + ((-1 : Int) * s2 + ((1 : Int) * s9 + 0))), rfl, (show ((1 : Int) + ((-1 : Int) * s2 + ((1 : Int) * s9 + 0))) ≤ 0 by omega)⟩ (all_nil)) (all_nil)
  · exact poX (.tail _ (.head _)) rfl hR (all_nil) (all_cons ⟨((1 : Int) + ((1 : Int) * s2 + ((-1 : Int) * s9 + 0))), rfl, (show ((1 : Int) + ((1 : Int) * s2 + ((-1 : Int) * s9 + 0))) ≤ 0 by omega)⟩ (all_nil)) (all_nil)
theorem rl598 : ruOk fFS gR598 := by
  intro r hp hO hN hH
  have hr0 := len0 (show r.length = 0 from hN.1)
  subst hr0
  have hR := hN.2.1.1
  exact poX (.head _) rfl hR (all_nil) (all_nil) (all_cons ⟨[478745093490, 1], ⟨sE_k _ _, sE_k _ _, trivial⟩, (show ∃ j : Nat, j < 30 ∧ (1 : Int) = (j : Int) ∧ (478745093490 : Int) = cd 256 0 (wrd j) from rw_k (j := 1) (by decide) (by decide) (by decide))⟩ (all_nil))
theorem rl599 : ruOk fFS gR599 := by
  intro r hp hO hN hH
  have hr0 := len0 (show r.length = 0 from hN.1)
  subst hr0
  have hR := hN.2.1.1
  exact poX (.head _) rfl hR (all_nil) (all_nil) (all_cons ⟨[1802071652, 4], ⟨sE_k _ _, sE_k _ _, trivial⟩, (show ∃ j : Nat, j < 30 ∧ (4 : Int) = (j : Int) ∧ (1802071652 : Int) = cd 256 0 (wrd j) from rw_k (j := 4) (by decide) (by decide) (by decide))⟩ (all_nil))
theorem rl600 : ruOk fFS gR600 := by
  intro r hp hO hN hH
  have hr0 := len0 (show r.length = 0 from hN.1)
  subst hr0
  have hR := hN.2.1.1
  exact poX (.head _) rfl hR (all_nil) (all_nil) (all_cons ⟨[2003398244, 7], ⟨sE_k _ _, sE_k _ _, trivial⟩, (show ∃ j : Nat, j < 30 ∧ (7 : Int) = (j : Int) ∧ (2003398244 : Int) = cd 256 0 (wrd j) from rw_k (j := 7) (by decide) (by decide) (by decide))⟩ (all_nil))
theorem rl601 : ruOk fFS gR601 := by
  intro r hp hO hN hH
  have hr0 := len0 (show r.length = 0 from hN.1)
  subst hr0
  have hR := hN.2.1.1
  exact poX (.head _) rfl hR (all_nil) (all_nil) (all_cons ⟨[439854918756, 2], ⟨sE_k _ _, sE_k _ _, trivial⟩, (show ∃ j : Nat, j < 30 ∧ (2 : Int) = (j : Int) ∧ (439854918756 : Int) = cd 256 0 (wrd j) from rw_k (j := 2) (by decide) (by decide) (by decide))⟩ (all_nil))
theorem rl602 : ruOk fFS gR602 := by
  intro r hp hO hN hH
  have hr0 := len0 (show r.length = 0 from hN.1)
  subst hr0
  have hR := hN.2.1.1
  exact poX (.head _) rfl hR (all_nil) (all_nil) (all_cons ⟨[495874894192, 3], ⟨sE_k _ _, sE_k _ _, trivial⟩, (show ∃ j : Nat, j < 30 ∧ (3 : Int) = (j : Int) ∧ (495874894192 : Int) = cd 256 0 (wrd j) from rw_k (j := 3) (by decide) (by decide) (by decide))⟩ (all_nil))
theorem rl603 : ruOk fFS gR603 := by
  intro r hp hO hN hH
  have hr0 := len0 (show r.length = 0 from hN.1)
  subst hr0
  have hR := hN.2.1.1
  exact poX (.head _) rfl hR (all_nil) (all_nil) (all_cons ⟨[1953654117, 5], ⟨sE_k _ _, sE_k _ _, trivial⟩, (show ∃ j : Nat, j < 30 ∧ (5 : Int) = (j : Int) ∧ (1953654117 : Int) = cd 256 0 (wrd j) from rw_k (j := 5) (by decide) (by decide) (by decide))⟩ (all_nil))
theorem rl604 : ruOk fFS gR604 := by
  intro r hp hO hN hH
  have hr0 := len0 (show r.length = 0 from hN.1)
  subst hr0
  have hR := hN.2.1.1
  exact poX (.head _) rfl hR (all_nil) (all_nil) (all_cons ⟨[2002873452, 6], ⟨sE_k _ _, sE_k _ _, trivial⟩, (show ∃ j : Nat, j < 30 ∧ (6 : Int) = (j : Int) ∧ (2002873452 : Int) = cd 256 0 (wrd j) from rw_k (j := 6) (by decide) (by decide) (by decide))⟩ (all_nil))
theorem rl605 : ruOk fFS gR605 := by
  intro r hp hO hN hH
  obtain ⟨s0, s1, s2, s3, s4, s5, s6, s7, s8, s9, s10, s11, s12, rfl⟩ := len13 (show r.length = 13 from hN.1)
  have hR := hN.2.1.1
  have hIv : ∀ q ∈ ([(0, .negSucc 2147483647, .ofNat 2147483647), (1, .ofNat 0, .ofNat 0), (2, .negSucc 2147483647, .ofNat 2147483647), (3, .negSucc 2147483647, .ofNat 2147483647), (4, .negSucc 2147483647, .ofNat 2147483647), (5, .negSucc 2147483647, .ofNat 2147483647), (6, .negSucc 2147483647, .ofNat 2147483647), (7, .negSucc 2147483647, .ofNat 2147483647), (8, .negSucc 2147483647, .ofNat 2147483647), (9, .ofNat 2, .ofNat 2), (10, .negSucc 2147483647, .ofNat 2147483647), (11, .negSucc 2147483647, .ofNat 2147483647), (12, .negSucc 2147483647, .ofNat 2147483647)] : sIv), ∃ x, ([s0, s1, s2, s3, s4, s5, s6, s7, s8, s9, s10, s11, s12] : List Int)[q.1]? = some x ∧ q.2.1 ≤ x ∧ x ≤ q.2.2 := hN.2.1.2
  have b1 : (0 : Int) ≤ s1 ∧ s1 ≤ (0 : Int) := ivX (q := (1, .ofNat 0, .ofNat 0)) (y := s1) (hIv _ (.tail _ (.head _))) rfl
  have b9 : (2 : Int) ≤ s9 ∧ s9 ≤ (2 : Int) := ivX (q := (9, .ofNat 2, .ofNat 2)) (y := s9) (hIv _ (.tail _ (.tail _ (.tail _ (.tail _ (.tail _ (.tail _ (.tail _ (.tail _ (.tail _ (.head _))))))))))) rfl
  have hFc : ∀ q ∈ ([(119, [(.ofNat 0, [(.ofNat 1, 0)]), (.ofNat 0, [(.ofNat 1, 1)]), (.ofNat 0, [(.ofNat 1, 2)]), (.ofNat 0, [(.ofNat 1, 3)]), (.ofNat 0, [(.ofNat 1, 4)]), (.ofNat 0, [(.ofNat 1, 5)]), (.ofNat 0, [(.ofNat 1, 6)]), (.ofNat 0, [(.ofNat 1, 7)]), (.ofNat 0, [(.ofNat 1, 8)]), (.ofNat 0, [(.ofNat 1, 9)]), (.ofNat 0, [(.ofNat 1, 10)]), (.ofNat 0, [(.ofNat 1, 11)]), (.ofNat 0, [(.ofNat 1, 12)])])] : List sFc), fcOk fFS [s0, s1, s2, s3, s4, s5, s6, s7, s8, s9, s10, s11, s12] hp q := hH.2
  have f0 : Hq (MT hp) s0 s1 s2 s3 s4 s5 s6 s7 s8 s9 s10 s11 s12 := fcX (ys := [s0, s1, s2, s3, s4, s5, s6, s7, s8, s9, s10, s11, s12]) (hFc _ (.head _)) ⟨sE_V rfl, sE_V rfl, sE_V rfl, sE_V rfl, sE_V rfl, sE_V rfl, sE_V rfl, sE_V rfl, sE_V rfl, sE_V rfl, sE_V rfl, sE_V rfl, sE_V rfl, trivial⟩
  exact poX (.head _) rfl hR (all_nil) (all_nil) (all_cons ⟨[1, s10], ⟨sE_k _ _, sE_V rfl, trivial⟩, (show RS (MT hp) (1 : Int) s10 from h0_f1 (MT_ok hO) f0 (by omega) (by omega) (by omega))⟩ (all_nil))
theorem rl606 : ruOk fFS gR606 := by
  intro r hp hO hN hH
  obtain ⟨s0, s1, rfl⟩ := len2 (show r.length = 2 from hN.1)
  have hR := hN.2.1.1
  have hIv : ∀ q ∈ ([(0, .negSucc 2147483647, .ofNat 2147483647), (1, .negSucc 2147483647, .ofNat 2147483647)] : sIv), ∃ x, ([s0, s1] : List Int)[q.1]? = some x ∧ q.2.1 ≤ x ∧ x ≤ q.2.2 := hN.2.1.2
  have hRf : ∀ q ∈ ([((78, .ofNat 273, []), (.ofNat 15, []), 1, .ofNat 0, [(.ofNat 1, 0)]), ((78, .ofNat 273, []), (.ofNat 16, []), 1, .ofNat 0, [(.ofNat 1, 1)])] : List sRf), rfOk [s0, s1] hp q := hH.1
  have h0 : hI hp 273 15 = s0 := rfI0 (hRf _ (.head _)) (sE_k _ _) (sE_k _ _) (sE_V rfl)
  have h1 : hI hp 273 16 = s1 := rfI0 (hRf _ (.tail _ (.head _))) (sE_k _ _) (sE_k _ _) (sE_V rfl)
  have hFc : ∀ q ∈ ([(120, [(.ofNat 0, [(.ofNat 1, 0)]), (.ofNat 0, [(.ofNat 1, 1)])])] : List sFc), fcOk fFS [s0, s1] hp q := hH.2
  have f0 : RS (MT hp) s0 s1 := fcX (ys := [s0, s1]) (hFc _ (.head _)) ⟨sE_V rfl, sE_V rfl, trivial⟩
  exact poX (.head _) rfl hR (all_nil) (all_nil) (all_cons ⟨[(-s1 - 1), s0], ⟨sEv (y' := ((-1 : Int) + ((-1 : Int) * s1 + 0))) rfl (by omega), sE_V rfl, trivial⟩, (show ANk (MT hp) (-s1 - 1) s0 from Or.inr ⟨s1, f0, by omega⟩)⟩ (all_nil))
theorem rl607 : ruOk fFS gR607 := by
  intro r hp hO hN hH
  obtain ⟨s0, s1, s2, s3, s4, s5, s6, rfl⟩ := len7 (show r.length = 7 from hN.1)
  have hR := hN.2.1.1
  have hIv : ∀ q ∈ ([(0, .ofNat 0, .ofNat 940), (1, .negSucc 2147483647, .ofNat 2147483647), (2, .negSucc 2147483647, .ofNat 2147483647), (3, .negSucc 2147483647, .ofNat 2147483647), (4, .negSucc 2147483647, .ofNat 2147483647), (5, .negSucc 2147483647, .ofNat 2147483647), (6, .negSucc 2147483647, .ofNat 2147483647)] : sIv), ∃ x, ([s0, s1, s2, s3, s4, s5, s6] : List Int)[q.1]? = some x ∧ q.2.1 ≤ x ∧ x ≤ q.2.2 := hN.2.1.2
  have b0 : (0 : Int) ≤ s0 ∧ s0 ≤ (940 : Int) := ivX (q := (0, .ofNat 0, .ofNat 940)) (y := s0) (hIv _ (.head _)) rfl
  have hCs : ∀ c ∈ ([(.ofNat 0, [(.ofNat 1, 0), (.negSucc 0, 6)])] : List sLn), ∃ x, sE [s0, s1, s2, s3, s4, s5, s6] c = some x ∧ x ≤ 0 := hN.2.2.1
  have c0 : ((0 : Int) + ((1 : Int) * s0 + ((-1 : Int) * s6 + 0))) ≤ 0 := csX (hCs _ (.head _)) rfl
  have hRf : ∀ q ∈ ([((40, .ofNat 173, []), (.ofNat 2, []), 1, .ofNat 0, [(.ofNat 1, 0)]), ((40, .ofNat 173, []), (.ofNat 3, []), 1, .ofNat 0, [(.ofNat 1, 1)]), ((78, .ofNat 273, []), (.ofNat 3, []), 1, .ofNat 0, [(.ofNat 1, 0)]), ((78, .ofNat 273, []), (.ofNat 5, []), 1, .ofNat 0, [(.ofNat 1, 1)])] : List sRf), rfOk [s0, s1, s2, s3, s4, s5, s6] hp q := hH.1
  have h0 : hI hp 173 2 = s0 := rfI0 (hRf _ (.head _)) (sE_k _ _) (sE_k _ _) (sE_V rfl)
  have y0 : (0 : Int) ≤ s0 ∧ s0 ≤ (940 : Int) := by rw [← h0]; exact hI_ty hO (by decide) rfl
  have tnx : (XT hp).2.1 = s0 := h0
  have h1 : hI hp 173 3 = s1 := rfI0 (hRf _ (.tail _ (.head _))) (sE_k _ _) (sE_k _ _) (sE_V rfl)
  have y1 : (0 : Int) ≤ s1 ∧ s1 ≤ (940 : Int) := by rw [← h1]; exact hI_ty hO (by decide) rfl
  have tmx : (XT hp).2.2 = s1 := h1
  have h2 : hI hp 273 3 = s0 := rfI0 (hRf _ (.tail _ (.tail _ (.head _)))) (sE_k _ _) (sE_k _ _) (sE_V rfl)
  have y2 : (0 : Int) ≤ s0 ∧ s0 ≤ (940 : Int) := by rw [← h2]; exact hI_ty hO (by decide) rfl
  have tnm : (MT hp).2.1 = s0 := h2
  have h3 : hI hp 273 5 = s1 := rfI0 (hRf _ (.tail _ (.tail _ (.tail _ (.head _))))) (sE_k _ _) (sE_k _ _) (sE_V rfl)
  have y3 : (0 : Int) ≤ s1 ∧ s1 ≤ (940 : Int) := by rw [← h3]; exact hI_ty hO (by decide) rfl
  have tmm : (MT hp).2.2 = s1 := h3
  have hFc : ∀ q ∈ ([(82, [(.ofNat 0, [(.ofNat 1, 2)]), (.ofNat 0, [(.ofNat 1, 3)])]), (128, [(.ofNat 0, [(.ofNat 1, 4)]), (.ofNat 0, [(.ofNat 1, 5)])]), (177, [(.ofNat 0, [(.ofNat 1, 6)])])] : List sFc), fcOk fFS [s0, s1, s2, s3, s4, s5, s6] hp q := hH.2
  have f0 : ANk (XT hp) s2 s3 := fcX (ys := [s2, s3]) (hFc _ (.head _)) ⟨sE_V rfl, sE_V rfl, trivial⟩
  have f1 : ANk (MT hp) s4 s5 := fcX (ys := [s4, s5]) (hFc _ (.tail _ (.head _))) ⟨sE_V rfl, sE_V rfl, trivial⟩
  have f2 : ∀ i : Nat, i < 940 → (i : Int) < s6 → hI hp 1 i = hI hp 274 i % 256 := fcX (ys := [s6]) (hFc _ (.tail _ (.tail _ (.head _)))) ⟨sE_V rfl, trivial⟩
  have u := ank_eq f2 h0 h2 h1 h3 ⟨by omega, by omega⟩ f0 f1
  exact poX (.head _) rfl hR (all_nil) (all_cons ⟨((0 : Int) + ((1 : Int) * s2 + ((-1 : Int) * s4 + 0))), rfl, (show ((0 : Int) + ((1 : Int) * s2 + ((-1 : Int) * s4 + 0))) ≤ 0 by omega)⟩ (all_cons ⟨((0 : Int) + ((-1 : Int) * s2 + ((1 : Int) * s4 + 0))), rfl, (show ((0 : Int) + ((-1 : Int) * s2 + ((1 : Int) * s4 + 0))) ≤ 0 by omega)⟩ (all_cons ⟨((0 : Int) + ((1 : Int) * s3 + ((-1 : Int) * s5 + 0))), rfl, (show ((0 : Int) + ((1 : Int) * s3 + ((-1 : Int) * s5 + 0))) ≤ 0 by omega)⟩ (all_cons ⟨((0 : Int) + ((-1 : Int) * s3 + ((1 : Int) * s5 + 0))), rfl, (show ((0 : Int) + ((-1 : Int) * s3 + ((1 : Int) * s5 + 0))) ≤ 0 by omega)⟩ (all_nil))))) (all_nil)
theorem rl608 : ruOk fFS gR608 := by
  intro r hp hO hN hH
  obtain ⟨s0, s1, s2, s3, s4, s5, s6, s7, s8, s9, s10, s11, s12, s13, s14, s15, rfl⟩ := len16 (show r.length = 16 from hN.1)
  have hR := hN.2.1.1
  have hIv : ∀ q ∈ ([(2, .negSucc 2147483647, .ofNat 2147483647), (3, .negSucc 2147483647, .ofNat 2147483647), (4, .negSucc 2147483647, .ofNat 2147483647), (5, .negSucc 2147483647, .ofNat 2147483647), (6, .negSucc 2147483647, .ofNat 2147483647), (7, .negSucc 2147483647, .ofNat 2147483647), (8, .negSucc 2147483647, .ofNat 2147483647), (9, .negSucc 2147483647, .ofNat 2147483647), (10, .negSucc 2147483647, .ofNat 2147483647), (11, .negSucc 2147483647, .ofNat 2147483647), (12, .ofNat 1, .ofNat 1), (13, .negSucc 2147483647, .ofNat 2147483647), (14, .negSucc 2147483647, .ofNat 2147483647), (15, .negSucc 2147483647, .ofNat 2147483647)] : sIv), ∃ x, ([s0, s1, s2, s3, s4, s5, s6, s7, s8, s9, s10, s11, s12, s13, s14, s15] : List Int)[q.1]? = some x ∧ q.2.1 ≤ x ∧ x ≤ q.2.2 := hN.2.1.2
  have b10 : (1 : Int) ≤ s12 ∧ s12 ≤ (1 : Int) := ivX (q := (12, .ofNat 1, .ofNat 1)) (y := s12) (hIv _ (.tail _ (.tail _ (.tail _ (.tail _ (.tail _ (.tail _ (.tail _ (.tail _ (.tail _ (.tail _ (.head _)))))))))))) rfl
  have hCs : ∀ c ∈ ([(.ofNat 0, [(.negSucc 0, 0), (.ofNat 1, 1)]), (.ofNat 0, [(.ofNat 1, 0), (.negSucc 0, 1)])] : List sLn), ∃ x, sE [s0, s1, s2, s3, s4, s5, s6, s7, s8, s9, s10, s11, s12, s13, s14, s15] c = some x ∧ x ≤ 0 := hN.2.2.1
  have c0 : ((0 : Int) + ((-1 : Int) * s0 + ((1 : Int) * s1 + 0))) ≤ 0 := csX (hCs _ (.head _)) rfl
  have c1 : ((0 : Int) + ((1 : Int) * s0 + ((-1 : Int) * s1 + 0))) ≤ 0 := csX (hCs _ (.tail _ (.head _))) rfl
  have hRf : ∀ q ∈ ([((78, .ofNat 273, []), (.ofNat 17, []), 5, .ofNat 0, [(.ofNat 1, 1)])] : List sRf), rfOk [s0, s1, s2, s3, s4, s5, s6, s7, s8, s9, s10, s11, s12, s13, s14, s15] hp q := hH.1
  have h0 : hL hp 273 17 = s1 := rfL0 (hRf _ (.head _)) (sE_k _ _) (sE_k _ _) (sE_V rfl)
  have hFc : ∀ q ∈ ([(134, [(.ofNat 0, [(.ofNat 1, 0)]), (.ofNat 0, [(.ofNat 1, 2)])]), (119, [(.ofNat 0, [(.ofNat 1, 3)]), (.ofNat 0, [(.ofNat 1, 4)]), (.ofNat 0, [(.ofNat 1, 5)]), (.ofNat 0, [(.ofNat 1, 6)]), (.ofNat 0, [(.ofNat 1, 7)]), (.ofNat 0, [(.ofNat 1, 8)]), (.ofNat 0, [(.ofNat 1, 9)]), (.ofNat 0, [(.ofNat 1, 10)]), (.ofNat 0, [(.ofNat 1, 11)]), (.ofNat 0, [(.ofNat 1, 12)]), (.ofNat 0, [(.ofNat 1, 13)]), (.ofNat 0, [(.ofNat 1, 14)]), (.ofNat 0, [(.ofNat 1, 15)])]), (131, [(.ofNat 0, [(.ofNat 1, 13)]), (.ofNat 0, [(.ofNat 1, 14)])])] : List sFc), fcOk fFS [s0, s1, s2, s3, s4, s5, s6, s7, s8, s9, s10, s11, s12, s13, s14, s15] hp q := hH.2
  have f0 : ∃ j : Nat, j < 30 ∧ s2 = (j : Int) ∧ s0 = cd 256 0 (wrd j) := fcX (ys := [s0, s2]) (hFc _ (.head _)) ⟨sE_V rfl, sE_V rfl, trivial⟩
  have f1 : Hq (MT hp) s3 s4 s5 s6 s7 s8 s9 s10 s11 s12 s13 s14 s15 := fcX (ys := [s3, s4, s5, s6, s7, s8, s9, s10, s11, s12, s13, s14, s15]) (hFc _ (.tail _ (.head _))) ⟨sE_V rfl, sE_V rfl, sE_V rfl, sE_V rfl, sE_V rfl, sE_V rfl, sE_V rfl, sE_V rfl, sE_V rfl, sE_V rfl, sE_V rfl, sE_V rfl, sE_V rfl, trivial⟩
  have f2 : isW (bs (MT hp).1 s13 s14) ∧ hL hp 273 17 = cd 256 0 (bs (MT hp).1 s13 s14) := fcX (ys := [s13, s14]) (hFc _ (.tail _ (.tail _ (.head _)))) ⟨sE_V rfl, sE_V rfl, trivial⟩
  have u := isw_y (w := s1) (MT_ok hO) f0 f1 (by omega) ⟨f2.1, by rw [← h0]; exact f2.2⟩ (by omega)
  exact poX (.head _) rfl hR (all_nil) (all_cons ⟨((0 : Int) + ((-1 : Int) * s2 + ((1 : Int) * s15 + 0))), rfl, (show ((0 : Int) + ((-1 : Int) * s2 + ((1 : Int) * s15 + 0))) ≤ 0 by omega)⟩ (all_cons ⟨((0 : Int) + ((1 : Int) * s2 + ((-1 : Int) * s15 + 0))), rfl, (show ((0 : Int) + ((1 : Int) * s2 + ((-1 : Int) * s15 + 0))) ≤ 0 by omega)⟩ (all_nil))) (all_nil)
theorem rl609 : ruOk fFS gR609 := by
  intro r hp hO hN hH
  obtain ⟨s0, s1, s2, s3, s4, s5, s6, s7, s8, s9, s10, rfl⟩ := len11 (show r.length = 11 from hN.1)
  have hR := hN.2.1.1
  have hIv : ∀ q ∈ ([(2, .negSucc 2147483647, .ofNat 2147483647), (3, .negSucc 2147483647, .ofNat 2147483647), (4, .negSucc 2147483647, .ofNat 2147483647), (5, .negSucc 2147483647, .ofNat 2147483647), (6, .negSucc 2147483647, .ofNat 2147483647), (7, .ofNat 1, .ofNat 1), (8, .negSucc 2147483647, .ofNat 2147483647), (9, .negSucc 2147483647, .ofNat 2147483647), (10, .negSucc 2147483647, .ofNat 2147483647)] : sIv), ∃ x, ([s0, s1, s2, s3, s4, s5, s6, s7, s8, s9, s10] : List Int)[q.1]? = some x ∧ q.2.1 ≤ x ∧ x ≤ q.2.2 := hN.2.1.2
  have b5 : (1 : Int) ≤ s7 ∧ s7 ≤ (1 : Int) := ivX (q := (7, .ofNat 1, .ofNat 1)) (y := s7) (hIv _ (.tail _ (.tail _ (.tail _ (.tail _ (.tail _ (.head _))))))) rfl
  have hCs : ∀ c ∈ ([(.ofNat 0, [(.negSucc 0, 0), (.ofNat 1, 1)]), (.ofNat 0, [(.ofNat 1, 0), (.negSucc 0, 1)])] : List sLn), ∃ x, sE [s0, s1, s2, s3, s4, s5, s6, s7, s8, s9, s10] c = some x ∧ x ≤ 0 := hN.2.2.1
  have c0 : ((0 : Int) + ((-1 : Int) * s0 + ((1 : Int) * s1 + 0))) ≤ 0 := csX (hCs _ (.head _)) rfl
  have c1 : ((0 : Int) + ((1 : Int) * s0 + ((-1 : Int) * s1 + 0))) ≤ 0 := csX (hCs _ (.tail _ (.head _))) rfl
  have hRf : ∀ q ∈ ([((78, .ofNat 273, []), (.ofNat 17, []), 5, .ofNat 0, [(.ofNat 1, 1)])] : List sRf), rfOk [s0, s1, s2, s3, s4, s5, s6, s7, s8, s9, s10] hp q := hH.1
  have h0 : hL hp 273 17 = s1 := rfL0 (hRf _ (.head _)) (sE_k _ _) (sE_k _ _) (sE_V rfl)
  have hFc : ∀ q ∈ ([(134, [(.ofNat 0, [(.ofNat 1, 0)]), (.ofNat 0, [(.ofNat 1, 2)])]), (207, [(.ofNat 0, [(.ofNat 1, 3)]), (.ofNat 0, [(.ofNat 1, 4)]), (.ofNat 0, [(.ofNat 1, 5)]), (.ofNat 0, [(.ofNat 1, 6)]), (.ofNat 0, [(.ofNat 1, 7)]), (.ofNat 0, [(.ofNat 1, 8)]), (.ofNat 0, [(.ofNat 1, 9)]), (.ofNat 0, [(.ofNat 1, 10)])]), (131, [(.ofNat 0, [(.ofNat 1, 8)]), (.ofNat 0, [(.ofNat 1, 9)])])] : List sFc), fcOk fFS [s0, s1, s2, s3, s4, s5, s6, s7, s8, s9, s10] hp q := hH.2
  have f0 : ∃ j : Nat, j < 30 ∧ s2 = (j : Int) ∧ s0 = cd 256 0 (wrd j) := fcX (ys := [s0, s2]) (hFc _ (.head _)) ⟨sE_V rfl, sE_V rfl, trivial⟩
  have f1 : SHq (MT hp) (nmM hp) s3 s4 s5 s6 s7 s8 s9 s10 := fcX (ys := [s3, s4, s5, s6, s7, s8, s9, s10]) (hFc _ (.tail _ (.head _))) ⟨sE_V rfl, sE_V rfl, sE_V rfl, sE_V rfl, sE_V rfl, sE_V rfl, sE_V rfl, sE_V rfl, trivial⟩
  have f2 : isW (bs (MT hp).1 s8 s9) ∧ hL hp 273 17 = cd 256 0 (bs (MT hp).1 s8 s9) := fcX (ys := [s8, s9]) (hFc _ (.tail _ (.tail _ (.head _)))) ⟨sE_V rfl, sE_V rfl, trivial⟩
  have u := isw_yS (w := s1) (MT_ok hO) f0 f1 (by omega) ⟨f2.1, by rw [← h0]; exact f2.2⟩ (by omega)
  exact poX (.head _) rfl hR (all_nil) (all_cons ⟨((0 : Int) + ((-1 : Int) * s2 + ((1 : Int) * s10 + 0))), rfl, (show ((0 : Int) + ((-1 : Int) * s2 + ((1 : Int) * s10 + 0))) ≤ 0 by omega)⟩ (all_cons ⟨((0 : Int) + ((1 : Int) * s2 + ((-1 : Int) * s10 + 0))), rfl, (show ((0 : Int) + ((1 : Int) * s2 + ((-1 : Int) * s10 + 0))) ≤ 0 by omega)⟩ (all_nil))) (all_nil)
theorem rl610 : ruOk fFS gR610 := by
  intro r hp hO hN hH
  obtain ⟨s0, s1, s2, s3, s4, s5, s6, s7, s8, s9, rfl⟩ := len10 (show r.length = 10 from hN.1)
  have hR := hN.2.1.1
  have hIv : ∀ q ∈ ([(2, .negSucc 2147483647, .ofNat 2147483647), (3, .negSucc 2147483647, .ofNat 2147483647), (4, .negSucc 2147483647, .ofNat 2147483647), (5, .negSucc 2147483647, .ofNat 2147483647), (6, .ofNat 1, .ofNat 1), (7, .negSucc 2147483647, .ofNat 2147483647), (8, .negSucc 2147483647, .ofNat 2147483647), (9, .negSucc 2147483647, .ofNat 2147483647)] : sIv), ∃ x, ([s0, s1, s2, s3, s4, s5, s6, s7, s8, s9] : List Int)[q.1]? = some x ∧ q.2.1 ≤ x ∧ x ≤ q.2.2 := hN.2.1.2
  have b4 : (1 : Int) ≤ s6 ∧ s6 ≤ (1 : Int) := ivX (q := (6, .ofNat 1, .ofNat 1)) (y := s6) (hIv _ (.tail _ (.tail _ (.tail _ (.tail _ (.head _)))))) rfl
  have hCs : ∀ c ∈ ([(.ofNat 0, [(.negSucc 0, 0), (.ofNat 1, 1)]), (.ofNat 0, [(.ofNat 1, 0), (.negSucc 0, 1)])] : List sLn), ∃ x, sE [s0, s1, s2, s3, s4, s5, s6, s7, s8, s9] c = some x ∧ x ≤ 0 := hN.2.2.1
  have c0 : ((0 : Int) + ((-1 : Int) * s0 + ((1 : Int) * s1 + 0))) ≤ 0 := csX (hCs _ (.head _)) rfl
  have c1 : ((0 : Int) + ((1 : Int) * s0 + ((-1 : Int) * s1 + 0))) ≤ 0 := csX (hCs _ (.tail _ (.head _))) rfl
  have hRf : ∀ q ∈ ([((78, .ofNat 273, []), (.ofNat 17, []), 5, .ofNat 0, [(.ofNat 1, 1)])] : List sRf), rfOk [s0, s1, s2, s3, s4, s5, s6, s7, s8, s9] hp q := hH.1
  have h0 : hL hp 273 17 = s1 := rfL0 (hRf _ (.head _)) (sE_k _ _) (sE_k _ _) (sE_V rfl)
  have hFc : ∀ q ∈ ([(134, [(.ofNat 0, [(.ofNat 1, 0)]), (.ofNat 0, [(.ofNat 1, 2)])]), (250, [(.ofNat 0, [(.ofNat 1, 3)]), (.ofNat 0, [(.ofNat 1, 4)]), (.ofNat 0, [(.ofNat 1, 5)]), (.ofNat 0, [(.ofNat 1, 6)]), (.ofNat 0, [(.ofNat 1, 7)]), (.ofNat 0, [(.ofNat 1, 8)]), (.ofNat 0, [(.ofNat 1, 9)])]), (131, [(.ofNat 0, [(.ofNat 1, 7)]), (.ofNat 0, [(.ofNat 1, 8)])])] : List sFc), fcOk fFS [s0, s1, s2, s3, s4, s5, s6, s7, s8, s9] hp q := hH.2
  have f0 : ∃ j : Nat, j < 30 ∧ s2 = (j : Int) ∧ s0 = cd 256 0 (wrd j) := fcX (ys := [s0, s2]) (hFc _ (.head _)) ⟨sE_V rfl, sE_V rfl, trivial⟩
  have f1 : roH (MT hp) (nmM hp) (hI hp 275 0) (hI hp 275 1) s3 s4 s5 s6 s7 s8 s9 := fcX (ys := [s3, s4, s5, s6, s7, s8, s9]) (hFc _ (.tail _ (.head _))) ⟨sE_V rfl, sE_V rfl, sE_V rfl, sE_V rfl, sE_V rfl, sE_V rfl, sE_V rfl, trivial⟩
  have f2 : isW (bs (MT hp).1 s7 s8) ∧ hL hp 273 17 = cd 256 0 (bs (MT hp).1 s7 s8) := fcX (ys := [s7, s8]) (hFc _ (.tail _ (.tail _ (.head _)))) ⟨sE_V rfl, sE_V rfl, trivial⟩
  have u := isw_yR (w := s1) (MT_ok hO) f0 f1 (by omega) ⟨f2.1, by rw [← h0]; exact f2.2⟩ (by omega)
  exact poX (.head _) rfl hR (all_nil) (all_cons ⟨((0 : Int) + ((-1 : Int) * s2 + ((1 : Int) * s9 + 0))), rfl, (show ((0 : Int) + ((-1 : Int) * s2 + ((1 : Int) * s9 + 0))) ≤ 0 by omega)⟩ (all_cons ⟨((0 : Int) + ((1 : Int) * s2 + ((-1 : Int) * s9 + 0))), rfl, (show ((0 : Int) + ((1 : Int) * s2 + ((-1 : Int) * s9 + 0))) ≤ 0 by omega)⟩ (all_nil))) (all_nil)
theorem rl611 : ruOk fFS gR611 := by
  intro r hp hO hN hH
  obtain ⟨s0, s1, s2, s3, s4, s5, s6, s7, s8, s9, s10, s11, s12, rfl⟩ := len13 (show r.length = 13 from hN.1)
  have hR := hN.2.1.1
  have hIv : ∀ q ∈ ([(0, .negSucc 2147483647, .ofNat 2147483647), (1, .ofNat 0, .ofNat 0), (2, .negSucc 2147483647, .ofNat 2147483647), (3, .negSucc 2147483647, .ofNat 2147483647), (4, .negSucc 2147483647, .ofNat 2147483647), (5, .negSucc 2147483647, .ofNat 2147483647), (6, .negSucc 2147483647, .ofNat 2147483647), (7, .negSucc 2147483647, .ofNat 2147483647), (8, .negSucc 2147483647, .ofNat 2147483647), (9, .ofNat 3, .ofNat 3), (10, .negSucc 2147483647, .ofNat 2147483647), (11, .negSucc 2147483647, .ofNat 2147483647), (12, .negSucc 2147483647, .ofNat 2147483647)] : sIv), ∃ x, ([s0, s1, s2, s3, s4, s5, s6, s7, s8, s9, s10, s11, s12] : List Int)[q.1]? = some x ∧ q.2.1 ≤ x ∧ x ≤ q.2.2 := hN.2.1.2
  have b1 : (0 : Int) ≤ s1 ∧ s1 ≤ (0 : Int) := ivX (q := (1, .ofNat 0, .ofNat 0)) (y := s1) (hIv _ (.tail _ (.head _))) rfl
  have b9 : (3 : Int) ≤ s9 ∧ s9 ≤ (3 : Int) := ivX (q := (9, .ofNat 3, .ofNat 3)) (y := s9) (hIv _ (.tail _ (.tail _ (.tail _ (.tail _ (.tail _ (.tail _ (.tail _ (.tail _ (.tail _ (.head _))))))))))) rfl
  have hFc : ∀ q ∈ ([(119, [(.ofNat 0, [(.ofNat 1, 0)]), (.ofNat 0, [(.ofNat 1, 1)]), (.ofNat 0, [(.ofNat 1, 2)]), (.ofNat 0, [(.ofNat 1, 3)]), (.ofNat 0, [(.ofNat 1, 4)]), (.ofNat 0, [(.ofNat 1, 5)]), (.ofNat 0, [(.ofNat 1, 6)]), (.ofNat 0, [(.ofNat 1, 7)]), (.ofNat 0, [(.ofNat 1, 8)]), (.ofNat 0, [(.ofNat 1, 9)]), (.ofNat 0, [(.ofNat 1, 10)]), (.ofNat 0, [(.ofNat 1, 11)]), (.ofNat 0, [(.ofNat 1, 12)])])] : List sFc), fcOk fFS [s0, s1, s2, s3, s4, s5, s6, s7, s8, s9, s10, s11, s12] hp q := hH.2
  have f0 : Hq (MT hp) s0 s1 s2 s3 s4 s5 s6 s7 s8 s9 s10 s11 s12 := fcX (ys := [s0, s1, s2, s3, s4, s5, s6, s7, s8, s9, s10, s11, s12]) (hFc _ (.head _)) ⟨sE_V rfl, sE_V rfl, sE_V rfl, sE_V rfl, sE_V rfl, sE_V rfl, sE_V rfl, sE_V rfl, sE_V rfl, sE_V rfl, sE_V rfl, sE_V rfl, sE_V rfl, trivial⟩
  exact poX (.head _) rfl hR (all_nil) (all_nil) (all_cons ⟨[1, s10], ⟨sE_k _ _, sE_V rfl, trivial⟩, (show RS (MT hp) (1 : Int) s10 from h0_f1 (MT_ok hO) f0 (by omega) (by omega) (by omega))⟩ (all_nil))
theorem rl612 : ruOk fFS gR612 := by
  intro r hp hO hN hH
  obtain ⟨s0, s1, s2, s3, s4, s5, s6, s7, s8, s9, s10, s11, s12, rfl⟩ := len13 (show r.length = 13 from hN.1)
  have hR := hN.2.1.1
  have hIv : ∀ q ∈ ([(0, .negSucc 2147483647, .ofNat 2147483647), (1, .ofNat 0, .ofNat 0), (2, .negSucc 2147483647, .ofNat 2147483647), (3, .negSucc 2147483647, .ofNat 2147483647), (4, .negSucc 2147483647, .ofNat 2147483647), (5, .negSucc 2147483647, .ofNat 2147483647), (6, .negSucc 2147483647, .ofNat 2147483647), (7, .negSucc 2147483647, .ofNat 2147483647), (8, .negSucc 2147483647, .ofNat 2147483647), (9, .ofNat 4, .ofNat 4), (10, .negSucc 2147483647, .ofNat 2147483647), (11, .negSucc 2147483647, .ofNat 2147483647), (12, .negSucc 2147483647, .ofNat 2147483647)] : sIv), ∃ x, ([s0, s1, s2, s3, s4, s5, s6, s7, s8, s9, s10, s11, s12] : List Int)[q.1]? = some x ∧ q.2.1 ≤ x ∧ x ≤ q.2.2 := hN.2.1.2
  have b1 : (0 : Int) ≤ s1 ∧ s1 ≤ (0 : Int) := ivX (q := (1, .ofNat 0, .ofNat 0)) (y := s1) (hIv _ (.tail _ (.head _))) rfl
  have b9 : (4 : Int) ≤ s9 ∧ s9 ≤ (4 : Int) := ivX (q := (9, .ofNat 4, .ofNat 4)) (y := s9) (hIv _ (.tail _ (.tail _ (.tail _ (.tail _ (.tail _ (.tail _ (.tail _ (.tail _ (.tail _ (.head _))))))))))) rfl
  have hFc : ∀ q ∈ ([(119, [(.ofNat 0, [(.ofNat 1, 0)]), (.ofNat 0, [(.ofNat 1, 1)]), (.ofNat 0, [(.ofNat 1, 2)]), (.ofNat 0, [(.ofNat 1, 3)]), (.ofNat 0, [(.ofNat 1, 4)]), (.ofNat 0, [(.ofNat 1, 5)]), (.ofNat 0, [(.ofNat 1, 6)]), (.ofNat 0, [(.ofNat 1, 7)]), (.ofNat 0, [(.ofNat 1, 8)]), (.ofNat 0, [(.ofNat 1, 9)]), (.ofNat 0, [(.ofNat 1, 10)]), (.ofNat 0, [(.ofNat 1, 11)]), (.ofNat 0, [(.ofNat 1, 12)])])] : List sFc), fcOk fFS [s0, s1, s2, s3, s4, s5, s6, s7, s8, s9, s10, s11, s12] hp q := hH.2
  have f0 : Hq (MT hp) s0 s1 s2 s3 s4 s5 s6 s7 s8 s9 s10 s11 s12 := fcX (ys := [s0, s1, s2, s3, s4, s5, s6, s7, s8, s9, s10, s11, s12]) (hFc _ (.head _)) ⟨sE_V rfl, sE_V rfl, sE_V rfl, sE_V rfl, sE_V rfl, sE_V rfl, sE_V rfl, sE_V rfl, sE_V rfl, sE_V rfl, sE_V rfl, sE_V rfl, sE_V rfl, trivial⟩
  exact poX (.head _) rfl hR (all_nil) (all_nil) (all_cons ⟨[1, s10], ⟨sE_k _ _, sE_V rfl, trivial⟩, (show RS (MT hp) (1 : Int) s10 from h0_f1 (MT_ok hO) f0 (by omega) (by omega) (by omega))⟩ (all_nil))
theorem rl613 : ruOk fFS gR613 := by
  intro r hp hO hN hH
  obtain ⟨s0, s1, s2, s3, s4, s5, s6, s7, s8, s9, s10, s11, s12, rfl⟩ := len13 (show r.length = 13 from hN.1)
  have hR := hN.2.1.1
  have hIv : ∀ q ∈ ([(0, .negSucc 2147483647, .ofNat 2147483647), (1, .ofNat 0, .ofNat 0), (2, .negSucc 2147483647, .ofNat 2147483647), (3, .negSucc 2147483647, .ofNat 2147483647), (4, .negSucc 2147483647, .ofNat 2147483647), (5, .negSucc 2147483647, .ofNat 2147483647), (6, .negSucc 2147483647, .ofNat 2147483647), (7, .negSucc 2147483647, .ofNat 2147483647), (8, .negSucc 2147483647, .ofNat 2147483647), (9, .ofNat 1, .ofNat 1), (10, .negSucc 2147483647, .ofNat 2147483647), (11, .negSucc 2147483647, .ofNat 2147483647), (12, .negSucc 0, .negSucc 0)] : sIv), ∃ x, ([s0, s1, s2, s3, s4, s5, s6, s7, s8, s9, s10, s11, s12] : List Int)[q.1]? = some x ∧ q.2.1 ≤ x ∧ x ≤ q.2.2 := hN.2.1.2
  have b1 : (0 : Int) ≤ s1 ∧ s1 ≤ (0 : Int) := ivX (q := (1, .ofNat 0, .ofNat 0)) (y := s1) (hIv _ (.tail _ (.head _))) rfl
  have b9 : (1 : Int) ≤ s9 ∧ s9 ≤ (1 : Int) := ivX (q := (9, .ofNat 1, .ofNat 1)) (y := s9) (hIv _ (.tail _ (.tail _ (.tail _ (.tail _ (.tail _ (.tail _ (.tail _ (.tail _ (.tail _ (.head _))))))))))) rfl
  have b12 : (-1 : Int) ≤ s12 ∧ s12 ≤ (-1 : Int) := ivX (q := (12, .negSucc 0, .negSucc 0)) (y := s12) (hIv _ (.tail _ (.tail _ (.tail _ (.tail _ (.tail _ (.tail _ (.tail _ (.tail _ (.tail _ (.tail _ (.tail _ (.tail _ (.head _)))))))))))))) rfl
  have hFc : ∀ q ∈ ([(119, [(.ofNat 0, [(.ofNat 1, 0)]), (.ofNat 0, [(.ofNat 1, 1)]), (.ofNat 0, [(.ofNat 1, 2)]), (.ofNat 0, [(.ofNat 1, 3)]), (.ofNat 0, [(.ofNat 1, 4)]), (.ofNat 0, [(.ofNat 1, 5)]), (.ofNat 0, [(.ofNat 1, 6)]), (.ofNat 0, [(.ofNat 1, 7)]), (.ofNat 0, [(.ofNat 1, 8)]), (.ofNat 0, [(.ofNat 1, 9)]), (.ofNat 0, [(.ofNat 1, 10)]), (.ofNat 0, [(.ofNat 1, 11)]), (.ofNat 0, [(.ofNat 1, 12)])])] : List sFc), fcOk fFS [s0, s1, s2, s3, s4, s5, s6, s7, s8, s9, s10, s11, s12] hp q := hH.2
  have f0 : Hq (MT hp) s0 s1 s2 s3 s4 s5 s6 s7 s8 s9 s10 s11 s12 := fcX (ys := [s0, s1, s2, s3, s4, s5, s6, s7, s8, s9, s10, s11, s12]) (hFc _ (.head _)) ⟨sE_V rfl, sE_V rfl, sE_V rfl, sE_V rfl, sE_V rfl, sE_V rfl, sE_V rfl, sE_V rfl, sE_V rfl, sE_V rfl, sE_V rfl, sE_V rfl, sE_V rfl, trivial⟩
  exact poX (.head _) rfl hR (all_nil) (all_nil) (all_cons ⟨[1, s10], ⟨sE_k _ _, sE_V rfl, trivial⟩, (show RS (MT hp) (1 : Int) s10 from h0_f1 (MT_ok hO) f0 (by omega) (by omega) (by omega))⟩ (all_nil))
theorem rl614 : ruOk fFS gR614 := by
  intro r hp hO hN hH
  obtain ⟨s0, s1, s2, s3, s4, s5, s6, s7, s8, s9, s10, s11, s12, rfl⟩ := len13 (show r.length = 13 from hN.1)
  have hR := hN.2.1.1
  have hIv : ∀ q ∈ ([(0, .negSucc 2147483647, .ofNat 2147483647), (1, .ofNat 0, .ofNat 0), (2, .negSucc 2147483647, .ofNat 2147483647), (3, .negSucc 2147483647, .ofNat 2147483647), (4, .negSucc 2147483647, .ofNat 2147483647), (5, .negSucc 2147483647, .ofNat 2147483647), (6, .negSucc 2147483647, .ofNat 2147483647), (7, .negSucc 2147483647, .ofNat 2147483647), (8, .negSucc 2147483647, .ofNat 2147483647), (9, .ofNat 1, .ofNat 1), (10, .negSucc 2147483647, .ofNat 2147483647), (11, .negSucc 2147483647, .ofNat 2147483647), (12, .ofNat 8, .ofNat 2147483647)] : sIv), ∃ x, ([s0, s1, s2, s3, s4, s5, s6, s7, s8, s9, s10, s11, s12] : List Int)[q.1]? = some x ∧ q.2.1 ≤ x ∧ x ≤ q.2.2 := hN.2.1.2
  have b1 : (0 : Int) ≤ s1 ∧ s1 ≤ (0 : Int) := ivX (q := (1, .ofNat 0, .ofNat 0)) (y := s1) (hIv _ (.tail _ (.head _))) rfl
  have b9 : (1 : Int) ≤ s9 ∧ s9 ≤ (1 : Int) := ivX (q := (9, .ofNat 1, .ofNat 1)) (y := s9) (hIv _ (.tail _ (.tail _ (.tail _ (.tail _ (.tail _ (.tail _ (.tail _ (.tail _ (.tail _ (.head _))))))))))) rfl
  have b12 : (8 : Int) ≤ s12 ∧ s12 ≤ (2147483647 : Int) := ivX (q := (12, .ofNat 8, .ofNat 2147483647)) (y := s12) (hIv _ (.tail _ (.tail _ (.tail _ (.tail _ (.tail _ (.tail _ (.tail _ (.tail _ (.tail _ (.tail _ (.tail _ (.tail _ (.head _)))))))))))))) rfl
  have hFc : ∀ q ∈ ([(119, [(.ofNat 0, [(.ofNat 1, 0)]), (.ofNat 0, [(.ofNat 1, 1)]), (.ofNat 0, [(.ofNat 1, 2)]), (.ofNat 0, [(.ofNat 1, 3)]), (.ofNat 0, [(.ofNat 1, 4)]), (.ofNat 0, [(.ofNat 1, 5)]), (.ofNat 0, [(.ofNat 1, 6)]), (.ofNat 0, [(.ofNat 1, 7)]), (.ofNat 0, [(.ofNat 1, 8)]), (.ofNat 0, [(.ofNat 1, 9)]), (.ofNat 0, [(.ofNat 1, 10)]), (.ofNat 0, [(.ofNat 1, 11)]), (.ofNat 0, [(.ofNat 1, 12)])])] : List sFc), fcOk fFS [s0, s1, s2, s3, s4, s5, s6, s7, s8, s9, s10, s11, s12] hp q := hH.2
  have f0 : Hq (MT hp) s0 s1 s2 s3 s4 s5 s6 s7 s8 s9 s10 s11 s12 := fcX (ys := [s0, s1, s2, s3, s4, s5, s6, s7, s8, s9, s10, s11, s12]) (hFc _ (.head _)) ⟨sE_V rfl, sE_V rfl, sE_V rfl, sE_V rfl, sE_V rfl, sE_V rfl, sE_V rfl, sE_V rfl, sE_V rfl, sE_V rfl, sE_V rfl, sE_V rfl, sE_V rfl, trivial⟩
  exact poX (.head _) rfl hR (all_nil) (all_nil) (all_cons ⟨[1, s10], ⟨sE_k _ _, sE_V rfl, trivial⟩, (show RS (MT hp) (1 : Int) s10 from h0_f1 (MT_ok hO) f0 (by omega) (by omega) (by omega))⟩ (all_nil))
theorem rl615 : ruOk fFS gR615 := by
  intro r hp hO hN hH
  obtain ⟨s0, s1, s2, s3, s4, s5, s6, s7, s8, s9, s10, s11, s12, s13, s14, s15, s16, s17, s18, s19, s20, s21, s22, rfl⟩ := len23 (show r.length = 23 from hN.1)
  have hR := hN.2.1.1
  have hIv : ∀ q ∈ ([(0, .negSucc 2147483647, .ofNat 2147483647), (1, .ofNat 0, .ofNat 0), (2, .negSucc 2147483647, .ofNat 2147483647), (3, .negSucc 2147483647, .ofNat 2147483647), (4, .negSucc 2147483647, .ofNat 2147483647), (5, .negSucc 2147483647, .ofNat 2147483647), (6, .negSucc 2147483647, .ofNat 2147483647), (7, .negSucc 2147483647, .ofNat 2147483647), (8, .negSucc 2147483647, .ofNat 2147483647), (9, .ofNat 1, .ofNat 1), (10, .negSucc 2147483647, .ofNat 2147483647), (11, .negSucc 2147483647, .ofNat 2147483647), (12, .ofNat 7, .ofNat 7), (13, .negSucc 2147483647, .ofNat 2147483647), (14, .negSucc 2147483647, .ofNat 2147483647), (15, .negSucc 2147483647, .ofNat 2147483647), (16, .ofNat 8, .ofNat 8), (17, .negSucc 2147483647, .ofNat 2147483647), (18, .negSucc 2147483647, .ofNat 2147483647), (19, .negSucc 2147483647, .ofNat 2147483647), (20, .negSucc 2147483647, .ofNat 2147483647), (21, .negSucc 2147483647, .ofNat 2147483647), (22, .negSucc 2147483647, .ofNat 2147483647)] : sIv), ∃ x, ([s0, s1, s2, s3, s4, s5, s6, s7, s8, s9, s10, s11, s12, s13, s14, s15, s16, s17, s18, s19, s20, s21, s22] : List Int)[q.1]? = some x ∧ q.2.1 ≤ x ∧ x ≤ q.2.2 := hN.2.1.2
  have b1 : (0 : Int) ≤ s1 ∧ s1 ≤ (0 : Int) := ivX (q := (1, .ofNat 0, .ofNat 0)) (y := s1) (hIv _ (.tail _ (.head _))) rfl
  have b9 : (1 : Int) ≤ s9 ∧ s9 ≤ (1 : Int) := ivX (q := (9, .ofNat 1, .ofNat 1)) (y := s9) (hIv _ (.tail _ (.tail _ (.tail _ (.tail _ (.tail _ (.tail _ (.tail _ (.tail _ (.tail _ (.head _))))))))))) rfl
  have b12 : (7 : Int) ≤ s12 ∧ s12 ≤ (7 : Int) := ivX (q := (12, .ofNat 7, .ofNat 7)) (y := s12) (hIv _ (.tail _ (.tail _ (.tail _ (.tail _ (.tail _ (.tail _ (.tail _ (.tail _ (.tail _ (.tail _ (.tail _ (.tail _ (.head _)))))))))))))) rfl
  have b16 : (8 : Int) ≤ s16 ∧ s16 ≤ (8 : Int) := ivX (q := (16, .ofNat 8, .ofNat 8)) (y := s16) (hIv _ (.tail _ (.tail _ (.tail _ (.tail _ (.tail _ (.tail _ (.tail _ (.tail _ (.tail _ (.tail _ (.tail _ (.tail _ (.tail _ (.tail _ (.tail _ (.tail _ (.head _)))))))))))))))))) rfl
  have hFc : ∀ q ∈ ([(119, [(.ofNat 0, [(.ofNat 1, 0)]), (.ofNat 0, [(.ofNat 1, 1)]), (.ofNat 0, [(.ofNat 1, 2)]), (.ofNat 0, [(.ofNat 1, 3)]), (.ofNat 0, [(.ofNat 1, 4)]), (.ofNat 0, [(.ofNat 1, 5)]), (.ofNat 0, [(.ofNat 1, 6)]), (.ofNat 0, [(.ofNat 1, 7)]), (.ofNat 0, [(.ofNat 1, 8)]), (.ofNat 0, [(.ofNat 1, 9)]), (.ofNat 0, [(.ofNat 1, 10)]), (.ofNat 0, [(.ofNat 1, 11)]), (.ofNat 0, [(.ofNat 1, 12)])]), (125, [(.ofNat 0, [(.ofNat 1, 2)]), (.ofNat 0, [(.ofNat 1, 13)]), (.ofNat 0, [(.ofNat 1, 14)]), (.ofNat 0, [(.ofNat 1, 15)]), (.ofNat 0, [(.ofNat 1, 16)]), (.ofNat 0, [(.ofNat 1, 17)]), (.ofNat 0, [(.ofNat 1, 18)]), (.ofNat 0, [(.ofNat 1, 19)]), (.ofNat 0, [(.ofNat 1, 20)]), (.ofNat 0, [(.ofNat 1, 21)]), (.ofNat 0, [(.ofNat 1, 22)])])] : List sFc), fcOk fFS [s0, s1, s2, s3, s4, s5, s6, s7, s8, s9, s10, s11, s12, s13, s14, s15, s16, s17, s18, s19, s20, s21, s22] hp q := hH.2
  have f0 : Hq (MT hp) s0 s1 s2 s3 s4 s5 s6 s7 s8 s9 s10 s11 s12 := fcX (ys := [s0, s1, s2, s3, s4, s5, s6, s7, s8, s9, s10, s11, s12]) (hFc _ (.head _)) ⟨sE_V rfl, sE_V rfl, sE_V rfl, sE_V rfl, sE_V rfl, sE_V rfl, sE_V rfl, sE_V rfl, sE_V rfl, sE_V rfl, sE_V rfl, sE_V rfl, sE_V rfl, trivial⟩
  have f1 : CT (MT hp) s2 s13 s14 s15 s16 s17 s18 s19 s20 s21 s22 := fcX (ys := [s2, s13, s14, s15, s16, s17, s18, s19, s20, s21, s22]) (hFc _ (.tail _ (.head _))) ⟨sE_V rfl, sE_V rfl, sE_V rfl, sE_V rfl, sE_V rfl, sE_V rfl, sE_V rfl, sE_V rfl, sE_V rfl, sE_V rfl, sE_V rfl, trivial⟩
  exact poX (.head _) rfl hR (all_nil) (all_nil) (all_cons ⟨[4, s10], ⟨sE_k _ _, sE_V rfl, trivial⟩, (show RS (MT hp) (4 : Int) s10 from ln_f7 (MT_ok hO) f0 (dF_mp f1 (fun D h => by unfold ctP at h; omega)) (by omega) (by omega) (by omega))⟩ (all_nil))
theorem rl616 : ruOk fFS gR616 := by
  intro r hp hO hN hH
  obtain ⟨s0, s1, s2, s3, s4, s5, s6, s7, s8, s9, s10, s11, s12, s13, s14, s15, s16, s17, s18, s19, s20, s21, s22, rfl⟩ := len23 (show r.length = 23 from hN.1)
  have hR := hN.2.1.1
  have hIv : ∀ q ∈ ([(0, .negSucc 2147483647, .ofNat 2147483647), (1, .ofNat 0, .ofNat 0), (2, .negSucc 2147483647, .ofNat 2147483647), (3, .negSucc 2147483647, .ofNat 2147483647), (4, .negSucc 2147483647, .ofNat 2147483647), (5, .negSucc 2147483647, .ofNat 2147483647), (6, .negSucc 2147483647, .ofNat 2147483647), (7, .negSucc 2147483647, .ofNat 2147483647), (8, .negSucc 2147483647, .ofNat 2147483647), (9, .ofNat 1, .ofNat 1), (10, .negSucc 2147483647, .ofNat 2147483647), (11, .negSucc 2147483647, .ofNat 2147483647), (12, .ofNat 7, .ofNat 7), (13, .negSucc 2147483647, .ofNat 2147483647), (14, .negSucc 2147483647, .ofNat 2147483647), (15, .negSucc 2147483647, .ofNat 2147483647), (16, .ofNat 0, .ofNat 7), (17, .negSucc 2147483647, .ofNat 2147483647), (18, .negSucc 2147483647, .ofNat 2147483647), (19, .negSucc 2147483647, .ofNat 2147483647), (20, .negSucc 2147483647, .ofNat 2147483647), (21, .negSucc 2147483647, .ofNat 2147483647), (22, .negSucc 2147483647, .ofNat 2147483647)] : sIv), ∃ x, ([s0, s1, s2, s3, s4, s5, s6, s7, s8, s9, s10, s11, s12, s13, s14, s15, s16, s17, s18, s19, s20, s21, s22] : List Int)[q.1]? = some x ∧ q.2.1 ≤ x ∧ x ≤ q.2.2 := hN.2.1.2
  have b1 : (0 : Int) ≤ s1 ∧ s1 ≤ (0 : Int) := ivX (q := (1, .ofNat 0, .ofNat 0)) (y := s1) (hIv _ (.tail _ (.head _))) rfl
  have b9 : (1 : Int) ≤ s9 ∧ s9 ≤ (1 : Int) := ivX (q := (9, .ofNat 1, .ofNat 1)) (y := s9) (hIv _ (.tail _ (.tail _ (.tail _ (.tail _ (.tail _ (.tail _ (.tail _ (.tail _ (.tail _ (.head _))))))))))) rfl
  have b12 : (7 : Int) ≤ s12 ∧ s12 ≤ (7 : Int) := ivX (q := (12, .ofNat 7, .ofNat 7)) (y := s12) (hIv _ (.tail _ (.tail _ (.tail _ (.tail _ (.tail _ (.tail _ (.tail _ (.tail _ (.tail _ (.tail _ (.tail _ (.tail _ (.head _)))))))))))))) rfl
  have b16 : (0 : Int) ≤ s16 ∧ s16 ≤ (7 : Int) := ivX (q := (16, .ofNat 0, .ofNat 7)) (y := s16) (hIv _ (.tail _ (.tail _ (.tail _ (.tail _ (.tail _ (.tail _ (.tail _ (.tail _ (.tail _ (.tail _ (.tail _ (.tail _ (.tail _ (.tail _ (.tail _ (.tail _ (.head _)))))))))))))))))) rfl
  have hFc : ∀ q ∈ ([(119, [(.ofNat 0, [(.ofNat 1, 0)]), (.ofNat 0, [(.ofNat 1, 1)]), (.ofNat 0, [(.ofNat 1, 2)]), (.ofNat 0, [(.ofNat 1, 3)]), (.ofNat 0, [(.ofNat 1, 4)]), (.ofNat 0, [(.ofNat 1, 5)]), (.ofNat 0, [(.ofNat 1, 6)]), (.ofNat 0, [(.ofNat 1, 7)]), (.ofNat 0, [(.ofNat 1, 8)]), (.ofNat 0, [(.ofNat 1, 9)]), (.ofNat 0, [(.ofNat 1, 10)]), (.ofNat 0, [(.ofNat 1, 11)]), (.ofNat 0, [(.ofNat 1, 12)])]), (125, [(.ofNat 0, [(.ofNat 1, 2)]), (.ofNat 0, [(.ofNat 1, 13)]), (.ofNat 0, [(.ofNat 1, 14)]), (.ofNat 0, [(.ofNat 1, 15)]), (.ofNat 0, [(.ofNat 1, 16)]), (.ofNat 0, [(.ofNat 1, 17)]), (.ofNat 0, [(.ofNat 1, 18)]), (.ofNat 0, [(.ofNat 1, 19)]), (.ofNat 0, [(.ofNat 1, 20)]), (.ofNat 0, [(.ofNat 1, 21)]), (.ofNat 0, [(.ofNat 1, 22)])])] : List sFc), fcOk fFS [s0, s1, s2, s3, s4, s5, s6, s7, s8, s9, s10, s11, s12, s13, s14, s15, s16, s17, s18, s19, s20, s21, s22] hp q := hH.2
  have f0 : Hq (MT hp) s0 s1 s2 s3 s4 s5 s6 s7 s8 s9 s10 s11 s12 := fcX (ys := [s0, s1, s2, s3, s4, s5, s6, s7, s8, s9, s10, s11, s12]) (hFc _ (.head _)) ⟨sE_V rfl, sE_V rfl, sE_V rfl, sE_V rfl, sE_V rfl, sE_V rfl, sE_V rfl, sE_V rfl, sE_V rfl, sE_V rfl, sE_V rfl, sE_V rfl, sE_V rfl, trivial⟩
  have f1 : CT (MT hp) s2 s13 s14 s15 s16 s17 s18 s19 s20 s21 s22 := fcX (ys := [s2, s13, s14, s15, s16, s17, s18, s19, s20, s21, s22]) (hFc _ (.tail _ (.head _))) ⟨sE_V rfl, sE_V rfl, sE_V rfl, sE_V rfl, sE_V rfl, sE_V rfl, sE_V rfl, sE_V rfl, sE_V rfl, sE_V rfl, sE_V rfl, trivial⟩
  obtain ⟨D, hG, hP⟩ := ln_g7 (P := ctP s13 s14 s15 s16 s17 s18 s19 s20 s21 s22) (MT_ok hO) f0 (dF_mp f1 (fun D h => ⟨by unfold ctP at h; omega, h⟩)) (by omega) (by omega) (by omega)
  exact poX (.head _) rfl hR (all_nil) (all_nil) (all_cons ⟨[s11, 23, s2, 0, 0, 0, 0, 0, 0], ⟨sE_V rfl, sE_k _ _, sE_V rfl, sE_k _ _, sE_k _ _, sE_k _ _, sE_k _ _, sE_k _ _, sE_k _ _, trivial⟩, (show Gq (MT hp) s11 (23 : Int) s2 (0 : Int) (0 : Int) (0 : Int) (0 : Int) (0 : Int) (0 : Int) from ⟨D, hG⟩)⟩ (all_nil))
theorem rl617 : ruOk fFS gR617 := by
  intro r hp hO hN hH
  obtain ⟨s0, s1, s2, s3, s4, s5, s6, s7, s8, s9, s10, s11, s12, rfl⟩ := len13 (show r.length = 13 from hN.1)
  have hR := hN.2.1.1
  have hIv : ∀ q ∈ ([(0, .negSucc 2147483647, .ofNat 2147483647), (1, .ofNat 23, .ofNat 23), (2, .negSucc 2147483647, .ofNat 2147483647), (3, .negSucc 2147483647, .ofNat 2147483647), (4, .negSucc 2147483647, .ofNat 2147483647), (5, .negSucc 2147483647, .ofNat 2147483647), (6, .negSucc 2147483647, .ofNat 2147483647), (7, .negSucc 2147483647, .ofNat 2147483647), (8, .negSucc 2147483647, .ofNat 2147483647), (9, .negSucc 2147483647, .ofNat 2147483647), (10, .negSucc 2147483647, .ofNat 2147483647), (11, .negSucc 2147483647, .ofNat 2147483647), (12, .negSucc 2147483647, .ofNat 2147483647)] : sIv), ∃ x, ([s0, s1, s2, s3, s4, s5, s6, s7, s8, s9, s10, s11, s12] : List Int)[q.1]? = some x ∧ q.2.1 ≤ x ∧ x ≤ q.2.2 := hN.2.1.2
  have b1 : (23 : Int) ≤ s1 ∧ s1 ≤ (23 : Int) := ivX (q := (1, .ofNat 23, .ofNat 23)) (y := s1) (hIv _ (.tail _ (.head _))) rfl
  have hFc : ∀ q ∈ ([(119, [(.ofNat 0, [(.ofNat 1, 0)]), (.ofNat 0, [(.ofNat 1, 1)]), (.ofNat 0, [(.ofNat 1, 2)]), (.ofNat 0, [(.ofNat 1, 3)]), (.ofNat 0, [(.ofNat 1, 4)]), (.ofNat 0, [(.ofNat 1, 5)]), (.ofNat 0, [(.ofNat 1, 6)]), (.ofNat 0, [(.ofNat 1, 7)]), (.ofNat 0, [(.ofNat 1, 8)]), (.ofNat 0, [(.ofNat 1, 9)]), (.ofNat 0, [(.ofNat 1, 10)]), (.ofNat 0, [(.ofNat 1, 11)]), (.ofNat 0, [(.ofNat 1, 12)])])] : List sFc), fcOk fFS [s0, s1, s2, s3, s4, s5, s6, s7, s8, s9, s10, s11, s12] hp q := hH.2
  have f0 : Hq (MT hp) s0 s1 s2 s3 s4 s5 s6 s7 s8 s9 s10 s11 s12 := fcX (ys := [s0, s1, s2, s3, s4, s5, s6, s7, s8, s9, s10, s11, s12]) (hFc _ (.head _)) ⟨sE_V rfl, sE_V rfl, sE_V rfl, sE_V rfl, sE_V rfl, sE_V rfl, sE_V rfl, sE_V rfl, sE_V rfl, sE_V rfl, sE_V rfl, sE_V rfl, sE_V rfl, trivial⟩
  obtain ⟨⟨D, hG⟩, -⟩ := f0
  exact poX (.head _) rfl hR (all_nil) (all_nil) (all_cons ⟨[s0], ⟨sE_V rfl, trivial⟩, (show EW (MT hp) s0 from ex_mk hG (by omega) (by omega) (by omega))⟩ (all_nil))
theorem rl618 : ruOk fFS gR618 := by
  intro r hp hO hN hH
  have hr0 := len0 (show r.length = 0 from hN.1)
  subst hr0
  have hR := hN.2.1.1
  exact poX (.head _) rfl hR (all_nil) (all_nil) (all_cons ⟨[495874305132, 8], ⟨sE_k _ _, sE_k _ _, trivial⟩, (show ∃ j : Nat, j < 30 ∧ (8 : Int) = (j : Int) ∧ (495874305132 : Int) = cd 256 0 (wrd j) from rw_k (j := 8) (by decide) (by decide) (by decide))⟩ (all_nil))
theorem rl619 : ruOk fFS gR619 := by
  intro r hp hO hN hH
  have hr0 := len0 (show r.length = 0 from hN.1)
  subst hr0
  have hR := hN.2.1.1
  exact poX (.head _) rfl hR (all_nil) (all_nil) (all_cons ⟨[474316174440, 9], ⟨sE_k _ _, sE_k _ _, trivial⟩, (show ∃ j : Nat, j < 30 ∧ (9 : Int) = (j : Int) ∧ (474316174440 : Int) = cd 256 0 (wrd j) from rw_k (j := 9) (by decide) (by decide) (by decide))⟩ (all_nil))
theorem rl620 : ruOk fFS gR620 := by
  intro r hp hO hN hH
  have hr0 := len0 (show r.length = 0 from hN.1)
  subst hr0
  have hR := hN.2.1.1
  exact poX (.head _) rfl hR (all_nil) (all_nil) (all_cons ⟨[1700885364, 10], ⟨sE_k _ _, sE_k _ _, trivial⟩, (show ∃ j : Nat, j < 30 ∧ (10 : Int) = (j : Int) ∧ (1700885364 : Int) = cd 256 0 (wrd j) from rw_k (j := 10) (by decide) (by decide) (by decide))⟩ (all_nil))
theorem rl621 : ruOk fFS gR621 := by
  intro r hp hO hN hH
  have hr0 := len0 (show r.length = 0 from hN.1)
  subst hr0
  have hR := hN.2.1.1
  exact poX (.head _) rfl hR (all_nil) (all_nil) (all_cons ⟨[495791207528, 11], ⟨sE_k _ _, sE_k _ _, trivial⟩, (show ∃ j : Nat, j < 30 ∧ (11 : Int) = (j : Int) ∧ (495791207528 : Int) = cd 256 0 (wrd j) from rw_k (j := 11) (by decide) (by decide) (by decide))⟩ (all_nil))
theorem rl622 : ruOk fFS gR622 := by
  intro r hp hO hN hH
  have hr0 := len0 (show r.length = 0 from hN.1)
  subst hr0
  have hR := hN.2.1.1
  exact poX (.head _) rfl hR (all_nil) (all_nil) (all_cons ⟨[2003137396, 12], ⟨sE_k _ _, sE_k _ _, trivial⟩, (show ∃ j : Nat, j < 30 ∧ (12 : Int) = (j : Int) ∧ (2003137396 : Int) = cd 256 0 (wrd j) from rw_k (j := 12) (by decide) (by decide) (by decide))⟩ (all_nil))
theorem rl623 : ruOk fFS gR623 := by
  intro r hp hO hN hH
  obtain ⟨s0, s1, s2, s3, s4, s5, s6, s7, s8, s9, s10, s11, s12, rfl⟩ := len13 (show r.length = 13 from hN.1)
  have hR := hN.2.1.1
  have hIv : ∀ q ∈ ([(0, .negSucc 2147483647, .ofNat 2147483647), (1, .negSucc 2147483647, .ofNat 2147483647), (2, .negSucc 2147483647, .ofNat 2147483647), (3, .negSucc 2147483647, .ofNat 2147483647), (4, .negSucc 2147483647, .ofNat 2147483647), (5, .negSucc 2147483647, .ofNat 2147483647), (6, .negSucc 2147483647, .ofNat 2147483647), (7, .negSucc 2147483647, .ofNat 2147483647), (8, .negSucc 2147483647, .ofNat 2147483647), (9, .ofNat 0, .ofNat 0), (10, .negSucc 2147483647, .ofNat 2147483647), (11, .negSucc 2147483647, .ofNat 2147483647), (12, .negSucc 2147483647, .ofNat 2147483647)] : sIv), ∃ x, ([s0, s1, s2, s3, s4, s5, s6, s7, s8, s9, s10, s11, s12] : List Int)[q.1]? = some x ∧ q.2.1 ≤ x ∧ x ≤ q.2.2 := hN.2.1.2
  have b9 : (0 : Int) ≤ s9 ∧ s9 ≤ (0 : Int) := ivX (q := (9, .ofNat 0, .ofNat 0)) (y := s9) (hIv _ (.tail _ (.tail _ (.tail _ (.tail _ (.tail _ (.tail _ (.tail _ (.tail _ (.tail _ (.head _))))))))))) rfl
  have hFc : ∀ q ∈ ([(119, [(.ofNat 0, [(.ofNat 1, 0)]), (.ofNat 0, [(.ofNat 1, 1)]), (.ofNat 0, [(.ofNat 1, 2)]), (.ofNat 0, [(.ofNat 1, 3)]), (.ofNat 0, [(.ofNat 1, 4)]), (.ofNat 0, [(.ofNat 1, 5)]), (.ofNat 0, [(.ofNat 1, 6)]), (.ofNat 0, [(.ofNat 1, 7)]), (.ofNat 0, [(.ofNat 1, 8)]), (.ofNat 0, [(.ofNat 1, 9)]), (.ofNat 0, [(.ofNat 1, 10)]), (.ofNat 0, [(.ofNat 1, 11)]), (.ofNat 0, [(.ofNat 1, 12)])]), (122, [(.ofNat 0, [(.ofNat 1, 0)])])] : List sFc), fcOk fFS [s0, s1, s2, s3, s4, s5, s6, s7, s8, s9, s10, s11, s12] hp q := hH.2
  have f0 : Hq (MT hp) s0 s1 s2 s3 s4 s5 s6 s7 s8 s9 s10 s11 s12 := fcX (ys := [s0, s1, s2, s3, s4, s5, s6, s7, s8, s9, s10, s11, s12]) (hFc _ (.head _)) ⟨sE_V rfl, sE_V rfl, sE_V rfl, sE_V rfl, sE_V rfl, sE_V rfl, sE_V rfl, sE_V rfl, sE_V rfl, sE_V rfl, sE_V rfl, sE_V rfl, sE_V rfl, trivial⟩
  have f1 : EW (MT hp) s0 := fcX (ys := [s0]) (hFc _ (.tail _ (.head _))) ⟨sE_V rfl, trivial⟩
  exact poX (.head _) rfl hR (all_nil) (all_nil) (all_cons ⟨[1, s10], ⟨sE_k _ _, sE_V rfl, trivial⟩, (show RS (MT hp) (1 : Int) s10 from ew_f1 (MT_ok hO) f0 f1 (by omega))⟩ (all_nil))
theorem rl624 : ruOk fFS gR624 := by
  intro r hp hO hN hH
  obtain ⟨s0, s1, s2, s3, s4, s5, s6, s7, s8, s9, s10, s11, s12, rfl⟩ := len13 (show r.length = 13 from hN.1)
  have hR := hN.2.1.1
  have hIv : ∀ q ∈ ([(0, .negSucc 2147483647, .ofNat 2147483647), (1, .negSucc 2147483647, .ofNat 2147483647), (2, .negSucc 2147483647, .ofNat 2147483647), (3, .negSucc 2147483647, .ofNat 2147483647), (4, .negSucc 2147483647, .ofNat 2147483647), (5, .negSucc 2147483647, .ofNat 2147483647), (6, .negSucc 2147483647, .ofNat 2147483647), (7, .negSucc 2147483647, .ofNat 2147483647), (8, .negSucc 2147483647, .ofNat 2147483647), (9, .ofNat 2, .ofNat 4), (10, .negSucc 2147483647, .ofNat 2147483647), (11, .negSucc 2147483647, .ofNat 2147483647), (12, .negSucc 2147483647, .ofNat 2147483647)] : sIv), ∃ x, ([s0, s1, s2, s3, s4, s5, s6, s7, s8, s9, s10, s11, s12] : List Int)[q.1]? = some x ∧ q.2.1 ≤ x ∧ x ≤ q.2.2 := hN.2.1.2
  have b9 : (2 : Int) ≤ s9 ∧ s9 ≤ (4 : Int) := ivX (q := (9, .ofNat 2, .ofNat 4)) (y := s9) (hIv _ (.tail _ (.tail _ (.tail _ (.tail _ (.tail _ (.tail _ (.tail _ (.tail _ (.tail _ (.head _))))))))))) rfl
  have hFc : ∀ q ∈ ([(119, [(.ofNat 0, [(.ofNat 1, 0)]), (.ofNat 0, [(.ofNat 1, 1)]), (.ofNat 0, [(.ofNat 1, 2)]), (.ofNat 0, [(.ofNat 1, 3)]), (.ofNat 0, [(.ofNat 1, 4)]), (.ofNat 0, [(.ofNat 1, 5)]), (.ofNat 0, [(.ofNat 1, 6)]), (.ofNat 0, [(.ofNat 1, 7)]), (.ofNat 0, [(.ofNat 1, 8)]), (.ofNat 0, [(.ofNat 1, 9)]), (.ofNat 0, [(.ofNat 1, 10)]), (.ofNat 0, [(.ofNat 1, 11)]), (.ofNat 0, [(.ofNat 1, 12)])]), (122, [(.ofNat 0, [(.ofNat 1, 0)])])] : List sFc), fcOk fFS [s0, s1, s2, s3, s4, s5, s6, s7, s8, s9, s10, s11, s12] hp q := hH.2
  have f0 : Hq (MT hp) s0 s1 s2 s3 s4 s5 s6 s7 s8 s9 s10 s11 s12 := fcX (ys := [s0, s1, s2, s3, s4, s5, s6, s7, s8, s9, s10, s11, s12]) (hFc _ (.head _)) ⟨sE_V rfl, sE_V rfl, sE_V rfl, sE_V rfl, sE_V rfl, sE_V rfl, sE_V rfl, sE_V rfl, sE_V rfl, sE_V rfl, sE_V rfl, sE_V rfl, sE_V rfl, trivial⟩
  have f1 : EW (MT hp) s0 := fcX (ys := [s0]) (hFc _ (.tail _ (.head _))) ⟨sE_V rfl, trivial⟩
  exact poX (.head _) rfl hR (all_nil) (all_nil) (all_cons ⟨[1, s10], ⟨sE_k _ _, sE_V rfl, trivial⟩, (show RS (MT hp) (1 : Int) s10 from ew_f1 (MT_ok hO) f0 f1 (by omega))⟩ (all_nil))
theorem rl625 : ruOk fFS gR625 := by
  intro r hp hO hN hH
  obtain ⟨s0, s1, s2, s3, s4, s5, s6, rfl⟩ := len7 (show r.length = 7 from hN.1)
  have hR := hN.2.1.1
  have hIv : ∀ q ∈ ([(0, .negSucc 2147483647, .ofNat 2147483647), (1, .ofNat 1, .ofNat 1), (2, .negSucc 2147483647, .ofNat 2147483647), (3, .ofNat 0, .ofNat 0), (4, .negSucc 2147483647, .ofNat 2147483647), (5, .negSucc 2147483647, .ofNat 2147483647), (6, .negSucc 2147483647, .ofNat 2147483647)] : sIv), ∃ x, ([s0, s1, s2, s3, s4, s5, s6] : List Int)[q.1]? = some x ∧ q.2.1 ≤ x ∧ x ≤ q.2.2 := hN.2.1.2
  have b1 : (1 : Int) ≤ s1 ∧ s1 ≤ (1 : Int) := ivX (q := (1, .ofNat 1, .ofNat 1)) (y := s1) (hIv _ (.tail _ (.head _))) rfl
  have b3 : (0 : Int) ≤ s3 ∧ s3 ≤ (0 : Int) := ivX (q := (3, .ofNat 0, .ofNat 0)) (y := s3) (hIv _ (.tail _ (.tail _ (.tail _ (.head _))))) rfl
  have hFc : ∀ q ∈ ([(250, [(.ofNat 0, [(.ofNat 1, 0)]), (.ofNat 0, [(.ofNat 1, 1)]), (.ofNat 0, [(.ofNat 1, 2)]), (.ofNat 0, [(.ofNat 1, 3)]), (.ofNat 0, [(.ofNat 1, 4)]), (.ofNat 0, [(.ofNat 1, 5)]), (.ofNat 0, [(.ofNat 1, 6)])])] : List sFc), fcOk fFS [s0, s1, s2, s3, s4, s5, s6] hp q := hH.2
  have f0 : roH (MT hp) (nmM hp) (hI hp 275 0) (hI hp 275 1) s0 s1 s2 s3 s4 s5 s6 := fcX (ys := [s0, s1, s2, s3, s4, s5, s6]) (hFc _ (.head _)) ⟨sE_V rfl, sE_V rfl, sE_V rfl, sE_V rfl, sE_V rfl, sE_V rfl, sE_V rfl, trivial⟩
  exact poX (.head _) rfl hR (all_nil) (all_nil) (all_cons ⟨[1, s4], ⟨sE_k _ _, sE_V rfl, trivial⟩, (show roS (MT hp) (nmM hp) (hI hp 275 0) (hI hp 275 1) (1 : Int) s4 from ro1_f1 f0 (by omega) (by omega))⟩ (all_nil))
theorem rl626 : ruOk fFS gR626 := by
  intro r hp hO hN hH
  obtain ⟨s0, s1, s2, s3, s4, s5, s6, rfl⟩ := len7 (show r.length = 7 from hN.1)
  have hR := hN.2.1.1
  have hIv : ∀ q ∈ ([(0, .negSucc 2147483647, .ofNat 2147483647), (1, .ofNat 1, .ofNat 1), (2, .negSucc 2147483647, .ofNat 2147483647), (3, .ofNat 2, .ofNat 4), (4, .negSucc 2147483647, .ofNat 2147483647), (5, .negSucc 2147483647, .ofNat 2147483647), (6, .negSucc 2147483647, .ofNat 2147483647)] : sIv), ∃ x, ([s0, s1, s2, s3, s4, s5, s6] : List Int)[q.1]? = some x ∧ q.2.1 ≤ x ∧ x ≤ q.2.2 := hN.2.1.2
  have b1 : (1 : Int) ≤ s1 ∧ s1 ≤ (1 : Int) := ivX (q := (1, .ofNat 1, .ofNat 1)) (y := s1) (hIv _ (.tail _ (.head _))) rfl
  have b3 : (2 : Int) ≤ s3 ∧ s3 ≤ (4 : Int) := ivX (q := (3, .ofNat 2, .ofNat 4)) (y := s3) (hIv _ (.tail _ (.tail _ (.tail _ (.head _))))) rfl
  have hFc : ∀ q ∈ ([(250, [(.ofNat 0, [(.ofNat 1, 0)]), (.ofNat 0, [(.ofNat 1, 1)]), (.ofNat 0, [(.ofNat 1, 2)]), (.ofNat 0, [(.ofNat 1, 3)]), (.ofNat 0, [(.ofNat 1, 4)]), (.ofNat 0, [(.ofNat 1, 5)]), (.ofNat 0, [(.ofNat 1, 6)])])] : List sFc), fcOk fFS [s0, s1, s2, s3, s4, s5, s6] hp q := hH.2
  have f0 : roH (MT hp) (nmM hp) (hI hp 275 0) (hI hp 275 1) s0 s1 s2 s3 s4 s5 s6 := fcX (ys := [s0, s1, s2, s3, s4, s5, s6]) (hFc _ (.head _)) ⟨sE_V rfl, sE_V rfl, sE_V rfl, sE_V rfl, sE_V rfl, sE_V rfl, sE_V rfl, trivial⟩
  exact poX (.head _) rfl hR (all_nil) (all_nil) (all_cons ⟨[1, s4], ⟨sE_k _ _, sE_V rfl, trivial⟩, (show roS (MT hp) (nmM hp) (hI hp 275 0) (hI hp 275 1) (1 : Int) s4 from ro1_f1 f0 (by omega) (by omega))⟩ (all_nil))
theorem rl627 : ruOk fFS gR627 := by
  intro r hp hO hN hH
  obtain ⟨s0, s1, s2, s3, s4, s5, s6, rfl⟩ := len7 (show r.length = 7 from hN.1)
  have hR := hN.2.1.1
  have hIv : ∀ q ∈ ([(0, .negSucc 2147483647, .ofNat 2147483647), (1, .ofNat 1, .ofNat 1), (2, .negSucc 2147483647, .ofNat 2147483647), (3, .ofNat 1, .ofNat 1), (4, .negSucc 2147483647, .ofNat 2147483647), (5, .negSucc 2147483647, .ofNat 2147483647), (6, .negSucc 0, .ofNat 7)] : sIv), ∃ x, ([s0, s1, s2, s3, s4, s5, s6] : List Int)[q.1]? = some x ∧ q.2.1 ≤ x ∧ x ≤ q.2.2 := hN.2.1.2
  have b1 : (1 : Int) ≤ s1 ∧ s1 ≤ (1 : Int) := ivX (q := (1, .ofNat 1, .ofNat 1)) (y := s1) (hIv _ (.tail _ (.head _))) rfl
  have b3 : (1 : Int) ≤ s3 ∧ s3 ≤ (1 : Int) := ivX (q := (3, .ofNat 1, .ofNat 1)) (y := s3) (hIv _ (.tail _ (.tail _ (.tail _ (.head _))))) rfl
  have b6 : (-1 : Int) ≤ s6 ∧ s6 ≤ (7 : Int) := ivX (q := (6, .negSucc 0, .ofNat 7)) (y := s6) (hIv _ (.tail _ (.tail _ (.tail _ (.tail _ (.tail _ (.tail _ (.head _)))))))) rfl
  have hFc : ∀ q ∈ ([(250, [(.ofNat 0, [(.ofNat 1, 0)]), (.ofNat 0, [(.ofNat 1, 1)]), (.ofNat 0, [(.ofNat 1, 2)]), (.ofNat 0, [(.ofNat 1, 3)]), (.ofNat 0, [(.ofNat 1, 4)]), (.ofNat 0, [(.ofNat 1, 5)]), (.ofNat 0, [(.ofNat 1, 6)])])] : List sFc), fcOk fFS [s0, s1, s2, s3, s4, s5, s6] hp q := hH.2
  have f0 : roH (MT hp) (nmM hp) (hI hp 275 0) (hI hp 275 1) s0 s1 s2 s3 s4 s5 s6 := fcX (ys := [s0, s1, s2, s3, s4, s5, s6]) (hFc _ (.head _)) ⟨sE_V rfl, sE_V rfl, sE_V rfl, sE_V rfl, sE_V rfl, sE_V rfl, sE_V rfl, trivial⟩
  exact poX (.head _) rfl hR (all_nil) (all_nil) (all_cons ⟨[1, s4], ⟨sE_k _ _, sE_V rfl, trivial⟩, (show roS (MT hp) (nmM hp) (hI hp 275 0) (hI hp 275 1) (1 : Int) s4 from ro1_f1 f0 (by omega) (by omega))⟩ (all_nil))
theorem rl628 : ruOk fFS gR628 := by
  intro r hp hO hN hH
  obtain ⟨s0, s1, s2, s3, s4, s5, s6, rfl⟩ := len7 (show r.length = 7 from hN.1)
  have hR := hN.2.1.1
  have hIv : ∀ q ∈ ([(0, .negSucc 2147483647, .ofNat 2147483647), (1, .ofNat 1, .ofNat 1), (2, .negSucc 2147483647, .ofNat 2147483647), (3, .ofNat 1, .ofNat 1), (4, .negSucc 2147483647, .ofNat 2147483647), (5, .negSucc 2147483647, .ofNat 2147483647), (6, .ofNat 13, .ofNat 29)] : sIv), ∃ x, ([s0, s1, s2, s3, s4, s5, s6] : List Int)[q.1]? = some x ∧ q.2.1 ≤ x ∧ x ≤ q.2.2 := hN.2.1.2
  have b1 : (1 : Int) ≤ s1 ∧ s1 ≤ (1 : Int) := ivX (q := (1, .ofNat 1, .ofNat 1)) (y := s1) (hIv _ (.tail _ (.head _))) rfl
  have b3 : (1 : Int) ≤ s3 ∧ s3 ≤ (1 : Int) := ivX (q := (3, .ofNat 1, .ofNat 1)) (y := s3) (hIv _ (.tail _ (.tail _ (.tail _ (.head _))))) rfl
  have b6 : (13 : Int) ≤ s6 ∧ s6 ≤ (29 : Int) := ivX (q := (6, .ofNat 13, .ofNat 29)) (y := s6) (hIv _ (.tail _ (.tail _ (.tail _ (.tail _ (.tail _ (.tail _ (.head _)))))))) rfl
  have hFc : ∀ q ∈ ([(250, [(.ofNat 0, [(.ofNat 1, 0)]), (.ofNat 0, [(.ofNat 1, 1)]), (.ofNat 0, [(.ofNat 1, 2)]), (.ofNat 0, [(.ofNat 1, 3)]), (.ofNat 0, [(.ofNat 1, 4)]), (.ofNat 0, [(.ofNat 1, 5)]), (.ofNat 0, [(.ofNat 1, 6)])])] : List sFc), fcOk fFS [s0, s1, s2, s3, s4, s5, s6] hp q := hH.2
  have f0 : roH (MT hp) (nmM hp) (hI hp 275 0) (hI hp 275 1) s0 s1 s2 s3 s4 s5 s6 := fcX (ys := [s0, s1, s2, s3, s4, s5, s6]) (hFc _ (.head _)) ⟨sE_V rfl, sE_V rfl, sE_V rfl, sE_V rfl, sE_V rfl, sE_V rfl, sE_V rfl, trivial⟩
  exact poX (.head _) rfl hR (all_nil) (all_nil) (all_cons ⟨[1, s4], ⟨sE_k _ _, sE_V rfl, trivial⟩, (show roS (MT hp) (nmM hp) (hI hp 275 0) (hI hp 275 1) (1 : Int) s4 from ro1_f1 f0 (by omega) (by omega))⟩ (all_nil))
theorem rl629 : ruOk fFS gR629 := by
  intro r hp hO hN hH
  obtain ⟨s0, s1, s2, s3, s4, s5, s6, s7, s8, s9, s10, s11, s12, rfl⟩ := len13 (show r.length = 13 from hN.1)
  have hR := hN.2.1.1
  have hIv : ∀ q ∈ ([(0, .negSucc 2147483647, .ofNat 2147483647), (1, .negSucc 2147483647, .ofNat 2147483647), (2, .negSucc 2147483647, .ofNat 2147483647), (3, .negSucc 2147483647, .ofNat 2147483647), (4, .negSucc 2147483647, .ofNat 2147483647), (5, .negSucc 2147483647, .ofNat 2147483647), (6, .negSucc 2147483647, .ofNat 2147483647), (7, .negSucc 2147483647, .ofNat 2147483647), (8, .negSucc 2147483647, .ofNat 2147483647), (9, .ofNat 1, .ofNat 1), (10, .negSucc 2147483647, .ofNat 2147483647), (11, .negSucc 2147483647, .ofNat 2147483647), (12, .negSucc 0, .ofNat 7)] : sIv), ∃ x, ([s0, s1, s2, s3, s4, s5, s6, s7, s8, s9, s10, s11, s12] : List Int)[q.1]? = some x ∧ q.2.1 ≤ x ∧ x ≤ q.2.2 := hN.2.1.2
  have b9 : (1 : Int) ≤ s9 ∧ s9 ≤ (1 : Int) := ivX (q := (9, .ofNat 1, .ofNat 1)) (y := s9) (hIv _ (.tail _ (.tail _ (.tail _ (.tail _ (.tail _ (.tail _ (.tail _ (.tail _ (.tail _ (.head _))))))))))) rfl
  have b12 : (-1 : Int) ≤ s12 ∧ s12 ≤ (7 : Int) := ivX (q := (12, .negSucc 0, .ofNat 7)) (y := s12) (hIv _ (.tail _ (.tail _ (.tail _ (.tail _ (.tail _ (.tail _ (.tail _ (.tail _ (.tail _ (.tail _ (.tail _ (.tail _ (.head _)))))))))))))) rfl
  have hFc : ∀ q ∈ ([(119, [(.ofNat 0, [(.ofNat 1, 0)]), (.ofNat 0, [(.ofNat 1, 1)]), (.ofNat 0, [(.ofNat 1, 2)]), (.ofNat 0, [(.ofNat 1, 3)]), (.ofNat 0, [(.ofNat 1, 4)]), (.ofNat 0, [(.ofNat 1, 5)]), (.ofNat 0, [(.ofNat 1, 6)]), (.ofNat 0, [(.ofNat 1, 7)]), (.ofNat 0, [(.ofNat 1, 8)]), (.ofNat 0, [(.ofNat 1, 9)]), (.ofNat 0, [(.ofNat 1, 10)]), (.ofNat 0, [(.ofNat 1, 11)]), (.ofNat 0, [(.ofNat 1, 12)])]), (122, [(.ofNat 0, [(.ofNat 1, 0)])])] : List sFc), fcOk fFS [s0, s1, s2, s3, s4, s5, s6, s7, s8, s9, s10, s11, s12] hp q := hH.2
  have f0 : Hq (MT hp) s0 s1 s2 s3 s4 s5 s6 s7 s8 s9 s10 s11 s12 := fcX (ys := [s0, s1, s2, s3, s4, s5, s6, s7, s8, s9, s10, s11, s12]) (hFc _ (.head _)) ⟨sE_V rfl, sE_V rfl, sE_V rfl, sE_V rfl, sE_V rfl, sE_V rfl, sE_V rfl, sE_V rfl, sE_V rfl, sE_V rfl, sE_V rfl, sE_V rfl, sE_V rfl, trivial⟩
  have f1 : EW (MT hp) s0 := fcX (ys := [s0]) (hFc _ (.tail _ (.head _))) ⟨sE_V rfl, trivial⟩
  exact poX (.head _) rfl hR (all_nil) (all_nil) (all_cons ⟨[1, s10], ⟨sE_k _ _, sE_V rfl, trivial⟩, (show RS (MT hp) (1 : Int) s10 from ew_f1 (MT_ok hO) f0 f1 (by omega))⟩ (all_nil))
theorem rl630 : ruOk fFS gR630 := by
  intro r hp hO hN hH
  obtain ⟨s0, s1, s2, s3, s4, s5, s6, s7, s8, s9, s10, s11, s12, rfl⟩ := len13 (show r.length = 13 from hN.1)
  have hR := hN.2.1.1
  have hIv : ∀ q ∈ ([(0, .negSucc 2147483647, .ofNat 2147483647), (1, .negSucc 2147483647, .ofNat 2147483647), (2, .negSucc 2147483647, .ofNat 2147483647), (3, .negSucc 2147483647, .ofNat 2147483647), (4, .negSucc 2147483647, .ofNat 2147483647), (5, .negSucc 2147483647, .ofNat 2147483647), (6, .negSucc 2147483647, .ofNat 2147483647), (7, .negSucc 2147483647, .ofNat 2147483647), (8, .negSucc 2147483647, .ofNat 2147483647), (9, .ofNat 1, .ofNat 1), (10, .negSucc 2147483647, .ofNat 2147483647), (11, .negSucc 2147483647, .ofNat 2147483647), (12, .ofNat 13, .ofNat 2147483647)] : sIv), ∃ x, ([s0, s1, s2, s3, s4, s5, s6, s7, s8, s9, s10, s11, s12] : List Int)[q.1]? = some x ∧ q.2.1 ≤ x ∧ x ≤ q.2.2 := hN.2.1.2
  have b9 : (1 : Int) ≤ s9 ∧ s9 ≤ (1 : Int) := ivX (q := (9, .ofNat 1, .ofNat 1)) (y := s9) (hIv _ (.tail _ (.tail _ (.tail _ (.tail _ (.tail _ (.tail _ (.tail _ (.tail _ (.tail _ (.head _))))))))))) rfl
  have b12 : (13 : Int) ≤ s12 ∧ s12 ≤ (2147483647 : Int) := ivX (q := (12, .ofNat 13, .ofNat 2147483647)) (y := s12) (hIv _ (.tail _ (.tail _ (.tail _ (.tail _ (.tail _ (.tail _ (.tail _ (.tail _ (.tail _ (.tail _ (.tail _ (.tail _ (.head _)))))))))))))) rfl
  have hFc : ∀ q ∈ ([(119, [(.ofNat 0, [(.ofNat 1, 0)]), (.ofNat 0, [(.ofNat 1, 1)]), (.ofNat 0, [(.ofNat 1, 2)]), (.ofNat 0, [(.ofNat 1, 3)]), (.ofNat 0, [(.ofNat 1, 4)]), (.ofNat 0, [(.ofNat 1, 5)]), (.ofNat 0, [(.ofNat 1, 6)]), (.ofNat 0, [(.ofNat 1, 7)]), (.ofNat 0, [(.ofNat 1, 8)]), (.ofNat 0, [(.ofNat 1, 9)]), (.ofNat 0, [(.ofNat 1, 10)]), (.ofNat 0, [(.ofNat 1, 11)]), (.ofNat 0, [(.ofNat 1, 12)])]), (122, [(.ofNat 0, [(.ofNat 1, 0)])])] : List sFc), fcOk fFS [s0, s1, s2, s3, s4, s5, s6, s7, s8, s9, s10, s11, s12] hp q := hH.2
  have f0 : Hq (MT hp) s0 s1 s2 s3 s4 s5 s6 s7 s8 s9 s10 s11 s12 := fcX (ys := [s0, s1, s2, s3, s4, s5, s6, s7, s8, s9, s10, s11, s12]) (hFc _ (.head _)) ⟨sE_V rfl, sE_V rfl, sE_V rfl, sE_V rfl, sE_V rfl, sE_V rfl, sE_V rfl, sE_V rfl, sE_V rfl, sE_V rfl, sE_V rfl, sE_V rfl, sE_V rfl, trivial⟩
  have f1 : EW (MT hp) s0 := fcX (ys := [s0]) (hFc _ (.tail _ (.head _))) ⟨sE_V rfl, trivial⟩
  exact poX (.head _) rfl hR (all_nil) (all_nil) (all_cons ⟨[1, s10], ⟨sE_k _ _, sE_V rfl, trivial⟩, (show RS (MT hp) (1 : Int) s10 from ew_f1 (MT_ok hO) f0 f1 (by omega))⟩ (all_nil))
theorem rl631 : ruOk fFS gR631 := by
  intro r hp hO hN hH
  obtain ⟨s0, s1, s2, s3, s4, s5, s6, s7, s8, s9, s10, s11, s12, rfl⟩ := len13 (show r.length = 13 from hN.1)
  have hR := hN.2.1.1
  have hIv : ∀ q ∈ ([(0, .negSucc 2147483647, .ofNat 2147483647), (1, .ofNat 23, .ofNat 23), (2, .negSucc 2147483647, .ofNat 2147483647), (3, .negSucc 2147483647, .ofNat 2147483647), (4, .negSucc 2147483647, .ofNat 2147483647), (5, .negSucc 2147483647, .ofNat 2147483647), (6, .negSucc 2147483647, .ofNat 2147483647), (7, .negSucc 2147483647, .ofNat 2147483647), (8, .negSucc 2147483647, .ofNat 2147483647), (9, .ofNat 1, .ofNat 1), (10, .negSucc 2147483647, .ofNat 2147483647), (11, .negSucc 2147483647, .ofNat 2147483647), (12, .ofNat 8, .ofNat 8)] : sIv), ∃ x, ([s0, s1, s2, s3, s4, s5, s6, s7, s8, s9, s10, s11, s12] : List Int)[q.1]? = some x ∧ q.2.1 ≤ x ∧ x ≤ q.2.2 := hN.2.1.2
  have b1 : (23 : Int) ≤ s1 ∧ s1 ≤ (23 : Int) := ivX (q := (1, .ofNat 23, .ofNat 23)) (y := s1) (hIv _ (.tail _ (.head _))) rfl
  have b9 : (1 : Int) ≤ s9 ∧ s9 ≤ (1 : Int) := ivX (q := (9, .ofNat 1, .ofNat 1)) (y := s9) (hIv _ (.tail _ (.tail _ (.tail _ (.tail _ (.tail _ (.tail _ (.tail _ (.tail _ (.tail _ (.head _))))))))))) rfl
  have b12 : (8 : Int) ≤ s12 ∧ s12 ≤ (8 : Int) := ivX (q := (12, .ofNat 8, .ofNat 8)) (y := s12) (hIv _ (.tail _ (.tail _ (.tail _ (.tail _ (.tail _ (.tail _ (.tail _ (.tail _ (.tail _ (.tail _ (.tail _ (.tail _ (.head _)))))))))))))) rfl
  have hRf : ∀ q ∈ ([((78, .ofNat 273, []), (.ofNat 21, []), 1, .ofNat 0, [])] : List sRf), rfOk [s0, s1, s2, s3, s4, s5, s6, s7, s8, s9, s10, s11, s12] hp q := hH.1
  have h0 : hI hp 273 21 = 0 := rfI0 (hRf _ (.head _)) (sE_k _ _) (sE_k _ _) (sE_k _ _)
  have hFc : ∀ q ∈ ([(119, [(.ofNat 0, [(.ofNat 1, 0)]), (.ofNat 0, [(.ofNat 1, 1)]), (.ofNat 0, [(.ofNat 1, 2)]), (.ofNat 0, [(.ofNat 1, 3)]), (.ofNat 0, [(.ofNat 1, 4)]), (.ofNat 0, [(.ofNat 1, 5)]), (.ofNat 0, [(.ofNat 1, 6)]), (.ofNat 0, [(.ofNat 1, 7)]), (.ofNat 0, [(.ofNat 1, 8)]), (.ofNat 0, [(.ofNat 1, 9)]), (.ofNat 0, [(.ofNat 1, 10)]), (.ofNat 0, [(.ofNat 1, 11)]), (.ofNat 0, [(.ofNat 1, 12)])]), (122, [(.ofNat 0, [(.ofNat 1, 0)])])] : List sFc), fcOk fFS [s0, s1, s2, s3, s4, s5, s6, s7, s8, s9, s10, s11, s12] hp q := hH.2
  have f0 : Hq (MT hp) s0 s1 s2 s3 s4 s5 s6 s7 s8 s9 s10 s11 s12 := fcX (ys := [s0, s1, s2, s3, s4, s5, s6, s7, s8, s9, s10, s11, s12]) (hFc _ (.head _)) ⟨sE_V rfl, sE_V rfl, sE_V rfl, sE_V rfl, sE_V rfl, sE_V rfl, sE_V rfl, sE_V rfl, sE_V rfl, sE_V rfl, sE_V rfl, sE_V rfl, sE_V rfl, trivial⟩
  have f1 : EW (MT hp) s0 := fcX (ys := [s0]) (hFc _ (.tail _ (.head _))) ⟨sE_V rfl, trivial⟩
  obtain ⟨D, hG⟩ := hW23 (x := 0) (MT_ok hO) f0 (by omega) (by omega) (by omega) (by omega) (by omega)
  exact poX (.head _) rfl hR (all_nil) (all_nil) (all_cons ⟨[s11, 24, s2, 0, 0, 0, 0, 0, 0], ⟨sE_V rfl, sE_k _ _, sE_V rfl, sE_k _ _, sE_k _ _, sE_k _ _, sE_k _ _, sE_k _ _, sE_k _ _, trivial⟩, (show Gq (MT hp) s11 (24 : Int) s2 (0 : Int) (0 : Int) (0 : Int) (0 : Int) (0 : Int) (0 : Int) from ⟨D, hG⟩)⟩ (all_nil))
theorem rl632 : ruOk fFS gR632 := by
  intro r hp hO hN hH
  obtain ⟨s0, s1, s2, s3, s4, s5, s6, s7, s8, s9, s10, s11, s12, rfl⟩ := len13 (show r.length = 13 from hN.1)
  have hR := hN.2.1.1
  have hIv : ∀ q ∈ ([(0, .negSucc 2147483647, .ofNat 2147483647), (1, .ofNat 23, .ofNat 23), (2, .negSucc 2147483647, .ofNat 2147483647), (3, .negSucc 2147483647, .ofNat 2147483647), (4, .negSucc 2147483647, .ofNat 2147483647), (5, .negSucc 2147483647, .ofNat 2147483647), (6, .negSucc 2147483647, .ofNat 2147483647), (7, .negSucc 2147483647, .ofNat 2147483647), (8, .negSucc 2147483647, .ofNat 2147483647), (9, .ofNat 1, .ofNat 1), (10, .negSucc 2147483647, .ofNat 2147483647), (11, .negSucc 2147483647, .ofNat 2147483647), (12, .ofNat 9, .ofNat 9)] : sIv), ∃ x, ([s0, s1, s2, s3, s4, s5, s6, s7, s8, s9, s10, s11, s12] : List Int)[q.1]? = some x ∧ q.2.1 ≤ x ∧ x ≤ q.2.2 := hN.2.1.2
  have b1 : (23 : Int) ≤ s1 ∧ s1 ≤ (23 : Int) := ivX (q := (1, .ofNat 23, .ofNat 23)) (y := s1) (hIv _ (.tail _ (.head _))) rfl
  have b9 : (1 : Int) ≤ s9 ∧ s9 ≤ (1 : Int) := ivX (q := (9, .ofNat 1, .ofNat 1)) (y := s9) (hIv _ (.tail _ (.tail _ (.tail _ (.tail _ (.tail _ (.tail _ (.tail _ (.tail _ (.tail _ (.head _))))))))))) rfl
  have b12 : (9 : Int) ≤ s12 ∧ s12 ≤ (9 : Int) := ivX (q := (12, .ofNat 9, .ofNat 9)) (y := s12) (hIv _ (.tail _ (.tail _ (.tail _ (.tail _ (.tail _ (.tail _ (.tail _ (.tail _ (.tail _ (.tail _ (.tail _ (.tail _ (.head _)))))))))))))) rfl
  have hRf : ∀ q ∈ ([((78, .ofNat 273, []), (.ofNat 21, []), 1, .ofNat 1, [])] : List sRf), rfOk [s0, s1, s2, s3, s4, s5, s6, s7, s8, s9, s10, s11, s12] hp q := hH.1
  have h0 : hI hp 273 21 = 1 := rfI0 (hRf _ (.head _)) (sE_k _ _) (sE_k _ _) (sE_k _ _)
  have hFc : ∀ q ∈ ([(119, [(.ofNat 0, [(.ofNat 1, 0)]), (.ofNat 0, [(.ofNat 1, 1)]), (.ofNat 0, [(.ofNat 1, 2)]), (.ofNat 0, [(.ofNat 1, 3)]), (.ofNat 0, [(.ofNat 1, 4)]), (.ofNat 0, [(.ofNat 1, 5)]), (.ofNat 0, [(.ofNat 1, 6)]), (.ofNat 0, [(.ofNat 1, 7)]), (.ofNat 0, [(.ofNat 1, 8)]), (.ofNat 0, [(.ofNat 1, 9)]), (.ofNat 0, [(.ofNat 1, 10)]), (.ofNat 0, [(.ofNat 1, 11)]), (.ofNat 0, [(.ofNat 1, 12)])]), (122, [(.ofNat 0, [(.ofNat 1, 0)])])] : List sFc), fcOk fFS [s0, s1, s2, s3, s4, s5, s6, s7, s8, s9, s10, s11, s12] hp q := hH.2
  have f0 : Hq (MT hp) s0 s1 s2 s3 s4 s5 s6 s7 s8 s9 s10 s11 s12 := fcX (ys := [s0, s1, s2, s3, s4, s5, s6, s7, s8, s9, s10, s11, s12]) (hFc _ (.head _)) ⟨sE_V rfl, sE_V rfl, sE_V rfl, sE_V rfl, sE_V rfl, sE_V rfl, sE_V rfl, sE_V rfl, sE_V rfl, sE_V rfl, sE_V rfl, sE_V rfl, sE_V rfl, trivial⟩
  have f1 : EW (MT hp) s0 := fcX (ys := [s0]) (hFc _ (.tail _ (.head _))) ⟨sE_V rfl, trivial⟩
  obtain ⟨D, hG⟩ := hW23 (x := 1) (MT_ok hO) f0 (by omega) (by omega) (by omega) (by omega) (by omega)
  exact poX (.head _) rfl hR (all_nil) (all_nil) (all_cons ⟨[s11, 24, s2, 1, 0, 0, 0, 0, 0], ⟨sE_V rfl, sE_k _ _, sE_V rfl, sE_k _ _, sE_k _ _, sE_k _ _, sE_k _ _, sE_k _ _, sE_k _ _, trivial⟩, (show Gq (MT hp) s11 (24 : Int) s2 (1 : Int) (0 : Int) (0 : Int) (0 : Int) (0 : Int) (0 : Int) from ⟨D, hG⟩)⟩ (all_nil))
theorem rl633 : ruOk fFS gR633 := by
  intro r hp hO hN hH
  obtain ⟨s0, s1, s2, s3, s4, s5, s6, s7, s8, s9, s10, s11, s12, rfl⟩ := len13 (show r.length = 13 from hN.1)
  have hR := hN.2.1.1
  have hIv : ∀ q ∈ ([(0, .negSucc 2147483647, .ofNat 2147483647), (1, .ofNat 23, .ofNat 23), (2, .negSucc 2147483647, .ofNat 2147483647), (3, .negSucc 2147483647, .ofNat 2147483647), (4, .negSucc 2147483647, .ofNat 2147483647), (5, .negSucc 2147483647, .ofNat 2147483647), (6, .negSucc 2147483647, .ofNat 2147483647), (7, .negSucc 2147483647, .ofNat 2147483647), (8, .negSucc 2147483647, .ofNat 2147483647), (9, .ofNat 1, .ofNat 1), (10, .negSucc 2147483647, .ofNat 2147483647), (11, .negSucc 2147483647, .ofNat 2147483647), (12, .ofNat 10, .ofNat 10)] : sIv), ∃ x, ([s0, s1, s2, s3, s4, s5, s6, s7, s8, s9, s10, s11, s12] : List Int)[q.1]? = some x ∧ q.2.1 ≤ x ∧ x ≤ q.2.2 := hN.2.1.2
  have b1 : (23 : Int) ≤ s1 ∧ s1 ≤ (23 : Int) := ivX (q := (1, .ofNat 23, .ofNat 23)) (y := s1) (hIv _ (.tail _ (.head _))) rfl
  have b9 : (1 : Int) ≤ s9 ∧ s9 ≤ (1 : Int) := ivX (q := (9, .ofNat 1, .ofNat 1)) (y := s9) (hIv _ (.tail _ (.tail _ (.tail _ (.tail _ (.tail _ (.tail _ (.tail _ (.tail _ (.tail _ (.head _))))))))))) rfl
  have b12 : (10 : Int) ≤ s12 ∧ s12 ≤ (10 : Int) := ivX (q := (12, .ofNat 10, .ofNat 10)) (y := s12) (hIv _ (.tail _ (.tail _ (.tail _ (.tail _ (.tail _ (.tail _ (.tail _ (.tail _ (.tail _ (.tail _ (.tail _ (.tail _ (.head _)))))))))))))) rfl
  have hRf : ∀ q ∈ ([((78, .ofNat 273, []), (.ofNat 21, []), 1, .ofNat 2, [])] : List sRf), rfOk [s0, s1, s2, s3, s4, s5, s6, s7, s8, s9, s10, s11, s12] hp q := hH.1
  have h0 : hI hp 273 21 = 2 := rfI0 (hRf _ (.head _)) (sE_k _ _) (sE_k _ _) (sE_k _ _)
  have hFc : ∀ q ∈ ([(119, [(.ofNat 0, [(.ofNat 1, 0)]), (.ofNat 0, [(.ofNat 1, 1)]), (.ofNat 0, [(.ofNat 1, 2)]), (.ofNat 0, [(.ofNat 1, 3)]), (.ofNat 0, [(.ofNat 1, 4)]), (.ofNat 0, [(.ofNat 1, 5)]), (.ofNat 0, [(.ofNat 1, 6)]), (.ofNat 0, [(.ofNat 1, 7)]), (.ofNat 0, [(.ofNat 1, 8)]), (.ofNat 0, [(.ofNat 1, 9)]), (.ofNat 0, [(.ofNat 1, 10)]), (.ofNat 0, [(.ofNat 1, 11)]), (.ofNat 0, [(.ofNat 1, 12)])]), (122, [(.ofNat 0, [(.ofNat 1, 0)])])] : List sFc), fcOk fFS [s0, s1, s2, s3, s4, s5, s6, s7, s8, s9, s10, s11, s12] hp q := hH.2
  have f0 : Hq (MT hp) s0 s1 s2 s3 s4 s5 s6 s7 s8 s9 s10 s11 s12 := fcX (ys := [s0, s1, s2, s3, s4, s5, s6, s7, s8, s9, s10, s11, s12]) (hFc _ (.head _)) ⟨sE_V rfl, sE_V rfl, sE_V rfl, sE_V rfl, sE_V rfl, sE_V rfl, sE_V rfl, sE_V rfl, sE_V rfl, sE_V rfl, sE_V rfl, sE_V rfl, sE_V rfl, trivial⟩
  have f1 : EW (MT hp) s0 := fcX (ys := [s0]) (hFc _ (.tail _ (.head _))) ⟨sE_V rfl, trivial⟩
  obtain ⟨D, hG⟩ := hW23 (x := 2) (MT_ok hO) f0 (by omega) (by omega) (by omega) (by omega) (by omega)
  exact poX (.head _) rfl hR (all_nil) (all_nil) (all_cons ⟨[s11, 24, s2, 2, 0, 0, 0, 0, 0], ⟨sE_V rfl, sE_k _ _, sE_V rfl, sE_k _ _, sE_k _ _, sE_k _ _, sE_k _ _, sE_k _ _, sE_k _ _, trivial⟩, (show Gq (MT hp) s11 (24 : Int) s2 (2 : Int) (0 : Int) (0 : Int) (0 : Int) (0 : Int) (0 : Int) from ⟨D, hG⟩)⟩ (all_nil))
theorem rl634 : ruOk fFS gR634 := by
  intro r hp hO hN hH
  obtain ⟨s0, s1, s2, s3, s4, s5, s6, s7, s8, s9, s10, s11, s12, rfl⟩ := len13 (show r.length = 13 from hN.1)
  have hR := hN.2.1.1
  have hIv : ∀ q ∈ ([(0, .negSucc 2147483647, .ofNat 2147483647), (1, .ofNat 23, .ofNat 23), (2, .negSucc 2147483647, .ofNat 2147483647), (3, .negSucc 2147483647, .ofNat 2147483647), (4, .negSucc 2147483647, .ofNat 2147483647), (5, .negSucc 2147483647, .ofNat 2147483647), (6, .negSucc 2147483647, .ofNat 2147483647), (7, .negSucc 2147483647, .ofNat 2147483647), (8, .negSucc 2147483647, .ofNat 2147483647), (9, .ofNat 1, .ofNat 1), (10, .negSucc 2147483647, .ofNat 2147483647), (11, .negSucc 2147483647, .ofNat 2147483647), (12, .ofNat 11, .ofNat 11)] : sIv), ∃ x, ([s0, s1, s2, s3, s4, s5, s6, s7, s8, s9, s10, s11, s12] : List Int)[q.1]? = some x ∧ q.2.1 ≤ x ∧ x ≤ q.2.2 := hN.2.1.2
  have b1 : (23 : Int) ≤ s1 ∧ s1 ≤ (23 : Int) := ivX (q := (1, .ofNat 23, .ofNat 23)) (y := s1) (hIv _ (.tail _ (.head _))) rfl
  have b9 : (1 : Int) ≤ s9 ∧ s9 ≤ (1 : Int) := ivX (q := (9, .ofNat 1, .ofNat 1)) (y := s9) (hIv _ (.tail _ (.tail _ (.tail _ (.tail _ (.tail _ (.tail _ (.tail _ (.tail _ (.tail _ (.head _))))))))))) rfl
  have b12 : (11 : Int) ≤ s12 ∧ s12 ≤ (11 : Int) := ivX (q := (12, .ofNat 11, .ofNat 11)) (y := s12) (hIv _ (.tail _ (.tail _ (.tail _ (.tail _ (.tail _ (.tail _ (.tail _ (.tail _ (.tail _ (.tail _ (.tail _ (.tail _ (.head _)))))))))))))) rfl
  have hRf : ∀ q ∈ ([((78, .ofNat 273, []), (.ofNat 21, []), 1, .ofNat 3, [])] : List sRf), rfOk [s0, s1, s2, s3, s4, s5, s6, s7, s8, s9, s10, s11, s12] hp q := hH.1
  have h0 : hI hp 273 21 = 3 := rfI0 (hRf _ (.head _)) (sE_k _ _) (sE_k _ _) (sE_k _ _)
  have hFc : ∀ q ∈ ([(119, [(.ofNat 0, [(.ofNat 1, 0)]), (.ofNat 0, [(.ofNat 1, 1)]), (.ofNat 0, [(.ofNat 1, 2)]), (.ofNat 0, [(.ofNat 1, 3)]), (.ofNat 0, [(.ofNat 1, 4)]), (.ofNat 0, [(.ofNat 1, 5)]), (.ofNat 0, [(.ofNat 1, 6)]), (.ofNat 0, [(.ofNat 1, 7)]), (.ofNat 0, [(.ofNat 1, 8)]), (.ofNat 0, [(.ofNat 1, 9)]), (.ofNat 0, [(.ofNat 1, 10)]), (.ofNat 0, [(.ofNat 1, 11)]), (.ofNat 0, [(.ofNat 1, 12)])]), (122, [(.ofNat 0, [(.ofNat 1, 0)])])] : List sFc), fcOk fFS [s0, s1, s2, s3, s4, s5, s6, s7, s8, s9, s10, s11, s12] hp q := hH.2
  have f0 : Hq (MT hp) s0 s1 s2 s3 s4 s5 s6 s7 s8 s9 s10 s11 s12 := fcX (ys := [s0, s1, s2, s3, s4, s5, s6, s7, s8, s9, s10, s11, s12]) (hFc _ (.head _)) ⟨sE_V rfl, sE_V rfl, sE_V rfl, sE_V rfl, sE_V rfl, sE_V rfl, sE_V rfl, sE_V rfl, sE_V rfl, sE_V rfl, sE_V rfl, sE_V rfl, sE_V rfl, trivial⟩
  have f1 : EW (MT hp) s0 := fcX (ys := [s0]) (hFc _ (.tail _ (.head _))) ⟨sE_V rfl, trivial⟩
  obtain ⟨D, hG⟩ := hW23 (x := 3) (MT_ok hO) f0 (by omega) (by omega) (by omega) (by omega) (by omega)
  exact poX (.head _) rfl hR (all_nil) (all_nil) (all_cons ⟨[s11, 24, s2, 3, 0, 0, 0, 0, 0], ⟨sE_V rfl, sE_k _ _, sE_V rfl, sE_k _ _, sE_k _ _, sE_k _ _, sE_k _ _, sE_k _ _, sE_k _ _, trivial⟩, (show Gq (MT hp) s11 (24 : Int) s2 (3 : Int) (0 : Int) (0 : Int) (0 : Int) (0 : Int) (0 : Int) from ⟨D, hG⟩)⟩ (all_nil))
theorem rl635 : ruOk fFS gR635 := by
  intro r hp hO hN hH
  obtain ⟨s0, s1, s2, s3, s4, s5, s6, s7, s8, s9, s10, s11, s12, rfl⟩ := len13 (show r.length = 13 from hN.1)
  have hR := hN.2.1.1
  have hIv : ∀ q ∈ ([(0, .negSucc 2147483647, .ofNat 2147483647), (1, .ofNat 23, .ofNat 23), (2, .negSucc 2147483647, .ofNat 2147483647), (3, .negSucc 2147483647, .ofNat 2147483647), (4, .negSucc 2147483647, .ofNat 2147483647), (5, .negSucc 2147483647, .ofNat 2147483647), (6, .negSucc 2147483647, .ofNat 2147483647), (7, .negSucc 2147483647, .ofNat 2147483647), (8, .negSucc 2147483647, .ofNat 2147483647), (9, .ofNat 1, .ofNat 1), (10, .negSucc 2147483647, .ofNat 2147483647), (11, .negSucc 2147483647, .ofNat 2147483647), (12, .ofNat 12, .ofNat 12)] : sIv), ∃ x, ([s0, s1, s2, s3, s4, s5, s6, s7, s8, s9, s10, s11, s12] : List Int)[q.1]? = some x ∧ q.2.1 ≤ x ∧ x ≤ q.2.2 := hN.2.1.2
  have b1 : (23 : Int) ≤ s1 ∧ s1 ≤ (23 : Int) := ivX (q := (1, .ofNat 23, .ofNat 23)) (y := s1) (hIv _ (.tail _ (.head _))) rfl
  have b9 : (1 : Int) ≤ s9 ∧ s9 ≤ (1 : Int) := ivX (q := (9, .ofNat 1, .ofNat 1)) (y := s9) (hIv _ (.tail _ (.tail _ (.tail _ (.tail _ (.tail _ (.tail _ (.tail _ (.tail _ (.tail _ (.head _))))))))))) rfl
  have b12 : (12 : Int) ≤ s12 ∧ s12 ≤ (12 : Int) := ivX (q := (12, .ofNat 12, .ofNat 12)) (y := s12) (hIv _ (.tail _ (.tail _ (.tail _ (.tail _ (.tail _ (.tail _ (.tail _ (.tail _ (.tail _ (.tail _ (.tail _ (.tail _ (.head _)))))))))))))) rfl
  have hRf : ∀ q ∈ ([((78, .ofNat 273, []), (.ofNat 21, []), 1, .ofNat 4, [])] : List sRf), rfOk [s0, s1, s2, s3, s4, s5, s6, s7, s8, s9, s10, s11, s12] hp q := hH.1
  have h0 : hI hp 273 21 = 4 := rfI0 (hRf _ (.head _)) (sE_k _ _) (sE_k _ _) (sE_k _ _)
  have hFc : ∀ q ∈ ([(119, [(.ofNat 0, [(.ofNat 1, 0)]), (.ofNat 0, [(.ofNat 1, 1)]), (.ofNat 0, [(.ofNat 1, 2)]), (.ofNat 0, [(.ofNat 1, 3)]), (.ofNat 0, [(.ofNat 1, 4)]), (.ofNat 0, [(.ofNat 1, 5)]), (.ofNat 0, [(.ofNat 1, 6)]), (.ofNat 0, [(.ofNat 1, 7)]), (.ofNat 0, [(.ofNat 1, 8)]), (.ofNat 0, [(.ofNat 1, 9)]), (.ofNat 0, [(.ofNat 1, 10)]), (.ofNat 0, [(.ofNat 1, 11)]), (.ofNat 0, [(.ofNat 1, 12)])]), (122, [(.ofNat 0, [(.ofNat 1, 0)])])] : List sFc), fcOk fFS [s0, s1, s2, s3, s4, s5, s6, s7, s8, s9, s10, s11, s12] hp q := hH.2
  have f0 : Hq (MT hp) s0 s1 s2 s3 s4 s5 s6 s7 s8 s9 s10 s11 s12 := fcX (ys := [s0, s1, s2, s3, s4, s5, s6, s7, s8, s9, s10, s11, s12]) (hFc _ (.head _)) ⟨sE_V rfl, sE_V rfl, sE_V rfl, sE_V rfl, sE_V rfl, sE_V rfl, sE_V rfl, sE_V rfl, sE_V rfl, sE_V rfl, sE_V rfl, sE_V rfl, sE_V rfl, trivial⟩
  have f1 : EW (MT hp) s0 := fcX (ys := [s0]) (hFc _ (.tail _ (.head _))) ⟨sE_V rfl, trivial⟩
  obtain ⟨D, hG⟩ := hW23 (x := 4) (MT_ok hO) f0 (by omega) (by omega) (by omega) (by omega) (by omega)
  exact poX (.head _) rfl hR (all_nil) (all_nil) (all_cons ⟨[s11, 24, s2, 4, 0, 0, 0, 0, 0], ⟨sE_V rfl, sE_k _ _, sE_V rfl, sE_k _ _, sE_k _ _, sE_k _ _, sE_k _ _, sE_k _ _, sE_k _ _, trivial⟩, (show Gq (MT hp) s11 (24 : Int) s2 (4 : Int) (0 : Int) (0 : Int) (0 : Int) (0 : Int) (0 : Int) from ⟨D, hG⟩)⟩ (all_nil))
theorem rl636 : ruOk fFS gR636 := by
  intro r hp hO hN hH
  obtain ⟨s0, s1, s2, s3, s4, s5, s6, rfl⟩ := len7 (show r.length = 7 from hN.1)
  have hR := hN.2.1.1
  have hIv : ∀ q ∈ ([(0, .negSucc 2147483647, .ofNat 2147483647), (1, .ofNat 1, .ofNat 1), (2, .negSucc 2147483647, .ofNat 2147483647), (3, .ofNat 1, .ofNat 1), (4, .negSucc 2147483647, .ofNat 2147483647), (5, .negSucc 2147483647, .ofNat 2147483647), (6, .ofNat 8, .ofNat 12)] : sIv), ∃ x, ([s0, s1, s2, s3, s4, s5, s6] : List Int)[q.1]? = some x ∧ q.2.1 ≤ x ∧ x ≤ q.2.2 := hN.2.1.2
  have b1 : (1 : Int) ≤ s1 ∧ s1 ≤ (1 : Int) := ivX (q := (1, .ofNat 1, .ofNat 1)) (y := s1) (hIv _ (.tail _ (.head _))) rfl
  have b3 : (1 : Int) ≤ s3 ∧ s3 ≤ (1 : Int) := ivX (q := (3, .ofNat 1, .ofNat 1)) (y := s3) (hIv _ (.tail _ (.tail _ (.tail _ (.head _))))) rfl
  have b6 : (8 : Int) ≤ s6 ∧ s6 ≤ (12 : Int) := ivX (q := (6, .ofNat 8, .ofNat 12)) (y := s6) (hIv _ (.tail _ (.tail _ (.tail _ (.tail _ (.tail _ (.tail _ (.head _)))))))) rfl
  have hFc : ∀ q ∈ ([(250, [(.ofNat 0, [(.ofNat 1, 0)]), (.ofNat 0, [(.ofNat 1, 1)]), (.ofNat 0, [(.ofNat 1, 2)]), (.ofNat 0, [(.ofNat 1, 3)]), (.ofNat 0, [(.ofNat 1, 4)]), (.ofNat 0, [(.ofNat 1, 5)]), (.ofNat 0, [(.ofNat 1, 6)])])] : List sFc), fcOk fFS [s0, s1, s2, s3, s4, s5, s6] hp q := hH.2
  have f0 : roH (MT hp) (nmM hp) (hI hp 275 0) (hI hp 275 1) s0 s1 s2 s3 s4 s5 s6 := fcX (ys := [s0, s1, s2, s3, s4, s5, s6]) (hFc _ (.head _)) ⟨sE_V rfl, sE_V rfl, sE_V rfl, sE_V rfl, sE_V rfl, sE_V rfl, sE_V rfl, trivial⟩
  exact poX (.head _) rfl hR (all_nil) (all_nil) (all_cons ⟨[s5, 2, s2], ⟨sE_V rfl, sE_k _ _, sE_V rfl, trivial⟩, (show roG (MT hp) (nmM hp) (hI hp 275 0) (hI hp 275 1) s5 (2 : Int) s2 from ro1_go f0 (by omega) (by omega))⟩ (all_nil))
theorem rl637 : ruOk fFS gR637 := by
  intro r hp hO hN hH
  obtain ⟨s0, s1, s2, s3, s4, s5, s6, s7, s8, s9, s10, s11, s12, s13, s14, s15, s16, s17, s18, s19, s20, s21, s22, rfl⟩ := len23 (show r.length = 23 from hN.1)
  have hR := hN.2.1.1
  have hIv : ∀ q ∈ ([(0, .negSucc 2147483647, .ofNat 2147483647), (1, .ofNat 24, .ofNat 24), (2, .negSucc 2147483647, .ofNat 2147483647), (3, .negSucc 2147483647, .ofNat 2147483647), (4, .negSucc 2147483647, .ofNat 2147483647), (5, .negSucc 2147483647, .ofNat 2147483647), (6, .negSucc 2147483647, .ofNat 2147483647), (7, .negSucc 2147483647, .ofNat 2147483647), (8, .negSucc 2147483647, .ofNat 2147483647), (9, .negSucc 2147483647, .ofNat 2147483647), (10, .negSucc 2147483647, .ofNat 2147483647), (11, .negSucc 2147483647, .ofNat 2147483647), (12, .negSucc 2147483647, .ofNat 2147483647), (13, .negSucc 2147483647, .ofNat 2147483647), (14, .negSucc 2147483647, .ofNat 2147483647), (15, .negSucc 2147483647, .ofNat 2147483647), (16, .negSucc 2147483647, .ofNat 2147483647), (17, .negSucc 2147483647, .ofNat 2147483647), (18, .negSucc 2147483647, .ofNat 2147483647), (19, .negSucc 2147483647, .ofNat 2147483647), (20, .negSucc 2147483647, .ofNat 2147483647), (21, .negSucc 2147483647, .ofNat 2147483647), (22, .negSucc 2147483647, .ofNat 2147483647)] : sIv), ∃ x, ([s0, s1, s2, s3, s4, s5, s6, s7, s8, s9, s10, s11, s12, s13, s14, s15, s16, s17, s18, s19, s20, s21, s22] : List Int)[q.1]? = some x ∧ q.2.1 ≤ x ∧ x ≤ q.2.2 := hN.2.1.2
  have b1 : (24 : Int) ≤ s1 ∧ s1 ≤ (24 : Int) := ivX (q := (1, .ofNat 24, .ofNat 24)) (y := s1) (hIv _ (.tail _ (.head _))) rfl
  have hFc : ∀ q ∈ ([(119, [(.ofNat 0, [(.ofNat 1, 0)]), (.ofNat 0, [(.ofNat 1, 1)]), (.ofNat 0, [(.ofNat 1, 2)]), (.ofNat 0, [(.ofNat 1, 3)]), (.ofNat 0, [(.ofNat 1, 4)]), (.ofNat 0, [(.ofNat 1, 5)]), (.ofNat 0, [(.ofNat 1, 6)]), (.ofNat 0, [(.ofNat 1, 7)]), (.ofNat 0, [(.ofNat 1, 8)]), (.ofNat 0, [(.ofNat 1, 9)]), (.ofNat 0, [(.ofNat 1, 10)]), (.ofNat 0, [(.ofNat 1, 11)]), (.ofNat 0, [(.ofNat 1, 12)])]), (125, [(.ofNat 0, [(.ofNat 1, 2)]), (.ofNat 0, [(.ofNat 1, 13)]), (.ofNat 0, [(.ofNat 1, 14)]), (.ofNat 0, [(.ofNat 1, 15)]), (.ofNat 0, [(.ofNat 1, 16)]), (.ofNat 0, [(.ofNat 1, 17)]), (.ofNat 0, [(.ofNat 1, 18)]), (.ofNat 0, [(.ofNat 1, 19)]), (.ofNat 0, [(.ofNat 1, 20)]), (.ofNat 0, [(.ofNat 1, 21)]), (.ofNat 0, [(.ofNat 1, 22)])])] : List sFc), fcOk fFS [s0, s1, s2, s3, s4, s5, s6, s7, s8, s9, s10, s11, s12, s13, s14, s15, s16, s17, s18, s19, s20, s21, s22] hp q := hH.2
  have f0 : Hq (MT hp) s0 s1 s2 s3 s4 s5 s6 s7 s8 s9 s10 s11 s12 := fcX (ys := [s0, s1, s2, s3, s4, s5, s6, s7, s8, s9, s10, s11, s12]) (hFc _ (.head _)) ⟨sE_V rfl, sE_V rfl, sE_V rfl, sE_V rfl, sE_V rfl, sE_V rfl, sE_V rfl, sE_V rfl, sE_V rfl, sE_V rfl, sE_V rfl, sE_V rfl, sE_V rfl, trivial⟩
  have f1 : CT (MT hp) s2 s13 s14 s15 s16 s17 s18 s19 s20 s21 s22 := fcX (ys := [s2, s13, s14, s15, s16, s17, s18, s19, s20, s21, s22]) (hFc _ (.tail _ (.head _))) ⟨sE_V rfl, sE_V rfl, sE_V rfl, sE_V rfl, sE_V rfl, sE_V rfl, sE_V rfl, sE_V rfl, sE_V rfl, sE_V rfl, sE_V rfl, trivial⟩
  obtain ⟨⟨D, hG⟩, -⟩ := f0
  have hP := dF_at (MT_ok hO) hG f1
  exact poX (.head _) rfl hR (all_nil) (all_nil) (all_cons ⟨[s0, 1, 4], ⟨sE_V rfl, sE_k _ _, sE_k _ _, trivial⟩, (show EN (MT hp) s0 (1 : Int) (4 : Int) from en_mk hG (nC24 (by omega) (by omega) (by have hx := hP.2.2.2.2.2.2.2.2.1; have hy := hP.2.2.2.2.2.2.2.2.2; clear hP; omega)))⟩ (all_nil))
theorem rl638 : ruOk fFS gR638 := by
  intro r hp hO hN hH
  obtain ⟨s0, s1, s2, s3, s4, s5, s6, s7, s8, s9, s10, s11, s12, s13, s14, rfl⟩ := len15 (show r.length = 15 from hN.1)
  have hR := hN.2.1.1
  have hIv : ∀ q ∈ ([(0, .negSucc 2147483647, .ofNat 2147483647), (1, .negSucc 2147483647, .ofNat 2147483647), (2, .negSucc 2147483647, .ofNat 2147483647), (3, .negSucc 2147483647, .ofNat 2147483647), (4, .negSucc 2147483647, .ofNat 2147483647), (5, .negSucc 2147483647, .ofNat 2147483647), (6, .negSucc 2147483647, .ofNat 2147483647), (7, .negSucc 2147483647, .ofNat 2147483647), (8, .negSucc 2147483647, .ofNat 2147483647), (9, .ofNat 0, .ofNat 1), (10, .negSucc 2147483647, .ofNat 2147483647), (11, .negSucc 2147483647, .ofNat 2147483647), (12, .negSucc 2147483647, .ofNat 2147483647), (13, .negSucc 2147483647, .ofNat 2147483647), (14, .negSucc 2147483647, .ofNat 2147483647)] : sIv), ∃ x, ([s0, s1, s2, s3, s4, s5, s6, s7, s8, s9, s10, s11, s12, s13, s14] : List Int)[q.1]? = some x ∧ q.2.1 ≤ x ∧ x ≤ q.2.2 := hN.2.1.2
  have b9 : (0 : Int) ≤ s9 ∧ s9 ≤ (1 : Int) := ivX (q := (9, .ofNat 0, .ofNat 1)) (y := s9) (hIv _ (.tail _ (.tail _ (.tail _ (.tail _ (.tail _ (.tail _ (.tail _ (.tail _ (.tail _ (.head _))))))))))) rfl
  have hFc : ∀ q ∈ ([(119, [(.ofNat 0, [(.ofNat 1, 0)]), (.ofNat 0, [(.ofNat 1, 1)]), (.ofNat 0, [(.ofNat 1, 2)]), (.ofNat 0, [(.ofNat 1, 3)]), (.ofNat 0, [(.ofNat 1, 4)]), (.ofNat 0, [(.ofNat 1, 5)]), (.ofNat 0, [(.ofNat 1, 6)]), (.ofNat 0, [(.ofNat 1, 7)]), (.ofNat 0, [(.ofNat 1, 8)]), (.ofNat 0, [(.ofNat 1, 9)]), (.ofNat 0, [(.ofNat 1, 10)]), (.ofNat 0, [(.ofNat 1, 11)]), (.ofNat 0, [(.ofNat 1, 12)])]), (121, [(.ofNat 0, [(.ofNat 1, 0)]), (.ofNat 0, [(.ofNat 1, 13)]), (.ofNat 0, [(.ofNat 1, 14)])])] : List sFc), fcOk fFS [s0, s1, s2, s3, s4, s5, s6, s7, s8, s9, s10, s11, s12, s13, s14] hp q := hH.2
  have f0 : Hq (MT hp) s0 s1 s2 s3 s4 s5 s6 s7 s8 s9 s10 s11 s12 := fcX (ys := [s0, s1, s2, s3, s4, s5, s6, s7, s8, s9, s10, s11, s12]) (hFc _ (.head _)) ⟨sE_V rfl, sE_V rfl, sE_V rfl, sE_V rfl, sE_V rfl, sE_V rfl, sE_V rfl, sE_V rfl, sE_V rfl, sE_V rfl, sE_V rfl, sE_V rfl, sE_V rfl, trivial⟩
  have f1 : EN (MT hp) s0 s13 s14 := fcX (ys := [s0, s13, s14]) (hFc _ (.tail _ (.head _))) ⟨sE_V rfl, sE_V rfl, sE_V rfl, trivial⟩
  exact poX (.head _) rfl hR (all_nil) (all_nil) (all_cons ⟨[1, s10], ⟨sE_k _ _, sE_V rfl, trivial⟩, (show RS (MT hp) (1 : Int) s10 from en_f1 (MT_ok hO) f0 f1 (by omega))⟩ (all_nil))
theorem rl639 : ruOk fFS gR639 := by
  intro r hp hO hN hH
  obtain ⟨s0, s1, s2, s3, s4, s5, s6, s7, s8, s9, s10, s11, s12, s13, s14, rfl⟩ := len15 (show r.length = 15 from hN.1)
  have hR := hN.2.1.1
  have hIv : ∀ q ∈ ([(0, .negSucc 2147483647, .ofNat 2147483647), (1, .negSucc 2147483647, .ofNat 2147483647), (2, .negSucc 2147483647, .ofNat 2147483647), (3, .negSucc 2147483647, .ofNat 2147483647), (4, .negSucc 2147483647, .ofNat 2147483647), (5, .negSucc 2147483647, .ofNat 2147483647), (6, .negSucc 2147483647, .ofNat 2147483647), (7, .negSucc 2147483647, .ofNat 2147483647), (8, .negSucc 2147483647, .ofNat 2147483647), (9, .ofNat 3, .ofNat 4), (10, .negSucc 2147483647, .ofNat 2147483647), (11, .negSucc 2147483647, .ofNat 2147483647), (12, .negSucc 2147483647, .ofNat 2147483647), (13, .negSucc 2147483647, .ofNat 2147483647), (14, .negSucc 2147483647, .ofNat 2147483647)] : sIv), ∃ x, ([s0, s1, s2, s3, s4, s5, s6, s7, s8, s9, s10, s11, s12, s13, s14] : List Int)[q.1]? = some x ∧ q.2.1 ≤ x ∧ x ≤ q.2.2 := hN.2.1.2
  have b9 : (3 : Int) ≤ s9 ∧ s9 ≤ (4 : Int) := ivX (q := (9, .ofNat 3, .ofNat 4)) (y := s9) (hIv _ (.tail _ (.tail _ (.tail _ (.tail _ (.tail _ (.tail _ (.tail _ (.tail _ (.tail _ (.head _))))))))))) rfl
  have hFc : ∀ q ∈ ([(119, [(.ofNat 0, [(.ofNat 1, 0)]), (.ofNat 0, [(.ofNat 1, 1)]), (.ofNat 0, [(.ofNat 1, 2)]), (.ofNat 0, [(.ofNat 1, 3)]), (.ofNat 0, [(.ofNat 1, 4)]), (.ofNat 0, [(.ofNat 1, 5)]), (.ofNat 0, [(.ofNat 1, 6)]), (.ofNat 0, [(.ofNat 1, 7)]), (.ofNat 0, [(.ofNat 1, 8)]), (.ofNat 0, [(.ofNat 1, 9)]), (.ofNat 0, [(.ofNat 1, 10)]), (.ofNat 0, [(.ofNat 1, 11)]), (.ofNat 0, [(.ofNat 1, 12)])]), (121, [(.ofNat 0, [(.ofNat 1, 0)]), (.ofNat 0, [(.ofNat 1, 13)]), (.ofNat 0, [(.ofNat 1, 14)])])] : List sFc), fcOk fFS [s0, s1, s2, s3, s4, s5, s6, s7, s8, s9, s10, s11, s12, s13, s14] hp q := hH.2
  have f0 : Hq (MT hp) s0 s1 s2 s3 s4 s5 s6 s7 s8 s9 s10 s11 s12 := fcX (ys := [s0, s1, s2, s3, s4, s5, s6, s7, s8, s9, s10, s11, s12]) (hFc _ (.head _)) ⟨sE_V rfl, sE_V rfl, sE_V rfl, sE_V rfl, sE_V rfl, sE_V rfl, sE_V rfl, sE_V rfl, sE_V rfl, sE_V rfl, sE_V rfl, sE_V rfl, sE_V rfl, trivial⟩
  have f1 : EN (MT hp) s0 s13 s14 := fcX (ys := [s0, s13, s14]) (hFc _ (.tail _ (.head _))) ⟨sE_V rfl, sE_V rfl, sE_V rfl, trivial⟩
  exact poX (.head _) rfl hR (all_nil) (all_nil) (all_cons ⟨[1, s10], ⟨sE_k _ _, sE_V rfl, trivial⟩, (show RS (MT hp) (1 : Int) s10 from en_f1 (MT_ok hO) f0 f1 (by omega))⟩ (all_nil))
end CkRul7
