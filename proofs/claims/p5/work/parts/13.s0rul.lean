section CkRul0
theorem rl0 : ruOk fFS gR0 := by
  intro r hp hO hN hH
  obtain ⟨s0, s1, rfl⟩ := len2 (show r.length = 2 from hN.1)
  have hR := hN.2.1.1
  have hIv : ∀ q ∈ ([(0, .ofNat 0, .ofNat 940), (1, .negSucc 2147483647, .ofNat 2147483647)] : sIv), ∃ x, ([s0, s1] : List Int)[q.1]? = some x ∧ q.2.1 ≤ x ∧ x ≤ q.2.2 := hN.2.1.2
  have b0 : (0 : Int) ≤ s0 ∧ s0 ≤ (940 : Int) := ivX (q := (0, .ofNat 0, .ofNat 940)) (y := s0) (hIv _ (.head _)) rfl
  have hCs : ∀ c ∈ ([(.ofNat 0, [(.ofNat 1, 0), (.negSucc 0, 1)])] : List sLn), ∃ x, sE [s0, s1] c = some x ∧ x ≤ 0 := hN.2.2.1
  have c0 : ((0 : Int) + ((1 : Int) * s0 + ((-1 : Int) * s1 + 0))) ≤ 0 := csX (hCs _ (.head _)) rfl
  have hRf : ∀ q ∈ ([((0, .ofNat 0, []), (.ofNat 1, []), 1, .ofNat 0, [(.ofNat 1, 0)])] : List sRf), rfOk [s0, s1] hp q := hH.1
  have h0 : hI hp 0 1 = s0 := rfI0 (hRf _ (.head _)) (sE_k _ _) (sE_k _ _) (sE_V rfl)
  have y0 : (0 : Int) ≤ s0 ∧ s0 ≤ (940 : Int) := by rw [← h0]; exact hI_ty hO (by decide) rfl
  have hFc : ∀ q ∈ ([(177, [(.ofNat 0, [(.ofNat 1, 1)])])] : List sFc), fcOk fFS [s0, s1] hp q := hH.2
  have f0 : ∀ i : Nat, i < 940 → (i : Int) < s1 → hI hp 1 i = hI hp 274 i % 256 := fcX (ys := [s1]) (hFc _ (.head _)) ⟨sE_V rfl, trivial⟩
  exact poX (.head _) rfl hR (all_nil) (all_nil) (all_cons ⟨[s0], ⟨sE_V rfl, trivial⟩, (show ∀ i : Nat, i < 940 → (i : Int) < s0 → hI hp 1 i = hI hp 274 i % 256 from fun i hi hs => f0 i hi (by omega))⟩ (all_nil))
theorem rl1 : ruOk fFS gR1 := by
  intro r hp hO hN hH
  obtain ⟨s0, s1, s2, s3, rfl⟩ := len4 (show r.length = 4 from hN.1)
  have hR := hN.2.1.1
  have hIv : ∀ q ∈ ([(0, .negSucc 2147483647, .ofNat 2147483647), (1, .ofNat 1, .ofNat 940), (2, .negSucc 2147483647, .ofNat 2147483647), (3, .negSucc 2147483647, .ofNat 2147483647)] : sIv), ∃ x, ([s0, s1, s2, s3] : List Int)[q.1]? = some x ∧ q.2.1 ≤ x ∧ x ≤ q.2.2 := hN.2.1.2
  have b1 : (1 : Int) ≤ s1 ∧ s1 ≤ (940 : Int) := ivX (q := (1, .ofNat 1, .ofNat 940)) (y := s1) (hIv _ (.tail _ (.head _))) rfl
  have hRf : ∀ q ∈ ([((0, .ofNat 0, []), (.ofNat 1, []), 1, .ofNat 0, [(.ofNat 1, 1)]), ((1, .ofNat 1, []), (.negSucc 0, [(.ofNat 1, 1)]), 1, .ofNat 0, [(.ofNat 1, 2)])] : List sRf), rfOk [s0, s1, s2, s3] hp q := hH.1
  have h0 : hI hp 0 1 = s1 := rfI0 (hRf _ (.head _)) (sE_k _ _) (sE_k _ _) (sE_V rfl)
  have y0 : (0 : Int) ≤ s1 ∧ s1 ≤ (940 : Int) := by rw [← h0]; exact hI_ty hO (by decide) rfl
  obtain ⟨i1, e1, l1, h1⟩ := rfI (xv := s2) (iv := (s1 - 1)) (hRf _ (.tail _ (.head _))) (sE_k _ _) (sEv (y' := ((-1 : Int) + ((1 : Int) * s1 + 0))) rfl (by omega)) (sE_V rfl)
  have l1 : i1 < 940 := l1
  have h1 : hI hp 1 i1 = s2 := h1
  have hFc : ∀ q ∈ ([(88, [(.ofNat 0, [(.ofNat 1, 0)]), (.ofNat 24, []), (.ofNat 0, [(.ofNat 1, 3)])]), (87, [(.ofNat 0, [(.ofNat 1, 3)]), (.ofNat 255, []), (.ofNat 0, [(.ofNat 1, 2)])])] : List sFc), fcOk fFS [s0, s1, s2, s3] hp q := hH.2
  have f0 : ((24 : Int) = 24 → s3 % 256 = s0 / 16777216 % 256) ∧ ((24 : Int) = 16 → s3 % 256 = s0 / 65536 % 256) ∧ ((24 : Int) = 8 → s3 % 256 = s0 / 256 % 256) ∧ ((24 : Int) = 0 → s3 % 256 = s0 % 256) := fcX (ys := [s0, 24, s3]) (hFc _ (.head _)) ⟨sE_V rfl, sE_k _ _, sE_V rfl, trivial⟩
  have f1 : ((255 : Int) = 255 → s2 = s3 % 256) ∧ ((255 : Int) = 1 → s2 = s3 % 2) := fcX (ys := [s3, 255, s2]) (hFc _ (.tail _ (.head _))) ⟨sE_V rfl, sE_k _ _, sE_V rfl, trivial⟩
  exact poX (.head _) rfl hR (all_nil) (all_nil) (all_cons ⟨[s1, 1, s0], ⟨sE_V rfl, sE_k _ _, sE_V rfl, trivial⟩, (show pxD (fun i => hI hp 1 i) s1 (1 : Int) s0 from px_0 (j := i1) h1 (by omega) ⟨by omega, by omega⟩ (by rw [b8_0]; have u := f0.1 rfl; have w := f1.1 rfl; omega) (by omega))⟩ (all_nil))
theorem rl2 : ruOk fFS gR2 := by
  intro r hp hO hN hH
  obtain ⟨s0, s1, s2, s3, rfl⟩ := len4 (show r.length = 4 from hN.1)
  have hR := hN.2.1.1
  have hIv : ∀ q ∈ ([(0, .negSucc 2147483647, .ofNat 2147483647), (1, .ofNat 1, .ofNat 940), (2, .negSucc 2147483647, .ofNat 2147483647), (3, .negSucc 2147483647, .ofNat 2147483647)] : sIv), ∃ x, ([s0, s1, s2, s3] : List Int)[q.1]? = some x ∧ q.2.1 ≤ x ∧ x ≤ q.2.2 := hN.2.1.2
  have b1 : (1 : Int) ≤ s1 ∧ s1 ≤ (940 : Int) := ivX (q := (1, .ofNat 1, .ofNat 940)) (y := s1) (hIv _ (.tail _ (.head _))) rfl
  have hRf : ∀ q ∈ ([((0, .ofNat 0, []), (.ofNat 1, []), 1, .ofNat 0, [(.ofNat 1, 1)]), ((1, .ofNat 1, []), (.negSucc 0, [(.ofNat 1, 1)]), 1, .ofNat 0, [(.ofNat 1, 2)])] : List sRf), rfOk [s0, s1, s2, s3] hp q := hH.1
  have h0 : hI hp 0 1 = s1 := rfI0 (hRf _ (.head _)) (sE_k _ _) (sE_k _ _) (sE_V rfl)
  have y0 : (0 : Int) ≤ s1 ∧ s1 ≤ (940 : Int) := by rw [← h0]; exact hI_ty hO (by decide) rfl
  obtain ⟨i1, e1, l1, h1⟩ := rfI (xv := s2) (iv := (s1 - 1)) (hRf _ (.tail _ (.head _))) (sE_k _ _) (sEv (y' := ((-1 : Int) + ((1 : Int) * s1 + 0))) rfl (by omega)) (sE_V rfl)
  have l1 : i1 < 940 := l1
  have h1 : hI hp 1 i1 = s2 := h1
  have hFc : ∀ q ∈ ([(88, [(.ofNat 0, [(.ofNat 1, 0)]), (.ofNat 16, []), (.ofNat 0, [(.ofNat 1, 3)])]), (87, [(.ofNat 0, [(.ofNat 1, 3)]), (.ofNat 255, []), (.ofNat 0, [(.ofNat 1, 2)])]), (178, [(.negSucc 0, [(.ofNat 1, 1)]), (.ofNat 1, []), (.ofNat 0, [(.ofNat 1, 0)])])] : List sFc), fcOk fFS [s0, s1, s2, s3] hp q := hH.2
  have f0 : ((16 : Int) = 24 → s3 % 256 = s0 / 16777216 % 256) ∧ ((16 : Int) = 16 → s3 % 256 = s0 / 65536 % 256) ∧ ((16 : Int) = 8 → s3 % 256 = s0 / 256 % 256) ∧ ((16 : Int) = 0 → s3 % 256 = s0 % 256) := fcX (ys := [s0, 16, s3]) (hFc _ (.head _)) ⟨sE_V rfl, sE_k _ _, sE_V rfl, trivial⟩
  have f1 : ((255 : Int) = 255 → s2 = s3 % 256) ∧ ((255 : Int) = 1 → s2 = s3 % 2) := fcX (ys := [s3, 255, s2]) (hFc _ (.tail _ (.head _))) ⟨sE_V rfl, sE_k _ _, sE_V rfl, trivial⟩
  have f2 : pxD (fun i => hI hp 1 i) (s1 - 1) (1 : Int) s0 := fcX (ys := [(s1 - 1), 1, s0]) (hFc _ (.tail _ (.tail _ (.head _)))) ⟨sEv (y' := ((-1 : Int) + ((1 : Int) * s1 + 0))) rfl (by omega), sE_k _ _, sE_V rfl, trivial⟩
  exact poX (.head _) rfl hR (all_nil) (all_nil) (all_cons ⟨[s1, 2, s0], ⟨sE_V rfl, sE_k _ _, sE_V rfl, trivial⟩, (show pxD (fun i => hI hp 1 i) s1 (2 : Int) s0 from px_s (r := 1) f2 (j := i1) h1 (by omega) (by omega) ⟨by omega, by omega⟩ (by rw [b8_1]; have u := f0.2.1 rfl; have w := f1.1 rfl; omega) (by omega) (by omega) (by decide))⟩ (all_nil))
theorem rl3 : ruOk fFS gR3 := by
  intro r hp hO hN hH
  obtain ⟨s0, s1, s2, s3, rfl⟩ := len4 (show r.length = 4 from hN.1)
  have hR := hN.2.1.1
  have hIv : ∀ q ∈ ([(0, .negSucc 2147483647, .ofNat 2147483647), (1, .ofNat 1, .ofNat 940), (2, .negSucc 2147483647, .ofNat 2147483647), (3, .negSucc 2147483647, .ofNat 2147483647)] : sIv), ∃ x, ([s0, s1, s2, s3] : List Int)[q.1]? = some x ∧ q.2.1 ≤ x ∧ x ≤ q.2.2 := hN.2.1.2
  have b1 : (1 : Int) ≤ s1 ∧ s1 ≤ (940 : Int) := ivX (q := (1, .ofNat 1, .ofNat 940)) (y := s1) (hIv _ (.tail _ (.head _))) rfl
  have hRf : ∀ q ∈ ([((0, .ofNat 0, []), (.ofNat 1, []), 1, .ofNat 0, [(.ofNat 1, 1)]), ((1, .ofNat 1, []), (.negSucc 0, [(.ofNat 1, 1)]), 1, .ofNat 0, [(.ofNat 1, 2)])] : List sRf), rfOk [s0, s1, s2, s3] hp q := hH.1
  have h0 : hI hp 0 1 = s1 := rfI0 (hRf _ (.head _)) (sE_k _ _) (sE_k _ _) (sE_V rfl)
  have y0 : (0 : Int) ≤ s1 ∧ s1 ≤ (940 : Int) := by rw [← h0]; exact hI_ty hO (by decide) rfl
  obtain ⟨i1, e1, l1, h1⟩ := rfI (xv := s2) (iv := (s1 - 1)) (hRf _ (.tail _ (.head _))) (sE_k _ _) (sEv (y' := ((-1 : Int) + ((1 : Int) * s1 + 0))) rfl (by omega)) (sE_V rfl)
  have l1 : i1 < 940 := l1
  have h1 : hI hp 1 i1 = s2 := h1
  have hFc : ∀ q ∈ ([(88, [(.ofNat 0, [(.ofNat 1, 0)]), (.ofNat 8, []), (.ofNat 0, [(.ofNat 1, 3)])]), (87, [(.ofNat 0, [(.ofNat 1, 3)]), (.ofNat 255, []), (.ofNat 0, [(.ofNat 1, 2)])]), (178, [(.negSucc 0, [(.ofNat 1, 1)]), (.ofNat 2, []), (.ofNat 0, [(.ofNat 1, 0)])])] : List sFc), fcOk fFS [s0, s1, s2, s3] hp q := hH.2
  have f0 : ((8 : Int) = 24 → s3 % 256 = s0 / 16777216 % 256) ∧ ((8 : Int) = 16 → s3 % 256 = s0 / 65536 % 256) ∧ ((8 : Int) = 8 → s3 % 256 = s0 / 256 % 256) ∧ ((8 : Int) = 0 → s3 % 256 = s0 % 256) := fcX (ys := [s0, 8, s3]) (hFc _ (.head _)) ⟨sE_V rfl, sE_k _ _, sE_V rfl, trivial⟩
  have f1 : ((255 : Int) = 255 → s2 = s3 % 256) ∧ ((255 : Int) = 1 → s2 = s3 % 2) := fcX (ys := [s3, 255, s2]) (hFc _ (.tail _ (.head _))) ⟨sE_V rfl, sE_k _ _, sE_V rfl, trivial⟩
  have f2 : pxD (fun i => hI hp 1 i) (s1 - 1) (2 : Int) s0 := fcX (ys := [(s1 - 1), 2, s0]) (hFc _ (.tail _ (.tail _ (.head _)))) ⟨sEv (y' := ((-1 : Int) + ((1 : Int) * s1 + 0))) rfl (by omega), sE_k _ _, sE_V rfl, trivial⟩
  exact poX (.head _) rfl hR (all_nil) (all_nil) (all_cons ⟨[s1, 3, s0], ⟨sE_V rfl, sE_k _ _, sE_V rfl, trivial⟩, (show pxD (fun i => hI hp 1 i) s1 (3 : Int) s0 from px_s (r := 2) f2 (j := i1) h1 (by omega) (by omega) ⟨by omega, by omega⟩ (by rw [b8_2]; have u := f0.2.2.1 rfl; have w := f1.1 rfl; omega) (by omega) (by omega) (by decide))⟩ (all_nil))
theorem rl4 : ruOk fFS gR4 := by
  intro r hp hO hN hH
  obtain ⟨s0, s1, s2, s3, rfl⟩ := len4 (show r.length = 4 from hN.1)
  have hR := hN.2.1.1
  have hIv : ∀ q ∈ ([(0, .negSucc 2147483647, .ofNat 2147483647), (1, .ofNat 1, .ofNat 940), (2, .negSucc 2147483647, .ofNat 2147483647), (3, .negSucc 2147483647, .ofNat 2147483647)] : sIv), ∃ x, ([s0, s1, s2, s3] : List Int)[q.1]? = some x ∧ q.2.1 ≤ x ∧ x ≤ q.2.2 := hN.2.1.2
  have b1 : (1 : Int) ≤ s1 ∧ s1 ≤ (940 : Int) := ivX (q := (1, .ofNat 1, .ofNat 940)) (y := s1) (hIv _ (.tail _ (.head _))) rfl
  have hRf : ∀ q ∈ ([((0, .ofNat 0, []), (.ofNat 1, []), 1, .ofNat 0, [(.ofNat 1, 1)]), ((1, .ofNat 1, []), (.negSucc 0, [(.ofNat 1, 1)]), 1, .ofNat 0, [(.ofNat 1, 2)])] : List sRf), rfOk [s0, s1, s2, s3] hp q := hH.1
  have h0 : hI hp 0 1 = s1 := rfI0 (hRf _ (.head _)) (sE_k _ _) (sE_k _ _) (sE_V rfl)
  have y0 : (0 : Int) ≤ s1 ∧ s1 ≤ (940 : Int) := by rw [← h0]; exact hI_ty hO (by decide) rfl
  obtain ⟨i1, e1, l1, h1⟩ := rfI (xv := s2) (iv := (s1 - 1)) (hRf _ (.tail _ (.head _))) (sE_k _ _) (sEv (y' := ((-1 : Int) + ((1 : Int) * s1 + 0))) rfl (by omega)) (sE_V rfl)
  have l1 : i1 < 940 := l1
  have h1 : hI hp 1 i1 = s2 := h1
  have hFc : ∀ q ∈ ([(88, [(.ofNat 0, [(.ofNat 1, 0)]), (.ofNat 0, []), (.ofNat 0, [(.ofNat 1, 3)])]), (87, [(.ofNat 0, [(.ofNat 1, 3)]), (.ofNat 255, []), (.ofNat 0, [(.ofNat 1, 2)])]), (178, [(.negSucc 0, [(.ofNat 1, 1)]), (.ofNat 3, []), (.ofNat 0, [(.ofNat 1, 0)])])] : List sFc), fcOk fFS [s0, s1, s2, s3] hp q := hH.2
  have f0 : ((0 : Int) = 24 → s3 % 256 = s0 / 16777216 % 256) ∧ ((0 : Int) = 16 → s3 % 256 = s0 / 65536 % 256) ∧ ((0 : Int) = 8 → s3 % 256 = s0 / 256 % 256) ∧ ((0 : Int) = 0 → s3 % 256 = s0 % 256) := fcX (ys := [s0, 0, s3]) (hFc _ (.head _)) ⟨sE_V rfl, sE_k _ _, sE_V rfl, trivial⟩
  have f1 : ((255 : Int) = 255 → s2 = s3 % 256) ∧ ((255 : Int) = 1 → s2 = s3 % 2) := fcX (ys := [s3, 255, s2]) (hFc _ (.tail _ (.head _))) ⟨sE_V rfl, sE_k _ _, sE_V rfl, trivial⟩
  have f2 : pxD (fun i => hI hp 1 i) (s1 - 1) (3 : Int) s0 := fcX (ys := [(s1 - 1), 3, s0]) (hFc _ (.tail _ (.tail _ (.head _)))) ⟨sEv (y' := ((-1 : Int) + ((1 : Int) * s1 + 0))) rfl (by omega), sE_k _ _, sE_V rfl, trivial⟩
  exact poX (.head _) rfl hR (all_nil) (all_nil) (all_cons ⟨[s1, 4, s0], ⟨sE_V rfl, sE_k _ _, sE_V rfl, trivial⟩, (show pxD (fun i => hI hp 1 i) s1 (4 : Int) s0 from px_s (r := 3) f2 (j := i1) h1 (by omega) (by omega) ⟨by omega, by omega⟩ (by rw [b8_3]; have u := f0.2.2.2 rfl; have w := f1.1 rfl; omega) (by omega) (by omega) (by decide))⟩ (all_nil))
theorem rl5 : ruOk fFS gR5 := by
  intro r hp hO hN hH
  obtain ⟨s0, s1, rfl⟩ := len2 (show r.length = 2 from hN.1)
  have hR := hN.2.1.1
  have hIv : ∀ q ∈ ([(0, .negSucc 2147483647, .ofNat 2147483647), (1, .negSucc 2147483647, .ofNat 2147483647)] : sIv), ∃ x, ([s0, s1] : List Int)[q.1]? = some x ∧ q.2.1 ≤ x ∧ x ≤ q.2.2 := hN.2.1.2
  have hFc : ∀ q ∈ ([(178, [(.ofNat 0, [(.ofNat 1, 0)]), (.ofNat 4, []), (.ofNat 0, [(.ofNat 1, 1)])])] : List sFc), fcOk fFS [s0, s1] hp q := hH.2
  have f0 : pxD (fun i => hI hp 1 i) s0 (4 : Int) s1 := fcX (ys := [s0, 4, s1]) (hFc _ (.head _)) ⟨sE_V rfl, sE_k _ _, sE_V rfl, trivial⟩
  exact poX (.head _) rfl hR (all_nil) (all_nil) (all_cons ⟨[s0, s1], ⟨sE_V rfl, sE_V rfl, trivial⟩, (show pxD (fun i => hI hp 1 i) s0 4 s1 from f0)⟩ (all_nil))
theorem rl6 : ruOk fFS gR6 := by
  intro r hp hO hN hH
  obtain ⟨s0, s1, rfl⟩ := len2 (show r.length = 2 from hN.1)
  have hR := hN.2.1.1
  have hIv : ∀ q ∈ ([(0, .negSucc 2147483647, .ofNat 2147483647), (1, .negSucc 2147483647, .ofNat 2147483647)] : sIv), ∃ x, ([s0, s1] : List Int)[q.1]? = some x ∧ q.2.1 ≤ x ∧ x ≤ q.2.2 := hN.2.1.2
  have hFc : ∀ q ∈ ([(178, [(.ofNat 0, [(.ofNat 1, 0)]), (.ofNat 4, []), (.ofNat 0, [(.ofNat 1, 1)])])] : List sFc), fcOk fFS [s0, s1] hp q := hH.2
  have f0 : pxD (fun i => hI hp 1 i) s0 (4 : Int) s1 := fcX (ys := [s0, 4, s1]) (hFc _ (.head _)) ⟨sE_V rfl, sE_k _ _, sE_V rfl, trivial⟩
  exact poX (.head _) rfl hR (all_nil) (all_nil) (all_cons ⟨[s0, s1], ⟨sE_V rfl, sE_V rfl, trivial⟩, (show pxD (fun i => hI hp 1 i) s0 4 s1 from f0)⟩ (all_nil))
theorem rl7 : ruOk fFS gR7 := by
  intro r hp hO hN hH
  obtain ⟨s0, s1, rfl⟩ := len2 (show r.length = 2 from hN.1)
  have hR := hN.2.1.1
  have hIv : ∀ q ∈ ([(0, .negSucc 2147483647, .ofNat 2147483647), (1, .negSucc 2147483647, .ofNat 2147483647)] : sIv), ∃ x, ([s0, s1] : List Int)[q.1]? = some x ∧ q.2.1 ≤ x ∧ x ≤ q.2.2 := hN.2.1.2
  have hFc : ∀ q ∈ ([(178, [(.ofNat 0, [(.ofNat 1, 0)]), (.ofNat 4, []), (.ofNat 0, [(.ofNat 1, 1)])])] : List sFc), fcOk fFS [s0, s1] hp q := hH.2
  have f0 : pxD (fun i => hI hp 1 i) s0 (4 : Int) s1 := fcX (ys := [s0, 4, s1]) (hFc _ (.head _)) ⟨sE_V rfl, sE_k _ _, sE_V rfl, trivial⟩
  exact poX (.head _) rfl hR (all_nil) (all_nil) (all_cons ⟨[s0, s1], ⟨sE_V rfl, sE_V rfl, trivial⟩, (show pxD (fun i => hI hp 1 i) s0 4 s1 from f0)⟩ (all_nil))
theorem rl8 : ruOk fFS gR8 := by
  intro r hp hO hN hH
  obtain ⟨s0, s1, rfl⟩ := len2 (show r.length = 2 from hN.1)
  have hR := hN.2.1.1
  have hIv : ∀ q ∈ ([(0, .negSucc 2147483647, .ofNat 2147483647), (1, .negSucc 2147483647, .ofNat 2147483647)] : sIv), ∃ x, ([s0, s1] : List Int)[q.1]? = some x ∧ q.2.1 ≤ x ∧ x ≤ q.2.2 := hN.2.1.2
  have hFc : ∀ q ∈ ([(178, [(.ofNat 0, [(.ofNat 1, 0)]), (.ofNat 4, []), (.ofNat 0, [(.ofNat 1, 1)])])] : List sFc), fcOk fFS [s0, s1] hp q := hH.2
  have f0 : pxD (fun i => hI hp 1 i) s0 (4 : Int) s1 := fcX (ys := [s0, 4, s1]) (hFc _ (.head _)) ⟨sE_V rfl, sE_k _ _, sE_V rfl, trivial⟩
  exact poX (.head _) rfl hR (all_nil) (all_nil) (all_cons ⟨[s0, s1], ⟨sE_V rfl, sE_V rfl, trivial⟩, (show pxD (fun i => hI hp 1 i) s0 4 s1 from f0)⟩ (all_nil))
theorem rl9 : ruOk fFS gR9 := by
  intro r hp hO hN hH
  obtain ⟨s0, s1, rfl⟩ := len2 (show r.length = 2 from hN.1)
  have hR := hN.2.1.1
  have hIv : ∀ q ∈ ([(0, .negSucc 2147483647, .ofNat 2147483647), (1, .negSucc 2147483647, .ofNat 2147483647)] : sIv), ∃ x, ([s0, s1] : List Int)[q.1]? = some x ∧ q.2.1 ≤ x ∧ x ≤ q.2.2 := hN.2.1.2
  have hFc : ∀ q ∈ ([(178, [(.ofNat 0, [(.ofNat 1, 0)]), (.ofNat 4, []), (.ofNat 0, [(.ofNat 1, 1)])])] : List sFc), fcOk fFS [s0, s1] hp q := hH.2
  have f0 : pxD (fun i => hI hp 1 i) s0 (4 : Int) s1 := fcX (ys := [s0, 4, s1]) (hFc _ (.head _)) ⟨sE_V rfl, sE_k _ _, sE_V rfl, trivial⟩
  exact poX (.head _) rfl hR (all_nil) (all_nil) (all_cons ⟨[s0, s1], ⟨sE_V rfl, sE_V rfl, trivial⟩, (show pxD (fun i => hI hp 1 i) s0 4 s1 from f0)⟩ (all_nil))
theorem rl10 : ruOk fFS gR10 := by
  intro r hp hO hN hH
  obtain ⟨s0, s1, s2, s3, s4, s5, rfl⟩ := len6 (show r.length = 6 from hN.1)
  have hR := hN.2.1.1
  have hIv : ∀ q ∈ ([(0, .negSucc 2147483647, .ofNat 2147483647), (1, .negSucc 2147483647, .ofNat 2147483647), (2, .negSucc 2147483647, .ofNat 2147483647), (3, .negSucc 2147483647, .ofNat 2147483647), (4, .negSucc 2147483647, .ofNat 2147483647), (5, .ofNat 20, .ofNat 940)] : sIv), ∃ x, ([s0, s1, s2, s3, s4, s5] : List Int)[q.1]? = some x ∧ q.2.1 ≤ x ∧ x ≤ q.2.2 := hN.2.1.2
  have b5 : (20 : Int) ≤ s5 ∧ s5 ≤ (940 : Int) := ivX (q := (5, .ofNat 20, .ofNat 940)) (y := s5) (hIv _ (.tail _ (.tail _ (.tail _ (.tail _ (.tail _ (.head _))))))) rfl
  have hRf : ∀ q ∈ ([((0, .ofNat 0, []), (.ofNat 1, []), 1, .ofNat 0, [(.ofNat 1, 5)])] : List sRf), rfOk [s0, s1, s2, s3, s4, s5] hp q := hH.1
  have h0 : hI hp 0 1 = s5 := rfI0 (hRf _ (.head _)) (sE_k _ _) (sE_k _ _) (sE_V rfl)
  have y0 : (0 : Int) ≤ s5 ∧ s5 ≤ (940 : Int) := by rw [← h0]; exact hI_ty hO (by decide) rfl
  have hFc : ∀ q ∈ ([(179, [(.negSucc 15, [(.ofNat 1, 5)]), (.ofNat 0, [(.ofNat 1, 0)])]), (180, [(.negSucc 11, [(.ofNat 1, 5)]), (.ofNat 0, [(.ofNat 1, 1)])]), (181, [(.negSucc 7, [(.ofNat 1, 5)]), (.ofNat 0, [(.ofNat 1, 2)])]), (182, [(.negSucc 3, [(.ofNat 1, 5)]), (.ofNat 0, [(.ofNat 1, 3)])]), (183, [(.ofNat 0, [(.ofNat 1, 5)]), (.ofNat 0, [(.ofNat 1, 4)])])] : List sFc), fcOk fFS [s0, s1, s2, s3, s4, s5] hp q := hH.2
  have f0 : pxD (fun i => hI hp 1 i) (s5 - 16) 4 s0 := fcX (ys := [(s5 - 16), s0]) (hFc _ (.head _)) ⟨sEv (y' := ((-16 : Int) + ((1 : Int) * s5 + 0))) rfl (by omega), sE_V rfl, trivial⟩
  have f1 : pxD (fun i => hI hp 1 i) (s5 - 12) 4 s1 := fcX (ys := [(s5 - 12), s1]) (hFc _ (.tail _ (.head _))) ⟨sEv (y' := ((-12 : Int) + ((1 : Int) * s5 + 0))) rfl (by omega), sE_V rfl, trivial⟩
  have f2 : pxD (fun i => hI hp 1 i) (s5 - 8) 4 s2 := fcX (ys := [(s5 - 8), s2]) (hFc _ (.tail _ (.tail _ (.head _)))) ⟨sEv (y' := ((-8 : Int) + ((1 : Int) * s5 + 0))) rfl (by omega), sE_V rfl, trivial⟩
  have f3 : pxD (fun i => hI hp 1 i) (s5 - 4) 4 s3 := fcX (ys := [(s5 - 4), s3]) (hFc _ (.tail _ (.tail _ (.tail _ (.head _))))) ⟨sEv (y' := ((-4 : Int) + ((1 : Int) * s5 + 0))) rfl (by omega), sE_V rfl, trivial⟩
  have f4 : pxD (fun i => hI hp 1 i) s5 4 s4 := fcX (ys := [s5, s4]) (hFc _ (.tail _ (.tail _ (.tail _ (.tail _ (.head _)))))) ⟨sE_V rfl, sE_V rfl, trivial⟩
  exact poX (.head _) rfl hR (all_nil) (all_nil) (all_cons ⟨[(s5 - 20), s0, s1, s2, s3, s4], ⟨sEv (y' := ((-20 : Int) + ((1 : Int) * s5 + 0))) rfl (by omega), sE_V rfl, sE_V rfl, sE_V rfl, sE_V rfl, sE_V rfl, trivial⟩, (show 0 ≤ (s5 - 20) ∧ (s5 - 20) + 20 ≤ 940 ∧ ∀ k : Nat, k < 4 → hI hp 1 ((s5 - 20).toNat + k) = b8 s0 k ∧ hI hp 1 ((s5 - 20).toNat + 4 + k) = b8 s1 k ∧ hI hp 1 ((s5 - 20).toNat + 8 + k) = b8 s2 k ∧ hI hp 1 ((s5 - 20).toNat + 12 + k) = b8 s3 k ∧ hI hp 1 ((s5 - 20).toNat + 16 + k) = b8 s4 k from fbx_of f0 f1 f2 f3 f4 ⟨by omega, by omega⟩ (by omega))⟩ (all_nil))
theorem rl11 : ruOk fFS gR11 := by
  intro r hp hO hN hH
  have hr0 := len0 (show r.length = 0 from hN.1)
  subst hr0
  have hR := hN.2.1.1
  have hFc : ∀ q ∈ ([(51, [])] : List sFc), fcOk fFS [] hp q := hH.2
  have f0 : ∀ i : Nat, i < 30 → hL hp 174 i = cd 32 96 (wrd i) := fcX (ys := []) (hFc _ (.head _)) trivial
  exact poX (.head _) rfl hR (all_nil) (all_nil) (all_cons ⟨[], trivial, (show True from trivial)⟩ (all_nil))
theorem rl12 : ruOk fFS gR12 := by
  intro r hp hO hN hH
  have hr0 := len0 (show r.length = 0 from hN.1)
  subst hr0
  have hR := hN.2.1.1
  have hRf : ∀ q ∈ ([((43, .ofNat 176, []), (.ofNat 1, []), 114, .ofNat 15, []), ((98, .ofNat 15, []), (.ofNat 7, []), 115, .ofNat 16, [])] : List sRf), rfOk [] hp q := hH.1
  have g0 : hC hp 176 1 = 15 := by
    have u := rfR0 (xv := (15 : Int)) (c0 := 176) (i0 := 1) (hRf _ (.head _)) (sE_k _ _) (sE_k _ _) (sE_k _ _)
    show hC hp (176) 1 = 15
    omega
  have g1 : rr hp 1 7 = 16 := by
    have u := rfR0 (xv := (16 : Int)) (c0 := hC hp 176 1) (i0 := 7) (hRf _ (.tail _ (.head _))) (by rw [g0]; exact sE_k _ _) (sE_k _ _) (sE_k _ _)
    show hC hp (hC hp 176 1) 7 = 16
    omega
  have hFc : ∀ q ∈ ([(100, [])] : List sFc), fcOk fFS [] hp q := hH.2
  have f0 : True := fcX (ys := []) (hFc _ (.head _)) trivial
  exact poX (.head _) rfl hR (all_nil) (all_nil) (all_cons ⟨[0], ⟨sE_k _ _, trivial⟩, (show ∀ j : Nat, j < 12 → (j : Int) < (0 : Int) → hL hp (rr hp 1 7) j = 0 from fun j _ w => absurd w (by omega))⟩ (all_nil))
theorem rl13 : ruOk fFS gR13 := by
  intro r hp hO hN hH
  obtain ⟨s0, s1, rfl⟩ := len2 (show r.length = 2 from hN.1)
  have hR := hN.2.1.1
  have hIv : ∀ q ∈ ([(0, .ofNat 0, .ofNat 11), (1, .ofNat 0, .ofNat 0)] : sIv), ∃ x, ([s0, s1] : List Int)[q.1]? = some x ∧ q.2.1 ≤ x ∧ x ≤ q.2.2 := hN.2.1.2
  have b0 : (0 : Int) ≤ s0 ∧ s0 ≤ (11 : Int) := ivX (q := (0, .ofNat 0, .ofNat 11)) (y := s0) (hIv _ (.head _)) rfl
  have b1 : (0 : Int) ≤ s1 ∧ s1 ≤ (0 : Int) := ivX (q := (1, .ofNat 0, .ofNat 0)) (y := s1) (hIv _ (.tail _ (.head _))) rfl
  have hRf : ∀ q ∈ ([((43, .ofNat 176, []), (.ofNat 1, []), 114, .ofNat 15, []), ((98, .ofNat 15, []), (.ofNat 7, []), 115, .ofNat 16, []), ((99, .ofNat 16, []), (.ofNat 0, [(.ofNat 1, 0)]), 5, .ofNat 0, [(.ofNat 1, 1)])] : List sRf), rfOk [s0, s1] hp q := hH.1
  have g0 : hC hp 176 1 = 15 := by
    have u := rfR0 (xv := (15 : Int)) (c0 := 176) (i0 := 1) (hRf _ (.head _)) (sE_k _ _) (sE_k _ _) (sE_k _ _)
    show hC hp (176) 1 = 15
    omega
  have g1 : rr hp 1 7 = 16 := by
    have u := rfR0 (xv := (16 : Int)) (c0 := hC hp 176 1) (i0 := 7) (hRf _ (.tail _ (.head _))) (by rw [g0]; exact sE_k _ _) (sE_k _ _) (sE_k _ _)
    show hC hp (hC hp 176 1) 7 = 16
    omega
  obtain ⟨i2, e2, l2, h2⟩ := rfL (c0 := rr hp 1 7) (iv := s0) (hRf _ (.tail _ (.tail _ (.head _)))) (by rw [g1]; exact sE_k _ _) (sE_V rfl) (sE_V rfl)
  have l2 : i2 < 12 := l2
  have h2 : hL hp (rr hp 1 7) i2 = s1 := h2
  have hFc : ∀ q ∈ ([(101, [(.ofNat 0, [(.ofNat 1, 0)])])] : List sFc), fcOk fFS [s0, s1] hp q := hH.2
  have f0 : ∀ j : Nat, j < 12 → (j : Int) < s0 → hL hp (rr hp 1 7) j = 0 := fcX (ys := [s0]) (hFc _ (.head _)) ⟨sE_V rfl, trivial⟩
  exact poX (.head _) rfl hR (all_nil) (all_nil) (all_cons ⟨[(s0 + 1)], ⟨sEv (y' := ((1 : Int) + ((1 : Int) * s0 + 0))) rfl (by omega), trivial⟩, (show ∀ j : Nat, j < 12 → (j : Int) < (s0 + 1) → hL hp (rr hp 1 7) j = 0 from fl_s f0 h2 (by omega) (by omega) (by omega))⟩ (all_nil))
theorem rl14 : ruOk fFS gR14 := by
  intro r hp hO hN hH
  obtain ⟨s0, rfl⟩ := len1 (show r.length = 1 from hN.1)
  have hR := hN.2.1.1
  have hIv : ∀ q ∈ ([(0, .ofNat 12, .ofNat 12)] : sIv), ∃ x, ([s0] : List Int)[q.1]? = some x ∧ q.2.1 ≤ x ∧ x ≤ q.2.2 := hN.2.1.2
  have b0 : (12 : Int) ≤ s0 ∧ s0 ≤ (12 : Int) := ivX (q := (0, .ofNat 12, .ofNat 12)) (y := s0) (hIv _ (.head _)) rfl
  have hRf : ∀ q ∈ ([((43, .ofNat 176, []), (.ofNat 1, []), 114, .ofNat 15, []), ((98, .ofNat 15, []), (.ofNat 7, []), 115, .ofNat 16, [])] : List sRf), rfOk [s0] hp q := hH.1
  have g0 : hC hp 176 1 = 15 := by
    have u := rfR0 (xv := (15 : Int)) (c0 := 176) (i0 := 1) (hRf _ (.head _)) (sE_k _ _) (sE_k _ _) (sE_k _ _)
    show hC hp (176) 1 = 15
    omega
  have g1 : rr hp 1 7 = 16 := by
    have u := rfR0 (xv := (16 : Int)) (c0 := hC hp 176 1) (i0 := 7) (hRf _ (.tail _ (.head _))) (by rw [g0]; exact sE_k _ _) (sE_k _ _) (sE_k _ _)
    show hC hp (hC hp 176 1) 7 = 16
    omega
  have hFc : ∀ q ∈ ([(101, [(.ofNat 0, [(.ofNat 1, 0)])])] : List sFc), fcOk fFS [s0] hp q := hH.2
  have f0 : ∀ j : Nat, j < 12 → (j : Int) < s0 → hL hp (rr hp 1 7) j = 0 := fcX (ys := [s0]) (hFc _ (.head _)) ⟨sE_V rfl, trivial⟩
  exact poX (.head _) rfl hR (all_nil) (all_nil) (all_cons ⟨[], trivial, (show ∀ j : Nat, j < 12 → hL hp (rr hp 1 7) j = 0 from fun j hj => f0 j hj (by omega))⟩ (all_nil))
theorem rl15 : ruOk fFS gR15 := by
  intro r hp hO hN hH
  obtain ⟨s0, rfl⟩ := len1 (show r.length = 1 from hN.1)
  have hR := hN.2.1.1
  have hRf : ∀ q ∈ ([((43, .ofNat 176, []), (.ofNat 1, []), 114, .ofNat 15, []), ((98, .ofNat 15, []), (.ofNat 8, []), 20, .ofNat 0, [(.ofNat 1, 0)])] : List sRf), rfOk [s0] hp q := hH.1
  have g0 : hC hp 176 1 = 15 := by
    have u := rfR0 (xv := (15 : Int)) (c0 := 176) (i0 := 1) (hRf _ (.head _)) (sE_k _ _) (sE_k _ _) (sE_k _ _)
    show hC hp (176) 1 = 15
    omega
  have g1 : s0 = ((rr hp 1 8 : Nat) : Int) := rfR0 (c0 := hC hp 176 1) (hRf _ (.tail _ (.head _))) (by rw [g0]; exact sE_k _ _) (sE_k _ _) (sE_V rfl)
  have hFc : ∀ q ∈ ([(100, [])] : List sFc), fcOk fFS [s0] hp q := hH.2
  have f0 : True := fcX (ys := []) (hFc _ (.head _)) trivial
  exact poX (.head _) rfl hR (all_nil) (all_nil) (all_cons ⟨[0], ⟨sE_k _ _, trivial⟩, (show ∀ j : Nat, j < 100 → (j : Int) < (0 : Int) → hI hp (rr hp 1 8) j = -1 from fun j _ w => absurd w (by omega))⟩ (all_nil))
theorem rl16 : ruOk fFS gR16 := by
  intro r hp hO hN hH
  obtain ⟨s0, s1, s2, rfl⟩ := len3 (show r.length = 3 from hN.1)
  have hR := hN.2.1.1
  have hIv : ∀ q ∈ ([(1, .ofNat 0, .ofNat 99), (2, .negSucc 0, .negSucc 0)] : sIv), ∃ x, ([s0, s1, s2] : List Int)[q.1]? = some x ∧ q.2.1 ≤ x ∧ x ≤ q.2.2 := hN.2.1.2
  have b0 : (0 : Int) ≤ s1 ∧ s1 ≤ (99 : Int) := ivX (q := (1, .ofNat 0, .ofNat 99)) (y := s1) (hIv _ (.head _)) rfl
  have b1 : (-1 : Int) ≤ s2 ∧ s2 ≤ (-1 : Int) := ivX (q := (2, .negSucc 0, .negSucc 0)) (y := s2) (hIv _ (.tail _ (.head _))) rfl
  have hRf : ∀ q ∈ ([((43, .ofNat 176, []), (.ofNat 1, []), 114, .ofNat 15, []), ((98, .ofNat 15, []), (.ofNat 8, []), 20, .ofNat 0, [(.ofNat 1, 0)]), ((4, .ofNat 0, [(.ofNat 1, 0)]), (.ofNat 0, [(.ofNat 1, 1)]), 1, .ofNat 0, [(.ofNat 1, 2)])] : List sRf), rfOk [s0, s1, s2] hp q := hH.1
  have g0 : hC hp 176 1 = 15 := by
    have u := rfR0 (xv := (15 : Int)) (c0 := 176) (i0 := 1) (hRf _ (.head _)) (sE_k _ _) (sE_k _ _) (sE_k _ _)
    show hC hp (176) 1 = 15
    omega
  have g1 : s0 = ((rr hp 1 8 : Nat) : Int) := rfR0 (c0 := hC hp 176 1) (hRf _ (.tail _ (.head _))) (by rw [g0]; exact sE_k _ _) (sE_k _ _) (sE_V rfl)
  obtain ⟨i2, e2, l2, h2⟩ := rfI (xv := s2) (iv := s1) (hRf _ (.tail _ (.tail _ (.head _)))) (sEv (sE_V rfl) g1.symm) (sE_V rfl) (sE_V rfl)
  have l2 : i2 < 100 := l2
  have h2 : hI hp (rr hp 1 8) i2 = s2 := h2
  have hFc : ∀ q ∈ ([(103, [(.ofNat 0, [(.ofNat 1, 1)])])] : List sFc), fcOk fFS [s0, s1, s2] hp q := hH.2
  have f0 : ∀ j : Nat, j < 100 → (j : Int) < s1 → hI hp (rr hp 1 8) j = -1 := fcX (ys := [s1]) (hFc _ (.head _)) ⟨sE_V rfl, trivial⟩
  exact poX (.head _) rfl hR (all_nil) (all_nil) (all_cons ⟨[(s1 + 1)], ⟨sEv (y' := ((1 : Int) + ((1 : Int) * s1 + 0))) rfl (by omega), trivial⟩, (show ∀ j : Nat, j < 100 → (j : Int) < (s1 + 1) → hI hp (rr hp 1 8) j = -1 from fl_s f0 h2 (by omega) (by omega) (by omega))⟩ (all_nil))
theorem rl17 : ruOk fFS gR17 := by
  intro r hp hO hN hH
  obtain ⟨s0, s1, rfl⟩ := len2 (show r.length = 2 from hN.1)
  have hR := hN.2.1.1
  have hIv : ∀ q ∈ ([(1, .ofNat 100, .ofNat 100)] : sIv), ∃ x, ([s0, s1] : List Int)[q.1]? = some x ∧ q.2.1 ≤ x ∧ x ≤ q.2.2 := hN.2.1.2
  have b0 : (100 : Int) ≤ s1 ∧ s1 ≤ (100 : Int) := ivX (q := (1, .ofNat 100, .ofNat 100)) (y := s1) (hIv _ (.head _)) rfl
  have hRf : ∀ q ∈ ([((43, .ofNat 176, []), (.ofNat 1, []), 114, .ofNat 15, []), ((98, .ofNat 15, []), (.ofNat 8, []), 20, .ofNat 0, [(.ofNat 1, 0)])] : List sRf), rfOk [s0, s1] hp q := hH.1
  have g0 : hC hp 176 1 = 15 := by
    have u := rfR0 (xv := (15 : Int)) (c0 := 176) (i0 := 1) (hRf _ (.head _)) (sE_k _ _) (sE_k _ _) (sE_k _ _)
    show hC hp (176) 1 = 15
    omega
  have g1 : s0 = ((rr hp 1 8 : Nat) : Int) := rfR0 (c0 := hC hp 176 1) (hRf _ (.tail _ (.head _))) (by rw [g0]; exact sE_k _ _) (sE_k _ _) (sE_V rfl)
  have hFc : ∀ q ∈ ([(103, [(.ofNat 0, [(.ofNat 1, 1)])])] : List sFc), fcOk fFS [s0, s1] hp q := hH.2
  have f0 : ∀ j : Nat, j < 100 → (j : Int) < s1 → hI hp (rr hp 1 8) j = -1 := fcX (ys := [s1]) (hFc _ (.head _)) ⟨sE_V rfl, trivial⟩
  exact poX (.head _) rfl hR (all_nil) (all_nil) (all_cons ⟨[], trivial, (show ∀ j : Nat, j < 100 → hI hp (rr hp 1 8) j = -1 from fun j hj => f0 j hj (by omega))⟩ (all_nil))
theorem rl18 : ruOk fFS gR18 := by
  intro r hp hO hN hH
  obtain ⟨s0, rfl⟩ := len1 (show r.length = 1 from hN.1)
  have hR := hN.2.1.1
  have hRf : ∀ q ∈ ([((43, .ofNat 176, []), (.ofNat 1, []), 114, .ofNat 15, []), ((98, .ofNat 15, []), (.ofNat 9, []), 21, .ofNat 0, [(.ofNat 1, 0)])] : List sRf), rfOk [s0] hp q := hH.1
  have g0 : hC hp 176 1 = 15 := by
    have u := rfR0 (xv := (15 : Int)) (c0 := 176) (i0 := 1) (hRf _ (.head _)) (sE_k _ _) (sE_k _ _) (sE_k _ _)
    show hC hp (176) 1 = 15
    omega
  have g1 : s0 = ((rr hp 1 9 : Nat) : Int) := rfR0 (c0 := hC hp 176 1) (hRf _ (.tail _ (.head _))) (by rw [g0]; exact sE_k _ _) (sE_k _ _) (sE_V rfl)
  have hFc : ∀ q ∈ ([(100, [])] : List sFc), fcOk fFS [s0] hp q := hH.2
  have f0 : True := fcX (ys := []) (hFc _ (.head _)) trivial
  exact poX (.head _) rfl hR (all_nil) (all_nil) (all_cons ⟨[0], ⟨sE_k _ _, trivial⟩, (show ∀ j : Nat, j < 100 → (j : Int) < (0 : Int) → hI hp (rr hp 1 9) j = -1 from fun j _ w => absurd w (by omega))⟩ (all_nil))
theorem rl19 : ruOk fFS gR19 := by
  intro r hp hO hN hH
  obtain ⟨s0, s1, s2, rfl⟩ := len3 (show r.length = 3 from hN.1)
  have hR := hN.2.1.1
  have hIv : ∀ q ∈ ([(1, .ofNat 0, .ofNat 99), (2, .negSucc 0, .negSucc 0)] : sIv), ∃ x, ([s0, s1, s2] : List Int)[q.1]? = some x ∧ q.2.1 ≤ x ∧ x ≤ q.2.2 := hN.2.1.2
  have b0 : (0 : Int) ≤ s1 ∧ s1 ≤ (99 : Int) := ivX (q := (1, .ofNat 0, .ofNat 99)) (y := s1) (hIv _ (.head _)) rfl
  have b1 : (-1 : Int) ≤ s2 ∧ s2 ≤ (-1 : Int) := ivX (q := (2, .negSucc 0, .negSucc 0)) (y := s2) (hIv _ (.tail _ (.head _))) rfl
  have hRf : ∀ q ∈ ([((43, .ofNat 176, []), (.ofNat 1, []), 114, .ofNat 15, []), ((98, .ofNat 15, []), (.ofNat 9, []), 21, .ofNat 0, [(.ofNat 1, 0)]), ((5, .ofNat 0, [(.ofNat 1, 0)]), (.ofNat 0, [(.ofNat 1, 1)]), 1, .ofNat 0, [(.ofNat 1, 2)])] : List sRf), rfOk [s0, s1, s2] hp q := hH.1
  have g0 : hC hp 176 1 = 15 := by
    have u := rfR0 (xv := (15 : Int)) (c0 := 176) (i0 := 1) (hRf _ (.head _)) (sE_k _ _) (sE_k _ _) (sE_k _ _)
    show hC hp (176) 1 = 15
    omega
  have g1 : s0 = ((rr hp 1 9 : Nat) : Int) := rfR0 (c0 := hC hp 176 1) (hRf _ (.tail _ (.head _))) (by rw [g0]; exact sE_k _ _) (sE_k _ _) (sE_V rfl)
  obtain ⟨i2, e2, l2, h2⟩ := rfI (xv := s2) (iv := s1) (hRf _ (.tail _ (.tail _ (.head _)))) (sEv (sE_V rfl) g1.symm) (sE_V rfl) (sE_V rfl)
  have l2 : i2 < 100 := l2
  have h2 : hI hp (rr hp 1 9) i2 = s2 := h2
  have hFc : ∀ q ∈ ([(105, [(.ofNat 0, [(.ofNat 1, 1)])])] : List sFc), fcOk fFS [s0, s1, s2] hp q := hH.2
  have f0 : ∀ j : Nat, j < 100 → (j : Int) < s1 → hI hp (rr hp 1 9) j = -1 := fcX (ys := [s1]) (hFc _ (.head _)) ⟨sE_V rfl, trivial⟩
  exact poX (.head _) rfl hR (all_nil) (all_nil) (all_cons ⟨[(s1 + 1)], ⟨sEv (y' := ((1 : Int) + ((1 : Int) * s1 + 0))) rfl (by omega), trivial⟩, (show ∀ j : Nat, j < 100 → (j : Int) < (s1 + 1) → hI hp (rr hp 1 9) j = -1 from fl_s f0 h2 (by omega) (by omega) (by omega))⟩ (all_nil))
theorem rl20 : ruOk fFS gR20 := by
  intro r hp hO hN hH
  obtain ⟨s0, s1, rfl⟩ := len2 (show r.length = 2 from hN.1)
  have hR := hN.2.1.1
  have hIv : ∀ q ∈ ([(1, .ofNat 100, .ofNat 100)] : sIv), ∃ x, ([s0, s1] : List Int)[q.1]? = some x ∧ q.2.1 ≤ x ∧ x ≤ q.2.2 := hN.2.1.2
  have b0 : (100 : Int) ≤ s1 ∧ s1 ≤ (100 : Int) := ivX (q := (1, .ofNat 100, .ofNat 100)) (y := s1) (hIv _ (.head _)) rfl
  have hRf : ∀ q ∈ ([((43, .ofNat 176, []), (.ofNat 1, []), 114, .ofNat 15, []), ((98, .ofNat 15, []), (.ofNat 9, []), 21, .ofNat 0, [(.ofNat 1, 0)])] : List sRf), rfOk [s0, s1] hp q := hH.1
  have g0 : hC hp 176 1 = 15 := by
    have u := rfR0 (xv := (15 : Int)) (c0 := 176) (i0 := 1) (hRf _ (.head _)) (sE_k _ _) (sE_k _ _) (sE_k _ _)
    show hC hp (176) 1 = 15
    omega
  have g1 : s0 = ((rr hp 1 9 : Nat) : Int) := rfR0 (c0 := hC hp 176 1) (hRf _ (.tail _ (.head _))) (by rw [g0]; exact sE_k _ _) (sE_k _ _) (sE_V rfl)
  have hFc : ∀ q ∈ ([(105, [(.ofNat 0, [(.ofNat 1, 1)])])] : List sFc), fcOk fFS [s0, s1] hp q := hH.2
  have f0 : ∀ j : Nat, j < 100 → (j : Int) < s1 → hI hp (rr hp 1 9) j = -1 := fcX (ys := [s1]) (hFc _ (.head _)) ⟨sE_V rfl, trivial⟩
  exact poX (.head _) rfl hR (all_nil) (all_nil) (all_cons ⟨[], trivial, (show ∀ j : Nat, j < 100 → hI hp (rr hp 1 9) j = -1 from fun j hj => f0 j hj (by omega))⟩ (all_nil))
theorem rl21 : ruOk fFS gR21 := by
  intro r hp hO hN hH
  obtain ⟨s0, s1, rfl⟩ := len2 (show r.length = 2 from hN.1)
  have hR := hN.2.1.1
  have hRf : ∀ q ∈ ([((43, .ofNat 176, []), (.ofNat 2, []), 31, .ofNat 0, [(.ofNat 1, 1)]), ((15, .ofNat 0, [(.ofNat 1, 1)]), (.ofNat 10, []), 37, .ofNat 0, [(.ofNat 1, 0)])] : List sRf), rfOk [s0, s1] hp q := hH.1
  have g0 : s1 = ((hC hp 176 2 : Nat) : Int) := rfR0 (hRf _ (.head _)) (sE_k _ _) (sE_k _ _) (sE_V rfl)
  have g1 : s0 = ((rr hp 2 10 : Nat) : Int) := rfR0 (hRf _ (.tail _ (.head _))) (sEv (sE_V rfl) g0.symm) (sE_k _ _) (sE_V rfl)
  have hFc : ∀ q ∈ ([(100, [])] : List sFc), fcOk fFS [s0, s1] hp q := hH.2
  have f0 : True := fcX (ys := []) (hFc _ (.head _)) trivial
  exact poX (.head _) rfl hR (all_nil) (all_nil) (all_cons ⟨[0], ⟨sE_k _ _, trivial⟩, (show ∀ j : Nat, j < 10 → (j : Int) < (0 : Int) → hI hp (rr hp 2 10) j = 0 from fun j _ w => absurd w (by omega))⟩ (all_nil))
theorem rl22 : ruOk fFS gR22 := by
  intro r hp hO hN hH
  obtain ⟨s0, s1, s2, s3, rfl⟩ := len4 (show r.length = 4 from hN.1)
  have hR := hN.2.1.1
  have hIv : ∀ q ∈ ([(1, .ofNat 0, .ofNat 9), (3, .ofNat 0, .ofNat 0)] : sIv), ∃ x, ([s0, s1, s2, s3] : List Int)[q.1]? = some x ∧ q.2.1 ≤ x ∧ x ≤ q.2.2 := hN.2.1.2
  have b0 : (0 : Int) ≤ s1 ∧ s1 ≤ (9 : Int) := ivX (q := (1, .ofNat 0, .ofNat 9)) (y := s1) (hIv _ (.head _)) rfl
  have b1 : (0 : Int) ≤ s3 ∧ s3 ≤ (0 : Int) := ivX (q := (3, .ofNat 0, .ofNat 0)) (y := s3) (hIv _ (.tail _ (.head _))) rfl
  have hRf : ∀ q ∈ ([((43, .ofNat 176, []), (.ofNat 2, []), 31, .ofNat 0, [(.ofNat 1, 2)]), ((15, .ofNat 0, [(.ofNat 1, 2)]), (.ofNat 10, []), 37, .ofNat 0, [(.ofNat 1, 0)]), ((21, .ofNat 0, [(.ofNat 1, 0)]), (.ofNat 0, [(.ofNat 1, 1)]), 1, .ofNat 0, [(.ofNat 1, 3)])] : List sRf), rfOk [s0, s1, s2, s3] hp q := hH.1
  have g0 : s2 = ((hC hp 176 2 : Nat) : Int) := rfR0 (hRf _ (.head _)) (sE_k _ _) (sE_k _ _) (sE_V rfl)
  have g1 : s0 = ((rr hp 2 10 : Nat) : Int) := rfR0 (hRf _ (.tail _ (.head _))) (sEv (sE_V rfl) g0.symm) (sE_k _ _) (sE_V rfl)
  obtain ⟨i2, e2, l2, h2⟩ := rfI (xv := s3) (iv := s1) (hRf _ (.tail _ (.tail _ (.head _)))) (sEv (sE_V rfl) g1.symm) (sE_V rfl) (sE_V rfl)
  have l2 : i2 < 10 := l2
  have h2 : hI hp (rr hp 2 10) i2 = s3 := h2
  have hFc : ∀ q ∈ ([(107, [(.ofNat 0, [(.ofNat 1, 1)])])] : List sFc), fcOk fFS [s0, s1, s2, s3] hp q := hH.2
  have f0 : ∀ j : Nat, j < 10 → (j : Int) < s1 → hI hp (rr hp 2 10) j = 0 := fcX (ys := [s1]) (hFc _ (.head _)) ⟨sE_V rfl, trivial⟩
  exact poX (.head _) rfl hR (all_nil) (all_nil) (all_cons ⟨[(s1 + 1)], ⟨sEv (y' := ((1 : Int) + ((1 : Int) * s1 + 0))) rfl (by omega), trivial⟩, (show ∀ j : Nat, j < 10 → (j : Int) < (s1 + 1) → hI hp (rr hp 2 10) j = 0 from fl_s f0 h2 (by omega) (by omega) (by omega))⟩ (all_nil))
theorem rl23 : ruOk fFS gR23 := by
  intro r hp hO hN hH
  obtain ⟨s0, s1, s2, rfl⟩ := len3 (show r.length = 3 from hN.1)
  have hR := hN.2.1.1
  have hIv : ∀ q ∈ ([(1, .ofNat 10, .ofNat 10)] : sIv), ∃ x, ([s0, s1, s2] : List Int)[q.1]? = some x ∧ q.2.1 ≤ x ∧ x ≤ q.2.2 := hN.2.1.2
  have b0 : (10 : Int) ≤ s1 ∧ s1 ≤ (10 : Int) := ivX (q := (1, .ofNat 10, .ofNat 10)) (y := s1) (hIv _ (.head _)) rfl
  have hRf : ∀ q ∈ ([((43, .ofNat 176, []), (.ofNat 2, []), 31, .ofNat 0, [(.ofNat 1, 2)]), ((15, .ofNat 0, [(.ofNat 1, 2)]), (.ofNat 10, []), 37, .ofNat 0, [(.ofNat 1, 0)])] : List sRf), rfOk [s0, s1, s2] hp q := hH.1
  have g0 : s2 = ((hC hp 176 2 : Nat) : Int) := rfR0 (hRf _ (.head _)) (sE_k _ _) (sE_k _ _) (sE_V rfl)
  have g1 : s0 = ((rr hp 2 10 : Nat) : Int) := rfR0 (hRf _ (.tail _ (.head _))) (sEv (sE_V rfl) g0.symm) (sE_k _ _) (sE_V rfl)
  have hFc : ∀ q ∈ ([(107, [(.ofNat 0, [(.ofNat 1, 1)])])] : List sFc), fcOk fFS [s0, s1, s2] hp q := hH.2
  have f0 : ∀ j : Nat, j < 10 → (j : Int) < s1 → hI hp (rr hp 2 10) j = 0 := fcX (ys := [s1]) (hFc _ (.head _)) ⟨sE_V rfl, trivial⟩
  exact poX (.head _) rfl hR (all_nil) (all_nil) (all_cons ⟨[], trivial, (show ∀ j : Nat, j < 10 → hI hp (rr hp 2 10) j = 0 from fun j hj => f0 j hj (by omega))⟩ (all_nil))
theorem rl24 : ruOk fFS gR24 := by
  intro r hp hO hN hH
  have hr0 := len0 (show r.length = 0 from hN.1)
  subst hr0
  have hR := hN.2.1.1
  have hRf : ∀ q ∈ ([((40, .ofNat 173, []), (.ofNat 9, []), 1, .ofNat 0, []), ((40, .ofNat 173, []), (.ofNat 4, []), 1, .ofNat 0, [])] : List sRf), rfOk [] hp q := hH.1
  have h0 : hI hp 173 9 = 0 := rfI0 (hRf _ (.head _)) (sE_k _ _) (sE_k _ _) (sE_k _ _)
  have h1 : hI hp 173 4 = 0 := rfI0 (hRf _ (.tail _ (.head _))) (sE_k _ _) (sE_k _ _) (sE_k _ _)
  have hFc : ∀ q ∈ ([(102, []), (104, []), (106, []), (108, [])] : List sFc), fcOk fFS [] hp q := hH.2
  have f0 : ∀ j : Nat, j < 12 → hL hp (rr hp 1 7) j = 0 := fcX (ys := []) (hFc _ (.head _)) trivial
  have f1 : ∀ j : Nat, j < 100 → hI hp (rr hp 1 8) j = -1 := fcX (ys := []) (hFc _ (.tail _ (.head _))) trivial
  have f2 : ∀ j : Nat, j < 100 → hI hp (rr hp 1 9) j = -1 := fcX (ys := []) (hFc _ (.tail _ (.tail _ (.head _)))) trivial
  have f3 : ∀ j : Nat, j < 10 → hI hp (rr hp 2 10) j = 0 := fcX (ys := []) (hFc _ (.tail _ (.tail _ (.tail _ (.head _))))) trivial
  exact poX (.head _) rfl hR (all_nil) (all_nil) (all_cons ⟨[0, 0, 0, 0, 0, 0, 0, 0, 0], ⟨sE_k _ _, sE_k _ _, sE_k _ _, sE_k _ _, sE_k _ _, sE_k _ _, sE_k _ _, sE_k _ _, sE_k _ _, trivial⟩, (show Gq (XT hp) (0 : Int) (0 : Int) (0 : Int) (0 : Int) (0 : Int) (0 : Int) (0 : Int) (0 : Int) (0 : Int) from ⟨d0, G_0⟩)⟩ (all_cons ⟨[0, 0, 0, 0, 0, 0, 0, 0, 0, 6, 6], ⟨sE_k _ _, sE_k _ _, sE_k _ _, sE_k _ _, sE_k _ _, sE_k _ _, sE_k _ _, sE_k _ _, sE_k _ _, sE_k _ _, sE_k _ _, trivial⟩, (show CT (XT hp) (0 : Int) (0 : Int) (0 : Int) (0 : Int) (0 : Int) (0 : Int) (0 : Int) (0 : Int) (0 : Int) (6 : Int) (6 : Int) from ⟨d0, dat_0, rfl, rfl, rfl, rfl, rfl, rfl, rfl, rfl, rfl, rfl⟩)⟩ (all_cons ⟨[0], ⟨sE_k _ _, trivial⟩, (show dF (XT hp) (0 : Int) (fun D => ∀ j : Nat, j < 12 → hL hp (rr hp 1 7) j = cd 32 96 (nm D j)) from ⟨d0, dat_0, fun j hj => by rw [f0 j hj, nm_0]; rfl⟩)⟩ (all_cons ⟨[0], ⟨sE_k _ _, trivial⟩, (show dF (XT hp) (0 : Int) (fun D => ∀ p : Nat, p < 100 → (fX hp p ↔ ¬ tkI D p)) from ⟨d0, dat_0, fun p hp_ => ⟨fun _ => tk_0, fun _ => ⟨f1 p hp_, f2 p hp_⟩⟩⟩)⟩ (all_cons ⟨[0, 0], ⟨sE_k _ _, sE_k _ _, trivial⟩, (show dF (XT hp) (0 : Int) (fun D => (0 : Int) = (dTr D).length ∧ ∀ i : Nat, i < 14 → (i : Int) < (0 : Int) → (dTr D)[i]? = some (hI hp (rr hp 2 6) i, hI hp (rr hp 2 7) i)) from ⟨d0, dat_0, rfl, fun i _ w => absurd w (by omega)⟩)⟩ (all_cons ⟨[0], ⟨sE_k _ _, trivial⟩, (show dF (XT hp) (0 : Int) (fun D => ∀ j : Nat, j < 10 → wR (hI hp (rr hp 2 10) j) D j) from ⟨d0, dat_0, fun j hj => wr_0 (f3 j hj)⟩)⟩ (all_cons ⟨[0, 0], ⟨sE_k _ _, sE_k _ _, trivial⟩, (show dF (XT hp) (0 : Int) (fun D => (0 : Int) = (dWi D).length ∧ ∀ i : Nat, i < 8 → (i : Int) < (0 : Int) → (dWi D)[i]? = some (hI hp (rr hp 1 16) i, hI hp (rr hp 1 17) i)) from ⟨d0, dat_0, rfl, fun i _ w => absurd w (by omega)⟩)⟩ (all_cons ⟨[0], ⟨sE_k _ _, trivial⟩, (show ∀ i : Nat, i < 14 → (i : Int) < (0 : Int) → bt (hI hp (hC hp 176 2) 2) i from fun i _ w => absurd w (by omega))⟩ (all_nil)))))))))
theorem rl25 : ruOk fFS gR25 := by
  intro r hp hO hN hH
  obtain ⟨s0, s1, rfl⟩ := len2 (show r.length = 2 from hN.1)
  have hR := hN.2.1.1
  have hIv : ∀ q ∈ ([(0, .negSucc 2147483647, .ofNat 2147483647), (1, .negSucc 2147483647, .ofNat 2147483647)] : sIv), ∃ x, ([s0, s1] : List Int)[q.1]? = some x ∧ q.2.1 ≤ x ∧ x ≤ q.2.2 := hN.2.1.2
  have hRf : ∀ q ∈ ([((40, .ofNat 173, []), (.ofNat 4, []), 1, .ofNat 0, [(.ofNat 1, 0)])] : List sRf), rfOk [s0, s1] hp q := hH.1
  have h0 : hI hp 173 4 = s0 := rfI0 (hRf _ (.head _)) (sE_k _ _) (sE_k _ _) (sE_V rfl)
  have y0 : (0 : Int) ≤ s0 ∧ s0 ≤ (940 : Int) := by rw [← h0]; exact hI_ty hO (by decide) rfl
  have hFc : ∀ q ∈ ([(40, [(.ofNat 0, [(.ofNat 1, 1)]), (.ofNat 0, [(.ofNat 1, 0)])])] : List sFc), fcOk fFS [s0, s1] hp q := hH.2
  have f0 : SK (XT hp).1 (XT hp).2.1 s1 s0 := fcX (ys := [s1, s0]) (hFc _ (.head _)) ⟨sE_V rfl, sE_V rfl, trivial⟩
  exact poX (.head _) rfl hR (all_nil) (all_nil) (all_cons ⟨[s1, s0], ⟨sE_V rfl, sE_V rfl, trivial⟩, (show SK (XT hp).1 (XT hp).2.1 s1 s0 from f0)⟩ (all_nil))
theorem rl26 : ruOk fFS gR26 := by
  intro r hp hO hN hH
  obtain ⟨s0, rfl⟩ := len1 (show r.length = 1 from hN.1)
  have hR := hN.2.1.1
  have hIv : ∀ q ∈ ([(0, .negSucc 2147483647, .ofNat 2147483647)] : sIv), ∃ x, ([s0] : List Int)[q.1]? = some x ∧ q.2.1 ≤ x ∧ x ≤ q.2.2 := hN.2.1.2
  have hRf : ∀ q ∈ ([((40, .ofNat 173, []), (.ofNat 4, []), 1, .ofNat 0, [(.ofNat 1, 0)])] : List sRf), rfOk [s0] hp q := hH.1
  have h0 : hI hp 173 4 = s0 := rfI0 (hRf _ (.head _)) (sE_k _ _) (sE_k _ _) (sE_V rfl)
  have y0 : (0 : Int) ≤ s0 ∧ s0 ≤ (940 : Int) := by rw [← h0]; exact hI_ty hO (by decide) rfl
  exact poX (.head _) rfl hR (all_nil) (all_nil) (all_cons ⟨[s0, s0], ⟨sE_V rfl, sE_V rfl, trivial⟩, (show SK (XT hp).1 (XT hp).2.1 s0 s0 from sk_0 (by omega))⟩ (all_nil))
theorem rl27 : ruOk fFS gR27 := by
  intro r hp hO hN hH
  obtain ⟨s0, s1, rfl⟩ := len2 (show r.length = 2 from hN.1)
  have hR := hN.2.1.1
  have hIv : ∀ q ∈ ([(0, .ofNat 0, .ofNat 939), (1, .ofNat 0, .ofNat 255)] : sIv), ∃ x, ([s0, s1] : List Int)[q.1]? = some x ∧ q.2.1 ≤ x ∧ x ≤ q.2.2 := hN.2.1.2
  have b0 : (0 : Int) ≤ s0 ∧ s0 ≤ (939 : Int) := ivX (q := (0, .ofNat 0, .ofNat 939)) (y := s0) (hIv _ (.head _)) rfl
  have b1 : (0 : Int) ≤ s1 ∧ s1 ≤ (255 : Int) := ivX (q := (1, .ofNat 0, .ofNat 255)) (y := s1) (hIv _ (.tail _ (.head _))) rfl
  have hRf : ∀ q ∈ ([((40, .ofNat 173, []), (.ofNat 4, []), 1, .ofNat 0, [(.ofNat 1, 0)]), ((1, .ofNat 1, []), (.ofNat 0, [(.ofNat 1, 0)]), 1, .ofNat 0, [(.ofNat 1, 1)])] : List sRf), rfOk [s0, s1] hp q := hH.1
  have h0 : hI hp 173 4 = s0 := rfI0 (hRf _ (.head _)) (sE_k _ _) (sE_k _ _) (sE_V rfl)
  have y0 : (0 : Int) ≤ s0 ∧ s0 ≤ (940 : Int) := by rw [← h0]; exact hI_ty hO (by decide) rfl
  obtain ⟨i1, e1, l1, h1⟩ := rfI (xv := s1) (iv := s0) (hRf _ (.tail _ (.head _))) (sE_k _ _) (sE_V rfl) (sE_V rfl)
  have l1 : i1 < 940 := l1
  have h1 : hI hp 1 i1 = s1 := h1
  have y : (((0 : Int) ≤ s1 ∧ s1 ≤ (9 : Int))) ∨ (((10 : Int) ≤ s1 ∧ s1 ≤ (10 : Int))) ∨ (((11 : Int) ≤ s1 ∧ s1 ≤ (31 : Int))) ∨ (((32 : Int) ≤ s1 ∧ s1 ≤ (32 : Int))) ∨ (((33 : Int) ≤ s1 ∧ s1 ≤ (255 : Int))) := by omega
  rcases y with y | y | y | y | y
  · exact poX (.head _) rfl hR (all_cons (ivO (y := s1) rfl (show (0 : Int) ≤ s1 by omega) (show s1 ≤ (9 : Int) by omega)) (all_nil)) (all_nil) (all_nil)
  · exact poX (.tail _ (.head _)) rfl hR (all_cons (ivO (y := s1) rfl (show (10 : Int) ≤ s1 by omega) (show s1 ≤ (10 : Int) by omega)) (all_nil)) (all_nil) (all_nil)
  · exact poX (.tail _ (.tail _ (.head _))) rfl hR (all_cons (ivO (y := s1) rfl (show (11 : Int) ≤ s1 by omega) (show s1 ≤ (31 : Int) by omega)) (all_nil)) (all_nil) (all_nil)
  · exact poX (.tail _ (.tail _ (.tail _ (.head _)))) rfl hR (all_cons (ivO (y := s1) rfl (show (32 : Int) ≤ s1 by omega) (show s1 ≤ (32 : Int) by omega)) (all_nil)) (all_nil) (all_nil)
  · exact poX (.tail _ (.tail _ (.tail _ (.tail _ (.head _))))) rfl hR (all_cons (ivO (y := s1) rfl (show (33 : Int) ≤ s1 by omega) (show s1 ≤ (255 : Int) by omega)) (all_nil)) (all_nil) (all_nil)
theorem rl28 : ruOk fFS gR28 := by
  intro r hp hO hN hH
  obtain ⟨s0, s1, s2, rfl⟩ := len3 (show r.length = 3 from hN.1)
  have hR := hN.2.1.1
  have hIv : ∀ q ∈ ([(0, .ofNat 0, .ofNat 939), (1, .ofNat 0, .ofNat 9), (2, .negSucc 2147483647, .ofNat 2147483647)] : sIv), ∃ x, ([s0, s1, s2] : List Int)[q.1]? = some x ∧ q.2.1 ≤ x ∧ x ≤ q.2.2 := hN.2.1.2
  have b0 : (0 : Int) ≤ s0 ∧ s0 ≤ (939 : Int) := ivX (q := (0, .ofNat 0, .ofNat 939)) (y := s0) (hIv _ (.head _)) rfl
  have b1 : (0 : Int) ≤ s1 ∧ s1 ≤ (9 : Int) := ivX (q := (1, .ofNat 0, .ofNat 9)) (y := s1) (hIv _ (.tail _ (.head _))) rfl
  have hRf : ∀ q ∈ ([((40, .ofNat 173, []), (.ofNat 4, []), 1, .ofNat 0, [(.ofNat 1, 0)]), ((1, .ofNat 1, []), (.ofNat 0, [(.ofNat 1, 0)]), 1, .ofNat 0, [(.ofNat 1, 1)])] : List sRf), rfOk [s0, s1, s2] hp q := hH.1
  have h0 : hI hp 173 4 = s0 := rfI0 (hRf _ (.head _)) (sE_k _ _) (sE_k _ _) (sE_V rfl)
  have y0 : (0 : Int) ≤ s0 ∧ s0 ≤ (940 : Int) := by rw [← h0]; exact hI_ty hO (by decide) rfl
  obtain ⟨i1, e1, l1, h1⟩ := rfI (xv := s1) (iv := s0) (hRf _ (.tail _ (.head _))) (sE_k _ _) (sE_V rfl) (sE_V rfl)
  have l1 : i1 < 940 := l1
  have h1 : hI hp 1 i1 = s1 := h1
  have hFc : ∀ q ∈ ([(40, [(.ofNat 0, [(.ofNat 1, 2)]), (.ofNat 0, [(.ofNat 1, 0)])])] : List sFc), fcOk fFS [s0, s1, s2] hp q := hH.2
  have f0 : SK (XT hp).1 (XT hp).2.1 s2 s0 := fcX (ys := [s2, s0]) (hFc _ (.head _)) ⟨sE_V rfl, sE_V rfl, trivial⟩
  exact poX (.head _) rfl hR (all_nil) (all_nil) (all_cons ⟨[s2, s0], ⟨sE_V rfl, sE_V rfl, trivial⟩, (show P1q (XT hp).1 (XT hp).2.1 s2 s0 from p1_x f0 h1 l1 e1 (by omega))⟩ (all_nil))
theorem rl29 : ruOk fFS gR29 := by
  intro r hp hO hN hH
  obtain ⟨s0, s1, s2, rfl⟩ := len3 (show r.length = 3 from hN.1)
  have hR := hN.2.1.1
  have hIv : ∀ q ∈ ([(0, .ofNat 0, .ofNat 939), (1, .ofNat 11, .ofNat 31), (2, .negSucc 2147483647, .ofNat 2147483647)] : sIv), ∃ x, ([s0, s1, s2] : List Int)[q.1]? = some x ∧ q.2.1 ≤ x ∧ x ≤ q.2.2 := hN.2.1.2
  have b0 : (0 : Int) ≤ s0 ∧ s0 ≤ (939 : Int) := ivX (q := (0, .ofNat 0, .ofNat 939)) (y := s0) (hIv _ (.head _)) rfl
  have b1 : (11 : Int) ≤ s1 ∧ s1 ≤ (31 : Int) := ivX (q := (1, .ofNat 11, .ofNat 31)) (y := s1) (hIv _ (.tail _ (.head _))) rfl
  have hRf : ∀ q ∈ ([((40, .ofNat 173, []), (.ofNat 4, []), 1, .ofNat 0, [(.ofNat 1, 0)]), ((1, .ofNat 1, []), (.ofNat 0, [(.ofNat 1, 0)]), 1, .ofNat 0, [(.ofNat 1, 1)])] : List sRf), rfOk [s0, s1, s2] hp q := hH.1
  have h0 : hI hp 173 4 = s0 := rfI0 (hRf _ (.head _)) (sE_k _ _) (sE_k _ _) (sE_V rfl)
  have y0 : (0 : Int) ≤ s0 ∧ s0 ≤ (940 : Int) := by rw [← h0]; exact hI_ty hO (by decide) rfl
  obtain ⟨i1, e1, l1, h1⟩ := rfI (xv := s1) (iv := s0) (hRf _ (.tail _ (.head _))) (sE_k _ _) (sE_V rfl) (sE_V rfl)
  have l1 : i1 < 940 := l1
  have h1 : hI hp 1 i1 = s1 := h1
  have hFc : ∀ q ∈ ([(40, [(.ofNat 0, [(.ofNat 1, 2)]), (.ofNat 0, [(.ofNat 1, 0)])])] : List sFc), fcOk fFS [s0, s1, s2] hp q := hH.2
  have f0 : SK (XT hp).1 (XT hp).2.1 s2 s0 := fcX (ys := [s2, s0]) (hFc _ (.head _)) ⟨sE_V rfl, sE_V rfl, trivial⟩
  exact poX (.head _) rfl hR (all_nil) (all_nil) (all_cons ⟨[s2, s0], ⟨sE_V rfl, sE_V rfl, trivial⟩, (show P1q (XT hp).1 (XT hp).2.1 s2 s0 from p1_x f0 h1 l1 e1 (by omega))⟩ (all_nil))
theorem rl30 : ruOk fFS gR30 := by
  intro r hp hO hN hH
  obtain ⟨s0, s1, s2, rfl⟩ := len3 (show r.length = 3 from hN.1)
  have hR := hN.2.1.1
  have hIv : ∀ q ∈ ([(0, .ofNat 0, .ofNat 939), (1, .ofNat 33, .ofNat 255), (2, .negSucc 2147483647, .ofNat 2147483647)] : sIv), ∃ x, ([s0, s1, s2] : List Int)[q.1]? = some x ∧ q.2.1 ≤ x ∧ x ≤ q.2.2 := hN.2.1.2
  have b0 : (0 : Int) ≤ s0 ∧ s0 ≤ (939 : Int) := ivX (q := (0, .ofNat 0, .ofNat 939)) (y := s0) (hIv _ (.head _)) rfl
  have b1 : (33 : Int) ≤ s1 ∧ s1 ≤ (255 : Int) := ivX (q := (1, .ofNat 33, .ofNat 255)) (y := s1) (hIv _ (.tail _ (.head _))) rfl
  have hRf : ∀ q ∈ ([((40, .ofNat 173, []), (.ofNat 4, []), 1, .ofNat 0, [(.ofNat 1, 0)]), ((1, .ofNat 1, []), (.ofNat 0, [(.ofNat 1, 0)]), 1, .ofNat 0, [(.ofNat 1, 1)])] : List sRf), rfOk [s0, s1, s2] hp q := hH.1
  have h0 : hI hp 173 4 = s0 := rfI0 (hRf _ (.head _)) (sE_k _ _) (sE_k _ _) (sE_V rfl)
  have y0 : (0 : Int) ≤ s0 ∧ s0 ≤ (940 : Int) := by rw [← h0]; exact hI_ty hO (by decide) rfl
  obtain ⟨i1, e1, l1, h1⟩ := rfI (xv := s1) (iv := s0) (hRf _ (.tail _ (.head _))) (sE_k _ _) (sE_V rfl) (sE_V rfl)
  have l1 : i1 < 940 := l1
  have h1 : hI hp 1 i1 = s1 := h1
  have hFc : ∀ q ∈ ([(40, [(.ofNat 0, [(.ofNat 1, 2)]), (.ofNat 0, [(.ofNat 1, 0)])])] : List sFc), fcOk fFS [s0, s1, s2] hp q := hH.2
  have f0 : SK (XT hp).1 (XT hp).2.1 s2 s0 := fcX (ys := [s2, s0]) (hFc _ (.head _)) ⟨sE_V rfl, sE_V rfl, trivial⟩
  exact poX (.head _) rfl hR (all_nil) (all_nil) (all_cons ⟨[s2, s0], ⟨sE_V rfl, sE_V rfl, trivial⟩, (show P1q (XT hp).1 (XT hp).2.1 s2 s0 from p1_x f0 h1 l1 e1 (by omega))⟩ (all_nil))
theorem rl31 : ruOk fFS gR31 := by
  intro r hp hO hN hH
  obtain ⟨s0, s1, s2, s3, rfl⟩ := len4 (show r.length = 4 from hN.1)
  have hR := hN.2.1.1
  have hIv : ∀ q ∈ ([(0, .negSucc 2147483647, .ofNat 2147483647), (1, .negSucc 2147483647, .ofNat 2147483647), (2, .negSucc 2147483647, .ofNat 2147483647), (3, .negSucc 2147483647, .ofNat 2147483647)] : sIv), ∃ x, ([s0, s1, s2, s3] : List Int)[q.1]? = some x ∧ q.2.1 ≤ x ∧ x ≤ q.2.2 := hN.2.1.2
  have hCs : ∀ c ∈ ([(.ofNat 0, [(.negSucc 0, 0), (.ofNat 1, 2)]), (.ofNat 1, [(.negSucc 0, 1), (.ofNat 1, 2)])] : List sLn), ∃ x, sE [s0, s1, s2, s3] c = some x ∧ x ≤ 0 := hN.2.2.1
  have c0 : ((0 : Int) + ((-1 : Int) * s0 + ((1 : Int) * s2 + 0))) ≤ 0 := csX (hCs _ (.head _)) rfl
  have c1 : ((1 : Int) + ((-1 : Int) * s1 + ((1 : Int) * s2 + 0))) ≤ 0 := csX (hCs _ (.tail _ (.head _))) rfl
  have hRf : ∀ q ∈ ([((40, .ofNat 173, []), (.ofNat 4, []), 1, .ofNat 0, [(.ofNat 1, 0)]), ((40, .ofNat 173, []), (.ofNat 2, []), 1, .ofNat 0, [(.ofNat 1, 1)]), ((40, .ofNat 173, []), (.ofNat 3, []), 1, .ofNat 0, [(.ofNat 1, 2)])] : List sRf), rfOk [s0, s1, s2, s3] hp q := hH.1
  have h0 : hI hp 173 4 = s0 := rfI0 (hRf _ (.head _)) (sE_k _ _) (sE_k _ _) (sE_V rfl)
  have y0 : (0 : Int) ≤ s0 ∧ s0 ≤ (940 : Int) := by rw [← h0]; exact hI_ty hO (by decide) rfl
  have h1 : hI hp 173 2 = s1 := rfI0 (hRf _ (.tail _ (.head _))) (sE_k _ _) (sE_k _ _) (sE_V rfl)
  have y1 : (0 : Int) ≤ s1 ∧ s1 ≤ (940 : Int) := by rw [← h1]; exact hI_ty hO (by decide) rfl
  have tnx : (XT hp).2.1 = s1 := h1
  have h2 : hI hp 173 3 = s2 := rfI0 (hRf _ (.tail _ (.tail _ (.head _)))) (sE_k _ _) (sE_k _ _) (sE_V rfl)
  have y2 : (0 : Int) ≤ s2 ∧ s2 ≤ (940 : Int) := by rw [← h2]; exact hI_ty hO (by decide) rfl
  have tmx : (XT hp).2.2 = s2 := h2
  have hFc : ∀ q ∈ ([(41, [(.ofNat 0, [(.ofNat 1, 3)]), (.ofNat 0, [(.ofNat 1, 0)])])] : List sFc), fcOk fFS [s0, s1, s2, s3] hp q := hH.2
  have f0 : P1q (XT hp).1 (XT hp).2.1 s3 s0 := fcX (ys := [s3, s0]) (hFc _ (.head _)) ⟨sE_V rfl, sE_V rfl, trivial⟩
  exact poX (.head _) rfl hR (all_nil) (all_nil) (all_cons ⟨[s3, 4, s2, s0, (-1)], ⟨sE_V rfl, sE_k _ _, sE_V rfl, sE_V rfl, sE_k _ _, trivial⟩, (show TKB (XT hp) s3 (4 : Int) s2 s0 (-1 : Int) from tk_lim f0 (by omega) (by omega) (by omega) (by omega))⟩ (all_nil))
theorem rl32 : ruOk fFS gR32 := by
  intro r hp hO hN hH
  obtain ⟨s0, s1, s2, s3, s4, s5, s6, s7, s8, s9, s10, s11, rfl⟩ := len12 (show r.length = 12 from hN.1)
  have hR := hN.2.1.1
  have hIv : ∀ q ∈ ([(0, .negSucc 2147483647, .ofNat 2147483647), (1, .negSucc 2147483647, .ofNat 2147483647), (2, .negSucc 2147483647, .ofNat 2147483647), (3, .negSucc 2147483647, .ofNat 2147483647), (4, .negSucc 2147483647, .ofNat 2147483647), (5, .negSucc 2147483647, .ofNat 2147483647), (6, .negSucc 2147483647, .ofNat 2147483647), (7, .negSucc 2147483647, .ofNat 2147483647), (8, .negSucc 2147483647, .ofNat 2147483647), (9, .negSucc 2147483647, .ofNat 2147483647), (10, .negSucc 2147483647, .ofNat 2147483647), (11, .negSucc 2147483647, .ofNat 2147483647)] : sIv), ∃ x, ([s0, s1, s2, s3, s4, s5, s6, s7, s8, s9, s10, s11] : List Int)[q.1]? = some x ∧ q.2.1 ≤ x ∧ x ≤ q.2.2 := hN.2.1.2
  have hFc : ∀ q ∈ ([(52, [(.ofNat 0, [(.ofNat 1, 0)]), (.ofNat 0, [(.ofNat 1, 1)]), (.ofNat 0, [(.ofNat 1, 2)]), (.ofNat 0, [(.ofNat 1, 3)]), (.ofNat 0, [(.ofNat 1, 4)]), (.ofNat 0, [(.ofNat 1, 5)]), (.ofNat 0, [(.ofNat 1, 6)]), (.ofNat 0, [(.ofNat 1, 7)]), (.ofNat 0, [(.ofNat 1, 8)])]), (46, [(.ofNat 0, [(.ofNat 1, 0)]), (.ofNat 4, []), (.ofNat 0, [(.ofNat 1, 9)]), (.ofNat 0, [(.ofNat 1, 10)]), (.ofNat 0, [(.ofNat 1, 11)])])] : List sFc), fcOk fFS [s0, s1, s2, s3, s4, s5, s6, s7, s8, s9, s10, s11] hp q := hH.2
  have f0 : Gq (XT hp) s0 s1 s2 s3 s4 s5 s6 s7 s8 := fcX (ys := [s0, s1, s2, s3, s4, s5, s6, s7, s8]) (hFc _ (.head _)) ⟨sE_V rfl, sE_V rfl, sE_V rfl, sE_V rfl, sE_V rfl, sE_V rfl, sE_V rfl, sE_V rfl, sE_V rfl, trivial⟩
  have f1 : TKB (XT hp) s0 (4 : Int) s9 s10 s11 := fcX (ys := [s0, 4, s9, s10, s11]) (hFc _ (.tail _ (.head _))) ⟨sE_V rfl, sE_k _ _, sE_V rfl, sE_V rfl, sE_V rfl, trivial⟩
  exact poX (.head _) rfl hR (all_nil) (all_nil) (all_cons ⟨[1, s9], ⟨sE_k _ _, sE_V rfl, trivial⟩, (show RS (XT hp) (1 : Int) s9 from g_f4 (XT_ok hO) f0 f1)⟩ (all_nil))
theorem rl33 : ruOk fFS gR33 := by
  intro r hp hO hN hH
  obtain ⟨s0, s1, s2, s3, s4, s5, s6, rfl⟩ := len7 (show r.length = 7 from hN.1)
  have hR := hN.2.1.1
  have hIv : ∀ q ∈ ([(0, .negSucc 2147483647, .ofNat 2147483647), (1, .negSucc 2147483647, .ofNat 2147483647), (2, .negSucc 2147483647, .ofNat 2147483647), (3, .negSucc 2147483647, .ofNat 2147483647), (4, .negSucc 2147483647, .ofNat 2147483647), (5, .negSucc 2147483647, .ofNat 2147483647), (6, .negSucc 2147483647, .ofNat 2147483647)] : sIv), ∃ x, ([s0, s1, s2, s3, s4, s5, s6] : List Int)[q.1]? = some x ∧ q.2.1 ≤ x ∧ x ≤ q.2.2 := hN.2.1.2
  have hFc : ∀ q ∈ ([(191, [(.ofNat 0, [(.ofNat 1, 0)]), (.ofNat 0, [(.ofNat 1, 1)]), (.ofNat 0, [(.ofNat 1, 2)]), (.ofNat 0, [(.ofNat 1, 3)])]), (46, [(.ofNat 0, [(.ofNat 1, 0)]), (.ofNat 4, []), (.ofNat 0, [(.ofNat 1, 4)]), (.ofNat 0, [(.ofNat 1, 5)]), (.ofNat 0, [(.ofNat 1, 6)])])] : List sFc), fcOk fFS [s0, s1, s2, s3, s4, s5, s6] hp q := hH.2
  have f0 : SG (XT hp) (nmR hp (xnm hp)) s0 s1 s2 s3 := fcX (ys := [s0, s1, s2, s3]) (hFc _ (.head _)) ⟨sE_V rfl, sE_V rfl, sE_V rfl, sE_V rfl, trivial⟩
  have f1 : TKB (XT hp) s0 (4 : Int) s4 s5 s6 := fcX (ys := [s0, 4, s4, s5, s6]) (hFc _ (.tail _ (.head _))) ⟨sE_V rfl, sE_k _ _, sE_V rfl, sE_V rfl, sE_V rfl, trivial⟩
  exact poX (.head _) rfl hR (all_nil) (all_nil) (all_cons ⟨[1, s4], ⟨sE_k _ _, sE_V rfl, trivial⟩, (show SRS (XT hp) (nmR hp (xnm hp)) (1 : Int) s4 from s_f4 f0 f1)⟩ (all_nil))
theorem rl34 : ruOk fFS gR34 := by
  intro r hp hO hN hH
  obtain ⟨s0, s1, s2, s3, s4, s5, rfl⟩ := len6 (show r.length = 6 from hN.1)
  have hR := hN.2.1.1
  have hIv : ∀ q ∈ ([(0, .negSucc 2147483647, .ofNat 2147483647), (1, .negSucc 2147483647, .ofNat 2147483647), (2, .negSucc 2147483647, .ofNat 2147483647), (3, .negSucc 2147483647, .ofNat 2147483647), (4, .negSucc 2147483647, .ofNat 2147483647), (5, .negSucc 2147483647, .ofNat 2147483647)] : sIv), ∃ x, ([s0, s1, s2, s3, s4, s5] : List Int)[q.1]? = some x ∧ q.2.1 ≤ x ∧ x ≤ q.2.2 := hN.2.1.2
  have hFc : ∀ q ∈ ([(240, [(.ofNat 0, [(.ofNat 1, 0)]), (.ofNat 0, [(.ofNat 1, 1)]), (.ofNat 0, [(.ofNat 1, 2)])]), (46, [(.ofNat 0, [(.ofNat 1, 0)]), (.ofNat 4, []), (.ofNat 0, [(.ofNat 1, 3)]), (.ofNat 0, [(.ofNat 1, 4)]), (.ofNat 0, [(.ofNat 1, 5)])])] : List sFc), fcOk fFS [s0, s1, s2, s3, s4, s5] hp q := hH.2
  have f0 : roG (XT hp) (nmR hp (xnm hp)) (hI hp (hC hp 0 6) 0) (hI hp (hC hp 0 6) 1) s0 s1 s2 := fcX (ys := [s0, s1, s2]) (hFc _ (.head _)) ⟨sE_V rfl, sE_V rfl, sE_V rfl, trivial⟩
  have f1 : TKB (XT hp) s0 (4 : Int) s3 s4 s5 := fcX (ys := [s0, 4, s3, s4, s5]) (hFc _ (.tail _ (.head _))) ⟨sE_V rfl, sE_k _ _, sE_V rfl, sE_V rfl, sE_V rfl, trivial⟩
  exact poX (.head _) rfl hR (all_nil) (all_nil) (all_cons ⟨[1, s3], ⟨sE_k _ _, sE_V rfl, trivial⟩, (show roS (XT hp) (nmR hp (xnm hp)) (hI hp (hC hp 0 6) 0) (hI hp (hC hp 0 6) 1) (1 : Int) s3 from ro_f4 f0 f1)⟩ (all_nil))
theorem rl35 : ruOk fFS gR35 := by
  intro r hp hO hN hH
  obtain ⟨s0, s1, s2, s3, s4, rfl⟩ := len5 (show r.length = 5 from hN.1)
  have hR := hN.2.1.1
  have hIv : ∀ q ∈ ([(0, .negSucc 2147483647, .ofNat 2147483647), (1, .negSucc 2147483647, .ofNat 2147483647), (2, .negSucc 2147483647, .ofNat 2147483647), (3, .negSucc 2147483647, .ofNat 2147483647), (4, .negSucc 2147483647, .ofNat 2147483647)] : sIv), ∃ x, ([s0, s1, s2, s3, s4] : List Int)[q.1]? = some x ∧ q.2.1 ≤ x ∧ x ≤ q.2.2 := hN.2.1.2
  have hFc : ∀ q ∈ ([(46, [(.ofNat 0, [(.ofNat 1, 0)]), (.ofNat 0, [(.ofNat 1, 1)]), (.ofNat 0, [(.ofNat 1, 2)]), (.ofNat 0, [(.ofNat 1, 3)]), (.ofNat 0, [(.ofNat 1, 4)])])] : List sFc), fcOk fFS [s0, s1, s2, s3, s4] hp q := hH.2
  have f0 : TKB (XT hp) s0 s1 s2 s3 s4 := fcX (ys := [s0, s1, s2, s3, s4]) (hFc _ (.head _)) ⟨sE_V rfl, sE_V rfl, sE_V rfl, sE_V rfl, sE_V rfl, trivial⟩
  exact poX (.head _) rfl hR (all_nil) (all_nil) (all_cons ⟨[s0, s1, s2, s3, s4], ⟨sE_V rfl, sE_V rfl, sE_V rfl, sE_V rfl, sE_V rfl, trivial⟩, (show TKB (XT hp) s0 s1 s2 s3 s4 from f0)⟩ (all_nil))
theorem rl36 : ruOk fFS gR36 := by
  intro r hp hO hN hH
  obtain ⟨s0, s1, s2, s3, s4, s5, s6, s7, s8, s9, s10, s11, s12, rfl⟩ := len13 (show r.length = 13 from hN.1)
  have hR := hN.2.1.1
  have hIv : ∀ q ∈ ([(0, .negSucc 2147483647, .ofNat 2147483647), (1, .negSucc 2147483647, .ofNat 2147483647), (2, .negSucc 2147483647, .ofNat 2147483647), (3, .negSucc 2147483647, .ofNat 2147483647), (4, .negSucc 2147483647, .ofNat 2147483647), (5, .negSucc 2147483647, .ofNat 2147483647), (6, .negSucc 2147483647, .ofNat 2147483647), (7, .negSucc 2147483647, .ofNat 2147483647), (8, .negSucc 2147483647, .ofNat 2147483647), (9, .ofNat 0, .ofNat 3), (10, .negSucc 2147483647, .ofNat 2147483647), (11, .negSucc 2147483647, .ofNat 2147483647), (12, .negSucc 2147483647, .ofNat 2147483647)] : sIv), ∃ x, ([s0, s1, s2, s3, s4, s5, s6, s7, s8, s9, s10, s11, s12] : List Int)[q.1]? = some x ∧ q.2.1 ≤ x ∧ x ≤ q.2.2 := hN.2.1.2
  have b9 : (0 : Int) ≤ s9 ∧ s9 ≤ (3 : Int) := ivX (q := (9, .ofNat 0, .ofNat 3)) (y := s9) (hIv _ (.tail _ (.tail _ (.tail _ (.tail _ (.tail _ (.tail _ (.tail _ (.tail _ (.tail _ (.head _))))))))))) rfl
  have hFc : ∀ q ∈ ([(52, [(.ofNat 0, [(.ofNat 1, 0)]), (.ofNat 0, [(.ofNat 1, 1)]), (.ofNat 0, [(.ofNat 1, 2)]), (.ofNat 0, [(.ofNat 1, 3)]), (.ofNat 0, [(.ofNat 1, 4)]), (.ofNat 0, [(.ofNat 1, 5)]), (.ofNat 0, [(.ofNat 1, 6)]), (.ofNat 0, [(.ofNat 1, 7)]), (.ofNat 0, [(.ofNat 1, 8)])]), (46, [(.ofNat 0, [(.ofNat 1, 0)]), (.ofNat 0, [(.ofNat 1, 9)]), (.ofNat 0, [(.ofNat 1, 10)]), (.ofNat 0, [(.ofNat 1, 11)]), (.ofNat 0, [(.ofNat 1, 12)])])] : List sFc), fcOk fFS [s0, s1, s2, s3, s4, s5, s6, s7, s8, s9, s10, s11, s12] hp q := hH.2
  have f0 : Gq (XT hp) s0 s1 s2 s3 s4 s5 s6 s7 s8 := fcX (ys := [s0, s1, s2, s3, s4, s5, s6, s7, s8]) (hFc _ (.head _)) ⟨sE_V rfl, sE_V rfl, sE_V rfl, sE_V rfl, sE_V rfl, sE_V rfl, sE_V rfl, sE_V rfl, sE_V rfl, trivial⟩
  have f1 : TKB (XT hp) s0 s9 s10 s11 s12 := fcX (ys := [s0, s9, s10, s11, s12]) (hFc _ (.tail _ (.head _))) ⟨sE_V rfl, sE_V rfl, sE_V rfl, sE_V rfl, sE_V rfl, trivial⟩
  exact poX (.head _) rfl hR (all_nil) (all_nil) (all_cons ⟨[s0, s1, s2, s3, s4, s5, s6, s7, s8, s9, s10, s11, s12], ⟨sE_V rfl, sE_V rfl, sE_V rfl, sE_V rfl, sE_V rfl, sE_V rfl, sE_V rfl, sE_V rfl, sE_V rfl, sE_V rfl, sE_V rfl, sE_V rfl, sE_V rfl, trivial⟩, (show Hq (XT hp) s0 s1 s2 s3 s4 s5 s6 s7 s8 s9 s10 s11 s12 ∧ s9 ≠ 4 from ⟨⟨f0, f1⟩, by omega⟩)⟩ (all_nil))
theorem rl37 : ruOk fFS gR37 := by
  intro r hp hO hN hH
  obtain ⟨s0, s1, s2, s3, s4, s5, s6, s7, rfl⟩ := len8 (show r.length = 8 from hN.1)
  have hR := hN.2.1.1
  have hIv : ∀ q ∈ ([(0, .negSucc 2147483647, .ofNat 2147483647), (1, .negSucc 2147483647, .ofNat 2147483647), (2, .negSucc 2147483647, .ofNat 2147483647), (3, .negSucc 2147483647, .ofNat 2147483647), (4, .ofNat 0, .ofNat 3), (5, .negSucc 2147483647, .ofNat 2147483647), (6, .negSucc 2147483647, .ofNat 2147483647), (7, .negSucc 2147483647, .ofNat 2147483647)] : sIv), ∃ x, ([s0, s1, s2, s3, s4, s5, s6, s7] : List Int)[q.1]? = some x ∧ q.2.1 ≤ x ∧ x ≤ q.2.2 := hN.2.1.2
  have b4 : (0 : Int) ≤ s4 ∧ s4 ≤ (3 : Int) := ivX (q := (4, .ofNat 0, .ofNat 3)) (y := s4) (hIv _ (.tail _ (.tail _ (.tail _ (.tail _ (.head _)))))) rfl
  have hFc : ∀ q ∈ ([(191, [(.ofNat 0, [(.ofNat 1, 0)]), (.ofNat 0, [(.ofNat 1, 1)]), (.ofNat 0, [(.ofNat 1, 2)]), (.ofNat 0, [(.ofNat 1, 3)])]), (46, [(.ofNat 0, [(.ofNat 1, 0)]), (.ofNat 0, [(.ofNat 1, 4)]), (.ofNat 0, [(.ofNat 1, 5)]), (.ofNat 0, [(.ofNat 1, 6)]), (.ofNat 0, [(.ofNat 1, 7)])])] : List sFc), fcOk fFS [s0, s1, s2, s3, s4, s5, s6, s7] hp q := hH.2
  have f0 : SG (XT hp) (nmR hp (xnm hp)) s0 s1 s2 s3 := fcX (ys := [s0, s1, s2, s3]) (hFc _ (.head _)) ⟨sE_V rfl, sE_V rfl, sE_V rfl, sE_V rfl, trivial⟩
  have f1 : TKB (XT hp) s0 s4 s5 s6 s7 := fcX (ys := [s0, s4, s5, s6, s7]) (hFc _ (.tail _ (.head _))) ⟨sE_V rfl, sE_V rfl, sE_V rfl, sE_V rfl, sE_V rfl, trivial⟩
  exact poX (.head _) rfl hR (all_nil) (all_nil) (all_cons ⟨[s0, s1, s2, s3, s4, s5, s6, s7], ⟨sE_V rfl, sE_V rfl, sE_V rfl, sE_V rfl, sE_V rfl, sE_V rfl, sE_V rfl, sE_V rfl, trivial⟩, (show SHq (XT hp) (nmR hp (xnm hp)) s0 s1 s2 s3 s4 s5 s6 s7 ∧ s4 ≠ 4 from ⟨⟨f0, f1⟩, by omega⟩)⟩ (all_nil))
theorem rl38 : ruOk fFS gR38 := by
  intro r hp hO hN hH
  obtain ⟨s0, s1, s2, s3, s4, s5, s6, rfl⟩ := len7 (show r.length = 7 from hN.1)
  have hR := hN.2.1.1
  have hIv : ∀ q ∈ ([(0, .negSucc 2147483647, .ofNat 2147483647), (1, .negSucc 2147483647, .ofNat 2147483647), (2, .negSucc 2147483647, .ofNat 2147483647), (3, .ofNat 0, .ofNat 3), (4, .negSucc 2147483647, .ofNat 2147483647), (5, .negSucc 2147483647, .ofNat 2147483647), (6, .negSucc 2147483647, .ofNat 2147483647)] : sIv), ∃ x, ([s0, s1, s2, s3, s4, s5, s6] : List Int)[q.1]? = some x ∧ q.2.1 ≤ x ∧ x ≤ q.2.2 := hN.2.1.2
  have b3 : (0 : Int) ≤ s3 ∧ s3 ≤ (3 : Int) := ivX (q := (3, .ofNat 0, .ofNat 3)) (y := s3) (hIv _ (.tail _ (.tail _ (.tail _ (.head _))))) rfl
  have hFc : ∀ q ∈ ([(240, [(.ofNat 0, [(.ofNat 1, 0)]), (.ofNat 0, [(.ofNat 1, 1)]), (.ofNat 0, [(.ofNat 1, 2)])]), (46, [(.ofNat 0, [(.ofNat 1, 0)]), (.ofNat 0, [(.ofNat 1, 3)]), (.ofNat 0, [(.ofNat 1, 4)]), (.ofNat 0, [(.ofNat 1, 5)]), (.ofNat 0, [(.ofNat 1, 6)])])] : List sFc), fcOk fFS [s0, s1, s2, s3, s4, s5, s6] hp q := hH.2
  have f0 : roG (XT hp) (nmR hp (xnm hp)) (hI hp (hC hp 0 6) 0) (hI hp (hC hp 0 6) 1) s0 s1 s2 := fcX (ys := [s0, s1, s2]) (hFc _ (.head _)) ⟨sE_V rfl, sE_V rfl, sE_V rfl, trivial⟩
  have f1 : TKB (XT hp) s0 s3 s4 s5 s6 := fcX (ys := [s0, s3, s4, s5, s6]) (hFc _ (.tail _ (.head _))) ⟨sE_V rfl, sE_V rfl, sE_V rfl, sE_V rfl, sE_V rfl, trivial⟩
  exact poX (.head _) rfl hR (all_nil) (all_nil) (all_cons ⟨[s0, s1, s2, s3, s4, s5, s6], ⟨sE_V rfl, sE_V rfl, sE_V rfl, sE_V rfl, sE_V rfl, sE_V rfl, sE_V rfl, trivial⟩, (show roH (XT hp) (nmR hp (xnm hp)) (hI hp (hC hp 0 6) 0) (hI hp (hC hp 0 6) 1) s0 s1 s2 s3 s4 s5 s6 ∧ s3 ≠ 4 from ⟨⟨f0, f1⟩, by omega⟩)⟩ (all_nil))
theorem rl39 : ruOk fFS gR39 := by
  intro r hp hO hN hH
  obtain ⟨s0, s1, s2, s3, rfl⟩ := len4 (show r.length = 4 from hN.1)
  have hR := hN.2.1.1
  have hIv : ∀ q ∈ ([(0, .negSucc 2147483647, .ofNat 2147483647), (1, .negSucc 2147483647, .ofNat 2147483647), (2, .negSucc 2147483647, .ofNat 2147483647), (3, .negSucc 2147483647, .ofNat 2147483647)] : sIv), ∃ x, ([s0, s1, s2, s3] : List Int)[q.1]? = some x ∧ q.2.1 ≤ x ∧ x ≤ q.2.2 := hN.2.1.2
  have hCs : ∀ c ∈ ([(.ofNat 1, [(.ofNat 1, 0), (.negSucc 0, 1)]), (.ofNat 0, [(.ofNat 1, 1), (.negSucc 0, 2)])] : List sLn), ∃ x, sE [s0, s1, s2, s3] c = some x ∧ x ≤ 0 := hN.2.2.1
  have c0 : ((1 : Int) + ((1 : Int) * s0 + ((-1 : Int) * s1 + 0))) ≤ 0 := csX (hCs _ (.head _)) rfl
  have c1 : ((0 : Int) + ((1 : Int) * s1 + ((-1 : Int) * s2 + 0))) ≤ 0 := csX (hCs _ (.tail _ (.head _))) rfl
  have hRf : ∀ q ∈ ([((40, .ofNat 173, []), (.ofNat 4, []), 1, .ofNat 0, [(.ofNat 1, 0)]), ((40, .ofNat 173, []), (.ofNat 2, []), 1, .ofNat 0, [(.ofNat 1, 1)]), ((40, .ofNat 173, []), (.ofNat 3, []), 1, .ofNat 0, [(.ofNat 1, 2)])] : List sRf), rfOk [s0, s1, s2, s3] hp q := hH.1
  have h0 : hI hp 173 4 = s0 := rfI0 (hRf _ (.head _)) (sE_k _ _) (sE_k _ _) (sE_V rfl)
  have y0 : (0 : Int) ≤ s0 ∧ s0 ≤ (940 : Int) := by rw [← h0]; exact hI_ty hO (by decide) rfl
  have h1 : hI hp 173 2 = s1 := rfI0 (hRf _ (.tail _ (.head _))) (sE_k _ _) (sE_k _ _) (sE_V rfl)
  have y1 : (0 : Int) ≤ s1 ∧ s1 ≤ (940 : Int) := by rw [← h1]; exact hI_ty hO (by decide) rfl
  have tnx : (XT hp).2.1 = s1 := h1
  have h2 : hI hp 173 3 = s2 := rfI0 (hRf _ (.tail _ (.tail _ (.head _)))) (sE_k _ _) (sE_k _ _) (sE_V rfl)
  have y2 : (0 : Int) ≤ s2 ∧ s2 ≤ (940 : Int) := by rw [← h2]; exact hI_ty hO (by decide) rfl
  have tmx : (XT hp).2.2 = s2 := h2
  have hFc : ∀ q ∈ ([(41, [(.ofNat 0, [(.ofNat 1, 3)]), (.ofNat 0, [(.ofNat 1, 0)])])] : List sFc), fcOk fFS [s0, s1, s2, s3] hp q := hH.2
  have f0 : P1q (XT hp).1 (XT hp).2.1 s3 s0 := fcX (ys := [s3, s0]) (hFc _ (.head _)) ⟨sE_V rfl, sE_V rfl, trivial⟩
  exact poX (.head _) rfl hR (all_nil) (all_nil) (all_cons ⟨[s3, s0], ⟨sE_V rfl, sE_V rfl, trivial⟩, (show P2 (XT hp) s3 s0 from ⟨f0, by omega, by omega⟩)⟩ (all_nil))
theorem rl40 : ruOk fFS gR40 := by
  intro r hp hO hN hH
  obtain ⟨s0, s1, s2, s3, rfl⟩ := len4 (show r.length = 4 from hN.1)
  have hR := hN.2.1.1
  have hIv : ∀ q ∈ ([(0, .negSucc 2147483647, .ofNat 2147483647), (1, .negSucc 2147483647, .ofNat 2147483647), (2, .negSucc 2147483647, .ofNat 2147483647), (3, .negSucc 2147483647, .ofNat 2147483647)] : sIv), ∃ x, ([s0, s1, s2, s3] : List Int)[q.1]? = some x ∧ q.2.1 ≤ x ∧ x ≤ q.2.2 := hN.2.1.2
  have hCs : ∀ c ∈ ([(.ofNat 1, [(.ofNat 1, 0), (.negSucc 0, 1)]), (.ofNat 1, [(.ofNat 1, 0), (.negSucc 0, 2)])] : List sLn), ∃ x, sE [s0, s1, s2, s3] c = some x ∧ x ≤ 0 := hN.2.2.1
  have c0 : ((1 : Int) + ((1 : Int) * s0 + ((-1 : Int) * s1 + 0))) ≤ 0 := csX (hCs _ (.head _)) rfl
  have c1 : ((1 : Int) + ((1 : Int) * s0 + ((-1 : Int) * s2 + 0))) ≤ 0 := csX (hCs _ (.tail _ (.head _))) rfl
  have hRf : ∀ q ∈ ([((40, .ofNat 173, []), (.ofNat 4, []), 1, .ofNat 0, [(.ofNat 1, 0)]), ((40, .ofNat 173, []), (.ofNat 2, []), 1, .ofNat 0, [(.ofNat 1, 1)]), ((40, .ofNat 173, []), (.ofNat 3, []), 1, .ofNat 0, [(.ofNat 1, 2)])] : List sRf), rfOk [s0, s1, s2, s3] hp q := hH.1
  have h0 : hI hp 173 4 = s0 := rfI0 (hRf _ (.head _)) (sE_k _ _) (sE_k _ _) (sE_V rfl)
  have y0 : (0 : Int) ≤ s0 ∧ s0 ≤ (940 : Int) := by rw [← h0]; exact hI_ty hO (by decide) rfl
  have h1 : hI hp 173 2 = s1 := rfI0 (hRf _ (.tail _ (.head _))) (sE_k _ _) (sE_k _ _) (sE_V rfl)
  have y1 : (0 : Int) ≤ s1 ∧ s1 ≤ (940 : Int) := by rw [← h1]; exact hI_ty hO (by decide) rfl
  have tnx : (XT hp).2.1 = s1 := h1
  have h2 : hI hp 173 3 = s2 := rfI0 (hRf _ (.tail _ (.tail _ (.head _)))) (sE_k _ _) (sE_k _ _) (sE_V rfl)
  have y2 : (0 : Int) ≤ s2 ∧ s2 ≤ (940 : Int) := by rw [← h2]; exact hI_ty hO (by decide) rfl
  have tmx : (XT hp).2.2 = s2 := h2
  have hFc : ∀ q ∈ ([(41, [(.ofNat 0, [(.ofNat 1, 3)]), (.ofNat 0, [(.ofNat 1, 0)])])] : List sFc), fcOk fFS [s0, s1, s2, s3] hp q := hH.2
  have f0 : P1q (XT hp).1 (XT hp).2.1 s3 s0 := fcX (ys := [s3, s0]) (hFc _ (.head _)) ⟨sE_V rfl, sE_V rfl, trivial⟩
  exact poX (.head _) rfl hR (all_nil) (all_nil) (all_cons ⟨[s3, s0], ⟨sE_V rfl, sE_V rfl, trivial⟩, (show P2 (XT hp) s3 s0 from ⟨f0, by omega, by omega⟩)⟩ (all_nil))
theorem rl41 : ruOk fFS gR41 := by
  intro r hp hO hN hH
  obtain ⟨s0, rfl⟩ := len1 (show r.length = 1 from hN.1)
  have hR := hN.2.1.1
  have hIv : ∀ q ∈ ([(0, .ofNat 0, .ofNat 255)] : sIv), ∃ x, ([s0] : List Int)[q.1]? = some x ∧ q.2.1 ≤ x ∧ x ≤ q.2.2 := hN.2.1.2
  have b0 : (0 : Int) ≤ s0 ∧ s0 ≤ (255 : Int) := ivX (q := (0, .ofNat 0, .ofNat 255)) (y := s0) (hIv _ (.head _)) rfl
  have y : (((0 : Int) ≤ s0 ∧ s0 ≤ (39 : Int))) ∨ (((40 : Int) ≤ s0 ∧ s0 ≤ (40 : Int))) ∨ (((41 : Int) ≤ s0 ∧ s0 ≤ (41 : Int))) ∨ (((42 : Int) ≤ s0 ∧ s0 ≤ (58 : Int))) ∨ (((59 : Int) ≤ s0 ∧ s0 ≤ (59 : Int))) ∨ (((60 : Int) ≤ s0 ∧ s0 ≤ (60 : Int))) ∨ (((61 : Int) ≤ s0 ∧ s0 ≤ (61 : Int))) ∨ (((62 : Int) ≤ s0 ∧ s0 ≤ (62 : Int))) ∨ (((63 : Int) ≤ s0 ∧ s0 ≤ (255 : Int))) := by omega
  rcases y with y | y | y | y | y | y | y | y | y
  · exact poX (.head _) rfl hR (all_cons (ivO (y := s0) rfl (show (0 : Int) ≤ s0 by omega) (show s0 ≤ (39 : Int) by omega)) (all_nil)) (all_nil) (all_nil)
  · exact poX (.tail _ (.head _)) rfl hR (all_cons (ivO (y := s0) rfl (show (40 : Int) ≤ s0 by omega) (show s0 ≤ (40 : Int) by omega)) (all_nil)) (all_nil) (all_nil)
  · exact poX (.tail _ (.tail _ (.head _))) rfl hR (all_cons (ivO (y := s0) rfl (show (41 : Int) ≤ s0 by omega) (show s0 ≤ (41 : Int) by omega)) (all_nil)) (all_nil) (all_nil)
  · exact poX (.tail _ (.tail _ (.tail _ (.head _)))) rfl hR (all_cons (ivO (y := s0) rfl (show (42 : Int) ≤ s0 by omega) (show s0 ≤ (58 : Int) by omega)) (all_nil)) (all_nil) (all_nil)
  · exact poX (.tail _ (.tail _ (.tail _ (.tail _ (.head _))))) rfl hR (all_cons (ivO (y := s0) rfl (show (59 : Int) ≤ s0 by omega) (show s0 ≤ (59 : Int) by omega)) (all_nil)) (all_nil) (all_nil)
  · exact poX (.tail _ (.tail _ (.tail _ (.tail _ (.tail _ (.head _)))))) rfl hR (all_cons (ivO (y := s0) rfl (show (60 : Int) ≤ s0 by omega) (show s0 ≤ (60 : Int) by omega)) (all_nil)) (all_nil) (all_nil)
  · exact poX (.tail _ (.tail _ (.tail _ (.tail _ (.tail _ (.tail _ (.head _))))))) rfl hR (all_cons (ivO (y := s0) rfl (show (61 : Int) ≤ s0 by omega) (show s0 ≤ (61 : Int) by omega)) (all_nil)) (all_nil) (all_nil)
  · exact poX (.tail _ (.tail _ (.tail _ (.tail _ (.tail _ (.tail _ (.tail _ (.head _)))))))) rfl hR (all_cons (ivO (y := s0) rfl (show (62 : Int) ≤ s0 by omega) (show s0 ≤ (62 : Int) by omega)) (all_nil)) (all_nil) (all_nil)
  · exact poX (.tail _ (.tail _ (.tail _ (.tail _ (.tail _ (.tail _ (.tail _ (.tail _ (.head _))))))))) rfl hR (all_cons (ivO (y := s0) rfl (show (63 : Int) ≤ s0 by omega) (show s0 ≤ (255 : Int) by omega)) (all_nil)) (all_nil) (all_nil)
theorem rl42 : ruOk fFS gR42 := by
  intro r hp hO hN hH
  obtain ⟨s0, s1, s2, s3, s4, rfl⟩ := len5 (show r.length = 5 from hN.1)
  have hR := hN.2.1.1
  have hIv : ∀ q ∈ ([(0, .negSucc 2147483647, .ofNat 2147483647), (1, .negSucc 2147483647, .ofNat 2147483647), (2, .negSucc 2147483647, .ofNat 2147483647), (3, .negSucc 2147483647, .ofNat 2147483647), (4, .negSucc 2147483647, .ofNat 2147483647)] : sIv), ∃ x, ([s0, s1, s2, s3, s4] : List Int)[q.1]? = some x ∧ q.2.1 ≤ x ∧ x ≤ q.2.2 := hN.2.1.2
  have hFc : ∀ q ∈ ([(46, [(.ofNat 0, [(.ofNat 1, 0)]), (.ofNat 0, [(.ofNat 1, 1)]), (.ofNat 0, [(.ofNat 1, 2)]), (.ofNat 0, [(.ofNat 1, 3)]), (.ofNat 0, [(.ofNat 1, 4)])])] : List sFc), fcOk fFS [s0, s1, s2, s3, s4] hp q := hH.2
  have f0 : TKB (XT hp) s0 s1 s2 s3 s4 := fcX (ys := [s0, s1, s2, s3, s4]) (hFc _ (.head _)) ⟨sE_V rfl, sE_V rfl, sE_V rfl, sE_V rfl, sE_V rfl, trivial⟩
  exact poX (.head _) rfl hR (all_nil) (all_nil) (all_cons ⟨[s0, s1, s2, s3, s4], ⟨sE_V rfl, sE_V rfl, sE_V rfl, sE_V rfl, sE_V rfl, trivial⟩, (show TKB (XT hp) s0 s1 s2 s3 s4 from f0)⟩ (all_nil))
theorem rl43 : ruOk fFS gR43 := by
  intro r hp hO hN hH
  obtain ⟨s0, s1, rfl⟩ := len2 (show r.length = 2 from hN.1)
  have hR := hN.2.1.1
  have hIv : ∀ q ∈ ([(0, .ofNat 0, .ofNat 39), (1, .ofNat 0, .ofNat 939)] : sIv), ∃ x, ([s0, s1] : List Int)[q.1]? = some x ∧ q.2.1 ≤ x ∧ x ≤ q.2.2 := hN.2.1.2
  have b0 : (0 : Int) ≤ s0 ∧ s0 ≤ (39 : Int) := ivX (q := (0, .ofNat 0, .ofNat 39)) (y := s0) (hIv _ (.head _)) rfl
  have b1 : (0 : Int) ≤ s1 ∧ s1 ≤ (939 : Int) := ivX (q := (1, .ofNat 0, .ofNat 939)) (y := s1) (hIv _ (.tail _ (.head _))) rfl
  have hRf : ∀ q ∈ ([((40, .ofNat 173, []), (.ofNat 4, []), 1, .ofNat 0, [(.ofNat 1, 1)]), ((1, .ofNat 1, []), (.ofNat 0, [(.ofNat 1, 1)]), 1, .ofNat 0, [(.ofNat 1, 0)])] : List sRf), rfOk [s0, s1] hp q := hH.1
  have h0 : hI hp 173 4 = s1 := rfI0 (hRf _ (.head _)) (sE_k _ _) (sE_k _ _) (sE_V rfl)
  have y0 : (0 : Int) ≤ s1 ∧ s1 ≤ (940 : Int) := by rw [← h0]; exact hI_ty hO (by decide) rfl
  obtain ⟨i1, e1, l1, h1⟩ := rfI (xv := s0) (iv := s1) (hRf _ (.tail _ (.head _))) (sE_k _ _) (sE_V rfl) (sE_V rfl)
  have l1 : i1 < 940 := l1
  have h1 : hI hp 1 i1 = s0 := h1
  exact poX (.head _) rfl hR (all_nil) (all_nil) (all_cons ⟨[s1], ⟨sE_V rfl, trivial⟩, (show ¬ sgn (XB hp s1) from nmk_x h1 l1 e1 (by omega))⟩ (all_nil))
theorem rl44 : ruOk fFS gR44 := by
  intro r hp hO hN hH
  obtain ⟨s0, s1, rfl⟩ := len2 (show r.length = 2 from hN.1)
  have hR := hN.2.1.1
  have hIv : ∀ q ∈ ([(0, .ofNat 42, .ofNat 58), (1, .ofNat 0, .ofNat 939)] : sIv), ∃ x, ([s0, s1] : List Int)[q.1]? = some x ∧ q.2.1 ≤ x ∧ x ≤ q.2.2 := hN.2.1.2
  have b0 : (42 : Int) ≤ s0 ∧ s0 ≤ (58 : Int) := ivX (q := (0, .ofNat 42, .ofNat 58)) (y := s0) (hIv _ (.head _)) rfl
  have b1 : (0 : Int) ≤ s1 ∧ s1 ≤ (939 : Int) := ivX (q := (1, .ofNat 0, .ofNat 939)) (y := s1) (hIv _ (.tail _ (.head _))) rfl
  have hRf : ∀ q ∈ ([((40, .ofNat 173, []), (.ofNat 4, []), 1, .ofNat 0, [(.ofNat 1, 1)]), ((1, .ofNat 1, []), (.ofNat 0, [(.ofNat 1, 1)]), 1, .ofNat 0, [(.ofNat 1, 0)])] : List sRf), rfOk [s0, s1] hp q := hH.1
  have h0 : hI hp 173 4 = s1 := rfI0 (hRf _ (.head _)) (sE_k _ _) (sE_k _ _) (sE_V rfl)
  have y0 : (0 : Int) ≤ s1 ∧ s1 ≤ (940 : Int) := by rw [← h0]; exact hI_ty hO (by decide) rfl
  obtain ⟨i1, e1, l1, h1⟩ := rfI (xv := s0) (iv := s1) (hRf _ (.tail _ (.head _))) (sE_k _ _) (sE_V rfl) (sE_V rfl)
  have l1 : i1 < 940 := l1
  have h1 : hI hp 1 i1 = s0 := h1
  exact poX (.head _) rfl hR (all_nil) (all_nil) (all_cons ⟨[s1], ⟨sE_V rfl, trivial⟩, (show ¬ sgn (XB hp s1) from nmk_x h1 l1 e1 (by omega))⟩ (all_nil))
theorem rl45 : ruOk fFS gR45 := by
  intro r hp hO hN hH
  obtain ⟨s0, s1, rfl⟩ := len2 (show r.length = 2 from hN.1)
  have hR := hN.2.1.1
  have hIv : ∀ q ∈ ([(0, .ofNat 63, .ofNat 255), (1, .ofNat 0, .ofNat 939)] : sIv), ∃ x, ([s0, s1] : List Int)[q.1]? = some x ∧ q.2.1 ≤ x ∧ x ≤ q.2.2 := hN.2.1.2
  have b0 : (63 : Int) ≤ s0 ∧ s0 ≤ (255 : Int) := ivX (q := (0, .ofNat 63, .ofNat 255)) (y := s0) (hIv _ (.head _)) rfl
  have b1 : (0 : Int) ≤ s1 ∧ s1 ≤ (939 : Int) := ivX (q := (1, .ofNat 0, .ofNat 939)) (y := s1) (hIv _ (.tail _ (.head _))) rfl
  have hRf : ∀ q ∈ ([((40, .ofNat 173, []), (.ofNat 4, []), 1, .ofNat 0, [(.ofNat 1, 1)]), ((1, .ofNat 1, []), (.ofNat 0, [(.ofNat 1, 1)]), 1, .ofNat 0, [(.ofNat 1, 0)])] : List sRf), rfOk [s0, s1] hp q := hH.1
  have h0 : hI hp 173 4 = s1 := rfI0 (hRf _ (.head _)) (sE_k _ _) (sE_k _ _) (sE_V rfl)
  have y0 : (0 : Int) ≤ s1 ∧ s1 ≤ (940 : Int) := by rw [← h0]; exact hI_ty hO (by decide) rfl
  obtain ⟨i1, e1, l1, h1⟩ := rfI (xv := s0) (iv := s1) (hRf _ (.tail _ (.head _))) (sE_k _ _) (sE_V rfl) (sE_V rfl)
  have l1 : i1 < 940 := l1
  have h1 : hI hp 1 i1 = s0 := h1
  exact poX (.head _) rfl hR (all_nil) (all_nil) (all_cons ⟨[s1], ⟨sE_V rfl, trivial⟩, (show ¬ sgn (XB hp s1) from nmk_x h1 l1 e1 (by omega))⟩ (all_nil))
theorem rl46 : ruOk fFS gR46 := by
  intro r hp hO hN hH
  obtain ⟨s0, s1, s2, rfl⟩ := len3 (show r.length = 3 from hN.1)
  have hR := hN.2.1.1
  have hIv : ∀ q ∈ ([(0, .ofNat 40, .ofNat 41), (1, .ofNat 0, .ofNat 939), (2, .negSucc 2147483647, .ofNat 2147483647)] : sIv), ∃ x, ([s0, s1, s2] : List Int)[q.1]? = some x ∧ q.2.1 ≤ x ∧ x ≤ q.2.2 := hN.2.1.2
  have b0 : (40 : Int) ≤ s0 ∧ s0 ≤ (41 : Int) := ivX (q := (0, .ofNat 40, .ofNat 41)) (y := s0) (hIv _ (.head _)) rfl
  have b1 : (0 : Int) ≤ s1 ∧ s1 ≤ (939 : Int) := ivX (q := (1, .ofNat 0, .ofNat 939)) (y := s1) (hIv _ (.tail _ (.head _))) rfl
  have hRf : ∀ q ∈ ([((40, .ofNat 173, []), (.ofNat 4, []), 1, .ofNat 0, [(.ofNat 1, 1)]), ((1, .ofNat 1, []), (.ofNat 0, [(.ofNat 1, 1)]), 1, .ofNat 0, [(.ofNat 1, 0)])] : List sRf), rfOk [s0, s1, s2] hp q := hH.1
  have h0 : hI hp 173 4 = s1 := rfI0 (hRf _ (.head _)) (sE_k _ _) (sE_k _ _) (sE_V rfl)
  have y0 : (0 : Int) ≤ s1 ∧ s1 ≤ (940 : Int) := by rw [← h0]; exact hI_ty hO (by decide) rfl
  obtain ⟨i1, e1, l1, h1⟩ := rfI (xv := s0) (iv := s1) (hRf _ (.tail _ (.head _))) (sE_k _ _) (sE_V rfl) (sE_V rfl)
  have l1 : i1 < 940 := l1
  have h1 : hI hp 1 i1 = s0 := h1
  have hFc : ∀ q ∈ ([(42, [(.ofNat 0, [(.ofNat 1, 2)]), (.ofNat 0, [(.ofNat 1, 1)])])] : List sFc), fcOk fFS [s0, s1, s2] hp q := hH.2
  have f0 : P2 (XT hp) s2 s1 := fcX (ys := [s2, s1]) (hFc _ (.head _)) ⟨sE_V rfl, sE_V rfl, trivial⟩
  exact poX (.head _) rfl hR (all_nil) (all_nil) (all_cons ⟨[s2, 3, s1, (s1 + 1), s0], ⟨sE_V rfl, sE_k _ _, sE_V rfl, sEv (y' := ((1 : Int) + ((1 : Int) * s1 + 0))) rfl (by omega), sE_V rfl, trivial⟩, (show TKB (XT hp) s2 (3 : Int) s1 (s1 + 1) s0 from tks_x hO f0 h1 l1 e1 (by omega) (by omega))⟩ (all_nil))
theorem rl47 : ruOk fFS gR47 := by
  intro r hp hO hN hH
  obtain ⟨s0, s1, s2, rfl⟩ := len3 (show r.length = 3 from hN.1)
  have hR := hN.2.1.1
  have hIv : ∀ q ∈ ([(0, .ofNat 59, .ofNat 62), (1, .ofNat 0, .ofNat 939), (2, .negSucc 2147483647, .ofNat 2147483647)] : sIv), ∃ x, ([s0, s1, s2] : List Int)[q.1]? = some x ∧ q.2.1 ≤ x ∧ x ≤ q.2.2 := hN.2.1.2
  have b0 : (59 : Int) ≤ s0 ∧ s0 ≤ (62 : Int) := ivX (q := (0, .ofNat 59, .ofNat 62)) (y := s0) (hIv _ (.head _)) rfl
  have b1 : (0 : Int) ≤ s1 ∧ s1 ≤ (939 : Int) := ivX (q := (1, .ofNat 0, .ofNat 939)) (y := s1) (hIv _ (.tail _ (.head _))) rfl
  have hRf : ∀ q ∈ ([((40, .ofNat 173, []), (.ofNat 4, []), 1, .ofNat 0, [(.ofNat 1, 1)]), ((1, .ofNat 1, []), (.ofNat 0, [(.ofNat 1, 1)]), 1, .ofNat 0, [(.ofNat 1, 0)])] : List sRf), rfOk [s0, s1, s2] hp q := hH.1
  have h0 : hI hp 173 4 = s1 := rfI0 (hRf _ (.head _)) (sE_k _ _) (sE_k _ _) (sE_V rfl)
  have y0 : (0 : Int) ≤ s1 ∧ s1 ≤ (940 : Int) := by rw [← h0]; exact hI_ty hO (by decide) rfl
  obtain ⟨i1, e1, l1, h1⟩ := rfI (xv := s0) (iv := s1) (hRf _ (.tail _ (.head _))) (sE_k _ _) (sE_V rfl) (sE_V rfl)
  have l1 : i1 < 940 := l1
  have h1 : hI hp 1 i1 = s0 := h1
  have hFc : ∀ q ∈ ([(42, [(.ofNat 0, [(.ofNat 1, 2)]), (.ofNat 0, [(.ofNat 1, 1)])])] : List sFc), fcOk fFS [s0, s1, s2] hp q := hH.2
  have f0 : P2 (XT hp) s2 s1 := fcX (ys := [s2, s1]) (hFc _ (.head _)) ⟨sE_V rfl, sE_V rfl, trivial⟩
  exact poX (.head _) rfl hR (all_nil) (all_nil) (all_cons ⟨[s2, 3, s1, (s1 + 1), s0], ⟨sE_V rfl, sE_k _ _, sE_V rfl, sEv (y' := ((1 : Int) + ((1 : Int) * s1 + 0))) rfl (by omega), sE_V rfl, trivial⟩, (show TKB (XT hp) s2 (3 : Int) s1 (s1 + 1) s0 from tks_x hO f0 h1 l1 e1 (by omega) (by omega))⟩ (all_nil))
theorem rl48 : ruOk fFS gR48 := by
  intro r hp hO hN hH
  obtain ⟨s0, rfl⟩ := len1 (show r.length = 1 from hN.1)
  have hR := hN.2.1.1
  have hIv : ∀ q ∈ ([(0, .negSucc 2147483647, .ofNat 2147483647)] : sIv), ∃ x, ([s0] : List Int)[q.1]? = some x ∧ q.2.1 ≤ x ∧ x ≤ q.2.2 := hN.2.1.2
  have hRf : ∀ q ∈ ([((40, .ofNat 173, []), (.ofNat 4, []), 1, .ofNat 0, [(.ofNat 1, 0)])] : List sRf), rfOk [s0] hp q := hH.1
  have h0 : hI hp 173 4 = s0 := rfI0 (hRf _ (.head _)) (sE_k _ _) (sE_k _ _) (sE_V rfl)
  have y0 : (0 : Int) ≤ s0 ∧ s0 ≤ (940 : Int) := by rw [← h0]; exact hI_ty hO (by decide) rfl
  exact poX (.head _) rfl hR (all_nil) (all_nil) (all_cons ⟨[s0, s0, 0, 0, 0, 0], ⟨sE_V rfl, sE_V rfl, sE_k _ _, sE_k _ _, sE_k _ _, sE_k _ _, trivial⟩, (show RNb (XT hp).1 (XT hp).2.1 s0 s0 (0 : Int) (0 : Int) (0 : Int) (0 : Int) from rn_0 (by omega))⟩ (all_nil))
theorem rl49 : ruOk fFS gR49 := by
  intro r hp hO hN hH
  obtain ⟨s0, s1, s2, s3, s4, s5, rfl⟩ := len6 (show r.length = 6 from hN.1)
  have hR := hN.2.1.1
  have hIv : ∀ q ∈ ([(0, .negSucc 2147483647, .ofNat 2147483647), (1, .negSucc 2147483647, .ofNat 2147483647), (2, .negSucc 2147483647, .ofNat 2147483647), (4, .ofNat 0, .ofNat 940), (5, .ofNat 0, .ofNat 940)] : sIv), ∃ x, ([s0, s1, s2, s3, s4, s5] : List Int)[q.1]? = some x ∧ q.2.1 ≤ x ∧ x ≤ q.2.2 := hN.2.1.2
  have b0 : (-2147483648 : Int) ≤ s0 ∧ s0 ≤ (2147483647 : Int) := ivX (q := (0, .negSucc 2147483647, .ofNat 2147483647)) (y := s0) (hIv _ (.head _)) rfl
  have b1 : (-2147483648 : Int) ≤ s1 ∧ s1 ≤ (2147483647 : Int) := ivX (q := (1, .negSucc 2147483647, .ofNat 2147483647)) (y := s1) (hIv _ (.tail _ (.head _))) rfl
  have b3 : (0 : Int) ≤ s4 ∧ s4 ≤ (940 : Int) := ivX (q := (4, .ofNat 0, .ofNat 940)) (y := s4) (hIv _ (.tail _ (.tail _ (.tail _ (.head _))))) rfl
  have b4 : (0 : Int) ≤ s5 ∧ s5 ≤ (940 : Int) := ivX (q := (5, .ofNat 0, .ofNat 940)) (y := s5) (hIv _ (.tail _ (.tail _ (.tail _ (.tail _ (.head _)))))) rfl
  have hRf : ∀ q ∈ ([((40, .ofNat 173, []), (.ofNat 4, []), 1, .ofNat 0, [(.ofNat 1, 4)])] : List sRf), rfOk [s0, s1, s2, s3, s4, s5] hp q := hH.1
  have h0 : hI hp 173 4 = s4 := rfI0 (hRf _ (.head _)) (sE_k _ _) (sE_k _ _) (sE_V rfl)
  have y0 : (0 : Int) ≤ s4 ∧ s4 ≤ (940 : Int) := by rw [← h0]; exact hI_ty hO (by decide) rfl
  have hFc : ∀ q ∈ ([(44, [(.ofNat 0, [(.ofNat 1, 5)]), (.ofNat 0, [(.ofNat 1, 4)]), (.ofNat 0, [(.ofNat 1, 0)]), (.ofNat 0, [(.ofNat 1, 1)]), (.ofNat 0, [(.ofNat 1, 2)]), (.ofNat 0, [(.ofNat 1, 3)])])] : List sFc), fcOk fFS [s0, s1, s2, s3, s4, s5] hp q := hH.2
  have f0 : RNb (XT hp).1 (XT hp).2.1 s5 s4 s0 s1 s2 s3 := fcX (ys := [s5, s4, s0, s1, s2, s3]) (hFc _ (.head _)) ⟨sE_V rfl, sE_V rfl, sE_V rfl, sE_V rfl, sE_V rfl, sE_V rfl, trivial⟩
  have u := rn_b f0 (by omega)
  exact poX (.head _) rfl hR (all_cons (ivO (y := s0) rfl (show (0 : Int) ≤ s0 by omega) (show s0 ≤ (940 : Int) by omega)) (all_cons (ivO (y := s1) rfl (show (0 : Int) ≤ s1 by omega) (show s1 ≤ (940 : Int) by omega)) (all_nil))) (all_cons ⟨((0 : Int) + ((-1 : Int) * s4 + ((1 : Int) * s5 + 0))), rfl, (show ((0 : Int) + ((-1 : Int) * s4 + ((1 : Int) * s5 + 0))) ≤ 0 by omega)⟩ (all_nil)) (all_nil)
theorem rl50 : ruOk fFS gR50 := by
  intro r hp hO hN hH
  obtain ⟨s0, rfl⟩ := len1 (show r.length = 1 from hN.1)
  have hR := hN.2.1.1
  have hIv : ∀ q ∈ ([(0, .ofNat 0, .ofNat 255)] : sIv), ∃ x, ([s0] : List Int)[q.1]? = some x ∧ q.2.1 ≤ x ∧ x ≤ q.2.2 := hN.2.1.2
  have b0 : (0 : Int) ≤ s0 ∧ s0 ≤ (255 : Int) := ivX (q := (0, .ofNat 0, .ofNat 255)) (y := s0) (hIv _ (.head _)) rfl
  have y : (((0 : Int) ≤ s0 ∧ s0 ≤ (47 : Int))) ∨ (((48 : Int) ≤ s0 ∧ s0 ≤ (57 : Int))) ∨ (((58 : Int) ≤ s0 ∧ s0 ≤ (96 : Int))) ∨ (((97 : Int) ≤ s0 ∧ s0 ≤ (122 : Int))) ∨ (((123 : Int) ≤ s0 ∧ s0 ≤ (255 : Int))) := by omega
  rcases y with y | y | y | y | y
  · exact poX (.head _) rfl hR (all_cons (ivO (y := s0) rfl (show (0 : Int) ≤ s0 by omega) (show s0 ≤ (47 : Int) by omega)) (all_nil)) (all_nil) (all_nil)
  · exact poX (.tail _ (.head _)) rfl hR (all_cons (ivO (y := s0) rfl (show (48 : Int) ≤ s0 by omega) (show s0 ≤ (57 : Int) by omega)) (all_nil)) (all_nil) (all_nil)
  · exact poX (.tail _ (.tail _ (.head _))) rfl hR (all_cons (ivO (y := s0) rfl (show (58 : Int) ≤ s0 by omega) (show s0 ≤ (96 : Int) by omega)) (all_nil)) (all_nil) (all_nil)
  · exact poX (.tail _ (.tail _ (.tail _ (.head _)))) rfl hR (all_cons (ivO (y := s0) rfl (show (97 : Int) ≤ s0 by omega) (show s0 ≤ (122 : Int) by omega)) (all_nil)) (all_nil) (all_nil)
  · exact poX (.tail _ (.tail _ (.tail _ (.tail _ (.head _))))) rfl hR (all_cons (ivO (y := s0) rfl (show (123 : Int) ≤ s0 by omega) (show s0 ≤ (255 : Int) by omega)) (all_nil)) (all_nil) (all_nil)
theorem rl51 : ruOk fFS gR51 := by
  intro r hp hO hN hH
  obtain ⟨s0, s1, s2, s3, s4, s5, s6, rfl⟩ := len7 (show r.length = 7 from hN.1)
  have hR := hN.2.1.1
  have hIv : ∀ q ∈ ([(0, .negSucc 2147483647, .ofNat 2147483647), (1, .negSucc 2147483647, .ofNat 2147483647), (2, .negSucc 2147483647, .ofNat 2147483647), (4, .ofNat 0, .ofNat 47), (5, .ofNat 0, .ofNat 939), (6, .negSucc 2147483647, .ofNat 2147483647)] : sIv), ∃ x, ([s0, s1, s2, s3, s4, s5, s6] : List Int)[q.1]? = some x ∧ q.2.1 ≤ x ∧ x ≤ q.2.2 := hN.2.1.2
  have b3 : (0 : Int) ≤ s4 ∧ s4 ≤ (47 : Int) := ivX (q := (4, .ofNat 0, .ofNat 47)) (y := s4) (hIv _ (.tail _ (.tail _ (.tail _ (.head _))))) rfl
  have b4 : (0 : Int) ≤ s5 ∧ s5 ≤ (939 : Int) := ivX (q := (5, .ofNat 0, .ofNat 939)) (y := s5) (hIv _ (.tail _ (.tail _ (.tail _ (.tail _ (.head _)))))) rfl
  have hRf : ∀ q ∈ ([((40, .ofNat 173, []), (.ofNat 4, []), 1, .ofNat 0, [(.ofNat 1, 5)]), ((1, .ofNat 1, []), (.ofNat 0, [(.ofNat 1, 5)]), 1, .ofNat 0, [(.ofNat 1, 4)])] : List sRf), rfOk [s0, s1, s2, s3, s4, s5, s6] hp q := hH.1
  have h0 : hI hp 173 4 = s5 := rfI0 (hRf _ (.head _)) (sE_k _ _) (sE_k _ _) (sE_V rfl)
  have y0 : (0 : Int) ≤ s5 ∧ s5 ≤ (940 : Int) := by rw [← h0]; exact hI_ty hO (by decide) rfl
  obtain ⟨i1, e1, l1, h1⟩ := rfI (xv := s4) (iv := s5) (hRf _ (.tail _ (.head _))) (sE_k _ _) (sE_V rfl) (sE_V rfl)
  have l1 : i1 < 940 := l1
  have h1 : hI hp 1 i1 = s4 := h1
  have hFc : ∀ q ∈ ([(44, [(.ofNat 0, [(.ofNat 1, 6)]), (.ofNat 0, [(.ofNat 1, 5)]), (.ofNat 0, [(.ofNat 1, 0)]), (.ofNat 0, [(.ofNat 1, 1)]), (.ofNat 0, [(.ofNat 1, 2)]), (.ofNat 0, [(.ofNat 1, 3)])])] : List sFc), fcOk fFS [s0, s1, s2, s3, s4, s5, s6] hp q := hH.2
  have f0 : RNb (XT hp).1 (XT hp).2.1 s6 s5 s0 s1 s2 s3 := fcX (ys := [s6, s5, s0, s1, s2, s3]) (hFc _ (.head _)) ⟨sE_V rfl, sE_V rfl, sE_V rfl, sE_V rfl, sE_V rfl, sE_V rfl, trivial⟩
  exact poX (.head _) rfl hR (all_nil) (all_nil) (all_cons ⟨[s6, s5, s0, s1, s2, s3], ⟨sE_V rfl, sE_V rfl, sE_V rfl, sE_V rfl, sE_V rfl, sE_V rfl, trivial⟩, (show REb (XT hp).1 (XT hp).2.1 s6 s5 s0 s1 s2 s3 from re_x f0 h1 l1 e1 (by omega))⟩ (all_nil))
theorem rl52 : ruOk fFS gR52 := by
  intro r hp hO hN hH
  obtain ⟨s0, s1, s2, s3, s4, s5, s6, rfl⟩ := len7 (show r.length = 7 from hN.1)
  have hR := hN.2.1.1
  have hIv : ∀ q ∈ ([(0, .negSucc 2147483647, .ofNat 2147483647), (1, .negSucc 2147483647, .ofNat 2147483647), (2, .negSucc 2147483647, .ofNat 2147483647), (4, .ofNat 58, .ofNat 96), (5, .ofNat 0, .ofNat 939), (6, .negSucc 2147483647, .ofNat 2147483647)] : sIv), ∃ x, ([s0, s1, s2, s3, s4, s5, s6] : List Int)[q.1]? = some x ∧ q.2.1 ≤ x ∧ x ≤ q.2.2 := hN.2.1.2
  have b3 : (58 : Int) ≤ s4 ∧ s4 ≤ (96 : Int) := ivX (q := (4, .ofNat 58, .ofNat 96)) (y := s4) (hIv _ (.tail _ (.tail _ (.tail _ (.head _))))) rfl
  have b4 : (0 : Int) ≤ s5 ∧ s5 ≤ (939 : Int) := ivX (q := (5, .ofNat 0, .ofNat 939)) (y := s5) (hIv _ (.tail _ (.tail _ (.tail _ (.tail _ (.head _)))))) rfl
  have hRf : ∀ q ∈ ([((40, .ofNat 173, []), (.ofNat 4, []), 1, .ofNat 0, [(.ofNat 1, 5)]), ((1, .ofNat 1, []), (.ofNat 0, [(.ofNat 1, 5)]), 1, .ofNat 0, [(.ofNat 1, 4)])] : List sRf), rfOk [s0, s1, s2, s3, s4, s5, s6] hp q := hH.1
  have h0 : hI hp 173 4 = s5 := rfI0 (hRf _ (.head _)) (sE_k _ _) (sE_k _ _) (sE_V rfl)
  have y0 : (0 : Int) ≤ s5 ∧ s5 ≤ (940 : Int) := by rw [← h0]; exact hI_ty hO (by decide) rfl
  obtain ⟨i1, e1, l1, h1⟩ := rfI (xv := s4) (iv := s5) (hRf _ (.tail _ (.head _))) (sE_k _ _) (sE_V rfl) (sE_V rfl)
  have l1 : i1 < 940 := l1
  have h1 : hI hp 1 i1 = s4 := h1
  have hFc : ∀ q ∈ ([(44, [(.ofNat 0, [(.ofNat 1, 6)]), (.ofNat 0, [(.ofNat 1, 5)]), (.ofNat 0, [(.ofNat 1, 0)]), (.ofNat 0, [(.ofNat 1, 1)]), (.ofNat 0, [(.ofNat 1, 2)]), (.ofNat 0, [(.ofNat 1, 3)])])] : List sFc), fcOk fFS [s0, s1, s2, s3, s4, s5, s6] hp q := hH.2
  have f0 : RNb (XT hp).1 (XT hp).2.1 s6 s5 s0 s1 s2 s3 := fcX (ys := [s6, s5, s0, s1, s2, s3]) (hFc _ (.head _)) ⟨sE_V rfl, sE_V rfl, sE_V rfl, sE_V rfl, sE_V rfl, sE_V rfl, trivial⟩
  exact poX (.head _) rfl hR (all_nil) (all_nil) (all_cons ⟨[s6, s5, s0, s1, s2, s3], ⟨sE_V rfl, sE_V rfl, sE_V rfl, sE_V rfl, sE_V rfl, sE_V rfl, trivial⟩, (show REb (XT hp).1 (XT hp).2.1 s6 s5 s0 s1 s2 s3 from re_x f0 h1 l1 e1 (by omega))⟩ (all_nil))
theorem rl53 : ruOk fFS gR53 := by
  intro r hp hO hN hH
  obtain ⟨s0, s1, s2, s3, s4, s5, s6, rfl⟩ := len7 (show r.length = 7 from hN.1)
  have hR := hN.2.1.1
  have hIv : ∀ q ∈ ([(0, .negSucc 2147483647, .ofNat 2147483647), (1, .negSucc 2147483647, .ofNat 2147483647), (2, .negSucc 2147483647, .ofNat 2147483647), (4, .ofNat 123, .ofNat 255), (5, .ofNat 0, .ofNat 939), (6, .negSucc 2147483647, .ofNat 2147483647)] : sIv), ∃ x, ([s0, s1, s2, s3, s4, s5, s6] : List Int)[q.1]? = some x ∧ q.2.1 ≤ x ∧ x ≤ q.2.2 := hN.2.1.2
  have b3 : (123 : Int) ≤ s4 ∧ s4 ≤ (255 : Int) := ivX (q := (4, .ofNat 123, .ofNat 255)) (y := s4) (hIv _ (.tail _ (.tail _ (.tail _ (.head _))))) rfl
  have b4 : (0 : Int) ≤ s5 ∧ s5 ≤ (939 : Int) := ivX (q := (5, .ofNat 0, .ofNat 939)) (y := s5) (hIv _ (.tail _ (.tail _ (.tail _ (.tail _ (.head _)))))) rfl
  have hRf : ∀ q ∈ ([((40, .ofNat 173, []), (.ofNat 4, []), 1, .ofNat 0, [(.ofNat 1, 5)]), ((1, .ofNat 1, []), (.ofNat 0, [(.ofNat 1, 5)]), 1, .ofNat 0, [(.ofNat 1, 4)])] : List sRf), rfOk [s0, s1, s2, s3, s4, s5, s6] hp q := hH.1
  have h0 : hI hp 173 4 = s5 := rfI0 (hRf _ (.head _)) (sE_k _ _) (sE_k _ _) (sE_V rfl)
  have y0 : (0 : Int) ≤ s5 ∧ s5 ≤ (940 : Int) := by rw [← h0]; exact hI_ty hO (by decide) rfl
  obtain ⟨i1, e1, l1, h1⟩ := rfI (xv := s4) (iv := s5) (hRf _ (.tail _ (.head _))) (sE_k _ _) (sE_V rfl) (sE_V rfl)
  have l1 : i1 < 940 := l1
  have h1 : hI hp 1 i1 = s4 := h1
  have hFc : ∀ q ∈ ([(44, [(.ofNat 0, [(.ofNat 1, 6)]), (.ofNat 0, [(.ofNat 1, 5)]), (.ofNat 0, [(.ofNat 1, 0)]), (.ofNat 0, [(.ofNat 1, 1)]), (.ofNat 0, [(.ofNat 1, 2)]), (.ofNat 0, [(.ofNat 1, 3)])])] : List sFc), fcOk fFS [s0, s1, s2, s3, s4, s5, s6] hp q := hH.2
  have f0 : RNb (XT hp).1 (XT hp).2.1 s6 s5 s0 s1 s2 s3 := fcX (ys := [s6, s5, s0, s1, s2, s3]) (hFc _ (.head _)) ⟨sE_V rfl, sE_V rfl, sE_V rfl, sE_V rfl, sE_V rfl, sE_V rfl, trivial⟩
  exact poX (.head _) rfl hR (all_nil) (all_nil) (all_cons ⟨[s6, s5, s0, s1, s2, s3], ⟨sE_V rfl, sE_V rfl, sE_V rfl, sE_V rfl, sE_V rfl, sE_V rfl, trivial⟩, (show REb (XT hp).1 (XT hp).2.1 s6 s5 s0 s1 s2 s3 from re_x f0 h1 l1 e1 (by omega))⟩ (all_nil))
theorem rl54 : ruOk fFS gR54 := by
  intro r hp hO hN hH
  obtain ⟨s0, s1, s2, s3, s4, rfl⟩ := len5 (show r.length = 5 from hN.1)
  have hR := hN.2.1.1
  have hIv : ∀ q ∈ ([(0, .negSucc 2147483647, .ofNat 2147483647), (1, .negSucc 2147483647, .ofNat 2147483647), (2, .negSucc 2147483647, .ofNat 2147483647), (3, .negSucc 2147483647, .ofNat 2147483647), (4, .negSucc 2147483647, .ofNat 2147483647)] : sIv), ∃ x, ([s0, s1, s2, s3, s4] : List Int)[q.1]? = some x ∧ q.2.1 ≤ x ∧ x ≤ q.2.2 := hN.2.1.2
  have hFc : ∀ q ∈ ([(46, [(.ofNat 0, [(.ofNat 1, 0)]), (.ofNat 0, [(.ofNat 1, 1)]), (.ofNat 0, [(.ofNat 1, 2)]), (.ofNat 0, [(.ofNat 1, 3)]), (.ofNat 0, [(.ofNat 1, 4)])])] : List sFc), fcOk fFS [s0, s1, s2, s3, s4] hp q := hH.2
  have f0 : TKB (XT hp) s0 s1 s2 s3 s4 := fcX (ys := [s0, s1, s2, s3, s4]) (hFc _ (.head _)) ⟨sE_V rfl, sE_V rfl, sE_V rfl, sE_V rfl, sE_V rfl, trivial⟩
  exact poX (.head _) rfl hR (all_nil) (all_nil) (all_cons ⟨[s0, s1, s2, s3, s4], ⟨sE_V rfl, sE_V rfl, sE_V rfl, sE_V rfl, sE_V rfl, trivial⟩, (show TKB (XT hp) s0 s1 s2 s3 s4 from f0)⟩ (all_nil))
theorem rl55 : ruOk fFS gR55 := by
  intro r hp hO hN hH
  obtain ⟨s0, s1, s2, rfl⟩ := len3 (show r.length = 3 from hN.1)
  have hR := hN.2.1.1
  have hIv : ∀ q ∈ ([(0, .negSucc 2147483647, .ofNat 2147483647), (1, .negSucc 2147483647, .ofNat 2147483647), (2, .negSucc 2147483647, .ofNat 2147483647)] : sIv), ∃ x, ([s0, s1, s2] : List Int)[q.1]? = some x ∧ q.2.1 ≤ x ∧ x ≤ q.2.2 := hN.2.1.2
  have hFc : ∀ q ∈ ([(47, [(.ofNat 0, [(.ofNat 1, 0)]), (.ofNat 0, [(.ofNat 1, 1)]), (.ofNat 0, [(.ofNat 1, 2)])])] : List sFc), fcOk fFS [s0, s1, s2] hp q := hH.2
  have f0 : TW (XT hp) s0 s1 s2 := fcX (ys := [s0, s1, s2]) (hFc _ (.head _)) ⟨sE_V rfl, sE_V rfl, sE_V rfl, trivial⟩
  exact poX (.head _) rfl hR (all_nil) (all_nil) (all_cons ⟨[s0, s1, s2], ⟨sE_V rfl, sE_V rfl, sE_V rfl, trivial⟩, (show TW (XT hp) s0 s1 s2 from f0)⟩ (all_nil))
theorem rl56 : ruOk fFS gR56 := by
  intro r hp hO hN hH
  obtain ⟨s0, s1, s2, s3, s4, s5, s6, rfl⟩ := len7 (show r.length = 7 from hN.1)
  have hR := hN.2.1.1
  have hIv : ∀ q ∈ ([(0, .ofNat 1, .ofNat 940), (1, .ofNat 1, .ofNat 940), (2, .negSucc 2147483647, .ofNat 2147483647), (4, .negSucc 2147483647, .ofNat 2147483647), (5, .negSucc 2147483647, .ofNat 2147483647), (6, .negSucc 2147483647, .ofNat 2147483647)] : sIv), ∃ x, ([s0, s1, s2, s3, s4, s5, s6] : List Int)[q.1]? = some x ∧ q.2.1 ≤ x ∧ x ≤ q.2.2 := hN.2.1.2
  have b0 : (1 : Int) ≤ s0 ∧ s0 ≤ (940 : Int) := ivX (q := (0, .ofNat 1, .ofNat 940)) (y := s0) (hIv _ (.head _)) rfl
  have b1 : (1 : Int) ≤ s1 ∧ s1 ≤ (940 : Int) := ivX (q := (1, .ofNat 1, .ofNat 940)) (y := s1) (hIv _ (.tail _ (.head _))) rfl
  have hFc : ∀ q ∈ ([(45, [(.ofNat 0, [(.ofNat 1, 4)]), (.ofNat 0, [(.ofNat 1, 5)]), (.ofNat 0, [(.ofNat 1, 0)]), (.ofNat 0, [(.ofNat 1, 1)]), (.ofNat 0, [(.ofNat 1, 2)]), (.ofNat 0, [(.ofNat 1, 3)])]), (42, [(.ofNat 0, [(.ofNat 1, 6)]), (.ofNat 0, [(.ofNat 1, 4)])])] : List sFc), fcOk fFS [s0, s1, s2, s3, s4, s5, s6] hp q := hH.2
  have f0 : REb (XT hp).1 (XT hp).2.1 s4 s5 s0 s1 s2 s3 := fcX (ys := [s4, s5, s0, s1, s2, s3]) (hFc _ (.head _)) ⟨sE_V rfl, sE_V rfl, sE_V rfl, sE_V rfl, sE_V rfl, sE_V rfl, trivial⟩
  have f1 : P2 (XT hp) s6 s4 := fcX (ys := [s6, s4]) (hFc _ (.tail _ (.head _))) ⟨sE_V rfl, sE_V rfl, trivial⟩
  exact poX (.head _) rfl hR (all_nil) (all_nil) (all_cons ⟨[s6, 4, s4, s5, (-1)], ⟨sE_V rfl, sE_k _ _, sE_V rfl, sE_V rfl, sE_k _ _, trivial⟩, (show TKB (XT hp) s6 (4 : Int) s4 s5 (-1 : Int) from re_bad (XT_ok hO) f0 f1 (Or.inl ⟨by omega, by omega⟩))⟩ (all_nil))
theorem rl57 : ruOk fFS gR57 := by
  intro r hp hO hN hH
  obtain ⟨s0, s1, s2, s3, s4, s5, s6, rfl⟩ := len7 (show r.length = 7 from hN.1)
  have hR := hN.2.1.1
  have hIv : ∀ q ∈ ([(0, .ofNat 0, .ofNat 0), (1, .ofNat 0, .ofNat 0), (2, .negSucc 2147483647, .ofNat 2147483647), (4, .negSucc 2147483647, .ofNat 2147483647), (5, .negSucc 2147483647, .ofNat 2147483647), (6, .negSucc 2147483647, .ofNat 2147483647)] : sIv), ∃ x, ([s0, s1, s2, s3, s4, s5, s6] : List Int)[q.1]? = some x ∧ q.2.1 ≤ x ∧ x ≤ q.2.2 := hN.2.1.2
  have b0 : (0 : Int) ≤ s0 ∧ s0 ≤ (0 : Int) := ivX (q := (0, .ofNat 0, .ofNat 0)) (y := s0) (hIv _ (.head _)) rfl
  have b1 : (0 : Int) ≤ s1 ∧ s1 ≤ (0 : Int) := ivX (q := (1, .ofNat 0, .ofNat 0)) (y := s1) (hIv _ (.tail _ (.head _))) rfl
  have hFc : ∀ q ∈ ([(45, [(.ofNat 0, [(.ofNat 1, 4)]), (.ofNat 0, [(.ofNat 1, 5)]), (.ofNat 0, [(.ofNat 1, 0)]), (.ofNat 0, [(.ofNat 1, 1)]), (.ofNat 0, [(.ofNat 1, 2)]), (.ofNat 0, [(.ofNat 1, 3)])]), (42, [(.ofNat 0, [(.ofNat 1, 6)]), (.ofNat 0, [(.ofNat 1, 4)])]), (43, [(.ofNat 0, [(.ofNat 1, 4)])])] : List sFc), fcOk fFS [s0, s1, s2, s3, s4, s5, s6] hp q := hH.2
  have f0 : REb (XT hp).1 (XT hp).2.1 s4 s5 s0 s1 s2 s3 := fcX (ys := [s4, s5, s0, s1, s2, s3]) (hFc _ (.head _)) ⟨sE_V rfl, sE_V rfl, sE_V rfl, sE_V rfl, sE_V rfl, sE_V rfl, trivial⟩
  have f1 : P2 (XT hp) s6 s4 := fcX (ys := [s6, s4]) (hFc _ (.tail _ (.head _))) ⟨sE_V rfl, sE_V rfl, trivial⟩
  have f2 : ¬ sgn (XB hp s4) := fcX (ys := [s4]) (hFc _ (.tail _ (.tail _ (.head _)))) ⟨sE_V rfl, trivial⟩
  exact poX (.head _) rfl hR (all_nil) (all_nil) (all_cons ⟨[s6, 4, s4, s5, (-1)], ⟨sE_V rfl, sE_k _ _, sE_V rfl, sE_V rfl, sE_k _ _, trivial⟩, (show TKB (XT hp) s6 (4 : Int) s4 s5 (-1 : Int) from bad0_x hO f0 f1 f2 (by omega) (by omega))⟩ (all_nil))
theorem rl58 : ruOk fFS gR58 := by
  intro r hp hO hN hH
  obtain ⟨s0, rfl⟩ := len1 (show r.length = 1 from hN.1)
  have hR := hN.2.1.1
  have hIv : ∀ q ∈ ([(0, .ofNat 0, .ofNat 940)] : sIv), ∃ x, ([s0] : List Int)[q.1]? = some x ∧ q.2.1 ≤ x ∧ x ≤ q.2.2 := hN.2.1.2
  have b0 : (0 : Int) ≤ s0 ∧ s0 ≤ (940 : Int) := ivX (q := (0, .ofNat 0, .ofNat 940)) (y := s0) (hIv _ (.head _)) rfl
  have y : (((0 : Int) ≤ s0 ∧ s0 ≤ (0 : Int))) ∨ (((1 : Int) ≤ s0 ∧ s0 ≤ (940 : Int))) := by omega
  rcases y with y | y
  · exact poX (.head _) rfl hR (all_cons (ivO (y := s0) rfl (show (0 : Int) ≤ s0 by omega) (show s0 ≤ (0 : Int) by omega)) (all_nil)) (all_nil) (all_nil)
  · exact poX (.tail _ (.head _)) rfl hR (all_cons (ivO (y := s0) rfl (show (1 : Int) ≤ s0 by omega) (show s0 ≤ (940 : Int) by omega)) (all_nil)) (all_nil) (all_nil)
theorem rl59 : ruOk fFS gR59 := by
  intro r hp hO hN hH
  obtain ⟨s0, rfl⟩ := len1 (show r.length = 1 from hN.1)
  have hR := hN.2.1.1
  have hIv : ∀ q ∈ ([(0, .ofNat 0, .ofNat 940)] : sIv), ∃ x, ([s0] : List Int)[q.1]? = some x ∧ q.2.1 ≤ x ∧ x ≤ q.2.2 := hN.2.1.2
  have b0 : (0 : Int) ≤ s0 ∧ s0 ≤ (940 : Int) := ivX (q := (0, .ofNat 0, .ofNat 940)) (y := s0) (hIv _ (.head _)) rfl
  have y : (((0 : Int) ≤ s0 ∧ s0 ≤ (6 : Int))) ∨ (((7 : Int) ≤ s0 ∧ s0 ≤ (940 : Int))) := by omega
  rcases y with y | y
  · exact poX (.head _) rfl hR (all_cons (ivO (y := s0) rfl (show (0 : Int) ≤ s0 by omega) (show s0 ≤ (6 : Int) by omega)) (all_nil)) (all_nil) (all_nil)
  · exact poX (.tail _ (.head _)) rfl hR (all_cons (ivO (y := s0) rfl (show (7 : Int) ≤ s0 by omega) (show s0 ≤ (940 : Int) by omega)) (all_nil)) (all_nil) (all_nil)
theorem rl60 : ruOk fFS gR60 := by
  intro r hp hO hN hH
  obtain ⟨s0, s1, s2, s3, s4, s5, rfl⟩ := len6 (show r.length = 6 from hN.1)
  have hR := hN.2.1.1
  have hIv : ∀ q ∈ ([(0, .ofNat 0, .ofNat 6), (1, .ofNat 0, .ofNat 0), (2, .negSucc 2147483647, .ofNat 2147483647), (4, .negSucc 2147483647, .ofNat 2147483647), (5, .negSucc 2147483647, .ofNat 2147483647)] : sIv), ∃ x, ([s0, s1, s2, s3, s4, s5] : List Int)[q.1]? = some x ∧ q.2.1 ≤ x ∧ x ≤ q.2.2 := hN.2.1.2
  have b0 : (0 : Int) ≤ s0 ∧ s0 ≤ (6 : Int) := ivX (q := (0, .ofNat 0, .ofNat 6)) (y := s0) (hIv _ (.head _)) rfl
  have b1 : (0 : Int) ≤ s1 ∧ s1 ≤ (0 : Int) := ivX (q := (1, .ofNat 0, .ofNat 0)) (y := s1) (hIv _ (.tail _ (.head _))) rfl
  have hFc : ∀ q ∈ ([(44, [(.ofNat 0, [(.ofNat 1, 4)]), (.ofNat 0, [(.ofNat 1, 5)]), (.ofNat 0, [(.ofNat 1, 0)]), (.ofNat 0, [(.ofNat 1, 1)]), (.ofNat 0, [(.ofNat 1, 2)]), (.ofNat 0, [(.ofNat 1, 3)])])] : List sFc), fcOk fFS [s0, s1, s2, s3, s4, s5] hp q := hH.2
  have f0 : RNb (XT hp).1 (XT hp).2.1 s4 s5 s0 s1 s2 s3 := fcX (ys := [s4, s5, s0, s1, s2, s3]) (hFc _ (.head _)) ⟨sE_V rfl, sE_V rfl, sE_V rfl, sE_V rfl, sE_V rfl, sE_V rfl, trivial⟩
  have u := rn_w f0 (by omega) (by omega)
  exact poX (.head _) rfl hR (all_cons (ivO (y := s3) rfl (show (0 : Int) ≤ s3 by omega) (show s3 ≤ (1073741823 : Int) by omega)) (all_nil)) (all_nil) (all_nil)
theorem rl61 : ruOk fFS gR61 := by
  intro r hp hO hN hH
  obtain ⟨s0, s1, s2, s3, s4, s5, s6, s7, s8, rfl⟩ := len9 (show r.length = 9 from hN.1)
  have hR := hN.2.1.1
  have hIv : ∀ q ∈ ([(0, .ofNat 1, .ofNat 7), (1, .ofNat 0, .ofNat 0), (2, .negSucc 2147483647, .ofNat 2147483647), (4, .ofNat 97, .ofNat 122), (5, .ofNat 0, .ofNat 939), (6, .negSucc 2147483647, .ofNat 2147483647), (7, .negSucc 2147483647, .ofNat 2147483647)] : sIv), ∃ x, ([s0, s1, s2, s3, s4, s5, s6, s7, s8] : List Int)[q.1]? = some x ∧ q.2.1 ≤ x ∧ x ≤ q.2.2 := hN.2.1.2
  have b0 : (1 : Int) ≤ s0 ∧ s0 ≤ (7 : Int) := ivX (q := (0, .ofNat 1, .ofNat 7)) (y := s0) (hIv _ (.head _)) rfl
  have b1 : (0 : Int) ≤ s1 ∧ s1 ≤ (0 : Int) := ivX (q := (1, .ofNat 0, .ofNat 0)) (y := s1) (hIv _ (.tail _ (.head _))) rfl
  have b3 : (97 : Int) ≤ s4 ∧ s4 ≤ (122 : Int) := ivX (q := (4, .ofNat 97, .ofNat 122)) (y := s4) (hIv _ (.tail _ (.tail _ (.tail _ (.head _))))) rfl
  have b4 : (0 : Int) ≤ s5 ∧ s5 ≤ (939 : Int) := ivX (q := (5, .ofNat 0, .ofNat 939)) (y := s5) (hIv _ (.tail _ (.tail _ (.tail _ (.tail _ (.head _)))))) rfl
  have hCs : ∀ c ∈ ([(.ofNat 1, [(.ofNat 1, 5), (.negSucc 0, 6)]), (.ofNat 96, [(.ofNat 1, 3), (.negSucc 0, 4), (.negSucc 31, 8)]), (.negSucc 95, [(.negSucc 0, 3), (.ofNat 1, 4), (.ofNat 32, 8)])] : List sLn), ∃ x, sE [s0, s1, s2, s3, s4, s5, s6, s7, s8] c = some x ∧ x ≤ 0 := hN.2.2.1
  have c0 : ((1 : Int) + ((1 : Int) * s5 + ((-1 : Int) * s6 + 0))) ≤ 0 := csX (hCs _ (.head _)) rfl
  have c1 : ((96 : Int) + ((1 : Int) * s3 + ((-1 : Int) * s4 + ((-32 : Int) * s8 + 0)))) ≤ 0 := csX (hCs _ (.tail _ (.head _))) rfl
  have c2 : ((-96 : Int) + ((-1 : Int) * s3 + ((1 : Int) * s4 + ((32 : Int) * s8 + 0)))) ≤ 0 := csX (hCs _ (.tail _ (.tail _ (.head _)))) rfl
  have hRf : ∀ q ∈ ([((40, .ofNat 173, []), (.ofNat 4, []), 1, .ofNat 0, [(.ofNat 1, 5)]), ((1, .ofNat 1, []), (.ofNat 0, [(.ofNat 1, 5)]), 1, .ofNat 0, [(.ofNat 1, 4)]), ((40, .ofNat 173, []), (.ofNat 2, []), 1, .ofNat 0, [(.ofNat 1, 6)])] : List sRf), rfOk [s0, s1, s2, s3, s4, s5, s6, s7, s8] hp q := hH.1
  have h0 : hI hp 173 4 = s5 := rfI0 (hRf _ (.head _)) (sE_k _ _) (sE_k _ _) (sE_V rfl)
  have y0 : (0 : Int) ≤ s5 ∧ s5 ≤ (940 : Int) := by rw [← h0]; exact hI_ty hO (by decide) rfl
  obtain ⟨i1, e1, l1, h1⟩ := rfI (xv := s4) (iv := s5) (hRf _ (.tail _ (.head _))) (sE_k _ _) (sE_V rfl) (sE_V rfl)
  have l1 : i1 < 940 := l1
  have h1 : hI hp 1 i1 = s4 := h1
  have h2 : hI hp 173 2 = s6 := rfI0 (hRf _ (.tail _ (.tail _ (.head _)))) (sE_k _ _) (sE_k _ _) (sE_V rfl)
  have y2 : (0 : Int) ≤ s6 ∧ s6 ≤ (940 : Int) := by rw [← h2]; exact hI_ty hO (by decide) rfl
  have tnx : (XT hp).2.1 = s6 := h2
  have hFc : ∀ q ∈ ([(44, [(.ofNat 0, [(.ofNat 1, 7)]), (.ofNat 0, [(.ofNat 1, 5)]), (.negSucc 0, [(.ofNat 1, 0)]), (.ofNat 0, [(.ofNat 1, 1)]), (.ofNat 0, [(.ofNat 1, 2)]), (.ofNat 0, [(.ofNat 1, 8)])])] : List sFc), fcOk fFS [s0, s1, s2, s3, s4, s5, s6, s7, s8] hp q := hH.2
  have f0 : RNb (XT hp).1 (XT hp).2.1 s7 s5 (s0 - 1) s1 s2 s8 := fcX (ys := [s7, s5, (s0 - 1), s1, s2, s8]) (hFc _ (.head _)) ⟨sE_V rfl, sE_V rfl, sEv (y' := ((-1 : Int) + ((1 : Int) * s0 + 0))) rfl (by omega), sE_V rfl, sE_V rfl, sE_V rfl, trivial⟩
  exact poX (.head _) rfl hR (all_nil) (all_nil) (all_cons ⟨[s7, (s5 + 1), s0, s1, s2, s3], ⟨sE_V rfl, sEv (y' := ((1 : Int) + ((1 : Int) * s5 + 0))) rfl (by omega), sE_V rfl, sE_V rfl, sE_V rfl, sE_V rfl, trivial⟩, (show RNb (XT hp).1 (XT hp).2.1 s7 (s5 + 1) s0 s1 s2 s3 from rl_x f0 h1 l1 e1 ⟨by omega, by omega⟩ (by omega) (by omega) (by omega) (fun _ _ => by omega))⟩ (all_nil))
theorem rl62 : ruOk fFS gR62 := by
  intro r hp hO hN hH
  obtain ⟨s0, rfl⟩ := len1 (show r.length = 1 from hN.1)
  have hR := hN.2.1.1
  have hIv : ∀ q ∈ ([(0, .ofNat 0, .ofNat 940)] : sIv), ∃ x, ([s0] : List Int)[q.1]? = some x ∧ q.2.1 ≤ x ∧ x ≤ q.2.2 := hN.2.1.2
  have b0 : (0 : Int) ≤ s0 ∧ s0 ≤ (940 : Int) := ivX (q := (0, .ofNat 0, .ofNat 940)) (y := s0) (hIv _ (.head _)) rfl
  have y : (((0 : Int) ≤ s0 ∧ s0 ≤ (0 : Int))) ∨ (((1 : Int) ≤ s0 ∧ s0 ≤ (940 : Int))) := by omega
  rcases y with y | y
  · exact poX (.head _) rfl hR (all_cons (ivO (y := s0) rfl (show (0 : Int) ≤ s0 by omega) (show s0 ≤ (0 : Int) by omega)) (all_nil)) (all_nil) (all_nil)
  · exact poX (.tail _ (.head _)) rfl hR (all_cons (ivO (y := s0) rfl (show (1 : Int) ≤ s0 by omega) (show s0 ≤ (940 : Int) by omega)) (all_nil)) (all_nil) (all_nil)
theorem rl63 : ruOk fFS gR63 := by
  intro r hp hO hN hH
  obtain ⟨s0, rfl⟩ := len1 (show r.length = 1 from hN.1)
  have hR := hN.2.1.1
  have hIv : ∀ q ∈ ([(0, .ofNat 0, .ofNat 940)] : sIv), ∃ x, ([s0] : List Int)[q.1]? = some x ∧ q.2.1 ≤ x ∧ x ≤ q.2.2 := hN.2.1.2
  have b0 : (0 : Int) ≤ s0 ∧ s0 ≤ (940 : Int) := ivX (q := (0, .ofNat 0, .ofNat 940)) (y := s0) (hIv _ (.head _)) rfl
  have y : (((0 : Int) ≤ s0 ∧ s0 ≤ (1 : Int))) ∨ (((2 : Int) ≤ s0 ∧ s0 ≤ (940 : Int))) := by omega
  rcases y with y | y
  · exact poX (.head _) rfl hR (all_cons (ivO (y := s0) rfl (show (0 : Int) ≤ s0 by omega) (show s0 ≤ (1 : Int) by omega)) (all_nil)) (all_nil) (all_nil)
  · exact poX (.tail _ (.head _)) rfl hR (all_cons (ivO (y := s0) rfl (show (2 : Int) ≤ s0 by omega) (show s0 ≤ (940 : Int) by omega)) (all_nil)) (all_nil) (all_nil)
theorem rl64 : ruOk fFS gR64 := by
  intro r hp hO hN hH
  obtain ⟨s0, s1, s2, s3, s4, s5, rfl⟩ := len6 (show r.length = 6 from hN.1)
  have hR := hN.2.1.1
  have hIv : ∀ q ∈ ([(0, .ofNat 0, .ofNat 0), (1, .ofNat 0, .ofNat 1), (2, .negSucc 2147483647, .ofNat 2147483647), (4, .negSucc 2147483647, .ofNat 2147483647), (5, .negSucc 2147483647, .ofNat 2147483647)] : sIv), ∃ x, ([s0, s1, s2, s3, s4, s5] : List Int)[q.1]? = some x ∧ q.2.1 ≤ x ∧ x ≤ q.2.2 := hN.2.1.2
  have b0 : (0 : Int) ≤ s0 ∧ s0 ≤ (0 : Int) := ivX (q := (0, .ofNat 0, .ofNat 0)) (y := s0) (hIv _ (.head _)) rfl
  have b1 : (0 : Int) ≤ s1 ∧ s1 ≤ (1 : Int) := ivX (q := (1, .ofNat 0, .ofNat 1)) (y := s1) (hIv _ (.tail _ (.head _))) rfl
  have b2 : (-2147483648 : Int) ≤ s2 ∧ s2 ≤ (2147483647 : Int) := ivX (q := (2, .negSucc 2147483647, .ofNat 2147483647)) (y := s2) (hIv _ (.tail _ (.tail _ (.head _)))) rfl
  have hFc : ∀ q ∈ ([(44, [(.ofNat 0, [(.ofNat 1, 4)]), (.ofNat 0, [(.ofNat 1, 5)]), (.ofNat 0, [(.ofNat 1, 0)]), (.ofNat 0, [(.ofNat 1, 1)]), (.ofNat 0, [(.ofNat 1, 2)]), (.ofNat 0, [(.ofNat 1, 3)])])] : List sFc), fcOk fFS [s0, s1, s2, s3, s4, s5] hp q := hH.2
  have f0 : RNb (XT hp).1 (XT hp).2.1 s4 s5 s0 s1 s2 s3 := fcX (ys := [s4, s5, s0, s1, s2, s3]) (hFc _ (.head _)) ⟨sE_V rfl, sE_V rfl, sE_V rfl, sE_V rfl, sE_V rfl, sE_V rfl, trivial⟩
  have u := rn_n f0 (by omega) (by omega)
  exact poX (.head _) rfl hR (all_cons (ivO (y := s2) rfl (show (0 : Int) ≤ s2 by omega) (show s2 ≤ (9 : Int) by omega)) (all_nil)) (all_nil) (all_nil)
theorem rl65 : ruOk fFS gR65 := by
  intro r hp hO hN hH
  obtain ⟨s0, s1, s2, s3, s4, s5, s6, s7, s8, rfl⟩ := len9 (show r.length = 9 from hN.1)
  have hR := hN.2.1.1
  have hIv : ∀ q ∈ ([(0, .ofNat 1, .ofNat 941), (1, .ofNat 1, .ofNat 940), (2, .negSucc 2147483647, .ofNat 2147483647), (4, .ofNat 97, .ofNat 122), (5, .ofNat 0, .ofNat 939), (6, .negSucc 2147483647, .ofNat 2147483647), (7, .negSucc 2147483647, .ofNat 2147483647)] : sIv), ∃ x, ([s0, s1, s2, s3, s4, s5, s6, s7, s8] : List Int)[q.1]? = some x ∧ q.2.1 ≤ x ∧ x ≤ q.2.2 := hN.2.1.2
  have b0 : (1 : Int) ≤ s0 ∧ s0 ≤ (941 : Int) := ivX (q := (0, .ofNat 1, .ofNat 941)) (y := s0) (hIv _ (.head _)) rfl
  have b1 : (1 : Int) ≤ s1 ∧ s1 ≤ (940 : Int) := ivX (q := (1, .ofNat 1, .ofNat 940)) (y := s1) (hIv _ (.tail _ (.head _))) rfl
  have b3 : (97 : Int) ≤ s4 ∧ s4 ≤ (122 : Int) := ivX (q := (4, .ofNat 97, .ofNat 122)) (y := s4) (hIv _ (.tail _ (.tail _ (.tail _ (.head _))))) rfl
  have b4 : (0 : Int) ≤ s5 ∧ s5 ≤ (939 : Int) := ivX (q := (5, .ofNat 0, .ofNat 939)) (y := s5) (hIv _ (.tail _ (.tail _ (.tail _ (.tail _ (.head _)))))) rfl
  have hCs : ∀ c ∈ ([(.ofNat 1, [(.ofNat 1, 5), (.negSucc 0, 6)])] : List sLn), ∃ x, sE [s0, s1, s2, s3, s4, s5, s6, s7, s8] c = some x ∧ x ≤ 0 := hN.2.2.1
  have c0 : ((1 : Int) + ((1 : Int) * s5 + ((-1 : Int) * s6 + 0))) ≤ 0 := csX (hCs _ (.head _)) rfl
  have hRf : ∀ q ∈ ([((40, .ofNat 173, []), (.ofNat 4, []), 1, .ofNat 0, [(.ofNat 1, 5)]), ((1, .ofNat 1, []), (.ofNat 0, [(.ofNat 1, 5)]), 1, .ofNat 0, [(.ofNat 1, 4)]), ((40, .ofNat 173, []), (.ofNat 2, []), 1, .ofNat 0, [(.ofNat 1, 6)])] : List sRf), rfOk [s0, s1, s2, s3, s4, s5, s6, s7, s8] hp q := hH.1
  have h0 : hI hp 173 4 = s5 := rfI0 (hRf _ (.head _)) (sE_k _ _) (sE_k _ _) (sE_V rfl)
  have y0 : (0 : Int) ≤ s5 ∧ s5 ≤ (940 : Int) := by rw [← h0]; exact hI_ty hO (by decide) rfl
  obtain ⟨i1, e1, l1, h1⟩ := rfI (xv := s4) (iv := s5) (hRf _ (.tail _ (.head _))) (sE_k _ _) (sE_V rfl) (sE_V rfl)
  have l1 : i1 < 940 := l1
  have h1 : hI hp 1 i1 = s4 := h1
  have h2 : hI hp 173 2 = s6 := rfI0 (hRf _ (.tail _ (.tail _ (.head _)))) (sE_k _ _) (sE_k _ _) (sE_V rfl)
  have y2 : (0 : Int) ≤ s6 ∧ s6 ≤ (940 : Int) := by rw [← h2]; exact hI_ty hO (by decide) rfl
  have tnx : (XT hp).2.1 = s6 := h2
  have hFc : ∀ q ∈ ([(44, [(.ofNat 0, [(.ofNat 1, 7)]), (.ofNat 0, [(.ofNat 1, 5)]), (.negSucc 0, [(.ofNat 1, 0)]), (.ofNat 0, [(.ofNat 1, 1)]), (.ofNat 0, [(.ofNat 1, 2)]), (.ofNat 0, [(.ofNat 1, 8)])])] : List sFc), fcOk fFS [s0, s1, s2, s3, s4, s5, s6, s7, s8] hp q := hH.2
  have f0 : RNb (XT hp).1 (XT hp).2.1 s7 s5 (s0 - 1) s1 s2 s8 := fcX (ys := [s7, s5, (s0 - 1), s1, s2, s8]) (hFc _ (.head _)) ⟨sE_V rfl, sE_V rfl, sEv (y' := ((-1 : Int) + ((1 : Int) * s0 + 0))) rfl (by omega), sE_V rfl, sE_V rfl, sE_V rfl, trivial⟩
  exact poX (.head _) rfl hR (all_nil) (all_nil) (all_cons ⟨[s7, (s5 + 1), s0, s1, s2, s3], ⟨sE_V rfl, sEv (y' := ((1 : Int) + ((1 : Int) * s5 + 0))) rfl (by omega), sE_V rfl, sE_V rfl, sE_V rfl, sE_V rfl, trivial⟩, (show RNb (XT hp).1 (XT hp).2.1 s7 (s5 + 1) s0 s1 s2 s3 from rl_x f0 h1 l1 e1 ⟨by omega, by omega⟩ (by omega) (by omega) (by omega) (fun _ _ => by omega))⟩ (all_nil))
theorem rl66 : ruOk fFS gR66 := by
  intro r hp hO hN hH
  obtain ⟨s0, s1, s2, s3, s4, s5, s6, s7, s8, rfl⟩ := len9 (show r.length = 9 from hN.1)
  have hR := hN.2.1.1
  have hIv : ∀ q ∈ ([(0, .ofNat 8, .ofNat 941), (1, .ofNat 0, .ofNat 940), (2, .negSucc 2147483647, .ofNat 2147483647), (4, .ofNat 97, .ofNat 122), (5, .ofNat 0, .ofNat 939), (6, .negSucc 2147483647, .ofNat 2147483647), (7, .negSucc 2147483647, .ofNat 2147483647)] : sIv), ∃ x, ([s0, s1, s2, s3, s4, s5, s6, s7, s8] : List Int)[q.1]? = some x ∧ q.2.1 ≤ x ∧ x ≤ q.2.2 := hN.2.1.2
  have b0 : (8 : Int) ≤ s0 ∧ s0 ≤ (941 : Int) := ivX (q := (0, .ofNat 8, .ofNat 941)) (y := s0) (hIv _ (.head _)) rfl
  have b1 : (0 : Int) ≤ s1 ∧ s1 ≤ (940 : Int) := ivX (q := (1, .ofNat 0, .ofNat 940)) (y := s1) (hIv _ (.tail _ (.head _))) rfl
  have b3 : (97 : Int) ≤ s4 ∧ s4 ≤ (122 : Int) := ivX (q := (4, .ofNat 97, .ofNat 122)) (y := s4) (hIv _ (.tail _ (.tail _ (.tail _ (.head _))))) rfl
  have b4 : (0 : Int) ≤ s5 ∧ s5 ≤ (939 : Int) := ivX (q := (5, .ofNat 0, .ofNat 939)) (y := s5) (hIv _ (.tail _ (.tail _ (.tail _ (.tail _ (.head _)))))) rfl
  have hCs : ∀ c ∈ ([(.ofNat 1, [(.ofNat 1, 5), (.negSucc 0, 6)])] : List sLn), ∃ x, sE [s0, s1, s2, s3, s4, s5, s6, s7, s8] c = some x ∧ x ≤ 0 := hN.2.2.1
  have c0 : ((1 : Int) + ((1 : Int) * s5 + ((-1 : Int) * s6 + 0))) ≤ 0 := csX (hCs _ (.head _)) rfl
  have hRf : ∀ q ∈ ([((40, .ofNat 173, []), (.ofNat 4, []), 1, .ofNat 0, [(.ofNat 1, 5)]), ((1, .ofNat 1, []), (.ofNat 0, [(.ofNat 1, 5)]), 1, .ofNat 0, [(.ofNat 1, 4)]), ((40, .ofNat 173, []), (.ofNat 2, []), 1, .ofNat 0, [(.ofNat 1, 6)])] : List sRf), rfOk [s0, s1, s2, s3, s4, s5, s6, s7, s8] hp q := hH.1
  have h0 : hI hp 173 4 = s5 := rfI0 (hRf _ (.head _)) (sE_k _ _) (sE_k _ _) (sE_V rfl)
  have y0 : (0 : Int) ≤ s5 ∧ s5 ≤ (940 : Int) := by rw [← h0]; exact hI_ty hO (by decide) rfl
  obtain ⟨i1, e1, l1, h1⟩ := rfI (xv := s4) (iv := s5) (hRf _ (.tail _ (.head _))) (sE_k _ _) (sE_V rfl) (sE_V rfl)
  have l1 : i1 < 940 := l1
  have h1 : hI hp 1 i1 = s4 := h1
  have h2 : hI hp 173 2 = s6 := rfI0 (hRf _ (.tail _ (.tail _ (.head _)))) (sE_k _ _) (sE_k _ _) (sE_V rfl)
  have y2 : (0 : Int) ≤ s6 ∧ s6 ≤ (940 : Int) := by rw [← h2]; exact hI_ty hO (by decide) rfl
  have tnx : (XT hp).2.1 = s6 := h2
  have hFc : ∀ q ∈ ([(44, [(.ofNat 0, [(.ofNat 1, 7)]), (.ofNat 0, [(.ofNat 1, 5)]), (.negSucc 0, [(.ofNat 1, 0)]), (.ofNat 0, [(.ofNat 1, 1)]), (.ofNat 0, [(.ofNat 1, 2)]), (.ofNat 0, [(.ofNat 1, 8)])])] : List sFc), fcOk fFS [s0, s1, s2, s3, s4, s5, s6, s7, s8] hp q := hH.2
  have f0 : RNb (XT hp).1 (XT hp).2.1 s7 s5 (s0 - 1) s1 s2 s8 := fcX (ys := [s7, s5, (s0 - 1), s1, s2, s8]) (hFc _ (.head _)) ⟨sE_V rfl, sE_V rfl, sEv (y' := ((-1 : Int) + ((1 : Int) * s0 + 0))) rfl (by omega), sE_V rfl, sE_V rfl, sE_V rfl, trivial⟩
  exact poX (.head _) rfl hR (all_nil) (all_nil) (all_cons ⟨[s7, (s5 + 1), s0, s1, s2, s3], ⟨sE_V rfl, sEv (y' := ((1 : Int) + ((1 : Int) * s5 + 0))) rfl (by omega), sE_V rfl, sE_V rfl, sE_V rfl, sE_V rfl, trivial⟩, (show RNb (XT hp).1 (XT hp).2.1 s7 (s5 + 1) s0 s1 s2 s3 from rl_x f0 h1 l1 e1 ⟨by omega, by omega⟩ (by omega) (by omega) (by omega) (fun _ _ => by omega))⟩ (all_nil))
theorem rl67 : ruOk fFS gR67 := by
  intro r hp hO hN hH
  obtain ⟨s0, s1, s2, s3, s4, s5, s6, s7, s8, rfl⟩ := len9 (show r.length = 9 from hN.1)
  have hR := hN.2.1.1
  have hIv : ∀ q ∈ ([(0, .ofNat 0, .ofNat 0), (1, .ofNat 1, .ofNat 2), (2, .negSucc 2147483647, .ofNat 2147483647), (4, .ofNat 48, .ofNat 57), (5, .ofNat 0, .ofNat 939), (6, .negSucc 2147483647, .ofNat 2147483647), (7, .negSucc 2147483647, .ofNat 2147483647), (8, .negSucc 2147483647, .ofNat 2147483647)] : sIv), ∃ x, ([s0, s1, s2, s3, s4, s5, s6, s7, s8] : List Int)[q.1]? = some x ∧ q.2.1 ≤ x ∧ x ≤ q.2.2 := hN.2.1.2
  have b0 : (0 : Int) ≤ s0 ∧ s0 ≤ (0 : Int) := ivX (q := (0, .ofNat 0, .ofNat 0)) (y := s0) (hIv _ (.head _)) rfl
  have b1 : (1 : Int) ≤ s1 ∧ s1 ≤ (2 : Int) := ivX (q := (1, .ofNat 1, .ofNat 2)) (y := s1) (hIv _ (.tail _ (.head _))) rfl
  have b3 : (48 : Int) ≤ s4 ∧ s4 ≤ (57 : Int) := ivX (q := (4, .ofNat 48, .ofNat 57)) (y := s4) (hIv _ (.tail _ (.tail _ (.tail _ (.head _))))) rfl
  have b4 : (0 : Int) ≤ s5 ∧ s5 ≤ (939 : Int) := ivX (q := (5, .ofNat 0, .ofNat 939)) (y := s5) (hIv _ (.tail _ (.tail _ (.tail _ (.tail _ (.head _)))))) rfl
  have hCs : ∀ c ∈ ([(.ofNat 1, [(.ofNat 1, 5), (.negSucc 0, 6)]), (.ofNat 48, [(.ofNat 1, 2), (.negSucc 0, 4), (.negSucc 9, 8)]), (.negSucc 47, [(.negSucc 0, 2), (.ofNat 1, 4), (.ofNat 10, 8)])] : List sLn), ∃ x, sE [s0, s1, s2, s3, s4, s5, s6, s7, s8] c = some x ∧ x ≤ 0 := hN.2.2.1
  have c0 : ((1 : Int) + ((1 : Int) * s5 + ((-1 : Int) * s6 + 0))) ≤ 0 := csX (hCs _ (.head _)) rfl
  have c1 : ((48 : Int) + ((1 : Int) * s2 + ((-1 : Int) * s4 + ((-10 : Int) * s8 + 0)))) ≤ 0 := csX (hCs _ (.tail _ (.head _))) rfl
  have c2 : ((-48 : Int) + ((-1 : Int) * s2 + ((1 : Int) * s4 + ((10 : Int) * s8 + 0)))) ≤ 0 := csX (hCs _ (.tail _ (.tail _ (.head _)))) rfl
  have hRf : ∀ q ∈ ([((40, .ofNat 173, []), (.ofNat 4, []), 1, .ofNat 0, [(.ofNat 1, 5)]), ((1, .ofNat 1, []), (.ofNat 0, [(.ofNat 1, 5)]), 1, .ofNat 0, [(.ofNat 1, 4)]), ((40, .ofNat 173, []), (.ofNat 2, []), 1, .ofNat 0, [(.ofNat 1, 6)])] : List sRf), rfOk [s0, s1, s2, s3, s4, s5, s6, s7, s8] hp q := hH.1
  have h0 : hI hp 173 4 = s5 := rfI0 (hRf _ (.head _)) (sE_k _ _) (sE_k _ _) (sE_V rfl)
  have y0 : (0 : Int) ≤ s5 ∧ s5 ≤ (940 : Int) := by rw [← h0]; exact hI_ty hO (by decide) rfl
  obtain ⟨i1, e1, l1, h1⟩ := rfI (xv := s4) (iv := s5) (hRf _ (.tail _ (.head _))) (sE_k _ _) (sE_V rfl) (sE_V rfl)
  have l1 : i1 < 940 := l1
  have h1 : hI hp 1 i1 = s4 := h1
  have h2 : hI hp 173 2 = s6 := rfI0 (hRf _ (.tail _ (.tail _ (.head _)))) (sE_k _ _) (sE_k _ _) (sE_V rfl)
  have y2 : (0 : Int) ≤ s6 ∧ s6 ≤ (940 : Int) := by rw [← h2]; exact hI_ty hO (by decide) rfl
  have tnx : (XT hp).2.1 = s6 := h2
  have hFc : ∀ q ∈ ([(44, [(.ofNat 0, [(.ofNat 1, 7)]), (.ofNat 0, [(.ofNat 1, 5)]), (.ofNat 0, [(.ofNat 1, 0)]), (.negSucc 0, [(.ofNat 1, 1)]), (.ofNat 0, [(.ofNat 1, 8)]), (.ofNat 0, [(.ofNat 1, 3)])])] : List sFc), fcOk fFS [s0, s1, s2, s3, s4, s5, s6, s7, s8] hp q := hH.2
  have f0 : RNb (XT hp).1 (XT hp).2.1 s7 s5 s0 (s1 - 1) s8 s3 := fcX (ys := [s7, s5, s0, (s1 - 1), s8, s3]) (hFc _ (.head _)) ⟨sE_V rfl, sE_V rfl, sE_V rfl, sEv (y' := ((-1 : Int) + ((1 : Int) * s1 + 0))) rfl (by omega), sE_V rfl, sE_V rfl, trivial⟩
  exact poX (.head _) rfl hR (all_nil) (all_nil) (all_cons ⟨[s7, (s5 + 1), s0, s1, s2, s3], ⟨sE_V rfl, sEv (y' := ((1 : Int) + ((1 : Int) * s5 + 0))) rfl (by omega), sE_V rfl, sE_V rfl, sE_V rfl, sE_V rfl, trivial⟩, (show RNb (XT hp).1 (XT hp).2.1 s7 (s5 + 1) s0 s1 s2 s3 from rd_x f0 h1 l1 e1 ⟨by omega, by omega⟩ (by omega) (by omega) (by omega) (fun _ _ => by omega))⟩ (all_nil))
theorem rl68 : ruOk fFS gR68 := by
  intro r hp hO hN hH
  obtain ⟨s0, s1, s2, s3, s4, s5, s6, rfl⟩ := len7 (show r.length = 7 from hN.1)
  have hR := hN.2.1.1
  have hIv : ∀ q ∈ ([(0, .negSucc 2147483647, .ofNat 2147483647), (1, .negSucc 2147483647, .ofNat 2147483647), (2, .negSucc 2147483647, .ofNat 2147483647), (4, .negSucc 2147483647, .ofNat 2147483647), (5, .negSucc 2147483647, .ofNat 2147483647), (6, .negSucc 2147483647, .ofNat 2147483647)] : sIv), ∃ x, ([s0, s1, s2, s3, s4, s5, s6] : List Int)[q.1]? = some x ∧ q.2.1 ≤ x ∧ x ≤ q.2.2 := hN.2.1.2
  have hCs : ∀ c ∈ ([(.ofNat 0, [(.negSucc 0, 4), (.ofNat 1, 5)])] : List sLn), ∃ x, sE [s0, s1, s2, s3, s4, s5, s6] c = some x ∧ x ≤ 0 := hN.2.2.1
  have c0 : ((0 : Int) + ((-1 : Int) * s4 + ((1 : Int) * s5 + 0))) ≤ 0 := csX (hCs _ (.head _)) rfl
  have hRf : ∀ q ∈ ([((40, .ofNat 173, []), (.ofNat 4, []), 1, .ofNat 0, [(.ofNat 1, 4)]), ((40, .ofNat 173, []), (.ofNat 2, []), 1, .ofNat 0, [(.ofNat 1, 5)])] : List sRf), rfOk [s0, s1, s2, s3, s4, s5, s6] hp q := hH.1
  have h0 : hI hp 173 4 = s4 := rfI0 (hRf _ (.head _)) (sE_k _ _) (sE_k _ _) (sE_V rfl)
  have y0 : (0 : Int) ≤ s4 ∧ s4 ≤ (940 : Int) := by rw [← h0]; exact hI_ty hO (by decide) rfl
  have h1 : hI hp 173 2 = s5 := rfI0 (hRf _ (.tail _ (.head _))) (sE_k _ _) (sE_k _ _) (sE_V rfl)
  have y1 : (0 : Int) ≤ s5 ∧ s5 ≤ (940 : Int) := by rw [← h1]; exact hI_ty hO (by decide) rfl
  have tnx : (XT hp).2.1 = s5 := h1
  have hFc : ∀ q ∈ ([(44, [(.ofNat 0, [(.ofNat 1, 6)]), (.ofNat 0, [(.ofNat 1, 4)]), (.ofNat 0, [(.ofNat 1, 0)]), (.ofNat 0, [(.ofNat 1, 1)]), (.ofNat 0, [(.ofNat 1, 2)]), (.ofNat 0, [(.ofNat 1, 3)])])] : List sFc), fcOk fFS [s0, s1, s2, s3, s4, s5, s6] hp q := hH.2
  have f0 : RNb (XT hp).1 (XT hp).2.1 s6 s4 s0 s1 s2 s3 := fcX (ys := [s6, s4, s0, s1, s2, s3]) (hFc _ (.head _)) ⟨sE_V rfl, sE_V rfl, sE_V rfl, sE_V rfl, sE_V rfl, sE_V rfl, trivial⟩
  exact poX (.head _) rfl hR (all_nil) (all_nil) (all_cons ⟨[s6, s4, s0, s1, s2, s3], ⟨sE_V rfl, sE_V rfl, sE_V rfl, sE_V rfl, sE_V rfl, sE_V rfl, trivial⟩, (show REb (XT hp).1 (XT hp).2.1 s6 s4 s0 s1 s2 s3 from ⟨f0, fun w => absurd w (by omega)⟩)⟩ (all_nil))
theorem rl69 : ruOk fFS gR69 := by
  intro r hp hO hN hH
  obtain ⟨s0, s1, s2, s3, s4, s5, s6, rfl⟩ := len7 (show r.length = 7 from hN.1)
  have hR := hN.2.1.1
  have hIv : ∀ q ∈ ([(0, .ofNat 1, .ofNat 7), (1, .ofNat 0, .ofNat 0), (2, .negSucc 2147483647, .ofNat 2147483647), (4, .negSucc 2147483647, .ofNat 2147483647), (5, .negSucc 2147483647, .ofNat 2147483647), (6, .negSucc 2147483647, .ofNat 2147483647)] : sIv), ∃ x, ([s0, s1, s2, s3, s4, s5, s6] : List Int)[q.1]? = some x ∧ q.2.1 ≤ x ∧ x ≤ q.2.2 := hN.2.1.2
  have b0 : (1 : Int) ≤ s0 ∧ s0 ≤ (7 : Int) := ivX (q := (0, .ofNat 1, .ofNat 7)) (y := s0) (hIv _ (.head _)) rfl
  have b1 : (0 : Int) ≤ s1 ∧ s1 ≤ (0 : Int) := ivX (q := (1, .ofNat 0, .ofNat 0)) (y := s1) (hIv _ (.tail _ (.head _))) rfl
  have hFc : ∀ q ∈ ([(45, [(.ofNat 0, [(.ofNat 1, 4)]), (.ofNat 0, [(.ofNat 1, 5)]), (.ofNat 0, [(.ofNat 1, 0)]), (.ofNat 0, [(.ofNat 1, 1)]), (.ofNat 0, [(.ofNat 1, 2)]), (.ofNat 0, [(.ofNat 1, 3)])]), (42, [(.ofNat 0, [(.ofNat 1, 6)]), (.ofNat 0, [(.ofNat 1, 4)])])] : List sFc), fcOk fFS [s0, s1, s2, s3, s4, s5, s6] hp q := hH.2
  have f0 : REb (XT hp).1 (XT hp).2.1 s4 s5 s0 s1 s2 s3 := fcX (ys := [s4, s5, s0, s1, s2, s3]) (hFc _ (.head _)) ⟨sE_V rfl, sE_V rfl, sE_V rfl, sE_V rfl, sE_V rfl, sE_V rfl, trivial⟩
  have f1 : P2 (XT hp) s6 s4 := fcX (ys := [s6, s4]) (hFc _ (.tail _ (.head _))) ⟨sE_V rfl, sE_V rfl, trivial⟩
  exact poX (.head _) rfl hR (all_nil) (all_nil) (all_cons ⟨[s6, s4, s5], ⟨sE_V rfl, sE_V rfl, sE_V rfl, trivial⟩, (show TW (XT hp) s6 s4 s5 from re_tw (XT_ok hO) f0 f1 (by omega) ⟨by omega, by omega⟩)⟩ (all_nil))
theorem rl70 : ruOk fFS gR70 := by
  intro r hp hO hN hH
  obtain ⟨s0, s1, s2, s3, s4, s5, rfl⟩ := len6 (show r.length = 6 from hN.1)
  have hR := hN.2.1.1
  have hIv : ∀ q ∈ ([(0, .ofNat 1, .ofNat 7), (1, .ofNat 0, .ofNat 0), (2, .negSucc 2147483647, .ofNat 2147483647), (4, .negSucc 2147483647, .ofNat 2147483647), (5, .negSucc 2147483647, .ofNat 2147483647)] : sIv), ∃ x, ([s0, s1, s2, s3, s4, s5] : List Int)[q.1]? = some x ∧ q.2.1 ≤ x ∧ x ≤ q.2.2 := hN.2.1.2
  have b0 : (1 : Int) ≤ s0 ∧ s0 ≤ (7 : Int) := ivX (q := (0, .ofNat 1, .ofNat 7)) (y := s0) (hIv _ (.head _)) rfl
  have b1 : (0 : Int) ≤ s1 ∧ s1 ≤ (0 : Int) := ivX (q := (1, .ofNat 0, .ofNat 0)) (y := s1) (hIv _ (.tail _ (.head _))) rfl
  have hRf : ∀ q ∈ ([((40, .ofNat 173, []), (.ofNat 8, []), 5, .ofNat 0, [(.ofNat 1, 3)])] : List sRf), rfOk [s0, s1, s2, s3, s4, s5] hp q := hH.1
  have h0 : hL hp 173 8 = s3 := rfL0 (hRf _ (.head _)) (sE_k _ _) (sE_k _ _) (sE_V rfl)
  have hFc : ∀ q ∈ ([(45, [(.ofNat 0, [(.ofNat 1, 4)]), (.ofNat 0, [(.ofNat 1, 5)]), (.ofNat 0, [(.ofNat 1, 0)]), (.ofNat 0, [(.ofNat 1, 1)]), (.ofNat 0, [(.ofNat 1, 2)]), (.ofNat 0, [(.ofNat 1, 3)])])] : List sFc), fcOk fFS [s0, s1, s2, s3, s4, s5] hp q := hH.2
  have f0 : REb (XT hp).1 (XT hp).2.1 s4 s5 s0 s1 s2 s3 := fcX (ys := [s4, s5, s0, s1, s2, s3]) (hFc _ (.head _)) ⟨sE_V rfl, sE_V rfl, sE_V rfl, sE_V rfl, sE_V rfl, sE_V rfl, trivial⟩
  exact poX (.head _) rfl hR (all_nil) (all_nil) (all_cons ⟨[s4, s5], ⟨sE_V rfl, sE_V rfl, trivial⟩, (show isW (bs (XB hp) s4 s5) ∧ hL hp 173 8 = cd 32 96 (bs (XB hp) s4 s5) from nm_x f0 (by omega) ⟨by omega, by omega⟩ h0)⟩ (all_nil))
theorem rl71 : ruOk fFS gR71 := by
  intro r hp hO hN hH
  obtain ⟨s0, s1, s2, s3, s4, s5, rfl⟩ := len6 (show r.length = 6 from hN.1)
  have hR := hN.2.1.1
  have hIv : ∀ q ∈ ([(0, .ofNat 0, .ofNat 0), (1, .ofNat 1, .ofNat 2), (2, .negSucc 2147483647, .ofNat 2147483647), (4, .negSucc 2147483647, .ofNat 2147483647), (5, .negSucc 2147483647, .ofNat 2147483647)] : sIv), ∃ x, ([s0, s1, s2, s3, s4, s5] : List Int)[q.1]? = some x ∧ q.2.1 ≤ x ∧ x ≤ q.2.2 := hN.2.1.2
  have b0 : (0 : Int) ≤ s0 ∧ s0 ≤ (0 : Int) := ivX (q := (0, .ofNat 0, .ofNat 0)) (y := s0) (hIv _ (.head _)) rfl
  have b1 : (1 : Int) ≤ s1 ∧ s1 ≤ (2 : Int) := ivX (q := (1, .ofNat 1, .ofNat 2)) (y := s1) (hIv _ (.tail _ (.head _))) rfl
  have b2 : (-2147483648 : Int) ≤ s2 ∧ s2 ≤ (2147483647 : Int) := ivX (q := (2, .negSucc 2147483647, .ofNat 2147483647)) (y := s2) (hIv _ (.tail _ (.tail _ (.head _)))) rfl
  have hFc : ∀ q ∈ ([(45, [(.ofNat 0, [(.ofNat 1, 4)]), (.ofNat 0, [(.ofNat 1, 5)]), (.ofNat 0, [(.ofNat 1, 0)]), (.ofNat 0, [(.ofNat 1, 1)]), (.ofNat 0, [(.ofNat 1, 2)]), (.ofNat 0, [(.ofNat 1, 3)])])] : List sFc), fcOk fFS [s0, s1, s2, s3, s4, s5] hp q := hH.2
  have f0 : REb (XT hp).1 (XT hp).2.1 s4 s5 s0 s1 s2 s3 := fcX (ys := [s4, s5, s0, s1, s2, s3]) (hFc _ (.head _)) ⟨sE_V rfl, sE_V rfl, sE_V rfl, sE_V rfl, sE_V rfl, sE_V rfl, trivial⟩
  have u := rn_n2 f0.1 (by omega) (by omega)
  exact poX (.head _) rfl hR (all_cons (ivO (y := s2) rfl (show (0 : Int) ≤ s2 by omega) (show s2 ≤ (99 : Int) by omega)) (all_nil)) (all_nil) (all_nil)
theorem rl72 : ruOk fFS gR72 := by
  intro r hp hO hN hH
  obtain ⟨s0, s1, s2, s3, s4, s5, s6, rfl⟩ := len7 (show r.length = 7 from hN.1)
  have hR := hN.2.1.1
  have hIv : ∀ q ∈ ([(0, .ofNat 0, .ofNat 0), (1, .ofNat 1, .ofNat 2), (2, .negSucc 2147483647, .ofNat 2147483647), (4, .negSucc 2147483647, .ofNat 2147483647), (5, .negSucc 2147483647, .ofNat 2147483647), (6, .negSucc 2147483647, .ofNat 2147483647)] : sIv), ∃ x, ([s0, s1, s2, s3, s4, s5, s6] : List Int)[q.1]? = some x ∧ q.2.1 ≤ x ∧ x ≤ q.2.2 := hN.2.1.2
  have b0 : (0 : Int) ≤ s0 ∧ s0 ≤ (0 : Int) := ivX (q := (0, .ofNat 0, .ofNat 0)) (y := s0) (hIv _ (.head _)) rfl
  have b1 : (1 : Int) ≤ s1 ∧ s1 ≤ (2 : Int) := ivX (q := (1, .ofNat 1, .ofNat 2)) (y := s1) (hIv _ (.tail _ (.head _))) rfl
  have b2 : (-2147483648 : Int) ≤ s2 ∧ s2 ≤ (2147483647 : Int) := ivX (q := (2, .negSucc 2147483647, .ofNat 2147483647)) (y := s2) (hIv _ (.tail _ (.tail _ (.head _)))) rfl
  have hFc : ∀ q ∈ ([(45, [(.ofNat 0, [(.ofNat 1, 4)]), (.ofNat 0, [(.ofNat 1, 5)]), (.ofNat 0, [(.ofNat 1, 0)]), (.ofNat 0, [(.ofNat 1, 1)]), (.ofNat 0, [(.ofNat 1, 2)]), (.ofNat 0, [(.ofNat 1, 3)])]), (42, [(.ofNat 0, [(.ofNat 1, 6)]), (.ofNat 0, [(.ofNat 1, 4)])])] : List sFc), fcOk fFS [s0, s1, s2, s3, s4, s5, s6] hp q := hH.2
  have f0 : REb (XT hp).1 (XT hp).2.1 s4 s5 s0 s1 s2 s3 := fcX (ys := [s4, s5, s0, s1, s2, s3]) (hFc _ (.head _)) ⟨sE_V rfl, sE_V rfl, sE_V rfl, sE_V rfl, sE_V rfl, sE_V rfl, trivial⟩
  have f1 : P2 (XT hp) s6 s4 := fcX (ys := [s6, s4]) (hFc _ (.tail _ (.head _))) ⟨sE_V rfl, sE_V rfl, trivial⟩
  have u := rn_n2 f0.1 (by omega) (by omega)
  exact poX (.head _) rfl hR (all_cons (ivO (y := s2) rfl (show (0 : Int) ≤ s2 by omega) (show s2 ≤ (99 : Int) by omega)) (all_nil)) (all_nil) (all_cons ⟨[s6, 2, s4, s5, s2], ⟨sE_V rfl, sE_k _ _, sE_V rfl, sE_V rfl, sE_V rfl, trivial⟩, (show TKB (XT hp) s6 (2 : Int) s4 s5 s2 from re_num (XT_ok hO) f0 f1 (by omega) ⟨by omega, by omega⟩)⟩ (all_nil))
theorem rl73 : ruOk fFS gR73 := by
  intro r hp hO hN hH
  obtain ⟨s0, s1, s2, s3, s4, s5, s6, rfl⟩ := len7 (show r.length = 7 from hN.1)
  have hR := hN.2.1.1
  have hIv : ∀ q ∈ ([(0, .ofNat 8, .ofNat 940), (1, .ofNat 0, .ofNat 0), (2, .negSucc 2147483647, .ofNat 2147483647), (4, .negSucc 2147483647, .ofNat 2147483647), (5, .negSucc 2147483647, .ofNat 2147483647), (6, .negSucc 2147483647, .ofNat 2147483647)] : sIv), ∃ x, ([s0, s1, s2, s3, s4, s5, s6] : List Int)[q.1]? = some x ∧ q.2.1 ≤ x ∧ x ≤ q.2.2 := hN.2.1.2
  have b0 : (8 : Int) ≤ s0 ∧ s0 ≤ (940 : Int) := ivX (q := (0, .ofNat 8, .ofNat 940)) (y := s0) (hIv _ (.head _)) rfl
  have b1 : (0 : Int) ≤ s1 ∧ s1 ≤ (0 : Int) := ivX (q := (1, .ofNat 0, .ofNat 0)) (y := s1) (hIv _ (.tail _ (.head _))) rfl
  have hFc : ∀ q ∈ ([(45, [(.ofNat 0, [(.ofNat 1, 4)]), (.ofNat 0, [(.ofNat 1, 5)]), (.ofNat 0, [(.ofNat 1, 0)]), (.ofNat 0, [(.ofNat 1, 1)]), (.ofNat 0, [(.ofNat 1, 2)]), (.ofNat 0, [(.ofNat 1, 3)])]), (42, [(.ofNat 0, [(.ofNat 1, 6)]), (.ofNat 0, [(.ofNat 1, 4)])])] : List sFc), fcOk fFS [s0, s1, s2, s3, s4, s5, s6] hp q := hH.2
  have f0 : REb (XT hp).1 (XT hp).2.1 s4 s5 s0 s1 s2 s3 := fcX (ys := [s4, s5, s0, s1, s2, s3]) (hFc _ (.head _)) ⟨sE_V rfl, sE_V rfl, sE_V rfl, sE_V rfl, sE_V rfl, sE_V rfl, trivial⟩
  have f1 : P2 (XT hp) s6 s4 := fcX (ys := [s6, s4]) (hFc _ (.tail _ (.head _))) ⟨sE_V rfl, sE_V rfl, trivial⟩
  exact poX (.head _) rfl hR (all_nil) (all_nil) (all_cons ⟨[s6, 4, s4, s5, (-1)], ⟨sE_V rfl, sE_k _ _, sE_V rfl, sE_V rfl, sE_k _ _, trivial⟩, (show TKB (XT hp) s6 (4 : Int) s4 s5 (-1 : Int) from re_bad (XT_ok hO) f0 f1 (Or.inr (Or.inr (Or.inl ⟨by omega, by omega⟩))))⟩ (all_nil))
theorem rl74 : ruOk fFS gR74 := by
  intro r hp hO hN hH
  obtain ⟨s0, s1, s2, s3, s4, s5, s6, rfl⟩ := len7 (show r.length = 7 from hN.1)
  have hR := hN.2.1.1
  have hIv : ∀ q ∈ ([(0, .ofNat 0, .ofNat 0), (1, .ofNat 3, .ofNat 940), (2, .negSucc 2147483647, .ofNat 2147483647), (4, .negSucc 2147483647, .ofNat 2147483647), (5, .negSucc 2147483647, .ofNat 2147483647), (6, .negSucc 2147483647, .ofNat 2147483647)] : sIv), ∃ x, ([s0, s1, s2, s3, s4, s5, s6] : List Int)[q.1]? = some x ∧ q.2.1 ≤ x ∧ x ≤ q.2.2 := hN.2.1.2
  have b0 : (0 : Int) ≤ s0 ∧ s0 ≤ (0 : Int) := ivX (q := (0, .ofNat 0, .ofNat 0)) (y := s0) (hIv _ (.head _)) rfl
  have b1 : (3 : Int) ≤ s1 ∧ s1 ≤ (940 : Int) := ivX (q := (1, .ofNat 3, .ofNat 940)) (y := s1) (hIv _ (.tail _ (.head _))) rfl
  have hFc : ∀ q ∈ ([(45, [(.ofNat 0, [(.ofNat 1, 4)]), (.ofNat 0, [(.ofNat 1, 5)]), (.ofNat 0, [(.ofNat 1, 0)]), (.ofNat 0, [(.ofNat 1, 1)]), (.ofNat 0, [(.ofNat 1, 2)]), (.ofNat 0, [(.ofNat 1, 3)])]), (42, [(.ofNat 0, [(.ofNat 1, 6)]), (.ofNat 0, [(.ofNat 1, 4)])])] : List sFc), fcOk fFS [s0, s1, s2, s3, s4, s5, s6] hp q := hH.2
  have f0 : REb (XT hp).1 (XT hp).2.1 s4 s5 s0 s1 s2 s3 := fcX (ys := [s4, s5, s0, s1, s2, s3]) (hFc _ (.head _)) ⟨sE_V rfl, sE_V rfl, sE_V rfl, sE_V rfl, sE_V rfl, sE_V rfl, trivial⟩
  have f1 : P2 (XT hp) s6 s4 := fcX (ys := [s6, s4]) (hFc _ (.tail _ (.head _))) ⟨sE_V rfl, sE_V rfl, trivial⟩
  exact poX (.head _) rfl hR (all_nil) (all_nil) (all_cons ⟨[s6, 4, s4, s5, (-1)], ⟨sE_V rfl, sE_k _ _, sE_V rfl, sE_V rfl, sE_k _ _, trivial⟩, (show TKB (XT hp) s6 (4 : Int) s4 s5 (-1 : Int) from re_bad (XT_ok hO) f0 f1 (Or.inr (Or.inr (Or.inr ⟨by omega, by omega⟩))))⟩ (all_nil))
theorem rl75 : ruOk fFS gR75 := by
  intro r hp hO hN hH
  obtain ⟨s0, s1, s2, s3, s4, s5, s6, s7, s8, rfl⟩ := len9 (show r.length = 9 from hN.1)
  have hR := hN.2.1.1
  have hIv : ∀ q ∈ ([(0, .ofNat 1, .ofNat 940), (1, .ofNat 1, .ofNat 941), (2, .negSucc 2147483647, .ofNat 2147483647), (4, .ofNat 48, .ofNat 57), (5, .ofNat 0, .ofNat 939), (6, .negSucc 2147483647, .ofNat 2147483647), (7, .negSucc 2147483647, .ofNat 2147483647), (8, .negSucc 2147483647, .ofNat 2147483647)] : sIv), ∃ x, ([s0, s1, s2, s3, s4, s5, s6, s7, s8] : List Int)[q.1]? = some x ∧ q.2.1 ≤ x ∧ x ≤ q.2.2 := hN.2.1.2
  have b0 : (1 : Int) ≤ s0 ∧ s0 ≤ (940 : Int) := ivX (q := (0, .ofNat 1, .ofNat 940)) (y := s0) (hIv _ (.head _)) rfl
  have b1 : (1 : Int) ≤ s1 ∧ s1 ≤ (941 : Int) := ivX (q := (1, .ofNat 1, .ofNat 941)) (y := s1) (hIv _ (.tail _ (.head _))) rfl
  have b3 : (48 : Int) ≤ s4 ∧ s4 ≤ (57 : Int) := ivX (q := (4, .ofNat 48, .ofNat 57)) (y := s4) (hIv _ (.tail _ (.tail _ (.tail _ (.head _))))) rfl
  have b4 : (0 : Int) ≤ s5 ∧ s5 ≤ (939 : Int) := ivX (q := (5, .ofNat 0, .ofNat 939)) (y := s5) (hIv _ (.tail _ (.tail _ (.tail _ (.tail _ (.head _)))))) rfl
  have hCs : ∀ c ∈ ([(.ofNat 1, [(.ofNat 1, 5), (.negSucc 0, 6)])] : List sLn), ∃ x, sE [s0, s1, s2, s3, s4, s5, s6, s7, s8] c = some x ∧ x ≤ 0 := hN.2.2.1
  have c0 : ((1 : Int) + ((1 : Int) * s5 + ((-1 : Int) * s6 + 0))) ≤ 0 := csX (hCs _ (.head _)) rfl
  have hRf : ∀ q ∈ ([((40, .ofNat 173, []), (.ofNat 4, []), 1, .ofNat 0, [(.ofNat 1, 5)]), ((1, .ofNat 1, []), (.ofNat 0, [(.ofNat 1, 5)]), 1, .ofNat 0, [(.ofNat 1, 4)]), ((40, .ofNat 173, []), (.ofNat 2, []), 1, .ofNat 0, [(.ofNat 1, 6)])] : List sRf), rfOk [s0, s1, s2, s3, s4, s5, s6, s7, s8] hp q := hH.1
  have h0 : hI hp 173 4 = s5 := rfI0 (hRf _ (.head _)) (sE_k _ _) (sE_k _ _) (sE_V rfl)
  have y0 : (0 : Int) ≤ s5 ∧ s5 ≤ (940 : Int) := by rw [← h0]; exact hI_ty hO (by decide) rfl
  obtain ⟨i1, e1, l1, h1⟩ := rfI (xv := s4) (iv := s5) (hRf _ (.tail _ (.head _))) (sE_k _ _) (sE_V rfl) (sE_V rfl)
  have l1 : i1 < 940 := l1
  have h1 : hI hp 1 i1 = s4 := h1
  have h2 : hI hp 173 2 = s6 := rfI0 (hRf _ (.tail _ (.tail _ (.head _)))) (sE_k _ _) (sE_k _ _) (sE_V rfl)
  have y2 : (0 : Int) ≤ s6 ∧ s6 ≤ (940 : Int) := by rw [← h2]; exact hI_ty hO (by decide) rfl
  have tnx : (XT hp).2.1 = s6 := h2
  have hFc : ∀ q ∈ ([(44, [(.ofNat 0, [(.ofNat 1, 7)]), (.ofNat 0, [(.ofNat 1, 5)]), (.ofNat 0, [(.ofNat 1, 0)]), (.negSucc 0, [(.ofNat 1, 1)]), (.ofNat 0, [(.ofNat 1, 8)]), (.ofNat 0, [(.ofNat 1, 3)])])] : List sFc), fcOk fFS [s0, s1, s2, s3, s4, s5, s6, s7, s8] hp q := hH.2
  have f0 : RNb (XT hp).1 (XT hp).2.1 s7 s5 s0 (s1 - 1) s8 s3 := fcX (ys := [s7, s5, s0, (s1 - 1), s8, s3]) (hFc _ (.head _)) ⟨sE_V rfl, sE_V rfl, sE_V rfl, sEv (y' := ((-1 : Int) + ((1 : Int) * s1 + 0))) rfl (by omega), sE_V rfl, sE_V rfl, trivial⟩
  exact poX (.head _) rfl hR (all_nil) (all_nil) (all_cons ⟨[s7, (s5 + 1), s0, s1, s2, s3], ⟨sE_V rfl, sEv (y' := ((1 : Int) + ((1 : Int) * s5 + 0))) rfl (by omega), sE_V rfl, sE_V rfl, sE_V rfl, sE_V rfl, trivial⟩, (show RNb (XT hp).1 (XT hp).2.1 s7 (s5 + 1) s0 s1 s2 s3 from rd_x f0 h1 l1 e1 ⟨by omega, by omega⟩ (by omega) (by omega) (by omega) (fun _ _ => by omega))⟩ (all_nil))
theorem rl76 : ruOk fFS gR76 := by
  intro r hp hO hN hH
  obtain ⟨s0, s1, s2, s3, s4, s5, s6, s7, s8, rfl⟩ := len9 (show r.length = 9 from hN.1)
  have hR := hN.2.1.1
  have hIv : ∀ q ∈ ([(0, .ofNat 0, .ofNat 940), (1, .ofNat 3, .ofNat 941), (2, .negSucc 2147483647, .ofNat 2147483647), (4, .ofNat 48, .ofNat 57), (5, .ofNat 0, .ofNat 939), (6, .negSucc 2147483647, .ofNat 2147483647), (7, .negSucc 2147483647, .ofNat 2147483647), (8, .negSucc 2147483647, .ofNat 2147483647)] : sIv), ∃ x, ([s0, s1, s2, s3, s4, s5, s6, s7, s8] : List Int)[q.1]? = some x ∧ q.2.1 ≤ x ∧ x ≤ q.2.2 := hN.2.1.2
  have b0 : (0 : Int) ≤ s0 ∧ s0 ≤ (940 : Int) := ivX (q := (0, .ofNat 0, .ofNat 940)) (y := s0) (hIv _ (.head _)) rfl
  have b1 : (3 : Int) ≤ s1 ∧ s1 ≤ (941 : Int) := ivX (q := (1, .ofNat 3, .ofNat 941)) (y := s1) (hIv _ (.tail _ (.head _))) rfl
  have b3 : (48 : Int) ≤ s4 ∧ s4 ≤ (57 : Int) := ivX (q := (4, .ofNat 48, .ofNat 57)) (y := s4) (hIv _ (.tail _ (.tail _ (.tail _ (.head _))))) rfl
  have b4 : (0 : Int) ≤ s5 ∧ s5 ≤ (939 : Int) := ivX (q := (5, .ofNat 0, .ofNat 939)) (y := s5) (hIv _ (.tail _ (.tail _ (.tail _ (.tail _ (.head _)))))) rfl
  have hCs : ∀ c ∈ ([(.ofNat 1, [(.ofNat 1, 5), (.negSucc 0, 6)])] : List sLn), ∃ x, sE [s0, s1, s2, s3, s4, s5, s6, s7, s8] c = some x ∧ x ≤ 0 := hN.2.2.1
  have c0 : ((1 : Int) + ((1 : Int) * s5 + ((-1 : Int) * s6 + 0))) ≤ 0 := csX (hCs _ (.head _)) rfl
  have hRf : ∀ q ∈ ([((40, .ofNat 173, []), (.ofNat 4, []), 1, .ofNat 0, [(.ofNat 1, 5)]), ((1, .ofNat 1, []), (.ofNat 0, [(.ofNat 1, 5)]), 1, .ofNat 0, [(.ofNat 1, 4)]), ((40, .ofNat 173, []), (.ofNat 2, []), 1, .ofNat 0, [(.ofNat 1, 6)])] : List sRf), rfOk [s0, s1, s2, s3, s4, s5, s6, s7, s8] hp q := hH.1
  have h0 : hI hp 173 4 = s5 := rfI0 (hRf _ (.head _)) (sE_k _ _) (sE_k _ _) (sE_V rfl)
  have y0 : (0 : Int) ≤ s5 ∧ s5 ≤ (940 : Int) := by rw [← h0]; exact hI_ty hO (by decide) rfl
  obtain ⟨i1, e1, l1, h1⟩ := rfI (xv := s4) (iv := s5) (hRf _ (.tail _ (.head _))) (sE_k _ _) (sE_V rfl) (sE_V rfl)
  have l1 : i1 < 940 := l1
  have h1 : hI hp 1 i1 = s4 := h1
  have h2 : hI hp 173 2 = s6 := rfI0 (hRf _ (.tail _ (.tail _ (.head _)))) (sE_k _ _) (sE_k _ _) (sE_V rfl)
  have y2 : (0 : Int) ≤ s6 ∧ s6 ≤ (940 : Int) := by rw [← h2]; exact hI_ty hO (by decide) rfl
  have tnx : (XT hp).2.1 = s6 := h2
  have hFc : ∀ q ∈ ([(44, [(.ofNat 0, [(.ofNat 1, 7)]), (.ofNat 0, [(.ofNat 1, 5)]), (.ofNat 0, [(.ofNat 1, 0)]), (.negSucc 0, [(.ofNat 1, 1)]), (.ofNat 0, [(.ofNat 1, 8)]), (.ofNat 0, [(.ofNat 1, 3)])])] : List sFc), fcOk fFS [s0, s1, s2, s3, s4, s5, s6, s7, s8] hp q := hH.2
  have f0 : RNb (XT hp).1 (XT hp).2.1 s7 s5 s0 (s1 - 1) s8 s3 := fcX (ys := [s7, s5, s0, (s1 - 1), s8, s3]) (hFc _ (.head _)) ⟨sE_V rfl, sE_V rfl, sE_V rfl, sEv (y' := ((-1 : Int) + ((1 : Int) * s1 + 0))) rfl (by omega), sE_V rfl, sE_V rfl, trivial⟩
  exact poX (.head _) rfl hR (all_nil) (all_nil) (all_cons ⟨[s7, (s5 + 1), s0, s1, s2, s3], ⟨sE_V rfl, sEv (y' := ((1 : Int) + ((1 : Int) * s5 + 0))) rfl (by omega), sE_V rfl, sE_V rfl, sE_V rfl, sE_V rfl, trivial⟩, (show RNb (XT hp).1 (XT hp).2.1 s7 (s5 + 1) s0 s1 s2 s3 from rd_x f0 h1 l1 e1 ⟨by omega, by omega⟩ (by omega) (by omega) (by omega) (fun _ _ => by omega))⟩ (all_nil))
theorem rl77 : ruOk fFS gR77 := by
  intro r hp hO hN hH
  obtain ⟨s0, rfl⟩ := len1 (show r.length = 1 from hN.1)
  have hR := hN.2.1.1
  exact poX (.head _) rfl hR (all_nil) (all_nil) (all_cons ⟨[0, s0], ⟨sE_k _ _, sE_V rfl, trivial⟩, (show ∀ i : Nat, i < 30 → (i : Int) < (0 : Int) → hL hp 174 i ≠ s0 from fun i _ w => absurd w (by omega))⟩ (all_nil))
theorem rl78 : ruOk fFS gR78 := by
  intro r hp hO hN hH
  obtain ⟨s0, s1, s2, rfl⟩ := len3 (show r.length = 3 from hN.1)
  have hR := hN.2.1.1
  have hIv : ∀ q ∈ ([(1, .ofNat 0, .ofNat 29)] : sIv), ∃ x, ([s0, s1, s2] : List Int)[q.1]? = some x ∧ q.2.1 ≤ x ∧ x ≤ q.2.2 := hN.2.1.2
  have b0 : (0 : Int) ≤ s1 ∧ s1 ≤ (29 : Int) := ivX (q := (1, .ofNat 0, .ofNat 29)) (y := s1) (hIv _ (.head _)) rfl
  have hCs : ∀ c ∈ ([(.ofNat 1, [(.ofNat 1, 0), (.negSucc 0, 2)])] : List sLn), ∃ x, sE [s0, s1, s2] c = some x ∧ x ≤ 0 := hN.2.2.1
  have c0 : ((1 : Int) + ((1 : Int) * s0 + ((-1 : Int) * s2 + 0))) ≤ 0 := csX (hCs _ (.head _)) rfl
  have hRf : ∀ q ∈ ([((41, .ofNat 174, []), (.ofNat 0, [(.ofNat 1, 1)]), 5, .ofNat 0, [(.ofNat 1, 2)])] : List sRf), rfOk [s0, s1, s2] hp q := hH.1
  obtain ⟨i0, e0, l0, h0⟩ := rfL (iv := s1) (hRf _ (.head _)) (sE_k _ _) (sE_V rfl) (sE_V rfl)
  have l0 : i0 < 30 := l0
  have h0 : hL hp 174 i0 = s2 := h0
  have hFc : ∀ q ∈ ([(49, [(.ofNat 0, [(.ofNat 1, 1)]), (.ofNat 0, [(.ofNat 1, 0)])])] : List sFc), fcOk fFS [s0, s1, s2] hp q := hH.2
  have f0 : ∀ i : Nat, i < 30 → (i : Int) < s1 → hL hp 174 i ≠ s0 := fcX (ys := [s1, s0]) (hFc _ (.head _)) ⟨sE_V rfl, sE_V rfl, trivial⟩
  exact poX (.head _) rfl hR (all_nil) (all_nil) (all_cons ⟨[(s1 + 1), s0], ⟨sEv (y' := ((1 : Int) + ((1 : Int) * s1 + 0))) rfl (by omega), sE_V rfl, trivial⟩, (show ∀ i : Nat, i < 30 → (i : Int) < (s1 + 1) → hL hp 174 i ≠ s0 from wo_s f0 h0 (by omega) (by omega) (by omega))⟩ (all_nil))
theorem rl79 : ruOk fFS gR79 := by
  intro r hp hO hN hH
  obtain ⟨s0, s1, s2, rfl⟩ := len3 (show r.length = 3 from hN.1)
  have hR := hN.2.1.1
  have hIv : ∀ q ∈ ([(1, .ofNat 0, .ofNat 29)] : sIv), ∃ x, ([s0, s1, s2] : List Int)[q.1]? = some x ∧ q.2.1 ≤ x ∧ x ≤ q.2.2 := hN.2.1.2
  have b0 : (0 : Int) ≤ s1 ∧ s1 ≤ (29 : Int) := ivX (q := (1, .ofNat 0, .ofNat 29)) (y := s1) (hIv _ (.head _)) rfl
  have hCs : ∀ c ∈ ([(.ofNat 0, [(.ofNat 1, 0), (.negSucc 0, 2)]), (.ofNat 0, [(.negSucc 0, 0), (.ofNat 1, 2)])] : List sLn), ∃ x, sE [s0, s1, s2] c = some x ∧ x ≤ 0 := hN.2.2.1
  have c0 : ((0 : Int) + ((1 : Int) * s0 + ((-1 : Int) * s2 + 0))) ≤ 0 := csX (hCs _ (.head _)) rfl
  have c1 : ((0 : Int) + ((-1 : Int) * s0 + ((1 : Int) * s2 + 0))) ≤ 0 := csX (hCs _ (.tail _ (.head _))) rfl
  have hRf : ∀ q ∈ ([((41, .ofNat 174, []), (.ofNat 0, [(.ofNat 1, 1)]), 5, .ofNat 0, [(.ofNat 1, 2)])] : List sRf), rfOk [s0, s1, s2] hp q := hH.1
  obtain ⟨i0, e0, l0, h0⟩ := rfL (iv := s1) (hRf _ (.head _)) (sE_k _ _) (sE_V rfl) (sE_V rfl)
  have l0 : i0 < 30 := l0
  have h0 : hL hp 174 i0 = s2 := h0
  have hFc : ∀ q ∈ ([(49, [(.ofNat 0, [(.ofNat 1, 1)]), (.ofNat 0, [(.ofNat 1, 0)])]), (51, [])] : List sFc), fcOk fFS [s0, s1, s2] hp q := hH.2
  have f0 : ∀ i : Nat, i < 30 → (i : Int) < s1 → hL hp 174 i ≠ s0 := fcX (ys := [s1, s0]) (hFc _ (.head _)) ⟨sE_V rfl, sE_V rfl, trivial⟩
  have f1 : ∀ i : Nat, i < 30 → hL hp 174 i = cd 32 96 (wrd i) := fcX (ys := []) (hFc _ (.tail _ (.head _))) trivial
  exact poX (.head _) rfl hR (all_nil) (all_nil) (all_cons ⟨[s0, s1], ⟨sE_V rfl, sE_V rfl, trivial⟩, (show WI s0 s1 from wi_f f1 h0 l0 e0 (by omega))⟩ (all_nil))
end CkRul0
