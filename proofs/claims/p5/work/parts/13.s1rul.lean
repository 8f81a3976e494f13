section CkRul1
theorem rl80 : ruOk fFS gR80 := by
  intro r hp hO hN hH
  obtain ⟨s0, s1, s2, rfl⟩ := len3 (show r.length = 3 from hN.1)
  have hR := hN.2.1.1
  have hIv : ∀ q ∈ ([(1, .ofNat 0, .ofNat 29)] : sIv), ∃ x, ([s0, s1, s2] : List Int)[q.1]? = some x ∧ q.2.1 ≤ x ∧ x ≤ q.2.2 := hN.2.1.2
  have b0 : (0 : Int) ≤ s1 ∧ s1 ≤ (29 : Int) := ivX (q := (1, .ofNat 0, .ofNat 29)) (y := s1) (hIv _ (.head _)) rfl
  have hCs : ∀ c ∈ ([(.ofNat 1, [(.negSucc 0, 0), (.ofNat 1, 2)])] : List sLn), ∃ x, sE [s0, s1, s2] c = some x ∧ x ≤ 0 := hN.2.2.1
  have c0 : ((1 : Int) + ((-1 : Int) * s0 + ((1 : Int) * s2 + 0))) ≤ 0 := csX (hCs _ (.head _)) rfl
  have hRf : ∀ q ∈ ([((41, .ofNat 174, []), (.ofNat 0, [(.ofNat 1, 1)]), 5, .ofNat 0, [(.ofNat 1, 2)])] : List sRf), rfOk [s0, s1, s2] hp q := hH.1
  obtain ⟨i0, e0, l0, h0⟩ := rfL (iv := s1) (hRf _ (.head _)) (sE_k _ _) (sE_V rfl) (sE_V rfl)
  have l0 : i0 < 30 := l0
  have h0 : hL hp 174 i0 = s2 := h0
  have hFc : ∀ q ∈ ([(49, [(.ofNat 0, [(.ofNat 1, 1)]), (.ofNat 0, [(.ofNat 1, 0)])])] : List sFc), fcOk fFS [s0, s1, s2] hp q := hH.2
  have f0 : ∀ i : Nat, i < 30 → (i : Int) < s1 → hL hp 174 i ≠ s0 := fcX (ys := [s1, s0]) (hFc _ (.head _)) ⟨sE_V rfl, sE_V rfl, trivial⟩
  exact poX (.head _) rfl hR (all_nil) (all_nil) (all_cons ⟨[(s1 + 1), s0], ⟨sEv (y' := ((1 : Int) + ((1 : Int) * s1 + 0))) rfl (by omega), sE_V rfl, trivial⟩, (show ∀ i : Nat, i < 30 → (i : Int) < (s1 + 1) → hL hp 174 i ≠ s0 from wo_s f0 h0 (by omega) (by omega) (by omega))⟩ (all_nil))
theorem rl81 : ruOk fFS gR81 := by
  intro r hp hO hN hH
  obtain ⟨s0, s1, rfl⟩ := len2 (show r.length = 2 from hN.1)
  have hR := hN.2.1.1
  have hIv : ∀ q ∈ ([(1, .ofNat 30, .ofNat 30)] : sIv), ∃ x, ([s0, s1] : List Int)[q.1]? = some x ∧ q.2.1 ≤ x ∧ x ≤ q.2.2 := hN.2.1.2
  have b0 : (30 : Int) ≤ s1 ∧ s1 ≤ (30 : Int) := ivX (q := (1, .ofNat 30, .ofNat 30)) (y := s1) (hIv _ (.head _)) rfl
  have hFc : ∀ q ∈ ([(49, [(.ofNat 0, [(.ofNat 1, 1)]), (.ofNat 0, [(.ofNat 1, 0)])]), (51, [])] : List sFc), fcOk fFS [s0, s1] hp q := hH.2
  have f0 : ∀ i : Nat, i < 30 → (i : Int) < s1 → hL hp 174 i ≠ s0 := fcX (ys := [s1, s0]) (hFc _ (.head _)) ⟨sE_V rfl, sE_V rfl, trivial⟩
  have f1 : ∀ i : Nat, i < 30 → hL hp 174 i = cd 32 96 (wrd i) := fcX (ys := []) (hFc _ (.tail _ (.head _))) trivial
  exact poX (.head _) rfl hR (all_nil) (all_nil) (all_cons ⟨[s0, (-1)], ⟨sE_V rfl, sE_k _ _, trivial⟩, (show WI s0 (-1 : Int) from wi_n f1 f0 (by omega))⟩ (all_nil))
theorem rl82 : ruOk fFS gR82 := by
  intro r hp hO hN hH
  obtain ⟨s0, s1, s2, s3, s4, rfl⟩ := len5 (show r.length = 5 from hN.1)
  have hR := hN.2.1.1
  have hIv : ∀ q ∈ ([(0, .negSucc 2147483647, .ofNat 2147483647), (2, .negSucc 2147483647, .ofNat 2147483647), (3, .negSucc 2147483647, .ofNat 2147483647), (4, .negSucc 2147483647, .ofNat 2147483647)] : sIv), ∃ x, ([s0, s1, s2, s3, s4] : List Int)[q.1]? = some x ∧ q.2.1 ≤ x ∧ x ≤ q.2.2 := hN.2.1.2
  have hRf : ∀ q ∈ ([((40, .ofNat 173, []), (.ofNat 7, []), 1, .ofNat 0, [(.ofNat 1, 0)]), ((40, .ofNat 173, []), (.ofNat 8, []), 5, .ofNat 0, [(.ofNat 1, 1)])] : List sRf), rfOk [s0, s1, s2, s3, s4] hp q := hH.1
  have h0 : hI hp 173 7 = s0 := rfI0 (hRf _ (.head _)) (sE_k _ _) (sE_k _ _) (sE_V rfl)
  have y0 : (-1 : Int) ≤ s0 ∧ s0 ≤ (99 : Int) := by rw [← h0]; exact hI_ty hO (by decide) rfl
  have h1 : hL hp 173 8 = s1 := rfL0 (hRf _ (.tail _ (.head _))) (sE_k _ _) (sE_k _ _) (sE_V rfl)
  have hFc : ∀ q ∈ ([(47, [(.ofNat 0, [(.ofNat 1, 2)]), (.ofNat 0, [(.ofNat 1, 3)]), (.ofNat 0, [(.ofNat 1, 4)])]), (50, [(.ofNat 0, [(.ofNat 1, 1)]), (.ofNat 0, [(.ofNat 1, 0)])]), (48, [(.ofNat 0, [(.ofNat 1, 3)]), (.ofNat 0, [(.ofNat 1, 4)])])] : List sFc), fcOk fFS [s0, s1, s2, s3, s4] hp q := hH.2
  have f0 : TW (XT hp) s2 s3 s4 := fcX (ys := [s2, s3, s4]) (hFc _ (.head _)) ⟨sE_V rfl, sE_V rfl, sE_V rfl, trivial⟩
  have f1 : WI s1 s0 := fcX (ys := [s1, s0]) (hFc _ (.tail _ (.head _))) ⟨sE_V rfl, sE_V rfl, trivial⟩
  have f2 : isW (bs (XB hp) s3 s4) ∧ hL hp 173 8 = cd 32 96 (bs (XB hp) s3 s4) := fcX (ys := [s3, s4]) (hFc _ (.tail _ (.tail _ (.head _)))) ⟨sE_V rfl, sE_V rfl, trivial⟩
  exact poX (.head _) rfl hR (all_nil) (all_nil) (all_cons ⟨[s2, 1, s3, s4, s0], ⟨sE_V rfl, sE_k _ _, sE_V rfl, sE_V rfl, sE_V rfl, trivial⟩, (show TKB (XT hp) s2 (1 : Int) s3 s4 s0 from tk1_x hO f0 f1 f2 h1)⟩ (all_nil))
theorem rl83 : ruOk fFS gR83 := by
  intro r hp hO hN hH
  obtain ⟨s0, s1, s2, s3, rfl⟩ := len4 (show r.length = 4 from hN.1)
  have hR := hN.2.1.1
  have hIv : ∀ q ∈ ([(0, .ofNat 0, .ofNat 939), (1, .ofNat 32, .ofNat 32), (2, .negSucc 2147483647, .ofNat 2147483647), (3, .negSucc 2147483647, .ofNat 2147483647)] : sIv), ∃ x, ([s0, s1, s2, s3] : List Int)[q.1]? = some x ∧ q.2.1 ≤ x ∧ x ≤ q.2.2 := hN.2.1.2
  have b0 : (0 : Int) ≤ s0 ∧ s0 ≤ (939 : Int) := ivX (q := (0, .ofNat 0, .ofNat 939)) (y := s0) (hIv _ (.head _)) rfl
  have b1 : (32 : Int) ≤ s1 ∧ s1 ≤ (32 : Int) := ivX (q := (1, .ofNat 32, .ofNat 32)) (y := s1) (hIv _ (.tail _ (.head _))) rfl
  have hCs : ∀ c ∈ ([(.ofNat 1, [(.ofNat 1, 0), (.negSucc 0, 2)])] : List sLn), ∃ x, sE [s0, s1, s2, s3] c = some x ∧ x ≤ 0 := hN.2.2.1
  have c0 : ((1 : Int) + ((1 : Int) * s0 + ((-1 : Int) * s2 + 0))) ≤ 0 := csX (hCs _ (.head _)) rfl
  have hRf : ∀ q ∈ ([((40, .ofNat 173, []), (.ofNat 4, []), 1, .ofNat 0, [(.ofNat 1, 0)]), ((1, .ofNat 1, []), (.ofNat 0, [(.ofNat 1, 0)]), 1, .ofNat 0, [(.ofNat 1, 1)]), ((40, .ofNat 173, []), (.ofNat 2, []), 1, .ofNat 0, [(.ofNat 1, 2)])] : List sRf), rfOk [s0, s1, s2, s3] hp q := hH.1
  have h0 : hI hp 173 4 = s0 := rfI0 (hRf _ (.head _)) (sE_k _ _) (sE_k _ _) (sE_V rfl)
  have y0 : (0 : Int) ≤ s0 ∧ s0 ≤ (940 : Int) := by rw [← h0]; exact hI_ty hO (by decide) rfl
  obtain ⟨i1, e1, l1, h1⟩ := rfI (xv := s1) (iv := s0) (hRf _ (.tail _ (.head _))) (sE_k _ _) (sE_V rfl) (sE_V rfl)
  have l1 : i1 < 940 := l1
  have h1 : hI hp 1 i1 = s1 := h1
  have h2 : hI hp 173 2 = s2 := rfI0 (hRf _ (.tail _ (.tail _ (.head _)))) (sE_k _ _) (sE_k _ _) (sE_V rfl)
  have y2 : (0 : Int) ≤ s2 ∧ s2 ≤ (940 : Int) := by rw [← h2]; exact hI_ty hO (by decide) rfl
  have tnx : (XT hp).2.1 = s2 := h2
  have hFc : ∀ q ∈ ([(40, [(.ofNat 0, [(.ofNat 1, 3)]), (.ofNat 0, [(.ofNat 1, 0)])])] : List sFc), fcOk fFS [s0, s1, s2, s3] hp q := hH.2
  have f0 : SK (XT hp).1 (XT hp).2.1 s3 s0 := fcX (ys := [s3, s0]) (hFc _ (.head _)) ⟨sE_V rfl, sE_V rfl, trivial⟩
  exact poX (.head _) rfl hR (all_nil) (all_nil) (all_cons ⟨[s3, (s0 + 1)], ⟨sE_V rfl, sEv (y' := ((1 : Int) + ((1 : Int) * s0 + 0))) rfl (by omega), trivial⟩, (show SK (XT hp).1 (XT hp).2.1 s3 (s0 + 1) from sk_x f0 h1 l1 e1 (by omega) (by omega) (by omega))⟩ (all_nil))
theorem rl84 : ruOk fFS gR84 := by
  intro r hp hO hN hH
  obtain ⟨s0, s1, s2, s3, rfl⟩ := len4 (show r.length = 4 from hN.1)
  have hR := hN.2.1.1
  have hIv : ∀ q ∈ ([(0, .ofNat 0, .ofNat 939), (1, .ofNat 10, .ofNat 10), (2, .negSucc 2147483647, .ofNat 2147483647), (3, .negSucc 2147483647, .ofNat 2147483647)] : sIv), ∃ x, ([s0, s1, s2, s3] : List Int)[q.1]? = some x ∧ q.2.1 ≤ x ∧ x ≤ q.2.2 := hN.2.1.2
  have b0 : (0 : Int) ≤ s0 ∧ s0 ≤ (939 : Int) := ivX (q := (0, .ofNat 0, .ofNat 939)) (y := s0) (hIv _ (.head _)) rfl
  have b1 : (10 : Int) ≤ s1 ∧ s1 ≤ (10 : Int) := ivX (q := (1, .ofNat 10, .ofNat 10)) (y := s1) (hIv _ (.tail _ (.head _))) rfl
  have hCs : ∀ c ∈ ([(.ofNat 1, [(.ofNat 1, 0), (.negSucc 0, 2)])] : List sLn), ∃ x, sE [s0, s1, s2, s3] c = some x ∧ x ≤ 0 := hN.2.2.1
  have c0 : ((1 : Int) + ((1 : Int) * s0 + ((-1 : Int) * s2 + 0))) ≤ 0 := csX (hCs _ (.head _)) rfl
  have hRf : ∀ q ∈ ([((40, .ofNat 173, []), (.ofNat 4, []), 1, .ofNat 0, [(.ofNat 1, 0)]), ((1, .ofNat 1, []), (.ofNat 0, [(.ofNat 1, 0)]), 1, .ofNat 0, [(.ofNat 1, 1)]), ((40, .ofNat 173, []), (.ofNat 2, []), 1, .ofNat 0, [(.ofNat 1, 2)])] : List sRf), rfOk [s0, s1, s2, s3] hp q := hH.1
  have h0 : hI hp 173 4 = s0 := rfI0 (hRf _ (.head _)) (sE_k _ _) (sE_k _ _) (sE_V rfl)
  have y0 : (0 : Int) ≤ s0 ∧ s0 ≤ (940 : Int) := by rw [← h0]; exact hI_ty hO (by decide) rfl
  obtain ⟨i1, e1, l1, h1⟩ := rfI (xv := s1) (iv := s0) (hRf _ (.tail _ (.head _))) (sE_k _ _) (sE_V rfl) (sE_V rfl)
  have l1 : i1 < 940 := l1
  have h1 : hI hp 1 i1 = s1 := h1
  have h2 : hI hp 173 2 = s2 := rfI0 (hRf _ (.tail _ (.tail _ (.head _)))) (sE_k _ _) (sE_k _ _) (sE_V rfl)
  have y2 : (0 : Int) ≤ s2 ∧ s2 ≤ (940 : Int) := by rw [← h2]; exact hI_ty hO (by decide) rfl
  have tnx : (XT hp).2.1 = s2 := h2
  have hFc : ∀ q ∈ ([(40, [(.ofNat 0, [(.ofNat 1, 3)]), (.ofNat 0, [(.ofNat 1, 0)])])] : List sFc), fcOk fFS [s0, s1, s2, s3] hp q := hH.2
  have f0 : SK (XT hp).1 (XT hp).2.1 s3 s0 := fcX (ys := [s3, s0]) (hFc _ (.head _)) ⟨sE_V rfl, sE_V rfl, trivial⟩
  exact poX (.head _) rfl hR (all_nil) (all_nil) (all_cons ⟨[s3, (s0 + 1)], ⟨sE_V rfl, sEv (y' := ((1 : Int) + ((1 : Int) * s0 + 0))) rfl (by omega), trivial⟩, (show SK (XT hp).1 (XT hp).2.1 s3 (s0 + 1) from sk_x f0 h1 l1 e1 (by omega) (by omega) (by omega))⟩ (all_nil))
theorem rl85 : ruOk fFS gR85 := by
  intro r hp hO hN hH
  obtain ⟨s0, s1, s2, rfl⟩ := len3 (show r.length = 3 from hN.1)
  have hR := hN.2.1.1
  have hIv : ∀ q ∈ ([(0, .negSucc 2147483647, .ofNat 2147483647), (1, .negSucc 2147483647, .ofNat 2147483647), (2, .negSucc 2147483647, .ofNat 2147483647)] : sIv), ∃ x, ([s0, s1, s2] : List Int)[q.1]? = some x ∧ q.2.1 ≤ x ∧ x ≤ q.2.2 := hN.2.1.2
  have hCs : ∀ c ∈ ([(.ofNat 0, [(.negSucc 0, 0), (.ofNat 1, 1)])] : List sLn), ∃ x, sE [s0, s1, s2] c = some x ∧ x ≤ 0 := hN.2.2.1
  have c0 : ((0 : Int) + ((-1 : Int) * s0 + ((1 : Int) * s1 + 0))) ≤ 0 := csX (hCs _ (.head _)) rfl
  have hRf : ∀ q ∈ ([((40, .ofNat 173, []), (.ofNat 4, []), 1, .ofNat 0, [(.ofNat 1, 0)]), ((40, .ofNat 173, []), (.ofNat 2, []), 1, .ofNat 0, [(.ofNat 1, 1)])] : List sRf), rfOk [s0, s1, s2] hp q := hH.1
  have h0 : hI hp 173 4 = s0 := rfI0 (hRf _ (.head _)) (sE_k _ _) (sE_k _ _) (sE_V rfl)
  have y0 : (0 : Int) ≤ s0 ∧ s0 ≤ (940 : Int) := by rw [← h0]; exact hI_ty hO (by decide) rfl
  have h1 : hI hp 173 2 = s1 := rfI0 (hRf _ (.tail _ (.head _))) (sE_k _ _) (sE_k _ _) (sE_V rfl)
  have y1 : (0 : Int) ≤ s1 ∧ s1 ≤ (940 : Int) := by rw [← h1]; exact hI_ty hO (by decide) rfl
  have tnx : (XT hp).2.1 = s1 := h1
  have hFc : ∀ q ∈ ([(40, [(.ofNat 0, [(.ofNat 1, 2)]), (.ofNat 0, [(.ofNat 1, 0)])])] : List sFc), fcOk fFS [s0, s1, s2] hp q := hH.2
  have f0 : SK (XT hp).1 (XT hp).2.1 s2 s0 := fcX (ys := [s2, s0]) (hFc _ (.head _)) ⟨sE_V rfl, sE_V rfl, trivial⟩
  exact poX (.head _) rfl hR (all_nil) (all_nil) (all_cons ⟨[s2, s0], ⟨sE_V rfl, sE_V rfl, trivial⟩, (show P1q (XT hp).1 (XT hp).2.1 s2 s0 from ⟨f0, fun w => absurd w (by omega)⟩)⟩ (all_nil))
theorem rl86 : ruOk fFS gR86 := by
  intro r hp hO hN hH
  obtain ⟨s0, s1, s2, s3, rfl⟩ := len4 (show r.length = 4 from hN.1)
  have hR := hN.2.1.1
  have hIv : ∀ q ∈ ([(0, .negSucc 2147483647, .ofNat 2147483647), (1, .negSucc 2147483647, .ofNat 2147483647), (2, .negSucc 2147483647, .ofNat 2147483647), (3, .negSucc 2147483647, .ofNat 2147483647)] : sIv), ∃ x, ([s0, s1, s2, s3] : List Int)[q.1]? = some x ∧ q.2.1 ≤ x ∧ x ≤ q.2.2 := hN.2.1.2
  have hCs : ∀ c ∈ ([(.ofNat 0, [(.negSucc 0, 0), (.ofNat 1, 1)]), (.ofNat 0, [(.ofNat 1, 1), (.negSucc 0, 2)])] : List sLn), ∃ x, sE [s0, s1, s2, s3] c = some x ∧ x ≤ 0 := hN.2.2.1
  have c0 : ((0 : Int) + ((-1 : Int) * s0 + ((1 : Int) * s1 + 0))) ≤ 0 := csX (hCs _ (.head _)) rfl
  have c1 : ((0 : Int) + ((1 : Int) * s1 + ((-1 : Int) * s2 + 0))) ≤ 0 := csX (hCs _ (.tail _ (.head _))) rfl
  have hRf : ∀ q ∈ ([((40, .ofNat 173, []), (.ofNat 4, []), 1, .ofNat 0, [(.ofNat 1, 0)]), ((40, .ofNat 173, []), (.ofNat 2, []), 1, .ofNat 0, [(.ofNat 1, 1)]), ((40, .ofNat 173, []), (.ofNat 3, []), 1, .ofNat 0, [(.ofNat 1, 2)])] : List sRf), rfOk [s0, s1, s2, s3] hp q := hH.1
  have h0 : hI hp 173 4 = s0 := rfI0 (hRf _ (.head _)) (sE_k _ _) (sE_k _ _) (sE_V rfl)
  have y0 : (0 : Int) ≤ s0 ∧ s0 ≤ (940 : Int) := by rw [← h0]; exact hI_ty hO (by decide) rfl
  have h1 : hI hp 173 2 = s1 := rfI0 (hRf _ (.tail _ (.head _))) (sE_k _ _) (sE_k _ _) (sE_V rfl)
  have y1 : (0 : Int) ≤ s1 ∧ s1 ≤ (940 : Int) := by rw [← h1]; exact hI_ty hO (by decide) rfl
  have tnx : (XT hp).2.1 = s1 := h1
  have h2 : hI hp 173 3 = s2 := rfI0 (hRf _ (.tail _ (.tail _ (.head _)))) (sE_k _ _) (sE_k _ _) (sE_V rfl)
  have y2 : (0 : Int) ≤ s2 ∧ s2 ≤ (940 : Int) := by rw [← h2]; exact hI_ty hO (by decide) rfl
  have tmx : (XT hp).2.2 = s2 := h2
  have hFc : ∀ q ∈ ([(41, [(.ofNat 0, [(.ofNat 1, 3)]), (.ofNat 0, [(.ofNat 1, 0)])])] : List sFc), fcOk fFS [s0, s1, s2, s3] hp q := hH.2
  have f0 : P1q (XT hp).1 (XT hp).2.1 s3 s0 := fcX (ys := [s3, s0]) (hFc _ (.head _)) ⟨sE_V rfl, sE_V rfl, trivial⟩
  exact poX (.head _) rfl hR (all_nil) (all_nil) (all_cons ⟨[s3, 0, s0, s0, (-1)], ⟨sE_V rfl, sE_k _ _, sE_V rfl, sE_V rfl, sE_k _ _, trivial⟩, (show TKB (XT hp) s3 (0 : Int) s0 s0 (-1 : Int) from tk_end f0 (by omega) (by omega) (by omega))⟩ (all_nil))
theorem rl87 : ruOk fFS gR87 := by
  intro r hp hO hN hH
  obtain ⟨s0, s1, s2, s3, s4, s5, s6, s7, s8, s9, s10, s11, s12, rfl⟩ := len13 (show r.length = 13 from hN.1)
  have hR := hN.2.1.1
  have hIv : ∀ q ∈ ([(0, .negSucc 2147483647, .ofNat 2147483647), (1, .ofNat 0, .ofNat 0), (2, .negSucc 2147483647, .ofNat 2147483647), (3, .negSucc 2147483647, .ofNat 2147483647), (4, .negSucc 2147483647, .ofNat 2147483647), (5, .negSucc 2147483647, .ofNat 2147483647), (6, .negSucc 2147483647, .ofNat 2147483647), (7, .negSucc 2147483647, .ofNat 2147483647), (8, .negSucc 2147483647, .ofNat 2147483647), (9, .negSucc 2147483647, .ofNat 2147483647), (10, .negSucc 2147483647, .ofNat 2147483647), (11, .negSucc 2147483647, .ofNat 2147483647), (12, .negSucc 2147483647, .ofNat 2147483647)] : sIv), ∃ x, ([s0, s1, s2, s3, s4, s5, s6, s7, s8, s9, s10, s11, s12] : List Int)[q.1]? = some x ∧ q.2.1 ≤ x ∧ x ≤ q.2.2 := hN.2.1.2
  have b0 : (-2147483648 : Int) ≤ s0 ∧ s0 ≤ (2147483647 : Int) := ivX (q := (0, .negSucc 2147483647, .ofNat 2147483647)) (y := s0) (hIv _ (.head _)) rfl
  have b1 : (0 : Int) ≤ s1 ∧ s1 ≤ (0 : Int) := ivX (q := (1, .ofNat 0, .ofNat 0)) (y := s1) (hIv _ (.tail _ (.head _))) rfl
  have b2 : (-2147483648 : Int) ≤ s2 ∧ s2 ≤ (2147483647 : Int) := ivX (q := (2, .negSucc 2147483647, .ofNat 2147483647)) (y := s2) (hIv _ (.tail _ (.tail _ (.head _)))) rfl
  have hRf : ∀ q ∈ ([((40, .ofNat 173, []), (.ofNat 9, []), 1, .ofNat 0, [])] : List sRf), rfOk [s0, s1, s2, s3, s4, s5, s6, s7, s8, s9, s10, s11, s12] hp q := hH.1
  have h0 : hI hp 173 9 = 0 := rfI0 (hRf _ (.head _)) (sE_k _ _) (sE_k _ _) (sE_k _ _)
  have hFc : ∀ q ∈ ([(53, [(.ofNat 0, [(.ofNat 1, 0)]), (.ofNat 0, [(.ofNat 1, 1)]), (.ofNat 0, [(.ofNat 1, 2)]), (.ofNat 0, [(.ofNat 1, 3)]), (.ofNat 0, [(.ofNat 1, 4)]), (.ofNat 0, [(.ofNat 1, 5)]), (.ofNat 0, [(.ofNat 1, 6)]), (.ofNat 0, [(.ofNat 1, 7)]), (.ofNat 0, [(.ofNat 1, 8)]), (.ofNat 0, [(.ofNat 1, 9)]), (.ofNat 0, [(.ofNat 1, 10)]), (.ofNat 0, [(.ofNat 1, 11)]), (.ofNat 0, [(.ofNat 1, 12)])])] : List sFc), fcOk fFS [s0, s1, s2, s3, s4, s5, s6, s7, s8, s9, s10, s11, s12] hp q := hH.2
  have f0 : Hq (XT hp) s0 s1 s2 s3 s4 s5 s6 s7 s8 s9 s10 s11 s12 ∧ s9 ≠ 4 := fcX (ys := [s0, s1, s2, s3, s4, s5, s6, s7, s8, s9, s10, s11, s12]) (hFc _ (.head _)) ⟨sE_V rfl, sE_V rfl, sE_V rfl, sE_V rfl, sE_V rfl, sE_V rfl, sE_V rfl, sE_V rfl, sE_V rfl, sE_V rfl, sE_V rfl, sE_V rfl, sE_V rfl, trivial⟩
  have u := h_bd (XT_ok hO) f0.1
  have u2 := f0.2
  exact poX (.head _) rfl hR (all_cons (ivO (y := s0) rfl (show (0 : Int) ≤ s0 by omega) (show s0 ≤ (940 : Int) by omega)) (all_cons (ivO (y := s2) rfl (show (0 : Int) ≤ s2 by omega) (show s2 ≤ (470 : Int) by omega)) (all_nil))) (all_nil) (all_nil)
theorem rl88 : ruOk fFS gR88 := by
  intro r hp hO hN hH
  obtain ⟨s0, s1, s2, s3, s4, s5, s6, s7, s8, s9, s10, rfl⟩ := len11 (show r.length = 11 from hN.1)
  have hR := hN.2.1.1
  have hIv : ∀ q ∈ ([(0, .negSucc 2147483647, .ofNat 2147483647), (1, .negSucc 2147483647, .ofNat 2147483647), (2, .negSucc 2147483647, .ofNat 2147483647), (3, .negSucc 2147483647, .ofNat 2147483647), (4, .negSucc 2147483647, .ofNat 2147483647), (5, .negSucc 2147483647, .ofNat 2147483647), (6, .negSucc 2147483647, .ofNat 2147483647), (7, .negSucc 2147483647, .ofNat 2147483647), (8, .negSucc 2147483647, .ofNat 2147483647), (9, .negSucc 2147483647, .ofNat 2147483647), (10, .negSucc 2147483647, .ofNat 2147483647)] : sIv), ∃ x, ([s0, s1, s2, s3, s4, s5, s6, s7, s8, s9, s10] : List Int)[q.1]? = some x ∧ q.2.1 ≤ x ∧ x ≤ q.2.2 := hN.2.1.2
  have b1 : (-2147483648 : Int) ≤ s1 ∧ s1 ≤ (2147483647 : Int) := ivX (q := (1, .negSucc 2147483647, .ofNat 2147483647)) (y := s1) (hIv _ (.tail _ (.head _))) rfl
  have b2 : (-2147483648 : Int) ≤ s2 ∧ s2 ≤ (2147483647 : Int) := ivX (q := (2, .negSucc 2147483647, .ofNat 2147483647)) (y := s2) (hIv _ (.tail _ (.tail _ (.head _)))) rfl
  have b3 : (-2147483648 : Int) ≤ s3 ∧ s3 ≤ (2147483647 : Int) := ivX (q := (3, .negSucc 2147483647, .ofNat 2147483647)) (y := s3) (hIv _ (.tail _ (.tail _ (.tail _ (.head _))))) rfl
  have b4 : (-2147483648 : Int) ≤ s4 ∧ s4 ≤ (2147483647 : Int) := ivX (q := (4, .negSucc 2147483647, .ofNat 2147483647)) (y := s4) (hIv _ (.tail _ (.tail _ (.tail _ (.tail _ (.head _)))))) rfl
  have b5 : (-2147483648 : Int) ≤ s5 ∧ s5 ≤ (2147483647 : Int) := ivX (q := (5, .negSucc 2147483647, .ofNat 2147483647)) (y := s5) (hIv _ (.tail _ (.tail _ (.tail _ (.tail _ (.tail _ (.head _))))))) rfl
  have b6 : (-2147483648 : Int) ≤ s6 ∧ s6 ≤ (2147483647 : Int) := ivX (q := (6, .negSucc 2147483647, .ofNat 2147483647)) (y := s6) (hIv _ (.tail _ (.tail _ (.tail _ (.tail _ (.tail _ (.tail _ (.head _)))))))) rfl
  have b7 : (-2147483648 : Int) ≤ s7 ∧ s7 ≤ (2147483647 : Int) := ivX (q := (7, .negSucc 2147483647, .ofNat 2147483647)) (y := s7) (hIv _ (.tail _ (.tail _ (.tail _ (.tail _ (.tail _ (.tail _ (.tail _ (.head _))))))))) rfl
  have b8 : (-2147483648 : Int) ≤ s8 ∧ s8 ≤ (2147483647 : Int) := ivX (q := (8, .negSucc 2147483647, .ofNat 2147483647)) (y := s8) (hIv _ (.tail _ (.tail _ (.tail _ (.tail _ (.tail _ (.tail _ (.tail _ (.tail _ (.head _)))))))))) rfl
  have b9 : (-2147483648 : Int) ≤ s9 ∧ s9 ≤ (2147483647 : Int) := ivX (q := (9, .negSucc 2147483647, .ofNat 2147483647)) (y := s9) (hIv _ (.tail _ (.tail _ (.tail _ (.tail _ (.tail _ (.tail _ (.tail _ (.tail _ (.tail _ (.head _))))))))))) rfl
  have b10 : (-2147483648 : Int) ≤ s10 ∧ s10 ≤ (2147483647 : Int) := ivX (q := (10, .negSucc 2147483647, .ofNat 2147483647)) (y := s10) (hIv _ (.tail _ (.tail _ (.tail _ (.tail _ (.tail _ (.tail _ (.tail _ (.tail _ (.tail _ (.tail _ (.head _)))))))))))) rfl
  have hRf : ∀ q ∈ ([((40, .ofNat 173, []), (.ofNat 9, []), 1, .ofNat 0, [])] : List sRf), rfOk [s0, s1, s2, s3, s4, s5, s6, s7, s8, s9, s10] hp q := hH.1
  have h0 : hI hp 173 9 = 0 := rfI0 (hRf _ (.head _)) (sE_k _ _) (sE_k _ _) (sE_k _ _)
  have hFc : ∀ q ∈ ([(59, [(.ofNat 0, [(.ofNat 1, 0)]), (.ofNat 0, [(.ofNat 1, 1)]), (.ofNat 0, [(.ofNat 1, 2)]), (.ofNat 0, [(.ofNat 1, 3)]), (.ofNat 0, [(.ofNat 1, 4)]), (.ofNat 0, [(.ofNat 1, 5)]), (.ofNat 0, [(.ofNat 1, 6)]), (.ofNat 0, [(.ofNat 1, 7)]), (.ofNat 0, [(.ofNat 1, 8)]), (.ofNat 0, [(.ofNat 1, 9)]), (.ofNat 0, [(.ofNat 1, 10)])])] : List sFc), fcOk fFS [s0, s1, s2, s3, s4, s5, s6, s7, s8, s9, s10] hp q := hH.2
  have f0 : CT (XT hp) s0 s1 s2 s3 s4 s5 s6 s7 s8 s9 s10 := fcX (ys := [s0, s1, s2, s3, s4, s5, s6, s7, s8, s9, s10]) (hFc _ (.head _)) ⟨sE_V rfl, sE_V rfl, sE_V rfl, sE_V rfl, sE_V rfl, sE_V rfl, sE_V rfl, sE_V rfl, sE_V rfl, sE_V rfl, sE_V rfl, trivial⟩
  have u := ct_b (XT_ok hO) f0
  exact poX (.head _) rfl hR (all_cons (ivO (y := s1) rfl (show (0 : Int) ≤ s1 by omega) (show s1 ≤ (4 : Int) by omega)) (all_cons (ivO (y := s2) rfl (show (0 : Int) ≤ s2 by omega) (show s2 ≤ (3 : Int) by omega)) (all_cons (ivO (y := s3) rfl (show (0 : Int) ≤ s3 by omega) (show s3 ≤ (5 : Int) by omega)) (all_cons (ivO (y := s4) rfl (show (0 : Int) ≤ s4 by omega) (show s4 ≤ (8 : Int) by omega)) (all_cons (ivO (y := s5) rfl (show (0 : Int) ≤ s5 by omega) (show s5 ≤ (14 : Int) by omega)) (all_cons (ivO (y := s6) rfl (show (0 : Int) ≤ s6 by omega) (show s6 ≤ (10 : Int) by omega)) (all_cons (ivO (y := s7) rfl (show (0 : Int) ≤ s7 by omega) (show s7 ≤ (8 : Int) by omega)) (all_cons (ivO (y := s8) rfl (show (0 : Int) ≤ s8 by omega) (show s8 ≤ (1 : Int) by omega)) (all_cons (ivO (y := s9) rfl (show (1 : Int) ≤ s9 by omega) (show s9 ≤ (10 : Int) by omega)) (all_cons (ivO (y := s10) rfl (show (1 : Int) ≤ s10 by omega) (show s10 ≤ (10 : Int) by omega)) (all_nil))))))))))) (all_nil) (all_nil)
theorem rl89 : ruOk fFS gR89 := by
  intro r hp hO hN hH
  obtain ⟨s0, s1, s2, s3, s4, s5, s6, s7, s8, s9, s10, s11, s12, rfl⟩ := len13 (show r.length = 13 from hN.1)
  have hR := hN.2.1.1
  have hIv : ∀ q ∈ ([(0, .negSucc 2147483647, .ofNat 2147483647), (1, .negSucc 2147483647, .ofNat 2147483647), (2, .negSucc 2147483647, .ofNat 2147483647), (3, .negSucc 2147483647, .ofNat 2147483647), (4, .negSucc 2147483647, .ofNat 2147483647), (5, .negSucc 2147483647, .ofNat 2147483647), (6, .negSucc 2147483647, .ofNat 2147483647), (7, .negSucc 2147483647, .ofNat 2147483647), (8, .negSucc 2147483647, .ofNat 2147483647), (9, .negSucc 2147483647, .ofNat 2147483647), (10, .negSucc 2147483647, .ofNat 2147483647), (11, .negSucc 2147483647, .ofNat 2147483647), (12, .negSucc 2147483647, .ofNat 2147483647)] : sIv), ∃ x, ([s0, s1, s2, s3, s4, s5, s6, s7, s8, s9, s10, s11, s12] : List Int)[q.1]? = some x ∧ q.2.1 ≤ x ∧ x ≤ q.2.2 := hN.2.1.2
  have b3 : (-2147483648 : Int) ≤ s3 ∧ s3 ≤ (2147483647 : Int) := ivX (q := (3, .negSucc 2147483647, .ofNat 2147483647)) (y := s3) (hIv _ (.tail _ (.tail _ (.tail _ (.head _))))) rfl
  have b4 : (-2147483648 : Int) ≤ s4 ∧ s4 ≤ (2147483647 : Int) := ivX (q := (4, .negSucc 2147483647, .ofNat 2147483647)) (y := s4) (hIv _ (.tail _ (.tail _ (.tail _ (.tail _ (.head _)))))) rfl
  have b5 : (-2147483648 : Int) ≤ s5 ∧ s5 ≤ (2147483647 : Int) := ivX (q := (5, .negSucc 2147483647, .ofNat 2147483647)) (y := s5) (hIv _ (.tail _ (.tail _ (.tail _ (.tail _ (.tail _ (.head _))))))) rfl
  have b6 : (-2147483648 : Int) ≤ s6 ∧ s6 ≤ (2147483647 : Int) := ivX (q := (6, .negSucc 2147483647, .ofNat 2147483647)) (y := s6) (hIv _ (.tail _ (.tail _ (.tail _ (.tail _ (.tail _ (.tail _ (.head _)))))))) rfl
  have b7 : (-2147483648 : Int) ≤ s7 ∧ s7 ≤ (2147483647 : Int) := ivX (q := (7, .negSucc 2147483647, .ofNat 2147483647)) (y := s7) (hIv _ (.tail _ (.tail _ (.tail _ (.tail _ (.tail _ (.tail _ (.tail _ (.head _))))))))) rfl
  have b8 : (-2147483648 : Int) ≤ s8 ∧ s8 ≤ (2147483647 : Int) := ivX (q := (8, .negSucc 2147483647, .ofNat 2147483647)) (y := s8) (hIv _ (.tail _ (.tail _ (.tail _ (.tail _ (.tail _ (.tail _ (.tail _ (.tail _ (.head _)))))))))) rfl
  have b9 : (-2147483648 : Int) ≤ s9 ∧ s9 ≤ (2147483647 : Int) := ivX (q := (9, .negSucc 2147483647, .ofNat 2147483647)) (y := s9) (hIv _ (.tail _ (.tail _ (.tail _ (.tail _ (.tail _ (.tail _ (.tail _ (.tail _ (.tail _ (.head _))))))))))) rfl
  have b10 : (-2147483648 : Int) ≤ s10 ∧ s10 ≤ (2147483647 : Int) := ivX (q := (10, .negSucc 2147483647, .ofNat 2147483647)) (y := s10) (hIv _ (.tail _ (.tail _ (.tail _ (.tail _ (.tail _ (.tail _ (.tail _ (.tail _ (.tail _ (.tail _ (.head _)))))))))))) rfl
  have b11 : (-2147483648 : Int) ≤ s11 ∧ s11 ≤ (2147483647 : Int) := ivX (q := (11, .negSucc 2147483647, .ofNat 2147483647)) (y := s11) (hIv _ (.tail _ (.tail _ (.tail _ (.tail _ (.tail _ (.tail _ (.tail _ (.tail _ (.tail _ (.tail _ (.tail _ (.head _))))))))))))) rfl
  have b12 : (-2147483648 : Int) ≤ s12 ∧ s12 ≤ (2147483647 : Int) := ivX (q := (12, .negSucc 2147483647, .ofNat 2147483647)) (y := s12) (hIv _ (.tail _ (.tail _ (.tail _ (.tail _ (.tail _ (.tail _ (.tail _ (.tail _ (.tail _ (.tail _ (.tail _ (.tail _ (.head _)))))))))))))) rfl
  have hRf : ∀ q ∈ ([((40, .ofNat 173, []), (.ofNat 9, []), 1, .ofNat 0, [])] : List sRf), rfOk [s0, s1, s2, s3, s4, s5, s6, s7, s8, s9, s10, s11, s12] hp q := hH.1
  have h0 : hI hp 173 9 = 0 := rfI0 (hRf _ (.head _)) (sE_k _ _) (sE_k _ _) (sE_k _ _)
  have hFc : ∀ q ∈ ([(53, [(.ofNat 0, [(.ofNat 1, 0)]), (.ofNat 0, [(.ofNat 1, 1)]), (.ofNat 0, [(.ofNat 1, 2)]), (.ofNat 0, [(.ofNat 1, 3)]), (.ofNat 0, [(.ofNat 1, 4)]), (.ofNat 0, [(.ofNat 1, 5)]), (.ofNat 0, [(.ofNat 1, 6)]), (.ofNat 0, [(.ofNat 1, 7)]), (.ofNat 0, [(.ofNat 1, 8)]), (.ofNat 0, [(.ofNat 1, 9)]), (.ofNat 0, [(.ofNat 1, 10)]), (.ofNat 0, [(.ofNat 1, 11)]), (.ofNat 0, [(.ofNat 1, 12)])])] : List sFc), fcOk fFS [s0, s1, s2, s3, s4, s5, s6, s7, s8, s9, s10, s11, s12] hp q := hH.2
  have f0 : Hq (XT hp) s0 s1 s2 s3 s4 s5 s6 s7 s8 s9 s10 s11 s12 ∧ s9 ≠ 4 := fcX (ys := [s0, s1, s2, s3, s4, s5, s6, s7, s8, s9, s10, s11, s12]) (hFc _ (.head _)) ⟨sE_V rfl, sE_V rfl, sE_V rfl, sE_V rfl, sE_V rfl, sE_V rfl, sE_V rfl, sE_V rfl, sE_V rfl, sE_V rfl, sE_V rfl, sE_V rfl, sE_V rfl, trivial⟩
  have u := h_bd (XT_ok hO) f0.1
  have u2 := f0.2
  exact poX (.head _) rfl hR (all_cons (ivO (y := s3) rfl (show (-1 : Int) ≤ s3 by omega) (show s3 ≤ (99 : Int) by omega)) (all_cons (ivO (y := s4) rfl (show (-1 : Int) ≤ s4 by omega) (show s4 ≤ (99 : Int) by omega)) (all_cons (ivO (y := s5) rfl (show (-1 : Int) ≤ s5 by omega) (show s5 ≤ (99 : Int) by omega)) (all_cons (ivO (y := s6) rfl (show (-1 : Int) ≤ s6 by omega) (show s6 ≤ (99 : Int) by omega)) (all_cons (ivO (y := s7) rfl (show (0 : Int) ≤ s7 by omega) (show s7 ≤ (940 : Int) by omega)) (all_cons (ivO (y := s8) rfl (show (0 : Int) ≤ s8 by omega) (show s8 ≤ (940 : Int) by omega)) (all_cons (ivO (y := s9) rfl (show (0 : Int) ≤ s9 by omega) (show s9 ≤ (3 : Int) by omega)) (all_cons (ivO (y := s10) rfl (show (0 : Int) ≤ s10 by omega) (show s10 ≤ (940 : Int) by omega)) (all_cons (ivO (y := s11) rfl (show (0 : Int) ≤ s11 by omega) (show s11 ≤ (940 : Int) by omega)) (all_cons (ivO (y := s12) rfl (show (-1 : Int) ≤ s12 by omega) (show s12 ≤ (99 : Int) by omega)) (all_nil))))))))))) (all_nil) (all_nil)
theorem rl90 : ruOk fFS gR90 := by
  intro r hp hO hN hH
  obtain ⟨s0, s1, s2, s3, s4, s5, s6, s7, s8, s9, s10, s11, s12, rfl⟩ := len13 (show r.length = 13 from hN.1)
  have hR := hN.2.1.1
  have hIv : ∀ q ∈ ([(0, .negSucc 2147483647, .ofNat 2147483647), (1, .negSucc 2147483647, .ofNat 2147483647), (2, .negSucc 2147483647, .ofNat 2147483647), (3, .negSucc 2147483647, .ofNat 2147483647), (4, .negSucc 2147483647, .ofNat 2147483647), (5, .negSucc 2147483647, .ofNat 2147483647), (6, .negSucc 2147483647, .ofNat 2147483647), (7, .negSucc 2147483647, .ofNat 2147483647), (8, .negSucc 2147483647, .ofNat 2147483647), (9, .ofNat 1, .ofNat 3), (10, .negSucc 2147483647, .ofNat 2147483647), (11, .negSucc 2147483647, .ofNat 2147483647), (12, .negSucc 2147483647, .ofNat 2147483647)] : sIv), ∃ x, ([s0, s1, s2, s3, s4, s5, s6, s7, s8, s9, s10, s11, s12] : List Int)[q.1]? = some x ∧ q.2.1 ≤ x ∧ x ≤ q.2.2 := hN.2.1.2
  have b9 : (1 : Int) ≤ s9 ∧ s9 ≤ (3 : Int) := ivX (q := (9, .ofNat 1, .ofNat 3)) (y := s9) (hIv _ (.tail _ (.tail _ (.tail _ (.tail _ (.tail _ (.tail _ (.tail _ (.tail _ (.tail _ (.head _))))))))))) rfl
  have hRf : ∀ q ∈ ([((40, .ofNat 173, []), (.ofNat 9, []), 1, .ofNat 0, [])] : List sRf), rfOk [s0, s1, s2, s3, s4, s5, s6, s7, s8, s9, s10, s11, s12] hp q := hH.1
  have h0 : hI hp 173 9 = 0 := rfI0 (hRf _ (.head _)) (sE_k _ _) (sE_k _ _) (sE_k _ _)
  have hFc : ∀ q ∈ ([(53, [(.ofNat 0, [(.ofNat 1, 0)]), (.ofNat 0, [(.ofNat 1, 1)]), (.ofNat 0, [(.ofNat 1, 2)]), (.ofNat 0, [(.ofNat 1, 3)]), (.ofNat 0, [(.ofNat 1, 4)]), (.ofNat 0, [(.ofNat 1, 5)]), (.ofNat 0, [(.ofNat 1, 6)]), (.ofNat 0, [(.ofNat 1, 7)]), (.ofNat 0, [(.ofNat 1, 8)]), (.ofNat 0, [(.ofNat 1, 9)]), (.ofNat 0, [(.ofNat 1, 10)]), (.ofNat 0, [(.ofNat 1, 11)]), (.ofNat 0, [(.ofNat 1, 12)])])] : List sFc), fcOk fFS [s0, s1, s2, s3, s4, s5, s6, s7, s8, s9, s10, s11, s12] hp q := hH.2
  have f0 : Hq (XT hp) s0 s1 s2 s3 s4 s5 s6 s7 s8 s9 s10 s11 s12 ∧ s9 ≠ 4 := fcX (ys := [s0, s1, s2, s3, s4, s5, s6, s7, s8, s9, s10, s11, s12]) (hFc _ (.head _)) ⟨sE_V rfl, sE_V rfl, sE_V rfl, sE_V rfl, sE_V rfl, sE_V rfl, sE_V rfl, sE_V rfl, sE_V rfl, sE_V rfl, sE_V rfl, sE_V rfl, sE_V rfl, trivial⟩
  have u := h_bd (XT_ok hO) f0.1
  have y : (((1 : Int) ≤ s9 ∧ s9 ≤ (1 : Int))) ∨ (((2 : Int) ≤ s9 ∧ s9 ≤ (2 : Int))) ∨ (((3 : Int) ≤ s9 ∧ s9 ≤ (3 : Int))) := by omega
  rcases y with y | y | y
  · exact poX (.head _) rfl hR (all_cons (ivO (y := s9) rfl (show (1 : Int) ≤ s9 by omega) (show s9 ≤ (1 : Int) by omega)) (all_nil)) (all_nil) (all_nil)
  · exact poX (.tail _ (.head _)) rfl hR (all_cons (ivO (y := s9) rfl (show (2 : Int) ≤ s9 by omega) (show s9 ≤ (2 : Int) by omega)) (all_nil)) (all_nil) (all_nil)
  · exact poX (.tail _ (.tail _ (.head _))) rfl hR (all_cons (ivO (y := s9) rfl (show (3 : Int) ≤ s9 by omega) (show s9 ≤ (3 : Int) by omega)) (all_nil)) (all_nil) (all_nil)
theorem rl91 : ruOk fFS gR91 := by
  intro r hp hO hN hH
  obtain ⟨s0, s1, s2, s3, s4, s5, s6, s7, s8, s9, s10, s11, s12, rfl⟩ := len13 (show r.length = 13 from hN.1)
  have hR := hN.2.1.1
  have hIv : ∀ q ∈ ([(0, .negSucc 2147483647, .ofNat 2147483647), (1, .ofNat 0, .ofNat 0), (2, .negSucc 2147483647, .ofNat 2147483647), (3, .negSucc 2147483647, .ofNat 2147483647), (4, .negSucc 2147483647, .ofNat 2147483647), (5, .negSucc 2147483647, .ofNat 2147483647), (6, .negSucc 2147483647, .ofNat 2147483647), (7, .negSucc 2147483647, .ofNat 2147483647), (8, .negSucc 2147483647, .ofNat 2147483647), (9, .ofNat 2, .ofNat 2), (10, .negSucc 2147483647, .ofNat 2147483647), (11, .negSucc 2147483647, .ofNat 2147483647), (12, .negSucc 2147483647, .ofNat 2147483647)] : sIv), ∃ x, ([s0, s1, s2, s3, s4, s5, s6, s7, s8, s9, s10, s11, s12] : List Int)[q.1]? = some x ∧ q.2.1 ≤ x ∧ x ≤ q.2.2 := hN.2.1.2
  have b1 : (0 : Int) ≤ s1 ∧ s1 ≤ (0 : Int) := ivX (q := (1, .ofNat 0, .ofNat 0)) (y := s1) (hIv _ (.tail _ (.head _))) rfl
  have b9 : (2 : Int) ≤ s9 ∧ s9 ≤ (2 : Int) := ivX (q := (9, .ofNat 2, .ofNat 2)) (y := s9) (hIv _ (.tail _ (.tail _ (.tail _ (.tail _ (.tail _ (.tail _ (.tail _ (.tail _ (.tail _ (.head _))))))))))) rfl
  have hRf : ∀ q ∈ ([((40, .ofNat 173, []), (.ofNat 9, []), 1, .ofNat 0, [])] : List sRf), rfOk [s0, s1, s2, s3, s4, s5, s6, s7, s8, s9, s10, s11, s12] hp q := hH.1
  have h0 : hI hp 173 9 = 0 := rfI0 (hRf _ (.head _)) (sE_k _ _) (sE_k _ _) (sE_k _ _)
  have hFc : ∀ q ∈ ([(53, [(.ofNat 0, [(.ofNat 1, 0)]), (.ofNat 0, [(.ofNat 1, 1)]), (.ofNat 0, [(.ofNat 1, 2)]), (.ofNat 0, [(.ofNat 1, 3)]), (.ofNat 0, [(.ofNat 1, 4)]), (.ofNat 0, [(.ofNat 1, 5)]), (.ofNat 0, [(.ofNat 1, 6)]), (.ofNat 0, [(.ofNat 1, 7)]), (.ofNat 0, [(.ofNat 1, 8)]), (.ofNat 0, [(.ofNat 1, 9)]), (.ofNat 0, [(.ofNat 1, 10)]), (.ofNat 0, [(.ofNat 1, 11)]), (.ofNat 0, [(.ofNat 1, 12)])])] : List sFc), fcOk fFS [s0, s1, s2, s3, s4, s5, s6, s7, s8, s9, s10, s11, s12] hp q := hH.2
  have f0 : Hq (XT hp) s0 s1 s2 s3 s4 s5 s6 s7 s8 s9 s10 s11 s12 ∧ s9 ≠ 4 := fcX (ys := [s0, s1, s2, s3, s4, s5, s6, s7, s8, s9, s10, s11, s12]) (hFc _ (.head _)) ⟨sE_V rfl, sE_V rfl, sE_V rfl, sE_V rfl, sE_V rfl, sE_V rfl, sE_V rfl, sE_V rfl, sE_V rfl, sE_V rfl, sE_V rfl, sE_V rfl, sE_V rfl, trivial⟩
  exact poX (.head _) rfl hR (all_nil) (all_nil) (all_cons ⟨[1, s10], ⟨sE_k _ _, sE_V rfl, trivial⟩, (show RS (XT hp) (1 : Int) s10 from h0_f1 (XT_ok hO) f0.1 (by omega) (by omega) (by omega))⟩ (all_nil))
theorem rl92 : ruOk fFS gR92 := by
  intro r hp hO hN hH
  obtain ⟨s0, s1, s2, s3, s4, s5, s6, s7, s8, s9, s10, s11, s12, rfl⟩ := len13 (show r.length = 13 from hN.1)
  have hR := hN.2.1.1
  have hIv : ∀ q ∈ ([(0, .negSucc 2147483647, .ofNat 2147483647), (1, .ofNat 0, .ofNat 0), (2, .negSucc 2147483647, .ofNat 2147483647), (3, .negSucc 2147483647, .ofNat 2147483647), (4, .negSucc 2147483647, .ofNat 2147483647), (5, .negSucc 2147483647, .ofNat 2147483647), (6, .negSucc 2147483647, .ofNat 2147483647), (7, .negSucc 2147483647, .ofNat 2147483647), (8, .negSucc 2147483647, .ofNat 2147483647), (9, .ofNat 3, .ofNat 3), (10, .negSucc 2147483647, .ofNat 2147483647), (11, .negSucc 2147483647, .ofNat 2147483647), (12, .negSucc 2147483647, .ofNat 2147483647)] : sIv), ∃ x, ([s0, s1, s2, s3, s4, s5, s6, s7, s8, s9, s10, s11, s12] : List Int)[q.1]? = some x ∧ q.2.1 ≤ x ∧ x ≤ q.2.2 := hN.2.1.2
  have b1 : (0 : Int) ≤ s1 ∧ s1 ≤ (0 : Int) := ivX (q := (1, .ofNat 0, .ofNat 0)) (y := s1) (hIv _ (.tail _ (.head _))) rfl
  have b9 : (3 : Int) ≤ s9 ∧ s9 ≤ (3 : Int) := ivX (q := (9, .ofNat 3, .ofNat 3)) (y := s9) (hIv _ (.tail _ (.tail _ (.tail _ (.tail _ (.tail _ (.tail _ (.tail _ (.tail _ (.tail _ (.head _))))))))))) rfl
  have hRf : ∀ q ∈ ([((40, .ofNat 173, []), (.ofNat 9, []), 1, .ofNat 0, [])] : List sRf), rfOk [s0, s1, s2, s3, s4, s5, s6, s7, s8, s9, s10, s11, s12] hp q := hH.1
  have h0 : hI hp 173 9 = 0 := rfI0 (hRf _ (.head _)) (sE_k _ _) (sE_k _ _) (sE_k _ _)
  have hFc : ∀ q ∈ ([(53, [(.ofNat 0, [(.ofNat 1, 0)]), (.ofNat 0, [(.ofNat 1, 1)]), (.ofNat 0, [(.ofNat 1, 2)]), (.ofNat 0, [(.ofNat 1, 3)]), (.ofNat 0, [(.ofNat 1, 4)]), (.ofNat 0, [(.ofNat 1, 5)]), (.ofNat 0, [(.ofNat 1, 6)]), (.ofNat 0, [(.ofNat 1, 7)]), (.ofNat 0, [(.ofNat 1, 8)]), (.ofNat 0, [(.ofNat 1, 9)]), (.ofNat 0, [(.ofNat 1, 10)]), (.ofNat 0, [(.ofNat 1, 11)]), (.ofNat 0, [(.ofNat 1, 12)])])] : List sFc), fcOk fFS [s0, s1, s2, s3, s4, s5, s6, s7, s8, s9, s10, s11, s12] hp q := hH.2
  have f0 : Hq (XT hp) s0 s1 s2 s3 s4 s5 s6 s7 s8 s9 s10 s11 s12 ∧ s9 ≠ 4 := fcX (ys := [s0, s1, s2, s3, s4, s5, s6, s7, s8, s9, s10, s11, s12]) (hFc _ (.head _)) ⟨sE_V rfl, sE_V rfl, sE_V rfl, sE_V rfl, sE_V rfl, sE_V rfl, sE_V rfl, sE_V rfl, sE_V rfl, sE_V rfl, sE_V rfl, sE_V rfl, sE_V rfl, trivial⟩
  exact poX (.head _) rfl hR (all_nil) (all_nil) (all_cons ⟨[1, s10], ⟨sE_k _ _, sE_V rfl, trivial⟩, (show RS (XT hp) (1 : Int) s10 from h0_f1 (XT_ok hO) f0.1 (by omega) (by omega) (by omega))⟩ (all_nil))
theorem rl93 : ruOk fFS gR93 := by
  intro r hp hO hN hH
  obtain ⟨s0, s1, s2, s3, s4, s5, s6, s7, s8, s9, s10, s11, s12, rfl⟩ := len13 (show r.length = 13 from hN.1)
  have hR := hN.2.1.1
  have hIv : ∀ q ∈ ([(0, .negSucc 2147483647, .ofNat 2147483647), (1, .negSucc 2147483647, .ofNat 2147483647), (2, .negSucc 2147483647, .ofNat 2147483647), (3, .negSucc 2147483647, .ofNat 2147483647), (4, .negSucc 2147483647, .ofNat 2147483647), (5, .negSucc 2147483647, .ofNat 2147483647), (6, .negSucc 2147483647, .ofNat 2147483647), (7, .negSucc 2147483647, .ofNat 2147483647), (8, .negSucc 2147483647, .ofNat 2147483647), (9, .ofNat 0, .ofNat 3), (10, .negSucc 2147483647, .ofNat 2147483647), (11, .negSucc 2147483647, .ofNat 2147483647), (12, .negSucc 2147483647, .ofNat 2147483647)] : sIv), ∃ x, ([s0, s1, s2, s3, s4, s5, s6, s7, s8, s9, s10, s11, s12] : List Int)[q.1]? = some x ∧ q.2.1 ≤ x ∧ x ≤ q.2.2 := hN.2.1.2
  have b9 : (0 : Int) ≤ s9 ∧ s9 ≤ (3 : Int) := ivX (q := (9, .ofNat 0, .ofNat 3)) (y := s9) (hIv _ (.tail _ (.tail _ (.tail _ (.tail _ (.tail _ (.tail _ (.tail _ (.tail _ (.tail _ (.head _))))))))))) rfl
  have hRf : ∀ q ∈ ([((40, .ofNat 173, []), (.ofNat 9, []), 1, .ofNat 0, [])] : List sRf), rfOk [s0, s1, s2, s3, s4, s5, s6, s7, s8, s9, s10, s11, s12] hp q := hH.1
  have h0 : hI hp 173 9 = 0 := rfI0 (hRf _ (.head _)) (sE_k _ _) (sE_k _ _) (sE_k _ _)
  have hFc : ∀ q ∈ ([(53, [(.ofNat 0, [(.ofNat 1, 0)]), (.ofNat 0, [(.ofNat 1, 1)]), (.ofNat 0, [(.ofNat 1, 2)]), (.ofNat 0, [(.ofNat 1, 3)]), (.ofNat 0, [(.ofNat 1, 4)]), (.ofNat 0, [(.ofNat 1, 5)]), (.ofNat 0, [(.ofNat 1, 6)]), (.ofNat 0, [(.ofNat 1, 7)]), (.ofNat 0, [(.ofNat 1, 8)]), (.ofNat 0, [(.ofNat 1, 9)]), (.ofNat 0, [(.ofNat 1, 10)]), (.ofNat 0, [(.ofNat 1, 11)]), (.ofNat 0, [(.ofNat 1, 12)])])] : List sFc), fcOk fFS [s0, s1, s2, s3, s4, s5, s6, s7, s8, s9, s10, s11, s12] hp q := hH.2
  have f0 : Hq (XT hp) s0 s1 s2 s3 s4 s5 s6 s7 s8 s9 s10 s11 s12 ∧ s9 ≠ 4 := fcX (ys := [s0, s1, s2, s3, s4, s5, s6, s7, s8, s9, s10, s11, s12]) (hFc _ (.head _)) ⟨sE_V rfl, sE_V rfl, sE_V rfl, sE_V rfl, sE_V rfl, sE_V rfl, sE_V rfl, sE_V rfl, sE_V rfl, sE_V rfl, sE_V rfl, sE_V rfl, sE_V rfl, trivial⟩
  have u := h_bd (XT_ok hO) f0.1
  have y : (((0 : Int) ≤ s9 ∧ s9 ≤ (0 : Int))) ∨ (((1 : Int) ≤ s9 ∧ s9 ≤ (1 : Int))) ∨ (((2 : Int) ≤ s9 ∧ s9 ≤ (2 : Int))) ∨ (((3 : Int) ≤ s9 ∧ s9 ≤ (3 : Int))) := by omega
  rcases y with y | y | y | y
  · exact poX (.head _) rfl hR (all_cons (ivO (y := s9) rfl (show (0 : Int) ≤ s9 by omega) (show s9 ≤ (0 : Int) by omega)) (all_nil)) (all_nil) (all_nil)
  · exact poX (.tail _ (.head _)) rfl hR (all_cons (ivO (y := s9) rfl (show (1 : Int) ≤ s9 by omega) (show s9 ≤ (1 : Int) by omega)) (all_nil)) (all_nil) (all_nil)
  · exact poX (.tail _ (.tail _ (.head _))) rfl hR (all_cons (ivO (y := s9) rfl (show (2 : Int) ≤ s9 by omega) (show s9 ≤ (2 : Int) by omega)) (all_nil)) (all_nil) (all_nil)
  · exact poX (.tail _ (.tail _ (.tail _ (.head _)))) rfl hR (all_cons (ivO (y := s9) rfl (show (3 : Int) ≤ s9 by omega) (show s9 ≤ (3 : Int) by omega)) (all_nil)) (all_nil) (all_nil)
theorem rl94 : ruOk fFS gR94 := by
  intro r hp hO hN hH
  obtain ⟨s0, s1, s2, s3, s4, s5, s6, rfl⟩ := len7 (show r.length = 7 from hN.1)
  have hR := hN.2.1.1
  have hIv : ∀ q ∈ ([(0, .negSucc 2147483647, .ofNat 2147483647), (1, .negSucc 2147483647, .ofNat 2147483647), (2, .negSucc 2147483647, .ofNat 2147483647), (3, .ofNat 0, .ofNat 3), (4, .negSucc 2147483647, .ofNat 2147483647), (5, .negSucc 2147483647, .ofNat 2147483647), (6, .negSucc 2147483647, .ofNat 2147483647)] : sIv), ∃ x, ([s0, s1, s2, s3, s4, s5, s6] : List Int)[q.1]? = some x ∧ q.2.1 ≤ x ∧ x ≤ q.2.2 := hN.2.1.2
  have b3 : (0 : Int) ≤ s3 ∧ s3 ≤ (3 : Int) := ivX (q := (3, .ofNat 0, .ofNat 3)) (y := s3) (hIv _ (.tail _ (.tail _ (.tail _ (.head _))))) rfl
  have hRf : ∀ q ∈ ([((40, .ofNat 173, []), (.ofNat 9, []), 1, .ofNat 0, [])] : List sRf), rfOk [s0, s1, s2, s3, s4, s5, s6] hp q := hH.1
  have h0 : hI hp 173 9 = 0 := rfI0 (hRf _ (.head _)) (sE_k _ _) (sE_k _ _) (sE_k _ _)
  have hFc : ∀ q ∈ ([(241, [(.ofNat 0, [(.ofNat 1, 0)]), (.ofNat 0, [(.ofNat 1, 1)]), (.ofNat 0, [(.ofNat 1, 2)]), (.ofNat 0, [(.ofNat 1, 3)]), (.ofNat 0, [(.ofNat 1, 4)]), (.ofNat 0, [(.ofNat 1, 5)]), (.ofNat 0, [(.ofNat 1, 6)])])] : List sFc), fcOk fFS [s0, s1, s2, s3, s4, s5, s6] hp q := hH.2
  have f0 : roH (XT hp) (nmR hp (xnm hp)) (hI hp (hC hp 0 6) 0) (hI hp (hC hp 0 6) 1) s0 s1 s2 s3 s4 s5 s6 ∧ s3 ≠ 4 := fcX (ys := [s0, s1, s2, s3, s4, s5, s6]) (hFc _ (.head _)) ⟨sE_V rfl, sE_V rfl, sE_V rfl, sE_V rfl, sE_V rfl, sE_V rfl, sE_V rfl, trivial⟩
  have u := roH_bd (XT_ok hO) f0.1
  have y : (((0 : Int) ≤ s3 ∧ s3 ≤ (0 : Int))) ∨ (((1 : Int) ≤ s3 ∧ s3 ≤ (1 : Int))) ∨ (((2 : Int) ≤ s3 ∧ s3 ≤ (2 : Int))) ∨ (((3 : Int) ≤ s3 ∧ s3 ≤ (3 : Int))) := by omega
  rcases y with y | y | y | y
  · exact poX (.head _) rfl hR (all_cons (ivO (y := s3) rfl (show (0 : Int) ≤ s3 by omega) (show s3 ≤ (0 : Int) by omega)) (all_nil)) (all_nil) (all_nil)
  · exact poX (.tail _ (.head _)) rfl hR (all_cons (ivO (y := s3) rfl (show (1 : Int) ≤ s3 by omega) (show s3 ≤ (1 : Int) by omega)) (all_nil)) (all_nil) (all_nil)
  · exact poX (.tail _ (.tail _ (.head _))) rfl hR (all_cons (ivO (y := s3) rfl (show (2 : Int) ≤ s3 by omega) (show s3 ≤ (2 : Int) by omega)) (all_nil)) (all_nil) (all_nil)
  · exact poX (.tail _ (.tail _ (.tail _ (.head _)))) rfl hR (all_cons (ivO (y := s3) rfl (show (3 : Int) ≤ s3 by omega) (show s3 ≤ (3 : Int) by omega)) (all_nil)) (all_nil) (all_nil)
theorem rl95 : ruOk fFS gR95 := by
  intro r hp hO hN hH
  obtain ⟨s0, s1, rfl⟩ := len2 (show r.length = 2 from hN.1)
  have hR := hN.2.1.1
  have hIv : ∀ q ∈ ([(0, .negSucc 2147483647, .ofNat 2147483647), (1, .negSucc 2147483647, .ofNat 2147483647)] : sIv), ∃ x, ([s0, s1] : List Int)[q.1]? = some x ∧ q.2.1 ≤ x ∧ x ≤ q.2.2 := hN.2.1.2
  have hRf : ∀ q ∈ ([((40, .ofNat 173, []), (.ofNat 7, []), 1, .ofNat 0, [(.ofNat 1, 1)])] : List sRf), rfOk [s0, s1] hp q := hH.1
  have h0 : hI hp 173 7 = s1 := rfI0 (hRf _ (.head _)) (sE_k _ _) (sE_k _ _) (sE_V rfl)
  have y0 : (-1 : Int) ≤ s1 ∧ s1 ≤ (99 : Int) := by rw [← h0]; exact hI_ty hO (by decide) rfl
  have y : (((1 : Int) + ((-1 : Int) * s0 + ((1 : Int) * s1 + 0))) ≤ 0) ∨ (((0 : Int) + ((-1 : Int) * s0 + ((1 : Int) * s1 + 0))) ≤ 0 ∧ ((0 : Int) + ((1 : Int) * s0 + ((-1 : Int) * s1 + 0))) ≤ 0) ∨ (((1 : Int) + ((1 : Int) * s0 + ((-1 : Int) * s1 + 0))) ≤ 0) := by omega
  rcases y with y | y | y
  · exact poX (.head _) rfl hR (all_nil) (all_cons ⟨((1 : Int) + ((-1 : Int) * s0 + ((1 : Int) * s1 + 0))), rfl, (show ((1 : Int) + ((-1 : Int) * s0 + ((1 : Int) * s1 + 0))) ≤ 0 by omega)⟩ (all_nil)) (all_nil)
  · exact poX (.tail _ (.head _)) rfl hR (all_nil) (all_cons ⟨((0 : Int) + ((-1 : Int) * s0 + ((1 : Int) * s1 + 0))), rfl, (show ((0 : Int) + ((-1 : Int) * s0 + ((1 : Int) * s1 + 0))) ≤ 0 by omega)⟩ (all_cons ⟨((0 : Int) + ((1 : Int) * s0 + ((-1 : Int) * s1 + 0))), rfl, (show ((0 : Int) + ((1 : Int) * s0 + ((-1 : Int) * s1 + 0))) ≤ 0 by omega)⟩ (all_nil))) (all_nil)
  · exact poX (.tail _ (.tail _ (.head _))) rfl hR (all_nil) (all_cons ⟨((1 : Int) + ((1 : Int) * s0 + ((-1 : Int) * s1 + 0))), rfl, (show ((1 : Int) + ((1 : Int) * s0 + ((-1 : Int) * s1 + 0))) ≤ 0 by omega)⟩ (all_nil)) (all_nil)
theorem rl96 : ruOk fFS gR96 := by
  intro r hp hO hN hH
  obtain ⟨s0, s1, s2, s3, s4, s5, s6, s7, s8, s9, s10, s11, s12, rfl⟩ := len13 (show r.length = 13 from hN.1)
  have hR := hN.2.1.1
  have hIv : ∀ q ∈ ([(0, .negSucc 2147483647, .ofNat 2147483647), (1, .ofNat 26, .ofNat 26), (2, .negSucc 2147483647, .ofNat 2147483647), (3, .negSucc 2147483647, .ofNat 2147483647), (4, .negSucc 2147483647, .ofNat 2147483647), (5, .negSucc 2147483647, .ofNat 2147483647), (6, .negSucc 2147483647, .ofNat 2147483647), (7, .negSucc 2147483647, .ofNat 2147483647), (8, .negSucc 2147483647, .ofNat 2147483647), (9, .ofNat 0, .ofNat 0), (10, .negSucc 2147483647, .ofNat 2147483647), (11, .negSucc 2147483647, .ofNat 2147483647), (12, .negSucc 2147483647, .ofNat 2147483647)] : sIv), ∃ x, ([s0, s1, s2, s3, s4, s5, s6, s7, s8, s9, s10, s11, s12] : List Int)[q.1]? = some x ∧ q.2.1 ≤ x ∧ x ≤ q.2.2 := hN.2.1.2
  have b1 : (26 : Int) ≤ s1 ∧ s1 ≤ (26 : Int) := ivX (q := (1, .ofNat 26, .ofNat 26)) (y := s1) (hIv _ (.tail _ (.head _))) rfl
  have b9 : (0 : Int) ≤ s9 ∧ s9 ≤ (0 : Int) := ivX (q := (9, .ofNat 0, .ofNat 0)) (y := s9) (hIv _ (.tail _ (.tail _ (.tail _ (.tail _ (.tail _ (.tail _ (.tail _ (.tail _ (.tail _ (.head _))))))))))) rfl
  have hRf : ∀ q ∈ ([((40, .ofNat 173, []), (.ofNat 9, []), 1, .ofNat 0, [])] : List sRf), rfOk [s0, s1, s2, s3, s4, s5, s6, s7, s8, s9, s10, s11, s12] hp q := hH.1
  have h0 : hI hp 173 9 = 0 := rfI0 (hRf _ (.head _)) (sE_k _ _) (sE_k _ _) (sE_k _ _)
  have hFc : ∀ q ∈ ([(53, [(.ofNat 0, [(.ofNat 1, 0)]), (.ofNat 0, [(.ofNat 1, 1)]), (.ofNat 0, [(.ofNat 1, 2)]), (.ofNat 0, [(.ofNat 1, 3)]), (.ofNat 0, [(.ofNat 1, 4)]), (.ofNat 0, [(.ofNat 1, 5)]), (.ofNat 0, [(.ofNat 1, 6)]), (.ofNat 0, [(.ofNat 1, 7)]), (.ofNat 0, [(.ofNat 1, 8)]), (.ofNat 0, [(.ofNat 1, 9)]), (.ofNat 0, [(.ofNat 1, 10)]), (.ofNat 0, [(.ofNat 1, 11)]), (.ofNat 0, [(.ofNat 1, 12)])])] : List sFc), fcOk fFS [s0, s1, s2, s3, s4, s5, s6, s7, s8, s9, s10, s11, s12] hp q := hH.2
  have f0 : Hq (XT hp) s0 s1 s2 s3 s4 s5 s6 s7 s8 s9 s10 s11 s12 ∧ s9 ≠ 4 := fcX (ys := [s0, s1, s2, s3, s4, s5, s6, s7, s8, s9, s10, s11, s12]) (hFc _ (.head _)) ⟨sE_V rfl, sE_V rfl, sE_V rfl, sE_V rfl, sE_V rfl, sE_V rfl, sE_V rfl, sE_V rfl, sE_V rfl, sE_V rfl, sE_V rfl, sE_V rfl, sE_V rfl, trivial⟩
  exact poX (.head _) rfl hR (all_nil) (all_nil) (all_cons ⟨[1, s10], ⟨sE_k _ _, sE_V rfl, trivial⟩, (show RS (XT hp) (1 : Int) s10 from h26_f1 (XT_ok hO) f0.1 (by omega) (by omega))⟩ (all_nil))
theorem rl97 : ruOk fFS gR97 := by
  intro r hp hO hN hH
  obtain ⟨s0, s1, s2, s3, s4, s5, s6, s7, s8, s9, s10, s11, s12, rfl⟩ := len13 (show r.length = 13 from hN.1)
  have hR := hN.2.1.1
  have hIv : ∀ q ∈ ([(0, .negSucc 2147483647, .ofNat 2147483647), (1, .ofNat 26, .ofNat 26), (2, .negSucc 2147483647, .ofNat 2147483647), (3, .negSucc 2147483647, .ofNat 2147483647), (4, .negSucc 2147483647, .ofNat 2147483647), (5, .negSucc 2147483647, .ofNat 2147483647), (6, .negSucc 2147483647, .ofNat 2147483647), (7, .negSucc 2147483647, .ofNat 2147483647), (8, .negSucc 2147483647, .ofNat 2147483647), (9, .ofNat 1, .ofNat 1), (10, .negSucc 2147483647, .ofNat 2147483647), (11, .negSucc 2147483647, .ofNat 2147483647), (12, .negSucc 2147483647, .ofNat 2147483647)] : sIv), ∃ x, ([s0, s1, s2, s3, s4, s5, s6, s7, s8, s9, s10, s11, s12] : List Int)[q.1]? = some x ∧ q.2.1 ≤ x ∧ x ≤ q.2.2 := hN.2.1.2
  have b1 : (26 : Int) ≤ s1 ∧ s1 ≤ (26 : Int) := ivX (q := (1, .ofNat 26, .ofNat 26)) (y := s1) (hIv _ (.tail _ (.head _))) rfl
  have b9 : (1 : Int) ≤ s9 ∧ s9 ≤ (1 : Int) := ivX (q := (9, .ofNat 1, .ofNat 1)) (y := s9) (hIv _ (.tail _ (.tail _ (.tail _ (.tail _ (.tail _ (.tail _ (.tail _ (.tail _ (.tail _ (.head _))))))))))) rfl
  have hRf : ∀ q ∈ ([((40, .ofNat 173, []), (.ofNat 9, []), 1, .ofNat 0, [])] : List sRf), rfOk [s0, s1, s2, s3, s4, s5, s6, s7, s8, s9, s10, s11, s12] hp q := hH.1
  have h0 : hI hp 173 9 = 0 := rfI0 (hRf _ (.head _)) (sE_k _ _) (sE_k _ _) (sE_k _ _)
  have hFc : ∀ q ∈ ([(53, [(.ofNat 0, [(.ofNat 1, 0)]), (.ofNat 0, [(.ofNat 1, 1)]), (.ofNat 0, [(.ofNat 1, 2)]), (.ofNat 0, [(.ofNat 1, 3)]), (.ofNat 0, [(.ofNat 1, 4)]), (.ofNat 0, [(.ofNat 1, 5)]), (.ofNat 0, [(.ofNat 1, 6)]), (.ofNat 0, [(.ofNat 1, 7)]), (.ofNat 0, [(.ofNat 1, 8)]), (.ofNat 0, [(.ofNat 1, 9)]), (.ofNat 0, [(.ofNat 1, 10)]), (.ofNat 0, [(.ofNat 1, 11)]), (.ofNat 0, [(.ofNat 1, 12)])])] : List sFc), fcOk fFS [s0, s1, s2, s3, s4, s5, s6, s7, s8, s9, s10, s11, s12] hp q := hH.2
  have f0 : Hq (XT hp) s0 s1 s2 s3 s4 s5 s6 s7 s8 s9 s10 s11 s12 ∧ s9 ≠ 4 := fcX (ys := [s0, s1, s2, s3, s4, s5, s6, s7, s8, s9, s10, s11, s12]) (hFc _ (.head _)) ⟨sE_V rfl, sE_V rfl, sE_V rfl, sE_V rfl, sE_V rfl, sE_V rfl, sE_V rfl, sE_V rfl, sE_V rfl, sE_V rfl, sE_V rfl, sE_V rfl, sE_V rfl, trivial⟩
  exact poX (.head _) rfl hR (all_nil) (all_nil) (all_cons ⟨[1, s10], ⟨sE_k _ _, sE_V rfl, trivial⟩, (show RS (XT hp) (1 : Int) s10 from h26_f1 (XT_ok hO) f0.1 (by omega) (by omega))⟩ (all_nil))
theorem rl98 : ruOk fFS gR98 := by
  intro r hp hO hN hH
  obtain ⟨s0, s1, s2, s3, s4, s5, s6, s7, s8, s9, s10, s11, s12, rfl⟩ := len13 (show r.length = 13 from hN.1)
  have hR := hN.2.1.1
  have hIv : ∀ q ∈ ([(0, .negSucc 2147483647, .ofNat 2147483647), (1, .ofNat 26, .ofNat 26), (2, .negSucc 2147483647, .ofNat 2147483647), (3, .negSucc 2147483647, .ofNat 2147483647), (4, .negSucc 2147483647, .ofNat 2147483647), (5, .negSucc 2147483647, .ofNat 2147483647), (6, .negSucc 2147483647, .ofNat 2147483647), (7, .negSucc 2147483647, .ofNat 2147483647), (8, .negSucc 2147483647, .ofNat 2147483647), (9, .ofNat 2, .ofNat 2), (10, .negSucc 2147483647, .ofNat 2147483647), (11, .negSucc 2147483647, .ofNat 2147483647), (12, .negSucc 2147483647, .ofNat 2147483647)] : sIv), ∃ x, ([s0, s1, s2, s3, s4, s5, s6, s7, s8, s9, s10, s11, s12] : List Int)[q.1]? = some x ∧ q.2.1 ≤ x ∧ x ≤ q.2.2 := hN.2.1.2
  have b1 : (26 : Int) ≤ s1 ∧ s1 ≤ (26 : Int) := ivX (q := (1, .ofNat 26, .ofNat 26)) (y := s1) (hIv _ (.tail _ (.head _))) rfl
  have b9 : (2 : Int) ≤ s9 ∧ s9 ≤ (2 : Int) := ivX (q := (9, .ofNat 2, .ofNat 2)) (y := s9) (hIv _ (.tail _ (.tail _ (.tail _ (.tail _ (.tail _ (.tail _ (.tail _ (.tail _ (.tail _ (.head _))))))))))) rfl
  have hRf : ∀ q ∈ ([((40, .ofNat 173, []), (.ofNat 9, []), 1, .ofNat 0, [])] : List sRf), rfOk [s0, s1, s2, s3, s4, s5, s6, s7, s8, s9, s10, s11, s12] hp q := hH.1
  have h0 : hI hp 173 9 = 0 := rfI0 (hRf _ (.head _)) (sE_k _ _) (sE_k _ _) (sE_k _ _)
  have hFc : ∀ q ∈ ([(53, [(.ofNat 0, [(.ofNat 1, 0)]), (.ofNat 0, [(.ofNat 1, 1)]), (.ofNat 0, [(.ofNat 1, 2)]), (.ofNat 0, [(.ofNat 1, 3)]), (.ofNat 0, [(.ofNat 1, 4)]), (.ofNat 0, [(.ofNat 1, 5)]), (.ofNat 0, [(.ofNat 1, 6)]), (.ofNat 0, [(.ofNat 1, 7)]), (.ofNat 0, [(.ofNat 1, 8)]), (.ofNat 0, [(.ofNat 1, 9)]), (.ofNat 0, [(.ofNat 1, 10)]), (.ofNat 0, [(.ofNat 1, 11)]), (.ofNat 0, [(.ofNat 1, 12)])])] : List sFc), fcOk fFS [s0, s1, s2, s3, s4, s5, s6, s7, s8, s9, s10, s11, s12] hp q := hH.2
  have f0 : Hq (XT hp) s0 s1 s2 s3 s4 s5 s6 s7 s8 s9 s10 s11 s12 ∧ s9 ≠ 4 := fcX (ys := [s0, s1, s2, s3, s4, s5, s6, s7, s8, s9, s10, s11, s12]) (hFc _ (.head _)) ⟨sE_V rfl, sE_V rfl, sE_V rfl, sE_V rfl, sE_V rfl, sE_V rfl, sE_V rfl, sE_V rfl, sE_V rfl, sE_V rfl, sE_V rfl, sE_V rfl, sE_V rfl, trivial⟩
  exact poX (.head _) rfl hR (all_nil) (all_nil) (all_cons ⟨[1, s10], ⟨sE_k _ _, sE_V rfl, trivial⟩, (show RS (XT hp) (1 : Int) s10 from h26_f1 (XT_ok hO) f0.1 (by omega) (by omega))⟩ (all_nil))
theorem rl99 : ruOk fFS gR99 := by
  intro r hp hO hN hH
  obtain ⟨s0, s1, s2, s3, s4, s5, s6, s7, s8, s9, s10, s11, s12, rfl⟩ := len13 (show r.length = 13 from hN.1)
  have hR := hN.2.1.1
  have hIv : ∀ q ∈ ([(0, .negSucc 2147483647, .ofNat 2147483647), (1, .ofNat 26, .ofNat 26), (2, .negSucc 2147483647, .ofNat 2147483647), (3, .negSucc 2147483647, .ofNat 2147483647), (4, .negSucc 2147483647, .ofNat 2147483647), (5, .negSucc 2147483647, .ofNat 2147483647), (6, .negSucc 2147483647, .ofNat 2147483647), (7, .negSucc 2147483647, .ofNat 2147483647), (8, .negSucc 2147483647, .ofNat 2147483647), (9, .ofNat 3, .ofNat 3), (10, .negSucc 2147483647, .ofNat 2147483647), (11, .negSucc 2147483647, .ofNat 2147483647), (12, .negSucc 2147483647, .ofNat 58)] : sIv), ∃ x, ([s0, s1, s2, s3, s4, s5, s6, s7, s8, s9, s10, s11, s12] : List Int)[q.1]? = some x ∧ q.2.1 ≤ x ∧ x ≤ q.2.2 := hN.2.1.2
  have b1 : (26 : Int) ≤ s1 ∧ s1 ≤ (26 : Int) := ivX (q := (1, .ofNat 26, .ofNat 26)) (y := s1) (hIv _ (.tail _ (.head _))) rfl
  have b9 : (3 : Int) ≤ s9 ∧ s9 ≤ (3 : Int) := ivX (q := (9, .ofNat 3, .ofNat 3)) (y := s9) (hIv _ (.tail _ (.tail _ (.tail _ (.tail _ (.tail _ (.tail _ (.tail _ (.tail _ (.tail _ (.head _))))))))))) rfl
  have b12 : (-2147483648 : Int) ≤ s12 ∧ s12 ≤ (58 : Int) := ivX (q := (12, .negSucc 2147483647, .ofNat 58)) (y := s12) (hIv _ (.tail _ (.tail _ (.tail _ (.tail _ (.tail _ (.tail _ (.tail _ (.tail _ (.tail _ (.tail _ (.tail _ (.tail _ (.head _)))))))))))))) rfl
  have hRf : ∀ q ∈ ([((40, .ofNat 173, []), (.ofNat 9, []), 1, .ofNat 0, [])] : List sRf), rfOk [s0, s1, s2, s3, s4, s5, s6, s7, s8, s9, s10, s11, s12] hp q := hH.1
  have h0 : hI hp 173 9 = 0 := rfI0 (hRf _ (.head _)) (sE_k _ _) (sE_k _ _) (sE_k _ _)
  have hFc : ∀ q ∈ ([(53, [(.ofNat 0, [(.ofNat 1, 0)]), (.ofNat 0, [(.ofNat 1, 1)]), (.ofNat 0, [(.ofNat 1, 2)]), (.ofNat 0, [(.ofNat 1, 3)]), (.ofNat 0, [(.ofNat 1, 4)]), (.ofNat 0, [(.ofNat 1, 5)]), (.ofNat 0, [(.ofNat 1, 6)]), (.ofNat 0, [(.ofNat 1, 7)]), (.ofNat 0, [(.ofNat 1, 8)]), (.ofNat 0, [(.ofNat 1, 9)]), (.ofNat 0, [(.ofNat 1, 10)]), (.ofNat 0, [(.ofNat 1, 11)]), (.ofNat 0, [(.ofNat 1, 12)])])] : List sFc), fcOk fFS [s0, s1, s2, s3, s4, s5, s6, s7, s8, s9, s10, s11, s12] hp q := hH.2
  have f0 : Hq (XT hp) s0 s1 s2 s3 s4 s5 s6 s7 s8 s9 s10 s11 s12 ∧ s9 ≠ 4 := fcX (ys := [s0, s1, s2, s3, s4, s5, s6, s7, s8, s9, s10, s11, s12]) (hFc _ (.head _)) ⟨sE_V rfl, sE_V rfl, sE_V rfl, sE_V rfl, sE_V rfl, sE_V rfl, sE_V rfl, sE_V rfl, sE_V rfl, sE_V rfl, sE_V rfl, sE_V rfl, sE_V rfl, trivial⟩
  exact poX (.head _) rfl hR (all_nil) (all_nil) (all_cons ⟨[1, s10], ⟨sE_k _ _, sE_V rfl, trivial⟩, (show RS (XT hp) (1 : Int) s10 from h26_f1 (XT_ok hO) f0.1 (by omega) (by omega))⟩ (all_nil))
theorem rl100 : ruOk fFS gR100 := by
  intro r hp hO hN hH
  obtain ⟨s0, s1, s2, s3, s4, s5, s6, s7, s8, s9, s10, s11, s12, rfl⟩ := len13 (show r.length = 13 from hN.1)
  have hR := hN.2.1.1
  have hIv : ∀ q ∈ ([(0, .negSucc 2147483647, .ofNat 2147483647), (1, .ofNat 26, .ofNat 26), (2, .negSucc 2147483647, .ofNat 2147483647), (3, .negSucc 2147483647, .ofNat 2147483647), (4, .negSucc 2147483647, .ofNat 2147483647), (5, .negSucc 2147483647, .ofNat 2147483647), (6, .negSucc 2147483647, .ofNat 2147483647), (7, .negSucc 2147483647, .ofNat 2147483647), (8, .negSucc 2147483647, .ofNat 2147483647), (9, .ofNat 3, .ofNat 3), (10, .negSucc 2147483647, .ofNat 2147483647), (11, .negSucc 2147483647, .ofNat 2147483647), (12, .ofNat 60, .ofNat 2147483647)] : sIv), ∃ x, ([s0, s1, s2, s3, s4, s5, s6, s7, s8, s9, s10, s11, s12] : List Int)[q.1]? = some x ∧ q.2.1 ≤ x ∧ x ≤ q.2.2 := hN.2.1.2
  have b1 : (26 : Int) ≤ s1 ∧ s1 ≤ (26 : Int) := ivX (q := (1, .ofNat 26, .ofNat 26)) (y := s1) (hIv _ (.tail _ (.head _))) rfl
  have b9 : (3 : Int) ≤ s9 ∧ s9 ≤ (3 : Int) := ivX (q := (9, .ofNat 3, .ofNat 3)) (y := s9) (hIv _ (.tail _ (.tail _ (.tail _ (.tail _ (.tail _ (.tail _ (.tail _ (.tail _ (.tail _ (.head _))))))))))) rfl
  have b12 : (60 : Int) ≤ s12 ∧ s12 ≤ (2147483647 : Int) := ivX (q := (12, .ofNat 60, .ofNat 2147483647)) (y := s12) (hIv _ (.tail _ (.tail _ (.tail _ (.tail _ (.tail _ (.tail _ (.tail _ (.tail _ (.tail _ (.tail _ (.tail _ (.tail _ (.head _)))))))))))))) rfl
  have hRf : ∀ q ∈ ([((40, .ofNat 173, []), (.ofNat 9, []), 1, .ofNat 0, [])] : List sRf), rfOk [s0, s1, s2, s3, s4, s5, s6, s7, s8, s9, s10, s11, s12] hp q := hH.1
  have h0 : hI hp 173 9 = 0 := rfI0 (hRf _ (.head _)) (sE_k _ _) (sE_k _ _) (sE_k _ _)
  have hFc : ∀ q ∈ ([(53, [(.ofNat 0, [(.ofNat 1, 0)]), (.ofNat 0, [(.ofNat 1, 1)]), (.ofNat 0, [(.ofNat 1, 2)]), (.ofNat 0, [(.ofNat 1, 3)]), (.ofNat 0, [(.ofNat 1, 4)]), (.ofNat 0, [(.ofNat 1, 5)]), (.ofNat 0, [(.ofNat 1, 6)]), (.ofNat 0, [(.ofNat 1, 7)]), (.ofNat 0, [(.ofNat 1, 8)]), (.ofNat 0, [(.ofNat 1, 9)]), (.ofNat 0, [(.ofNat 1, 10)]), (.ofNat 0, [(.ofNat 1, 11)]), (.ofNat 0, [(.ofNat 1, 12)])])] : List sFc), fcOk fFS [s0, s1, s2, s3, s4, s5, s6, s7, s8, s9, s10, s11, s12] hp q := hH.2
  have f0 : Hq (XT hp) s0 s1 s2 s3 s4 s5 s6 s7 s8 s9 s10 s11 s12 ∧ s9 ≠ 4 := fcX (ys := [s0, s1, s2, s3, s4, s5, s6, s7, s8, s9, s10, s11, s12]) (hFc _ (.head _)) ⟨sE_V rfl, sE_V rfl, sE_V rfl, sE_V rfl, sE_V rfl, sE_V rfl, sE_V rfl, sE_V rfl, sE_V rfl, sE_V rfl, sE_V rfl, sE_V rfl, sE_V rfl, trivial⟩
  exact poX (.head _) rfl hR (all_nil) (all_nil) (all_cons ⟨[1, s10], ⟨sE_k _ _, sE_V rfl, trivial⟩, (show RS (XT hp) (1 : Int) s10 from h26_f1 (XT_ok hO) f0.1 (by omega) (by omega))⟩ (all_nil))
theorem rl101 : ruOk fFS gR101 := by
  intro r hp hO hN hH
  obtain ⟨s0, s1, s2, s3, s4, s5, s6, rfl⟩ := len7 (show r.length = 7 from hN.1)
  have hR := hN.2.1.1
  have hIv : ∀ q ∈ ([(0, .negSucc 2147483647, .ofNat 2147483647), (1, .ofNat 7, .ofNat 7), (2, .negSucc 2147483647, .ofNat 2147483647), (3, .ofNat 0, .ofNat 0), (4, .negSucc 2147483647, .ofNat 2147483647), (5, .negSucc 2147483647, .ofNat 2147483647), (6, .negSucc 2147483647, .ofNat 2147483647)] : sIv), ∃ x, ([s0, s1, s2, s3, s4, s5, s6] : List Int)[q.1]? = some x ∧ q.2.1 ≤ x ∧ x ≤ q.2.2 := hN.2.1.2
  have b1 : (7 : Int) ≤ s1 ∧ s1 ≤ (7 : Int) := ivX (q := (1, .ofNat 7, .ofNat 7)) (y := s1) (hIv _ (.tail _ (.head _))) rfl
  have b3 : (0 : Int) ≤ s3 ∧ s3 ≤ (0 : Int) := ivX (q := (3, .ofNat 0, .ofNat 0)) (y := s3) (hIv _ (.tail _ (.tail _ (.tail _ (.head _))))) rfl
  have hRf : ∀ q ∈ ([((40, .ofNat 173, []), (.ofNat 9, []), 1, .ofNat 0, [])] : List sRf), rfOk [s0, s1, s2, s3, s4, s5, s6] hp q := hH.1
  have h0 : hI hp 173 9 = 0 := rfI0 (hRf _ (.head _)) (sE_k _ _) (sE_k _ _) (sE_k _ _)
  have hFc : ∀ q ∈ ([(241, [(.ofNat 0, [(.ofNat 1, 0)]), (.ofNat 0, [(.ofNat 1, 1)]), (.ofNat 0, [(.ofNat 1, 2)]), (.ofNat 0, [(.ofNat 1, 3)]), (.ofNat 0, [(.ofNat 1, 4)]), (.ofNat 0, [(.ofNat 1, 5)]), (.ofNat 0, [(.ofNat 1, 6)])])] : List sFc), fcOk fFS [s0, s1, s2, s3, s4, s5, s6] hp q := hH.2
  have f0 : roH (XT hp) (nmR hp (xnm hp)) (hI hp (hC hp 0 6) 0) (hI hp (hC hp 0 6) 1) s0 s1 s2 s3 s4 s5 s6 ∧ s3 ≠ 4 := fcX (ys := [s0, s1, s2, s3, s4, s5, s6]) (hFc _ (.head _)) ⟨sE_V rfl, sE_V rfl, sE_V rfl, sE_V rfl, sE_V rfl, sE_V rfl, sE_V rfl, trivial⟩
  exact poX (.head _) rfl hR (all_nil) (all_nil) (all_cons ⟨[1, s4], ⟨sE_k _ _, sE_V rfl, trivial⟩, (show roS (XT hp) (nmR hp (xnm hp)) (hI hp (hC hp 0 6) 0) (hI hp (hC hp 0 6) 1) (1 : Int) s4 from ro7_f1 f0.1 (by omega) (by omega))⟩ (all_nil))
theorem rl102 : ruOk fFS gR102 := by
  intro r hp hO hN hH
  obtain ⟨s0, s1, s2, s3, s4, s5, s6, rfl⟩ := len7 (show r.length = 7 from hN.1)
  have hR := hN.2.1.1
  have hIv : ∀ q ∈ ([(0, .negSucc 2147483647, .ofNat 2147483647), (1, .ofNat 7, .ofNat 7), (2, .negSucc 2147483647, .ofNat 2147483647), (3, .ofNat 1, .ofNat 1), (4, .negSucc 2147483647, .ofNat 2147483647), (5, .negSucc 2147483647, .ofNat 2147483647), (6, .negSucc 2147483647, .ofNat 2147483647)] : sIv), ∃ x, ([s0, s1, s2, s3, s4, s5, s6] : List Int)[q.1]? = some x ∧ q.2.1 ≤ x ∧ x ≤ q.2.2 := hN.2.1.2
  have b1 : (7 : Int) ≤ s1 ∧ s1 ≤ (7 : Int) := ivX (q := (1, .ofNat 7, .ofNat 7)) (y := s1) (hIv _ (.tail _ (.head _))) rfl
  have b3 : (1 : Int) ≤ s3 ∧ s3 ≤ (1 : Int) := ivX (q := (3, .ofNat 1, .ofNat 1)) (y := s3) (hIv _ (.tail _ (.tail _ (.tail _ (.head _))))) rfl
  have hRf : ∀ q ∈ ([((40, .ofNat 173, []), (.ofNat 9, []), 1, .ofNat 0, [])] : List sRf), rfOk [s0, s1, s2, s3, s4, s5, s6] hp q := hH.1
  have h0 : hI hp 173 9 = 0 := rfI0 (hRf _ (.head _)) (sE_k _ _) (sE_k _ _) (sE_k _ _)
  have hFc : ∀ q ∈ ([(241, [(.ofNat 0, [(.ofNat 1, 0)]), (.ofNat 0, [(.ofNat 1, 1)]), (.ofNat 0, [(.ofNat 1, 2)]), (.ofNat 0, [(.ofNat 1, 3)]), (.ofNat 0, [(.ofNat 1, 4)]), (.ofNat 0, [(.ofNat 1, 5)]), (.ofNat 0, [(.ofNat 1, 6)])])] : List sFc), fcOk fFS [s0, s1, s2, s3, s4, s5, s6] hp q := hH.2
  have f0 : roH (XT hp) (nmR hp (xnm hp)) (hI hp (hC hp 0 6) 0) (hI hp (hC hp 0 6) 1) s0 s1 s2 s3 s4 s5 s6 ∧ s3 ≠ 4 := fcX (ys := [s0, s1, s2, s3, s4, s5, s6]) (hFc _ (.head _)) ⟨sE_V rfl, sE_V rfl, sE_V rfl, sE_V rfl, sE_V rfl, sE_V rfl, sE_V rfl, trivial⟩
  exact poX (.head _) rfl hR (all_nil) (all_nil) (all_cons ⟨[1, s4], ⟨sE_k _ _, sE_V rfl, trivial⟩, (show roS (XT hp) (nmR hp (xnm hp)) (hI hp (hC hp 0 6) 0) (hI hp (hC hp 0 6) 1) (1 : Int) s4 from ro7_f1 f0.1 (by omega) (by omega))⟩ (all_nil))
theorem rl103 : ruOk fFS gR103 := by
  intro r hp hO hN hH
  obtain ⟨s0, s1, s2, s3, s4, s5, s6, rfl⟩ := len7 (show r.length = 7 from hN.1)
  have hR := hN.2.1.1
  have hIv : ∀ q ∈ ([(0, .negSucc 2147483647, .ofNat 2147483647), (1, .ofNat 7, .ofNat 7), (2, .negSucc 2147483647, .ofNat 2147483647), (3, .ofNat 2, .ofNat 2), (4, .negSucc 2147483647, .ofNat 2147483647), (5, .negSucc 2147483647, .ofNat 2147483647), (6, .negSucc 2147483647, .ofNat 2147483647)] : sIv), ∃ x, ([s0, s1, s2, s3, s4, s5, s6] : List Int)[q.1]? = some x ∧ q.2.1 ≤ x ∧ x ≤ q.2.2 := hN.2.1.2
  have b1 : (7 : Int) ≤ s1 ∧ s1 ≤ (7 : Int) := ivX (q := (1, .ofNat 7, .ofNat 7)) (y := s1) (hIv _ (.tail _ (.head _))) rfl
  have b3 : (2 : Int) ≤ s3 ∧ s3 ≤ (2 : Int) := ivX (q := (3, .ofNat 2, .ofNat 2)) (y := s3) (hIv _ (.tail _ (.tail _ (.tail _ (.head _))))) rfl
  have hRf : ∀ q ∈ ([((40, .ofNat 173, []), (.ofNat 9, []), 1, .ofNat 0, [])] : List sRf), rfOk [s0, s1, s2, s3, s4, s5, s6] hp q := hH.1
  have h0 : hI hp 173 9 = 0 := rfI0 (hRf _ (.head _)) (sE_k _ _) (sE_k _ _) (sE_k _ _)
  have hFc : ∀ q ∈ ([(241, [(.ofNat 0, [(.ofNat 1, 0)]), (.ofNat 0, [(.ofNat 1, 1)]), (.ofNat 0, [(.ofNat 1, 2)]), (.ofNat 0, [(.ofNat 1, 3)]), (.ofNat 0, [(.ofNat 1, 4)]), (.ofNat 0, [(.ofNat 1, 5)]), (.ofNat 0, [(.ofNat 1, 6)])])] : List sFc), fcOk fFS [s0, s1, s2, s3, s4, s5, s6] hp q := hH.2
  have f0 : roH (XT hp) (nmR hp (xnm hp)) (hI hp (hC hp 0 6) 0) (hI hp (hC hp 0 6) 1) s0 s1 s2 s3 s4 s5 s6 ∧ s3 ≠ 4 := fcX (ys := [s0, s1, s2, s3, s4, s5, s6]) (hFc _ (.head _)) ⟨sE_V rfl, sE_V rfl, sE_V rfl, sE_V rfl, sE_V rfl, sE_V rfl, sE_V rfl, trivial⟩
  exact poX (.head _) rfl hR (all_nil) (all_nil) (all_cons ⟨[1, s4], ⟨sE_k _ _, sE_V rfl, trivial⟩, (show roS (XT hp) (nmR hp (xnm hp)) (hI hp (hC hp 0 6) 0) (hI hp (hC hp 0 6) 1) (1 : Int) s4 from ro7_f1 f0.1 (by omega) (by omega))⟩ (all_nil))
theorem rl104 : ruOk fFS gR104 := by
  intro r hp hO hN hH
  obtain ⟨s0, s1, s2, s3, s4, s5, s6, rfl⟩ := len7 (show r.length = 7 from hN.1)
  have hR := hN.2.1.1
  have hIv : ∀ q ∈ ([(0, .negSucc 2147483647, .ofNat 2147483647), (1, .ofNat 7, .ofNat 7), (2, .negSucc 2147483647, .ofNat 2147483647), (3, .ofNat 3, .ofNat 3), (4, .negSucc 2147483647, .ofNat 2147483647), (5, .negSucc 2147483647, .ofNat 2147483647), (6, .negSucc 2147483647, .ofNat 58)] : sIv), ∃ x, ([s0, s1, s2, s3, s4, s5, s6] : List Int)[q.1]? = some x ∧ q.2.1 ≤ x ∧ x ≤ q.2.2 := hN.2.1.2
  have b1 : (7 : Int) ≤ s1 ∧ s1 ≤ (7 : Int) := ivX (q := (1, .ofNat 7, .ofNat 7)) (y := s1) (hIv _ (.tail _ (.head _))) rfl
  have b3 : (3 : Int) ≤ s3 ∧ s3 ≤ (3 : Int) := ivX (q := (3, .ofNat 3, .ofNat 3)) (y := s3) (hIv _ (.tail _ (.tail _ (.tail _ (.head _))))) rfl
  have b6 : (-2147483648 : Int) ≤ s6 ∧ s6 ≤ (58 : Int) := ivX (q := (6, .negSucc 2147483647, .ofNat 58)) (y := s6) (hIv _ (.tail _ (.tail _ (.tail _ (.tail _ (.tail _ (.tail _ (.head _)))))))) rfl
  have hRf : ∀ q ∈ ([((40, .ofNat 173, []), (.ofNat 9, []), 1, .ofNat 0, [])] : List sRf), rfOk [s0, s1, s2, s3, s4, s5, s6] hp q := hH.1
  have h0 : hI hp 173 9 = 0 := rfI0 (hRf _ (.head _)) (sE_k _ _) (sE_k _ _) (sE_k _ _)
  have hFc : ∀ q ∈ ([(241, [(.ofNat 0, [(.ofNat 1, 0)]), (.ofNat 0, [(.ofNat 1, 1)]), (.ofNat 0, [(.ofNat 1, 2)]), (.ofNat 0, [(.ofNat 1, 3)]), (.ofNat 0, [(.ofNat 1, 4)]), (.ofNat 0, [(.ofNat 1, 5)]), (.ofNat 0, [(.ofNat 1, 6)])])] : List sFc), fcOk fFS [s0, s1, s2, s3, s4, s5, s6] hp q := hH.2
  have f0 : roH (XT hp) (nmR hp (xnm hp)) (hI hp (hC hp 0 6) 0) (hI hp (hC hp 0 6) 1) s0 s1 s2 s3 s4 s5 s6 ∧ s3 ≠ 4 := fcX (ys := [s0, s1, s2, s3, s4, s5, s6]) (hFc _ (.head _)) ⟨sE_V rfl, sE_V rfl, sE_V rfl, sE_V rfl, sE_V rfl, sE_V rfl, sE_V rfl, trivial⟩
  exact poX (.head _) rfl hR (all_nil) (all_nil) (all_cons ⟨[1, s4], ⟨sE_k _ _, sE_V rfl, trivial⟩, (show roS (XT hp) (nmR hp (xnm hp)) (hI hp (hC hp 0 6) 0) (hI hp (hC hp 0 6) 1) (1 : Int) s4 from ro7_f1 f0.1 (by omega) (by omega))⟩ (all_nil))
theorem rl105 : ruOk fFS gR105 := by
  intro r hp hO hN hH
  obtain ⟨s0, s1, s2, s3, s4, s5, s6, rfl⟩ := len7 (show r.length = 7 from hN.1)
  have hR := hN.2.1.1
  have hIv : ∀ q ∈ ([(0, .negSucc 2147483647, .ofNat 2147483647), (1, .ofNat 7, .ofNat 7), (2, .negSucc 2147483647, .ofNat 2147483647), (3, .ofNat 3, .ofNat 3), (4, .negSucc 2147483647, .ofNat 2147483647), (5, .negSucc 2147483647, .ofNat 2147483647), (6, .ofNat 60, .ofNat 2147483647)] : sIv), ∃ x, ([s0, s1, s2, s3, s4, s5, s6] : List Int)[q.1]? = some x ∧ q.2.1 ≤ x ∧ x ≤ q.2.2 := hN.2.1.2
  have b1 : (7 : Int) ≤ s1 ∧ s1 ≤ (7 : Int) := ivX (q := (1, .ofNat 7, .ofNat 7)) (y := s1) (hIv _ (.tail _ (.head _))) rfl
  have b3 : (3 : Int) ≤ s3 ∧ s3 ≤ (3 : Int) := ivX (q := (3, .ofNat 3, .ofNat 3)) (y := s3) (hIv _ (.tail _ (.tail _ (.tail _ (.head _))))) rfl
  have b6 : (60 : Int) ≤ s6 ∧ s6 ≤ (2147483647 : Int) := ivX (q := (6, .ofNat 60, .ofNat 2147483647)) (y := s6) (hIv _ (.tail _ (.tail _ (.tail _ (.tail _ (.tail _ (.tail _ (.head _)))))))) rfl
  have hRf : ∀ q ∈ ([((40, .ofNat 173, []), (.ofNat 9, []), 1, .ofNat 0, [])] : List sRf), rfOk [s0, s1, s2, s3, s4, s5, s6] hp q := hH.1
  have h0 : hI hp 173 9 = 0 := rfI0 (hRf _ (.head _)) (sE_k _ _) (sE_k _ _) (sE_k _ _)
  have hFc : ∀ q ∈ ([(241, [(.ofNat 0, [(.ofNat 1, 0)]), (.ofNat 0, [(.ofNat 1, 1)]), (.ofNat 0, [(.ofNat 1, 2)]), (.ofNat 0, [(.ofNat 1, 3)]), (.ofNat 0, [(.ofNat 1, 4)]), (.ofNat 0, [(.ofNat 1, 5)]), (.ofNat 0, [(.ofNat 1, 6)])])] : List sFc), fcOk fFS [s0, s1, s2, s3, s4, s5, s6] hp q := hH.2
  have f0 : roH (XT hp) (nmR hp (xnm hp)) (hI hp (hC hp 0 6) 0) (hI hp (hC hp 0 6) 1) s0 s1 s2 s3 s4 s5 s6 ∧ s3 ≠ 4 := fcX (ys := [s0, s1, s2, s3, s4, s5, s6]) (hFc _ (.head _)) ⟨sE_V rfl, sE_V rfl, sE_V rfl, sE_V rfl, sE_V rfl, sE_V rfl, sE_V rfl, trivial⟩
  exact poX (.head _) rfl hR (all_nil) (all_nil) (all_cons ⟨[1, s4], ⟨sE_k _ _, sE_V rfl, trivial⟩, (show roS (XT hp) (nmR hp (xnm hp)) (hI hp (hC hp 0 6) 0) (hI hp (hC hp 0 6) 1) (1 : Int) s4 from ro7_f1 f0.1 (by omega) (by omega))⟩ (all_nil))
theorem rl106 : ruOk fFS gR106 := by
  intro r hp hO hN hH
  obtain ⟨s0, s1, s2, s3, s4, s5, s6, s7, s8, s9, s10, s11, s12, rfl⟩ := len13 (show r.length = 13 from hN.1)
  have hR := hN.2.1.1
  have hIv : ∀ q ∈ ([(0, .negSucc 2147483647, .ofNat 2147483647), (1, .ofNat 0, .ofNat 0), (2, .negSucc 2147483647, .ofNat 2147483647), (3, .negSucc 2147483647, .ofNat 2147483647), (4, .negSucc 2147483647, .ofNat 2147483647), (5, .negSucc 2147483647, .ofNat 2147483647), (6, .negSucc 2147483647, .ofNat 2147483647), (7, .negSucc 2147483647, .ofNat 2147483647), (8, .negSucc 2147483647, .ofNat 2147483647), (9, .ofNat 1, .ofNat 1), (10, .negSucc 2147483647, .ofNat 2147483647), (11, .negSucc 2147483647, .ofNat 2147483647), (12, .negSucc 0, .negSucc 0)] : sIv), ∃ x, ([s0, s1, s2, s3, s4, s5, s6, s7, s8, s9, s10, s11, s12] : List Int)[q.1]? = some x ∧ q.2.1 ≤ x ∧ x ≤ q.2.2 := hN.2.1.2
  have b1 : (0 : Int) ≤ s1 ∧ s1 ≤ (0 : Int) := ivX (q := (1, .ofNat 0, .ofNat 0)) (y := s1) (hIv _ (.tail _ (.head _))) rfl
  have b9 : (1 : Int) ≤ s9 ∧ s9 ≤ (1 : Int) := ivX (q := (9, .ofNat 1, .ofNat 1)) (y := s9) (hIv _ (.tail _ (.tail _ (.tail _ (.tail _ (.tail _ (.tail _ (.tail _ (.tail _ (.tail _ (.head _))))))))))) rfl
  have b12 : (-1 : Int) ≤ s12 ∧ s12 ≤ (-1 : Int) := ivX (q := (12, .negSucc 0, .negSucc 0)) (y := s12) (hIv _ (.tail _ (.tail _ (.tail _ (.tail _ (.tail _ (.tail _ (.tail _ (.tail _ (.tail _ (.tail _ (.tail _ (.tail _ (.head _)))))))))))))) rfl
  have hRf : ∀ q ∈ ([((40, .ofNat 173, []), (.ofNat 9, []), 1, .ofNat 0, [])] : List sRf), rfOk [s0, s1, s2, s3, s4, s5, s6, s7, s8, s9, s10, s11, s12] hp q := hH.1
  have h0 : hI hp 173 9 = 0 := rfI0 (hRf _ (.head _)) (sE_k _ _) (sE_k _ _) (sE_k _ _)
  have hFc : ∀ q ∈ ([(53, [(.ofNat 0, [(.ofNat 1, 0)]), (.ofNat 0, [(.ofNat 1, 1)]), (.ofNat 0, [(.ofNat 1, 2)]), (.ofNat 0, [(.ofNat 1, 3)]), (.ofNat 0, [(.ofNat 1, 4)]), (.ofNat 0, [(.ofNat 1, 5)]), (.ofNat 0, [(.ofNat 1, 6)]), (.ofNat 0, [(.ofNat 1, 7)]), (.ofNat 0, [(.ofNat 1, 8)]), (.ofNat 0, [(.ofNat 1, 9)]), (.ofNat 0, [(.ofNat 1, 10)]), (.ofNat 0, [(.ofNat 1, 11)]), (.ofNat 0, [(.ofNat 1, 12)])])] : List sFc), fcOk fFS [s0, s1, s2, s3, s4, s5, s6, s7, s8, s9, s10, s11, s12] hp q := hH.2
  have f0 : Hq (XT hp) s0 s1 s2 s3 s4 s5 s6 s7 s8 s9 s10 s11 s12 ∧ s9 ≠ 4 := fcX (ys := [s0, s1, s2, s3, s4, s5, s6, s7, s8, s9, s10, s11, s12]) (hFc _ (.head _)) ⟨sE_V rfl, sE_V rfl, sE_V rfl, sE_V rfl, sE_V rfl, sE_V rfl, sE_V rfl, sE_V rfl, sE_V rfl, sE_V rfl, sE_V rfl, sE_V rfl, sE_V rfl, trivial⟩
  exact poX (.head _) rfl hR (all_nil) (all_nil) (all_cons ⟨[1, s10], ⟨sE_k _ _, sE_V rfl, trivial⟩, (show RS (XT hp) (1 : Int) s10 from h0_f1 (XT_ok hO) f0.1 (by omega) (by omega) (by omega))⟩ (all_nil))
theorem rl107 : ruOk fFS gR107 := by
  intro r hp hO hN hH
  obtain ⟨s0, s1, s2, s3, s4, s5, s6, s7, s8, s9, s10, s11, s12, rfl⟩ := len13 (show r.length = 13 from hN.1)
  have hR := hN.2.1.1
  have hIv : ∀ q ∈ ([(0, .negSucc 2147483647, .ofNat 2147483647), (1, .ofNat 0, .ofNat 0), (2, .negSucc 2147483647, .ofNat 2147483647), (3, .negSucc 2147483647, .ofNat 2147483647), (4, .negSucc 2147483647, .ofNat 2147483647), (5, .negSucc 2147483647, .ofNat 2147483647), (6, .negSucc 2147483647, .ofNat 2147483647), (7, .negSucc 2147483647, .ofNat 2147483647), (8, .negSucc 2147483647, .ofNat 2147483647), (9, .ofNat 1, .ofNat 1), (10, .negSucc 2147483647, .ofNat 2147483647), (11, .negSucc 2147483647, .ofNat 2147483647), (12, .ofNat 8, .ofNat 2147483647)] : sIv), ∃ x, ([s0, s1, s2, s3, s4, s5, s6, s7, s8, s9, s10, s11, s12] : List Int)[q.1]? = some x ∧ q.2.1 ≤ x ∧ x ≤ q.2.2 := hN.2.1.2
  have b1 : (0 : Int) ≤ s1 ∧ s1 ≤ (0 : Int) := ivX (q := (1, .ofNat 0, .ofNat 0)) (y := s1) (hIv _ (.tail _ (.head _))) rfl
  have b9 : (1 : Int) ≤ s9 ∧ s9 ≤ (1 : Int) := ivX (q := (9, .ofNat 1, .ofNat 1)) (y := s9) (hIv _ (.tail _ (.tail _ (.tail _ (.tail _ (.tail _ (.tail _ (.tail _ (.tail _ (.tail _ (.head _))))))))))) rfl
  have b12 : (8 : Int) ≤ s12 ∧ s12 ≤ (2147483647 : Int) := ivX (q := (12, .ofNat 8, .ofNat 2147483647)) (y := s12) (hIv _ (.tail _ (.tail _ (.tail _ (.tail _ (.tail _ (.tail _ (.tail _ (.tail _ (.tail _ (.tail _ (.tail _ (.tail _ (.head _)))))))))))))) rfl
  have hRf : ∀ q ∈ ([((40, .ofNat 173, []), (.ofNat 9, []), 1, .ofNat 0, [])] : List sRf), rfOk [s0, s1, s2, s3, s4, s5, s6, s7, s8, s9, s10, s11, s12] hp q := hH.1
  have h0 : hI hp 173 9 = 0 := rfI0 (hRf _ (.head _)) (sE_k _ _) (sE_k _ _) (sE_k _ _)
  have hFc : ∀ q ∈ ([(53, [(.ofNat 0, [(.ofNat 1, 0)]), (.ofNat 0, [(.ofNat 1, 1)]), (.ofNat 0, [(.ofNat 1, 2)]), (.ofNat 0, [(.ofNat 1, 3)]), (.ofNat 0, [(.ofNat 1, 4)]), (.ofNat 0, [(.ofNat 1, 5)]), (.ofNat 0, [(.ofNat 1, 6)]), (.ofNat 0, [(.ofNat 1, 7)]), (.ofNat 0, [(.ofNat 1, 8)]), (.ofNat 0, [(.ofNat 1, 9)]), (.ofNat 0, [(.ofNat 1, 10)]), (.ofNat 0, [(.ofNat 1, 11)]), (.ofNat 0, [(.ofNat 1, 12)])])] : List sFc), fcOk fFS [s0, s1, s2, s3, s4, s5, s6, s7, s8, s9, s10, s11, s12] hp q := hH.2
  have f0 : Hq (XT hp) s0 s1 s2 s3 s4 s5 s6 s7 s8 s9 s10 s11 s12 ∧ s9 ≠ 4 := fcX (ys := [s0, s1, s2, s3, s4, s5, s6, s7, s8, s9, s10, s11, s12]) (hFc _ (.head _)) ⟨sE_V rfl, sE_V rfl, sE_V rfl, sE_V rfl, sE_V rfl, sE_V rfl, sE_V rfl, sE_V rfl, sE_V rfl, sE_V rfl, sE_V rfl, sE_V rfl, sE_V rfl, trivial⟩
  exact poX (.head _) rfl hR (all_nil) (all_nil) (all_cons ⟨[1, s10], ⟨sE_k _ _, sE_V rfl, trivial⟩, (show RS (XT hp) (1 : Int) s10 from h0_f1 (XT_ok hO) f0.1 (by omega) (by omega) (by omega))⟩ (all_nil))
theorem rl108 : ruOk fFS gR108 := by
  intro r hp hO hN hH
  obtain ⟨s0, s1, s2, s3, s4, s5, s6, s7, s8, s9, s10, s11, s12, s13, s14, s15, s16, s17, s18, s19, s20, s21, s22, rfl⟩ := len23 (show r.length = 23 from hN.1)
  have hR := hN.2.1.1
  have hIv : ∀ q ∈ ([(0, .negSucc 2147483647, .ofNat 2147483647), (1, .ofNat 0, .ofNat 0), (2, .negSucc 2147483647, .ofNat 2147483647), (3, .negSucc 2147483647, .ofNat 2147483647), (4, .negSucc 2147483647, .ofNat 2147483647), (5, .negSucc 2147483647, .ofNat 2147483647), (6, .negSucc 2147483647, .ofNat 2147483647), (7, .negSucc 2147483647, .ofNat 2147483647), (8, .negSucc 2147483647, .ofNat 2147483647), (9, .ofNat 1, .ofNat 1), (10, .negSucc 2147483647, .ofNat 2147483647), (11, .negSucc 2147483647, .ofNat 2147483647), (12, .ofNat 7, .ofNat 7), (13, .negSucc 2147483647, .ofNat 2147483647), (14, .negSucc 2147483647, .ofNat 2147483647), (15, .negSucc 2147483647, .ofNat 2147483647), (16, .ofNat 8, .ofNat 8), (17, .negSucc 2147483647, .ofNat 2147483647), (18, .negSucc 2147483647, .ofNat 2147483647), (19, .negSucc 2147483647, .ofNat 2147483647), (20, .negSucc 2147483647, .ofNat 2147483647), (21, .negSucc 2147483647, .ofNat 2147483647), (22, .negSucc 2147483647, .ofNat 2147483647)] : sIv), ∃ x, ([s0, s1, s2, s3, s4, s5, s6, s7, s8, s9, s10, s11, s12, s13, s14, s15, s16, s17, s18, s19, s20, s21, s22] : List Int)[q.1]? = some x ∧ q.2.1 ≤ x ∧ x ≤ q.2.2 := hN.2.1.2
  have b1 : (0 : Int) ≤ s1 ∧ s1 ≤ (0 : Int) := ivX (q := (1, .ofNat 0, .ofNat 0)) (y := s1) (hIv _ (.tail _ (.head _))) rfl
  have b9 : (1 : Int) ≤ s9 ∧ s9 ≤ (1 : Int) := ivX (q := (9, .ofNat 1, .ofNat 1)) (y := s9) (hIv _ (.tail _ (.tail _ (.tail _ (.tail _ (.tail _ (.tail _ (.tail _ (.tail _ (.tail _ (.head _))))))))))) rfl
  have b12 : (7 : Int) ≤ s12 ∧ s12 ≤ (7 : Int) := ivX (q := (12, .ofNat 7, .ofNat 7)) (y := s12) (hIv _ (.tail _ (.tail _ (.tail _ (.tail _ (.tail _ (.tail _ (.tail _ (.tail _ (.tail _ (.tail _ (.tail _ (.tail _ (.head _)))))))))))))) rfl
  have b16 : (8 : Int) ≤ s16 ∧ s16 ≤ (8 : Int) := ivX (q := (16, .ofNat 8, .ofNat 8)) (y := s16) (hIv _ (.tail _ (.tail _ (.tail _ (.tail _ (.tail _ (.tail _ (.tail _ (.tail _ (.tail _ (.tail _ (.tail _ (.tail _ (.tail _ (.tail _ (.tail _ (.tail _ (.head _)))))))))))))))))) rfl
  have hRf : ∀ q ∈ ([((40, .ofNat 173, []), (.ofNat 9, []), 1, .ofNat 0, [])] : List sRf), rfOk [s0, s1, s2, s3, s4, s5, s6, s7, s8, s9, s10, s11, s12, s13, s14, s15, s16, s17, s18, s19, s20, s21, s22] hp q := hH.1
  have h0 : hI hp 173 9 = 0 := rfI0 (hRf _ (.head _)) (sE_k _ _) (sE_k _ _) (sE_k _ _)
  have hFc : ∀ q ∈ ([(53, [(.ofNat 0, [(.ofNat 1, 0)]), (.ofNat 0, [(.ofNat 1, 1)]), (.ofNat 0, [(.ofNat 1, 2)]), (.ofNat 0, [(.ofNat 1, 3)]), (.ofNat 0, [(.ofNat 1, 4)]), (.ofNat 0, [(.ofNat 1, 5)]), (.ofNat 0, [(.ofNat 1, 6)]), (.ofNat 0, [(.ofNat 1, 7)]), (.ofNat 0, [(.ofNat 1, 8)]), (.ofNat 0, [(.ofNat 1, 9)]), (.ofNat 0, [(.ofNat 1, 10)]), (.ofNat 0, [(.ofNat 1, 11)]), (.ofNat 0, [(.ofNat 1, 12)])]), (59, [(.ofNat 0, [(.ofNat 1, 2)]), (.ofNat 0, [(.ofNat 1, 13)]), (.ofNat 0, [(.ofNat 1, 14)]), (.ofNat 0, [(.ofNat 1, 15)]), (.ofNat 0, [(.ofNat 1, 16)]), (.ofNat 0, [(.ofNat 1, 17)]), (.ofNat 0, [(.ofNat 1, 18)]), (.ofNat 0, [(.ofNat 1, 19)]), (.ofNat 0, [(.ofNat 1, 20)]), (.ofNat 0, [(.ofNat 1, 21)]), (.ofNat 0, [(.ofNat 1, 22)])])] : List sFc), fcOk fFS [s0, s1, s2, s3, s4, s5, s6, s7, s8, s9, s10, s11, s12, s13, s14, s15, s16, s17, s18, s19, s20, s21, s22] hp q := hH.2
  have f0 : Hq (XT hp) s0 s1 s2 s3 s4 s5 s6 s7 s8 s9 s10 s11 s12 ∧ s9 ≠ 4 := fcX (ys := [s0, s1, s2, s3, s4, s5, s6, s7, s8, s9, s10, s11, s12]) (hFc _ (.head _)) ⟨sE_V rfl, sE_V rfl, sE_V rfl, sE_V rfl, sE_V rfl, sE_V rfl, sE_V rfl, sE_V rfl, sE_V rfl, sE_V rfl, sE_V rfl, sE_V rfl, sE_V rfl, trivial⟩
  have f1 : CT (XT hp) s2 s13 s14 s15 s16 s17 s18 s19 s20 s21 s22 := fcX (ys := [s2, s13, s14, s15, s16, s17, s18, s19, s20, s21, s22]) (hFc _ (.tail _ (.head _))) ⟨sE_V rfl, sE_V rfl, sE_V rfl, sE_V rfl, sE_V rfl, sE_V rfl, sE_V rfl, sE_V rfl, sE_V rfl, sE_V rfl, sE_V rfl, trivial⟩
  exact poX (.head _) rfl hR (all_nil) (all_nil) (all_cons ⟨[4, s10], ⟨sE_k _ _, sE_V rfl, trivial⟩, (show RS (XT hp) (4 : Int) s10 from ln_f7 (XT_ok hO) f0.1 (dF_mp f1 (fun D h => by unfold ctP at h; omega)) (by omega) (by omega) (by omega))⟩ (all_nil))
theorem rl109 : ruOk fFS gR109 := by
  intro r hp hO hN hH
  obtain ⟨s0, s1, s2, s3, s4, s5, s6, s7, s8, s9, s10, s11, s12, s13, s14, s15, s16, s17, s18, s19, s20, s21, s22, rfl⟩ := len23 (show r.length = 23 from hN.1)
  have hR := hN.2.1.1
  have hIv : ∀ q ∈ ([(0, .negSucc 2147483647, .ofNat 2147483647), (1, .ofNat 0, .ofNat 0), (2, .negSucc 2147483647, .ofNat 2147483647), (3, .negSucc 2147483647, .ofNat 2147483647), (4, .negSucc 2147483647, .ofNat 2147483647), (5, .negSucc 2147483647, .ofNat 2147483647), (6, .negSucc 2147483647, .ofNat 2147483647), (7, .negSucc 2147483647, .ofNat 2147483647), (8, .negSucc 2147483647, .ofNat 2147483647), (9, .ofNat 1, .ofNat 1), (10, .negSucc 2147483647, .ofNat 2147483647), (11, .negSucc 2147483647, .ofNat 2147483647), (12, .ofNat 7, .ofNat 7), (13, .negSucc 2147483647, .ofNat 2147483647), (14, .negSucc 2147483647, .ofNat 2147483647), (15, .negSucc 2147483647, .ofNat 2147483647), (16, .ofNat 0, .ofNat 7), (17, .negSucc 2147483647, .ofNat 2147483647), (18, .negSucc 2147483647, .ofNat 2147483647), (19, .negSucc 2147483647, .ofNat 2147483647), (20, .negSucc 2147483647, .ofNat 2147483647), (21, .negSucc 2147483647, .ofNat 2147483647), (22, .negSucc 2147483647, .ofNat 2147483647)] : sIv), ∃ x, ([s0, s1, s2, s3, s4, s5, s6, s7, s8, s9, s10, s11, s12, s13, s14, s15, s16, s17, s18, s19, s20, s21, s22] : List Int)[q.1]? = some x ∧ q.2.1 ≤ x ∧ x ≤ q.2.2 := hN.2.1.2
  have b1 : (0 : Int) ≤ s1 ∧ s1 ≤ (0 : Int) := ivX (q := (1, .ofNat 0, .ofNat 0)) (y := s1) (hIv _ (.tail _ (.head _))) rfl
  have b9 : (1 : Int) ≤ s9 ∧ s9 ≤ (1 : Int) := ivX (q := (9, .ofNat 1, .ofNat 1)) (y := s9) (hIv _ (.tail _ (.tail _ (.tail _ (.tail _ (.tail _ (.tail _ (.tail _ (.tail _ (.tail _ (.head _))))))))))) rfl
  have b12 : (7 : Int) ≤ s12 ∧ s12 ≤ (7 : Int) := ivX (q := (12, .ofNat 7, .ofNat 7)) (y := s12) (hIv _ (.tail _ (.tail _ (.tail _ (.tail _ (.tail _ (.tail _ (.tail _ (.tail _ (.tail _ (.tail _ (.tail _ (.tail _ (.head _)))))))))))))) rfl
  have b16 : (0 : Int) ≤ s16 ∧ s16 ≤ (7 : Int) := ivX (q := (16, .ofNat 0, .ofNat 7)) (y := s16) (hIv _ (.tail _ (.tail _ (.tail _ (.tail _ (.tail _ (.tail _ (.tail _ (.tail _ (.tail _ (.tail _ (.tail _ (.tail _ (.tail _ (.tail _ (.tail _ (.tail _ (.head _)))))))))))))))))) rfl
  have hRf : ∀ q ∈ ([((40, .ofNat 173, []), (.ofNat 9, []), 1, .ofNat 0, [])] : List sRf), rfOk [s0, s1, s2, s3, s4, s5, s6, s7, s8, s9, s10, s11, s12, s13, s14, s15, s16, s17, s18, s19, s20, s21, s22] hp q := hH.1
  have h0 : hI hp 173 9 = 0 := rfI0 (hRf _ (.head _)) (sE_k _ _) (sE_k _ _) (sE_k _ _)
  have hFc : ∀ q ∈ ([(53, [(.ofNat 0, [(.ofNat 1, 0)]), (.ofNat 0, [(.ofNat 1, 1)]), (.ofNat 0, [(.ofNat 1, 2)]), (.ofNat 0, [(.ofNat 1, 3)]), (.ofNat 0, [(.ofNat 1, 4)]), (.ofNat 0, [(.ofNat 1, 5)]), (.ofNat 0, [(.ofNat 1, 6)]), (.ofNat 0, [(.ofNat 1, 7)]), (.ofNat 0, [(.ofNat 1, 8)]), (.ofNat 0, [(.ofNat 1, 9)]), (.ofNat 0, [(.ofNat 1, 10)]), (.ofNat 0, [(.ofNat 1, 11)]), (.ofNat 0, [(.ofNat 1, 12)])]), (59, [(.ofNat 0, [(.ofNat 1, 2)]), (.ofNat 0, [(.ofNat 1, 13)]), (.ofNat 0, [(.ofNat 1, 14)]), (.ofNat 0, [(.ofNat 1, 15)]), (.ofNat 0, [(.ofNat 1, 16)]), (.ofNat 0, [(.ofNat 1, 17)]), (.ofNat 0, [(.ofNat 1, 18)]), (.ofNat 0, [(.ofNat 1, 19)]), (.ofNat 0, [(.ofNat 1, 20)]), (.ofNat 0, [(.ofNat 1, 21)]), (.ofNat 0, [(.ofNat 1, 22)])])] : List sFc), fcOk fFS [s0, s1, s2, s3, s4, s5, s6, s7, s8, s9, s10, s11, s12, s13, s14, s15, s16, s17, s18, s19, s20, s21, s22] hp q := hH.2
  have f0 : Hq (XT hp) s0 s1 s2 s3 s4 s5 s6 s7 s8 s9 s10 s11 s12 ∧ s9 ≠ 4 := fcX (ys := [s0, s1, s2, s3, s4, s5, s6, s7, s8, s9, s10, s11, s12]) (hFc _ (.head _)) ⟨sE_V rfl, sE_V rfl, sE_V rfl, sE_V rfl, sE_V rfl, sE_V rfl, sE_V rfl, sE_V rfl, sE_V rfl, sE_V rfl, sE_V rfl, sE_V rfl, sE_V rfl, trivial⟩
  have f1 : CT (XT hp) s2 s13 s14 s15 s16 s17 s18 s19 s20 s21 s22 := fcX (ys := [s2, s13, s14, s15, s16, s17, s18, s19, s20, s21, s22]) (hFc _ (.tail _ (.head _))) ⟨sE_V rfl, sE_V rfl, sE_V rfl, sE_V rfl, sE_V rfl, sE_V rfl, sE_V rfl, sE_V rfl, sE_V rfl, sE_V rfl, sE_V rfl, trivial⟩
  obtain ⟨D, hG, hP⟩ := ln_g7 (P := ctP s13 s14 s15 s16 s17 s18 s19 s20 s21 s22) (XT_ok hO) f0.1 (dF_mp f1 (fun D h => ⟨by unfold ctP at h; omega, h⟩)) (by omega) (by omega) (by omega)
  exact poX (.head _) rfl hR (all_nil) (all_nil) (all_cons ⟨[s11, 23, s2, 0, 0, 0, 0, 0, 0], ⟨sE_V rfl, sE_k _ _, sE_V rfl, sE_k _ _, sE_k _ _, sE_k _ _, sE_k _ _, sE_k _ _, sE_k _ _, trivial⟩, (show Gq (XT hp) s11 (23 : Int) s2 (0 : Int) (0 : Int) (0 : Int) (0 : Int) (0 : Int) (0 : Int) from ⟨D, hG⟩)⟩ (all_cons ⟨[s11], ⟨sE_V rfl, trivial⟩, (show EW (XT hp) s11 from ex_mk hG rfl (by decide) (by decide))⟩ (all_nil)))
theorem rl110 : ruOk fFS gR110 := by
  intro r hp hO hN hH
  obtain ⟨s0, s1, s2, s3, s4, s5, s6, s7, s8, s9, s10, s11, s12, s13, rfl⟩ := len14 (show r.length = 14 from hN.1)
  have hR := hN.2.1.1
  have hIv : ∀ q ∈ ([(0, .ofNat 0, .ofNat 4), (1, .negSucc 2147483647, .ofNat 2147483647), (2, .ofNat 23, .ofNat 23), (3, .negSucc 2147483647, .ofNat 2147483647), (4, .negSucc 2147483647, .ofNat 2147483647), (5, .negSucc 2147483647, .ofNat 2147483647), (6, .negSucc 2147483647, .ofNat 2147483647), (7, .negSucc 2147483647, .ofNat 2147483647), (8, .negSucc 2147483647, .ofNat 2147483647), (9, .negSucc 2147483647, .ofNat 2147483647), (10, .ofNat 1, .ofNat 1), (11, .negSucc 2147483647, .ofNat 2147483647), (12, .negSucc 2147483647, .ofNat 2147483647), (13, .negSucc 2147483647, .ofNat 2147483647)] : sIv), ∃ x, ([s0, s1, s2, s3, s4, s5, s6, s7, s8, s9, s10, s11, s12, s13] : List Int)[q.1]? = some x ∧ q.2.1 ≤ x ∧ x ≤ q.2.2 := hN.2.1.2
  have b0 : (0 : Int) ≤ s0 ∧ s0 ≤ (4 : Int) := ivX (q := (0, .ofNat 0, .ofNat 4)) (y := s0) (hIv _ (.head _)) rfl
  have b2 : (23 : Int) ≤ s2 ∧ s2 ≤ (23 : Int) := ivX (q := (2, .ofNat 23, .ofNat 23)) (y := s2) (hIv _ (.tail _ (.tail _ (.head _)))) rfl
  have b10 : (1 : Int) ≤ s10 ∧ s10 ≤ (1 : Int) := ivX (q := (10, .ofNat 1, .ofNat 1)) (y := s10) (hIv _ (.tail _ (.tail _ (.tail _ (.tail _ (.tail _ (.tail _ (.tail _ (.tail _ (.tail _ (.tail _ (.head _)))))))))))) rfl
  have hCs : ∀ c ∈ ([(.negSucc 7, [(.negSucc 0, 0), (.ofNat 1, 13)]), (.ofNat 8, [(.ofNat 1, 0), (.negSucc 0, 13)])] : List sLn), ∃ x, sE [s0, s1, s2, s3, s4, s5, s6, s7, s8, s9, s10, s11, s12, s13] c = some x ∧ x ≤ 0 := hN.2.2.1
  have c0 : ((-8 : Int) + ((-1 : Int) * s0 + ((1 : Int) * s13 + 0))) ≤ 0 := csX (hCs _ (.head _)) rfl
  have c1 : ((8 : Int) + ((1 : Int) * s0 + ((-1 : Int) * s13 + 0))) ≤ 0 := csX (hCs _ (.tail _ (.head _))) rfl
  have hRf : ∀ q ∈ ([((40, .ofNat 173, []), (.ofNat 9, []), 1, .ofNat 0, [])] : List sRf), rfOk [s0, s1, s2, s3, s4, s5, s6, s7, s8, s9, s10, s11, s12, s13] hp q := hH.1
  have h0 : hI hp 173 9 = 0 := rfI0 (hRf _ (.head _)) (sE_k _ _) (sE_k _ _) (sE_k _ _)
  have hFc : ∀ q ∈ ([(53, [(.ofNat 0, [(.ofNat 1, 1)]), (.ofNat 0, [(.ofNat 1, 2)]), (.ofNat 0, [(.ofNat 1, 3)]), (.ofNat 0, [(.ofNat 1, 4)]), (.ofNat 0, [(.ofNat 1, 5)]), (.ofNat 0, [(.ofNat 1, 6)]), (.ofNat 0, [(.ofNat 1, 7)]), (.ofNat 0, [(.ofNat 1, 8)]), (.ofNat 0, [(.ofNat 1, 9)]), (.ofNat 0, [(.ofNat 1, 10)]), (.ofNat 0, [(.ofNat 1, 11)]), (.ofNat 0, [(.ofNat 1, 12)]), (.ofNat 0, [(.ofNat 1, 13)])])] : List sFc), fcOk fFS [s0, s1, s2, s3, s4, s5, s6, s7, s8, s9, s10, s11, s12, s13] hp q := hH.2
  have f0 : Hq (XT hp) s1 s2 s3 s4 s5 s6 s7 s8 s9 s10 s11 s12 s13 ∧ s10 ≠ 4 := fcX (ys := [s1, s2, s3, s4, s5, s6, s7, s8, s9, s10, s11, s12, s13]) (hFc _ (.head _)) ⟨sE_V rfl, sE_V rfl, sE_V rfl, sE_V rfl, sE_V rfl, sE_V rfl, sE_V rfl, sE_V rfl, sE_V rfl, sE_V rfl, sE_V rfl, sE_V rfl, sE_V rfl, trivial⟩
  obtain ⟨D, hG⟩ := hW23 (x := s0) (XT_ok hO) f0.1 (by omega) (by omega) (by omega) (by omega) (by omega)
  exact poX (.head _) rfl hR (all_nil) (all_nil) (all_cons ⟨[s12, 24, s3, s0, 0, 0, 0, 0, 0], ⟨sE_V rfl, sE_k _ _, sE_V rfl, sE_V rfl, sE_k _ _, sE_k _ _, sE_k _ _, sE_k _ _, sE_k _ _, trivial⟩, (show Gq (XT hp) s12 (24 : Int) s3 s0 (0 : Int) (0 : Int) (0 : Int) (0 : Int) (0 : Int) from ⟨D, hG⟩)⟩ (all_cons ⟨[s12, 1, 4], ⟨sE_V rfl, sE_k _ _, sE_k _ _, trivial⟩, (show EN (XT hp) s12 (1 : Int) (4 : Int) from en_mk hG (nC24 (by omega) (by omega) (by omega)))⟩ (all_nil)))
theorem rl111 : ruOk fFS gR111 := by
  intro r hp hO hN hH
  obtain ⟨s0, s1, s2, s3, s4, s5, s6, s7, s8, s9, s10, s11, s12, rfl⟩ := len13 (show r.length = 13 from hN.1)
  have hR := hN.2.1.1
  have hIv : ∀ q ∈ ([(0, .negSucc 2147483647, .ofNat 2147483647), (1, .negSucc 2147483647, .ofNat 2147483647), (2, .negSucc 2147483647, .ofNat 2147483647), (3, .ofNat 24, .ofNat 24), (4, .negSucc 2147483647, .ofNat 2147483647), (5, .negSucc 2147483647, .ofNat 2147483647), (6, .negSucc 2147483647, .ofNat 2147483647), (7, .negSucc 2147483647, .ofNat 2147483647), (8, .negSucc 2147483647, .ofNat 2147483647), (9, .negSucc 2147483647, .ofNat 2147483647), (10, .ofNat 2, .ofNat 2), (11, .negSucc 2147483647, .ofNat 2147483647), (12, .negSucc 2147483647, .ofNat 2147483647)] : sIv), ∃ x, ([s0, s1, s2, s3, s4, s5, s6, s7, s8, s9, s10, s11, s12] : List Int)[q.1]? = some x ∧ q.2.1 ≤ x ∧ x ≤ q.2.2 := hN.2.1.2
  have b3 : (24 : Int) ≤ s3 ∧ s3 ≤ (24 : Int) := ivX (q := (3, .ofNat 24, .ofNat 24)) (y := s3) (hIv _ (.tail _ (.tail _ (.tail _ (.head _))))) rfl
  have b10 : (2 : Int) ≤ s10 ∧ s10 ≤ (2 : Int) := ivX (q := (10, .ofNat 2, .ofNat 2)) (y := s10) (hIv _ (.tail _ (.tail _ (.tail _ (.tail _ (.tail _ (.tail _ (.tail _ (.tail _ (.tail _ (.tail _ (.head _)))))))))))) rfl
  have hRf : ∀ q ∈ ([((40, .ofNat 173, []), (.ofNat 9, []), 1, .ofNat 0, [])] : List sRf), rfOk [s0, s1, s2, s3, s4, s5, s6, s7, s8, s9, s10, s11, s12] hp q := hH.1
  have h0 : hI hp 173 9 = 0 := rfI0 (hRf _ (.head _)) (sE_k _ _) (sE_k _ _) (sE_k _ _)
  have hFc : ∀ q ∈ ([(53, [(.ofNat 0, [(.ofNat 1, 2)]), (.ofNat 0, [(.ofNat 1, 3)]), (.ofNat 0, [(.ofNat 1, 4)]), (.ofNat 0, [(.ofNat 1, 0)]), (.ofNat 0, [(.ofNat 1, 5)]), (.ofNat 0, [(.ofNat 1, 6)]), (.ofNat 0, [(.ofNat 1, 7)]), (.ofNat 0, [(.ofNat 1, 8)]), (.ofNat 0, [(.ofNat 1, 9)]), (.ofNat 0, [(.ofNat 1, 10)]), (.ofNat 0, [(.ofNat 1, 11)]), (.ofNat 0, [(.ofNat 1, 12)]), (.ofNat 0, [(.ofNat 1, 1)])]), (80, [(.ofNat 0, [(.ofNat 1, 4)]), (.ofNat 0, [(.ofNat 1, 0)]), (.ofNat 0, [(.ofNat 1, 1)]), (.ofNat 0, [])]), (60, [(.ofNat 0, [(.ofNat 1, 2)])])] : List sFc), fcOk fFS [s0, s1, s2, s3, s4, s5, s6, s7, s8, s9, s10, s11, s12] hp q := hH.2
  have f0 : Hq (XT hp) s2 s3 s4 s0 s5 s6 s7 s8 s9 s10 s11 s12 s1 ∧ s10 ≠ 4 := fcX (ys := [s2, s3, s4, s0, s5, s6, s7, s8, s9, s10, s11, s12, s1]) (hFc _ (.head _)) ⟨sE_V rfl, sE_V rfl, sE_V rfl, sE_V rfl, sE_V rfl, sE_V rfl, sE_V rfl, sE_V rfl, sE_V rfl, sE_V rfl, sE_V rfl, sE_V rfl, sE_V rfl, trivial⟩
  have f1 : dF (XT hp) s4 (fun D => bP (0 : Int) ((s0, s1) ∈ dWi D)) := fcX (ys := [s4, s0, s1, 0]) (hFc _ (.tail _ (.head _))) ⟨sE_V rfl, sE_V rfl, sE_V rfl, sE_k _ _, trivial⟩
  have f2 : NO (XT hp) s2 := fcX (ys := [s2]) (hFc _ (.tail _ (.tail _ (.head _)))) ⟨sE_V rfl, trivial⟩
  obtain ⟨D, hG⟩ := hN24 (XT_ok hO) f0.1 (by omega) (by omega) f2 (d0' f1 rfl)
  exact poX (.head _) rfl hR (all_nil) (all_nil) (all_cons ⟨[s12, 25, s4, s0, s1, 0, 0, 0, 0], ⟨sE_V rfl, sE_k _ _, sE_V rfl, sE_V rfl, sE_V rfl, sE_k _ _, sE_k _ _, sE_k _ _, sE_k _ _, trivial⟩, (show Gq (XT hp) s12 (25 : Int) s4 s0 s1 (0 : Int) (0 : Int) (0 : Int) (0 : Int) from ⟨D, hG⟩)⟩ (all_cons ⟨[s12, 1, 9], ⟨sE_V rfl, sE_k _ _, sE_k _ _, trivial⟩, (show EN (XT hp) s12 (1 : Int) (9 : Int) from en_mk hG (nC25 (by omega) (by omega) (by omega)))⟩ (all_nil)))
theorem rl112 : ruOk fFS gR112 := by
  intro r hp hO hN hH
  obtain ⟨s0, s1, s2, s3, s4, s5, s6, s7, s8, s9, s10, s11, s12, rfl⟩ := len13 (show r.length = 13 from hN.1)
  have hR := hN.2.1.1
  have hIv : ∀ q ∈ ([(0, .negSucc 2147483647, .ofNat 2147483647), (1, .negSucc 2147483647, .ofNat 2147483647), (2, .negSucc 2147483647, .ofNat 2147483647), (3, .negSucc 2147483647, .ofNat 2147483647), (4, .negSucc 2147483647, .ofNat 2147483647), (5, .negSucc 2147483647, .ofNat 2147483647), (6, .negSucc 2147483647, .ofNat 2147483647), (7, .negSucc 2147483647, .ofNat 2147483647), (8, .negSucc 2147483647, .ofNat 2147483647), (9, .ofNat 0, .ofNat 0), (10, .negSucc 2147483647, .ofNat 2147483647), (11, .negSucc 2147483647, .ofNat 2147483647), (12, .negSucc 2147483647, .ofNat 2147483647)] : sIv), ∃ x, ([s0, s1, s2, s3, s4, s5, s6, s7, s8, s9, s10, s11, s12] : List Int)[q.1]? = some x ∧ q.2.1 ≤ x ∧ x ≤ q.2.2 := hN.2.1.2
  have b9 : (0 : Int) ≤ s9 ∧ s9 ≤ (0 : Int) := ivX (q := (9, .ofNat 0, .ofNat 0)) (y := s9) (hIv _ (.tail _ (.tail _ (.tail _ (.tail _ (.tail _ (.tail _ (.tail _ (.tail _ (.tail _ (.head _))))))))))) rfl
  have hFc : ∀ q ∈ ([(53, [(.ofNat 0, [(.ofNat 1, 0)]), (.ofNat 0, [(.ofNat 1, 1)]), (.ofNat 0, [(.ofNat 1, 2)]), (.ofNat 0, [(.ofNat 1, 3)]), (.ofNat 0, [(.ofNat 1, 4)]), (.ofNat 0, [(.ofNat 1, 5)]), (.ofNat 0, [(.ofNat 1, 6)]), (.ofNat 0, [(.ofNat 1, 7)]), (.ofNat 0, [(.ofNat 1, 8)]), (.ofNat 0, [(.ofNat 1, 9)]), (.ofNat 0, [(.ofNat 1, 10)]), (.ofNat 0, [(.ofNat 1, 11)]), (.ofNat 0, [(.ofNat 1, 12)])]), (56, [(.ofNat 0, [(.ofNat 1, 0)])])] : List sFc), fcOk fFS [s0, s1, s2, s3, s4, s5, s6, s7, s8, s9, s10, s11, s12] hp q := hH.2
  have f0 : Hq (XT hp) s0 s1 s2 s3 s4 s5 s6 s7 s8 s9 s10 s11 s12 ∧ s9 ≠ 4 := fcX (ys := [s0, s1, s2, s3, s4, s5, s6, s7, s8, s9, s10, s11, s12]) (hFc _ (.head _)) ⟨sE_V rfl, sE_V rfl, sE_V rfl, sE_V rfl, sE_V rfl, sE_V rfl, sE_V rfl, sE_V rfl, sE_V rfl, sE_V rfl, sE_V rfl, sE_V rfl, sE_V rfl, trivial⟩
  have f1 : EW (XT hp) s0 := fcX (ys := [s0]) (hFc _ (.tail _ (.head _))) ⟨sE_V rfl, trivial⟩
  exact poX (.head _) rfl hR (all_nil) (all_nil) (all_cons ⟨[1, s10], ⟨sE_k _ _, sE_V rfl, trivial⟩, (show RS (XT hp) (1 : Int) s10 from ew_f1 (XT_ok hO) f0.1 f1 (by omega))⟩ (all_nil))
theorem rl113 : ruOk fFS gR113 := by
  intro r hp hO hN hH
  obtain ⟨s0, s1, s2, s3, s4, s5, s6, rfl⟩ := len7 (show r.length = 7 from hN.1)
  have hR := hN.2.1.1
  have hIv : ∀ q ∈ ([(0, .negSucc 2147483647, .ofNat 2147483647), (1, .ofNat 1, .ofNat 1), (2, .negSucc 2147483647, .ofNat 2147483647), (3, .ofNat 0, .ofNat 0), (4, .negSucc 2147483647, .ofNat 2147483647), (5, .negSucc 2147483647, .ofNat 2147483647), (6, .negSucc 2147483647, .ofNat 2147483647)] : sIv), ∃ x, ([s0, s1, s2, s3, s4, s5, s6] : List Int)[q.1]? = some x ∧ q.2.1 ≤ x ∧ x ≤ q.2.2 := hN.2.1.2
  have b1 : (1 : Int) ≤ s1 ∧ s1 ≤ (1 : Int) := ivX (q := (1, .ofNat 1, .ofNat 1)) (y := s1) (hIv _ (.tail _ (.head _))) rfl
  have b3 : (0 : Int) ≤ s3 ∧ s3 ≤ (0 : Int) := ivX (q := (3, .ofNat 0, .ofNat 0)) (y := s3) (hIv _ (.tail _ (.tail _ (.tail _ (.head _))))) rfl
  have hFc : ∀ q ∈ ([(241, [(.ofNat 0, [(.ofNat 1, 0)]), (.ofNat 0, [(.ofNat 1, 1)]), (.ofNat 0, [(.ofNat 1, 2)]), (.ofNat 0, [(.ofNat 1, 3)]), (.ofNat 0, [(.ofNat 1, 4)]), (.ofNat 0, [(.ofNat 1, 5)]), (.ofNat 0, [(.ofNat 1, 6)])])] : List sFc), fcOk fFS [s0, s1, s2, s3, s4, s5, s6] hp q := hH.2
  have f0 : roH (XT hp) (nmR hp (xnm hp)) (hI hp (hC hp 0 6) 0) (hI hp (hC hp 0 6) 1) s0 s1 s2 s3 s4 s5 s6 ∧ s3 ≠ 4 := fcX (ys := [s0, s1, s2, s3, s4, s5, s6]) (hFc _ (.head _)) ⟨sE_V rfl, sE_V rfl, sE_V rfl, sE_V rfl, sE_V rfl, sE_V rfl, sE_V rfl, trivial⟩
  exact poX (.head _) rfl hR (all_nil) (all_nil) (all_cons ⟨[1, s4], ⟨sE_k _ _, sE_V rfl, trivial⟩, (show roS (XT hp) (nmR hp (xnm hp)) (hI hp (hC hp 0 6) 0) (hI hp (hC hp 0 6) 1) (1 : Int) s4 from ro1_f1 f0.1 (by omega) (by omega))⟩ (all_nil))
theorem rl114 : ruOk fFS gR114 := by
  intro r hp hO hN hH
  obtain ⟨s0, s1, s2, s3, s4, s5, s6, rfl⟩ := len7 (show r.length = 7 from hN.1)
  have hR := hN.2.1.1
  have hIv : ∀ q ∈ ([(0, .negSucc 2147483647, .ofNat 2147483647), (1, .ofNat 1, .ofNat 1), (2, .negSucc 2147483647, .ofNat 2147483647), (3, .ofNat 2, .ofNat 3), (4, .negSucc 2147483647, .ofNat 2147483647), (5, .negSucc 2147483647, .ofNat 2147483647), (6, .negSucc 2147483647, .ofNat 2147483647)] : sIv), ∃ x, ([s0, s1, s2, s3, s4, s5, s6] : List Int)[q.1]? = some x ∧ q.2.1 ≤ x ∧ x ≤ q.2.2 := hN.2.1.2
  have b1 : (1 : Int) ≤ s1 ∧ s1 ≤ (1 : Int) := ivX (q := (1, .ofNat 1, .ofNat 1)) (y := s1) (hIv _ (.tail _ (.head _))) rfl
  have b3 : (2 : Int) ≤ s3 ∧ s3 ≤ (3 : Int) := ivX (q := (3, .ofNat 2, .ofNat 3)) (y := s3) (hIv _ (.tail _ (.tail _ (.tail _ (.head _))))) rfl
  have hFc : ∀ q ∈ ([(241, [(.ofNat 0, [(.ofNat 1, 0)]), (.ofNat 0, [(.ofNat 1, 1)]), (.ofNat 0, [(.ofNat 1, 2)]), (.ofNat 0, [(.ofNat 1, 3)]), (.ofNat 0, [(.ofNat 1, 4)]), (.ofNat 0, [(.ofNat 1, 5)]), (.ofNat 0, [(.ofNat 1, 6)])])] : List sFc), fcOk fFS [s0, s1, s2, s3, s4, s5, s6] hp q := hH.2
  have f0 : roH (XT hp) (nmR hp (xnm hp)) (hI hp (hC hp 0 6) 0) (hI hp (hC hp 0 6) 1) s0 s1 s2 s3 s4 s5 s6 ∧ s3 ≠ 4 := fcX (ys := [s0, s1, s2, s3, s4, s5, s6]) (hFc _ (.head _)) ⟨sE_V rfl, sE_V rfl, sE_V rfl, sE_V rfl, sE_V rfl, sE_V rfl, sE_V rfl, trivial⟩
  exact poX (.head _) rfl hR (all_nil) (all_nil) (all_cons ⟨[1, s4], ⟨sE_k _ _, sE_V rfl, trivial⟩, (show roS (XT hp) (nmR hp (xnm hp)) (hI hp (hC hp 0 6) 0) (hI hp (hC hp 0 6) 1) (1 : Int) s4 from ro1_f1 f0.1 (by omega) (by omega))⟩ (all_nil))
theorem rl115 : ruOk fFS gR115 := by
  intro r hp hO hN hH
  obtain ⟨s0, s1, s2, s3, s4, s5, s6, rfl⟩ := len7 (show r.length = 7 from hN.1)
  have hR := hN.2.1.1
  have hIv : ∀ q ∈ ([(0, .negSucc 2147483647, .ofNat 2147483647), (1, .ofNat 1, .ofNat 1), (2, .negSucc 2147483647, .ofNat 2147483647), (3, .ofNat 1, .ofNat 1), (4, .negSucc 2147483647, .ofNat 2147483647), (5, .negSucc 2147483647, .ofNat 2147483647), (6, .negSucc 0, .ofNat 7)] : sIv), ∃ x, ([s0, s1, s2, s3, s4, s5, s6] : List Int)[q.1]? = some x ∧ q.2.1 ≤ x ∧ x ≤ q.2.2 := hN.2.1.2
  have b1 : (1 : Int) ≤ s1 ∧ s1 ≤ (1 : Int) := ivX (q := (1, .ofNat 1, .ofNat 1)) (y := s1) (hIv _ (.tail _ (.head _))) rfl
  have b3 : (1 : Int) ≤ s3 ∧ s3 ≤ (1 : Int) := ivX (q := (3, .ofNat 1, .ofNat 1)) (y := s3) (hIv _ (.tail _ (.tail _ (.tail _ (.head _))))) rfl
  have b6 : (-1 : Int) ≤ s6 ∧ s6 ≤ (7 : Int) := ivX (q := (6, .negSucc 0, .ofNat 7)) (y := s6) (hIv _ (.tail _ (.tail _ (.tail _ (.tail _ (.tail _ (.tail _ (.head _)))))))) rfl
  have hFc : ∀ q ∈ ([(241, [(.ofNat 0, [(.ofNat 1, 0)]), (.ofNat 0, [(.ofNat 1, 1)]), (.ofNat 0, [(.ofNat 1, 2)]), (.ofNat 0, [(.ofNat 1, 3)]), (.ofNat 0, [(.ofNat 1, 4)]), (.ofNat 0, [(.ofNat 1, 5)]), (.ofNat 0, [(.ofNat 1, 6)])])] : List sFc), fcOk fFS [s0, s1, s2, s3, s4, s5, s6] hp q := hH.2
  have f0 : roH (XT hp) (nmR hp (xnm hp)) (hI hp (hC hp 0 6) 0) (hI hp (hC hp 0 6) 1) s0 s1 s2 s3 s4 s5 s6 ∧ s3 ≠ 4 := fcX (ys := [s0, s1, s2, s3, s4, s5, s6]) (hFc _ (.head _)) ⟨sE_V rfl, sE_V rfl, sE_V rfl, sE_V rfl, sE_V rfl, sE_V rfl, sE_V rfl, trivial⟩
  exact poX (.head _) rfl hR (all_nil) (all_nil) (all_cons ⟨[1, s4], ⟨sE_k _ _, sE_V rfl, trivial⟩, (show roS (XT hp) (nmR hp (xnm hp)) (hI hp (hC hp 0 6) 0) (hI hp (hC hp 0 6) 1) (1 : Int) s4 from ro1_f1 f0.1 (by omega) (by omega))⟩ (all_nil))
theorem rl116 : ruOk fFS gR116 := by
  intro r hp hO hN hH
  obtain ⟨s0, s1, s2, s3, s4, s5, s6, rfl⟩ := len7 (show r.length = 7 from hN.1)
  have hR := hN.2.1.1
  have hIv : ∀ q ∈ ([(0, .negSucc 2147483647, .ofNat 2147483647), (1, .ofNat 1, .ofNat 1), (2, .negSucc 2147483647, .ofNat 2147483647), (3, .ofNat 1, .ofNat 1), (4, .negSucc 2147483647, .ofNat 2147483647), (5, .negSucc 2147483647, .ofNat 2147483647), (6, .ofNat 13, .ofNat 29)] : sIv), ∃ x, ([s0, s1, s2, s3, s4, s5, s6] : List Int)[q.1]? = some x ∧ q.2.1 ≤ x ∧ x ≤ q.2.2 := hN.2.1.2
  have b1 : (1 : Int) ≤ s1 ∧ s1 ≤ (1 : Int) := ivX (q := (1, .ofNat 1, .ofNat 1)) (y := s1) (hIv _ (.tail _ (.head _))) rfl
  have b3 : (1 : Int) ≤ s3 ∧ s3 ≤ (1 : Int) := ivX (q := (3, .ofNat 1, .ofNat 1)) (y := s3) (hIv _ (.tail _ (.tail _ (.tail _ (.head _))))) rfl
  have b6 : (13 : Int) ≤ s6 ∧ s6 ≤ (29 : Int) := ivX (q := (6, .ofNat 13, .ofNat 29)) (y := s6) (hIv _ (.tail _ (.tail _ (.tail _ (.tail _ (.tail _ (.tail _ (.head _)))))))) rfl
  have hFc : ∀ q ∈ ([(241, [(.ofNat 0, [(.ofNat 1, 0)]), (.ofNat 0, [(.ofNat 1, 1)]), (.ofNat 0, [(.ofNat 1, 2)]), (.ofNat 0, [(.ofNat 1, 3)]), (.ofNat 0, [(.ofNat 1, 4)]), (.ofNat 0, [(.ofNat 1, 5)]), (.ofNat 0, [(.ofNat 1, 6)])])] : List sFc), fcOk fFS [s0, s1, s2, s3, s4, s5, s6] hp q := hH.2
  have f0 : roH (XT hp) (nmR hp (xnm hp)) (hI hp (hC hp 0 6) 0) (hI hp (hC hp 0 6) 1) s0 s1 s2 s3 s4 s5 s6 ∧ s3 ≠ 4 := fcX (ys := [s0, s1, s2, s3, s4, s5, s6]) (hFc _ (.head _)) ⟨sE_V rfl, sE_V rfl, sE_V rfl, sE_V rfl, sE_V rfl, sE_V rfl, sE_V rfl, trivial⟩
  exact poX (.head _) rfl hR (all_nil) (all_nil) (all_cons ⟨[1, s4], ⟨sE_k _ _, sE_V rfl, trivial⟩, (show roS (XT hp) (nmR hp (xnm hp)) (hI hp (hC hp 0 6) 0) (hI hp (hC hp 0 6) 1) (1 : Int) s4 from ro1_f1 f0.1 (by omega) (by omega))⟩ (all_nil))
theorem rl117 : ruOk fFS gR117 := by
  intro r hp hO hN hH
  obtain ⟨s0, s1, s2, s3, s4, s5, s6, s7, s8, s9, s10, s11, s12, rfl⟩ := len13 (show r.length = 13 from hN.1)
  have hR := hN.2.1.1
  have hIv : ∀ q ∈ ([(0, .negSucc 2147483647, .ofNat 2147483647), (1, .negSucc 2147483647, .ofNat 2147483647), (2, .negSucc 2147483647, .ofNat 2147483647), (3, .negSucc 2147483647, .ofNat 2147483647), (4, .negSucc 2147483647, .ofNat 2147483647), (5, .negSucc 2147483647, .ofNat 2147483647), (6, .negSucc 2147483647, .ofNat 2147483647), (7, .negSucc 2147483647, .ofNat 2147483647), (8, .negSucc 2147483647, .ofNat 2147483647), (9, .ofNat 2, .ofNat 3), (10, .negSucc 2147483647, .ofNat 2147483647), (11, .negSucc 2147483647, .ofNat 2147483647), (12, .negSucc 2147483647, .ofNat 2147483647)] : sIv), ∃ x, ([s0, s1, s2, s3, s4, s5, s6, s7, s8, s9, s10, s11, s12] : List Int)[q.1]? = some x ∧ q.2.1 ≤ x ∧ x ≤ q.2.2 := hN.2.1.2
  have b9 : (2 : Int) ≤ s9 ∧ s9 ≤ (3 : Int) := ivX (q := (9, .ofNat 2, .ofNat 3)) (y := s9) (hIv _ (.tail _ (.tail _ (.tail _ (.tail _ (.tail _ (.tail _ (.tail _ (.tail _ (.tail _ (.head _))))))))))) rfl
  have hFc : ∀ q ∈ ([(53, [(.ofNat 0, [(.ofNat 1, 0)]), (.ofNat 0, [(.ofNat 1, 1)]), (.ofNat 0, [(.ofNat 1, 2)]), (.ofNat 0, [(.ofNat 1, 3)]), (.ofNat 0, [(.ofNat 1, 4)]), (.ofNat 0, [(.ofNat 1, 5)]), (.ofNat 0, [(.ofNat 1, 6)]), (.ofNat 0, [(.ofNat 1, 7)]), (.ofNat 0, [(.ofNat 1, 8)]), (.ofNat 0, [(.ofNat 1, 9)]), (.ofNat 0, [(.ofNat 1, 10)]), (.ofNat 0, [(.ofNat 1, 11)]), (.ofNat 0, [(.ofNat 1, 12)])]), (56, [(.ofNat 0, [(.ofNat 1, 0)])])] : List sFc), fcOk fFS [s0, s1, s2, s3, s4, s5, s6, s7, s8, s9, s10, s11, s12] hp q := hH.2
  have f0 : Hq (XT hp) s0 s1 s2 s3 s4 s5 s6 s7 s8 s9 s10 s11 s12 ∧ s9 ≠ 4 := fcX (ys := [s0, s1, s2, s3, s4, s5, s6, s7, s8, s9, s10, s11, s12]) (hFc _ (.head _)) ⟨sE_V rfl, sE_V rfl, sE_V rfl, sE_V rfl, sE_V rfl, sE_V rfl, sE_V rfl, sE_V rfl, sE_V rfl, sE_V rfl, sE_V rfl, sE_V rfl, sE_V rfl, trivial⟩
  have f1 : EW (XT hp) s0 := fcX (ys := [s0]) (hFc _ (.tail _ (.head _))) ⟨sE_V rfl, trivial⟩
  exact poX (.head _) rfl hR (all_nil) (all_nil) (all_cons ⟨[1, s10], ⟨sE_k _ _, sE_V rfl, trivial⟩, (show RS (XT hp) (1 : Int) s10 from ew_f1 (XT_ok hO) f0.1 f1 (by omega))⟩ (all_nil))
theorem rl118 : ruOk fFS gR118 := by
  intro r hp hO hN hH
  obtain ⟨s0, s1, s2, s3, s4, s5, s6, s7, s8, s9, s10, s11, s12, rfl⟩ := len13 (show r.length = 13 from hN.1)
  have hR := hN.2.1.1
  have hIv : ∀ q ∈ ([(0, .negSucc 2147483647, .ofNat 2147483647), (1, .negSucc 2147483647, .ofNat 2147483647), (2, .negSucc 2147483647, .ofNat 2147483647), (3, .negSucc 2147483647, .ofNat 2147483647), (4, .negSucc 2147483647, .ofNat 2147483647), (5, .negSucc 2147483647, .ofNat 2147483647), (6, .negSucc 2147483647, .ofNat 2147483647), (7, .negSucc 2147483647, .ofNat 2147483647), (8, .negSucc 2147483647, .ofNat 2147483647), (9, .ofNat 1, .ofNat 1), (10, .negSucc 2147483647, .ofNat 2147483647), (11, .negSucc 2147483647, .ofNat 2147483647), (12, .negSucc 0, .ofNat 7)] : sIv), ∃ x, ([s0, s1, s2, s3, s4, s5, s6, s7, s8, s9, s10, s11, s12] : List Int)[q.1]? = some x ∧ q.2.1 ≤ x ∧ x ≤ q.2.2 := hN.2.1.2
  have b9 : (1 : Int) ≤ s9 ∧ s9 ≤ (1 : Int) := ivX (q := (9, .ofNat 1, .ofNat 1)) (y := s9) (hIv _ (.tail _ (.tail _ (.tail _ (.tail _ (.tail _ (.tail _ (.tail _ (.tail _ (.tail _ (.head _))))))))))) rfl
  have b12 : (-1 : Int) ≤ s12 ∧ s12 ≤ (7 : Int) := ivX (q := (12, .negSucc 0, .ofNat 7)) (y := s12) (hIv _ (.tail _ (.tail _ (.tail _ (.tail _ (.tail _ (.tail _ (.tail _ (.tail _ (.tail _ (.tail _ (.tail _ (.tail _ (.head _)))))))))))))) rfl
  have hFc : ∀ q ∈ ([(53, [(.ofNat 0, [(.ofNat 1, 0)]), (.ofNat 0, [(.ofNat 1, 1)]), (.ofNat 0, [(.ofNat 1, 2)]), (.ofNat 0, [(.ofNat 1, 3)]), (.ofNat 0, [(.ofNat 1, 4)]), (.ofNat 0, [(.ofNat 1, 5)]), (.ofNat 0, [(.ofNat 1, 6)]), (.ofNat 0, [(.ofNat 1, 7)]), (.ofNat 0, [(.ofNat 1, 8)]), (.ofNat 0, [(.ofNat 1, 9)]), (.ofNat 0, [(.ofNat 1, 10)]), (.ofNat 0, [(.ofNat 1, 11)]), (.ofNat 0, [(.ofNat 1, 12)])]), (56, [(.ofNat 0, [(.ofNat 1, 0)])])] : List sFc), fcOk fFS [s0, s1, s2, s3, s4, s5, s6, s7, s8, s9, s10, s11, s12] hp q := hH.2
  have f0 : Hq (XT hp) s0 s1 s2 s3 s4 s5 s6 s7 s8 s9 s10 s11 s12 ∧ s9 ≠ 4 := fcX (ys := [s0, s1, s2, s3, s4, s5, s6, s7, s8, s9, s10, s11, s12]) (hFc _ (.head _)) ⟨sE_V rfl, sE_V rfl, sE_V rfl, sE_V rfl, sE_V rfl, sE_V rfl, sE_V rfl, sE_V rfl, sE_V rfl, sE_V rfl, sE_V rfl, sE_V rfl, sE_V rfl, trivial⟩
  have f1 : EW (XT hp) s0 := fcX (ys := [s0]) (hFc _ (.tail _ (.head _))) ⟨sE_V rfl, trivial⟩
  exact poX (.head _) rfl hR (all_nil) (all_nil) (all_cons ⟨[1, s10], ⟨sE_k _ _, sE_V rfl, trivial⟩, (show RS (XT hp) (1 : Int) s10 from ew_f1 (XT_ok hO) f0.1 f1 (by omega))⟩ (all_nil))
theorem rl119 : ruOk fFS gR119 := by
  intro r hp hO hN hH
  obtain ⟨s0, s1, s2, s3, s4, s5, s6, s7, s8, s9, s10, s11, s12, rfl⟩ := len13 (show r.length = 13 from hN.1)
  have hR := hN.2.1.1
  have hIv : ∀ q ∈ ([(0, .negSucc 2147483647, .ofNat 2147483647), (1, .negSucc 2147483647, .ofNat 2147483647), (2, .negSucc 2147483647, .ofNat 2147483647), (3, .negSucc 2147483647, .ofNat 2147483647), (4, .negSucc 2147483647, .ofNat 2147483647), (5, .negSucc 2147483647, .ofNat 2147483647), (6, .negSucc 2147483647, .ofNat 2147483647), (7, .negSucc 2147483647, .ofNat 2147483647), (8, .negSucc 2147483647, .ofNat 2147483647), (9, .ofNat 1, .ofNat 1), (10, .negSucc 2147483647, .ofNat 2147483647), (11, .negSucc 2147483647, .ofNat 2147483647), (12, .ofNat 13, .ofNat 29)] : sIv), ∃ x, ([s0, s1, s2, s3, s4, s5, s6, s7, s8, s9, s10, s11, s12] : List Int)[q.1]? = some x ∧ q.2.1 ≤ x ∧ x ≤ q.2.2 := hN.2.1.2
  have b9 : (1 : Int) ≤ s9 ∧ s9 ≤ (1 : Int) := ivX (q := (9, .ofNat 1, .ofNat 1)) (y := s9) (hIv _ (.tail _ (.tail _ (.tail _ (.tail _ (.tail _ (.tail _ (.tail _ (.tail _ (.tail _ (.head _))))))))))) rfl
  have b12 : (13 : Int) ≤ s12 ∧ s12 ≤ (29 : Int) := ivX (q := (12, .ofNat 13, .ofNat 29)) (y := s12) (hIv _ (.tail _ (.tail _ (.tail _ (.tail _ (.tail _ (.tail _ (.tail _ (.tail _ (.tail _ (.tail _ (.tail _ (.tail _ (.head _)))))))))))))) rfl
  have hFc : ∀ q ∈ ([(53, [(.ofNat 0, [(.ofNat 1, 0)]), (.ofNat 0, [(.ofNat 1, 1)]), (.ofNat 0, [(.ofNat 1, 2)]), (.ofNat 0, [(.ofNat 1, 3)]), (.ofNat 0, [(.ofNat 1, 4)]), (.ofNat 0, [(.ofNat 1, 5)]), (.ofNat 0, [(.ofNat 1, 6)]), (.ofNat 0, [(.ofNat 1, 7)]), (.ofNat 0, [(.ofNat 1, 8)]), (.ofNat 0, [(.ofNat 1, 9)]), (.ofNat 0, [(.ofNat 1, 10)]), (.ofNat 0, [(.ofNat 1, 11)]), (.ofNat 0, [(.ofNat 1, 12)])]), (56, [(.ofNat 0, [(.ofNat 1, 0)])])] : List sFc), fcOk fFS [s0, s1, s2, s3, s4, s5, s6, s7, s8, s9, s10, s11, s12] hp q := hH.2
  have f0 : Hq (XT hp) s0 s1 s2 s3 s4 s5 s6 s7 s8 s9 s10 s11 s12 ∧ s9 ≠ 4 := fcX (ys := [s0, s1, s2, s3, s4, s5, s6, s7, s8, s9, s10, s11, s12]) (hFc _ (.head _)) ⟨sE_V rfl, sE_V rfl, sE_V rfl, sE_V rfl, sE_V rfl, sE_V rfl, sE_V rfl, sE_V rfl, sE_V rfl, sE_V rfl, sE_V rfl, sE_V rfl, sE_V rfl, trivial⟩
  have f1 : EW (XT hp) s0 := fcX (ys := [s0]) (hFc _ (.tail _ (.head _))) ⟨sE_V rfl, trivial⟩
  exact poX (.head _) rfl hR (all_nil) (all_nil) (all_cons ⟨[1, s10], ⟨sE_k _ _, sE_V rfl, trivial⟩, (show RS (XT hp) (1 : Int) s10 from ew_f1 (XT_ok hO) f0.1 f1 (by omega))⟩ (all_nil))
theorem rl120 : ruOk fFS gR120 := by
  intro r hp hO hN hH
  obtain ⟨s0, s1, s2, s3, s4, s5, s6, s7, s8, s9, s10, s11, s12, s13, s14, rfl⟩ := len15 (show r.length = 15 from hN.1)
  have hR := hN.2.1.1
  have hIv : ∀ q ∈ ([(0, .negSucc 2147483647, .ofNat 2147483647), (1, .negSucc 2147483647, .ofNat 2147483647), (2, .negSucc 2147483647, .ofNat 2147483647), (3, .negSucc 2147483647, .ofNat 2147483647), (4, .negSucc 2147483647, .ofNat 2147483647), (5, .negSucc 2147483647, .ofNat 2147483647), (6, .negSucc 2147483647, .ofNat 2147483647), (7, .negSucc 2147483647, .ofNat 2147483647), (8, .negSucc 2147483647, .ofNat 2147483647), (9, .ofNat 0, .ofNat 1), (10, .negSucc 2147483647, .ofNat 2147483647), (11, .negSucc 2147483647, .ofNat 2147483647), (12, .negSucc 2147483647, .ofNat 2147483647), (13, .negSucc 2147483647, .ofNat 2147483647), (14, .negSucc 2147483647, .ofNat 2147483647)] : sIv), ∃ x, ([s0, s1, s2, s3, s4, s5, s6, s7, s8, s9, s10, s11, s12, s13, s14] : List Int)[q.1]? = some x ∧ q.2.1 ≤ x ∧ x ≤ q.2.2 := hN.2.1.2
  have b9 : (0 : Int) ≤ s9 ∧ s9 ≤ (1 : Int) := ivX (q := (9, .ofNat 0, .ofNat 1)) (y := s9) (hIv _ (.tail _ (.tail _ (.tail _ (.tail _ (.tail _ (.tail _ (.tail _ (.tail _ (.tail _ (.head _))))))))))) rfl
  have hFc : ∀ q ∈ ([(53, [(.ofNat 0, [(.ofNat 1, 0)]), (.ofNat 0, [(.ofNat 1, 1)]), (.ofNat 0, [(.ofNat 1, 2)]), (.ofNat 0, [(.ofNat 1, 3)]), (.ofNat 0, [(.ofNat 1, 4)]), (.ofNat 0, [(.ofNat 1, 5)]), (.ofNat 0, [(.ofNat 1, 6)]), (.ofNat 0, [(.ofNat 1, 7)]), (.ofNat 0, [(.ofNat 1, 8)]), (.ofNat 0, [(.ofNat 1, 9)]), (.ofNat 0, [(.ofNat 1, 10)]), (.ofNat 0, [(.ofNat 1, 11)]), (.ofNat 0, [(.ofNat 1, 12)])]), (55, [(.ofNat 0, [(.ofNat 1, 0)]), (.ofNat 0, [(.ofNat 1, 13)]), (.ofNat 0, [(.ofNat 1, 14)])])] : List sFc), fcOk fFS [s0, s1, s2, s3, s4, s5, s6, s7, s8, s9, s10, s11, s12, s13, s14] hp q := hH.2
  have f0 : Hq (XT hp) s0 s1 s2 s3 s4 s5 s6 s7 s8 s9 s10 s11 s12 ∧ s9 ≠ 4 := fcX (ys := [s0, s1, s2, s3, s4, s5, s6, s7, s8, s9, s10, s11, s12]) (hFc _ (.head _)) ⟨sE_V rfl, sE_V rfl, sE_V rfl, sE_V rfl, sE_V rfl, sE_V rfl, sE_V rfl, sE_V rfl, sE_V rfl, sE_V rfl, sE_V rfl, sE_V rfl, sE_V rfl, trivial⟩
  have f1 : EN (XT hp) s0 s13 s14 := fcX (ys := [s0, s13, s14]) (hFc _ (.tail _ (.head _))) ⟨sE_V rfl, sE_V rfl, sE_V rfl, trivial⟩
  exact poX (.head _) rfl hR (all_nil) (all_nil) (all_cons ⟨[1, s10], ⟨sE_k _ _, sE_V rfl, trivial⟩, (show RS (XT hp) (1 : Int) s10 from en_f1 (XT_ok hO) f0.1 f1 (by omega))⟩ (all_nil))
theorem rl121 : ruOk fFS gR121 := by
  intro r hp hO hN hH
  obtain ⟨s0, s1, s2, s3, s4, s5, s6, s7, rfl⟩ := len8 (show r.length = 8 from hN.1)
  have hR := hN.2.1.1
  have hIv : ∀ q ∈ ([(0, .negSucc 2147483647, .ofNat 2147483647), (1, .ofNat 5, .ofNat 5), (2, .negSucc 2147483647, .ofNat 2147483647), (3, .negSucc 2147483647, .ofNat 2147483647), (4, .ofNat 0, .ofNat 1), (5, .negSucc 2147483647, .ofNat 2147483647), (6, .negSucc 2147483647, .ofNat 2147483647), (7, .negSucc 2147483647, .ofNat 2147483647)] : sIv), ∃ x, ([s0, s1, s2, s3, s4, s5, s6, s7] : List Int)[q.1]? = some x ∧ q.2.1 ≤ x ∧ x ≤ q.2.2 := hN.2.1.2
  have b1 : (5 : Int) ≤ s1 ∧ s1 ≤ (5 : Int) := ivX (q := (1, .ofNat 5, .ofNat 5)) (y := s1) (hIv _ (.tail _ (.head _))) rfl
  have b4 : (0 : Int) ≤ s4 ∧ s4 ≤ (1 : Int) := ivX (q := (4, .ofNat 0, .ofNat 1)) (y := s4) (hIv _ (.tail _ (.tail _ (.tail _ (.tail _ (.head _)))))) rfl
  have hFc : ∀ q ∈ ([(192, [(.ofNat 0, [(.ofNat 1, 0)]), (.ofNat 0, [(.ofNat 1, 1)]), (.ofNat 0, [(.ofNat 1, 2)]), (.ofNat 0, [(.ofNat 1, 3)]), (.ofNat 0, [(.ofNat 1, 4)]), (.ofNat 0, [(.ofNat 1, 5)]), (.ofNat 0, [(.ofNat 1, 6)]), (.ofNat 0, [(.ofNat 1, 7)])])] : List sFc), fcOk fFS [s0, s1, s2, s3, s4, s5, s6, s7] hp q := hH.2
  have f0 : SHq (XT hp) (nmR hp (xnm hp)) s0 s1 s2 s3 s4 s5 s6 s7 ∧ s4 ≠ 4 := fcX (ys := [s0, s1, s2, s3, s4, s5, s6, s7]) (hFc _ (.head _)) ⟨sE_V rfl, sE_V rfl, sE_V rfl, sE_V rfl, sE_V rfl, sE_V rfl, sE_V rfl, sE_V rfl, trivial⟩
  exact poX (.head _) rfl hR (all_nil) (all_nil) (all_cons ⟨[1, s5], ⟨sE_k _ _, sE_V rfl, trivial⟩, (show SRS (XT hp) (nmR hp (xnm hp)) (1 : Int) s5 from s5_f1 f0.1 (by omega) (by omega))⟩ (all_nil))
theorem rl122 : ruOk fFS gR122 := by
  intro r hp hO hN hH
  obtain ⟨s0, s1, s2, s3, s4, s5, s6, s7, rfl⟩ := len8 (show r.length = 8 from hN.1)
  have hR := hN.2.1.1
  have hIv : ∀ q ∈ ([(0, .negSucc 2147483647, .ofNat 2147483647), (1, .ofNat 5, .ofNat 5), (2, .negSucc 2147483647, .ofNat 2147483647), (3, .negSucc 2147483647, .ofNat 2147483647), (4, .ofNat 3, .ofNat 3), (5, .negSucc 2147483647, .ofNat 2147483647), (6, .negSucc 2147483647, .ofNat 2147483647), (7, .negSucc 2147483647, .ofNat 2147483647)] : sIv), ∃ x, ([s0, s1, s2, s3, s4, s5, s6, s7] : List Int)[q.1]? = some x ∧ q.2.1 ≤ x ∧ x ≤ q.2.2 := hN.2.1.2
  have b1 : (5 : Int) ≤ s1 ∧ s1 ≤ (5 : Int) := ivX (q := (1, .ofNat 5, .ofNat 5)) (y := s1) (hIv _ (.tail _ (.head _))) rfl
  have b4 : (3 : Int) ≤ s4 ∧ s4 ≤ (3 : Int) := ivX (q := (4, .ofNat 3, .ofNat 3)) (y := s4) (hIv _ (.tail _ (.tail _ (.tail _ (.tail _ (.head _)))))) rfl
  have hFc : ∀ q ∈ ([(192, [(.ofNat 0, [(.ofNat 1, 0)]), (.ofNat 0, [(.ofNat 1, 1)]), (.ofNat 0, [(.ofNat 1, 2)]), (.ofNat 0, [(.ofNat 1, 3)]), (.ofNat 0, [(.ofNat 1, 4)]), (.ofNat 0, [(.ofNat 1, 5)]), (.ofNat 0, [(.ofNat 1, 6)]), (.ofNat 0, [(.ofNat 1, 7)])])] : List sFc), fcOk fFS [s0, s1, s2, s3, s4, s5, s6, s7] hp q := hH.2
  have f0 : SHq (XT hp) (nmR hp (xnm hp)) s0 s1 s2 s3 s4 s5 s6 s7 ∧ s4 ≠ 4 := fcX (ys := [s0, s1, s2, s3, s4, s5, s6, s7]) (hFc _ (.head _)) ⟨sE_V rfl, sE_V rfl, sE_V rfl, sE_V rfl, sE_V rfl, sE_V rfl, sE_V rfl, sE_V rfl, trivial⟩
  exact poX (.head _) rfl hR (all_nil) (all_nil) (all_cons ⟨[1, s5], ⟨sE_k _ _, sE_V rfl, trivial⟩, (show SRS (XT hp) (nmR hp (xnm hp)) (1 : Int) s5 from s5_f1 f0.1 (by omega) (by omega))⟩ (all_nil))
theorem rl123 : ruOk fFS gR123 := by
  intro r hp hO hN hH
  obtain ⟨s0, s1, s2, s3, s4, s5, s6, s7, s8, rfl⟩ := len9 (show r.length = 9 from hN.1)
  have hR := hN.2.1.1
  have hIv : ∀ q ∈ ([(0, .negSucc 2147483647, .ofNat 2147483647), (1, .negSucc 2147483647, .ofNat 2147483647), (2, .negSucc 2147483647, .ofNat 2147483647), (3, .ofNat 0, .ofNat 1), (4, .negSucc 2147483647, .ofNat 2147483647), (5, .negSucc 2147483647, .ofNat 2147483647), (6, .negSucc 2147483647, .ofNat 2147483647), (7, .negSucc 2147483647, .ofNat 2147483647), (8, .negSucc 2147483647, .ofNat 2147483647)] : sIv), ∃ x, ([s0, s1, s2, s3, s4, s5, s6, s7, s8] : List Int)[q.1]? = some x ∧ q.2.1 ≤ x ∧ x ≤ q.2.2 := hN.2.1.2
  have b3 : (0 : Int) ≤ s3 ∧ s3 ≤ (1 : Int) := ivX (q := (3, .ofNat 0, .ofNat 1)) (y := s3) (hIv _ (.tail _ (.tail _ (.tail _ (.head _))))) rfl
  have hFc : ∀ q ∈ ([(241, [(.ofNat 0, [(.ofNat 1, 0)]), (.ofNat 0, [(.ofNat 1, 1)]), (.ofNat 0, [(.ofNat 1, 2)]), (.ofNat 0, [(.ofNat 1, 3)]), (.ofNat 0, [(.ofNat 1, 4)]), (.ofNat 0, [(.ofNat 1, 5)]), (.ofNat 0, [(.ofNat 1, 6)])]), (245, [(.ofNat 0, [(.ofNat 1, 0)]), (.ofNat 0, [(.ofNat 1, 7)]), (.ofNat 0, [(.ofNat 1, 8)])])] : List sFc), fcOk fFS [s0, s1, s2, s3, s4, s5, s6, s7, s8] hp q := hH.2
  have f0 : roH (XT hp) (nmR hp (xnm hp)) (hI hp (hC hp 0 6) 0) (hI hp (hC hp 0 6) 1) s0 s1 s2 s3 s4 s5 s6 ∧ s3 ≠ 4 := fcX (ys := [s0, s1, s2, s3, s4, s5, s6]) (hFc _ (.head _)) ⟨sE_V rfl, sE_V rfl, sE_V rfl, sE_V rfl, sE_V rfl, sE_V rfl, sE_V rfl, trivial⟩
  have f1 : roB (XT hp) (nmR hp (xnm hp)) (hI hp (hC hp 0 6) 0) (hI hp (hC hp 0 6) 1) s0 s7 s8 := fcX (ys := [s0, s7, s8]) (hFc _ (.tail _ (.head _))) ⟨sE_V rfl, sE_V rfl, sE_V rfl, trivial⟩
  exact poX (.head _) rfl hR (all_nil) (all_nil) (all_cons ⟨[1, s4], ⟨sE_k _ _, sE_V rfl, trivial⟩, (show roS (XT hp) (nmR hp (xnm hp)) (hI hp (hC hp 0 6) 0) (hI hp (hC hp 0 6) 1) (1 : Int) s4 from ron_f1 (XT_ok hO) f0.1 f1 (by omega))⟩ (all_nil))
theorem rl124 : ruOk fFS gR124 := by
  intro r hp hO hN hH
  obtain ⟨s0, s1, s2, s3, s4, s5, s6, s7, s8, rfl⟩ := len9 (show r.length = 9 from hN.1)
  have hR := hN.2.1.1
  have hIv : ∀ q ∈ ([(0, .negSucc 2147483647, .ofNat 2147483647), (1, .negSucc 2147483647, .ofNat 2147483647), (2, .negSucc 2147483647, .ofNat 2147483647), (3, .ofNat 3, .ofNat 3), (4, .negSucc 2147483647, .ofNat 2147483647), (5, .negSucc 2147483647, .ofNat 2147483647), (6, .negSucc 2147483647, .ofNat 2147483647), (7, .negSucc 2147483647, .ofNat 2147483647), (8, .negSucc 2147483647, .ofNat 2147483647)] : sIv), ∃ x, ([s0, s1, s2, s3, s4, s5, s6, s7, s8] : List Int)[q.1]? = some x ∧ q.2.1 ≤ x ∧ x ≤ q.2.2 := hN.2.1.2
  have b3 : (3 : Int) ≤ s3 ∧ s3 ≤ (3 : Int) := ivX (q := (3, .ofNat 3, .ofNat 3)) (y := s3) (hIv _ (.tail _ (.tail _ (.tail _ (.head _))))) rfl
  have hFc : ∀ q ∈ ([(241, [(.ofNat 0, [(.ofNat 1, 0)]), (.ofNat 0, [(.ofNat 1, 1)]), (.ofNat 0, [(.ofNat 1, 2)]), (.ofNat 0, [(.ofNat 1, 3)]), (.ofNat 0, [(.ofNat 1, 4)]), (.ofNat 0, [(.ofNat 1, 5)]), (.ofNat 0, [(.ofNat 1, 6)])]), (245, [(.ofNat 0, [(.ofNat 1, 0)]), (.ofNat 0, [(.ofNat 1, 7)]), (.ofNat 0, [(.ofNat 1, 8)])])] : List sFc), fcOk fFS [s0, s1, s2, s3, s4, s5, s6, s7, s8] hp q := hH.2
  have f0 : roH (XT hp) (nmR hp (xnm hp)) (hI hp (hC hp 0 6) 0) (hI hp (hC hp 0 6) 1) s0 s1 s2 s3 s4 s5 s6 ∧ s3 ≠ 4 := fcX (ys := [s0, s1, s2, s3, s4, s5, s6]) (hFc _ (.head _)) ⟨sE_V rfl, sE_V rfl, sE_V rfl, sE_V rfl, sE_V rfl, sE_V rfl, sE_V rfl, trivial⟩
  have f1 : roB (XT hp) (nmR hp (xnm hp)) (hI hp (hC hp 0 6) 0) (hI hp (hC hp 0 6) 1) s0 s7 s8 := fcX (ys := [s0, s7, s8]) (hFc _ (.tail _ (.head _))) ⟨sE_V rfl, sE_V rfl, sE_V rfl, trivial⟩
  exact poX (.head _) rfl hR (all_nil) (all_nil) (all_cons ⟨[1, s4], ⟨sE_k _ _, sE_V rfl, trivial⟩, (show roS (XT hp) (nmR hp (xnm hp)) (hI hp (hC hp 0 6) 0) (hI hp (hC hp 0 6) 1) (1 : Int) s4 from ron_f1 (XT_ok hO) f0.1 f1 (by omega))⟩ (all_nil))
theorem rl125 : ruOk fFS gR125 := by
  intro r hp hO hN hH
  obtain ⟨s0, s1, s2, s3, s4, s5, s6, s7, s8, s9, rfl⟩ := len10 (show r.length = 10 from hN.1)
  have hR := hN.2.1.1
  have hIv : ∀ q ∈ ([(0, .negSucc 2147483647, .ofNat 2147483647), (1, .negSucc 2147483647, .ofNat 2147483647), (2, .negSucc 2147483647, .ofNat 2147483647), (3, .negSucc 2147483647, .ofNat 2147483647), (4, .ofNat 2, .ofNat 2), (5, .negSucc 2147483647, .ofNat 2147483647), (6, .negSucc 2147483647, .ofNat 2147483647), (7, .negSucc 2147483647, .ofNat 2147483647), (8, .negSucc 2147483647, .ofNat 2147483647), (9, .negSucc 2147483647, .ofNat 2147483647)] : sIv), ∃ x, ([s0, s1, s2, s3, s4, s5, s6, s7, s8, s9] : List Int)[q.1]? = some x ∧ q.2.1 ≤ x ∧ x ≤ q.2.2 := hN.2.1.2
  have b4 : (2 : Int) ≤ s4 ∧ s4 ≤ (2 : Int) := ivX (q := (4, .ofNat 2, .ofNat 2)) (y := s4) (hIv _ (.tail _ (.tail _ (.tail _ (.tail _ (.head _)))))) rfl
  have b7 : (-2147483648 : Int) ≤ s7 ∧ s7 ≤ (2147483647 : Int) := ivX (q := (7, .negSucc 2147483647, .ofNat 2147483647)) (y := s7) (hIv _ (.tail _ (.tail _ (.tail _ (.tail _ (.tail _ (.tail _ (.tail _ (.head _))))))))) rfl
  have hFc : ∀ q ∈ ([(192, [(.ofNat 0, [(.ofNat 1, 0)]), (.ofNat 0, [(.ofNat 1, 1)]), (.ofNat 0, [(.ofNat 1, 2)]), (.ofNat 0, [(.ofNat 1, 3)]), (.ofNat 0, [(.ofNat 1, 4)]), (.ofNat 0, [(.ofNat 1, 5)]), (.ofNat 0, [(.ofNat 1, 6)]), (.ofNat 0, [(.ofNat 1, 7)])]), (202, [(.ofNat 0, [(.ofNat 1, 8)]), (.ofNat 0, [(.ofNat 1, 9)])])] : List sFc), fcOk fFS [s0, s1, s2, s3, s4, s5, s6, s7, s8, s9] hp q := hH.2
  have f0 : SHq (XT hp) (nmR hp (xnm hp)) s0 s1 s2 s3 s4 s5 s6 s7 ∧ s4 ≠ 4 := fcX (ys := [s0, s1, s2, s3, s4, s5, s6, s7]) (hFc _ (.head _)) ⟨sE_V rfl, sE_V rfl, sE_V rfl, sE_V rfl, sE_V rfl, sE_V rfl, sE_V rfl, sE_V rfl, trivial⟩
  have f1 : s8 ≤ 0 ∧ 99 ≤ s9 := fcX (ys := [s8, s9]) (hFc _ (.tail _ (.head _))) ⟨sE_V rfl, sE_V rfl, trivial⟩
  have u := sh_v2 (XT_ok hO) f0.1 (by omega)
  have u2 := f1
  exact poX (.head _) rfl hR (all_cons (ivO (y := s7) rfl (show (0 : Int) ≤ s7 by omega) (show s7 ≤ (99 : Int) by omega)) (all_nil)) (all_cons ⟨((0 : Int) + ((1 : Int) * s8 + 0)), rfl, (show ((0 : Int) + ((1 : Int) * s8 + 0)) ≤ 0 by omega)⟩ (all_cons ⟨((99 : Int) + ((-1 : Int) * s9 + 0)), rfl, (show ((99 : Int) + ((-1 : Int) * s9 + 0)) ≤ 0 by omega)⟩ (all_nil))) (all_nil)
theorem rl126 : ruOk fFS gR126 := by
  intro r hp hO hN hH
  obtain ⟨s0, s1, s2, s3, s4, s5, s6, s7, s8, s9, s10, s11, s12, s13, s14, rfl⟩ := len15 (show r.length = 15 from hN.1)
  have hR := hN.2.1.1
  have hIv : ∀ q ∈ ([(0, .negSucc 2147483647, .ofNat 2147483647), (1, .negSucc 2147483647, .ofNat 2147483647), (2, .negSucc 2147483647, .ofNat 2147483647), (3, .negSucc 2147483647, .ofNat 2147483647), (4, .negSucc 2147483647, .ofNat 2147483647), (5, .negSucc 2147483647, .ofNat 2147483647), (6, .negSucc 2147483647, .ofNat 2147483647), (7, .negSucc 2147483647, .ofNat 2147483647), (8, .negSucc 2147483647, .ofNat 2147483647), (9, .ofNat 2, .ofNat 2), (10, .negSucc 2147483647, .ofNat 2147483647), (11, .negSucc 2147483647, .ofNat 2147483647), (12, .negSucc 2147483647, .ofNat 2147483647), (13, .negSucc 2147483647, .ofNat 2147483647), (14, .negSucc 2147483647, .ofNat 2147483647)] : sIv), ∃ x, ([s0, s1, s2, s3, s4, s5, s6, s7, s8, s9, s10, s11, s12, s13, s14] : List Int)[q.1]? = some x ∧ q.2.1 ≤ x ∧ x ≤ q.2.2 := hN.2.1.2
  have b9 : (2 : Int) ≤ s9 ∧ s9 ≤ (2 : Int) := ivX (q := (9, .ofNat 2, .ofNat 2)) (y := s9) (hIv _ (.tail _ (.tail _ (.tail _ (.tail _ (.tail _ (.tail _ (.tail _ (.tail _ (.tail _ (.head _))))))))))) rfl
  have hCs : ∀ c ∈ ([(.ofNat 1, [(.ofNat 1, 12), (.negSucc 0, 13)])] : List sLn), ∃ x, sE [s0, s1, s2, s3, s4, s5, s6, s7, s8, s9, s10, s11, s12, s13, s14] c = some x ∧ x ≤ 0 := hN.2.2.1
  have c0 : ((1 : Int) + ((1 : Int) * s12 + ((-1 : Int) * s13 + 0))) ≤ 0 := csX (hCs _ (.head _)) rfl
  have hFc : ∀ q ∈ ([(53, [(.ofNat 0, [(.ofNat 1, 0)]), (.ofNat 0, [(.ofNat 1, 1)]), (.ofNat 0, [(.ofNat 1, 2)]), (.ofNat 0, [(.ofNat 1, 3)]), (.ofNat 0, [(.ofNat 1, 4)]), (.ofNat 0, [(.ofNat 1, 5)]), (.ofNat 0, [(.ofNat 1, 6)]), (.ofNat 0, [(.ofNat 1, 7)]), (.ofNat 0, [(.ofNat 1, 8)]), (.ofNat 0, [(.ofNat 1, 9)]), (.ofNat 0, [(.ofNat 1, 10)]), (.ofNat 0, [(.ofNat 1, 11)]), (.ofNat 0, [(.ofNat 1, 12)])]), (55, [(.ofNat 0, [(.ofNat 1, 0)]), (.ofNat 0, [(.ofNat 1, 13)]), (.ofNat 0, [(.ofNat 1, 14)])])] : List sFc), fcOk fFS [s0, s1, s2, s3, s4, s5, s6, s7, s8, s9, s10, s11, s12, s13, s14] hp q := hH.2
  have f0 : Hq (XT hp) s0 s1 s2 s3 s4 s5 s6 s7 s8 s9 s10 s11 s12 ∧ s9 ≠ 4 := fcX (ys := [s0, s1, s2, s3, s4, s5, s6, s7, s8, s9, s10, s11, s12]) (hFc _ (.head _)) ⟨sE_V rfl, sE_V rfl, sE_V rfl, sE_V rfl, sE_V rfl, sE_V rfl, sE_V rfl, sE_V rfl, sE_V rfl, sE_V rfl, sE_V rfl, sE_V rfl, sE_V rfl, trivial⟩
  have f1 : EN (XT hp) s0 s13 s14 := fcX (ys := [s0, s13, s14]) (hFc _ (.tail _ (.head _))) ⟨sE_V rfl, sE_V rfl, sE_V rfl, trivial⟩
  exact poX (.head _) rfl hR (all_nil) (all_nil) (all_cons ⟨[2, s10], ⟨sE_k _ _, sE_V rfl, trivial⟩, (show RS (XT hp) (2 : Int) s10 from en_f2 (XT_ok hO) f0.1 f1 (by omega) (by omega))⟩ (all_nil))
theorem rl127 : ruOk fFS gR127 := by
  intro r hp hO hN hH
  obtain ⟨s0, s1, s2, s3, s4, s5, s6, s7, s8, s9, s10, s11, s12, s13, s14, rfl⟩ := len15 (show r.length = 15 from hN.1)
  have hR := hN.2.1.1
  have hIv : ∀ q ∈ ([(0, .negSucc 2147483647, .ofNat 2147483647), (1, .negSucc 2147483647, .ofNat 2147483647), (2, .negSucc 2147483647, .ofNat 2147483647), (3, .negSucc 2147483647, .ofNat 2147483647), (4, .negSucc 2147483647, .ofNat 2147483647), (5, .negSucc 2147483647, .ofNat 2147483647), (6, .negSucc 2147483647, .ofNat 2147483647), (7, .negSucc 2147483647, .ofNat 2147483647), (8, .negSucc 2147483647, .ofNat 2147483647), (9, .ofNat 2, .ofNat 2), (10, .negSucc 2147483647, .ofNat 2147483647), (11, .negSucc 2147483647, .ofNat 2147483647), (12, .negSucc 2147483647, .ofNat 2147483647), (13, .negSucc 2147483647, .ofNat 2147483647), (14, .negSucc 2147483647, .ofNat 2147483647)] : sIv), ∃ x, ([s0, s1, s2, s3, s4, s5, s6, s7, s8, s9, s10, s11, s12, s13, s14] : List Int)[q.1]? = some x ∧ q.2.1 ≤ x ∧ x ≤ q.2.2 := hN.2.1.2
  have b9 : (2 : Int) ≤ s9 ∧ s9 ≤ (2 : Int) := ivX (q := (9, .ofNat 2, .ofNat 2)) (y := s9) (hIv _ (.tail _ (.tail _ (.tail _ (.tail _ (.tail _ (.tail _ (.tail _ (.tail _ (.tail _ (.head _))))))))))) rfl
  have hCs : ∀ c ∈ ([(.ofNat 1, [(.negSucc 0, 12), (.ofNat 1, 14)])] : List sLn), ∃ x, sE [s0, s1, s2, s3, s4, s5, s6, s7, s8, s9, s10, s11, s12, s13, s14] c = some x ∧ x ≤ 0 := hN.2.2.1
  have c0 : ((1 : Int) + ((-1 : Int) * s12 + ((1 : Int) * s14 + 0))) ≤ 0 := csX (hCs _ (.head _)) rfl
  have hFc : ∀ q ∈ ([(53, [(.ofNat 0, [(.ofNat 1, 0)]), (.ofNat 0, [(.ofNat 1, 1)]), (.ofNat 0, [(.ofNat 1, 2)]), (.ofNat 0, [(.ofNat 1, 3)]), (.ofNat 0, [(.ofNat 1, 4)]), (.ofNat 0, [(.ofNat 1, 5)]), (.ofNat 0, [(.ofNat 1, 6)]), (.ofNat 0, [(.ofNat 1, 7)]), (.ofNat 0, [(.ofNat 1, 8)]), (.ofNat 0, [(.ofNat 1, 9)]), (.ofNat 0, [(.ofNat 1, 10)]), (.ofNat 0, [(.ofNat 1, 11)]), (.ofNat 0, [(.ofNat 1, 12)])]), (55, [(.ofNat 0, [(.ofNat 1, 0)]), (.ofNat 0, [(.ofNat 1, 13)]), (.ofNat 0, [(.ofNat 1, 14)])])] : List sFc), fcOk fFS [s0, s1, s2, s3, s4, s5, s6, s7, s8, s9, s10, s11, s12, s13, s14] hp q := hH.2
  have f0 : Hq (XT hp) s0 s1 s2 s3 s4 s5 s6 s7 s8 s9 s10 s11 s12 ∧ s9 ≠ 4 := fcX (ys := [s0, s1, s2, s3, s4, s5, s6, s7, s8, s9, s10, s11, s12]) (hFc _ (.head _)) ⟨sE_V rfl, sE_V rfl, sE_V rfl, sE_V rfl, sE_V rfl, sE_V rfl, sE_V rfl, sE_V rfl, sE_V rfl, sE_V rfl, sE_V rfl, sE_V rfl, sE_V rfl, trivial⟩
  have f1 : EN (XT hp) s0 s13 s14 := fcX (ys := [s0, s13, s14]) (hFc _ (.tail _ (.head _))) ⟨sE_V rfl, sE_V rfl, sE_V rfl, trivial⟩
  exact poX (.head _) rfl hR (all_nil) (all_nil) (all_cons ⟨[2, s10], ⟨sE_k _ _, sE_V rfl, trivial⟩, (show RS (XT hp) (2 : Int) s10 from en_f2 (XT_ok hO) f0.1 f1 (by omega) (by omega))⟩ (all_nil))
theorem rl128 : ruOk fFS gR128 := by
  intro r hp hO hN hH
  obtain ⟨s0, s1, s2, s3, s4, s5, s6, s7, s8, rfl⟩ := len9 (show r.length = 9 from hN.1)
  have hR := hN.2.1.1
  have hIv : ∀ q ∈ ([(0, .negSucc 2147483647, .ofNat 2147483647), (1, .negSucc 2147483647, .ofNat 2147483647), (2, .negSucc 2147483647, .ofNat 2147483647), (3, .ofNat 2, .ofNat 2), (4, .negSucc 2147483647, .ofNat 2147483647), (5, .negSucc 2147483647, .ofNat 2147483647), (6, .negSucc 2147483647, .ofNat 2147483647), (7, .negSucc 2147483647, .ofNat 2147483647), (8, .negSucc 2147483647, .ofNat 2147483647)] : sIv), ∃ x, ([s0, s1, s2, s3, s4, s5, s6, s7, s8] : List Int)[q.1]? = some x ∧ q.2.1 ≤ x ∧ x ≤ q.2.2 := hN.2.1.2
  have b3 : (2 : Int) ≤ s3 ∧ s3 ≤ (2 : Int) := ivX (q := (3, .ofNat 2, .ofNat 2)) (y := s3) (hIv _ (.tail _ (.tail _ (.tail _ (.head _))))) rfl
  have hCs : ∀ c ∈ ([(.ofNat 1, [(.ofNat 1, 6), (.negSucc 0, 7)])] : List sLn), ∃ x, sE [s0, s1, s2, s3, s4, s5, s6, s7, s8] c = some x ∧ x ≤ 0 := hN.2.2.1
  have c0 : ((1 : Int) + ((1 : Int) * s6 + ((-1 : Int) * s7 + 0))) ≤ 0 := csX (hCs _ (.head _)) rfl
  have hFc : ∀ q ∈ ([(241, [(.ofNat 0, [(.ofNat 1, 0)]), (.ofNat 0, [(.ofNat 1, 1)]), (.ofNat 0, [(.ofNat 1, 2)]), (.ofNat 0, [(.ofNat 1, 3)]), (.ofNat 0, [(.ofNat 1, 4)]), (.ofNat 0, [(.ofNat 1, 5)]), (.ofNat 0, [(.ofNat 1, 6)])]), (245, [(.ofNat 0, [(.ofNat 1, 0)]), (.ofNat 0, [(.ofNat 1, 7)]), (.ofNat 0, [(.ofNat 1, 8)])])] : List sFc), fcOk fFS [s0, s1, s2, s3, s4, s5, s6, s7, s8] hp q := hH.2
  have f0 : roH (XT hp) (nmR hp (xnm hp)) (hI hp (hC hp 0 6) 0) (hI hp (hC hp 0 6) 1) s0 s1 s2 s3 s4 s5 s6 ∧ s3 ≠ 4 := fcX (ys := [s0, s1, s2, s3, s4, s5, s6]) (hFc _ (.head _)) ⟨sE_V rfl, sE_V rfl, sE_V rfl, sE_V rfl, sE_V rfl, sE_V rfl, sE_V rfl, trivial⟩
  have f1 : roB (XT hp) (nmR hp (xnm hp)) (hI hp (hC hp 0 6) 0) (hI hp (hC hp 0 6) 1) s0 s7 s8 := fcX (ys := [s0, s7, s8]) (hFc _ (.tail _ (.head _))) ⟨sE_V rfl, sE_V rfl, sE_V rfl, trivial⟩
  exact poX (.head _) rfl hR (all_nil) (all_nil) (all_cons ⟨[2, s4], ⟨sE_k _ _, sE_V rfl, trivial⟩, (show roS (XT hp) (nmR hp (xnm hp)) (hI hp (hC hp 0 6) 0) (hI hp (hC hp 0 6) 1) (2 : Int) s4 from ron_f2 (XT_ok hO) f0.1 f1 (by omega) (by omega))⟩ (all_nil))
theorem rl129 : ruOk fFS gR129 := by
  intro r hp hO hN hH
  obtain ⟨s0, s1, s2, s3, s4, s5, s6, s7, s8, rfl⟩ := len9 (show r.length = 9 from hN.1)
  have hR := hN.2.1.1
  have hIv : ∀ q ∈ ([(0, .negSucc 2147483647, .ofNat 2147483647), (1, .negSucc 2147483647, .ofNat 2147483647), (2, .negSucc 2147483647, .ofNat 2147483647), (3, .ofNat 2, .ofNat 2), (4, .negSucc 2147483647, .ofNat 2147483647), (5, .negSucc 2147483647, .ofNat 2147483647), (6, .negSucc 2147483647, .ofNat 2147483647), (7, .negSucc 2147483647, .ofNat 2147483647), (8, .negSucc 2147483647, .ofNat 2147483647)] : sIv), ∃ x, ([s0, s1, s2, s3, s4, s5, s6, s7, s8] : List Int)[q.1]? = some x ∧ q.2.1 ≤ x ∧ x ≤ q.2.2 := hN.2.1.2
  have b3 : (2 : Int) ≤ s3 ∧ s3 ≤ (2 : Int) := ivX (q := (3, .ofNat 2, .ofNat 2)) (y := s3) (hIv _ (.tail _ (.tail _ (.tail _ (.head _))))) rfl
  have hCs : ∀ c ∈ ([(.ofNat 1, [(.negSucc 0, 6), (.ofNat 1, 8)])] : List sLn), ∃ x, sE [s0, s1, s2, s3, s4, s5, s6, s7, s8] c = some x ∧ x ≤ 0 := hN.2.2.1
  have c0 : ((1 : Int) + ((-1 : Int) * s6 + ((1 : Int) * s8 + 0))) ≤ 0 := csX (hCs _ (.head _)) rfl
  have hFc : ∀ q ∈ ([(241, [(.ofNat 0, [(.ofNat 1, 0)]), (.ofNat 0, [(.ofNat 1, 1)]), (.ofNat 0, [(.ofNat 1, 2)]), (.ofNat 0, [(.ofNat 1, 3)]), (.ofNat 0, [(.ofNat 1, 4)]), (.ofNat 0, [(.ofNat 1, 5)]), (.ofNat 0, [(.ofNat 1, 6)])]), (245, [(.ofNat 0, [(.ofNat 1, 0)]), (.ofNat 0, [(.ofNat 1, 7)]), (.ofNat 0, [(.ofNat 1, 8)])])] : List sFc), fcOk fFS [s0, s1, s2, s3, s4, s5, s6, s7, s8] hp q := hH.2
  have f0 : roH (XT hp) (nmR hp (xnm hp)) (hI hp (hC hp 0 6) 0) (hI hp (hC hp 0 6) 1) s0 s1 s2 s3 s4 s5 s6 ∧ s3 ≠ 4 := fcX (ys := [s0, s1, s2, s3, s4, s5, s6]) (hFc _ (.head _)) ⟨sE_V rfl, sE_V rfl, sE_V rfl, sE_V rfl, sE_V rfl, sE_V rfl, sE_V rfl, trivial⟩
  have f1 : roB (XT hp) (nmR hp (xnm hp)) (hI hp (hC hp 0 6) 0) (hI hp (hC hp 0 6) 1) s0 s7 s8 := fcX (ys := [s0, s7, s8]) (hFc _ (.tail _ (.head _))) ⟨sE_V rfl, sE_V rfl, sE_V rfl, trivial⟩
  exact poX (.head _) rfl hR (all_nil) (all_nil) (all_cons ⟨[2, s4], ⟨sE_k _ _, sE_V rfl, trivial⟩, (show roS (XT hp) (nmR hp (xnm hp)) (hI hp (hC hp 0 6) 0) (hI hp (hC hp 0 6) 1) (2 : Int) s4 from ron_f2 (XT_ok hO) f0.1 f1 (by omega) (by omega))⟩ (all_nil))
theorem rl130 : ruOk fFS gR130 := by
  intro r hp hO hN hH
  obtain ⟨s0, s1, s2, s3, s4, s5, s6, s7, s8, s9, s10, s11, s12, s13, s14, rfl⟩ := len15 (show r.length = 15 from hN.1)
  have hR := hN.2.1.1
  have hIv : ∀ q ∈ ([(0, .negSucc 2147483647, .ofNat 2147483647), (1, .negSucc 2147483647, .ofNat 2147483647), (2, .negSucc 2147483647, .ofNat 2147483647), (3, .negSucc 2147483647, .ofNat 2147483647), (4, .negSucc 2147483647, .ofNat 2147483647), (5, .negSucc 2147483647, .ofNat 2147483647), (6, .negSucc 2147483647, .ofNat 2147483647), (7, .negSucc 2147483647, .ofNat 2147483647), (8, .negSucc 2147483647, .ofNat 2147483647), (9, .ofNat 2, .ofNat 2), (10, .negSucc 2147483647, .ofNat 2147483647), (11, .negSucc 2147483647, .ofNat 2147483647), (12, .negSucc 2147483647, .ofNat 2147483647), (13, .negSucc 2147483647, .ofNat 2147483647), (14, .negSucc 2147483647, .ofNat 2147483647)] : sIv), ∃ x, ([s0, s1, s2, s3, s4, s5, s6, s7, s8, s9, s10, s11, s12, s13, s14] : List Int)[q.1]? = some x ∧ q.2.1 ≤ x ∧ x ≤ q.2.2 := hN.2.1.2
  have b9 : (2 : Int) ≤ s9 ∧ s9 ≤ (2 : Int) := ivX (q := (9, .ofNat 2, .ofNat 2)) (y := s9) (hIv _ (.tail _ (.tail _ (.tail _ (.tail _ (.tail _ (.tail _ (.tail _ (.tail _ (.tail _ (.head _))))))))))) rfl
  have hCs : ∀ c ∈ ([(.ofNat 0, [(.negSucc 0, 12), (.ofNat 1, 13)]), (.ofNat 0, [(.ofNat 1, 12), (.negSucc 0, 14)])] : List sLn), ∃ x, sE [s0, s1, s2, s3, s4, s5, s6, s7, s8, s9, s10, s11, s12, s13, s14] c = some x ∧ x ≤ 0 := hN.2.2.1
  have c0 : ((0 : Int) + ((-1 : Int) * s12 + ((1 : Int) * s13 + 0))) ≤ 0 := csX (hCs _ (.head _)) rfl
  have c1 : ((0 : Int) + ((1 : Int) * s12 + ((-1 : Int) * s14 + 0))) ≤ 0 := csX (hCs _ (.tail _ (.head _))) rfl
  have hFc : ∀ q ∈ ([(53, [(.ofNat 0, [(.ofNat 1, 0)]), (.ofNat 0, [(.ofNat 1, 1)]), (.ofNat 0, [(.ofNat 1, 2)]), (.ofNat 0, [(.ofNat 1, 3)]), (.ofNat 0, [(.ofNat 1, 4)]), (.ofNat 0, [(.ofNat 1, 5)]), (.ofNat 0, [(.ofNat 1, 6)]), (.ofNat 0, [(.ofNat 1, 7)]), (.ofNat 0, [(.ofNat 1, 8)]), (.ofNat 0, [(.ofNat 1, 9)]), (.ofNat 0, [(.ofNat 1, 10)]), (.ofNat 0, [(.ofNat 1, 11)]), (.ofNat 0, [(.ofNat 1, 12)])]), (55, [(.ofNat 0, [(.ofNat 1, 0)]), (.ofNat 0, [(.ofNat 1, 13)]), (.ofNat 0, [(.ofNat 1, 14)])])] : List sFc), fcOk fFS [s0, s1, s2, s3, s4, s5, s6, s7, s8, s9, s10, s11, s12, s13, s14] hp q := hH.2
  have f0 : Hq (XT hp) s0 s1 s2 s3 s4 s5 s6 s7 s8 s9 s10 s11 s12 ∧ s9 ≠ 4 := fcX (ys := [s0, s1, s2, s3, s4, s5, s6, s7, s8, s9, s10, s11, s12]) (hFc _ (.head _)) ⟨sE_V rfl, sE_V rfl, sE_V rfl, sE_V rfl, sE_V rfl, sE_V rfl, sE_V rfl, sE_V rfl, sE_V rfl, sE_V rfl, sE_V rfl, sE_V rfl, sE_V rfl, trivial⟩
  have f1 : EN (XT hp) s0 s13 s14 := fcX (ys := [s0, s13, s14]) (hFc _ (.tail _ (.head _))) ⟨sE_V rfl, sE_V rfl, sE_V rfl, trivial⟩
  exact poX (.head _) rfl hR (all_nil) (all_nil) (all_cons ⟨[s0], ⟨sE_V rfl, trivial⟩, (show NO (XT hp) s0 from en_no f0.1 f1 (by omega) (by omega) (by omega))⟩ (all_nil))
theorem rl131 : ruOk fFS gR131 := by
  intro r hp hO hN hH
  obtain ⟨s0, s1, s2, s3, s4, s5, s6, s7, s8, rfl⟩ := len9 (show r.length = 9 from hN.1)
  have hR := hN.2.1.1
  have hIv : ∀ q ∈ ([(0, .negSucc 2147483647, .ofNat 2147483647), (1, .negSucc 2147483647, .ofNat 2147483647), (2, .negSucc 2147483647, .ofNat 2147483647), (3, .ofNat 2, .ofNat 2), (4, .negSucc 2147483647, .ofNat 2147483647), (5, .negSucc 2147483647, .ofNat 2147483647), (6, .negSucc 2147483647, .ofNat 2147483647), (7, .negSucc 2147483647, .ofNat 2147483647), (8, .negSucc 2147483647, .ofNat 2147483647)] : sIv), ∃ x, ([s0, s1, s2, s3, s4, s5, s6, s7, s8] : List Int)[q.1]? = some x ∧ q.2.1 ≤ x ∧ x ≤ q.2.2 := hN.2.1.2
  have b3 : (2 : Int) ≤ s3 ∧ s3 ≤ (2 : Int) := ivX (q := (3, .ofNat 2, .ofNat 2)) (y := s3) (hIv _ (.tail _ (.tail _ (.tail _ (.head _))))) rfl
  have hCs : ∀ c ∈ ([(.ofNat 0, [(.negSucc 0, 6), (.ofNat 1, 7)]), (.ofNat 0, [(.ofNat 1, 6), (.negSucc 0, 8)])] : List sLn), ∃ x, sE [s0, s1, s2, s3, s4, s5, s6, s7, s8] c = some x ∧ x ≤ 0 := hN.2.2.1
  have c0 : ((0 : Int) + ((-1 : Int) * s6 + ((1 : Int) * s7 + 0))) ≤ 0 := csX (hCs _ (.head _)) rfl
  have c1 : ((0 : Int) + ((1 : Int) * s6 + ((-1 : Int) * s8 + 0))) ≤ 0 := csX (hCs _ (.tail _ (.head _))) rfl
  have hFc : ∀ q ∈ ([(241, [(.ofNat 0, [(.ofNat 1, 0)]), (.ofNat 0, [(.ofNat 1, 1)]), (.ofNat 0, [(.ofNat 1, 2)]), (.ofNat 0, [(.ofNat 1, 3)]), (.ofNat 0, [(.ofNat 1, 4)]), (.ofNat 0, [(.ofNat 1, 5)]), (.ofNat 0, [(.ofNat 1, 6)])]), (245, [(.ofNat 0, [(.ofNat 1, 0)]), (.ofNat 0, [(.ofNat 1, 7)]), (.ofNat 0, [(.ofNat 1, 8)])])] : List sFc), fcOk fFS [s0, s1, s2, s3, s4, s5, s6, s7, s8] hp q := hH.2
  have f0 : roH (XT hp) (nmR hp (xnm hp)) (hI hp (hC hp 0 6) 0) (hI hp (hC hp 0 6) 1) s0 s1 s2 s3 s4 s5 s6 ∧ s3 ≠ 4 := fcX (ys := [s0, s1, s2, s3, s4, s5, s6]) (hFc _ (.head _)) ⟨sE_V rfl, sE_V rfl, sE_V rfl, sE_V rfl, sE_V rfl, sE_V rfl, sE_V rfl, trivial⟩
  have f1 : roB (XT hp) (nmR hp (xnm hp)) (hI hp (hC hp 0 6) 0) (hI hp (hC hp 0 6) 1) s0 s7 s8 := fcX (ys := [s0, s7, s8]) (hFc _ (.tail _ (.head _))) ⟨sE_V rfl, sE_V rfl, sE_V rfl, trivial⟩
  exact poX (.head _) rfl hR (all_nil) (all_nil) (all_cons ⟨[s0], ⟨sE_V rfl, trivial⟩, (show roK (XT hp) (nmR hp (xnm hp)) (hI hp (hC hp 0 6) 0) (hI hp (hC hp 0 6) 1) s0 from ron_k (XT_ok hO) f0.1 f1 (by omega) (by omega) (by omega))⟩ (all_nil))
theorem rl132 : ruOk fFS gR132 := by
  intro r hp hO hN hH
  obtain ⟨s0, s1, s2, s3, s4, s5, s6, s7, s8, s9, s10, s11, s12, s13, s14, rfl⟩ := len15 (show r.length = 15 from hN.1)
  have hR := hN.2.1.1
  have hIv : ∀ q ∈ ([(0, .negSucc 2147483647, .ofNat 2147483647), (1, .negSucc 2147483647, .ofNat 2147483647), (2, .negSucc 2147483647, .ofNat 2147483647), (3, .negSucc 2147483647, .ofNat 2147483647), (4, .negSucc 2147483647, .ofNat 2147483647), (5, .negSucc 2147483647, .ofNat 2147483647), (6, .negSucc 2147483647, .ofNat 2147483647), (7, .negSucc 2147483647, .ofNat 2147483647), (8, .negSucc 2147483647, .ofNat 2147483647), (9, .ofNat 3, .ofNat 3), (10, .negSucc 2147483647, .ofNat 2147483647), (11, .negSucc 2147483647, .ofNat 2147483647), (12, .negSucc 2147483647, .ofNat 2147483647), (13, .negSucc 2147483647, .ofNat 2147483647), (14, .negSucc 2147483647, .ofNat 2147483647)] : sIv), ∃ x, ([s0, s1, s2, s3, s4, s5, s6, s7, s8, s9, s10, s11, s12, s13, s14] : List Int)[q.1]? = some x ∧ q.2.1 ≤ x ∧ x ≤ q.2.2 := hN.2.1.2
  have b9 : (3 : Int) ≤ s9 ∧ s9 ≤ (3 : Int) := ivX (q := (9, .ofNat 3, .ofNat 3)) (y := s9) (hIv _ (.tail _ (.tail _ (.tail _ (.tail _ (.tail _ (.tail _ (.tail _ (.tail _ (.tail _ (.head _))))))))))) rfl
  have hFc : ∀ q ∈ ([(53, [(.ofNat 0, [(.ofNat 1, 0)]), (.ofNat 0, [(.ofNat 1, 1)]), (.ofNat 0, [(.ofNat 1, 2)]), (.ofNat 0, [(.ofNat 1, 3)]), (.ofNat 0, [(.ofNat 1, 4)]), (.ofNat 0, [(.ofNat 1, 5)]), (.ofNat 0, [(.ofNat 1, 6)]), (.ofNat 0, [(.ofNat 1, 7)]), (.ofNat 0, [(.ofNat 1, 8)]), (.ofNat 0, [(.ofNat 1, 9)]), (.ofNat 0, [(.ofNat 1, 10)]), (.ofNat 0, [(.ofNat 1, 11)]), (.ofNat 0, [(.ofNat 1, 12)])]), (55, [(.ofNat 0, [(.ofNat 1, 0)]), (.ofNat 0, [(.ofNat 1, 13)]), (.ofNat 0, [(.ofNat 1, 14)])])] : List sFc), fcOk fFS [s0, s1, s2, s3, s4, s5, s6, s7, s8, s9, s10, s11, s12, s13, s14] hp q := hH.2
  have f0 : Hq (XT hp) s0 s1 s2 s3 s4 s5 s6 s7 s8 s9 s10 s11 s12 ∧ s9 ≠ 4 := fcX (ys := [s0, s1, s2, s3, s4, s5, s6, s7, s8, s9, s10, s11, s12]) (hFc _ (.head _)) ⟨sE_V rfl, sE_V rfl, sE_V rfl, sE_V rfl, sE_V rfl, sE_V rfl, sE_V rfl, sE_V rfl, sE_V rfl, sE_V rfl, sE_V rfl, sE_V rfl, sE_V rfl, trivial⟩
  have f1 : EN (XT hp) s0 s13 s14 := fcX (ys := [s0, s13, s14]) (hFc _ (.tail _ (.head _))) ⟨sE_V rfl, sE_V rfl, sE_V rfl, trivial⟩
  exact poX (.head _) rfl hR (all_nil) (all_nil) (all_cons ⟨[1, s10], ⟨sE_k _ _, sE_V rfl, trivial⟩, (show RS (XT hp) (1 : Int) s10 from en_f1 (XT_ok hO) f0.1 f1 (by omega))⟩ (all_nil))
theorem rl133 : ruOk fFS gR133 := by
  intro r hp hO hN hH
  obtain ⟨s0, s1, s2, s3, rfl⟩ := len4 (show r.length = 4 from hN.1)
  have hR := hN.2.1.1
  have hIv : ∀ q ∈ ([(0, .negSucc 2147483647, .ofNat 2147483647), (1, .negSucc 2147483647, .ofNat 2147483647), (2, .negSucc 2147483647, .ofNat 2147483647), (3, .negSucc 2147483647, .ofNat 2147483647)] : sIv), ∃ x, ([s0, s1, s2, s3] : List Int)[q.1]? = some x ∧ q.2.1 ≤ x ∧ x ≤ q.2.2 := hN.2.1.2
  have hFc : ∀ q ∈ ([(75, [(.ofNat 0, [(.ofNat 1, 2)]), (.ofNat 0, [(.ofNat 1, 3)])])] : List sFc), fcOk fFS [s0, s1, s2, s3] hp q := hH.2
  have f0 : dF (XT hp) s3 (fun D => s2 = (dWi D).length ∧ ∀ i : Nat, i < 8 → (i : Int) < s2 → (dWi D)[i]? = some (hI hp (rr hp 1 16) i, hI hp (rr hp 1 17) i)) := fcX (ys := [s2, s3]) (hFc _ (.head _)) ⟨sE_V rfl, sE_V rfl, trivial⟩
  exact poX (.head _) rfl hR (all_nil) (all_nil) (all_cons ⟨[0, s3, s0, s1], ⟨sE_k _ _, sE_V rfl, sE_V rfl, sE_V rfl, trivial⟩, (show ∀ i : Nat, i < 8 → (i : Int) < (0 : Int) → ¬ (hI hp (rr hp 1 16) i = s0 ∧ hI hp (rr hp 1 17) i = s1) from fun i _ w => absurd w (by omega))⟩ (all_nil))
theorem rl134 : ruOk fFS gR134 := by
  intro r hp hO hN hH
  obtain ⟨s0, s1, s2, s3, rfl⟩ := len4 (show r.length = 4 from hN.1)
  have hR := hN.2.1.1
  have hIv : ∀ q ∈ ([(0, .negSucc 2147483647, .ofNat 2147483647), (1, .ofNat 0, .ofNat 7), (3, .negSucc 2147483647, .ofNat 2147483647)] : sIv), ∃ x, ([s0, s1, s2, s3] : List Int)[q.1]? = some x ∧ q.2.1 ≤ x ∧ x ≤ q.2.2 := hN.2.1.2
  have b1 : (0 : Int) ≤ s1 ∧ s1 ≤ (7 : Int) := ivX (q := (1, .ofNat 0, .ofNat 7)) (y := s1) (hIv _ (.tail _ (.head _))) rfl
  have hRf : ∀ q ∈ ([((43, .ofNat 176, []), (.ofNat 1, []), 114, .ofNat 15, []), ((98, .ofNat 15, []), (.ofNat 16, []), 28, .ofNat 0, [(.ofNat 1, 2)]), ((12, .ofNat 0, [(.ofNat 1, 2)]), (.ofNat 0, [(.ofNat 1, 1)]), 1, .ofNat 0, [(.ofNat 1, 3)])] : List sRf), rfOk [s0, s1, s2, s3] hp q := hH.1
  have g0 : hC hp 176 1 = 15 := by
    have u := rfR0 (xv := (15 : Int)) (c0 := 176) (i0 := 1) (hRf _ (.head _)) (sE_k _ _) (sE_k _ _) (sE_k _ _)
    show hC hp (176) 1 = 15
    omega
  have g1 : s2 = ((rr hp 1 16 : Nat) : Int) := rfR0 (c0 := hC hp 176 1) (hRf _ (.tail _ (.head _))) (by rw [g0]; exact sE_k _ _) (sE_k _ _) (sE_V rfl)
  obtain ⟨i2, e2, l2, h2⟩ := rfI (xv := s3) (iv := s1) (hRf _ (.tail _ (.tail _ (.head _)))) (sEv (sE_V rfl) g1.symm) (sE_V rfl) (sE_V rfl)
  have l2 : i2 < 8 := l2
  have h2 : hI hp (rr hp 1 16) i2 = s3 := h2
  have y : (((1 : Int) + ((-1 : Int) * s0 + ((1 : Int) * s3 + 0))) ≤ 0) ∨ (((0 : Int) + ((-1 : Int) * s0 + ((1 : Int) * s3 + 0))) ≤ 0 ∧ ((0 : Int) + ((1 : Int) * s0 + ((-1 : Int) * s3 + 0))) ≤ 0) ∨ (((1 : Int) + ((1 : Int) * s0 + ((-1 : Int) * s3 + 0))) ≤ 0) := by omega
  rcases y with y | y | y
  · exact poX (.head _) rfl hR (all_nil) (all_cons ⟨((1 : Int) + ((-1 : Int) * s0 + ((1 : Int) * s3 + 0))), rfl, (show ((1 : Int) + ((-1 : Int) * s0 + ((1 : Int) * s3 + 0))) ≤ 0 by omega)⟩ (all_nil)) (all_nil)
  · exact poX (.tail _ (.head _)) rfl hR (all_nil) (all_cons ⟨((0 : Int) + ((-1 : Int) * s0 + ((1 : Int) * s3 + 0))), rfl, (show ((0 : Int) + ((-1 : Int) * s0 + ((1 : Int) * s3 + 0))) ≤ 0 by omega)⟩ (all_cons ⟨((0 : Int) + ((1 : Int) * s0 + ((-1 : Int) * s3 + 0))), rfl, (show ((0 : Int) + ((1 : Int) * s0 + ((-1 : Int) * s3 + 0))) ≤ 0 by omega)⟩ (all_nil))) (all_nil)
  · exact poX (.tail _ (.tail _ (.head _))) rfl hR (all_nil) (all_cons ⟨((1 : Int) + ((1 : Int) * s0 + ((-1 : Int) * s3 + 0))), rfl, (show ((1 : Int) + ((1 : Int) * s0 + ((-1 : Int) * s3 + 0))) ≤ 0 by omega)⟩ (all_nil)) (all_nil)
theorem rl135 : ruOk fFS gR135 := by
  intro r hp hO hN hH
  obtain ⟨s0, s1, s2, s3, rfl⟩ := len4 (show r.length = 4 from hN.1)
  have hR := hN.2.1.1
  have hIv : ∀ q ∈ ([(0, .negSucc 2147483647, .ofNat 2147483647), (1, .ofNat 0, .ofNat 7), (3, .negSucc 2147483647, .ofNat 2147483647)] : sIv), ∃ x, ([s0, s1, s2, s3] : List Int)[q.1]? = some x ∧ q.2.1 ≤ x ∧ x ≤ q.2.2 := hN.2.1.2
  have b1 : (0 : Int) ≤ s1 ∧ s1 ≤ (7 : Int) := ivX (q := (1, .ofNat 0, .ofNat 7)) (y := s1) (hIv _ (.tail _ (.head _))) rfl
  have hRf : ∀ q ∈ ([((43, .ofNat 176, []), (.ofNat 1, []), 114, .ofNat 15, []), ((98, .ofNat 15, []), (.ofNat 17, []), 29, .ofNat 0, [(.ofNat 1, 2)]), ((13, .ofNat 0, [(.ofNat 1, 2)]), (.ofNat 0, [(.ofNat 1, 1)]), 1, .ofNat 0, [(.ofNat 1, 3)])] : List sRf), rfOk [s0, s1, s2, s3] hp q := hH.1
  have g0 : hC hp 176 1 = 15 := by
    have u := rfR0 (xv := (15 : Int)) (c0 := 176) (i0 := 1) (hRf _ (.head _)) (sE_k _ _) (sE_k _ _) (sE_k _ _)
    show hC hp (176) 1 = 15
    omega
  have g1 : s2 = ((rr hp 1 17 : Nat) : Int) := rfR0 (c0 := hC hp 176 1) (hRf _ (.tail _ (.head _))) (by rw [g0]; exact sE_k _ _) (sE_k _ _) (sE_V rfl)
  obtain ⟨i2, e2, l2, h2⟩ := rfI (xv := s3) (iv := s1) (hRf _ (.tail _ (.tail _ (.head _)))) (sEv (sE_V rfl) g1.symm) (sE_V rfl) (sE_V rfl)
  have l2 : i2 < 8 := l2
  have h2 : hI hp (rr hp 1 17) i2 = s3 := h2
  have y : (((1 : Int) + ((-1 : Int) * s0 + ((1 : Int) * s3 + 0))) ≤ 0) ∨ (((0 : Int) + ((-1 : Int) * s0 + ((1 : Int) * s3 + 0))) ≤ 0 ∧ ((0 : Int) + ((1 : Int) * s0 + ((-1 : Int) * s3 + 0))) ≤ 0) ∨ (((1 : Int) + ((1 : Int) * s0 + ((-1 : Int) * s3 + 0))) ≤ 0) := by omega
  rcases y with y | y | y
  · exact poX (.head _) rfl hR (all_nil) (all_cons ⟨((1 : Int) + ((-1 : Int) * s0 + ((1 : Int) * s3 + 0))), rfl, (show ((1 : Int) + ((-1 : Int) * s0 + ((1 : Int) * s3 + 0))) ≤ 0 by omega)⟩ (all_nil)) (all_nil)
  · exact poX (.tail _ (.head _)) rfl hR (all_nil) (all_cons ⟨((0 : Int) + ((-1 : Int) * s0 + ((1 : Int) * s3 + 0))), rfl, (show ((0 : Int) + ((-1 : Int) * s0 + ((1 : Int) * s3 + 0))) ≤ 0 by omega)⟩ (all_cons ⟨((0 : Int) + ((1 : Int) * s0 + ((-1 : Int) * s3 + 0))), rfl, (show ((0 : Int) + ((1 : Int) * s0 + ((-1 : Int) * s3 + 0))) ≤ 0 by omega)⟩ (all_nil))) (all_nil)
  · exact poX (.tail _ (.tail _ (.head _))) rfl hR (all_nil) (all_cons ⟨((1 : Int) + ((1 : Int) * s0 + ((-1 : Int) * s3 + 0))), rfl, (show ((1 : Int) + ((1 : Int) * s0 + ((-1 : Int) * s3 + 0))) ≤ 0 by omega)⟩ (all_nil)) (all_nil)
theorem rl136 : ruOk fFS gR136 := by
  intro r hp hO hN hH
  obtain ⟨s0, s1, s2, s3, s4, s5, s6, s7, s8, rfl⟩ := len9 (show r.length = 9 from hN.1)
  have hR := hN.2.1.1
  have hIv : ∀ q ∈ ([(0, .negSucc 2147483647, .ofNat 2147483647), (1, .negSucc 2147483647, .ofNat 2147483647), (2, .ofNat 0, .ofNat 7), (5, .negSucc 2147483647, .ofNat 2147483647), (6, .negSucc 2147483647, .ofNat 2147483647), (7, .negSucc 2147483647, .ofNat 2147483647), (8, .negSucc 2147483647, .ofNat 2147483647)] : sIv), ∃ x, ([s0, s1, s2, s3, s4, s5, s6, s7, s8] : List Int)[q.1]? = some x ∧ q.2.1 ≤ x ∧ x ≤ q.2.2 := hN.2.1.2
  have b2 : (0 : Int) ≤ s2 ∧ s2 ≤ (7 : Int) := ivX (q := (2, .ofNat 0, .ofNat 7)) (y := s2) (hIv _ (.tail _ (.tail _ (.head _)))) rfl
  have hCs : ∀ c ∈ ([(.ofNat 1, [(.negSucc 0, 0), (.ofNat 1, 5)])] : List sLn), ∃ x, sE [s0, s1, s2, s3, s4, s5, s6, s7, s8] c = some x ∧ x ≤ 0 := hN.2.2.1
  have c0 : ((1 : Int) + ((-1 : Int) * s0 + ((1 : Int) * s5 + 0))) ≤ 0 := csX (hCs _ (.head _)) rfl
  have hRf : ∀ q ∈ ([((43, .ofNat 176, []), (.ofNat 1, []), 114, .ofNat 15, []), ((98, .ofNat 15, []), (.ofNat 16, []), 28, .ofNat 0, [(.ofNat 1, 3)]), ((98, .ofNat 15, []), (.ofNat 17, []), 29, .ofNat 0, [(.ofNat 1, 4)]), ((12, .ofNat 0, [(.ofNat 1, 3)]), (.ofNat 0, [(.ofNat 1, 2)]), 1, .ofNat 0, [(.ofNat 1, 5)]), ((13, .ofNat 0, [(.ofNat 1, 4)]), (.ofNat 0, [(.ofNat 1, 2)]), 1, .ofNat 0, [(.ofNat 1, 6)]), ((98, .ofNat 15, []), (.ofNat 5, []), 1, .ofNat 0, [(.ofNat 1, 7)])] : List sRf), rfOk [s0, s1, s2, s3, s4, s5, s6, s7, s8] hp q := hH.1
  have g0 : hC hp 176 1 = 15 := by
    have u := rfR0 (xv := (15 : Int)) (c0 := 176) (i0 := 1) (hRf _ (.head _)) (sE_k _ _) (sE_k _ _) (sE_k _ _)
    show hC hp (176) 1 = 15
    omega
  have g1 : s3 = ((rr hp 1 16 : Nat) : Int) := rfR0 (c0 := hC hp 176 1) (hRf _ (.tail _ (.head _))) (by rw [g0]; exact sE_k _ _) (sE_k _ _) (sE_V rfl)
  have g2 : s4 = ((rr hp 1 17 : Nat) : Int) := rfR0 (c0 := hC hp 176 1) (hRf _ (.tail _ (.tail _ (.head _)))) (by rw [g0]; exact sE_k _ _) (sE_k _ _) (sE_V rfl)
  obtain ⟨i3, e3, l3, h3⟩ := rfI (xv := s5) (iv := s2) (hRf _ (.tail _ (.tail _ (.tail _ (.head _))))) (sEv (sE_V rfl) g1.symm) (sE_V rfl) (sE_V rfl)
  have l3 : i3 < 8 := l3
  have h3 : hI hp (rr hp 1 16) i3 = s5 := h3
  obtain ⟨i4, e4, l4, h4⟩ := rfI (xv := s6) (iv := s2) (hRf _ (.tail _ (.tail _ (.tail _ (.tail _ (.head _)))))) (sEv (sE_V rfl) g2.symm) (sE_V rfl) (sE_V rfl)
  have l4 : i4 < 8 := l4
  have h4 : hI hp (rr hp 1 17) i4 = s6 := h4
  have h5 : hI hp (hC hp 176 1) 5 = s7 := rfI0 (c0 := hC hp 176 1) (hRf _ (.tail _ (.tail _ (.tail _ (.tail _ (.tail _ (.head _))))))) (by rw [g0]; exact sE_k _ _) (sE_k _ _) (sE_V rfl)
  have hFc : ∀ q ∈ ([(95, [(.ofNat 0, [(.ofNat 1, 2)]), (.ofNat 0, [(.ofNat 1, 8)]), (.ofNat 0, [(.ofNat 1, 0)]), (.ofNat 0, [(.ofNat 1, 1)])])] : List sFc), fcOk fFS [s0, s1, s2, s3, s4, s5, s6, s7, s8] hp q := hH.2
  have f0 : ∀ i : Nat, i < 8 → (i : Int) < s2 → ¬ (hI hp (rr hp 1 16) i = s0 ∧ hI hp (rr hp 1 17) i = s1) := fcX (ys := [s2, s8, s0, s1]) (hFc _ (.head _)) ⟨sE_V rfl, sE_V rfl, sE_V rfl, sE_V rfl, trivial⟩
  exact poX (.head _) rfl hR (all_nil) (all_nil) (all_cons ⟨[(s2 + 1), s8, s0, s1], ⟨sEv (y' := ((1 : Int) + ((1 : Int) * s2 + 0))) rfl (by omega), sE_V rfl, sE_V rfl, sE_V rfl, trivial⟩, (show ∀ i : Nat, i < 8 → (i : Int) < (s2 + 1) → ¬ (hI hp (rr hp 1 16) i = s0 ∧ hI hp (rr hp 1 17) i = s1) from nn_s f0 h3 h4 (by omega) (by omega) (by omega) (by omega))⟩ (all_nil))
theorem rl137 : ruOk fFS gR137 := by
  intro r hp hO hN hH
  obtain ⟨s0, s1, s2, s3, s4, s5, s6, s7, s8, rfl⟩ := len9 (show r.length = 9 from hN.1)
  have hR := hN.2.1.1
  have hIv : ∀ q ∈ ([(0, .negSucc 2147483647, .ofNat 2147483647), (1, .negSucc 2147483647, .ofNat 2147483647), (2, .ofNat 0, .ofNat 7), (5, .negSucc 2147483647, .ofNat 2147483647), (6, .negSucc 2147483647, .ofNat 2147483647), (7, .negSucc 2147483647, .ofNat 2147483647), (8, .negSucc 2147483647, .ofNat 2147483647)] : sIv), ∃ x, ([s0, s1, s2, s3, s4, s5, s6, s7, s8] : List Int)[q.1]? = some x ∧ q.2.1 ≤ x ∧ x ≤ q.2.2 := hN.2.1.2
  have b2 : (0 : Int) ≤ s2 ∧ s2 ≤ (7 : Int) := ivX (q := (2, .ofNat 0, .ofNat 7)) (y := s2) (hIv _ (.tail _ (.tail _ (.head _)))) rfl
  have hCs : ∀ c ∈ ([(.ofNat 1, [(.ofNat 1, 0), (.negSucc 0, 5)])] : List sLn), ∃ x, sE [s0, s1, s2, s3, s4, s5, s6, s7, s8] c = some x ∧ x ≤ 0 := hN.2.2.1
  have c0 : ((1 : Int) + ((1 : Int) * s0 + ((-1 : Int) * s5 + 0))) ≤ 0 := csX (hCs _ (.head _)) rfl
  have hRf : ∀ q ∈ ([((43, .ofNat 176, []), (.ofNat 1, []), 114, .ofNat 15, []), ((98, .ofNat 15, []), (.ofNat 16, []), 28, .ofNat 0, [(.ofNat 1, 3)]), ((98, .ofNat 15, []), (.ofNat 17, []), 29, .ofNat 0, [(.ofNat 1, 4)]), ((12, .ofNat 0, [(.ofNat 1, 3)]), (.ofNat 0, [(.ofNat 1, 2)]), 1, .ofNat 0, [(.ofNat 1, 5)]), ((13, .ofNat 0, [(.ofNat 1, 4)]), (.ofNat 0, [(.ofNat 1, 2)]), 1, .ofNat 0, [(.ofNat 1, 6)]), ((98, .ofNat 15, []), (.ofNat 5, []), 1, .ofNat 0, [(.ofNat 1, 7)])] : List sRf), rfOk [s0, s1, s2, s3, s4, s5, s6, s7, s8] hp q := hH.1
  have g0 : hC hp 176 1 = 15 := by
    have u := rfR0 (xv := (15 : Int)) (c0 := 176) (i0 := 1) (hRf _ (.head _)) (sE_k _ _) (sE_k _ _) (sE_k _ _)
    show hC hp (176) 1 = 15
    omega
  have g1 : s3 = ((rr hp 1 16 : Nat) : Int) := rfR0 (c0 := hC hp 176 1) (hRf _ (.tail _ (.head _))) (by rw [g0]; exact sE_k _ _) (sE_k _ _) (sE_V rfl)
  have g2 : s4 = ((rr hp 1 17 : Nat) : Int) := rfR0 (c0 := hC hp 176 1) (hRf _ (.tail _ (.tail _ (.head _)))) (by rw [g0]; exact sE_k _ _) (sE_k _ _) (sE_V rfl)
  obtain ⟨i3, e3, l3, h3⟩ := rfI (xv := s5) (iv := s2) (hRf _ (.tail _ (.tail _ (.tail _ (.head _))))) (sEv (sE_V rfl) g1.symm) (sE_V rfl) (sE_V rfl)
  have l3 : i3 < 8 := l3
  have h3 : hI hp (rr hp 1 16) i3 = s5 := h3
  obtain ⟨i4, e4, l4, h4⟩ := rfI (xv := s6) (iv := s2) (hRf _ (.tail _ (.tail _ (.tail _ (.tail _ (.head _)))))) (sEv (sE_V rfl) g2.symm) (sE_V rfl) (sE_V rfl)
  have l4 : i4 < 8 := l4
  have h4 : hI hp (rr hp 1 17) i4 = s6 := h4
  have h5 : hI hp (hC hp 176 1) 5 = s7 := rfI0 (c0 := hC hp 176 1) (hRf _ (.tail _ (.tail _ (.tail _ (.tail _ (.tail _ (.head _))))))) (by rw [g0]; exact sE_k _ _) (sE_k _ _) (sE_V rfl)
  have hFc : ∀ q ∈ ([(95, [(.ofNat 0, [(.ofNat 1, 2)]), (.ofNat 0, [(.ofNat 1, 8)]), (.ofNat 0, [(.ofNat 1, 0)]), (.ofNat 0, [(.ofNat 1, 1)])])] : List sFc), fcOk fFS [s0, s1, s2, s3, s4, s5, s6, s7, s8] hp q := hH.2
  have f0 : ∀ i : Nat, i < 8 → (i : Int) < s2 → ¬ (hI hp (rr hp 1 16) i = s0 ∧ hI hp (rr hp 1 17) i = s1) := fcX (ys := [s2, s8, s0, s1]) (hFc _ (.head _)) ⟨sE_V rfl, sE_V rfl, sE_V rfl, sE_V rfl, trivial⟩
  exact poX (.head _) rfl hR (all_nil) (all_nil) (all_cons ⟨[(s2 + 1), s8, s0, s1], ⟨sEv (y' := ((1 : Int) + ((1 : Int) * s2 + 0))) rfl (by omega), sE_V rfl, sE_V rfl, sE_V rfl, trivial⟩, (show ∀ i : Nat, i < 8 → (i : Int) < (s2 + 1) → ¬ (hI hp (rr hp 1 16) i = s0 ∧ hI hp (rr hp 1 17) i = s1) from nn_s f0 h3 h4 (by omega) (by omega) (by omega) (by omega))⟩ (all_nil))
theorem rl138 : ruOk fFS gR138 := by
  intro r hp hO hN hH
  obtain ⟨s0, s1, s2, s3, s4, s5, s6, s7, s8, rfl⟩ := len9 (show r.length = 9 from hN.1)
  have hR := hN.2.1.1
  have hIv : ∀ q ∈ ([(0, .negSucc 2147483647, .ofNat 2147483647), (1, .negSucc 2147483647, .ofNat 2147483647), (2, .ofNat 0, .ofNat 7), (5, .negSucc 2147483647, .ofNat 2147483647), (6, .negSucc 2147483647, .ofNat 2147483647), (7, .negSucc 2147483647, .ofNat 2147483647), (8, .negSucc 2147483647, .ofNat 2147483647)] : sIv), ∃ x, ([s0, s1, s2, s3, s4, s5, s6, s7, s8] : List Int)[q.1]? = some x ∧ q.2.1 ≤ x ∧ x ≤ q.2.2 := hN.2.1.2
  have b2 : (0 : Int) ≤ s2 ∧ s2 ≤ (7 : Int) := ivX (q := (2, .ofNat 0, .ofNat 7)) (y := s2) (hIv _ (.tail _ (.tail _ (.head _)))) rfl
  have hCs : ∀ c ∈ ([(.ofNat 1, [(.negSucc 0, 1), (.ofNat 1, 6)])] : List sLn), ∃ x, sE [s0, s1, s2, s3, s4, s5, s6, s7, s8] c = some x ∧ x ≤ 0 := hN.2.2.1
  have c0 : ((1 : Int) + ((-1 : Int) * s1 + ((1 : Int) * s6 + 0))) ≤ 0 := csX (hCs _ (.head _)) rfl
  have hRf : ∀ q ∈ ([((43, .ofNat 176, []), (.ofNat 1, []), 114, .ofNat 15, []), ((98, .ofNat 15, []), (.ofNat 16, []), 28, .ofNat 0, [(.ofNat 1, 3)]), ((98, .ofNat 15, []), (.ofNat 17, []), 29, .ofNat 0, [(.ofNat 1, 4)]), ((12, .ofNat 0, [(.ofNat 1, 3)]), (.ofNat 0, [(.ofNat 1, 2)]), 1, .ofNat 0, [(.ofNat 1, 5)]), ((13, .ofNat 0, [(.ofNat 1, 4)]), (.ofNat 0, [(.ofNat 1, 2)]), 1, .ofNat 0, [(.ofNat 1, 6)]), ((98, .ofNat 15, []), (.ofNat 5, []), 1, .ofNat 0, [(.ofNat 1, 7)])] : List sRf), rfOk [s0, s1, s2, s3, s4, s5, s6, s7, s8] hp q := hH.1
  have g0 : hC hp 176 1 = 15 := by
    have u := rfR0 (xv := (15 : Int)) (c0 := 176) (i0 := 1) (hRf _ (.head _)) (sE_k _ _) (sE_k _ _) (sE_k _ _)
    show hC hp (176) 1 = 15
    omega
  have g1 : s3 = ((rr hp 1 16 : Nat) : Int) := rfR0 (c0 := hC hp 176 1) (hRf _ (.tail _ (.head _))) (by rw [g0]; exact sE_k _ _) (sE_k _ _) (sE_V rfl)
  have g2 : s4 = ((rr hp 1 17 : Nat) : Int) := rfR0 (c0 := hC hp 176 1) (hRf _ (.tail _ (.tail _ (.head _)))) (by rw [g0]; exact sE_k _ _) (sE_k _ _) (sE_V rfl)
  obtain ⟨i3, e3, l3, h3⟩ := rfI (xv := s5) (iv := s2) (hRf _ (.tail _ (.tail _ (.tail _ (.head _))))) (sEv (sE_V rfl) g1.symm) (sE_V rfl) (sE_V rfl)
  have l3 : i3 < 8 := l3
  have h3 : hI hp (rr hp 1 16) i3 = s5 := h3
  obtain ⟨i4, e4, l4, h4⟩ := rfI (xv := s6) (iv := s2) (hRf _ (.tail _ (.tail _ (.tail _ (.tail _ (.head _)))))) (sEv (sE_V rfl) g2.symm) (sE_V rfl) (sE_V rfl)
  have l4 : i4 < 8 := l4
  have h4 : hI hp (rr hp 1 17) i4 = s6 := h4
  have h5 : hI hp (hC hp 176 1) 5 = s7 := rfI0 (c0 := hC hp 176 1) (hRf _ (.tail _ (.tail _ (.tail _ (.tail _ (.tail _ (.head _))))))) (by rw [g0]; exact sE_k _ _) (sE_k _ _) (sE_V rfl)
  have hFc : ∀ q ∈ ([(95, [(.ofNat 0, [(.ofNat 1, 2)]), (.ofNat 0, [(.ofNat 1, 8)]), (.ofNat 0, [(.ofNat 1, 0)]), (.ofNat 0, [(.ofNat 1, 1)])])] : List sFc), fcOk fFS [s0, s1, s2, s3, s4, s5, s6, s7, s8] hp q := hH.2
  have f0 : ∀ i : Nat, i < 8 → (i : Int) < s2 → ¬ (hI hp (rr hp 1 16) i = s0 ∧ hI hp (rr hp 1 17) i = s1) := fcX (ys := [s2, s8, s0, s1]) (hFc _ (.head _)) ⟨sE_V rfl, sE_V rfl, sE_V rfl, sE_V rfl, trivial⟩
  exact poX (.head _) rfl hR (all_nil) (all_nil) (all_cons ⟨[(s2 + 1), s8, s0, s1], ⟨sEv (y' := ((1 : Int) + ((1 : Int) * s2 + 0))) rfl (by omega), sE_V rfl, sE_V rfl, sE_V rfl, trivial⟩, (show ∀ i : Nat, i < 8 → (i : Int) < (s2 + 1) → ¬ (hI hp (rr hp 1 16) i = s0 ∧ hI hp (rr hp 1 17) i = s1) from nn_s f0 h3 h4 (by omega) (by omega) (by omega) (by omega))⟩ (all_nil))
theorem rl139 : ruOk fFS gR139 := by
  intro r hp hO hN hH
  obtain ⟨s0, s1, s2, s3, s4, s5, s6, s7, s8, rfl⟩ := len9 (show r.length = 9 from hN.1)
  have hR := hN.2.1.1
  have hIv : ∀ q ∈ ([(0, .negSucc 2147483647, .ofNat 2147483647), (1, .negSucc 2147483647, .ofNat 2147483647), (2, .ofNat 0, .ofNat 7), (5, .negSucc 2147483647, .ofNat 2147483647), (6, .negSucc 2147483647, .ofNat 2147483647), (7, .negSucc 2147483647, .ofNat 2147483647), (8, .negSucc 2147483647, .ofNat 2147483647)] : sIv), ∃ x, ([s0, s1, s2, s3, s4, s5, s6, s7, s8] : List Int)[q.1]? = some x ∧ q.2.1 ≤ x ∧ x ≤ q.2.2 := hN.2.1.2
  have b2 : (0 : Int) ≤ s2 ∧ s2 ≤ (7 : Int) := ivX (q := (2, .ofNat 0, .ofNat 7)) (y := s2) (hIv _ (.tail _ (.tail _ (.head _)))) rfl
  have hCs : ∀ c ∈ ([(.ofNat 1, [(.ofNat 1, 1), (.negSucc 0, 6)])] : List sLn), ∃ x, sE [s0, s1, s2, s3, s4, s5, s6, s7, s8] c = some x ∧ x ≤ 0 := hN.2.2.1
  have c0 : ((1 : Int) + ((1 : Int) * s1 + ((-1 : Int) * s6 + 0))) ≤ 0 := csX (hCs _ (.head _)) rfl
  have hRf : ∀ q ∈ ([((43, .ofNat 176, []), (.ofNat 1, []), 114, .ofNat 15, []), ((98, .ofNat 15, []), (.ofNat 16, []), 28, .ofNat 0, [(.ofNat 1, 3)]), ((98, .ofNat 15, []), (.ofNat 17, []), 29, .ofNat 0, [(.ofNat 1, 4)]), ((12, .ofNat 0, [(.ofNat 1, 3)]), (.ofNat 0, [(.ofNat 1, 2)]), 1, .ofNat 0, [(.ofNat 1, 5)]), ((13, .ofNat 0, [(.ofNat 1, 4)]), (.ofNat 0, [(.ofNat 1, 2)]), 1, .ofNat 0, [(.ofNat 1, 6)]), ((98, .ofNat 15, []), (.ofNat 5, []), 1, .ofNat 0, [(.ofNat 1, 7)])] : List sRf), rfOk [s0, s1, s2, s3, s4, s5, s6, s7, s8] hp q := hH.1
  have g0 : hC hp 176 1 = 15 := by
    have u := rfR0 (xv := (15 : Int)) (c0 := 176) (i0 := 1) (hRf _ (.head _)) (sE_k _ _) (sE_k _ _) (sE_k _ _)
    show hC hp (176) 1 = 15
    omega
  have g1 : s3 = ((rr hp 1 16 : Nat) : Int) := rfR0 (c0 := hC hp 176 1) (hRf _ (.tail _ (.head _))) (by rw [g0]; exact sE_k _ _) (sE_k _ _) (sE_V rfl)
  have g2 : s4 = ((rr hp 1 17 : Nat) : Int) := rfR0 (c0 := hC hp 176 1) (hRf _ (.tail _ (.tail _ (.head _)))) (by rw [g0]; exact sE_k _ _) (sE_k _ _) (sE_V rfl)
  obtain ⟨i3, e3, l3, h3⟩ := rfI (xv := s5) (iv := s2) (hRf _ (.tail _ (.tail _ (.tail _ (.head _))))) (sEv (sE_V rfl) g1.symm) (sE_V rfl) (sE_V rfl)
  have l3 : i3 < 8 := l3
  have h3 : hI hp (rr hp 1 16) i3 = s5 := h3
  obtain ⟨i4, e4, l4, h4⟩ := rfI (xv := s6) (iv := s2) (hRf _ (.tail _ (.tail _ (.tail _ (.tail _ (.head _)))))) (sEv (sE_V rfl) g2.symm) (sE_V rfl) (sE_V rfl)
  have l4 : i4 < 8 := l4
  have h4 : hI hp (rr hp 1 17) i4 = s6 := h4
  have h5 : hI hp (hC hp 176 1) 5 = s7 := rfI0 (c0 := hC hp 176 1) (hRf _ (.tail _ (.tail _ (.tail _ (.tail _ (.tail _ (.head _))))))) (by rw [g0]; exact sE_k _ _) (sE_k _ _) (sE_V rfl)
  have hFc : ∀ q ∈ ([(95, [(.ofNat 0, [(.ofNat 1, 2)]), (.ofNat 0, [(.ofNat 1, 8)]), (.ofNat 0, [(.ofNat 1, 0)]), (.ofNat 0, [(.ofNat 1, 1)])])] : List sFc), fcOk fFS [s0, s1, s2, s3, s4, s5, s6, s7, s8] hp q := hH.2
  have f0 : ∀ i : Nat, i < 8 → (i : Int) < s2 → ¬ (hI hp (rr hp 1 16) i = s0 ∧ hI hp (rr hp 1 17) i = s1) := fcX (ys := [s2, s8, s0, s1]) (hFc _ (.head _)) ⟨sE_V rfl, sE_V rfl, sE_V rfl, sE_V rfl, trivial⟩
  exact poX (.head _) rfl hR (all_nil) (all_nil) (all_cons ⟨[(s2 + 1), s8, s0, s1], ⟨sEv (y' := ((1 : Int) + ((1 : Int) * s2 + 0))) rfl (by omega), sE_V rfl, sE_V rfl, sE_V rfl, trivial⟩, (show ∀ i : Nat, i < 8 → (i : Int) < (s2 + 1) → ¬ (hI hp (rr hp 1 16) i = s0 ∧ hI hp (rr hp 1 17) i = s1) from nn_s f0 h3 h4 (by omega) (by omega) (by omega) (by omega))⟩ (all_nil))
theorem rl140 : ruOk fFS gR140 := by
  intro r hp hO hN hH
  obtain ⟨s0, s1, s2, s3, s4, s5, s6, s7, s8, rfl⟩ := len9 (show r.length = 9 from hN.1)
  have hR := hN.2.1.1
  have hIv : ∀ q ∈ ([(0, .negSucc 2147483647, .ofNat 2147483647), (1, .negSucc 2147483647, .ofNat 2147483647), (2, .ofNat 0, .ofNat 7), (5, .negSucc 2147483647, .ofNat 2147483647), (6, .negSucc 2147483647, .ofNat 2147483647), (7, .negSucc 2147483647, .ofNat 2147483647), (8, .negSucc 2147483647, .ofNat 2147483647)] : sIv), ∃ x, ([s0, s1, s2, s3, s4, s5, s6, s7, s8] : List Int)[q.1]? = some x ∧ q.2.1 ≤ x ∧ x ≤ q.2.2 := hN.2.1.2
  have b2 : (0 : Int) ≤ s2 ∧ s2 ≤ (7 : Int) := ivX (q := (2, .ofNat 0, .ofNat 7)) (y := s2) (hIv _ (.tail _ (.tail _ (.head _)))) rfl
  have hCs : ∀ c ∈ ([(.ofNat 1, [(.ofNat 1, 2), (.negSucc 0, 7)]), (.ofNat 0, [(.negSucc 0, 0), (.ofNat 1, 5)]), (.ofNat 0, [(.ofNat 1, 0), (.negSucc 0, 5)]), (.ofNat 0, [(.negSucc 0, 1), (.ofNat 1, 6)]), (.ofNat 0, [(.ofNat 1, 1), (.negSucc 0, 6)])] : List sLn), ∃ x, sE [s0, s1, s2, s3, s4, s5, s6, s7, s8] c = some x ∧ x ≤ 0 := hN.2.2.1
  have c0 : ((1 : Int) + ((1 : Int) * s2 + ((-1 : Int) * s7 + 0))) ≤ 0 := csX (hCs _ (.head _)) rfl
  have c1 : ((0 : Int) + ((-1 : Int) * s0 + ((1 : Int) * s5 + 0))) ≤ 0 := csX (hCs _ (.tail _ (.head _))) rfl
  have c2 : ((0 : Int) + ((1 : Int) * s0 + ((-1 : Int) * s5 + 0))) ≤ 0 := csX (hCs _ (.tail _ (.tail _ (.head _)))) rfl
  have c3 : ((0 : Int) + ((-1 : Int) * s1 + ((1 : Int) * s6 + 0))) ≤ 0 := csX (hCs _ (.tail _ (.tail _ (.tail _ (.head _))))) rfl
  have c4 : ((0 : Int) + ((1 : Int) * s1 + ((-1 : Int) * s6 + 0))) ≤ 0 := csX (hCs _ (.tail _ (.tail _ (.tail _ (.tail _ (.head _)))))) rfl
  have hRf : ∀ q ∈ ([((43, .ofNat 176, []), (.ofNat 1, []), 114, .ofNat 15, []), ((98, .ofNat 15, []), (.ofNat 16, []), 28, .ofNat 0, [(.ofNat 1, 3)]), ((98, .ofNat 15, []), (.ofNat 17, []), 29, .ofNat 0, [(.ofNat 1, 4)]), ((12, .ofNat 0, [(.ofNat 1, 3)]), (.ofNat 0, [(.ofNat 1, 2)]), 1, .ofNat 0, [(.ofNat 1, 5)]), ((13, .ofNat 0, [(.ofNat 1, 4)]), (.ofNat 0, [(.ofNat 1, 2)]), 1, .ofNat 0, [(.ofNat 1, 6)]), ((98, .ofNat 15, []), (.ofNat 5, []), 1, .ofNat 0, [(.ofNat 1, 7)])] : List sRf), rfOk [s0, s1, s2, s3, s4, s5, s6, s7, s8] hp q := hH.1
  have g0 : hC hp 176 1 = 15 := by
    have u := rfR0 (xv := (15 : Int)) (c0 := 176) (i0 := 1) (hRf _ (.head _)) (sE_k _ _) (sE_k _ _) (sE_k _ _)
    show hC hp (176) 1 = 15
    omega
  have g1 : s3 = ((rr hp 1 16 : Nat) : Int) := rfR0 (c0 := hC hp 176 1) (hRf _ (.tail _ (.head _))) (by rw [g0]; exact sE_k _ _) (sE_k _ _) (sE_V rfl)
  have g2 : s4 = ((rr hp 1 17 : Nat) : Int) := rfR0 (c0 := hC hp 176 1) (hRf _ (.tail _ (.tail _ (.head _)))) (by rw [g0]; exact sE_k _ _) (sE_k _ _) (sE_V rfl)
  obtain ⟨i3, e3, l3, h3⟩ := rfI (xv := s5) (iv := s2) (hRf _ (.tail _ (.tail _ (.tail _ (.head _))))) (sEv (sE_V rfl) g1.symm) (sE_V rfl) (sE_V rfl)
  have l3 : i3 < 8 := l3
  have h3 : hI hp (rr hp 1 16) i3 = s5 := h3
  obtain ⟨i4, e4, l4, h4⟩ := rfI (xv := s6) (iv := s2) (hRf _ (.tail _ (.tail _ (.tail _ (.tail _ (.head _)))))) (sEv (sE_V rfl) g2.symm) (sE_V rfl) (sE_V rfl)
  have l4 : i4 < 8 := l4
  have h4 : hI hp (rr hp 1 17) i4 = s6 := h4
  have h5 : hI hp (hC hp 176 1) 5 = s7 := rfI0 (c0 := hC hp 176 1) (hRf _ (.tail _ (.tail _ (.tail _ (.tail _ (.tail _ (.head _))))))) (by rw [g0]; exact sE_k _ _) (sE_k _ _) (sE_V rfl)
  have hFc : ∀ q ∈ ([(75, [(.ofNat 0, [(.ofNat 1, 7)]), (.ofNat 0, [(.ofNat 1, 8)])])] : List sFc), fcOk fFS [s0, s1, s2, s3, s4, s5, s6, s7, s8] hp q := hH.2
  have f0 : dF (XT hp) s8 (fun D => s7 = (dWi D).length ∧ ∀ i : Nat, i < 8 → (i : Int) < s7 → (dWi D)[i]? = some (hI hp (rr hp 1 16) i, hI hp (rr hp 1 17) i)) := fcX (ys := [s7, s8]) (hFc _ (.head _)) ⟨sE_V rfl, sE_V rfl, trivial⟩
  exact poX (.head _) rfl hR (all_nil) (all_nil) (all_cons ⟨[s8, s0, s1, 1], ⟨sE_V rfl, sE_V rfl, sE_V rfl, sE_k _ _, trivial⟩, (show dF (XT hp) s8 (fun D => bP (1 : Int) ((s0, s1) ∈ dWi D)) from dF_mp f0 (fun D h => bP_i1 (lst_mem h (by rw [h3]; omega) (by rw [h4]; omega) (by omega) (by omega) (by omega)) rfl))⟩ (all_nil))
theorem rl141 : ruOk fFS gR141 := by
  intro r hp hO hN hH
  obtain ⟨s0, s1, s2, s3, s4, rfl⟩ := len5 (show r.length = 5 from hN.1)
  have hR := hN.2.1.1
  have hIv : ∀ q ∈ ([(0, .negSucc 2147483647, .ofNat 2147483647), (1, .negSucc 2147483647, .ofNat 2147483647), (2, .negSucc 2147483647, .ofNat 2147483647), (3, .negSucc 2147483647, .ofNat 2147483647), (4, .negSucc 2147483647, .ofNat 2147483647)] : sIv), ∃ x, ([s0, s1, s2, s3, s4] : List Int)[q.1]? = some x ∧ q.2.1 ≤ x ∧ x ≤ q.2.2 := hN.2.1.2
  have hCs : ∀ c ∈ ([(.ofNat 0, [(.negSucc 0, 2), (.ofNat 1, 3)])] : List sLn), ∃ x, sE [s0, s1, s2, s3, s4] c = some x ∧ x ≤ 0 := hN.2.2.1
  have c0 : ((0 : Int) + ((-1 : Int) * s2 + ((1 : Int) * s3 + 0))) ≤ 0 := csX (hCs _ (.head _)) rfl
  have hRf : ∀ q ∈ ([((43, .ofNat 176, []), (.ofNat 1, []), 114, .ofNat 15, []), ((98, .ofNat 15, []), (.ofNat 5, []), 1, .ofNat 0, [(.ofNat 1, 3)])] : List sRf), rfOk [s0, s1, s2, s3, s4] hp q := hH.1
  have g0 : hC hp 176 1 = 15 := by
    have u := rfR0 (xv := (15 : Int)) (c0 := 176) (i0 := 1) (hRf _ (.head _)) (sE_k _ _) (sE_k _ _) (sE_k _ _)
    show hC hp (176) 1 = 15
    omega
  have h1 : hI hp (hC hp 176 1) 5 = s3 := rfI0 (c0 := hC hp 176 1) (hRf _ (.tail _ (.head _))) (by rw [g0]; exact sE_k _ _) (sE_k _ _) (sE_V rfl)
  have hFc : ∀ q ∈ ([(95, [(.ofNat 0, [(.ofNat 1, 2)]), (.ofNat 0, [(.ofNat 1, 4)]), (.ofNat 0, [(.ofNat 1, 0)]), (.ofNat 0, [(.ofNat 1, 1)])]), (75, [(.ofNat 0, [(.ofNat 1, 3)]), (.ofNat 0, [(.ofNat 1, 4)])])] : List sFc), fcOk fFS [s0, s1, s2, s3, s4] hp q := hH.2
  have f0 : ∀ i : Nat, i < 8 → (i : Int) < s2 → ¬ (hI hp (rr hp 1 16) i = s0 ∧ hI hp (rr hp 1 17) i = s1) := fcX (ys := [s2, s4, s0, s1]) (hFc _ (.head _)) ⟨sE_V rfl, sE_V rfl, sE_V rfl, sE_V rfl, trivial⟩
  have f1 : dF (XT hp) s4 (fun D => s3 = (dWi D).length ∧ ∀ i : Nat, i < 8 → (i : Int) < s3 → (dWi D)[i]? = some (hI hp (rr hp 1 16) i, hI hp (rr hp 1 17) i)) := fcX (ys := [s3, s4]) (hFc _ (.tail _ (.head _))) ⟨sE_V rfl, sE_V rfl, trivial⟩
  exact poX (.head _) rfl hR (all_nil) (all_nil) (all_cons ⟨[s4, s0, s1, 0], ⟨sE_V rfl, sE_V rfl, sE_V rfl, sE_k _ _, trivial⟩, (show dF (XT hp) s4 (fun D => bP (0 : Int) ((s0, s1) ∈ dWi D)) from dF_mp (dF_I (XT_ok hO) f1) (fun D h => bP_i0 (lst_no h.2 f0 (by omega) (by have h1 := h.1.1.2.2.2.2.2.2.2; have h2 := h.2.1; omega)) rfl))⟩ (all_nil))
theorem rl142 : ruOk fFS gR142 := by
  intro r hp hO hN hH
  obtain ⟨s0, s1, s2, s3, s4, s5, s6, s7, s8, s9, s10, s11, s12, s13, s14, s15, s16, s17, s18, s19, s20, s21, s22, s23, s24, s25, s26, rfl⟩ := len27 (show r.length = 27 from hN.1)
  have hR := hN.2.1.1
  have hIv : ∀ q ∈ ([(0, .negSucc 2147483647, .ofNat 2147483647), (1, .negSucc 2147483647, .ofNat 2147483647), (4, .ofNat 0, .ofNat 7), (5, .negSucc 2147483647, .ofNat 2147483647), (6, .negSucc 2147483647, .ofNat 2147483647), (7, .negSucc 2147483647, .ofNat 2147483647), (8, .ofNat 25, .ofNat 25), (9, .negSucc 2147483647, .ofNat 2147483647), (10, .negSucc 2147483647, .ofNat 2147483647), (11, .negSucc 2147483647, .ofNat 2147483647), (12, .negSucc 2147483647, .ofNat 2147483647), (13, .negSucc 2147483647, .ofNat 2147483647), (14, .ofNat 2, .ofNat 2), (15, .negSucc 2147483647, .ofNat 2147483647), (16, .negSucc 2147483647, .ofNat 2147483647), (17, .negSucc 2147483647, .ofNat 2147483647), (18, .negSucc 2147483647, .ofNat 2147483647), (19, .negSucc 2147483647, .ofNat 2147483647), (20, .negSucc 2147483647, .ofNat 2147483647), (21, .negSucc 2147483647, .ofNat 2147483647), (22, .negSucc 2147483647, .ofNat 2147483647), (23, .negSucc 2147483647, .ofNat 2147483647), (24, .negSucc 2147483647, .ofNat 2147483647), (25, .negSucc 2147483647, .ofNat 2147483647), (26, .negSucc 2147483647, .ofNat 2147483647)] : sIv), ∃ x, ([s0, s1, s2, s3, s4, s5, s6, s7, s8, s9, s10, s11, s12, s13, s14, s15, s16, s17, s18, s19, s20, s21, s22, s23, s24, s25, s26] : List Int)[q.1]? = some x ∧ q.2.1 ≤ x ∧ x ≤ q.2.2 := hN.2.1.2
  have b2 : (0 : Int) ≤ s4 ∧ s4 ≤ (7 : Int) := ivX (q := (4, .ofNat 0, .ofNat 7)) (y := s4) (hIv _ (.tail _ (.tail _ (.head _)))) rfl
  have b6 : (25 : Int) ≤ s8 ∧ s8 ≤ (25 : Int) := ivX (q := (8, .ofNat 25, .ofNat 25)) (y := s8) (hIv _ (.tail _ (.tail _ (.tail _ (.tail _ (.tail _ (.tail _ (.head _)))))))) rfl
  have b12 : (2 : Int) ≤ s14 ∧ s14 ≤ (2 : Int) := ivX (q := (14, .ofNat 2, .ofNat 2)) (y := s14) (hIv _ (.tail _ (.tail _ (.tail _ (.tail _ (.tail _ (.tail _ (.tail _ (.tail _ (.tail _ (.tail _ (.tail _ (.tail _ (.head _)))))))))))))) rfl
  have hCs : ∀ c ∈ ([(.ofNat 0, [(.negSucc 0, 0), (.ofNat 1, 5)]), (.ofNat 0, [(.ofNat 1, 0), (.negSucc 0, 5)]), (.ofNat 0, [(.negSucc 0, 1), (.ofNat 1, 6)]), (.ofNat 0, [(.ofNat 1, 1), (.negSucc 0, 6)])] : List sLn), ∃ x, sE [s0, s1, s2, s3, s4, s5, s6, s7, s8, s9, s10, s11, s12, s13, s14, s15, s16, s17, s18, s19, s20, s21, s22, s23, s24, s25, s26] c = some x ∧ x ≤ 0 := hN.2.2.1
  have c0 : ((0 : Int) + ((-1 : Int) * s0 + ((1 : Int) * s5 + 0))) ≤ 0 := csX (hCs _ (.head _)) rfl
  have c1 : ((0 : Int) + ((1 : Int) * s0 + ((-1 : Int) * s5 + 0))) ≤ 0 := csX (hCs _ (.tail _ (.head _))) rfl
  have c2 : ((0 : Int) + ((-1 : Int) * s1 + ((1 : Int) * s6 + 0))) ≤ 0 := csX (hCs _ (.tail _ (.tail _ (.head _)))) rfl
  have c3 : ((0 : Int) + ((1 : Int) * s1 + ((-1 : Int) * s6 + 0))) ≤ 0 := csX (hCs _ (.tail _ (.tail _ (.tail _ (.head _))))) rfl
  have hRf : ∀ q ∈ ([((40, .ofNat 173, []), (.ofNat 9, []), 1, .ofNat 0, []), ((43, .ofNat 176, []), (.ofNat 1, []), 114, .ofNat 15, []), ((98, .ofNat 15, []), (.ofNat 16, []), 28, .ofNat 0, [(.ofNat 1, 2)]), ((98, .ofNat 15, []), (.ofNat 17, []), 29, .ofNat 0, [(.ofNat 1, 3)]), ((98, .ofNat 15, []), (.ofNat 5, []), 1, .ofNat 0, [(.ofNat 1, 4)]), ((12, .ofNat 0, [(.ofNat 1, 2)]), (.ofNat 0, [(.ofNat 1, 4)]), 1, .ofNat 0, [(.ofNat 1, 5)]), ((13, .ofNat 0, [(.ofNat 1, 3)]), (.ofNat 0, [(.ofNat 1, 4)]), 1, .ofNat 0, [(.ofNat 1, 6)])] : List sRf), rfOk [s0, s1, s2, s3, s4, s5, s6, s7, s8, s9, s10, s11, s12, s13, s14, s15, s16, s17, s18, s19, s20, s21, s22, s23, s24, s25, s26] hp q := hH.1
  have h0 : hI hp 173 9 = 0 := rfI0 (hRf _ (.head _)) (sE_k _ _) (sE_k _ _) (sE_k _ _)
  have g1 : hC hp 176 1 = 15 := by
    have u := rfR0 (xv := (15 : Int)) (c0 := 176) (i0 := 1) (hRf _ (.tail _ (.head _))) (sE_k _ _) (sE_k _ _) (sE_k _ _)
    show hC hp (176) 1 = 15
    omega
  have g2 : s2 = ((rr hp 1 16 : Nat) : Int) := rfR0 (c0 := hC hp 176 1) (hRf _ (.tail _ (.tail _ (.head _)))) (by rw [g1]; exact sE_k _ _) (sE_k _ _) (sE_V rfl)
  have g3 : s3 = ((rr hp 1 17 : Nat) : Int) := rfR0 (c0 := hC hp 176 1) (hRf _ (.tail _ (.tail _ (.tail _ (.head _))))) (by rw [g1]; exact sE_k _ _) (sE_k _ _) (sE_V rfl)
  have h4 : hI hp (hC hp 176 1) 5 = s4 := rfI0 (c0 := hC hp 176 1) (hRf _ (.tail _ (.tail _ (.tail _ (.tail _ (.head _)))))) (by rw [g1]; exact sE_k _ _) (sE_k _ _) (sE_V rfl)
  obtain ⟨i5, e5, l5, h5⟩ := rfI (xv := s5) (iv := s4) (hRf _ (.tail _ (.tail _ (.tail _ (.tail _ (.tail _ (.head _))))))) (sEv (sE_V rfl) g2.symm) (sE_V rfl) (sE_V rfl)
  have l5 : i5 < 8 := l5
  have h5 : hI hp (rr hp 1 16) i5 = s5 := h5
  obtain ⟨i6, e6, l6, h6⟩ := rfI (xv := s6) (iv := s4) (hRf _ (.tail _ (.tail _ (.tail _ (.tail _ (.tail _ (.tail _ (.head _)))))))) (sEv (sE_V rfl) g3.symm) (sE_V rfl) (sE_V rfl)
  have l6 : i6 < 8 := l6
  have h6 : hI hp (rr hp 1 17) i6 = s6 := h6
  have hFc : ∀ q ∈ ([(53, [(.ofNat 0, [(.ofNat 1, 7)]), (.ofNat 0, [(.ofNat 1, 8)]), (.ofNat 0, [(.ofNat 1, 9)]), (.ofNat 0, [(.ofNat 1, 0)]), (.ofNat 0, [(.ofNat 1, 1)]), (.ofNat 0, [(.ofNat 1, 10)]), (.ofNat 0, [(.ofNat 1, 11)]), (.ofNat 0, [(.ofNat 1, 12)]), (.ofNat 0, [(.ofNat 1, 13)]), (.ofNat 0, [(.ofNat 1, 14)]), (.ofNat 0, [(.ofNat 1, 15)]), (.ofNat 0, [(.ofNat 1, 16)]), (.ofNat 0, [(.ofNat 1, 17)])]), (59, [(.ofNat 0, [(.ofNat 1, 9)]), (.ofNat 0, [(.ofNat 1, 18)]), (.ofNat 0, [(.ofNat 1, 19)]), (.ofNat 0, [(.ofNat 1, 20)]), (.ofNat 0, [(.ofNat 1, 4)]), (.ofNat 0, [(.ofNat 1, 21)]), (.ofNat 0, [(.ofNat 1, 22)]), (.ofNat 0, [(.ofNat 1, 23)]), (.ofNat 0, [(.ofNat 1, 24)]), (.ofNat 0, [(.ofNat 1, 25)]), (.ofNat 0, [(.ofNat 1, 26)])]), (61, [(.ofNat 0, [(.ofNat 1, 9)])]), (68, [(.ofNat 0, [(.ofNat 1, 9)])]), (72, [(.ofNat 0, [(.ofNat 1, 21)]), (.ofNat 0, [(.ofNat 1, 9)])]), (74, [(.ofNat 0, [(.ofNat 1, 9)])]), (73, [(.ofNat 0, [(.ofNat 1, 21)])]), (75, [(.ofNat 0, [(.ofNat 1, 4)]), (.ofNat 0, [(.ofNat 1, 9)])]), (60, [(.ofNat 0, [(.ofNat 1, 7)])])] : List sFc), fcOk fFS [s0, s1, s2, s3, s4, s5, s6, s7, s8, s9, s10, s11, s12, s13, s14, s15, s16, s17, s18, s19, s20, s21, s22, s23, s24, s25, s26] hp q := hH.2
  have f0 : Hq (XT hp) s7 s8 s9 s0 s1 s10 s11 s12 s13 s14 s15 s16 s17 ∧ s14 ≠ 4 := fcX (ys := [s7, s8, s9, s0, s1, s10, s11, s12, s13, s14, s15, s16, s17]) (hFc _ (.head _)) ⟨sE_V rfl, sE_V rfl, sE_V rfl, sE_V rfl, sE_V rfl, sE_V rfl, sE_V rfl, sE_V rfl, sE_V rfl, sE_V rfl, sE_V rfl, sE_V rfl, sE_V rfl, trivial⟩
  have f1 : CT (XT hp) s9 s18 s19 s20 s4 s21 s22 s23 s24 s25 s26 := fcX (ys := [s9, s18, s19, s20, s4, s21, s22, s23, s24, s25, s26]) (hFc _ (.tail _ (.head _))) ⟨sE_V rfl, sE_V rfl, sE_V rfl, sE_V rfl, sE_V rfl, sE_V rfl, sE_V rfl, sE_V rfl, sE_V rfl, sE_V rfl, sE_V rfl, trivial⟩
  have f2 : dF (XT hp) s9 (fun D => ∀ j : Nat, j < 12 → hL hp (rr hp 1 7) j = cd 32 96 (nm D j)) := fcX (ys := [s9]) (hFc _ (.tail _ (.tail _ (.head _)))) ⟨sE_V rfl, trivial⟩
  have f3 : dF (XT hp) s9 (fun D => ∀ p : Nat, p < 100 → (fX hp p ↔ ¬ tkI D p)) := fcX (ys := [s9]) (hFc _ (.tail _ (.tail _ (.tail _ (.head _))))) ⟨sE_V rfl, trivial⟩
  have f4 : dF (XT hp) s9 (fun D => s21 = (dTr D).length ∧ ∀ i : Nat, i < 14 → (i : Int) < s21 → (dTr D)[i]? = some (hI hp (rr hp 2 6) i, hI hp (rr hp 2 7) i)) := fcX (ys := [s21, s9]) (hFc _ (.tail _ (.tail _ (.tail _ (.tail _ (.head _)))))) ⟨sE_V rfl, sE_V rfl, trivial⟩
  have f5 : dF (XT hp) s9 (fun D => ∀ j : Nat, j < 10 → wR (hI hp (rr hp 2 10) j) D j) := fcX (ys := [s9]) (hFc _ (.tail _ (.tail _ (.tail _ (.tail _ (.tail _ (.head _))))))) ⟨sE_V rfl, trivial⟩
  have f6 : ∀ i : Nat, i < 14 → (i : Int) < s21 → bt (hI hp (hC hp 176 2) 2) i := fcX (ys := [s21]) (hFc _ (.tail _ (.tail _ (.tail _ (.tail _ (.tail _ (.tail _ (.head _)))))))) ⟨sE_V rfl, trivial⟩
  have f7 : dF (XT hp) s9 (fun D => s4 = (dWi D).length ∧ ∀ i : Nat, i < 8 → (i : Int) < s4 → (dWi D)[i]? = some (hI hp (rr hp 1 16) i, hI hp (rr hp 1 17) i)) := fcX (ys := [s4, s9]) (hFc _ (.tail _ (.tail _ (.tail _ (.tail _ (.tail _ (.tail _ (.tail _ (.head _))))))))) ⟨sE_V rfl, sE_V rfl, trivial⟩
  have f8 : NO (XT hp) s7 := fcX (ys := [s7]) (hFc _ (.tail _ (.tail _ (.tail _ (.tail _ (.tail _ (.tail _ (.tail _ (.tail _ (.head _)))))))))) ⟨sE_V rfl, trivial⟩
  have u := hN25 (XT_ok hO) f0.1 (by omega) (by omega) f8
  have hd := u.2
  have hw1 : hI hp (rr hp 1 16) i5 = s0 := by rw [h5]; omega
  have hw2 : hI hp (rr hp 1 17) i6 = s1 := by rw [h6]; omega
  exact poX (.head _) rfl hR (all_nil) (all_nil) (all_cons ⟨[s16, 26, (s9 + 1), 0, 0, 0, 0, 0, 0], ⟨sE_V rfl, sE_k _ _, sEv (y' := ((1 : Int) + ((1 : Int) * s9 + 0))) rfl (by omega), sE_k _ _, sE_k _ _, sE_k _ _, sE_k _ _, sE_k _ _, sE_k _ _, trivial⟩, (show Gq (XT hp) s16 (26 : Int) (s9 + 1) (0 : Int) (0 : Int) (0 : Int) (0 : Int) (0 : Int) (0 : Int) from u.1)⟩ (all_cons ⟨[(s9 + 1), s18, s19, s20, (s4 + 1), s21, s22, s23, s24, s25, s26], ⟨sEv (y' := ((1 : Int) + ((1 : Int) * s9 + 0))) rfl (by omega), sE_V rfl, sE_V rfl, sE_V rfl, sEv (y' := ((1 : Int) + ((1 : Int) * s4 + 0))) rfl (by omega), sE_V rfl, sE_V rfl, sE_V rfl, sE_V rfl, sE_V rfl, sE_V rfl, trivial⟩, (show CT (XT hp) (s9 + 1) s18 s19 s20 (s4 + 1) s21 s22 s23 s24 s25 s26 from carry (XT_ok hO) hd f1 (fun D h => ct_aWi (by omega) h) (by omega))⟩ (all_cons ⟨[(s9 + 1)], ⟨sEv (y' := ((1 : Int) + ((1 : Int) * s9 + 0))) rfl (by omega), trivial⟩, (show dF (XT hp) (s9 + 1) (fun D => ∀ j : Nat, j < 12 → hL hp (rr hp 1 7) j = cd 32 96 (nm D j)) from carry (XT_ok hO) hd f2 (fun D h => h) (by omega))⟩ (all_cons ⟨[(s9 + 1)], ⟨sEv (y' := ((1 : Int) + ((1 : Int) * s9 + 0))) rfl (by omega), trivial⟩, (show dF (XT hp) (s9 + 1) (fun D => ∀ p : Nat, p < 100 → (fX hp p ↔ ¬ tkI D p)) from carry (XT_ok hO) hd f3 (fun D h => h) (by omega))⟩ (all_cons ⟨[s21, (s9 + 1)], ⟨sE_V rfl, sEv (y' := ((1 : Int) + ((1 : Int) * s9 + 0))) rfl (by omega), trivial⟩, (show dF (XT hp) (s9 + 1) (fun D => s21 = (dTr D).length ∧ ∀ i : Nat, i < 14 → (i : Int) < s21 → (dTr D)[i]? = some (hI hp (rr hp 2 6) i, hI hp (rr hp 2 7) i)) from carry (XT_ok hO) hd f4 (fun D h => h) (by omega))⟩ (all_cons ⟨[(s9 + 1)], ⟨sEv (y' := ((1 : Int) + ((1 : Int) * s9 + 0))) rfl (by omega), trivial⟩, (show dF (XT hp) (s9 + 1) (fun D => ∀ j : Nat, j < 10 → wR (hI hp (rr hp 2 10) j) D j) from carry (XT_ok hO) hd f5 (fun D h => h) (by omega))⟩ (all_cons ⟨[s21], ⟨sE_V rfl, trivial⟩, (show ∀ i : Nat, i < 14 → (i : Int) < s21 → bt (hI hp (hC hp 176 2) 2) i from f6)⟩ (all_cons ⟨[(s4 + 1), (s9 + 1)], ⟨sEv (y' := ((1 : Int) + ((1 : Int) * s4 + 0))) rfl (by omega), sEv (y' := ((1 : Int) + ((1 : Int) * s9 + 0))) rfl (by omega), trivial⟩, (show dF (XT hp) (s9 + 1) (fun D => (s4 + 1) = (dWi D).length ∧ ∀ i : Nat, i < 8 → (i : Int) < (s4 + 1) → (dWi D)[i]? = some (hI hp (rr hp 1 16) i, hI hp (rr hp 1 17) i)) from carry (XT_ok hO) hd f7 (fun D h => lst_add h hw1 hw2 (by omega) (by omega) (by omega)) (by omega))⟩ (all_nil)))))))))
theorem rl143 : ruOk fFS gR143 := by
  intro r hp hO hN hH
  obtain ⟨s0, s1, s2, s3, s4, s5, s6, s7, s8, s9, s10, s11, s12, rfl⟩ := len13 (show r.length = 13 from hN.1)
  have hR := hN.2.1.1
  have hIv : ∀ q ∈ ([(0, .negSucc 2147483647, .ofNat 2147483647), (1, .negSucc 2147483647, .ofNat 2147483647), (2, .negSucc 2147483647, .ofNat 2147483647), (3, .ofNat 24, .ofNat 24), (4, .negSucc 2147483647, .ofNat 2147483647), (5, .negSucc 2147483647, .ofNat 2147483647), (6, .negSucc 2147483647, .ofNat 2147483647), (7, .negSucc 2147483647, .ofNat 2147483647), (8, .negSucc 2147483647, .ofNat 2147483647), (9, .negSucc 2147483647, .ofNat 2147483647), (10, .ofNat 2, .ofNat 2), (11, .negSucc 2147483647, .ofNat 2147483647), (12, .negSucc 2147483647, .ofNat 2147483647)] : sIv), ∃ x, ([s0, s1, s2, s3, s4, s5, s6, s7, s8, s9, s10, s11, s12] : List Int)[q.1]? = some x ∧ q.2.1 ≤ x ∧ x ≤ q.2.2 := hN.2.1.2
  have b3 : (24 : Int) ≤ s3 ∧ s3 ≤ (24 : Int) := ivX (q := (3, .ofNat 24, .ofNat 24)) (y := s3) (hIv _ (.tail _ (.tail _ (.tail _ (.head _))))) rfl
  have b10 : (2 : Int) ≤ s10 ∧ s10 ≤ (2 : Int) := ivX (q := (10, .ofNat 2, .ofNat 2)) (y := s10) (hIv _ (.tail _ (.tail _ (.tail _ (.tail _ (.tail _ (.tail _ (.tail _ (.tail _ (.tail _ (.tail _ (.head _)))))))))))) rfl
  have hRf : ∀ q ∈ ([((40, .ofNat 173, []), (.ofNat 9, []), 1, .ofNat 0, [])] : List sRf), rfOk [s0, s1, s2, s3, s4, s5, s6, s7, s8, s9, s10, s11, s12] hp q := hH.1
  have h0 : hI hp 173 9 = 0 := rfI0 (hRf _ (.head _)) (sE_k _ _) (sE_k _ _) (sE_k _ _)
  have hFc : ∀ q ∈ ([(53, [(.ofNat 0, [(.ofNat 1, 2)]), (.ofNat 0, [(.ofNat 1, 3)]), (.ofNat 0, [(.ofNat 1, 4)]), (.ofNat 0, [(.ofNat 1, 0)]), (.ofNat 0, [(.ofNat 1, 5)]), (.ofNat 0, [(.ofNat 1, 6)]), (.ofNat 0, [(.ofNat 1, 7)]), (.ofNat 0, [(.ofNat 1, 8)]), (.ofNat 0, [(.ofNat 1, 9)]), (.ofNat 0, [(.ofNat 1, 10)]), (.ofNat 0, [(.ofNat 1, 11)]), (.ofNat 0, [(.ofNat 1, 12)]), (.ofNat 0, [(.ofNat 1, 1)])]), (80, [(.ofNat 0, [(.ofNat 1, 4)]), (.ofNat 0, [(.ofNat 1, 0)]), (.ofNat 0, [(.ofNat 1, 1)]), (.ofNat 1, [])]), (60, [(.ofNat 0, [(.ofNat 1, 2)])])] : List sFc), fcOk fFS [s0, s1, s2, s3, s4, s5, s6, s7, s8, s9, s10, s11, s12] hp q := hH.2
  have f0 : Hq (XT hp) s2 s3 s4 s0 s5 s6 s7 s8 s9 s10 s11 s12 s1 ∧ s10 ≠ 4 := fcX (ys := [s2, s3, s4, s0, s5, s6, s7, s8, s9, s10, s11, s12, s1]) (hFc _ (.head _)) ⟨sE_V rfl, sE_V rfl, sE_V rfl, sE_V rfl, sE_V rfl, sE_V rfl, sE_V rfl, sE_V rfl, sE_V rfl, sE_V rfl, sE_V rfl, sE_V rfl, sE_V rfl, trivial⟩
  have f1 : dF (XT hp) s4 (fun D => bP (1 : Int) ((s0, s1) ∈ dWi D)) := fcX (ys := [s4, s0, s1, 1]) (hFc _ (.tail _ (.head _))) ⟨sE_V rfl, sE_V rfl, sE_V rfl, sE_k _ _, trivial⟩
  have f2 : NO (XT hp) s2 := fcX (ys := [s2]) (hFc _ (.tail _ (.tail _ (.head _)))) ⟨sE_V rfl, trivial⟩
  exact poX (.head _) rfl hR (all_nil) (all_nil) (all_cons ⟨[3, s11], ⟨sE_k _ _, sE_V rfl, trivial⟩, (show RS (XT hp) (3 : Int) s11 from hN24x (XT_ok hO) f0.1 (by omega) (by omega) f2 (d1 f1 rfl))⟩ (all_nil))
theorem rl144 : ruOk fFS gR144 := by
  intro r hp hO hN hH
  obtain ⟨s0, s1, s2, s3, s4, s5, s6, s7, s8, s9, s10, s11, s12, rfl⟩ := len13 (show r.length = 13 from hN.1)
  have hR := hN.2.1.1
  have hIv : ∀ q ∈ ([(0, .negSucc 2147483647, .ofNat 2147483647), (1, .ofNat 26, .ofNat 26), (2, .negSucc 2147483647, .ofNat 2147483647), (3, .negSucc 2147483647, .ofNat 2147483647), (4, .negSucc 2147483647, .ofNat 2147483647), (5, .negSucc 2147483647, .ofNat 2147483647), (6, .negSucc 2147483647, .ofNat 2147483647), (7, .negSucc 2147483647, .ofNat 2147483647), (8, .negSucc 2147483647, .ofNat 2147483647), (9, .ofNat 3, .ofNat 3), (10, .negSucc 2147483647, .ofNat 2147483647), (11, .negSucc 2147483647, .ofNat 2147483647), (12, .ofNat 59, .ofNat 59)] : sIv), ∃ x, ([s0, s1, s2, s3, s4, s5, s6, s7, s8, s9, s10, s11, s12] : List Int)[q.1]? = some x ∧ q.2.1 ≤ x ∧ x ≤ q.2.2 := hN.2.1.2
  have b1 : (26 : Int) ≤ s1 ∧ s1 ≤ (26 : Int) := ivX (q := (1, .ofNat 26, .ofNat 26)) (y := s1) (hIv _ (.tail _ (.head _))) rfl
  have b9 : (3 : Int) ≤ s9 ∧ s9 ≤ (3 : Int) := ivX (q := (9, .ofNat 3, .ofNat 3)) (y := s9) (hIv _ (.tail _ (.tail _ (.tail _ (.tail _ (.tail _ (.tail _ (.tail _ (.tail _ (.tail _ (.head _))))))))))) rfl
  have b12 : (59 : Int) ≤ s12 ∧ s12 ≤ (59 : Int) := ivX (q := (12, .ofNat 59, .ofNat 59)) (y := s12) (hIv _ (.tail _ (.tail _ (.tail _ (.tail _ (.tail _ (.tail _ (.tail _ (.tail _ (.tail _ (.tail _ (.tail _ (.tail _ (.head _)))))))))))))) rfl
  have hRf : ∀ q ∈ ([((40, .ofNat 173, []), (.ofNat 9, []), 1, .ofNat 0, [])] : List sRf), rfOk [s0, s1, s2, s3, s4, s5, s6, s7, s8, s9, s10, s11, s12] hp q := hH.1
  have h0 : hI hp 173 9 = 0 := rfI0 (hRf _ (.head _)) (sE_k _ _) (sE_k _ _) (sE_k _ _)
  have hFc : ∀ q ∈ ([(53, [(.ofNat 0, [(.ofNat 1, 0)]), (.ofNat 0, [(.ofNat 1, 1)]), (.ofNat 0, [(.ofNat 1, 2)]), (.ofNat 0, [(.ofNat 1, 3)]), (.ofNat 0, [(.ofNat 1, 4)]), (.ofNat 0, [(.ofNat 1, 5)]), (.ofNat 0, [(.ofNat 1, 6)]), (.ofNat 0, [(.ofNat 1, 7)]), (.ofNat 0, [(.ofNat 1, 8)]), (.ofNat 0, [(.ofNat 1, 9)]), (.ofNat 0, [(.ofNat 1, 10)]), (.ofNat 0, [(.ofNat 1, 11)]), (.ofNat 0, [(.ofNat 1, 12)])])] : List sFc), fcOk fFS [s0, s1, s2, s3, s4, s5, s6, s7, s8, s9, s10, s11, s12] hp q := hH.2
  have f0 : Hq (XT hp) s0 s1 s2 s3 s4 s5 s6 s7 s8 s9 s10 s11 s12 ∧ s9 ≠ 4 := fcX (ys := [s0, s1, s2, s3, s4, s5, s6, s7, s8, s9, s10, s11, s12]) (hFc _ (.head _)) ⟨sE_V rfl, sE_V rfl, sE_V rfl, sE_V rfl, sE_V rfl, sE_V rfl, sE_V rfl, sE_V rfl, sE_V rfl, sE_V rfl, sE_V rfl, sE_V rfl, sE_V rfl, trivial⟩
  exact poX (.head _) rfl hR (all_nil) (all_nil) (all_cons ⟨[s11, 0, s2, 0, 0, 0, 0, 0, 0], ⟨sE_V rfl, sE_k _ _, sE_V rfl, sE_k _ _, sE_k _ _, sE_k _ _, sE_k _ _, sE_k _ _, sE_k _ _, trivial⟩, (show Gq (XT hp) s11 (0 : Int) s2 (0 : Int) (0 : Int) (0 : Int) (0 : Int) (0 : Int) (0 : Int) from h26_go f0.1 (by omega) (by omega) (by omega))⟩ (all_nil))
theorem rl145 : ruOk fFS gR145 := by
  intro r hp hO hN hH
  obtain ⟨s0, s1, s2, s3, s4, s5, s6, rfl⟩ := len7 (show r.length = 7 from hN.1)
  have hR := hN.2.1.1
  have hIv : ∀ q ∈ ([(0, .negSucc 2147483647, .ofNat 2147483647), (1, .ofNat 7, .ofNat 7), (2, .negSucc 2147483647, .ofNat 2147483647), (3, .ofNat 3, .ofNat 3), (4, .negSucc 2147483647, .ofNat 2147483647), (5, .negSucc 2147483647, .ofNat 2147483647), (6, .ofNat 59, .ofNat 59)] : sIv), ∃ x, ([s0, s1, s2, s3, s4, s5, s6] : List Int)[q.1]? = some x ∧ q.2.1 ≤ x ∧ x ≤ q.2.2 := hN.2.1.2
  have b1 : (7 : Int) ≤ s1 ∧ s1 ≤ (7 : Int) := ivX (q := (1, .ofNat 7, .ofNat 7)) (y := s1) (hIv _ (.tail _ (.head _))) rfl
  have b3 : (3 : Int) ≤ s3 ∧ s3 ≤ (3 : Int) := ivX (q := (3, .ofNat 3, .ofNat 3)) (y := s3) (hIv _ (.tail _ (.tail _ (.tail _ (.head _))))) rfl
  have b6 : (59 : Int) ≤ s6 ∧ s6 ≤ (59 : Int) := ivX (q := (6, .ofNat 59, .ofNat 59)) (y := s6) (hIv _ (.tail _ (.tail _ (.tail _ (.tail _ (.tail _ (.tail _ (.head _)))))))) rfl
  have hRf : ∀ q ∈ ([((40, .ofNat 173, []), (.ofNat 9, []), 1, .ofNat 0, [])] : List sRf), rfOk [s0, s1, s2, s3, s4, s5, s6] hp q := hH.1
  have h0 : hI hp 173 9 = 0 := rfI0 (hRf _ (.head _)) (sE_k _ _) (sE_k _ _) (sE_k _ _)
  have hFc : ∀ q ∈ ([(241, [(.ofNat 0, [(.ofNat 1, 0)]), (.ofNat 0, [(.ofNat 1, 1)]), (.ofNat 0, [(.ofNat 1, 2)]), (.ofNat 0, [(.ofNat 1, 3)]), (.ofNat 0, [(.ofNat 1, 4)]), (.ofNat 0, [(.ofNat 1, 5)]), (.ofNat 0, [(.ofNat 1, 6)])])] : List sFc), fcOk fFS [s0, s1, s2, s3, s4, s5, s6] hp q := hH.2
  have f0 : roH (XT hp) (nmR hp (xnm hp)) (hI hp (hC hp 0 6) 0) (hI hp (hC hp 0 6) 1) s0 s1 s2 s3 s4 s5 s6 ∧ s3 ≠ 4 := fcX (ys := [s0, s1, s2, s3, s4, s5, s6]) (hFc _ (.head _)) ⟨sE_V rfl, sE_V rfl, sE_V rfl, sE_V rfl, sE_V rfl, sE_V rfl, sE_V rfl, trivial⟩
  exact poX (.head _) rfl hR (all_nil) (all_nil) (all_cons ⟨[s5, 0, (s2 + 1)], ⟨sE_V rfl, sE_k _ _, sEv (y' := ((1 : Int) + ((1 : Int) * s2 + 0))) rfl (by omega), trivial⟩, (show roG (XT hp) (nmR hp (xnm hp)) (hI hp (hC hp 0 6) 0) (hI hp (hC hp 0 6) 1) s5 (0 : Int) (s2 + 1) from ro7_go f0.1 (by omega) (by omega))⟩ (all_nil))
theorem rl146 : ruOk fFS gR146 := by
  intro r hp hO hN hH
  obtain ⟨s0, s1, s2, s3, s4, s5, s6, s7, s8, s9, s10, s11, s12, s13, s14, s15, s16, s17, s18, s19, s20, s21, s22, rfl⟩ := len23 (show r.length = 23 from hN.1)
  have hR := hN.2.1.1
  have hIv : ∀ q ∈ ([(0, .negSucc 2147483647, .ofNat 2147483647), (1, .ofNat 0, .ofNat 0), (2, .negSucc 2147483647, .ofNat 2147483647), (3, .negSucc 2147483647, .ofNat 2147483647), (4, .negSucc 2147483647, .ofNat 2147483647), (5, .negSucc 2147483647, .ofNat 2147483647), (6, .negSucc 2147483647, .ofNat 2147483647), (7, .negSucc 2147483647, .ofNat 2147483647), (8, .negSucc 2147483647, .ofNat 2147483647), (9, .ofNat 1, .ofNat 1), (10, .negSucc 2147483647, .ofNat 2147483647), (11, .negSucc 2147483647, .ofNat 2147483647), (12, .ofNat 6, .ofNat 6), (13, .negSucc 2147483647, .ofNat 2147483647), (14, .negSucc 2147483647, .ofNat 2147483647), (15, .negSucc 2147483647, .ofNat 2147483647), (16, .negSucc 2147483647, .ofNat 2147483647), (17, .negSucc 2147483647, .ofNat 2147483647), (18, .ofNat 10, .ofNat 2147483647), (19, .negSucc 2147483647, .ofNat 2147483647), (20, .negSucc 2147483647, .ofNat 2147483647), (21, .negSucc 2147483647, .ofNat 2147483647), (22, .negSucc 2147483647, .ofNat 2147483647)] : sIv), ∃ x, ([s0, s1, s2, s3, s4, s5, s6, s7, s8, s9, s10, s11, s12, s13, s14, s15, s16, s17, s18, s19, s20, s21, s22] : List Int)[q.1]? = some x ∧ q.2.1 ≤ x ∧ x ≤ q.2.2 := hN.2.1.2
  have b1 : (0 : Int) ≤ s1 ∧ s1 ≤ (0 : Int) := ivX (q := (1, .ofNat 0, .ofNat 0)) (y := s1) (hIv _ (.tail _ (.head _))) rfl
  have b9 : (1 : Int) ≤ s9 ∧ s9 ≤ (1 : Int) := ivX (q := (9, .ofNat 1, .ofNat 1)) (y := s9) (hIv _ (.tail _ (.tail _ (.tail _ (.tail _ (.tail _ (.tail _ (.tail _ (.tail _ (.tail _ (.head _))))))))))) rfl
  have b12 : (6 : Int) ≤ s12 ∧ s12 ≤ (6 : Int) := ivX (q := (12, .ofNat 6, .ofNat 6)) (y := s12) (hIv _ (.tail _ (.tail _ (.tail _ (.tail _ (.tail _ (.tail _ (.tail _ (.tail _ (.tail _ (.tail _ (.tail _ (.tail _ (.head _)))))))))))))) rfl
  have b18 : (10 : Int) ≤ s18 ∧ s18 ≤ (2147483647 : Int) := ivX (q := (18, .ofNat 10, .ofNat 2147483647)) (y := s18) (hIv _ (.tail _ (.tail _ (.tail _ (.tail _ (.tail _ (.tail _ (.tail _ (.tail _ (.tail _ (.tail _ (.tail _ (.tail _ (.tail _ (.tail _ (.tail _ (.tail _ (.tail _ (.tail _ (.head _)))))))))))))))))))) rfl
  have hRf : ∀ q ∈ ([((40, .ofNat 173, []), (.ofNat 9, []), 1, .ofNat 0, [])] : List sRf), rfOk [s0, s1, s2, s3, s4, s5, s6, s7, s8, s9, s10, s11, s12, s13, s14, s15, s16, s17, s18, s19, s20, s21, s22] hp q := hH.1
  have h0 : hI hp 173 9 = 0 := rfI0 (hRf _ (.head _)) (sE_k _ _) (sE_k _ _) (sE_k _ _)
  have hFc : ∀ q ∈ ([(53, [(.ofNat 0, [(.ofNat 1, 0)]), (.ofNat 0, [(.ofNat 1, 1)]), (.ofNat 0, [(.ofNat 1, 2)]), (.ofNat 0, [(.ofNat 1, 3)]), (.ofNat 0, [(.ofNat 1, 4)]), (.ofNat 0, [(.ofNat 1, 5)]), (.ofNat 0, [(.ofNat 1, 6)]), (.ofNat 0, [(.ofNat 1, 7)]), (.ofNat 0, [(.ofNat 1, 8)]), (.ofNat 0, [(.ofNat 1, 9)]), (.ofNat 0, [(.ofNat 1, 10)]), (.ofNat 0, [(.ofNat 1, 11)]), (.ofNat 0, [(.ofNat 1, 12)])]), (59, [(.ofNat 0, [(.ofNat 1, 2)]), (.ofNat 0, [(.ofNat 1, 13)]), (.ofNat 0, [(.ofNat 1, 14)]), (.ofNat 0, [(.ofNat 1, 15)]), (.ofNat 0, [(.ofNat 1, 16)]), (.ofNat 0, [(.ofNat 1, 17)]), (.ofNat 0, [(.ofNat 1, 18)]), (.ofNat 0, [(.ofNat 1, 19)]), (.ofNat 0, [(.ofNat 1, 20)]), (.ofNat 0, [(.ofNat 1, 21)]), (.ofNat 0, [(.ofNat 1, 22)])])] : List sFc), fcOk fFS [s0, s1, s2, s3, s4, s5, s6, s7, s8, s9, s10, s11, s12, s13, s14, s15, s16, s17, s18, s19, s20, s21, s22] hp q := hH.2
  have f0 : Hq (XT hp) s0 s1 s2 s3 s4 s5 s6 s7 s8 s9 s10 s11 s12 ∧ s9 ≠ 4 := fcX (ys := [s0, s1, s2, s3, s4, s5, s6, s7, s8, s9, s10, s11, s12]) (hFc _ (.head _)) ⟨sE_V rfl, sE_V rfl, sE_V rfl, sE_V rfl, sE_V rfl, sE_V rfl, sE_V rfl, sE_V rfl, sE_V rfl, sE_V rfl, sE_V rfl, sE_V rfl, sE_V rfl, trivial⟩
  have f1 : CT (XT hp) s2 s13 s14 s15 s16 s17 s18 s19 s20 s21 s22 := fcX (ys := [s2, s13, s14, s15, s16, s17, s18, s19, s20, s21, s22]) (hFc _ (.tail _ (.head _))) ⟨sE_V rfl, sE_V rfl, sE_V rfl, sE_V rfl, sE_V rfl, sE_V rfl, sE_V rfl, sE_V rfl, sE_V rfl, sE_V rfl, sE_V rfl, trivial⟩
  exact poX (.head _) rfl hR (all_nil) (all_nil) (all_cons ⟨[4, s10], ⟨sE_k _ _, sE_V rfl, trivial⟩, (show RS (XT hp) (4 : Int) s10 from ln_f6 (XT_ok hO) f0.1 (dF_mp f1 (fun D h => by unfold ctP at h; omega)) (by omega) (by omega) (by omega))⟩ (all_nil))
theorem rl147 : ruOk fFS gR147 := by
  intro r hp hO hN hH
  obtain ⟨s0, s1, s2, s3, s4, s5, s6, s7, s8, s9, s10, s11, s12, s13, s14, s15, s16, s17, s18, s19, s20, s21, s22, rfl⟩ := len23 (show r.length = 23 from hN.1)
  have hR := hN.2.1.1
  have hIv : ∀ q ∈ ([(0, .negSucc 2147483647, .ofNat 2147483647), (1, .ofNat 0, .ofNat 0), (2, .negSucc 2147483647, .ofNat 2147483647), (3, .negSucc 2147483647, .ofNat 2147483647), (4, .negSucc 2147483647, .ofNat 2147483647), (5, .negSucc 2147483647, .ofNat 2147483647), (6, .negSucc 2147483647, .ofNat 2147483647), (7, .negSucc 2147483647, .ofNat 2147483647), (8, .negSucc 2147483647, .ofNat 2147483647), (9, .ofNat 1, .ofNat 1), (10, .negSucc 2147483647, .ofNat 2147483647), (11, .negSucc 2147483647, .ofNat 2147483647), (12, .ofNat 6, .ofNat 6), (13, .negSucc 2147483647, .ofNat 2147483647), (14, .negSucc 2147483647, .ofNat 2147483647), (15, .negSucc 2147483647, .ofNat 2147483647), (16, .negSucc 2147483647, .ofNat 2147483647), (17, .negSucc 2147483647, .ofNat 2147483647), (18, .negSucc 2147483647, .ofNat 9), (19, .negSucc 2147483647, .ofNat 2147483647), (20, .negSucc 2147483647, .ofNat 2147483647), (21, .negSucc 2147483647, .ofNat 2147483647), (22, .negSucc 2147483647, .ofNat 2147483647)] : sIv), ∃ x, ([s0, s1, s2, s3, s4, s5, s6, s7, s8, s9, s10, s11, s12, s13, s14, s15, s16, s17, s18, s19, s20, s21, s22] : List Int)[q.1]? = some x ∧ q.2.1 ≤ x ∧ x ≤ q.2.2 := hN.2.1.2
  have b1 : (0 : Int) ≤ s1 ∧ s1 ≤ (0 : Int) := ivX (q := (1, .ofNat 0, .ofNat 0)) (y := s1) (hIv _ (.tail _ (.head _))) rfl
  have b9 : (1 : Int) ≤ s9 ∧ s9 ≤ (1 : Int) := ivX (q := (9, .ofNat 1, .ofNat 1)) (y := s9) (hIv _ (.tail _ (.tail _ (.tail _ (.tail _ (.tail _ (.tail _ (.tail _ (.tail _ (.tail _ (.head _))))))))))) rfl
  have b12 : (6 : Int) ≤ s12 ∧ s12 ≤ (6 : Int) := ivX (q := (12, .ofNat 6, .ofNat 6)) (y := s12) (hIv _ (.tail _ (.tail _ (.tail _ (.tail _ (.tail _ (.tail _ (.tail _ (.tail _ (.tail _ (.tail _ (.tail _ (.tail _ (.head _)))))))))))))) rfl
  have b18 : (-2147483648 : Int) ≤ s18 ∧ s18 ≤ (9 : Int) := ivX (q := (18, .negSucc 2147483647, .ofNat 9)) (y := s18) (hIv _ (.tail _ (.tail _ (.tail _ (.tail _ (.tail _ (.tail _ (.tail _ (.tail _ (.tail _ (.tail _ (.tail _ (.tail _ (.tail _ (.tail _ (.tail _ (.tail _ (.tail _ (.tail _ (.head _)))))))))))))))))))) rfl
  have hRf : ∀ q ∈ ([((40, .ofNat 173, []), (.ofNat 9, []), 1, .ofNat 0, [])] : List sRf), rfOk [s0, s1, s2, s3, s4, s5, s6, s7, s8, s9, s10, s11, s12, s13, s14, s15, s16, s17, s18, s19, s20, s21, s22] hp q := hH.1
  have h0 : hI hp 173 9 = 0 := rfI0 (hRf _ (.head _)) (sE_k _ _) (sE_k _ _) (sE_k _ _)
  have hFc : ∀ q ∈ ([(53, [(.ofNat 0, [(.ofNat 1, 0)]), (.ofNat 0, [(.ofNat 1, 1)]), (.ofNat 0, [(.ofNat 1, 2)]), (.ofNat 0, [(.ofNat 1, 3)]), (.ofNat 0, [(.ofNat 1, 4)]), (.ofNat 0, [(.ofNat 1, 5)]), (.ofNat 0, [(.ofNat 1, 6)]), (.ofNat 0, [(.ofNat 1, 7)]), (.ofNat 0, [(.ofNat 1, 8)]), (.ofNat 0, [(.ofNat 1, 9)]), (.ofNat 0, [(.ofNat 1, 10)]), (.ofNat 0, [(.ofNat 1, 11)]), (.ofNat 0, [(.ofNat 1, 12)])]), (59, [(.ofNat 0, [(.ofNat 1, 2)]), (.ofNat 0, [(.ofNat 1, 13)]), (.ofNat 0, [(.ofNat 1, 14)]), (.ofNat 0, [(.ofNat 1, 15)]), (.ofNat 0, [(.ofNat 1, 16)]), (.ofNat 0, [(.ofNat 1, 17)]), (.ofNat 0, [(.ofNat 1, 18)]), (.ofNat 0, [(.ofNat 1, 19)]), (.ofNat 0, [(.ofNat 1, 20)]), (.ofNat 0, [(.ofNat 1, 21)]), (.ofNat 0, [(.ofNat 1, 22)])])] : List sFc), fcOk fFS [s0, s1, s2, s3, s4, s5, s6, s7, s8, s9, s10, s11, s12, s13, s14, s15, s16, s17, s18, s19, s20, s21, s22] hp q := hH.2
  have f0 : Hq (XT hp) s0 s1 s2 s3 s4 s5 s6 s7 s8 s9 s10 s11 s12 ∧ s9 ≠ 4 := fcX (ys := [s0, s1, s2, s3, s4, s5, s6, s7, s8, s9, s10, s11, s12]) (hFc _ (.head _)) ⟨sE_V rfl, sE_V rfl, sE_V rfl, sE_V rfl, sE_V rfl, sE_V rfl, sE_V rfl, sE_V rfl, sE_V rfl, sE_V rfl, sE_V rfl, sE_V rfl, sE_V rfl, trivial⟩
  have f1 : CT (XT hp) s2 s13 s14 s15 s16 s17 s18 s19 s20 s21 s22 := fcX (ys := [s2, s13, s14, s15, s16, s17, s18, s19, s20, s21, s22]) (hFc _ (.tail _ (.head _))) ⟨sE_V rfl, sE_V rfl, sE_V rfl, sE_V rfl, sE_V rfl, sE_V rfl, sE_V rfl, sE_V rfl, sE_V rfl, sE_V rfl, sE_V rfl, trivial⟩
  obtain ⟨D, hG, hP⟩ := ln_g6 (P := ctP s13 s14 s15 s16 s17 s18 s19 s20 s21 s22) (XT_ok hO) f0.1 (dF_mp f1 (fun D h => ⟨by unfold ctP at h; omega, h⟩)) (by omega) (by omega) (by omega)
  exact poX (.head _) rfl hR (all_nil) (all_nil) (all_cons ⟨[s11, 21, s2, 0, 0, 0, 0, 0, 0], ⟨sE_V rfl, sE_k _ _, sE_V rfl, sE_k _ _, sE_k _ _, sE_k _ _, sE_k _ _, sE_k _ _, sE_k _ _, trivial⟩, (show Gq (XT hp) s11 (21 : Int) s2 (0 : Int) (0 : Int) (0 : Int) (0 : Int) (0 : Int) (0 : Int) from ⟨D, hG⟩)⟩ (all_cons ⟨[s11, 0, (s21 - 1)], ⟨sE_V rfl, sE_k _ _, sEv (y' := ((-1 : Int) + ((1 : Int) * s21 + 0))) rfl (by omega), trivial⟩, (show EN (XT hp) s11 (0 : Int) (s21 - 1) from en_mk hG (nC21 (by omega) (by omega) (by have hx := hP.2.2.2.2.2.2.2.2.1; have hy := hP.2.2.2.2.2.2.2.2.2; clear hP; omega)))⟩ (all_nil)))
theorem rl148 : ruOk fFS gR148 := by
  intro r hp hO hN hH
  obtain ⟨s0, s1, s2, s3, s4, s5, s6, s7, s8, s9, s10, s11, s12, s13, s14, s15, s16, s17, s18, s19, s20, s21, s22, rfl⟩ := len23 (show r.length = 23 from hN.1)
  have hR := hN.2.1.1
  have hIv : ∀ q ∈ ([(0, .negSucc 2147483647, .ofNat 2147483647), (1, .negSucc 2147483647, .ofNat 2147483647), (2, .ofNat 21, .ofNat 21), (3, .negSucc 2147483647, .ofNat 2147483647), (4, .negSucc 2147483647, .ofNat 2147483647), (5, .negSucc 2147483647, .ofNat 2147483647), (6, .negSucc 2147483647, .ofNat 2147483647), (7, .negSucc 2147483647, .ofNat 2147483647), (8, .negSucc 2147483647, .ofNat 2147483647), (9, .negSucc 2147483647, .ofNat 2147483647), (10, .ofNat 2, .ofNat 2), (11, .negSucc 2147483647, .ofNat 2147483647), (12, .negSucc 2147483647, .ofNat 2147483647), (13, .negSucc 2147483647, .ofNat 2147483647), (14, .negSucc 2147483647, .ofNat 2147483647), (15, .negSucc 2147483647, .ofNat 2147483647), (16, .negSucc 2147483647, .ofNat 2147483647), (17, .negSucc 2147483647, .ofNat 2147483647), (18, .negSucc 2147483647, .ofNat 2147483647), (19, .negSucc 2147483647, .ofNat 2147483647), (20, .negSucc 2147483647, .ofNat 2147483647), (21, .negSucc 2147483647, .ofNat 2147483647), (22, .negSucc 2147483647, .ofNat 2147483647)] : sIv), ∃ x, ([s0, s1, s2, s3, s4, s5, s6, s7, s8, s9, s10, s11, s12, s13, s14, s15, s16, s17, s18, s19, s20, s21, s22] : List Int)[q.1]? = some x ∧ q.2.1 ≤ x ∧ x ≤ q.2.2 := hN.2.1.2
  have b2 : (21 : Int) ≤ s2 ∧ s2 ≤ (21 : Int) := ivX (q := (2, .ofNat 21, .ofNat 21)) (y := s2) (hIv _ (.tail _ (.tail _ (.head _)))) rfl
  have b10 : (2 : Int) ≤ s10 ∧ s10 ≤ (2 : Int) := ivX (q := (10, .ofNat 2, .ofNat 2)) (y := s10) (hIv _ (.tail _ (.tail _ (.tail _ (.tail _ (.tail _ (.tail _ (.tail _ (.tail _ (.tail _ (.tail _ (.head _)))))))))))) rfl
  have hRf : ∀ q ∈ ([((40, .ofNat 173, []), (.ofNat 9, []), 1, .ofNat 0, [])] : List sRf), rfOk [s0, s1, s2, s3, s4, s5, s6, s7, s8, s9, s10, s11, s12, s13, s14, s15, s16, s17, s18, s19, s20, s21, s22] hp q := hH.1
  have h0 : hI hp 173 9 = 0 := rfI0 (hRf _ (.head _)) (sE_k _ _) (sE_k _ _) (sE_k _ _)
  have hFc : ∀ q ∈ ([(53, [(.ofNat 0, [(.ofNat 1, 1)]), (.ofNat 0, [(.ofNat 1, 2)]), (.ofNat 0, [(.ofNat 1, 3)]), (.ofNat 0, [(.ofNat 1, 4)]), (.ofNat 0, [(.ofNat 1, 5)]), (.ofNat 0, [(.ofNat 1, 6)]), (.ofNat 0, [(.ofNat 1, 7)]), (.ofNat 0, [(.ofNat 1, 8)]), (.ofNat 0, [(.ofNat 1, 9)]), (.ofNat 0, [(.ofNat 1, 10)]), (.ofNat 0, [(.ofNat 1, 11)]), (.ofNat 0, [(.ofNat 1, 12)]), (.ofNat 0, [(.ofNat 1, 0)])]), (59, [(.ofNat 0, [(.ofNat 1, 3)]), (.ofNat 0, [(.ofNat 1, 13)]), (.ofNat 0, [(.ofNat 1, 14)]), (.ofNat 0, [(.ofNat 1, 15)]), (.ofNat 0, [(.ofNat 1, 16)]), (.ofNat 0, [(.ofNat 1, 17)]), (.ofNat 0, [(.ofNat 1, 18)]), (.ofNat 0, [(.ofNat 1, 19)]), (.ofNat 0, [(.ofNat 1, 20)]), (.ofNat 0, [(.ofNat 1, 21)]), (.ofNat 0, [(.ofNat 1, 22)])]), (60, [(.ofNat 0, [(.ofNat 1, 1)])])] : List sFc), fcOk fFS [s0, s1, s2, s3, s4, s5, s6, s7, s8, s9, s10, s11, s12, s13, s14, s15, s16, s17, s18, s19, s20, s21, s22] hp q := hH.2
  have f0 : Hq (XT hp) s1 s2 s3 s4 s5 s6 s7 s8 s9 s10 s11 s12 s0 ∧ s10 ≠ 4 := fcX (ys := [s1, s2, s3, s4, s5, s6, s7, s8, s9, s10, s11, s12, s0]) (hFc _ (.head _)) ⟨sE_V rfl, sE_V rfl, sE_V rfl, sE_V rfl, sE_V rfl, sE_V rfl, sE_V rfl, sE_V rfl, sE_V rfl, sE_V rfl, sE_V rfl, sE_V rfl, sE_V rfl, trivial⟩
  have f1 : CT (XT hp) s3 s13 s14 s15 s16 s17 s18 s19 s20 s21 s22 := fcX (ys := [s3, s13, s14, s15, s16, s17, s18, s19, s20, s21, s22]) (hFc _ (.tail _ (.head _))) ⟨sE_V rfl, sE_V rfl, sE_V rfl, sE_V rfl, sE_V rfl, sE_V rfl, sE_V rfl, sE_V rfl, sE_V rfl, sE_V rfl, sE_V rfl, trivial⟩
  have f2 : NO (XT hp) s1 := fcX (ys := [s1]) (hFc _ (.tail _ (.tail _ (.head _)))) ⟨sE_V rfl, trivial⟩
  obtain ⟨D, hG⟩ := hN21 (XT_ok hO) f0.1 (by omega) (by omega) f2
  have hP := dF_at (XT_ok hO) hG f1
  exact poX (.head _) rfl hR (all_nil) (all_nil) (all_cons ⟨[s12, 22, s3, 0, s0, 0, 0, 0, 0], ⟨sE_V rfl, sE_k _ _, sE_V rfl, sE_k _ _, sE_V rfl, sE_k _ _, sE_k _ _, sE_k _ _, sE_k _ _, trivial⟩, (show Gq (XT hp) s12 (22 : Int) s3 (0 : Int) s0 (0 : Int) (0 : Int) (0 : Int) (0 : Int) from ⟨D, hG⟩)⟩ (all_cons ⟨[s12, 0, (s22 - 1)], ⟨sE_V rfl, sE_k _ _, sEv (y' := ((-1 : Int) + ((1 : Int) * s22 + 0))) rfl (by omega), trivial⟩, (show EN (XT hp) s12 (0 : Int) (s22 - 1) from en_mk hG (nC22 (by omega) (by omega) (by have hx := hP.2.2.2.2.2.2.2.2.1; have hy := hP.2.2.2.2.2.2.2.2.2; clear hP; omega)))⟩ (all_nil)))
theorem rl149 : ruOk fFS gR149 := by
  intro r hp hO hN hH
  obtain ⟨s0, s1, s2, s3, s4, s5, s6, s7, rfl⟩ := len8 (show r.length = 8 from hN.1)
  have hR := hN.2.1.1
  have hIv : ∀ q ∈ ([(1, .ofNat 0, .ofNat 9), (2, .ofNat 0, .ofNat 9), (4, .negSucc 2147483647, .ofNat 2147483647), (5, .negSucc 2147483647, .ofNat 2147483647), (6, .negSucc 2147483647, .ofNat 2147483647), (7, .ofNat 1, .ofNat 1)] : sIv), ∃ x, ([s0, s1, s2, s3, s4, s5, s6, s7] : List Int)[q.1]? = some x ∧ q.2.1 ≤ x ∧ x ≤ q.2.2 := hN.2.1.2
  have b0 : (0 : Int) ≤ s1 ∧ s1 ≤ (9 : Int) := ivX (q := (1, .ofNat 0, .ofNat 9)) (y := s1) (hIv _ (.head _)) rfl
  have b1 : (0 : Int) ≤ s2 ∧ s2 ≤ (9 : Int) := ivX (q := (2, .ofNat 0, .ofNat 9)) (y := s2) (hIv _ (.tail _ (.head _))) rfl
  have b5 : (1 : Int) ≤ s7 ∧ s7 ≤ (1 : Int) := ivX (q := (7, .ofNat 1, .ofNat 1)) (y := s7) (hIv _ (.tail _ (.tail _ (.tail _ (.tail _ (.tail _ (.head _))))))) rfl
  have hRf : ∀ q ∈ ([((43, .ofNat 176, []), (.ofNat 2, []), 31, .ofNat 0, [(.ofNat 1, 0)]), ((15, .ofNat 0, [(.ofNat 1, 0)]), (.ofNat 10, []), 37, .ofNat 0, [(.ofNat 1, 3)]), ((21, .ofNat 0, [(.ofNat 1, 3)]), (.ofNat 0, [(.ofNat 1, 2)]), 1, .ofNat 0, [(.ofNat 1, 4)])] : List sRf), rfOk [s0, s1, s2, s3, s4, s5, s6, s7] hp q := hH.1
  have g0 : s0 = ((hC hp 176 2 : Nat) : Int) := rfR0 (hRf _ (.head _)) (sE_k _ _) (sE_k _ _) (sE_V rfl)
  have g1 : s3 = ((rr hp 2 10 : Nat) : Int) := rfR0 (hRf _ (.tail _ (.head _))) (sEv (sE_V rfl) g0.symm) (sE_k _ _) (sE_V rfl)
  obtain ⟨i2, e2, l2, h2⟩ := rfI (xv := s4) (iv := s2) (hRf _ (.tail _ (.tail _ (.head _)))) (sEv (sE_V rfl) g1.symm) (sE_V rfl) (sE_V rfl)
  have l2 : i2 < 10 := l2
  have h2 : hI hp (rr hp 2 10) i2 = s4 := h2
  have hFc : ∀ q ∈ ([(74, [(.ofNat 0, [(.ofNat 1, 5)])]), (84, [(.ofNat 0, [(.ofNat 1, 4)]), (.ofNat 0, [(.ofNat 1, 1)]), (.ofNat 0, [(.ofNat 1, 6)])]), (87, [(.ofNat 0, [(.ofNat 1, 6)]), (.ofNat 1, []), (.ofNat 0, [(.ofNat 1, 7)])])] : List sFc), fcOk fFS [s0, s1, s2, s3, s4, s5, s6, s7] hp q := hH.2
  have f0 : dF (XT hp) s5 (fun D => ∀ j : Nat, j < 10 → wR (hI hp (rr hp 2 10) j) D j) := fcX (ys := [s5]) (hFc _ (.head _)) ⟨sE_V rfl, trivial⟩
  have f1 : 0 ≤ s1 → s1 ≤ 31 → s6 = s4 / 2 ^ s1.toNat := fcX (ys := [s4, s1, s6]) (hFc _ (.tail _ (.head _))) ⟨sE_V rfl, sE_V rfl, sE_V rfl, trivial⟩
  have f2 : ((1 : Int) = 255 → s7 = s6 % 256) ∧ ((1 : Int) = 1 → s7 = s6 % 2) := fcX (ys := [s6, 1, s7]) (hFc _ (.tail _ (.tail _ (.head _)))) ⟨sE_V rfl, sE_k _ _, sE_V rfl, trivial⟩
  exact poX (.head _) rfl hR (all_nil) (all_nil) (all_cons ⟨[s5, s1, s2, 1], ⟨sE_V rfl, sE_V rfl, sE_V rfl, sE_k _ _, trivial⟩, (show dF (XT hp) s5 (fun D => bP (1 : Int) ((s1, s2) ∈ dWa D)) from wc_x f0 h2 l2 e2 f1 f2.2 ⟨by omega, by omega⟩ (by omega))⟩ (all_nil))
theorem rl150 : ruOk fFS gR150 := by
  intro r hp hO hN hH
  obtain ⟨s0, s1, s2, s3, s4, s5, s6, s7, rfl⟩ := len8 (show r.length = 8 from hN.1)
  have hR := hN.2.1.1
  have hIv : ∀ q ∈ ([(1, .ofNat 0, .ofNat 9), (2, .ofNat 0, .ofNat 9), (4, .negSucc 2147483647, .ofNat 2147483647), (5, .negSucc 2147483647, .ofNat 2147483647), (6, .negSucc 2147483647, .ofNat 2147483647), (7, .ofNat 0, .ofNat 0)] : sIv), ∃ x, ([s0, s1, s2, s3, s4, s5, s6, s7] : List Int)[q.1]? = some x ∧ q.2.1 ≤ x ∧ x ≤ q.2.2 := hN.2.1.2
  have b0 : (0 : Int) ≤ s1 ∧ s1 ≤ (9 : Int) := ivX (q := (1, .ofNat 0, .ofNat 9)) (y := s1) (hIv _ (.head _)) rfl
  have b1 : (0 : Int) ≤ s2 ∧ s2 ≤ (9 : Int) := ivX (q := (2, .ofNat 0, .ofNat 9)) (y := s2) (hIv _ (.tail _ (.head _))) rfl
  have b5 : (0 : Int) ≤ s7 ∧ s7 ≤ (0 : Int) := ivX (q := (7, .ofNat 0, .ofNat 0)) (y := s7) (hIv _ (.tail _ (.tail _ (.tail _ (.tail _ (.tail _ (.head _))))))) rfl
  have hRf : ∀ q ∈ ([((43, .ofNat 176, []), (.ofNat 2, []), 31, .ofNat 0, [(.ofNat 1, 0)]), ((15, .ofNat 0, [(.ofNat 1, 0)]), (.ofNat 10, []), 37, .ofNat 0, [(.ofNat 1, 3)]), ((21, .ofNat 0, [(.ofNat 1, 3)]), (.ofNat 0, [(.ofNat 1, 2)]), 1, .ofNat 0, [(.ofNat 1, 4)])] : List sRf), rfOk [s0, s1, s2, s3, s4, s5, s6, s7] hp q := hH.1
  have g0 : s0 = ((hC hp 176 2 : Nat) : Int) := rfR0 (hRf _ (.head _)) (sE_k _ _) (sE_k _ _) (sE_V rfl)
  have g1 : s3 = ((rr hp 2 10 : Nat) : Int) := rfR0 (hRf _ (.tail _ (.head _))) (sEv (sE_V rfl) g0.symm) (sE_k _ _) (sE_V rfl)
  obtain ⟨i2, e2, l2, h2⟩ := rfI (xv := s4) (iv := s2) (hRf _ (.tail _ (.tail _ (.head _)))) (sEv (sE_V rfl) g1.symm) (sE_V rfl) (sE_V rfl)
  have l2 : i2 < 10 := l2
  have h2 : hI hp (rr hp 2 10) i2 = s4 := h2
  have hFc : ∀ q ∈ ([(74, [(.ofNat 0, [(.ofNat 1, 5)])]), (84, [(.ofNat 0, [(.ofNat 1, 4)]), (.ofNat 0, [(.ofNat 1, 1)]), (.ofNat 0, [(.ofNat 1, 6)])]), (87, [(.ofNat 0, [(.ofNat 1, 6)]), (.ofNat 1, []), (.ofNat 0, [(.ofNat 1, 7)])])] : List sFc), fcOk fFS [s0, s1, s2, s3, s4, s5, s6, s7] hp q := hH.2
  have f0 : dF (XT hp) s5 (fun D => ∀ j : Nat, j < 10 → wR (hI hp (rr hp 2 10) j) D j) := fcX (ys := [s5]) (hFc _ (.head _)) ⟨sE_V rfl, trivial⟩
  have f1 : 0 ≤ s1 → s1 ≤ 31 → s6 = s4 / 2 ^ s1.toNat := fcX (ys := [s4, s1, s6]) (hFc _ (.tail _ (.head _))) ⟨sE_V rfl, sE_V rfl, sE_V rfl, trivial⟩
  have f2 : ((1 : Int) = 255 → s7 = s6 % 256) ∧ ((1 : Int) = 1 → s7 = s6 % 2) := fcX (ys := [s6, 1, s7]) (hFc _ (.tail _ (.tail _ (.head _)))) ⟨sE_V rfl, sE_k _ _, sE_V rfl, trivial⟩
  exact poX (.head _) rfl hR (all_nil) (all_nil) (all_cons ⟨[s5, s1, s2, 0], ⟨sE_V rfl, sE_V rfl, sE_V rfl, sE_k _ _, trivial⟩, (show dF (XT hp) s5 (fun D => bP (0 : Int) ((s1, s2) ∈ dWa D)) from wc_x f0 h2 l2 e2 f1 f2.2 ⟨by omega, by omega⟩ (by omega))⟩ (all_nil))
theorem rl151 : ruOk fFS gR151 := by
  intro r hp hO hN hH
  obtain ⟨s0, s1, s2, s3, rfl⟩ := len4 (show r.length = 4 from hN.1)
  have hR := hN.2.1.1
  have hIv : ∀ q ∈ ([(0, .negSucc 2147483647, .ofNat 2147483647), (1, .negSucc 2147483647, .ofNat 2147483647), (2, .negSucc 2147483647, .ofNat 2147483647), (3, .negSucc 2147483647, .ofNat 2147483647)] : sIv), ∃ x, ([s0, s1, s2, s3] : List Int)[q.1]? = some x ∧ q.2.1 ≤ x ∧ x ≤ q.2.2 := hN.2.1.2
  have hFc : ∀ q ∈ ([(72, [(.ofNat 0, [(.ofNat 1, 2)]), (.ofNat 0, [(.ofNat 1, 3)])])] : List sFc), fcOk fFS [s0, s1, s2, s3] hp q := hH.2
  have f0 : dF (XT hp) s3 (fun D => s2 = (dTr D).length ∧ ∀ i : Nat, i < 14 → (i : Int) < s2 → (dTr D)[i]? = some (hI hp (rr hp 2 6) i, hI hp (rr hp 2 7) i)) := fcX (ys := [s2, s3]) (hFc _ (.head _)) ⟨sE_V rfl, sE_V rfl, trivial⟩
  exact poX (.head _) rfl hR (all_nil) (all_nil) (all_cons ⟨[0, s3, s0, s1], ⟨sE_k _ _, sE_V rfl, sE_V rfl, sE_V rfl, trivial⟩, (show ∀ i : Nat, i < 14 → (i : Int) < (0 : Int) → ¬ (hI hp (rr hp 2 6) i = s0 ∧ hI hp (rr hp 2 7) i = s1) from fun i _ w => absurd w (by omega))⟩ (all_nil))
theorem rl152 : ruOk fFS gR152 := by
  intro r hp hO hN hH
  obtain ⟨s0, s1, s2, s3, s4, rfl⟩ := len5 (show r.length = 5 from hN.1)
  have hR := hN.2.1.1
  have hIv : ∀ q ∈ ([(1, .negSucc 2147483647, .ofNat 2147483647), (2, .ofNat 0, .ofNat 13), (4, .negSucc 2147483647, .ofNat 2147483647)] : sIv), ∃ x, ([s0, s1, s2, s3, s4] : List Int)[q.1]? = some x ∧ q.2.1 ≤ x ∧ x ≤ q.2.2 := hN.2.1.2
  have b1 : (0 : Int) ≤ s2 ∧ s2 ≤ (13 : Int) := ivX (q := (2, .ofNat 0, .ofNat 13)) (y := s2) (hIv _ (.tail _ (.head _))) rfl
  have hRf : ∀ q ∈ ([((43, .ofNat 176, []), (.ofNat 2, []), 31, .ofNat 0, [(.ofNat 1, 0)]), ((15, .ofNat 0, [(.ofNat 1, 0)]), (.ofNat 6, []), 33, .ofNat 0, [(.ofNat 1, 3)]), ((17, .ofNat 0, [(.ofNat 1, 3)]), (.ofNat 0, [(.ofNat 1, 2)]), 1, .ofNat 0, [(.ofNat 1, 4)])] : List sRf), rfOk [s0, s1, s2, s3, s4] hp q := hH.1
  have g0 : s0 = ((hC hp 176 2 : Nat) : Int) := rfR0 (hRf _ (.head _)) (sE_k _ _) (sE_k _ _) (sE_V rfl)
  have g1 : s3 = ((rr hp 2 6 : Nat) : Int) := rfR0 (hRf _ (.tail _ (.head _))) (sEv (sE_V rfl) g0.symm) (sE_k _ _) (sE_V rfl)
  obtain ⟨i2, e2, l2, h2⟩ := rfI (xv := s4) (iv := s2) (hRf _ (.tail _ (.tail _ (.head _)))) (sEv (sE_V rfl) g1.symm) (sE_V rfl) (sE_V rfl)
  have l2 : i2 < 14 := l2
  have h2 : hI hp (rr hp 2 6) i2 = s4 := h2
  have y : (((1 : Int) + ((-1 : Int) * s1 + ((1 : Int) * s4 + 0))) ≤ 0) ∨ (((0 : Int) + ((-1 : Int) * s1 + ((1 : Int) * s4 + 0))) ≤ 0 ∧ ((0 : Int) + ((1 : Int) * s1 + ((-1 : Int) * s4 + 0))) ≤ 0) ∨ (((1 : Int) + ((1 : Int) * s1 + ((-1 : Int) * s4 + 0))) ≤ 0) := by omega
  rcases y with y | y | y
  · exact poX (.head _) rfl hR (all_nil) (all_cons ⟨((1 : Int) + ((-1 : Int) * s1 + ((1 : Int) * s4 + 0))), rfl, (show ((1 : Int) + ((-1 : Int) * s1 + ((1 : Int) * s4 + 0))) ≤ 0 by omega)⟩ (all_nil)) (all_nil)
  · exact poX (.tail _ (.head _)) rfl hR (all_nil) (all_cons ⟨((0 : Int) + ((-1 : Int) * s1 + ((1 : Int) * s4 + 0))), rfl, (show ((0 : Int) + ((-1 : Int) * s1 + ((1 : Int) * s4 + 0))) ≤ 0 by omega)⟩ (all_cons ⟨((0 : Int) + ((1 : Int) * s1 + ((-1 : Int) * s4 + 0))), rfl, (show ((0 : Int) + ((1 : Int) * s1 + ((-1 : Int) * s4 + 0))) ≤ 0 by omega)⟩ (all_nil))) (all_nil)
  · exact poX (.tail _ (.tail _ (.head _))) rfl hR (all_nil) (all_cons ⟨((1 : Int) + ((1 : Int) * s1 + ((-1 : Int) * s4 + 0))), rfl, (show ((1 : Int) + ((1 : Int) * s1 + ((-1 : Int) * s4 + 0))) ≤ 0 by omega)⟩ (all_nil)) (all_nil)
theorem rl153 : ruOk fFS gR153 := by
  intro r hp hO hN hH
  obtain ⟨s0, s1, s2, s3, s4, rfl⟩ := len5 (show r.length = 5 from hN.1)
  have hR := hN.2.1.1
  have hIv : ∀ q ∈ ([(1, .negSucc 2147483647, .ofNat 2147483647), (2, .ofNat 0, .ofNat 13), (4, .negSucc 2147483647, .ofNat 2147483647)] : sIv), ∃ x, ([s0, s1, s2, s3, s4] : List Int)[q.1]? = some x ∧ q.2.1 ≤ x ∧ x ≤ q.2.2 := hN.2.1.2
  have b1 : (0 : Int) ≤ s2 ∧ s2 ≤ (13 : Int) := ivX (q := (2, .ofNat 0, .ofNat 13)) (y := s2) (hIv _ (.tail _ (.head _))) rfl
  have hRf : ∀ q ∈ ([((43, .ofNat 176, []), (.ofNat 2, []), 31, .ofNat 0, [(.ofNat 1, 0)]), ((15, .ofNat 0, [(.ofNat 1, 0)]), (.ofNat 7, []), 34, .ofNat 0, [(.ofNat 1, 3)]), ((18, .ofNat 0, [(.ofNat 1, 3)]), (.ofNat 0, [(.ofNat 1, 2)]), 1, .ofNat 0, [(.ofNat 1, 4)])] : List sRf), rfOk [s0, s1, s2, s3, s4] hp q := hH.1
  have g0 : s0 = ((hC hp 176 2 : Nat) : Int) := rfR0 (hRf _ (.head _)) (sE_k _ _) (sE_k _ _) (sE_V rfl)
  have g1 : s3 = ((rr hp 2 7 : Nat) : Int) := rfR0 (hRf _ (.tail _ (.head _))) (sEv (sE_V rfl) g0.symm) (sE_k _ _) (sE_V rfl)
  obtain ⟨i2, e2, l2, h2⟩ := rfI (xv := s4) (iv := s2) (hRf _ (.tail _ (.tail _ (.head _)))) (sEv (sE_V rfl) g1.symm) (sE_V rfl) (sE_V rfl)
  have l2 : i2 < 14 := l2
  have h2 : hI hp (rr hp 2 7) i2 = s4 := h2
  have y : (((1 : Int) + ((-1 : Int) * s1 + ((1 : Int) * s4 + 0))) ≤ 0) ∨ (((0 : Int) + ((-1 : Int) * s1 + ((1 : Int) * s4 + 0))) ≤ 0 ∧ ((0 : Int) + ((1 : Int) * s1 + ((-1 : Int) * s4 + 0))) ≤ 0) ∨ (((1 : Int) + ((1 : Int) * s1 + ((-1 : Int) * s4 + 0))) ≤ 0) := by omega
  rcases y with y | y | y
  · exact poX (.head _) rfl hR (all_nil) (all_cons ⟨((1 : Int) + ((-1 : Int) * s1 + ((1 : Int) * s4 + 0))), rfl, (show ((1 : Int) + ((-1 : Int) * s1 + ((1 : Int) * s4 + 0))) ≤ 0 by omega)⟩ (all_nil)) (all_nil)
  · exact poX (.tail _ (.head _)) rfl hR (all_nil) (all_cons ⟨((0 : Int) + ((-1 : Int) * s1 + ((1 : Int) * s4 + 0))), rfl, (show ((0 : Int) + ((-1 : Int) * s1 + ((1 : Int) * s4 + 0))) ≤ 0 by omega)⟩ (all_cons ⟨((0 : Int) + ((1 : Int) * s1 + ((-1 : Int) * s4 + 0))), rfl, (show ((0 : Int) + ((1 : Int) * s1 + ((-1 : Int) * s4 + 0))) ≤ 0 by omega)⟩ (all_nil))) (all_nil)
  · exact poX (.tail _ (.tail _ (.head _))) rfl hR (all_nil) (all_cons ⟨((1 : Int) + ((1 : Int) * s1 + ((-1 : Int) * s4 + 0))), rfl, (show ((1 : Int) + ((1 : Int) * s1 + ((-1 : Int) * s4 + 0))) ≤ 0 by omega)⟩ (all_nil)) (all_nil)
theorem rl154 : ruOk fFS gR154 := by
  intro r hp hO hN hH
  obtain ⟨s0, s1, s2, s3, s4, s5, s6, s7, s8, s9, rfl⟩ := len10 (show r.length = 10 from hN.1)
  have hR := hN.2.1.1
  have hIv : ∀ q ∈ ([(1, .negSucc 2147483647, .ofNat 2147483647), (2, .negSucc 2147483647, .ofNat 2147483647), (3, .ofNat 0, .ofNat 13), (6, .negSucc 2147483647, .ofNat 2147483647), (7, .negSucc 2147483647, .ofNat 2147483647), (8, .negSucc 2147483647, .ofNat 2147483647), (9, .negSucc 2147483647, .ofNat 2147483647)] : sIv), ∃ x, ([s0, s1, s2, s3, s4, s5, s6, s7, s8, s9] : List Int)[q.1]? = some x ∧ q.2.1 ≤ x ∧ x ≤ q.2.2 := hN.2.1.2
  have b2 : (0 : Int) ≤ s3 ∧ s3 ≤ (13 : Int) := ivX (q := (3, .ofNat 0, .ofNat 13)) (y := s3) (hIv _ (.tail _ (.tail _ (.head _)))) rfl
  have hCs : ∀ c ∈ ([(.ofNat 1, [(.negSucc 0, 1), (.ofNat 1, 6)])] : List sLn), ∃ x, sE [s0, s1, s2, s3, s4, s5, s6, s7, s8, s9] c = some x ∧ x ≤ 0 := hN.2.2.1
  have c0 : ((1 : Int) + ((-1 : Int) * s1 + ((1 : Int) * s6 + 0))) ≤ 0 := csX (hCs _ (.head _)) rfl
  have hRf : ∀ q ∈ ([((43, .ofNat 176, []), (.ofNat 2, []), 31, .ofNat 0, [(.ofNat 1, 0)]), ((15, .ofNat 0, [(.ofNat 1, 0)]), (.ofNat 6, []), 33, .ofNat 0, [(.ofNat 1, 4)]), ((15, .ofNat 0, [(.ofNat 1, 0)]), (.ofNat 7, []), 34, .ofNat 0, [(.ofNat 1, 5)]), ((17, .ofNat 0, [(.ofNat 1, 4)]), (.ofNat 0, [(.ofNat 1, 3)]), 1, .ofNat 0, [(.ofNat 1, 6)]), ((18, .ofNat 0, [(.ofNat 1, 5)]), (.ofNat 0, [(.ofNat 1, 3)]), 1, .ofNat 0, [(.ofNat 1, 7)]), ((15, .ofNat 0, [(.ofNat 1, 0)]), (.ofNat 1, []), 1, .ofNat 0, [(.ofNat 1, 8)])] : List sRf), rfOk [s0, s1, s2, s3, s4, s5, s6, s7, s8, s9] hp q := hH.1
  have g0 : s0 = ((hC hp 176 2 : Nat) : Int) := rfR0 (hRf _ (.head _)) (sE_k _ _) (sE_k _ _) (sE_V rfl)
  have g1 : s4 = ((rr hp 2 6 : Nat) : Int) := rfR0 (hRf _ (.tail _ (.head _))) (sEv (sE_V rfl) g0.symm) (sE_k _ _) (sE_V rfl)
  have g2 : s5 = ((rr hp 2 7 : Nat) : Int) := rfR0 (hRf _ (.tail _ (.tail _ (.head _)))) (sEv (sE_V rfl) g0.symm) (sE_k _ _) (sE_V rfl)
  obtain ⟨i3, e3, l3, h3⟩ := rfI (xv := s6) (iv := s3) (hRf _ (.tail _ (.tail _ (.tail _ (.head _))))) (sEv (sE_V rfl) g1.symm) (sE_V rfl) (sE_V rfl)
  have l3 : i3 < 14 := l3
  have h3 : hI hp (rr hp 2 6) i3 = s6 := h3
  obtain ⟨i4, e4, l4, h4⟩ := rfI (xv := s7) (iv := s3) (hRf _ (.tail _ (.tail _ (.tail _ (.tail _ (.head _)))))) (sEv (sE_V rfl) g2.symm) (sE_V rfl) (sE_V rfl)
  have l4 : i4 < 14 := l4
  have h4 : hI hp (rr hp 2 7) i4 = s7 := h4
  have h5 : hI hp (hC hp 176 2) 1 = s8 := rfI0 (hRf _ (.tail _ (.tail _ (.tail _ (.tail _ (.tail _ (.head _))))))) (sEv (sE_V rfl) g0.symm) (sE_k _ _) (sE_V rfl)
  have hFc : ∀ q ∈ ([(94, [(.ofNat 0, [(.ofNat 1, 3)]), (.ofNat 0, [(.ofNat 1, 9)]), (.ofNat 0, [(.ofNat 1, 1)]), (.ofNat 0, [(.ofNat 1, 2)])])] : List sFc), fcOk fFS [s0, s1, s2, s3, s4, s5, s6, s7, s8, s9] hp q := hH.2
  have f0 : ∀ i : Nat, i < 14 → (i : Int) < s3 → ¬ (hI hp (rr hp 2 6) i = s1 ∧ hI hp (rr hp 2 7) i = s2) := fcX (ys := [s3, s9, s1, s2]) (hFc _ (.head _)) ⟨sE_V rfl, sE_V rfl, sE_V rfl, sE_V rfl, trivial⟩
  exact poX (.head _) rfl hR (all_nil) (all_nil) (all_cons ⟨[(s3 + 1), s9, s1, s2], ⟨sEv (y' := ((1 : Int) + ((1 : Int) * s3 + 0))) rfl (by omega), sE_V rfl, sE_V rfl, sE_V rfl, trivial⟩, (show ∀ i : Nat, i < 14 → (i : Int) < (s3 + 1) → ¬ (hI hp (rr hp 2 6) i = s1 ∧ hI hp (rr hp 2 7) i = s2) from nn_s f0 h3 h4 (by omega) (by omega) (by omega) (by omega))⟩ (all_nil))
theorem rl155 : ruOk fFS gR155 := by
  intro r hp hO hN hH
  obtain ⟨s0, s1, s2, s3, s4, s5, s6, s7, s8, s9, rfl⟩ := len10 (show r.length = 10 from hN.1)
  have hR := hN.2.1.1
  have hIv : ∀ q ∈ ([(1, .negSucc 2147483647, .ofNat 2147483647), (2, .negSucc 2147483647, .ofNat 2147483647), (3, .ofNat 0, .ofNat 13), (6, .negSucc 2147483647, .ofNat 2147483647), (7, .negSucc 2147483647, .ofNat 2147483647), (8, .negSucc 2147483647, .ofNat 2147483647), (9, .negSucc 2147483647, .ofNat 2147483647)] : sIv), ∃ x, ([s0, s1, s2, s3, s4, s5, s6, s7, s8, s9] : List Int)[q.1]? = some x ∧ q.2.1 ≤ x ∧ x ≤ q.2.2 := hN.2.1.2
  have b2 : (0 : Int) ≤ s3 ∧ s3 ≤ (13 : Int) := ivX (q := (3, .ofNat 0, .ofNat 13)) (y := s3) (hIv _ (.tail _ (.tail _ (.head _)))) rfl
  have hCs : ∀ c ∈ ([(.ofNat 1, [(.ofNat 1, 1), (.negSucc 0, 6)])] : List sLn), ∃ x, sE [s0, s1, s2, s3, s4, s5, s6, s7, s8, s9] c = some x ∧ x ≤ 0 := hN.2.2.1
  have c0 : ((1 : Int) + ((1 : Int) * s1 + ((-1 : Int) * s6 + 0))) ≤ 0 := csX (hCs _ (.head _)) rfl
  have hRf : ∀ q ∈ ([((43, .ofNat 176, []), (.ofNat 2, []), 31, .ofNat 0, [(.ofNat 1, 0)]), ((15, .ofNat 0, [(.ofNat 1, 0)]), (.ofNat 6, []), 33, .ofNat 0, [(.ofNat 1, 4)]), ((15, .ofNat 0, [(.ofNat 1, 0)]), (.ofNat 7, []), 34, .ofNat 0, [(.ofNat 1, 5)]), ((17, .ofNat 0, [(.ofNat 1, 4)]), (.ofNat 0, [(.ofNat 1, 3)]), 1, .ofNat 0, [(.ofNat 1, 6)]), ((18, .ofNat 0, [(.ofNat 1, 5)]), (.ofNat 0, [(.ofNat 1, 3)]), 1, .ofNat 0, [(.ofNat 1, 7)]), ((15, .ofNat 0, [(.ofNat 1, 0)]), (.ofNat 1, []), 1, .ofNat 0, [(.ofNat 1, 8)])] : List sRf), rfOk [s0, s1, s2, s3, s4, s5, s6, s7, s8, s9] hp q := hH.1
  have g0 : s0 = ((hC hp 176 2 : Nat) : Int) := rfR0 (hRf _ (.head _)) (sE_k _ _) (sE_k _ _) (sE_V rfl)
  have g1 : s4 = ((rr hp 2 6 : Nat) : Int) := rfR0 (hRf _ (.tail _ (.head _))) (sEv (sE_V rfl) g0.symm) (sE_k _ _) (sE_V rfl)
  have g2 : s5 = ((rr hp 2 7 : Nat) : Int) := rfR0 (hRf _ (.tail _ (.tail _ (.head _)))) (sEv (sE_V rfl) g0.symm) (sE_k _ _) (sE_V rfl)
  obtain ⟨i3, e3, l3, h3⟩ := rfI (xv := s6) (iv := s3) (hRf _ (.tail _ (.tail _ (.tail _ (.head _))))) (sEv (sE_V rfl) g1.symm) (sE_V rfl) (sE_V rfl)
  have l3 : i3 < 14 := l3
  have h3 : hI hp (rr hp 2 6) i3 = s6 := h3
  obtain ⟨i4, e4, l4, h4⟩ := rfI (xv := s7) (iv := s3) (hRf _ (.tail _ (.tail _ (.tail _ (.tail _ (.head _)))))) (sEv (sE_V rfl) g2.symm) (sE_V rfl) (sE_V rfl)
  have l4 : i4 < 14 := l4
  have h4 : hI hp (rr hp 2 7) i4 = s7 := h4
  have h5 : hI hp (hC hp 176 2) 1 = s8 := rfI0 (hRf _ (.tail _ (.tail _ (.tail _ (.tail _ (.tail _ (.head _))))))) (sEv (sE_V rfl) g0.symm) (sE_k _ _) (sE_V rfl)
  have hFc : ∀ q ∈ ([(94, [(.ofNat 0, [(.ofNat 1, 3)]), (.ofNat 0, [(.ofNat 1, 9)]), (.ofNat 0, [(.ofNat 1, 1)]), (.ofNat 0, [(.ofNat 1, 2)])])] : List sFc), fcOk fFS [s0, s1, s2, s3, s4, s5, s6, s7, s8, s9] hp q := hH.2
  have f0 : ∀ i : Nat, i < 14 → (i : Int) < s3 → ¬ (hI hp (rr hp 2 6) i = s1 ∧ hI hp (rr hp 2 7) i = s2) := fcX (ys := [s3, s9, s1, s2]) (hFc _ (.head _)) ⟨sE_V rfl, sE_V rfl, sE_V rfl, sE_V rfl, trivial⟩
  exact poX (.head _) rfl hR (all_nil) (all_nil) (all_cons ⟨[(s3 + 1), s9, s1, s2], ⟨sEv (y' := ((1 : Int) + ((1 : Int) * s3 + 0))) rfl (by omega), sE_V rfl, sE_V rfl, sE_V rfl, trivial⟩, (show ∀ i : Nat, i < 14 → (i : Int) < (s3 + 1) → ¬ (hI hp (rr hp 2 6) i = s1 ∧ hI hp (rr hp 2 7) i = s2) from nn_s f0 h3 h4 (by omega) (by omega) (by omega) (by omega))⟩ (all_nil))
theorem rl156 : ruOk fFS gR156 := by
  intro r hp hO hN hH
  obtain ⟨s0, s1, s2, s3, s4, s5, s6, s7, s8, s9, rfl⟩ := len10 (show r.length = 10 from hN.1)
  have hR := hN.2.1.1
  have hIv : ∀ q ∈ ([(1, .negSucc 2147483647, .ofNat 2147483647), (2, .negSucc 2147483647, .ofNat 2147483647), (3, .ofNat 0, .ofNat 13), (6, .negSucc 2147483647, .ofNat 2147483647), (7, .negSucc 2147483647, .ofNat 2147483647), (8, .negSucc 2147483647, .ofNat 2147483647), (9, .negSucc 2147483647, .ofNat 2147483647)] : sIv), ∃ x, ([s0, s1, s2, s3, s4, s5, s6, s7, s8, s9] : List Int)[q.1]? = some x ∧ q.2.1 ≤ x ∧ x ≤ q.2.2 := hN.2.1.2
  have b2 : (0 : Int) ≤ s3 ∧ s3 ≤ (13 : Int) := ivX (q := (3, .ofNat 0, .ofNat 13)) (y := s3) (hIv _ (.tail _ (.tail _ (.head _)))) rfl
  have hCs : ∀ c ∈ ([(.ofNat 1, [(.negSucc 0, 2), (.ofNat 1, 7)])] : List sLn), ∃ x, sE [s0, s1, s2, s3, s4, s5, s6, s7, s8, s9] c = some x ∧ x ≤ 0 := hN.2.2.1
  have c0 : ((1 : Int) + ((-1 : Int) * s2 + ((1 : Int) * s7 + 0))) ≤ 0 := csX (hCs _ (.head _)) rfl
  have hRf : ∀ q ∈ ([((43, .ofNat 176, []), (.ofNat 2, []), 31, .ofNat 0, [(.ofNat 1, 0)]), ((15, .ofNat 0, [(.ofNat 1, 0)]), (.ofNat 6, []), 33, .ofNat 0, [(.ofNat 1, 4)]), ((15, .ofNat 0, [(.ofNat 1, 0)]), (.ofNat 7, []), 34, .ofNat 0, [(.ofNat 1, 5)]), ((17, .ofNat 0, [(.ofNat 1, 4)]), (.ofNat 0, [(.ofNat 1, 3)]), 1, .ofNat 0, [(.ofNat 1, 6)]), ((18, .ofNat 0, [(.ofNat 1, 5)]), (.ofNat 0, [(.ofNat 1, 3)]), 1, .ofNat 0, [(.ofNat 1, 7)]), ((15, .ofNat 0, [(.ofNat 1, 0)]), (.ofNat 1, []), 1, .ofNat 0, [(.ofNat 1, 8)])] : List sRf), rfOk [s0, s1, s2, s3, s4, s5, s6, s7, s8, s9] hp q := hH.1
  have g0 : s0 = ((hC hp 176 2 : Nat) : Int) := rfR0 (hRf _ (.head _)) (sE_k _ _) (sE_k _ _) (sE_V rfl)
  have g1 : s4 = ((rr hp 2 6 : Nat) : Int) := rfR0 (hRf _ (.tail _ (.head _))) (sEv (sE_V rfl) g0.symm) (sE_k _ _) (sE_V rfl)
  have g2 : s5 = ((rr hp 2 7 : Nat) : Int) := rfR0 (hRf _ (.tail _ (.tail _ (.head _)))) (sEv (sE_V rfl) g0.symm) (sE_k _ _) (sE_V rfl)
  obtain ⟨i3, e3, l3, h3⟩ := rfI (xv := s6) (iv := s3) (hRf _ (.tail _ (.tail _ (.tail _ (.head _))))) (sEv (sE_V rfl) g1.symm) (sE_V rfl) (sE_V rfl)
  have l3 : i3 < 14 := l3
  have h3 : hI hp (rr hp 2 6) i3 = s6 := h3
  obtain ⟨i4, e4, l4, h4⟩ := rfI (xv := s7) (iv := s3) (hRf _ (.tail _ (.tail _ (.tail _ (.tail _ (.head _)))))) (sEv (sE_V rfl) g2.symm) (sE_V rfl) (sE_V rfl)
  have l4 : i4 < 14 := l4
  have h4 : hI hp (rr hp 2 7) i4 = s7 := h4
  have h5 : hI hp (hC hp 176 2) 1 = s8 := rfI0 (hRf _ (.tail _ (.tail _ (.tail _ (.tail _ (.tail _ (.head _))))))) (sEv (sE_V rfl) g0.symm) (sE_k _ _) (sE_V rfl)
  have hFc : ∀ q ∈ ([(94, [(.ofNat 0, [(.ofNat 1, 3)]), (.ofNat 0, [(.ofNat 1, 9)]), (.ofNat 0, [(.ofNat 1, 1)]), (.ofNat 0, [(.ofNat 1, 2)])])] : List sFc), fcOk fFS [s0, s1, s2, s3, s4, s5, s6, s7, s8, s9] hp q := hH.2
  have f0 : ∀ i : Nat, i < 14 → (i : Int) < s3 → ¬ (hI hp (rr hp 2 6) i = s1 ∧ hI hp (rr hp 2 7) i = s2) := fcX (ys := [s3, s9, s1, s2]) (hFc _ (.head _)) ⟨sE_V rfl, sE_V rfl, sE_V rfl, sE_V rfl, trivial⟩
  exact poX (.head _) rfl hR (all_nil) (all_nil) (all_cons ⟨[(s3 + 1), s9, s1, s2], ⟨sEv (y' := ((1 : Int) + ((1 : Int) * s3 + 0))) rfl (by omega), sE_V rfl, sE_V rfl, sE_V rfl, trivial⟩, (show ∀ i : Nat, i < 14 → (i : Int) < (s3 + 1) → ¬ (hI hp (rr hp 2 6) i = s1 ∧ hI hp (rr hp 2 7) i = s2) from nn_s f0 h3 h4 (by omega) (by omega) (by omega) (by omega))⟩ (all_nil))
theorem rl157 : ruOk fFS gR157 := by
  intro r hp hO hN hH
  obtain ⟨s0, s1, s2, s3, s4, s5, s6, s7, s8, s9, rfl⟩ := len10 (show r.length = 10 from hN.1)
  have hR := hN.2.1.1
  have hIv : ∀ q ∈ ([(1, .negSucc 2147483647, .ofNat 2147483647), (2, .negSucc 2147483647, .ofNat 2147483647), (3, .ofNat 0, .ofNat 13), (6, .negSucc 2147483647, .ofNat 2147483647), (7, .negSucc 2147483647, .ofNat 2147483647), (8, .negSucc 2147483647, .ofNat 2147483647), (9, .negSucc 2147483647, .ofNat 2147483647)] : sIv), ∃ x, ([s0, s1, s2, s3, s4, s5, s6, s7, s8, s9] : List Int)[q.1]? = some x ∧ q.2.1 ≤ x ∧ x ≤ q.2.2 := hN.2.1.2
  have b2 : (0 : Int) ≤ s3 ∧ s3 ≤ (13 : Int) := ivX (q := (3, .ofNat 0, .ofNat 13)) (y := s3) (hIv _ (.tail _ (.tail _ (.head _)))) rfl
  have hCs : ∀ c ∈ ([(.ofNat 1, [(.ofNat 1, 2), (.negSucc 0, 7)])] : List sLn), ∃ x, sE [s0, s1, s2, s3, s4, s5, s6, s7, s8, s9] c = some x ∧ x ≤ 0 := hN.2.2.1
  have c0 : ((1 : Int) + ((1 : Int) * s2 + ((-1 : Int) * s7 + 0))) ≤ 0 := csX (hCs _ (.head _)) rfl
  have hRf : ∀ q ∈ ([((43, .ofNat 176, []), (.ofNat 2, []), 31, .ofNat 0, [(.ofNat 1, 0)]), ((15, .ofNat 0, [(.ofNat 1, 0)]), (.ofNat 6, []), 33, .ofNat 0, [(.ofNat 1, 4)]), ((15, .ofNat 0, [(.ofNat 1, 0)]), (.ofNat 7, []), 34, .ofNat 0, [(.ofNat 1, 5)]), ((17, .ofNat 0, [(.ofNat 1, 4)]), (.ofNat 0, [(.ofNat 1, 3)]), 1, .ofNat 0, [(.ofNat 1, 6)]), ((18, .ofNat 0, [(.ofNat 1, 5)]), (.ofNat 0, [(.ofNat 1, 3)]), 1, .ofNat 0, [(.ofNat 1, 7)]), ((15, .ofNat 0, [(.ofNat 1, 0)]), (.ofNat 1, []), 1, .ofNat 0, [(.ofNat 1, 8)])] : List sRf), rfOk [s0, s1, s2, s3, s4, s5, s6, s7, s8, s9] hp q := hH.1
  have g0 : s0 = ((hC hp 176 2 : Nat) : Int) := rfR0 (hRf _ (.head _)) (sE_k _ _) (sE_k _ _) (sE_V rfl)
  have g1 : s4 = ((rr hp 2 6 : Nat) : Int) := rfR0 (hRf _ (.tail _ (.head _))) (sEv (sE_V rfl) g0.symm) (sE_k _ _) (sE_V rfl)
  have g2 : s5 = ((rr hp 2 7 : Nat) : Int) := rfR0 (hRf _ (.tail _ (.tail _ (.head _)))) (sEv (sE_V rfl) g0.symm) (sE_k _ _) (sE_V rfl)
  obtain ⟨i3, e3, l3, h3⟩ := rfI (xv := s6) (iv := s3) (hRf _ (.tail _ (.tail _ (.tail _ (.head _))))) (sEv (sE_V rfl) g1.symm) (sE_V rfl) (sE_V rfl)
  have l3 : i3 < 14 := l3
  have h3 : hI hp (rr hp 2 6) i3 = s6 := h3
  obtain ⟨i4, e4, l4, h4⟩ := rfI (xv := s7) (iv := s3) (hRf _ (.tail _ (.tail _ (.tail _ (.tail _ (.head _)))))) (sEv (sE_V rfl) g2.symm) (sE_V rfl) (sE_V rfl)
  have l4 : i4 < 14 := l4
  have h4 : hI hp (rr hp 2 7) i4 = s7 := h4
  have h5 : hI hp (hC hp 176 2) 1 = s8 := rfI0 (hRf _ (.tail _ (.tail _ (.tail _ (.tail _ (.tail _ (.head _))))))) (sEv (sE_V rfl) g0.symm) (sE_k _ _) (sE_V rfl)
  have hFc : ∀ q ∈ ([(94, [(.ofNat 0, [(.ofNat 1, 3)]), (.ofNat 0, [(.ofNat 1, 9)]), (.ofNat 0, [(.ofNat 1, 1)]), (.ofNat 0, [(.ofNat 1, 2)])])] : List sFc), fcOk fFS [s0, s1, s2, s3, s4, s5, s6, s7, s8, s9] hp q := hH.2
  have f0 : ∀ i : Nat, i < 14 → (i : Int) < s3 → ¬ (hI hp (rr hp 2 6) i = s1 ∧ hI hp (rr hp 2 7) i = s2) := fcX (ys := [s3, s9, s1, s2]) (hFc _ (.head _)) ⟨sE_V rfl, sE_V rfl, sE_V rfl, sE_V rfl, trivial⟩
  exact poX (.head _) rfl hR (all_nil) (all_nil) (all_cons ⟨[(s3 + 1), s9, s1, s2], ⟨sEv (y' := ((1 : Int) + ((1 : Int) * s3 + 0))) rfl (by omega), sE_V rfl, sE_V rfl, sE_V rfl, trivial⟩, (show ∀ i : Nat, i < 14 → (i : Int) < (s3 + 1) → ¬ (hI hp (rr hp 2 6) i = s1 ∧ hI hp (rr hp 2 7) i = s2) from nn_s f0 h3 h4 (by omega) (by omega) (by omega) (by omega))⟩ (all_nil))
theorem rl158 : ruOk fFS gR158 := by
  intro r hp hO hN hH
  obtain ⟨s0, s1, s2, s3, s4, s5, rfl⟩ := len6 (show r.length = 6 from hN.1)
  have hR := hN.2.1.1
  have hIv : ∀ q ∈ ([(1, .ofNat 0, .ofNat 13), (2, .negSucc 2147483647, .ofNat 2147483647), (3, .negSucc 2147483647, .ofNat 2147483647), (4, .negSucc 2147483647, .ofNat 2147483647), (5, .ofNat 0, .ofNat 0)] : sIv), ∃ x, ([s0, s1, s2, s3, s4, s5] : List Int)[q.1]? = some x ∧ q.2.1 ≤ x ∧ x ≤ q.2.2 := hN.2.1.2
  have b0 : (0 : Int) ≤ s1 ∧ s1 ≤ (13 : Int) := ivX (q := (1, .ofNat 0, .ofNat 13)) (y := s1) (hIv _ (.head _)) rfl
  have b4 : (0 : Int) ≤ s5 ∧ s5 ≤ (0 : Int) := ivX (q := (5, .ofNat 0, .ofNat 0)) (y := s5) (hIv _ (.tail _ (.tail _ (.tail _ (.tail _ (.head _)))))) rfl
  have hCs : ∀ c ∈ ([(.ofNat 1, [(.ofNat 1, 1), (.negSucc 0, 3)])] : List sLn), ∃ x, sE [s0, s1, s2, s3, s4, s5] c = some x ∧ x ≤ 0 := hN.2.2.1
  have c0 : ((1 : Int) + ((1 : Int) * s1 + ((-1 : Int) * s3 + 0))) ≤ 0 := csX (hCs _ (.head _)) rfl
  have hRf : ∀ q ∈ ([((43, .ofNat 176, []), (.ofNat 2, []), 31, .ofNat 0, [(.ofNat 1, 0)]), ((15, .ofNat 0, [(.ofNat 1, 0)]), (.ofNat 2, []), 1, .ofNat 0, [(.ofNat 1, 2)])] : List sRf), rfOk [s0, s1, s2, s3, s4, s5] hp q := hH.1
  have g0 : s0 = ((hC hp 176 2 : Nat) : Int) := rfR0 (hRf _ (.head _)) (sE_k _ _) (sE_k _ _) (sE_V rfl)
  have h1 : hI hp (hC hp 176 2) 2 = s2 := rfI0 (hRf _ (.tail _ (.head _))) (sEv (sE_V rfl) g0.symm) (sE_k _ _) (sE_V rfl)
  have hFc : ∀ q ∈ ([(73, [(.ofNat 0, [(.ofNat 1, 3)])]), (84, [(.ofNat 0, [(.ofNat 1, 2)]), (.ofNat 0, [(.ofNat 1, 1)]), (.ofNat 0, [(.ofNat 1, 4)])]), (87, [(.ofNat 0, [(.ofNat 1, 4)]), (.ofNat 1, []), (.ofNat 0, [(.ofNat 1, 5)])])] : List sFc), fcOk fFS [s0, s1, s2, s3, s4, s5] hp q := hH.2
  have f0 : ∀ i : Nat, i < 14 → (i : Int) < s3 → bt (hI hp (hC hp 176 2) 2) i := fcX (ys := [s3]) (hFc _ (.head _)) ⟨sE_V rfl, trivial⟩
  have f1 : 0 ≤ s1 → s1 ≤ 31 → s4 = s2 / 2 ^ s1.toNat := fcX (ys := [s2, s1, s4]) (hFc _ (.tail _ (.head _))) ⟨sE_V rfl, sE_V rfl, sE_V rfl, trivial⟩
  have f2 : ((1 : Int) = 255 → s5 = s4 % 256) ∧ ((1 : Int) = 1 → s5 = s4 % 2) := fcX (ys := [s4, 1, s5]) (hFc _ (.tail _ (.tail _ (.head _)))) ⟨sE_V rfl, sE_k _ _, sE_V rfl, trivial⟩
  exact (al_x (x := s1) f0 h1 f1 f2.2 ⟨by omega, by omega⟩ (by omega) (by omega)).elim
theorem rl159 : ruOk fFS gR159 := by
  intro r hp hO hN hH
  obtain ⟨s0, s1, s2, s3, s4, s5, s6, s7, s8, s9, rfl⟩ := len10 (show r.length = 10 from hN.1)
  have hR := hN.2.1.1
  have hIv : ∀ q ∈ ([(1, .negSucc 2147483647, .ofNat 2147483647), (2, .negSucc 2147483647, .ofNat 2147483647), (3, .ofNat 0, .ofNat 13), (6, .negSucc 2147483647, .ofNat 2147483647), (7, .negSucc 2147483647, .ofNat 2147483647), (8, .negSucc 2147483647, .ofNat 2147483647), (9, .negSucc 2147483647, .ofNat 2147483647)] : sIv), ∃ x, ([s0, s1, s2, s3, s4, s5, s6, s7, s8, s9] : List Int)[q.1]? = some x ∧ q.2.1 ≤ x ∧ x ≤ q.2.2 := hN.2.1.2
  have b2 : (0 : Int) ≤ s3 ∧ s3 ≤ (13 : Int) := ivX (q := (3, .ofNat 0, .ofNat 13)) (y := s3) (hIv _ (.tail _ (.tail _ (.head _)))) rfl
  have hCs : ∀ c ∈ ([(.ofNat 1, [(.ofNat 1, 3), (.negSucc 0, 8)]), (.ofNat 0, [(.negSucc 0, 1), (.ofNat 1, 6)]), (.ofNat 0, [(.ofNat 1, 1), (.negSucc 0, 6)]), (.ofNat 0, [(.negSucc 0, 2), (.ofNat 1, 7)]), (.ofNat 0, [(.ofNat 1, 2), (.negSucc 0, 7)])] : List sLn), ∃ x, sE [s0, s1, s2, s3, s4, s5, s6, s7, s8, s9] c = some x ∧ x ≤ 0 := hN.2.2.1
  have c0 : ((1 : Int) + ((1 : Int) * s3 + ((-1 : Int) * s8 + 0))) ≤ 0 := csX (hCs _ (.head _)) rfl
  have c1 : ((0 : Int) + ((-1 : Int) * s1 + ((1 : Int) * s6 + 0))) ≤ 0 := csX (hCs _ (.tail _ (.head _))) rfl
  have c2 : ((0 : Int) + ((1 : Int) * s1 + ((-1 : Int) * s6 + 0))) ≤ 0 := csX (hCs _ (.tail _ (.tail _ (.head _)))) rfl
  have c3 : ((0 : Int) + ((-1 : Int) * s2 + ((1 : Int) * s7 + 0))) ≤ 0 := csX (hCs _ (.tail _ (.tail _ (.tail _ (.head _))))) rfl
  have c4 : ((0 : Int) + ((1 : Int) * s2 + ((-1 : Int) * s7 + 0))) ≤ 0 := csX (hCs _ (.tail _ (.tail _ (.tail _ (.tail _ (.head _)))))) rfl
  have hRf : ∀ q ∈ ([((43, .ofNat 176, []), (.ofNat 2, []), 31, .ofNat 0, [(.ofNat 1, 0)]), ((15, .ofNat 0, [(.ofNat 1, 0)]), (.ofNat 6, []), 33, .ofNat 0, [(.ofNat 1, 4)]), ((15, .ofNat 0, [(.ofNat 1, 0)]), (.ofNat 7, []), 34, .ofNat 0, [(.ofNat 1, 5)]), ((17, .ofNat 0, [(.ofNat 1, 4)]), (.ofNat 0, [(.ofNat 1, 3)]), 1, .ofNat 0, [(.ofNat 1, 6)]), ((18, .ofNat 0, [(.ofNat 1, 5)]), (.ofNat 0, [(.ofNat 1, 3)]), 1, .ofNat 0, [(.ofNat 1, 7)]), ((15, .ofNat 0, [(.ofNat 1, 0)]), (.ofNat 1, []), 1, .ofNat 0, [(.ofNat 1, 8)])] : List sRf), rfOk [s0, s1, s2, s3, s4, s5, s6, s7, s8, s9] hp q := hH.1
  have g0 : s0 = ((hC hp 176 2 : Nat) : Int) := rfR0 (hRf _ (.head _)) (sE_k _ _) (sE_k _ _) (sE_V rfl)
  have g1 : s4 = ((rr hp 2 6 : Nat) : Int) := rfR0 (hRf _ (.tail _ (.head _))) (sEv (sE_V rfl) g0.symm) (sE_k _ _) (sE_V rfl)
  have g2 : s5 = ((rr hp 2 7 : Nat) : Int) := rfR0 (hRf _ (.tail _ (.tail _ (.head _)))) (sEv (sE_V rfl) g0.symm) (sE_k _ _) (sE_V rfl)
  obtain ⟨i3, e3, l3, h3⟩ := rfI (xv := s6) (iv := s3) (hRf _ (.tail _ (.tail _ (.tail _ (.head _))))) (sEv (sE_V rfl) g1.symm) (sE_V rfl) (sE_V rfl)
  have l3 : i3 < 14 := l3
  have h3 : hI hp (rr hp 2 6) i3 = s6 := h3
  obtain ⟨i4, e4, l4, h4⟩ := rfI (xv := s7) (iv := s3) (hRf _ (.tail _ (.tail _ (.tail _ (.tail _ (.head _)))))) (sEv (sE_V rfl) g2.symm) (sE_V rfl) (sE_V rfl)
  have l4 : i4 < 14 := l4
  have h4 : hI hp (rr hp 2 7) i4 = s7 := h4
  have h5 : hI hp (hC hp 176 2) 1 = s8 := rfI0 (hRf _ (.tail _ (.tail _ (.tail _ (.tail _ (.tail _ (.head _))))))) (sEv (sE_V rfl) g0.symm) (sE_k _ _) (sE_V rfl)
  have hFc : ∀ q ∈ ([(72, [(.ofNat 0, [(.ofNat 1, 8)]), (.ofNat 0, [(.ofNat 1, 9)])])] : List sFc), fcOk fFS [s0, s1, s2, s3, s4, s5, s6, s7, s8, s9] hp q := hH.2
  have f0 : dF (XT hp) s9 (fun D => s8 = (dTr D).length ∧ ∀ i : Nat, i < 14 → (i : Int) < s8 → (dTr D)[i]? = some (hI hp (rr hp 2 6) i, hI hp (rr hp 2 7) i)) := fcX (ys := [s8, s9]) (hFc _ (.head _)) ⟨sE_V rfl, sE_V rfl, trivial⟩
  exact poX (.head _) rfl hR (all_nil) (all_nil) (all_cons ⟨[s9, s1, s2, 1], ⟨sE_V rfl, sE_V rfl, sE_V rfl, sE_k _ _, trivial⟩, (show dF (XT hp) s9 (fun D => bP (1 : Int) ((s1, s2) ∈ dTr D)) from dF_mp f0 (fun D h => bP_i1 (lst_mem h (by rw [h3]; omega) (by rw [h4]; omega) (by omega) (by omega) (by omega)) rfl))⟩ (all_nil))
end CkRul1
