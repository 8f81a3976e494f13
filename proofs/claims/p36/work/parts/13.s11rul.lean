section CkRul11
theorem rl880 : ruOk fFS gR880 := by
  intro r hp hO hN hH
  obtain ⟨s0, s1, rfl⟩ := len2 (show r.length = 2 from hN.1)
  have hR := hN.2.1.1
  have hIv : ∀ q ∈ ([(0, .ofNat 1, .ofNat 45), (1, .negSucc 2147483647, .ofNat 2147483647)] : sIv), ∃ x, ([s0, s1] : List Int)[q.1]? = some x ∧ q.2.1 ≤ x ∧ x ≤ q.2.2 := hN.2.1.2
  have b0 : (1 : Int) ≤ s0 ∧ s0 ≤ (45 : Int) := ivX (q := (0, .ofNat 1, .ofNat 45)) (y := s0) (hIv _ (.head _)) rfl
  have hRf : ∀ q ∈ ([((78, .ofNat 273, []), (.ofNat 50, []), 1, .ofNat 0, [(.ofNat 1, 0)])] : List sRf), rfOk [s0, s1] hp q := hH.1
  have h0 : hI hp 273 50 = s0 := rfI0 (hRf _ (.head _)) (sE_k _ _) (sE_k _ _) (sE_V rfl)
  have y0 : (0 : Int) ≤ s0 ∧ s0 ≤ (45 : Int) := by rw [← h0]; exact hI_ty hO (by decide) rfl
  have hFc : ∀ q ∈ ([(15, [(.ofNat 0, [(.ofNat 1, 0)]), (.ofNat 0, [(.ofNat 1, 1)])]), (23, [(.ofNat 0, [(.ofNat 1, 0)])])] : List sFc), fcOk fFS [s0, s1] hp q := hH.2
  have f0 : fStk s0 s1 hp := fcX (ys := [s0, s1]) (hFc _ (.head _)) ⟨sE_V rfl, sE_V rfl, trivial⟩
  have f1 : fNj s0 hp := fcX (ys := [s0]) (hFc _ (.tail _ (.head _))) ⟨sE_V rfl, trivial⟩
  exact poX (.head _) rfl hR (all_nil) (all_nil) (all_cons ⟨[(s0 - 1), s1], ⟨sEv (y' := ((-1 : Int) + ((1 : Int) * s0 + 0))) rfl (by omega), sE_V rfl, trivial⟩, (show fStk (s0 - 1) s1 hp from stk_cg (stk_nj f0 f1 (by omega)) (by omega) (by omega))⟩ (all_nil))
theorem rl881 : ruOk fFS gR881 := by
  intro r hp hO hN hH
  obtain ⟨s0, s1, s2, rfl⟩ := len3 (show r.length = 3 from hN.1)
  have hR := hN.2.1.1
  have hIv : ∀ q ∈ ([(0, .ofNat 0, .ofNat 44), (1, .ofNat 21, .ofNat 22), (2, .negSucc 2147483647, .ofNat 2147483647)] : sIv), ∃ x, ([s0, s1, s2] : List Int)[q.1]? = some x ∧ q.2.1 ≤ x ∧ x ≤ q.2.2 := hN.2.1.2
  have b0 : (0 : Int) ≤ s0 ∧ s0 ≤ (44 : Int) := ivX (q := (0, .ofNat 0, .ofNat 44)) (y := s0) (hIv _ (.head _)) rfl
  have b1 : (21 : Int) ≤ s1 ∧ s1 ≤ (22 : Int) := ivX (q := (1, .ofNat 21, .ofNat 22)) (y := s1) (hIv _ (.tail _ (.head _))) rfl
  have hRf : ∀ q ∈ ([((78, .ofNat 273, []), (.ofNat 50, []), 1, .ofNat 0, [(.ofNat 1, 0)]), ((92, .ofNat 287, []), (.ofNat 0, [(.ofNat 1, 0)]), 1, .ofNat 0, [(.ofNat 1, 1)])] : List sRf), rfOk [s0, s1, s2] hp q := hH.1
  have h0 : hI hp 273 50 = s0 := rfI0 (hRf _ (.head _)) (sE_k _ _) (sE_k _ _) (sE_V rfl)
  have y0 : (0 : Int) ≤ s0 ∧ s0 ≤ (45 : Int) := by rw [← h0]; exact hI_ty hO (by decide) rfl
  obtain ⟨i1, e1, l1, h1⟩ := rfI (xv := s1) (iv := s0) (hRf _ (.tail _ (.head _))) (sE_k _ _) (sE_V rfl) (sE_V rfl)
  have l1 : i1 < 45 := l1
  have h1 : hI hp 287 i1 = s1 := h1
  have hFc : ∀ q ∈ ([(15, [(.ofNat 0, [(.ofNat 1, 0)]), (.ofNat 0, [(.ofNat 1, 2)])])] : List sFc), fcOk fFS [s0, s1, s2] hp q := hH.2
  have f0 : fStk s0 s2 hp := fcX (ys := [s0, s2]) (hFc _ (.head _)) ⟨sE_V rfl, sE_V rfl, trivial⟩
  exact poX (.head _) rfl hR (all_nil) (all_nil) (all_cons ⟨[(s0 + 1), (s2 + 1)], ⟨sEv (y' := ((1 : Int) + ((1 : Int) * s0 + 0))) rfl (by omega), sEv (y' := ((1 : Int) + ((1 : Int) * s2 + 0))) rfl (by omega), trivial⟩, (show fStk (s0 + 1) (s2 + 1) hp from stk_psh f0 h1 (by omega) (by omega) (by omega) (by omega))⟩ (all_nil))
theorem rl882 : ruOk fFS gR882 := by
  intro r hp hO hN hH
  obtain ⟨s0, s1, s2, s3, rfl⟩ := len4 (show r.length = 4 from hN.1)
  have hR := hN.2.1.1
  have hIv : ∀ q ∈ ([(0, .ofNat 0, .ofNat 44), (1, .ofNat 21, .ofNat 22), (2, .negSucc 2147483647, .ofNat 2147483647), (3, .ofNat 0, .ofNat 6560)] : sIv), ∃ x, ([s0, s1, s2, s3] : List Int)[q.1]? = some x ∧ q.2.1 ≤ x ∧ x ≤ q.2.2 := hN.2.1.2
  have b0 : (0 : Int) ≤ s0 ∧ s0 ≤ (44 : Int) := ivX (q := (0, .ofNat 0, .ofNat 44)) (y := s0) (hIv _ (.head _)) rfl
  have b1 : (21 : Int) ≤ s1 ∧ s1 ≤ (22 : Int) := ivX (q := (1, .ofNat 21, .ofNat 22)) (y := s1) (hIv _ (.tail _ (.head _))) rfl
  have b3 : (0 : Int) ≤ s3 ∧ s3 ≤ (6560 : Int) := ivX (q := (3, .ofNat 0, .ofNat 6560)) (y := s3) (hIv _ (.tail _ (.tail _ (.tail _ (.head _))))) rfl
  have hRf : ∀ q ∈ ([((78, .ofNat 273, []), (.ofNat 50, []), 1, .ofNat 0, [(.ofNat 1, 0)]), ((92, .ofNat 287, []), (.ofNat 0, [(.ofNat 1, 0)]), 1, .ofNat 0, [(.ofNat 1, 1)])] : List sRf), rfOk [s0, s1, s2, s3] hp q := hH.1
  have h0 : hI hp 273 50 = s0 := rfI0 (hRf _ (.head _)) (sE_k _ _) (sE_k _ _) (sE_V rfl)
  have y0 : (0 : Int) ≤ s0 ∧ s0 ≤ (45 : Int) := by rw [← h0]; exact hI_ty hO (by decide) rfl
  obtain ⟨i1, e1, l1, h1⟩ := rfI (xv := s1) (iv := s0) (hRf _ (.tail _ (.head _))) (sE_k _ _) (sE_V rfl) (sE_V rfl)
  have l1 : i1 < 45 := l1
  have h1 : hI hp 287 i1 = s1 := h1
  have hFc : ∀ q ∈ ([(212, [(.ofNat 0, [(.ofNat 1, 0)]), (.ofNat 0, [(.ofNat 1, 2)])]), (200, [(.ofNat 0, [(.ofNat 1, 3)]), (.ofNat 0, [(.ofNat 1, 2)])])] : List sFc), fcOk fFS [s0, s1, s2, s3] hp q := hH.2
  have f0 : ∃ n : Nat, s0 = (n : Int) ∧ n ≤ 45 ∧ sFo (fun j => hI hp 287 j) n s2 := fcX (ys := [s0, s2]) (hFc _ (.head _)) ⟨sE_V rfl, sE_V rfl, trivial⟩
  have f1 : s2 = nr s3 := fcX (ys := [s3, s2]) (hFc _ (.tail _ (.head _))) ⟨sE_V rfl, sE_V rfl, trivial⟩
  have u1 := nr_3 (t := s3) (by omega) (by omega)
  rw [← f1] at u1
  exact poX (.head _) rfl hR (all_nil) (all_nil) (all_cons ⟨[(s0 + 1), s2], ⟨sEv (y' := ((1 : Int) + ((1 : Int) * s0 + 0))) rfl (by omega), sE_V rfl, trivial⟩, (show ∃ n : Nat, (s0 + 1) = (n : Int) ∧ n ≤ 45 ∧ sFo (fun j => hI hp 287 j) n s2 from stm_psh f0 h1 (by omega) (by omega) (Or.inr (Or.inr ⟨by omega, rfl, u1⟩)) rfl)⟩ (all_nil))
theorem rl883 : ruOk fFS gR883 := by
  intro r hp hO hN hH
  obtain ⟨s0, s1, s2, s3, s4, s5, s6, s7, rfl⟩ := len8 (show r.length = 8 from hN.1)
  have hR := hN.2.1.1
  have hIv : ∀ q ∈ ([(0, .negSucc 2147483647, .ofNat 2147483647), (1, .ofNat 6, .ofNat 6), (2, .negSucc 2147483647, .ofNat 2147483647), (3, .negSucc 2147483647, .ofNat 2147483647), (4, .ofNat 1, .ofNat 1), (5, .negSucc 2147483647, .ofNat 2147483647), (6, .negSucc 2147483647, .ofNat 2147483647), (7, .ofNat 19, .ofNat 20)] : sIv), ∃ x, ([s0, s1, s2, s3, s4, s5, s6, s7] : List Int)[q.1]? = some x ∧ q.2.1 ≤ x ∧ x ≤ q.2.2 := hN.2.1.2
  have b1 : (6 : Int) ≤ s1 ∧ s1 ≤ (6 : Int) := ivX (q := (1, .ofNat 6, .ofNat 6)) (y := s1) (hIv _ (.tail _ (.head _))) rfl
  have b4 : (1 : Int) ≤ s4 ∧ s4 ≤ (1 : Int) := ivX (q := (4, .ofNat 1, .ofNat 1)) (y := s4) (hIv _ (.tail _ (.tail _ (.tail _ (.tail _ (.head _)))))) rfl
  have b7 : (19 : Int) ≤ s7 ∧ s7 ≤ (20 : Int) := ivX (q := (7, .ofNat 19, .ofNat 20)) (y := s7) (hIv _ (.tail _ (.tail _ (.tail _ (.tail _ (.tail _ (.tail _ (.tail _ (.head _))))))))) rfl
  have hFc : ∀ q ∈ ([(207, [(.ofNat 0, [(.ofNat 1, 0)]), (.ofNat 0, [(.ofNat 1, 1)]), (.ofNat 0, [(.ofNat 1, 2)]), (.ofNat 0, [(.ofNat 1, 3)]), (.ofNat 0, [(.ofNat 1, 4)]), (.ofNat 0, [(.ofNat 1, 5)]), (.ofNat 0, [(.ofNat 1, 6)]), (.ofNat 0, [(.ofNat 1, 7)])])] : List sFc), fcOk fFS [s0, s1, s2, s3, s4, s5, s6, s7] hp q := hH.2
  have f0 : SHq (MT hp) (nmM hp) s0 s1 s2 s3 s4 s5 s6 s7 := fcX (ys := [s0, s1, s2, s3, s4, s5, s6, s7]) (hFc _ (.head _)) ⟨sE_V rfl, sE_V rfl, sE_V rfl, sE_V rfl, sE_V rfl, sE_V rfl, sE_V rfl, sE_V rfl, trivial⟩
  exact poX (.head _) rfl hR (all_nil) (all_nil) (all_cons ⟨[s6, 0, s2, s3], ⟨sE_V rfl, sE_k _ _, sE_V rfl, sE_V rfl, trivial⟩, (show SG (MT hp) (nmM hp) s6 (0 : Int) s2 s3 from s6_join f0 (by omega) (by omega) (by omega))⟩ (all_nil))
theorem rl884 : ruOk fFS gR884 := by
  intro r hp hO hN hH
  obtain ⟨s0, s1, s2, s3, s4, s5, s6, s7, s8, s9, rfl⟩ := len10 (show r.length = 10 from hN.1)
  have hR := hN.2.1.1
  have hIv : ∀ q ∈ ([(0, .ofNat 1, .ofNat 45), (1, .negSucc 2147483647, .ofNat 2147483647), (2, .ofNat 6, .ofNat 6), (3, .negSucc 2147483647, .ofNat 2147483647), (4, .ofNat 0, .ofNat 6560), (5, .ofNat 0, .ofNat 0), (6, .negSucc 2147483647, .ofNat 2147483647), (7, .negSucc 2147483647, .ofNat 2147483647), (8, .negSucc 2147483647, .ofNat 2147483647), (9, .ofNat 0, .ofNat 6560)] : sIv), ∃ x, ([s0, s1, s2, s3, s4, s5, s6, s7, s8, s9] : List Int)[q.1]? = some x ∧ q.2.1 ≤ x ∧ x ≤ q.2.2 := hN.2.1.2
  have b0 : (1 : Int) ≤ s0 ∧ s0 ≤ (45 : Int) := ivX (q := (0, .ofNat 1, .ofNat 45)) (y := s0) (hIv _ (.head _)) rfl
  have b2 : (6 : Int) ≤ s2 ∧ s2 ≤ (6 : Int) := ivX (q := (2, .ofNat 6, .ofNat 6)) (y := s2) (hIv _ (.tail _ (.tail _ (.head _)))) rfl
  have b4 : (0 : Int) ≤ s4 ∧ s4 ≤ (6560 : Int) := ivX (q := (4, .ofNat 0, .ofNat 6560)) (y := s4) (hIv _ (.tail _ (.tail _ (.tail _ (.tail _ (.head _)))))) rfl
  have b5 : (0 : Int) ≤ s5 ∧ s5 ≤ (0 : Int) := ivX (q := (5, .ofNat 0, .ofNat 0)) (y := s5) (hIv _ (.tail _ (.tail _ (.tail _ (.tail _ (.tail _ (.head _))))))) rfl
  have b9 : (0 : Int) ≤ s9 ∧ s9 ≤ (6560 : Int) := ivX (q := (9, .ofNat 0, .ofNat 6560)) (y := s9) (hIv _ (.tail _ (.tail _ (.tail _ (.tail _ (.tail _ (.tail _ (.tail _ (.tail _ (.tail _ (.head _))))))))))) rfl
  have hRf : ∀ q ∈ ([((78, .ofNat 273, []), (.ofNat 50, []), 1, .ofNat 0, [(.ofNat 1, 0)])] : List sRf), rfOk [s0, s1, s2, s3, s4, s5, s6, s7, s8, s9] hp q := hH.1
  have h0 : hI hp 273 50 = s0 := rfI0 (hRf _ (.head _)) (sE_k _ _) (sE_k _ _) (sE_V rfl)
  have y0 : (0 : Int) ≤ s0 ∧ s0 ≤ (45 : Int) := by rw [← h0]; exact hI_ty hO (by decide) rfl
  have hFc : ∀ q ∈ ([(207, [(.ofNat 0, [(.ofNat 1, 1)]), (.ofNat 0, [(.ofNat 1, 2)]), (.ofNat 0, [(.ofNat 1, 3)]), (.ofNat 0, [(.ofNat 1, 4)]), (.ofNat 0, [(.ofNat 1, 5)]), (.ofNat 0, [(.ofNat 1, 6)]), (.ofNat 0, [(.ofNat 1, 7)]), (.ofNat 0, [(.ofNat 1, 8)])]), (212, [(.ofNat 0, [(.ofNat 1, 0)]), (.ofNat 0, [(.ofNat 1, 4)])]), (23, [(.ofNat 0, [(.ofNat 1, 0)])]), (200, [(.ofNat 0, [(.ofNat 1, 9)]), (.ofNat 0, [(.ofNat 1, 4)])])] : List sFc), fcOk fFS [s0, s1, s2, s3, s4, s5, s6, s7, s8, s9] hp q := hH.2
  have f0 : SHq (MT hp) (nmM hp) s1 s2 s3 s4 s5 s6 s7 s8 := fcX (ys := [s1, s2, s3, s4, s5, s6, s7, s8]) (hFc _ (.head _)) ⟨sE_V rfl, sE_V rfl, sE_V rfl, sE_V rfl, sE_V rfl, sE_V rfl, sE_V rfl, sE_V rfl, trivial⟩
  have f1 : ∃ n : Nat, s0 = (n : Int) ∧ n ≤ 45 ∧ sFo (fun j => hI hp 287 j) n s4 := fcX (ys := [s0, s4]) (hFc _ (.tail _ (.head _))) ⟨sE_V rfl, sE_V rfl, trivial⟩
  have f2 : fNj s0 hp := fcX (ys := [s0]) (hFc _ (.tail _ (.tail _ (.head _)))) ⟨sE_V rfl, trivial⟩
  have f3 : s4 = nr s9 := fcX (ys := [s9, s4]) (hFc _ (.tail _ (.tail _ (.tail _ (.head _))))) ⟨sE_V rfl, sE_V rfl, trivial⟩
  have u0 := f3
  have u1 := nr_3 (t := s9) (by omega) (by omega)
  rw [← u0] at u1
  obtain ⟨w, w0, -, w2⟩ := stm_nj f1 f2 (by omega) u1
  exact poX (.head _) rfl hR (all_nil) (all_nil) (all_cons ⟨[1, s6], ⟨sE_k _ _, sE_V rfl, trivial⟩, (show SRS (MT hp) (nmM hp) (1 : Int) s6 from s6_f1 f0 (by omega) (by omega) (by omega) (by omega))⟩ (all_nil))
theorem rl885 : ruOk fFS gR885 := by
  intro r hp hO hN hH
  obtain ⟨s0, rfl⟩ := len1 (show r.length = 1 from hN.1)
  have hR := hN.2.1.1
  have hIv : ∀ q ∈ ([(0, .negSucc 2147483647, .ofNat 2147483647)] : sIv), ∃ x, ([s0] : List Int)[q.1]? = some x ∧ q.2.1 ≤ x ∧ x ≤ q.2.2 := hN.2.1.2
  have b0 : (-2147483648 : Int) ≤ s0 ∧ s0 ≤ (2147483647 : Int) := ivX (q := (0, .negSucc 2147483647, .ofNat 2147483647)) (y := s0) (hIv _ (.head _)) rfl
  have hFc : ∀ q ∈ ([(15, [(.ofNat 0, []), (.ofNat 0, [(.ofNat 1, 0)])])] : List sFc), fcOk fFS [s0] hp q := hH.2
  have f0 : fStk 0 s0 hp := fcX (ys := [0, s0]) (hFc _ (.head _)) ⟨sE_k _ _, sE_V rfl, trivial⟩
  have u := stk_z' f0 (by omega)
  exact poX (.head _) rfl hR (all_cons (ivO (y := s0) rfl (show (0 : Int) ≤ s0 by omega) (show s0 ≤ (0 : Int) by omega)) (all_nil)) (all_nil) (all_nil)
theorem rl886 : ruOk fFS gR886 := by
  intro r hp hO hN hH
  have hr0 := len0 (show r.length = 0 from hN.1)
  subst hr0
  have hR := hN.2.1.1
  exact poX (.head _) rfl hR (all_nil) (all_nil) (all_cons ⟨[0], ⟨sE_k _ _, trivial⟩, (show fEq 275 691 277 0 160 0 hp from eq0 (by omega))⟩ (all_nil))
theorem rl887 : ruOk fFS gR887 := by
  intro r hp hO hN hH
  obtain ⟨s0, s1, rfl⟩ := len2 (show r.length = 2 from hN.1)
  have hR := hN.2.1.1
  have hIv : ∀ q ∈ ([(0, .ofNat 0, .ofNat 159), (1, .negSucc 2147483647, .ofNat 2147483647)] : sIv), ∃ x, ([s0, s1] : List Int)[q.1]? = some x ∧ q.2.1 ≤ x ∧ x ≤ q.2.2 := hN.2.1.2
  have b0 : (0 : Int) ≤ s0 ∧ s0 ≤ (159 : Int) := ivX (q := (0, .ofNat 0, .ofNat 159)) (y := s0) (hIv _ (.head _)) rfl
  have hRf : ∀ q ∈ ([((80, .ofNat 275, []), (.ofNat 691, [(.ofNat 1, 0)]), 1, .ofNat 0, [(.ofNat 1, 1)]), ((82, .ofNat 277, []), (.ofNat 0, [(.ofNat 1, 0)]), 1, .ofNat 0, [(.ofNat 1, 1)])] : List sRf), rfOk [s0, s1] hp q := hH.1
  obtain ⟨i0, e0, l0, h0⟩ := rfI (xv := s1) (iv := (s0 + 691)) (hRf _ (.head _)) (sE_k _ _) (sEv (y' := ((691 : Int) + ((1 : Int) * s0 + 0))) rfl (by omega)) (sE_V rfl)
  have l0 : i0 < 871 := l0
  have h0 : hI hp 275 i0 = s1 := h0
  obtain ⟨i1, e1, l1, h1⟩ := rfI (xv := s1) (iv := s0) (hRf _ (.tail _ (.head _))) (sE_k _ _) (sE_V rfl) (sE_V rfl)
  have l1 : i1 < 160 := l1
  have h1 : hI hp 277 i1 = s1 := h1
  have hFc : ∀ q ∈ ([(16, [(.ofNat 0, [(.ofNat 1, 0)])])] : List sFc), fcOk fFS [s0, s1] hp q := hH.2
  have f0 : fEq 275 691 277 0 160 s0 hp := fcX (ys := [s0]) (hFc _ (.head _)) ⟨sE_V rfl, trivial⟩
  exact poX (.head _) rfl hR (all_nil) (all_nil) (all_cons ⟨[(s0 + 1)], ⟨sEv (y' := ((1 : Int) + ((1 : Int) * s0 + 0))) rfl (by omega), trivial⟩, (show fEq 275 691 277 0 160 (s0 + 1) hp from eq_add f0 h0 h1 (by omega) (by omega) (by omega))⟩ (all_nil))
theorem rl888 : ruOk fFS gR888 := by
  intro r hp hO hN hH
  obtain ⟨s0, s1, rfl⟩ := len2 (show r.length = 2 from hN.1)
  have hR := hN.2.1.1
  have hIv : ∀ q ∈ ([(0, .negSucc 2147483647, .ofNat 2147483647), (1, .ofNat 0, .ofNat 53)] : sIv), ∃ x, ([s0, s1] : List Int)[q.1]? = some x ∧ q.2.1 ≤ x ∧ x ≤ q.2.2 := hN.2.1.2
  have b1 : (0 : Int) ≤ s1 ∧ s1 ≤ (53 : Int) := ivX (q := (1, .ofNat 0, .ofNat 53)) (y := s1) (hIv _ (.tail _ (.head _))) rfl
  have hCs : ∀ c ∈ ([(.ofNat 0, [(.negSucc 0, 0), (.ofNat 3, 1)])] : List sLn), ∃ x, sE [s0, s1] c = some x ∧ x ≤ 0 := hN.2.2.1
  have c0 : ((0 : Int) + ((-1 : Int) * s0 + ((3 : Int) * s1 + 0))) ≤ 0 := csX (hCs _ (.head _)) rfl
  have hRf : ∀ q ∈ ([((80, .ofNat 275, []), (.ofNat 690, []), 1, .ofNat 0, [(.ofNat 1, 1)]), ((78, .ofNat 273, []), (.ofNat 48, []), 1, .ofNat 0, [(.ofNat 1, 1)])] : List sRf), rfOk [s0, s1] hp q := hH.1
  have h0 : hI hp 275 690 = s1 := rfI0 (hRf _ (.head _)) (sE_k _ _) (sE_k _ _) (sE_V rfl)
  have y0 : (0 : Int) ≤ s1 ∧ s1 ≤ (53 : Int) := by rw [← h0]; exact hI_ty hO (by decide) rfl
  have h1 : hI hp 273 48 = s1 := rfI0 (hRf _ (.tail _ (.head _))) (sE_k _ _) (sE_k _ _) (sE_V rfl)
  have y1 : (0 : Int) ≤ s1 ∧ s1 ≤ (53 : Int) := by rw [← h1]; exact hI_ty hO (by decide) rfl
  have hFc : ∀ q ∈ ([(16, [(.ofNat 0, [(.ofNat 1, 0)])]), (14, [(.ofNat 0, [(.ofNat 1, 1)]), (.ofNat 1, [])])] : List sFc), fcOk fFS [s0, s1] hp q := hH.2
  have f0 : fEq 275 691 277 0 160 s0 hp := fcX (ys := [s0]) (hFc _ (.head _)) ⟨sE_V rfl, trivial⟩
  have f1 : fCode s1 1 hp := fcX (ys := [s1, 1]) (hFc _ (.tail _ (.head _))) ⟨sE_V rfl, sE_k _ _, trivial⟩
  exact poX (.head _) rfl hR (all_nil) (all_nil) (all_cons ⟨[], trivial, (show fPfs 275 690 hp from pfs_of h0 (by omega) f0 (by omega) f1)⟩ (all_nil))
theorem rl889 : ruOk fFS gR889 := by
  intro r hp hO hN hH
  obtain ⟨s0, rfl⟩ := len1 (show r.length = 1 from hN.1)
  have hR := hN.2.1.1
  have hIv : ∀ q ∈ ([(0, .negSucc 2147483647, .ofNat 2147483647)] : sIv), ∃ x, ([s0] : List Int)[q.1]? = some x ∧ q.2.1 ≤ x ∧ x ≤ q.2.2 := hN.2.1.2
  have hRf : ∀ q ∈ ([((78, .ofNat 273, []), (.ofNat 49, []), 1, .ofNat 0, [(.ofNat 1, 0)])] : List sRf), rfOk [s0] hp q := hH.1
  have h0 : hI hp 273 49 = s0 := rfI0 (hRf _ (.head _)) (sE_k _ _) (sE_k _ _) (sE_V rfl)
  have y0 : (0 : Int) ≤ s0 ∧ s0 ≤ (20 : Int) := by rw [← h0]; exact hI_ty hO (by decide) rfl
  have hFc : ∀ q ∈ ([(209, [(.ofNat 0, [(.ofNat 1, 0)])])] : List sFc), fcOk fFS [s0] hp q := hH.2
  have f0 : SDN (MT hp) (nmM hp) s0 := fcX (ys := [s0]) (hFc _ (.head _)) ⟨sE_V rfl, trivial⟩
  exact poX (.head _) rfl hR (all_nil) (all_nil) (all_cons ⟨[s0, 0], ⟨sE_V rfl, sE_k _ _, trivial⟩, (show SAN (MT hp) (nmM hp) s0 (0 : Int) from Or.inl ⟨f0, rfl⟩)⟩ (all_nil))
theorem rl890 : ruOk fFS gR890 := by
  intro r hp hO hN hH
  have hr0 := len0 (show r.length = 0 from hN.1)
  subst hr0
  have hR := hN.2.1.1
  have hFc : ∀ q ∈ ([(12, [])] : List sFc), fcOk fFS [] hp q := hH.2
  have f0 : fPfs 275 690 hp := fcX (ys := []) (hFc _ (.head _)) trivial
  exact poX (.head _) rfl hR (all_nil) (all_nil) (all_cons ⟨[0, 0], ⟨sE_k _ _, sE_k _ _, trivial⟩, (show fDep 0 0 hp from dep0' f0 (by omega) (by omega))⟩ (all_nil))
theorem rl891 : ruOk fFS gR891 := by
  intro r hp hO hN hH
  obtain ⟨s0, s1, rfl⟩ := len2 (show r.length = 2 from hN.1)
  have hR := hN.2.1.1
  have hIv : ∀ q ∈ ([(0, .negSucc 2147483647, .ofNat 2147483647), (1, .negSucc 2147483647, .ofNat 2147483647)] : sIv), ∃ x, ([s0, s1] : List Int)[q.1]? = some x ∧ q.2.1 ≤ x ∧ x ≤ q.2.2 := hN.2.1.2
  have b1 : (-2147483648 : Int) ≤ s1 ∧ s1 ≤ (2147483647 : Int) := ivX (q := (1, .negSucc 2147483647, .ofNat 2147483647)) (y := s1) (hIv _ (.tail _ (.head _))) rfl
  have hRf : ∀ q ∈ ([((80, .ofNat 275, []), (.ofNat 691, [(.ofNat 3, 0)]), 1, .ofNat 0, [(.ofNat 1, 1)])] : List sRf), rfOk [s0, s1] hp q := hH.1
  obtain ⟨i0, e0, l0, h0⟩ := rfI (xv := s1) (iv := (3 * s0 + 691)) (hRf _ (.head _)) (sE_k _ _) (sEv (y' := ((691 : Int) + ((3 : Int) * s0 + 0))) rfl (by omega)) (sE_V rfl)
  have l0 : i0 < 871 := l0
  have h0 : hI hp 275 i0 = s1 := h0
  have y : (((-2147483648 : Int) ≤ s1 ∧ s1 ≤ (3 : Int))) ∨ (((4 : Int) ≤ s1 ∧ s1 ≤ (4 : Int))) ∨ (((5 : Int) ≤ s1 ∧ s1 ≤ (19 : Int))) ∨ (((20 : Int) ≤ s1 ∧ s1 ≤ (20 : Int))) ∨ (((21 : Int) ≤ s1 ∧ s1 ≤ (21 : Int))) ∨ (((22 : Int) ≤ s1 ∧ s1 ≤ (22 : Int))) ∨ (((23 : Int) ≤ s1 ∧ s1 ≤ (2147483647 : Int))) := by omega
  rcases y with y | y | y | y | y | y | y
  · exact poX (.head _) rfl hR (all_cons (ivO (y := s1) rfl (show (-2147483648 : Int) ≤ s1 by omega) (show s1 ≤ (3 : Int) by omega)) (all_nil)) (all_nil) (all_nil)
  · exact poX (.tail _ (.head _)) rfl hR (all_cons (ivO (y := s1) rfl (show (4 : Int) ≤ s1 by omega) (show s1 ≤ (4 : Int) by omega)) (all_nil)) (all_nil) (all_nil)
  · exact poX (.tail _ (.tail _ (.head _))) rfl hR (all_cons (ivO (y := s1) rfl (show (5 : Int) ≤ s1 by omega) (show s1 ≤ (19 : Int) by omega)) (all_nil)) (all_nil) (all_nil)
  · exact poX (.tail _ (.tail _ (.tail _ (.head _)))) rfl hR (all_cons (ivO (y := s1) rfl (show (20 : Int) ≤ s1 by omega) (show s1 ≤ (20 : Int) by omega)) (all_nil)) (all_nil) (all_nil)
  · exact poX (.tail _ (.tail _ (.tail _ (.tail _ (.head _))))) rfl hR (all_cons (ivO (y := s1) rfl (show (21 : Int) ≤ s1 by omega) (show s1 ≤ (21 : Int) by omega)) (all_nil)) (all_nil) (all_nil)
  · exact poX (.tail _ (.tail _ (.tail _ (.tail _ (.tail _ (.head _)))))) rfl hR (all_cons (ivO (y := s1) rfl (show (22 : Int) ≤ s1 by omega) (show s1 ≤ (22 : Int) by omega)) (all_nil)) (all_nil) (all_nil)
  · exact poX (.tail _ (.tail _ (.tail _ (.tail _ (.tail _ (.tail _ (.head _))))))) rfl hR (all_cons (ivO (y := s1) rfl (show (23 : Int) ≤ s1 by omega) (show s1 ≤ (2147483647 : Int) by omega)) (all_nil)) (all_nil) (all_nil)
theorem rl892 : ruOk fFS gR892 := by
  intro r hp hO hN hH
  obtain ⟨s0, s1, s2, s3, s4, rfl⟩ := len5 (show r.length = 5 from hN.1)
  have hR := hN.2.1.1
  have hIv : ∀ q ∈ ([(0, .negSucc 2147483647, .ofNat 2147483647), (1, .ofNat 0, .ofNat 52), (2, .negSucc 2147483647, .ofNat 2147483647), (3, .ofNat 20, .ofNat 20), (4, .negSucc 2147483647, .ofNat 2147483647)] : sIv), ∃ x, ([s0, s1, s2, s3, s4] : List Int)[q.1]? = some x ∧ q.2.1 ≤ x ∧ x ≤ q.2.2 := hN.2.1.2
  have b0 : (-2147483648 : Int) ≤ s0 ∧ s0 ≤ (2147483647 : Int) := ivX (q := (0, .negSucc 2147483647, .ofNat 2147483647)) (y := s0) (hIv _ (.head _)) rfl
  have b1 : (0 : Int) ≤ s1 ∧ s1 ≤ (52 : Int) := ivX (q := (1, .ofNat 0, .ofNat 52)) (y := s1) (hIv _ (.tail _ (.head _))) rfl
  have b3 : (20 : Int) ≤ s3 ∧ s3 ≤ (20 : Int) := ivX (q := (3, .ofNat 20, .ofNat 20)) (y := s3) (hIv _ (.tail _ (.tail _ (.tail _ (.head _))))) rfl
  have hCs : ∀ c ∈ ([(.ofNat 1, [(.ofNat 1, 1), (.negSucc 0, 2)])] : List sLn), ∃ x, sE [s0, s1, s2, s3, s4] c = some x ∧ x ≤ 0 := hN.2.2.1
  have c0 : ((1 : Int) + ((1 : Int) * s1 + ((-1 : Int) * s2 + 0))) ≤ 0 := csX (hCs _ (.head _)) rfl
  have hRf : ∀ q ∈ ([((80, .ofNat 275, []), (.ofNat 690, []), 1, .ofNat 0, [(.ofNat 1, 2)]), ((80, .ofNat 275, []), (.ofNat 691, [(.ofNat 3, 1)]), 1, .ofNat 0, [(.ofNat 1, 3)]), ((80, .ofNat 275, []), (.ofNat 693, [(.ofNat 3, 1)]), 1, .ofNat 0, [(.ofNat 1, 4)])] : List sRf), rfOk [s0, s1, s2, s3, s4] hp q := hH.1
  have h0 : hI hp 275 690 = s2 := rfI0 (hRf _ (.head _)) (sE_k _ _) (sE_k _ _) (sE_V rfl)
  have y0 : (0 : Int) ≤ s2 ∧ s2 ≤ (53 : Int) := by rw [← h0]; exact hI_ty hO (by decide) rfl
  obtain ⟨i1, e1, l1, h1⟩ := rfI (xv := s3) (iv := (3 * s1 + 691)) (hRf _ (.tail _ (.head _))) (sE_k _ _) (sEv (y' := ((691 : Int) + ((3 : Int) * s1 + 0))) rfl (by omega)) (sE_V rfl)
  have l1 : i1 < 871 := l1
  have h1 : hI hp 275 i1 = s3 := h1
  obtain ⟨i2, e2, l2, h2⟩ := rfI (xv := s4) (iv := (3 * s1 + 693)) (hRf _ (.tail _ (.tail _ (.head _)))) (sE_k _ _) (sEv (y' := ((693 : Int) + ((3 : Int) * s1 + 0))) rfl (by omega)) (sE_V rfl)
  have l2 : i2 < 871 := l2
  have h2 : hI hp 275 i2 = s4 := h2
  have hFc : ∀ q ∈ ([(13, [(.ofNat 0, [(.ofNat 1, 1)]), (.ofNat 0, [(.ofNat 1, 0)])])] : List sFc), fcOk fFS [s0, s1, s2, s3, s4] hp q := hH.2
  have f0 : fDep s1 s0 hp := fcX (ys := [s1, s0]) (hFc _ (.head _)) ⟨sE_V rfl, sE_V rfl, trivial⟩
  obtain ⟨d, u, u2⟩ := dep_use f0 h0 (by omega) h1 h2 (by omega) (by omega)
  unfold stC at u
  exact poX (.head _) rfl hR (all_cons (ivO (y := s0) rfl (show (1 : Int) ≤ s0 by omega) (show s0 ≤ (20 : Int) by omega)) (all_nil)) (all_nil) (all_cons ⟨[(s1 + 1), s0], ⟨sEv (y' := ((1 : Int) + ((1 : Int) * s1 + 0))) rfl (by omega), sE_V rfl, trivial⟩, (show fDep (s1 + 1) s0 hp from dep_cg u2 (by omega) (by omega))⟩ (all_nil))
theorem rl893 : ruOk fFS gR893 := by
  intro r hp hO hN hH
  obtain ⟨s0, s1, s2, s3, s4, rfl⟩ := len5 (show r.length = 5 from hN.1)
  have hR := hN.2.1.1
  have hIv : ∀ q ∈ ([(0, .negSucc 2147483647, .ofNat 2147483647), (1, .ofNat 0, .ofNat 52), (2, .negSucc 2147483647, .ofNat 2147483647), (3, .ofNat 21, .ofNat 22), (4, .negSucc 2147483647, .ofNat 2147483647)] : sIv), ∃ x, ([s0, s1, s2, s3, s4] : List Int)[q.1]? = some x ∧ q.2.1 ≤ x ∧ x ≤ q.2.2 := hN.2.1.2
  have b0 : (-2147483648 : Int) ≤ s0 ∧ s0 ≤ (2147483647 : Int) := ivX (q := (0, .negSucc 2147483647, .ofNat 2147483647)) (y := s0) (hIv _ (.head _)) rfl
  have b1 : (0 : Int) ≤ s1 ∧ s1 ≤ (52 : Int) := ivX (q := (1, .ofNat 0, .ofNat 52)) (y := s1) (hIv _ (.tail _ (.head _))) rfl
  have b3 : (21 : Int) ≤ s3 ∧ s3 ≤ (22 : Int) := ivX (q := (3, .ofNat 21, .ofNat 22)) (y := s3) (hIv _ (.tail _ (.tail _ (.tail _ (.head _))))) rfl
  have hCs : ∀ c ∈ ([(.ofNat 1, [(.ofNat 1, 1), (.negSucc 0, 2)])] : List sLn), ∃ x, sE [s0, s1, s2, s3, s4] c = some x ∧ x ≤ 0 := hN.2.2.1
  have c0 : ((1 : Int) + ((1 : Int) * s1 + ((-1 : Int) * s2 + 0))) ≤ 0 := csX (hCs _ (.head _)) rfl
  have hRf : ∀ q ∈ ([((80, .ofNat 275, []), (.ofNat 690, []), 1, .ofNat 0, [(.ofNat 1, 2)]), ((80, .ofNat 275, []), (.ofNat 691, [(.ofNat 3, 1)]), 1, .ofNat 0, [(.ofNat 1, 3)]), ((80, .ofNat 275, []), (.ofNat 693, [(.ofNat 3, 1)]), 1, .ofNat 0, [(.ofNat 1, 4)])] : List sRf), rfOk [s0, s1, s2, s3, s4] hp q := hH.1
  have h0 : hI hp 275 690 = s2 := rfI0 (hRf _ (.head _)) (sE_k _ _) (sE_k _ _) (sE_V rfl)
  have y0 : (0 : Int) ≤ s2 ∧ s2 ≤ (53 : Int) := by rw [← h0]; exact hI_ty hO (by decide) rfl
  obtain ⟨i1, e1, l1, h1⟩ := rfI (xv := s3) (iv := (3 * s1 + 691)) (hRf _ (.tail _ (.head _))) (sE_k _ _) (sEv (y' := ((691 : Int) + ((3 : Int) * s1 + 0))) rfl (by omega)) (sE_V rfl)
  have l1 : i1 < 871 := l1
  have h1 : hI hp 275 i1 = s3 := h1
  obtain ⟨i2, e2, l2, h2⟩ := rfI (xv := s4) (iv := (3 * s1 + 693)) (hRf _ (.tail _ (.tail _ (.head _)))) (sE_k _ _) (sEv (y' := ((693 : Int) + ((3 : Int) * s1 + 0))) rfl (by omega)) (sE_V rfl)
  have l2 : i2 < 871 := l2
  have h2 : hI hp 275 i2 = s4 := h2
  have hFc : ∀ q ∈ ([(13, [(.ofNat 0, [(.ofNat 1, 1)]), (.ofNat 0, [(.ofNat 1, 0)])])] : List sFc), fcOk fFS [s0, s1, s2, s3, s4] hp q := hH.2
  have f0 : fDep s1 s0 hp := fcX (ys := [s1, s0]) (hFc _ (.head _)) ⟨sE_V rfl, sE_V rfl, trivial⟩
  obtain ⟨d, u, u2⟩ := dep_use f0 h0 (by omega) h1 h2 (by omega) (by omega)
  unfold stC at u
  exact poX (.head _) rfl hR (all_cons (ivO (y := s0) rfl (show (2 : Int) ≤ s0 by omega) (show s0 ≤ (20 : Int) by omega)) (all_nil)) (all_nil) (all_cons ⟨[(s1 + 1), (s0 - 1)], ⟨sEv (y' := ((1 : Int) + ((1 : Int) * s1 + 0))) rfl (by omega), sEv (y' := ((-1 : Int) + ((1 : Int) * s0 + 0))) rfl (by omega), trivial⟩, (show fDep (s1 + 1) (s0 - 1) hp from dep_cg u2 (by omega) (by omega))⟩ (all_nil))
theorem rl894 : ruOk fFS gR894 := by
  intro r hp hO hN hH
  obtain ⟨s0, s1, s2, s3, s4, rfl⟩ := len5 (show r.length = 5 from hN.1)
  have hR := hN.2.1.1
  have hIv : ∀ q ∈ ([(0, .negSucc 2147483647, .ofNat 2147483647), (1, .ofNat 0, .ofNat 52), (2, .negSucc 2147483647, .ofNat 2147483647), (3, .ofNat 4, .ofNat 4), (4, .negSucc 2147483647, .ofNat 2147483647)] : sIv), ∃ x, ([s0, s1, s2, s3, s4] : List Int)[q.1]? = some x ∧ q.2.1 ≤ x ∧ x ≤ q.2.2 := hN.2.1.2
  have b0 : (-2147483648 : Int) ≤ s0 ∧ s0 ≤ (2147483647 : Int) := ivX (q := (0, .negSucc 2147483647, .ofNat 2147483647)) (y := s0) (hIv _ (.head _)) rfl
  have b1 : (0 : Int) ≤ s1 ∧ s1 ≤ (52 : Int) := ivX (q := (1, .ofNat 0, .ofNat 52)) (y := s1) (hIv _ (.tail _ (.head _))) rfl
  have b3 : (4 : Int) ≤ s3 ∧ s3 ≤ (4 : Int) := ivX (q := (3, .ofNat 4, .ofNat 4)) (y := s3) (hIv _ (.tail _ (.tail _ (.tail _ (.head _))))) rfl
  have b4 : (-2147483648 : Int) ≤ s4 ∧ s4 ≤ (2147483647 : Int) := ivX (q := (4, .negSucc 2147483647, .ofNat 2147483647)) (y := s4) (hIv _ (.tail _ (.tail _ (.tail _ (.tail _ (.head _)))))) rfl
  have hCs : ∀ c ∈ ([(.ofNat 1, [(.ofNat 1, 1), (.negSucc 0, 2)])] : List sLn), ∃ x, sE [s0, s1, s2, s3, s4] c = some x ∧ x ≤ 0 := hN.2.2.1
  have c0 : ((1 : Int) + ((1 : Int) * s1 + ((-1 : Int) * s2 + 0))) ≤ 0 := csX (hCs _ (.head _)) rfl
  have hRf : ∀ q ∈ ([((80, .ofNat 275, []), (.ofNat 690, []), 1, .ofNat 0, [(.ofNat 1, 2)]), ((80, .ofNat 275, []), (.ofNat 691, [(.ofNat 3, 1)]), 1, .ofNat 0, [(.ofNat 1, 3)]), ((80, .ofNat 275, []), (.ofNat 693, [(.ofNat 3, 1)]), 1, .ofNat 0, [(.ofNat 1, 4)])] : List sRf), rfOk [s0, s1, s2, s3, s4] hp q := hH.1
  have h0 : hI hp 275 690 = s2 := rfI0 (hRf _ (.head _)) (sE_k _ _) (sE_k _ _) (sE_V rfl)
  have y0 : (0 : Int) ≤ s2 ∧ s2 ≤ (53 : Int) := by rw [← h0]; exact hI_ty hO (by decide) rfl
  obtain ⟨i1, e1, l1, h1⟩ := rfI (xv := s3) (iv := (3 * s1 + 691)) (hRf _ (.tail _ (.head _))) (sE_k _ _) (sEv (y' := ((691 : Int) + ((3 : Int) * s1 + 0))) rfl (by omega)) (sE_V rfl)
  have l1 : i1 < 871 := l1
  have h1 : hI hp 275 i1 = s3 := h1
  obtain ⟨i2, e2, l2, h2⟩ := rfI (xv := s4) (iv := (3 * s1 + 693)) (hRf _ (.tail _ (.tail _ (.head _)))) (sE_k _ _) (sEv (y' := ((693 : Int) + ((3 : Int) * s1 + 0))) rfl (by omega)) (sE_V rfl)
  have l2 : i2 < 871 := l2
  have h2 : hI hp 275 i2 = s4 := h2
  have hFc : ∀ q ∈ ([(13, [(.ofNat 0, [(.ofNat 1, 1)]), (.ofNat 0, [(.ofNat 1, 0)])])] : List sFc), fcOk fFS [s0, s1, s2, s3, s4] hp q := hH.2
  have f0 : fDep s1 s0 hp := fcX (ys := [s1, s0]) (hFc _ (.head _)) ⟨sE_V rfl, sE_V rfl, trivial⟩
  obtain ⟨d, u, u2⟩ := dep_use f0 h0 (by omega) h1 h2 (by omega) (by omega)
  unfold stC at u
  exact poX (.head _) rfl hR (all_cons (ivO (y := s0) rfl (show (0 : Int) ≤ s0 by omega) (show s0 ≤ (19 : Int) by omega)) (all_cons (ivO (y := s4) rfl (show (0 : Int) ≤ s4 by omega) (show s4 ≤ (2 : Int) by omega)) (all_nil))) (all_nil) (all_cons ⟨[(s1 + 1), (s0 + 1)], ⟨sEv (y' := ((1 : Int) + ((1 : Int) * s1 + 0))) rfl (by omega), sEv (y' := ((1 : Int) + ((1 : Int) * s0 + 0))) rfl (by omega), trivial⟩, (show fDep (s1 + 1) (s0 + 1) hp from dep_cg u2 (by omega) (by omega))⟩ (all_nil))
theorem rl895 : ruOk fFS gR895 := by
  intro r hp hO hN hH
  obtain ⟨s0, s1, s2, s3, s4, rfl⟩ := len5 (show r.length = 5 from hN.1)
  have hR := hN.2.1.1
  have hIv : ∀ q ∈ ([(0, .negSucc 2147483647, .ofNat 2147483647), (1, .ofNat 0, .ofNat 52), (2, .negSucc 2147483647, .ofNat 2147483647), (3, .negSucc 2147483647, .ofNat 19), (4, .negSucc 2147483647, .ofNat 2147483647)] : sIv), ∃ x, ([s0, s1, s2, s3, s4] : List Int)[q.1]? = some x ∧ q.2.1 ≤ x ∧ x ≤ q.2.2 := hN.2.1.2
  have b0 : (-2147483648 : Int) ≤ s0 ∧ s0 ≤ (2147483647 : Int) := ivX (q := (0, .negSucc 2147483647, .ofNat 2147483647)) (y := s0) (hIv _ (.head _)) rfl
  have b1 : (0 : Int) ≤ s1 ∧ s1 ≤ (52 : Int) := ivX (q := (1, .ofNat 0, .ofNat 52)) (y := s1) (hIv _ (.tail _ (.head _))) rfl
  have b3 : (-2147483648 : Int) ≤ s3 ∧ s3 ≤ (19 : Int) := ivX (q := (3, .negSucc 2147483647, .ofNat 19)) (y := s3) (hIv _ (.tail _ (.tail _ (.tail _ (.head _))))) rfl
  have hCs : ∀ c ∈ ([(.ofNat 1, [(.ofNat 1, 1), (.negSucc 0, 2)])] : List sLn), ∃ x, sE [s0, s1, s2, s3, s4] c = some x ∧ x ≤ 0 := hN.2.2.1
  have c0 : ((1 : Int) + ((1 : Int) * s1 + ((-1 : Int) * s2 + 0))) ≤ 0 := csX (hCs _ (.head _)) rfl
  have hRf : ∀ q ∈ ([((80, .ofNat 275, []), (.ofNat 690, []), 1, .ofNat 0, [(.ofNat 1, 2)]), ((80, .ofNat 275, []), (.ofNat 691, [(.ofNat 3, 1)]), 1, .ofNat 0, [(.ofNat 1, 3)]), ((80, .ofNat 275, []), (.ofNat 693, [(.ofNat 3, 1)]), 1, .ofNat 0, [(.ofNat 1, 4)])] : List sRf), rfOk [s0, s1, s2, s3, s4] hp q := hH.1
  have h0 : hI hp 275 690 = s2 := rfI0 (hRf _ (.head _)) (sE_k _ _) (sE_k _ _) (sE_V rfl)
  have y0 : (0 : Int) ≤ s2 ∧ s2 ≤ (53 : Int) := by rw [← h0]; exact hI_ty hO (by decide) rfl
  obtain ⟨i1, e1, l1, h1⟩ := rfI (xv := s3) (iv := (3 * s1 + 691)) (hRf _ (.tail _ (.head _))) (sE_k _ _) (sEv (y' := ((691 : Int) + ((3 : Int) * s1 + 0))) rfl (by omega)) (sE_V rfl)
  have l1 : i1 < 871 := l1
  have h1 : hI hp 275 i1 = s3 := h1
  obtain ⟨i2, e2, l2, h2⟩ := rfI (xv := s4) (iv := (3 * s1 + 693)) (hRf _ (.tail _ (.tail _ (.head _)))) (sE_k _ _) (sEv (y' := ((693 : Int) + ((3 : Int) * s1 + 0))) rfl (by omega)) (sE_V rfl)
  have l2 : i2 < 871 := l2
  have h2 : hI hp 275 i2 = s4 := h2
  have hFc : ∀ q ∈ ([(13, [(.ofNat 0, [(.ofNat 1, 1)]), (.ofNat 0, [(.ofNat 1, 0)])])] : List sFc), fcOk fFS [s0, s1, s2, s3, s4] hp q := hH.2
  have f0 : fDep s1 s0 hp := fcX (ys := [s1, s0]) (hFc _ (.head _)) ⟨sE_V rfl, sE_V rfl, trivial⟩
  obtain ⟨d, u, u2⟩ := dep_use f0 h0 (by omega) h1 h2 (by omega) (by omega)
  unfold stC at u
  exact poX (.head _) rfl hR (all_cons (ivO (y := s0) rfl (show (0 : Int) ≤ s0 by omega) (show s0 ≤ (19 : Int) by omega)) (all_nil)) (all_nil) (all_cons ⟨[(s1 + 1), (s0 + 1)], ⟨sEv (y' := ((1 : Int) + ((1 : Int) * s1 + 0))) rfl (by omega), sEv (y' := ((1 : Int) + ((1 : Int) * s0 + 0))) rfl (by omega), trivial⟩, (show fDep (s1 + 1) (s0 + 1) hp from dep_cg u2 (by omega) (by omega))⟩ (all_nil))
theorem rl896 : ruOk fFS gR896 := by
  intro r hp hO hN hH
  obtain ⟨s0, s1, s2, s3, s4, rfl⟩ := len5 (show r.length = 5 from hN.1)
  have hR := hN.2.1.1
  have hIv : ∀ q ∈ ([(0, .negSucc 2147483647, .ofNat 2147483647), (1, .ofNat 0, .ofNat 52), (2, .negSucc 2147483647, .ofNat 2147483647), (3, .ofNat 23, .ofNat 2147483647), (4, .negSucc 2147483647, .ofNat 2147483647)] : sIv), ∃ x, ([s0, s1, s2, s3, s4] : List Int)[q.1]? = some x ∧ q.2.1 ≤ x ∧ x ≤ q.2.2 := hN.2.1.2
  have b0 : (-2147483648 : Int) ≤ s0 ∧ s0 ≤ (2147483647 : Int) := ivX (q := (0, .negSucc 2147483647, .ofNat 2147483647)) (y := s0) (hIv _ (.head _)) rfl
  have b1 : (0 : Int) ≤ s1 ∧ s1 ≤ (52 : Int) := ivX (q := (1, .ofNat 0, .ofNat 52)) (y := s1) (hIv _ (.tail _ (.head _))) rfl
  have b3 : (23 : Int) ≤ s3 ∧ s3 ≤ (2147483647 : Int) := ivX (q := (3, .ofNat 23, .ofNat 2147483647)) (y := s3) (hIv _ (.tail _ (.tail _ (.tail _ (.head _))))) rfl
  have hCs : ∀ c ∈ ([(.ofNat 1, [(.ofNat 1, 1), (.negSucc 0, 2)])] : List sLn), ∃ x, sE [s0, s1, s2, s3, s4] c = some x ∧ x ≤ 0 := hN.2.2.1
  have c0 : ((1 : Int) + ((1 : Int) * s1 + ((-1 : Int) * s2 + 0))) ≤ 0 := csX (hCs _ (.head _)) rfl
  have hRf : ∀ q ∈ ([((80, .ofNat 275, []), (.ofNat 690, []), 1, .ofNat 0, [(.ofNat 1, 2)]), ((80, .ofNat 275, []), (.ofNat 691, [(.ofNat 3, 1)]), 1, .ofNat 0, [(.ofNat 1, 3)]), ((80, .ofNat 275, []), (.ofNat 693, [(.ofNat 3, 1)]), 1, .ofNat 0, [(.ofNat 1, 4)])] : List sRf), rfOk [s0, s1, s2, s3, s4] hp q := hH.1
  have h0 : hI hp 275 690 = s2 := rfI0 (hRf _ (.head _)) (sE_k _ _) (sE_k _ _) (sE_V rfl)
  have y0 : (0 : Int) ≤ s2 ∧ s2 ≤ (53 : Int) := by rw [← h0]; exact hI_ty hO (by decide) rfl
  obtain ⟨i1, e1, l1, h1⟩ := rfI (xv := s3) (iv := (3 * s1 + 691)) (hRf _ (.tail _ (.head _))) (sE_k _ _) (sEv (y' := ((691 : Int) + ((3 : Int) * s1 + 0))) rfl (by omega)) (sE_V rfl)
  have l1 : i1 < 871 := l1
  have h1 : hI hp 275 i1 = s3 := h1
  obtain ⟨i2, e2, l2, h2⟩ := rfI (xv := s4) (iv := (3 * s1 + 693)) (hRf _ (.tail _ (.tail _ (.head _)))) (sE_k _ _) (sEv (y' := ((693 : Int) + ((3 : Int) * s1 + 0))) rfl (by omega)) (sE_V rfl)
  have l2 : i2 < 871 := l2
  have h2 : hI hp 275 i2 = s4 := h2
  have hFc : ∀ q ∈ ([(13, [(.ofNat 0, [(.ofNat 1, 1)]), (.ofNat 0, [(.ofNat 1, 0)])])] : List sFc), fcOk fFS [s0, s1, s2, s3, s4] hp q := hH.2
  have f0 : fDep s1 s0 hp := fcX (ys := [s1, s0]) (hFc _ (.head _)) ⟨sE_V rfl, sE_V rfl, trivial⟩
  obtain ⟨d, u, u2⟩ := dep_use f0 h0 (by omega) h1 h2 (by omega) (by omega)
  unfold stC at u
  exact poX (.head _) rfl hR (all_cons (ivO (y := s0) rfl (show (0 : Int) ≤ s0 by omega) (show s0 ≤ (19 : Int) by omega)) (all_nil)) (all_nil) (all_cons ⟨[(s1 + 1), (s0 + 1)], ⟨sEv (y' := ((1 : Int) + ((1 : Int) * s1 + 0))) rfl (by omega), sEv (y' := ((1 : Int) + ((1 : Int) * s0 + 0))) rfl (by omega), trivial⟩, (show fDep (s1 + 1) (s0 + 1) hp from dep_cg u2 (by omega) (by omega))⟩ (all_nil))
theorem rl897 : ruOk fFS gR897 := by
  intro r hp hO hN hH
  have hr0 := len0 (show r.length = 0 from hN.1)
  subst hr0
  have hR := hN.2.1.1
  exact poX (.head _) rfl hR (all_nil) (all_nil) (all_cons ⟨[0], ⟨sE_k _ _, trivial⟩, (show fEq 289 0 275 0 871 0 hp from eq0 (by omega))⟩ (all_nil))
theorem rl898 : ruOk fFS gR898 := by
  intro r hp hO hN hH
  have hr0 := len0 (show r.length = 0 from hN.1)
  subst hr0
  have hR := hN.2.1.1
  exact poX (.head _) rfl hR (all_nil) (all_nil) (all_cons ⟨[0], ⟨sE_k _ _, trivial⟩, (show fEq 289 871 275 0 871 0 hp from eq0 (by omega))⟩ (all_nil))
theorem rl899 : ruOk fFS gR899 := by
  intro r hp hO hN hH
  obtain ⟨s0, s1, rfl⟩ := len2 (show r.length = 2 from hN.1)
  have hR := hN.2.1.1
  have hIv : ∀ q ∈ ([(0, .ofNat 0, .ofNat 870), (1, .negSucc 2147483647, .ofNat 2147483647)] : sIv), ∃ x, ([s0, s1] : List Int)[q.1]? = some x ∧ q.2.1 ≤ x ∧ x ≤ q.2.2 := hN.2.1.2
  have b0 : (0 : Int) ≤ s0 ∧ s0 ≤ (870 : Int) := ivX (q := (0, .ofNat 0, .ofNat 870)) (y := s0) (hIv _ (.head _)) rfl
  have hRf : ∀ q ∈ ([((94, .ofNat 289, []), (.ofNat 871, [(.ofNat 1, 0)]), 1, .ofNat 0, [(.ofNat 1, 1)]), ((80, .ofNat 275, []), (.ofNat 0, [(.ofNat 1, 0)]), 1, .ofNat 0, [(.ofNat 1, 1)])] : List sRf), rfOk [s0, s1] hp q := hH.1
  obtain ⟨i0, e0, l0, h0⟩ := rfI (xv := s1) (iv := (s0 + 871)) (hRf _ (.head _)) (sE_k _ _) (sEv (y' := ((871 : Int) + ((1 : Int) * s0 + 0))) rfl (by omega)) (sE_V rfl)
  have l0 : i0 < 1742 := l0
  have h0 : hI hp 289 i0 = s1 := h0
  obtain ⟨i1, e1, l1, h1⟩ := rfI (xv := s1) (iv := s0) (hRf _ (.tail _ (.head _))) (sE_k _ _) (sE_V rfl) (sE_V rfl)
  have l1 : i1 < 871 := l1
  have h1 : hI hp 275 i1 = s1 := h1
  have hFc : ∀ q ∈ ([(20, [(.ofNat 0, [(.ofNat 1, 0)])])] : List sFc), fcOk fFS [s0, s1] hp q := hH.2
  have f0 : fEq 289 871 275 0 871 s0 hp := fcX (ys := [s0]) (hFc _ (.head _)) ⟨sE_V rfl, trivial⟩
  exact poX (.head _) rfl hR (all_nil) (all_nil) (all_cons ⟨[(s0 + 1)], ⟨sEv (y' := ((1 : Int) + ((1 : Int) * s0 + 0))) rfl (by omega), trivial⟩, (show fEq 289 871 275 0 871 (s0 + 1) hp from eq_add f0 h0 h1 (by omega) (by omega) (by omega))⟩ (all_nil))
theorem rl900 : ruOk fFS gR900 := by
  intro r hp hO hN hH
  obtain ⟨s0, s1, rfl⟩ := len2 (show r.length = 2 from hN.1)
  have hR := hN.2.1.1
  have hIv : ∀ q ∈ ([(0, .ofNat 0, .ofNat 870), (1, .negSucc 2147483647, .ofNat 2147483647)] : sIv), ∃ x, ([s0, s1] : List Int)[q.1]? = some x ∧ q.2.1 ≤ x ∧ x ≤ q.2.2 := hN.2.1.2
  have b0 : (0 : Int) ≤ s0 ∧ s0 ≤ (870 : Int) := ivX (q := (0, .ofNat 0, .ofNat 870)) (y := s0) (hIv _ (.head _)) rfl
  have hRf : ∀ q ∈ ([((94, .ofNat 289, []), (.ofNat 0, [(.ofNat 1, 0)]), 1, .ofNat 0, [(.ofNat 1, 1)]), ((80, .ofNat 275, []), (.ofNat 0, [(.ofNat 1, 0)]), 1, .ofNat 0, [(.ofNat 1, 1)])] : List sRf), rfOk [s0, s1] hp q := hH.1
  obtain ⟨i0, e0, l0, h0⟩ := rfI (xv := s1) (iv := s0) (hRf _ (.head _)) (sE_k _ _) (sE_V rfl) (sE_V rfl)
  have l0 : i0 < 1742 := l0
  have h0 : hI hp 289 i0 = s1 := h0
  obtain ⟨i1, e1, l1, h1⟩ := rfI (xv := s1) (iv := s0) (hRf _ (.tail _ (.head _))) (sE_k _ _) (sE_V rfl) (sE_V rfl)
  have l1 : i1 < 871 := l1
  have h1 : hI hp 275 i1 = s1 := h1
  have hFc : ∀ q ∈ ([(18, [(.ofNat 0, [(.ofNat 1, 0)])])] : List sFc), fcOk fFS [s0, s1] hp q := hH.2
  have f0 : fEq 289 0 275 0 871 s0 hp := fcX (ys := [s0]) (hFc _ (.head _)) ⟨sE_V rfl, trivial⟩
  exact poX (.head _) rfl hR (all_nil) (all_nil) (all_cons ⟨[(s0 + 1)], ⟨sEv (y' := ((1 : Int) + ((1 : Int) * s0 + 0))) rfl (by omega), trivial⟩, (show fEq 289 0 275 0 871 (s0 + 1) hp from eq_add f0 h0 h1 (by omega) (by omega) (by omega))⟩ (all_nil))
theorem rl901 : ruOk fFS gR901 := by
  intro r hp hO hN hH
  have hr0 := len0 (show r.length = 0 from hN.1)
  subst hr0
  have hR := hN.2.1.1
  exact poX (.head _) rfl hR (all_nil) (all_nil) (all_cons ⟨[0], ⟨sE_k _ _, trivial⟩, (show ∀ j : Nat, j < 12 → (j : Int) < (0 : Int) → hL hp 290 (12 + j) = hL hp 278 j from fun j _ w => absurd w (by omega))⟩ (all_nil))
theorem rl902 : ruOk fFS gR902 := by
  intro r hp hO hN hH
  have hr0 := len0 (show r.length = 0 from hN.1)
  subst hr0
  have hR := hN.2.1.1
  exact poX (.head _) rfl hR (all_nil) (all_nil) (all_cons ⟨[0], ⟨sE_k _ _, trivial⟩, (show ∀ j : Nat, j < 12 → (j : Int) < (0 : Int) → hL hp 290 (0 + j) = hL hp 278 j from fun j _ w => absurd w (by omega))⟩ (all_nil))
theorem rl903 : ruOk fFS gR903 := by
  intro r hp hO hN hH
  obtain ⟨s0, s1, rfl⟩ := len2 (show r.length = 2 from hN.1)
  have hR := hN.2.1.1
  have hIv : ∀ q ∈ ([(0, .ofNat 0, .ofNat 11)] : sIv), ∃ x, ([s0, s1] : List Int)[q.1]? = some x ∧ q.2.1 ≤ x ∧ x ≤ q.2.2 := hN.2.1.2
  have b0 : (0 : Int) ≤ s0 ∧ s0 ≤ (11 : Int) := ivX (q := (0, .ofNat 0, .ofNat 11)) (y := s0) (hIv _ (.head _)) rfl
  have hRf : ∀ q ∈ ([((95, .ofNat 290, []), (.ofNat 12, [(.ofNat 1, 0)]), 5, .ofNat 0, [(.ofNat 1, 1)]), ((83, .ofNat 278, []), (.ofNat 0, [(.ofNat 1, 0)]), 5, .ofNat 0, [(.ofNat 1, 1)])] : List sRf), rfOk [s0, s1] hp q := hH.1
  obtain ⟨i0, e0, l0, h0⟩ := rfL (iv := (s0 + 12)) (hRf _ (.head _)) (sE_k _ _) (sEv (y' := ((12 : Int) + ((1 : Int) * s0 + 0))) rfl (by omega)) (sE_V rfl)
  have l0 : i0 < 24 := l0
  have h0 : hL hp 290 i0 = s1 := h0
  obtain ⟨i1, e1, l1, h1⟩ := rfL (iv := s0) (hRf _ (.tail _ (.head _))) (sE_k _ _) (sE_V rfl) (sE_V rfl)
  have l1 : i1 < 24 := l1
  have h1 : hL hp 278 i1 = s1 := h1
  have hFc : ∀ q ∈ ([(239, [(.ofNat 0, [(.ofNat 1, 0)])])] : List sFc), fcOk fFS [s0, s1] hp q := hH.2
  have f0 : ∀ j : Nat, j < 12 → (j : Int) < s0 → hL hp 290 (12 + j) = hL hp 278 j := fcX (ys := [s0]) (hFc _ (.head _)) ⟨sE_V rfl, trivial⟩
  exact poX (.head _) rfl hR (all_nil) (all_nil) (all_cons ⟨[(s0 + 1)], ⟨sEv (y' := ((1 : Int) + ((1 : Int) * s0 + 0))) rfl (by omega), trivial⟩, (show ∀ j : Nat, j < 12 → (j : Int) < (s0 + 1) → hL hp 290 (12 + j) = hL hp 278 j from nmc_s (X := fun j => hL hp 290 (12 + j)) (Y := fun j => hL hp 278 j) (j0 := i1) f0 (by show hL hp 290 (12 + i1) = _; rw [show 12 + i1 = i0 by omega, h0]) h1 (by omega) (by omega))⟩ (all_nil))
theorem rl904 : ruOk fFS gR904 := by
  intro r hp hO hN hH
  obtain ⟨s0, s1, rfl⟩ := len2 (show r.length = 2 from hN.1)
  have hR := hN.2.1.1
  have hIv : ∀ q ∈ ([(0, .ofNat 0, .ofNat 11)] : sIv), ∃ x, ([s0, s1] : List Int)[q.1]? = some x ∧ q.2.1 ≤ x ∧ x ≤ q.2.2 := hN.2.1.2
  have b0 : (0 : Int) ≤ s0 ∧ s0 ≤ (11 : Int) := ivX (q := (0, .ofNat 0, .ofNat 11)) (y := s0) (hIv _ (.head _)) rfl
  have hRf : ∀ q ∈ ([((95, .ofNat 290, []), (.ofNat 0, [(.ofNat 1, 0)]), 5, .ofNat 0, [(.ofNat 1, 1)]), ((83, .ofNat 278, []), (.ofNat 0, [(.ofNat 1, 0)]), 5, .ofNat 0, [(.ofNat 1, 1)])] : List sRf), rfOk [s0, s1] hp q := hH.1
  obtain ⟨i0, e0, l0, h0⟩ := rfL (iv := s0) (hRf _ (.head _)) (sE_k _ _) (sE_V rfl) (sE_V rfl)
  have l0 : i0 < 24 := l0
  have h0 : hL hp 290 i0 = s1 := h0
  obtain ⟨i1, e1, l1, h1⟩ := rfL (iv := s0) (hRf _ (.tail _ (.head _))) (sE_k _ _) (sE_V rfl) (sE_V rfl)
  have l1 : i1 < 24 := l1
  have h1 : hL hp 278 i1 = s1 := h1
  have hFc : ∀ q ∈ ([(234, [(.ofNat 0, [(.ofNat 1, 0)])])] : List sFc), fcOk fFS [s0, s1] hp q := hH.2
  have f0 : ∀ j : Nat, j < 12 → (j : Int) < s0 → hL hp 290 (0 + j) = hL hp 278 j := fcX (ys := [s0]) (hFc _ (.head _)) ⟨sE_V rfl, trivial⟩
  exact poX (.head _) rfl hR (all_nil) (all_nil) (all_cons ⟨[(s0 + 1)], ⟨sEv (y' := ((1 : Int) + ((1 : Int) * s0 + 0))) rfl (by omega), trivial⟩, (show ∀ j : Nat, j < 12 → (j : Int) < (s0 + 1) → hL hp 290 (0 + j) = hL hp 278 j from nmc_s (X := fun j => hL hp 290 (0 + j)) (Y := fun j => hL hp 278 j) (j0 := i1) f0 (by show hL hp 290 (0 + i1) = _; rw [show 0 + i1 = i0 by omega, h0]) h1 (by omega) (by omega))⟩ (all_nil))
theorem rl905 : ruOk fFS gR905 := by
  intro r hp hO hN hH
  obtain ⟨s0, s1, rfl⟩ := len2 (show r.length = 2 from hN.1)
  have hR := hN.2.1.1
  have hIv : ∀ q ∈ ([(0, .ofNat 0, .ofNat 8), (1, .ofNat 871, .ofNat 871)] : sIv), ∃ x, ([s0, s1] : List Int)[q.1]? = some x ∧ q.2.1 ≤ x ∧ x ≤ q.2.2 := hN.2.1.2
  have b0 : (0 : Int) ≤ s0 ∧ s0 ≤ (8 : Int) := ivX (q := (0, .ofNat 0, .ofNat 8)) (y := s0) (hIv _ (.head _)) rfl
  have b1 : (871 : Int) ≤ s1 ∧ s1 ≤ (871 : Int) := ivX (q := (1, .ofNat 871, .ofNat 871)) (y := s1) (hIv _ (.tail _ (.head _))) rfl
  have hRf : ∀ q ∈ ([((80, .ofNat 275, []), (.ofNat 6, []), 1, .ofNat 0, [(.ofNat 1, 0)])] : List sRf), rfOk [s0, s1] hp q := hH.1
  have h0 : hI hp 275 6 = s0 := rfI0 (hRf _ (.head _)) (sE_k _ _) (sE_k _ _) (sE_V rfl)
  have y0 : (0 : Int) ≤ s0 ∧ s0 ≤ (8 : Int) := by rw [← h0]; exact hI_ty hO (by decide) rfl
  have hFc : ∀ q ∈ ([(20, [(.ofNat 0, [(.ofNat 1, 1)])]), (7, [(.ofNat 0, [(.ofNat 1, 0)])]), (12, [])] : List sFc), fcOk fFS [s0, s1] hp q := hH.2
  have f0 : fEq 289 871 275 0 871 s1 hp := fcX (ys := [s1]) (hFc _ (.head _)) ⟨sE_V rfl, trivial⟩
  have f1 : fCh 275 250 s0 hp := fcX (ys := [s0]) (hFc _ (.tail _ (.head _))) ⟨sE_V rfl, trivial⟩
  have f2 : fPfs 275 690 hp := fcX (ys := []) (hFc _ (.tail _ (.tail _ (.head _)))) trivial
  exact poX (.head _) rfl hR (all_nil) (all_nil) (all_cons ⟨[], trivial, (show fKept 871 1 hp from kept_of hO f0 (by omega) h0 f1 f2)⟩ (all_nil))
theorem rl906 : ruOk fFS gR906 := by
  intro r hp hO hN hH
  obtain ⟨s0, s1, rfl⟩ := len2 (show r.length = 2 from hN.1)
  have hR := hN.2.1.1
  have hIv : ∀ q ∈ ([(0, .ofNat 871, .ofNat 871), (1, .ofNat 12, .ofNat 12)] : sIv), ∃ x, ([s0, s1] : List Int)[q.1]? = some x ∧ q.2.1 ≤ x ∧ x ≤ q.2.2 := hN.2.1.2
  have b0 : (871 : Int) ≤ s0 ∧ s0 ≤ (871 : Int) := ivX (q := (0, .ofNat 871, .ofNat 871)) (y := s0) (hIv _ (.head _)) rfl
  have b1 : (12 : Int) ≤ s1 ∧ s1 ≤ (12 : Int) := ivX (q := (1, .ofNat 12, .ofNat 12)) (y := s1) (hIv _ (.tail _ (.head _))) rfl
  have hFc : ∀ q ∈ ([(235, []), (20, [(.ofNat 0, [(.ofNat 1, 0)])]), (239, [(.ofNat 0, [(.ofNat 1, 1)])])] : List sFc), fcOk fFS [s0, s1] hp q := hH.2
  have f0 : ∀ c L, isW L → (nmR hp 244 c L ↔ nmM hp c L) := fcX (ys := []) (hFc _ (.head _)) trivial
  have f1 : fEq 289 871 275 0 871 s0 hp := fcX (ys := [s0]) (hFc _ (.tail _ (.head _))) ⟨sE_V rfl, trivial⟩
  have f2 : ∀ j : Nat, j < 12 → (j : Int) < s1 → hL hp 290 (12 + j) = hL hp 278 j := fcX (ys := [s1]) (hFc _ (.tail _ (.tail _ (.head _)))) ⟨sE_V rfl, trivial⟩
  exact poX (.head _) rfl hR (all_nil) (all_nil) (all_cons ⟨[], trivial, (show ∀ c L, isW L → (nmR hp 244 c L ↔ nmK hp 1 c L) from alike_r f0 (nmm_k (k' := 1) f1 (by omega) f2 (by omega)))⟩ (all_nil))
theorem rl907 : ruOk fFS gR907 := by
  intro r hp hO hN hH
  obtain ⟨s0, s1, rfl⟩ := len2 (show r.length = 2 from hN.1)
  have hR := hN.2.1.1
  have hIv : ∀ q ∈ ([(0, .ofNat 0, .ofNat 8), (1, .ofNat 871, .ofNat 871)] : sIv), ∃ x, ([s0, s1] : List Int)[q.1]? = some x ∧ q.2.1 ≤ x ∧ x ≤ q.2.2 := hN.2.1.2
  have b0 : (0 : Int) ≤ s0 ∧ s0 ≤ (8 : Int) := ivX (q := (0, .ofNat 0, .ofNat 8)) (y := s0) (hIv _ (.head _)) rfl
  have b1 : (871 : Int) ≤ s1 ∧ s1 ≤ (871 : Int) := ivX (q := (1, .ofNat 871, .ofNat 871)) (y := s1) (hIv _ (.tail _ (.head _))) rfl
  have hRf : ∀ q ∈ ([((80, .ofNat 275, []), (.ofNat 6, []), 1, .ofNat 0, [(.ofNat 1, 0)])] : List sRf), rfOk [s0, s1] hp q := hH.1
  have h0 : hI hp 275 6 = s0 := rfI0 (hRf _ (.head _)) (sE_k _ _) (sE_k _ _) (sE_V rfl)
  have y0 : (0 : Int) ≤ s0 ∧ s0 ≤ (8 : Int) := by rw [← h0]; exact hI_ty hO (by decide) rfl
  have hFc : ∀ q ∈ ([(18, [(.ofNat 0, [(.ofNat 1, 1)])]), (7, [(.ofNat 0, [(.ofNat 1, 0)])]), (12, [])] : List sFc), fcOk fFS [s0, s1] hp q := hH.2
  have f0 : fEq 289 0 275 0 871 s1 hp := fcX (ys := [s1]) (hFc _ (.head _)) ⟨sE_V rfl, trivial⟩
  have f1 : fCh 275 250 s0 hp := fcX (ys := [s0]) (hFc _ (.tail _ (.head _))) ⟨sE_V rfl, trivial⟩
  have f2 : fPfs 275 690 hp := fcX (ys := []) (hFc _ (.tail _ (.tail _ (.head _)))) trivial
  exact poX (.head _) rfl hR (all_nil) (all_nil) (all_cons ⟨[], trivial, (show fKept 0 0 hp from kept_of hO f0 (by omega) h0 f1 f2)⟩ (all_nil))
theorem rl908 : ruOk fFS gR908 := by
  intro r hp hO hN hH
  obtain ⟨s0, s1, rfl⟩ := len2 (show r.length = 2 from hN.1)
  have hR := hN.2.1.1
  have hIv : ∀ q ∈ ([(0, .ofNat 871, .ofNat 871), (1, .ofNat 12, .ofNat 12)] : sIv), ∃ x, ([s0, s1] : List Int)[q.1]? = some x ∧ q.2.1 ≤ x ∧ x ≤ q.2.2 := hN.2.1.2
  have b0 : (871 : Int) ≤ s0 ∧ s0 ≤ (871 : Int) := ivX (q := (0, .ofNat 871, .ofNat 871)) (y := s0) (hIv _ (.head _)) rfl
  have b1 : (12 : Int) ≤ s1 ∧ s1 ≤ (12 : Int) := ivX (q := (1, .ofNat 12, .ofNat 12)) (y := s1) (hIv _ (.tail _ (.head _))) rfl
  have hFc : ∀ q ∈ ([(230, []), (18, [(.ofNat 0, [(.ofNat 1, 0)])]), (234, [(.ofNat 0, [(.ofNat 1, 1)])])] : List sFc), fcOk fFS [s0, s1] hp q := hH.2
  have f0 : ∀ c L, isW L → (nmR hp 213 c L ↔ nmM hp c L) := fcX (ys := []) (hFc _ (.head _)) trivial
  have f1 : fEq 289 0 275 0 871 s0 hp := fcX (ys := [s0]) (hFc _ (.tail _ (.head _))) ⟨sE_V rfl, trivial⟩
  have f2 : ∀ j : Nat, j < 12 → (j : Int) < s1 → hL hp 290 (0 + j) = hL hp 278 j := fcX (ys := [s1]) (hFc _ (.tail _ (.tail _ (.head _)))) ⟨sE_V rfl, trivial⟩
  exact poX (.head _) rfl hR (all_nil) (all_nil) (all_cons ⟨[], trivial, (show ∀ c L, isW L → (nmR hp 213 c L ↔ nmK hp 0 c L) from alike_r f0 (nmm_k (k' := 0) f1 (by omega) f2 (by omega)))⟩ (all_nil))
theorem rl909 : ruOk fFS gR909 := by
  intro r hp hO hN hH
  obtain ⟨s0, s1, s2, rfl⟩ := len3 (show r.length = 3 from hN.1)
  have hR := hN.2.1.1
  have hIv : ∀ q ∈ ([(0, .ofNat 1, .ofNat 1), (1, .negSucc 2147483647, .ofNat 2147483647), (2, .negSucc 2147483647, .ofNat 2147483647)] : sIv), ∃ x, ([s0, s1, s2] : List Int)[q.1]? = some x ∧ q.2.1 ≤ x ∧ x ≤ q.2.2 := hN.2.1.2
  have b0 : (1 : Int) ≤ s0 ∧ s0 ≤ (1 : Int) := ivX (q := (0, .ofNat 1, .ofNat 1)) (y := s0) (hIv _ (.head _)) rfl
  have b1 : (-2147483648 : Int) ≤ s1 ∧ s1 ≤ (2147483647 : Int) := ivX (q := (1, .negSucc 2147483647, .ofNat 2147483647)) (y := s1) (hIv _ (.tail _ (.head _))) rfl
  have b2 : (-2147483648 : Int) ≤ s2 ∧ s2 ≤ (2147483647 : Int) := ivX (q := (2, .negSucc 2147483647, .ofNat 2147483647)) (y := s2) (hIv _ (.tail _ (.tail _ (.head _)))) rfl
  have hRf : ∀ q ∈ ([((96, .ofNat 291, []), (.ofNat 1, []), 1, .ofNat 0, [(.ofNat 1, 0)]), ((94, .ofNat 289, []), (.ofNat 871, []), 1, .ofNat 0, [(.ofNat 1, 1)]), ((94, .ofNat 289, []), (.ofNat 872, []), 1, .ofNat 0, [(.ofNat 1, 2)])] : List sRf), rfOk [s0, s1, s2] hp q := hH.1
  have h0 : hI hp 291 1 = s0 := rfI0 (hRf _ (.head _)) (sE_k _ _) (sE_k _ _) (sE_V rfl)
  have y0 : (0 : Int) ≤ s0 ∧ s0 ≤ (1 : Int) := by rw [← h0]; exact hI_ty hO (by decide) rfl
  have h1 : hI hp 289 871 = s1 := rfI0 (hRf _ (.tail _ (.head _))) (sE_k _ _) (sE_k _ _) (sE_V rfl)
  have y1 : (0 : Int) ≤ s1 ∧ s1 ≤ (10 : Int) := by rw [← h1]; exact hI_ty hO (by decide) rfl
  have h2 : hI hp 289 872 = s2 := rfI0 (hRf _ (.tail _ (.tail _ (.head _)))) (sE_k _ _) (sE_k _ _) (sE_V rfl)
  have y2 : (0 : Int) ≤ s2 ∧ s2 ≤ (10 : Int) := by rw [← h2]; exact hI_ty hO (by decide) rfl
  have hFc : ∀ q ∈ ([(19, [])] : List sFc), fcOk fFS [s0, s1, s2] hp q := hH.2
  have f0 : fKept 871 1 hp := fcX (ys := []) (hFc _ (.head _)) trivial
  have u := kept_b f0 h0 (by omega) h1 h2 rfl
  exact poX (.head _) rfl hR (all_cons (ivO (y := s1) rfl (show (1 : Int) ≤ s1 by omega) (show s1 ≤ (10 : Int) by omega)) (all_cons (ivO (y := s2) rfl (show (1 : Int) ≤ s2 by omega) (show s2 ≤ (10 : Int) by omega)) (all_nil))) (all_nil) (all_nil)
theorem rl910 : ruOk fFS gR910 := by
  intro r hp hO hN hH
  obtain ⟨s0, s1, s2, rfl⟩ := len3 (show r.length = 3 from hN.1)
  have hR := hN.2.1.1
  have hIv : ∀ q ∈ ([(0, .ofNat 1, .ofNat 1), (1, .negSucc 2147483647, .ofNat 2147483647), (2, .negSucc 2147483647, .ofNat 2147483647)] : sIv), ∃ x, ([s0, s1, s2] : List Int)[q.1]? = some x ∧ q.2.1 ≤ x ∧ x ≤ q.2.2 := hN.2.1.2
  have b0 : (1 : Int) ≤ s0 ∧ s0 ≤ (1 : Int) := ivX (q := (0, .ofNat 1, .ofNat 1)) (y := s0) (hIv _ (.head _)) rfl
  have b1 : (-2147483648 : Int) ≤ s1 ∧ s1 ≤ (2147483647 : Int) := ivX (q := (1, .negSucc 2147483647, .ofNat 2147483647)) (y := s1) (hIv _ (.tail _ (.head _))) rfl
  have b2 : (-2147483648 : Int) ≤ s2 ∧ s2 ≤ (2147483647 : Int) := ivX (q := (2, .negSucc 2147483647, .ofNat 2147483647)) (y := s2) (hIv _ (.tail _ (.tail _ (.head _)))) rfl
  have hRf : ∀ q ∈ ([((96, .ofNat 291, []), (.ofNat 0, []), 1, .ofNat 0, [(.ofNat 1, 0)]), ((94, .ofNat 289, []), (.ofNat 0, []), 1, .ofNat 0, [(.ofNat 1, 1)]), ((94, .ofNat 289, []), (.ofNat 1, []), 1, .ofNat 0, [(.ofNat 1, 2)])] : List sRf), rfOk [s0, s1, s2] hp q := hH.1
  have h0 : hI hp 291 0 = s0 := rfI0 (hRf _ (.head _)) (sE_k _ _) (sE_k _ _) (sE_V rfl)
  have y0 : (0 : Int) ≤ s0 ∧ s0 ≤ (1 : Int) := by rw [← h0]; exact hI_ty hO (by decide) rfl
  have h1 : hI hp 289 0 = s1 := rfI0 (hRf _ (.tail _ (.head _))) (sE_k _ _) (sE_k _ _) (sE_V rfl)
  have y1 : (0 : Int) ≤ s1 ∧ s1 ≤ (10 : Int) := by rw [← h1]; exact hI_ty hO (by decide) rfl
  have h2 : hI hp 289 1 = s2 := rfI0 (hRf _ (.tail _ (.tail _ (.head _)))) (sE_k _ _) (sE_k _ _) (sE_V rfl)
  have y2 : (0 : Int) ≤ s2 ∧ s2 ≤ (10 : Int) := by rw [← h2]; exact hI_ty hO (by decide) rfl
  have hFc : ∀ q ∈ ([(17, [])] : List sFc), fcOk fFS [s0, s1, s2] hp q := hH.2
  have f0 : fKept 0 0 hp := fcX (ys := []) (hFc _ (.head _)) trivial
  have u := kept_b f0 h0 (by omega) h1 h2 rfl
  exact poX (.head _) rfl hR (all_cons (ivO (y := s1) rfl (show (1 : Int) ≤ s1 by omega) (show s1 ≤ (10 : Int) by omega)) (all_cons (ivO (y := s2) rfl (show (1 : Int) ≤ s2 by omega) (show s2 ≤ (10 : Int) by omega)) (all_nil))) (all_nil) (all_nil)
theorem rl911 : ruOk fFS gR911 := by
  intro r hp hO hN hH
  obtain ⟨s0, s1, s2, rfl⟩ := len3 (show r.length = 3 from hN.1)
  have hR := hN.2.1.1
  have hIv : ∀ q ∈ ([(0, .ofNat 1, .ofNat 1), (1, .ofNat 0, .ofNat 8), (2, .ofNat 871, .ofNat 871)] : sIv), ∃ x, ([s0, s1, s2] : List Int)[q.1]? = some x ∧ q.2.1 ≤ x ∧ x ≤ q.2.2 := hN.2.1.2
  have b0 : (1 : Int) ≤ s0 ∧ s0 ≤ (1 : Int) := ivX (q := (0, .ofNat 1, .ofNat 1)) (y := s0) (hIv _ (.head _)) rfl
  have b1 : (0 : Int) ≤ s1 ∧ s1 ≤ (8 : Int) := ivX (q := (1, .ofNat 0, .ofNat 8)) (y := s1) (hIv _ (.tail _ (.head _))) rfl
  have b2 : (871 : Int) ≤ s2 ∧ s2 ≤ (871 : Int) := ivX (q := (2, .ofNat 871, .ofNat 871)) (y := s2) (hIv _ (.tail _ (.tail _ (.head _)))) rfl
  have hRf : ∀ q ∈ ([((96, .ofNat 291, []), (.ofNat 1, []), 1, .ofNat 0, [(.ofNat 1, 0)]), ((80, .ofNat 275, []), (.ofNat 6, []), 1, .ofNat 0, [(.ofNat 1, 1)])] : List sRf), rfOk [s0, s1, s2] hp q := hH.1
  have h0 : hI hp 291 1 = s0 := rfI0 (hRf _ (.head _)) (sE_k _ _) (sE_k _ _) (sE_V rfl)
  have y0 : (0 : Int) ≤ s0 ∧ s0 ≤ (1 : Int) := by rw [← h0]; exact hI_ty hO (by decide) rfl
  have h1 : hI hp 275 6 = s1 := rfI0 (hRf _ (.tail _ (.head _))) (sE_k _ _) (sE_k _ _) (sE_V rfl)
  have y1 : (0 : Int) ≤ s1 ∧ s1 ≤ (8 : Int) := by rw [← h1]; exact hI_ty hO (by decide) rfl
  have hFc : ∀ q ∈ ([(20, [(.ofNat 0, [(.ofNat 1, 2)])]), (19, [])] : List sFc), fcOk fFS [s0, s1, s2] hp q := hH.2
  have f0 : fEq 289 871 275 0 871 s2 hp := fcX (ys := [s2]) (hFc _ (.head _)) ⟨sE_V rfl, trivial⟩
  have f1 : fKept 871 1 hp := fcX (ys := []) (hFc _ (.tail _ (.head _))) trivial
  have u := kept_ch f1 (by rw [h0]; omega) f0 (by omega) h1
  exact poX (.head _) rfl hR (all_nil) (all_nil) (all_cons ⟨[s1], ⟨sE_V rfl, trivial⟩, (show fCh 275 250 s1 hp from u.1)⟩ (all_cons ⟨[], trivial, (show fPfs 275 690 hp from u.2)⟩ (all_nil)))
theorem rl912 : ruOk fFS gR912 := by
  intro r hp hO hN hH
  obtain ⟨s0, s1, s2, rfl⟩ := len3 (show r.length = 3 from hN.1)
  have hR := hN.2.1.1
  have hIv : ∀ q ∈ ([(0, .ofNat 1, .ofNat 1), (1, .ofNat 0, .ofNat 8), (2, .ofNat 871, .ofNat 871)] : sIv), ∃ x, ([s0, s1, s2] : List Int)[q.1]? = some x ∧ q.2.1 ≤ x ∧ x ≤ q.2.2 := hN.2.1.2
  have b0 : (1 : Int) ≤ s0 ∧ s0 ≤ (1 : Int) := ivX (q := (0, .ofNat 1, .ofNat 1)) (y := s0) (hIv _ (.head _)) rfl
  have b1 : (0 : Int) ≤ s1 ∧ s1 ≤ (8 : Int) := ivX (q := (1, .ofNat 0, .ofNat 8)) (y := s1) (hIv _ (.tail _ (.head _))) rfl
  have b2 : (871 : Int) ≤ s2 ∧ s2 ≤ (871 : Int) := ivX (q := (2, .ofNat 871, .ofNat 871)) (y := s2) (hIv _ (.tail _ (.tail _ (.head _)))) rfl
  have hRf : ∀ q ∈ ([((96, .ofNat 291, []), (.ofNat 0, []), 1, .ofNat 0, [(.ofNat 1, 0)]), ((80, .ofNat 275, []), (.ofNat 6, []), 1, .ofNat 0, [(.ofNat 1, 1)])] : List sRf), rfOk [s0, s1, s2] hp q := hH.1
  have h0 : hI hp 291 0 = s0 := rfI0 (hRf _ (.head _)) (sE_k _ _) (sE_k _ _) (sE_V rfl)
  have y0 : (0 : Int) ≤ s0 ∧ s0 ≤ (1 : Int) := by rw [← h0]; exact hI_ty hO (by decide) rfl
  have h1 : hI hp 275 6 = s1 := rfI0 (hRf _ (.tail _ (.head _))) (sE_k _ _) (sE_k _ _) (sE_V rfl)
  have y1 : (0 : Int) ≤ s1 ∧ s1 ≤ (8 : Int) := by rw [← h1]; exact hI_ty hO (by decide) rfl
  have hFc : ∀ q ∈ ([(18, [(.ofNat 0, [(.ofNat 1, 2)])]), (17, [])] : List sFc), fcOk fFS [s0, s1, s2] hp q := hH.2
  have f0 : fEq 289 0 275 0 871 s2 hp := fcX (ys := [s2]) (hFc _ (.head _)) ⟨sE_V rfl, trivial⟩
  have f1 : fKept 0 0 hp := fcX (ys := []) (hFc _ (.tail _ (.head _))) trivial
  have u := kept_ch f1 (by rw [h0]; omega) f0 (by omega) h1
  exact poX (.head _) rfl hR (all_nil) (all_nil) (all_cons ⟨[s1], ⟨sE_V rfl, trivial⟩, (show fCh 275 250 s1 hp from u.1)⟩ (all_cons ⟨[], trivial, (show fPfs 275 690 hp from u.2)⟩ (all_nil)))
theorem rl913 : ruOk fFS gR913 := by
  intro r hp hO hN hH
  obtain ⟨s0, s1, rfl⟩ := len2 (show r.length = 2 from hN.1)
  have hR := hN.2.1.1
  have hIv : ∀ q ∈ ([(0, .ofNat 871, .ofNat 871), (1, .ofNat 12, .ofNat 12)] : sIv), ∃ x, ([s0, s1] : List Int)[q.1]? = some x ∧ q.2.1 ≤ x ∧ x ≤ q.2.2 := hN.2.1.2
  have b0 : (871 : Int) ≤ s0 ∧ s0 ≤ (871 : Int) := ivX (q := (0, .ofNat 871, .ofNat 871)) (y := s0) (hIv _ (.head _)) rfl
  have b1 : (12 : Int) ≤ s1 ∧ s1 ≤ (12 : Int) := ivX (q := (1, .ofNat 12, .ofNat 12)) (y := s1) (hIv _ (.tail _ (.head _))) rfl
  have hFc : ∀ q ∈ ([(237, []), (20, [(.ofNat 0, [(.ofNat 1, 0)])]), (239, [(.ofNat 0, [(.ofNat 1, 1)])])] : List sFc), fcOk fFS [s0, s1] hp q := hH.2
  have f0 : ∀ c L, isW L → (nmR hp 3 c L ↔ nmK hp 1 c L) := fcX (ys := []) (hFc _ (.head _)) trivial
  have f1 : fEq 289 871 275 0 871 s0 hp := fcX (ys := [s0]) (hFc _ (.tail _ (.head _))) ⟨sE_V rfl, trivial⟩
  have f2 : ∀ j : Nat, j < 12 → (j : Int) < s1 → hL hp 290 (12 + j) = hL hp 278 j := fcX (ys := [s1]) (hFc _ (.tail _ (.tail _ (.head _)))) ⟨sE_V rfl, trivial⟩
  exact poX (.head _) rfl hR (all_nil) (all_nil) (all_cons ⟨[], trivial, (show ∀ c L, isW L → (nmR hp 3 c L ↔ nmM hp c L) from alike_r f0 (nmm_k (k' := 1) f1 (by omega) f2 (by omega)).symm)⟩ (all_nil))
theorem rl914 : ruOk fFS gR914 := by
  intro r hp hO hN hH
  obtain ⟨s0, s1, rfl⟩ := len2 (show r.length = 2 from hN.1)
  have hR := hN.2.1.1
  have hIv : ∀ q ∈ ([(0, .ofNat 871, .ofNat 871), (1, .ofNat 12, .ofNat 12)] : sIv), ∃ x, ([s0, s1] : List Int)[q.1]? = some x ∧ q.2.1 ≤ x ∧ x ≤ q.2.2 := hN.2.1.2
  have b0 : (871 : Int) ≤ s0 ∧ s0 ≤ (871 : Int) := ivX (q := (0, .ofNat 871, .ofNat 871)) (y := s0) (hIv _ (.head _)) rfl
  have b1 : (12 : Int) ≤ s1 ∧ s1 ≤ (12 : Int) := ivX (q := (1, .ofNat 12, .ofNat 12)) (y := s1) (hIv _ (.tail _ (.head _))) rfl
  have hFc : ∀ q ∈ ([(238, []), (20, [(.ofNat 0, [(.ofNat 1, 0)])]), (239, [(.ofNat 0, [(.ofNat 1, 1)])])] : List sFc), fcOk fFS [s0, s1] hp q := hH.2
  have f0 : ∀ c L, isW L → (nmR hp 16 c L ↔ nmK hp 1 c L) := fcX (ys := []) (hFc _ (.head _)) trivial
  have f1 : fEq 289 871 275 0 871 s0 hp := fcX (ys := [s0]) (hFc _ (.tail _ (.head _))) ⟨sE_V rfl, trivial⟩
  have f2 : ∀ j : Nat, j < 12 → (j : Int) < s1 → hL hp 290 (12 + j) = hL hp 278 j := fcX (ys := [s1]) (hFc _ (.tail _ (.tail _ (.head _)))) ⟨sE_V rfl, trivial⟩
  exact poX (.head _) rfl hR (all_nil) (all_nil) (all_cons ⟨[], trivial, (show ∀ c L, isW L → (nmR hp 16 c L ↔ nmM hp c L) from alike_r f0 (nmm_k (k' := 1) f1 (by omega) f2 (by omega)).symm)⟩ (all_nil))
theorem rl915 : ruOk fFS gR915 := by
  intro r hp hO hN hH
  obtain ⟨s0, s1, rfl⟩ := len2 (show r.length = 2 from hN.1)
  have hR := hN.2.1.1
  have hIv : ∀ q ∈ ([(0, .ofNat 871, .ofNat 871), (1, .ofNat 12, .ofNat 12)] : sIv), ∃ x, ([s0, s1] : List Int)[q.1]? = some x ∧ q.2.1 ≤ x ∧ x ≤ q.2.2 := hN.2.1.2
  have b0 : (871 : Int) ≤ s0 ∧ s0 ≤ (871 : Int) := ivX (q := (0, .ofNat 871, .ofNat 871)) (y := s0) (hIv _ (.head _)) rfl
  have b1 : (12 : Int) ≤ s1 ∧ s1 ≤ (12 : Int) := ivX (q := (1, .ofNat 12, .ofNat 12)) (y := s1) (hIv _ (.tail _ (.head _))) rfl
  have hFc : ∀ q ∈ ([(232, []), (18, [(.ofNat 0, [(.ofNat 1, 0)])]), (234, [(.ofNat 0, [(.ofNat 1, 1)])])] : List sFc), fcOk fFS [s0, s1] hp q := hH.2
  have f0 : ∀ c L, isW L → (nmR hp 3 c L ↔ nmK hp 0 c L) := fcX (ys := []) (hFc _ (.head _)) trivial
  have f1 : fEq 289 0 275 0 871 s0 hp := fcX (ys := [s0]) (hFc _ (.tail _ (.head _))) ⟨sE_V rfl, trivial⟩
  have f2 : ∀ j : Nat, j < 12 → (j : Int) < s1 → hL hp 290 (0 + j) = hL hp 278 j := fcX (ys := [s1]) (hFc _ (.tail _ (.tail _ (.head _)))) ⟨sE_V rfl, trivial⟩
  exact poX (.head _) rfl hR (all_nil) (all_nil) (all_cons ⟨[], trivial, (show ∀ c L, isW L → (nmR hp 3 c L ↔ nmM hp c L) from alike_r f0 (nmm_k (k' := 0) f1 (by omega) f2 (by omega)).symm)⟩ (all_nil))
theorem rl916 : ruOk fFS gR916 := by
  intro r hp hO hN hH
  obtain ⟨s0, s1, rfl⟩ := len2 (show r.length = 2 from hN.1)
  have hR := hN.2.1.1
  have hIv : ∀ q ∈ ([(0, .ofNat 871, .ofNat 871), (1, .ofNat 12, .ofNat 12)] : sIv), ∃ x, ([s0, s1] : List Int)[q.1]? = some x ∧ q.2.1 ≤ x ∧ x ≤ q.2.2 := hN.2.1.2
  have b0 : (871 : Int) ≤ s0 ∧ s0 ≤ (871 : Int) := ivX (q := (0, .ofNat 871, .ofNat 871)) (y := s0) (hIv _ (.head _)) rfl
  have b1 : (12 : Int) ≤ s1 ∧ s1 ≤ (12 : Int) := ivX (q := (1, .ofNat 12, .ofNat 12)) (y := s1) (hIv _ (.tail _ (.head _))) rfl
  have hFc : ∀ q ∈ ([(233, []), (18, [(.ofNat 0, [(.ofNat 1, 0)])]), (234, [(.ofNat 0, [(.ofNat 1, 1)])])] : List sFc), fcOk fFS [s0, s1] hp q := hH.2
  have f0 : ∀ c L, isW L → (nmR hp 16 c L ↔ nmK hp 0 c L) := fcX (ys := []) (hFc _ (.head _)) trivial
  have f1 : fEq 289 0 275 0 871 s0 hp := fcX (ys := [s0]) (hFc _ (.tail _ (.head _))) ⟨sE_V rfl, trivial⟩
  have f2 : ∀ j : Nat, j < 12 → (j : Int) < s1 → hL hp 290 (0 + j) = hL hp 278 j := fcX (ys := [s1]) (hFc _ (.tail _ (.tail _ (.head _)))) ⟨sE_V rfl, trivial⟩
  exact poX (.head _) rfl hR (all_nil) (all_nil) (all_cons ⟨[], trivial, (show ∀ c L, isW L → (nmR hp 16 c L ↔ nmM hp c L) from alike_r f0 (nmm_k (k' := 0) f1 (by omega) f2 (by omega)).symm)⟩ (all_nil))
end CkRul11
