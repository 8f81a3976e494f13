section CkRul12
theorem rl960 : ruOk fFS gR960 := by
  intro r hp hO hN hH
  obtain ⟨s0, s1, s2, s3, s4, s5, s6, s7, s8, rfl⟩ := len9 (show r.length = 9 from hN.1)
  have hR := hN.2.1.1
  have hIv : ∀ q ∈ ([(0, .negSucc 2147483647, .ofNat 2147483647), (1, .ofNat 3, .ofNat 3), (2, .negSucc 2147483647, .ofNat 2147483647), (3, .negSucc 2147483647, .ofNat 2147483647), (4, .ofNat 1, .ofNat 1), (5, .negSucc 2147483647, .ofNat 2147483647), (6, .negSucc 2147483647, .ofNat 2147483647), (7, .negSucc 0, .negSucc 0), (8, .negSucc 0, .negSucc 0)] : sIv), ∃ x, ([s0, s1, s2, s3, s4, s5, s6, s7, s8] : List Int)[q.1]? = some x ∧ q.2.1 ≤ x ∧ x ≤ q.2.2 := hN.2.1.2
  have b1 : (3 : Int) ≤ s1 ∧ s1 ≤ (3 : Int) := ivX (q := (1, .ofNat 3, .ofNat 3)) (y := s1) (hIv _ (.tail _ (.head _))) rfl
  have b4 : (1 : Int) ≤ s4 ∧ s4 ≤ (1 : Int) := ivX (q := (4, .ofNat 1, .ofNat 1)) (y := s4) (hIv _ (.tail _ (.tail _ (.tail _ (.tail _ (.head _)))))) rfl
  have b7 : (-1 : Int) ≤ s7 ∧ s7 ≤ (-1 : Int) := ivX (q := (7, .negSucc 0, .negSucc 0)) (y := s7) (hIv _ (.tail _ (.tail _ (.tail _ (.tail _ (.tail _ (.tail _ (.tail _ (.head _))))))))) rfl
  have b8 : (-1 : Int) ≤ s8 ∧ s8 ≤ (-1 : Int) := ivX (q := (8, .negSucc 0, .negSucc 0)) (y := s8) (hIv _ (.tail _ (.tail _ (.tail _ (.tail _ (.tail _ (.tail _ (.tail _ (.tail _ (.head _)))))))))) rfl
  have hFc : ∀ q ∈ ([(207, [(.ofNat 0, [(.ofNat 1, 0)]), (.ofNat 0, [(.ofNat 1, 1)]), (.ofNat 0, [(.ofNat 1, 2)]), (.ofNat 0, [(.ofNat 1, 3)]), (.ofNat 0, [(.ofNat 1, 4)]), (.ofNat 0, [(.ofNat 1, 5)]), (.ofNat 0, [(.ofNat 1, 6)]), (.ofNat 0, [(.ofNat 1, 7)])]), (211, [(.ofNat 3, []), (.ofNat 0, [(.ofNat 1, 5)]), (.ofNat 0, [(.ofNat 1, 6)]), (.ofNat 0, [(.ofNat 1, 8)])])] : List sFc), fcOk fFS [s0, s1, s2, s3, s4, s5, s6, s7, s8] hp q := hH.2
  have f0 : SHq (MT hp) (nmM hp) s0 s1 s2 s3 s4 s5 s6 s7 := fcX (ys := [s0, s1, s2, s3, s4, s5, s6, s7]) (hFc _ (.head _)) ⟨sE_V rfl, sE_V rfl, sE_V rfl, sE_V rfl, sE_V rfl, sE_V rfl, sE_V rfl, sE_V rfl, trivial⟩
  have f1 : (0 ≤ s8 ∧ nmM hp (3 : Int) (bs (MT hp).1 s5 s6)) ∨ (s8 = -1 ∧ ¬ nmM hp (3 : Int) (bs (MT hp).1 s5 s6)) := fcX (ys := [3, s5, s6, s8]) (hFc _ (.tail _ (.head _))) ⟨sE_k _ _, sE_V rfl, sE_V rfl, sE_V rfl, trivial⟩
  have ec : s1 = 3 := by omega
  exact poX (.head _) rfl hR (all_nil) (all_nil) (all_cons ⟨[3, s5], ⟨sE_k _ _, sE_V rfl, trivial⟩, (show SRS (MT hp) (nmM hp) (3 : Int) s5 from sn_f3 f0 (by unfold sNc; omega) (by omega) (by omega) (by rw [ec]; exact fds_0 f1 (by omega)))⟩ (all_nil))
theorem rl961 : ruOk fFS gR961 := by
  intro r hp hO hN hH
  obtain ⟨s0, s1, s2, s3, rfl⟩ := len4 (show r.length = 4 from hN.1)
  have hR := hN.2.1.1
  have hIv : ∀ q ∈ ([(0, .ofNat 0, .ofNat 45), (1, .ofNat 4, .ofNat 4), (2, .ofNat 0, .ofNat 2), (3, .ofNat 0, .ofNat 19)] : sIv), ∃ x, ([s0, s1, s2, s3] : List Int)[q.1]? = some x ∧ q.2.1 ≤ x ∧ x ≤ q.2.2 := hN.2.1.2
  have b0 : (0 : Int) ≤ s0 ∧ s0 ≤ (45 : Int) := ivX (q := (0, .ofNat 0, .ofNat 45)) (y := s0) (hIv _ (.head _)) rfl
  have b1 : (4 : Int) ≤ s1 ∧ s1 ≤ (4 : Int) := ivX (q := (1, .ofNat 4, .ofNat 4)) (y := s1) (hIv _ (.tail _ (.head _))) rfl
  have b2 : (0 : Int) ≤ s2 ∧ s2 ≤ (2 : Int) := ivX (q := (2, .ofNat 0, .ofNat 2)) (y := s2) (hIv _ (.tail _ (.tail _ (.head _)))) rfl
  have b3 : (0 : Int) ≤ s3 ∧ s3 ≤ (19 : Int) := ivX (q := (3, .ofNat 0, .ofNat 19)) (y := s3) (hIv _ (.tail _ (.tail _ (.tail _ (.head _))))) rfl
  have hRf : ∀ q ∈ ([((78, .ofNat 273, []), (.ofNat 48, []), 1, .ofNat 0, [(.ofNat 1, 0)]), ((82, .ofNat 277, []), (.ofNat 0, [(.ofNat 3, 0)]), 1, .ofNat 0, [(.ofNat 1, 1)]), ((82, .ofNat 277, []), (.ofNat 2, [(.ofNat 3, 0)]), 1, .ofNat 0, [(.ofNat 1, 2)])] : List sRf), rfOk [s0, s1, s2, s3] hp q := hH.1
  have h0 : hI hp 273 48 = s0 := rfI0 (hRf _ (.head _)) (sE_k _ _) (sE_k _ _) (sE_V rfl)
  have y0 : (0 : Int) ≤ s0 ∧ s0 ≤ (53 : Int) := by rw [← h0]; exact hI_ty hO (by decide) rfl
  obtain ⟨i1, e1, l1, h1⟩ := rfI (xv := s1) (iv := (3 * s0)) (hRf _ (.tail _ (.head _))) (sE_k _ _) (sEv (y' := ((0 : Int) + ((3 : Int) * s0 + 0))) rfl (by omega)) (sE_V rfl)
  have l1 : i1 < 160 := l1
  have h1 : hI hp 277 i1 = s1 := h1
  obtain ⟨i2, e2, l2, h2⟩ := rfI (xv := s2) (iv := (3 * s0 + 2)) (hRf _ (.tail _ (.tail _ (.head _)))) (sE_k _ _) (sEv (y' := ((2 : Int) + ((3 : Int) * s0 + 0))) rfl (by omega)) (sE_V rfl)
  have l2 : i2 < 160 := l2
  have h2 : hI hp 277 i2 = s2 := h2
  have hFc : ∀ q ∈ ([(14, [(.ofNat 0, [(.ofNat 1, 0)]), (.ofNat 0, [(.ofNat 1, 3)])])] : List sFc), fcOk fFS [s0, s1, s2, s3] hp q := hH.2
  have f0 : fCode s0 s3 hp := fcX (ys := [s0, s3]) (hFc _ (.head _)) ⟨sE_V rfl, sE_V rfl, trivial⟩
  exact poX (.head _) rfl hR (all_nil) (all_nil) (all_cons ⟨[(s0 + 1), (s3 + 1)], ⟨sEv (y' := ((1 : Int) + ((1 : Int) * s0 + 0))) rfl (by omega), sEv (y' := ((1 : Int) + ((1 : Int) * s3 + 0))) rfl (by omega), trivial⟩, (show fCode (s0 + 1) (s3 + 1) hp from code_add f0 h1 h2 (by omega) (by omega) (by omega) (by unfold stC; omega) (by omega))⟩ (all_nil))
theorem rl962 : ruOk fFS gR962 := by
  intro r hp hO hN hH
  obtain ⟨s0, s1, s2, s3, s4, s5, s6, s7, s8, rfl⟩ := len9 (show r.length = 9 from hN.1)
  have hR := hN.2.1.1
  have hIv : ∀ q ∈ ([(0, .negSucc 2147483647, .ofNat 2147483647), (1, .ofNat 1, .ofNat 1), (2, .negSucc 2147483647, .ofNat 2147483647), (3, .ofNat 0, .ofNat 6560), (4, .ofNat 1, .ofNat 1), (5, .negSucc 2147483647, .ofNat 2147483647), (6, .negSucc 2147483647, .ofNat 2147483647), (7, .negSucc 0, .negSucc 0), (8, .ofNat 0, .ofNat 4)] : sIv), ∃ x, ([s0, s1, s2, s3, s4, s5, s6, s7, s8] : List Int)[q.1]? = some x ∧ q.2.1 ≤ x ∧ x ≤ q.2.2 := hN.2.1.2
  have b1 : (1 : Int) ≤ s1 ∧ s1 ≤ (1 : Int) := ivX (q := (1, .ofNat 1, .ofNat 1)) (y := s1) (hIv _ (.tail _ (.head _))) rfl
  have b3 : (0 : Int) ≤ s3 ∧ s3 ≤ (6560 : Int) := ivX (q := (3, .ofNat 0, .ofNat 6560)) (y := s3) (hIv _ (.tail _ (.tail _ (.tail _ (.head _))))) rfl
  have b4 : (1 : Int) ≤ s4 ∧ s4 ≤ (1 : Int) := ivX (q := (4, .ofNat 1, .ofNat 1)) (y := s4) (hIv _ (.tail _ (.tail _ (.tail _ (.tail _ (.head _)))))) rfl
  have b7 : (-1 : Int) ≤ s7 ∧ s7 ≤ (-1 : Int) := ivX (q := (7, .negSucc 0, .negSucc 0)) (y := s7) (hIv _ (.tail _ (.tail _ (.tail _ (.tail _ (.tail _ (.tail _ (.tail _ (.head _))))))))) rfl
  have b8 : (0 : Int) ≤ s8 ∧ s8 ≤ (4 : Int) := ivX (q := (8, .ofNat 0, .ofNat 4)) (y := s8) (hIv _ (.tail _ (.tail _ (.tail _ (.tail _ (.tail _ (.tail _ (.tail _ (.tail _ (.head _)))))))))) rfl
  have hFc : ∀ q ∈ ([(207, [(.ofNat 0, [(.ofNat 1, 0)]), (.ofNat 0, [(.ofNat 1, 1)]), (.ofNat 0, [(.ofNat 1, 2)]), (.ofNat 0, [(.ofNat 1, 3)]), (.ofNat 0, [(.ofNat 1, 4)]), (.ofNat 0, [(.ofNat 1, 5)]), (.ofNat 0, [(.ofNat 1, 6)]), (.ofNat 0, [(.ofNat 1, 7)])]), (211, [(.ofNat 1, []), (.ofNat 0, [(.ofNat 1, 5)]), (.ofNat 0, [(.ofNat 1, 6)]), (.ofNat 0, [(.ofNat 1, 8)])])] : List sFc), fcOk fFS [s0, s1, s2, s3, s4, s5, s6, s7, s8] hp q := hH.2
  have f0 : SHq (MT hp) (nmM hp) s0 s1 s2 s3 s4 s5 s6 s7 := fcX (ys := [s0, s1, s2, s3, s4, s5, s6, s7]) (hFc _ (.head _)) ⟨sE_V rfl, sE_V rfl, sE_V rfl, sE_V rfl, sE_V rfl, sE_V rfl, sE_V rfl, sE_V rfl, trivial⟩
  have f1 : (0 ≤ s8 ∧ nmM hp (1 : Int) (bs (MT hp).1 s5 s6)) ∨ (s8 = -1 ∧ ¬ nmM hp (1 : Int) (bs (MT hp).1 s5 s6)) := fcX (ys := [1, s5, s6, s8]) (hFc _ (.tail _ (.head _))) ⟨sE_k _ _, sE_V rfl, sE_V rfl, sE_V rfl, trivial⟩
  obtain ⟨s9, ev⟩ : ∃ y : Int, y = nr s3 := ⟨_, rfl⟩
  have u := nr_b (t := s3) (by omega)
  rw [← ev] at u
  have ec : s1 = 1 := by omega
  exact poXu (u := [s9]) (.head _) rfl hR (by rw [wMn_eq, wMx_eq]; intro x hx; simp only [List.mem_cons, List.not_mem_nil, or_false] at hx; omega) (all_cons (ivO (y := s9) rfl (show (0 : Int) ≤ s9 by omega) (show s9 ≤ (6560 : Int) by omega)) (all_nil)) (all_nil) (all_cons ⟨[s6, 6, s2, s9], ⟨sE_V rfl, sE_k _ _, sE_V rfl, sE_V rfl, trivial⟩, (show SG (MT hp) (nmM hp) s6 (6 : Int) s2 s9 from sg_u ev (sn_go f0 (by unfold sNc; omega) (by omega) (by omega) (by rw [ec]; exact fds_y f1 (by omega))))⟩ (all_cons ⟨[s3, s9], ⟨sE_V rfl, sE_V rfl, trivial⟩, (show s9 = nr s3 from ev)⟩ (all_nil)))
theorem rl963 : ruOk fFS gR963 := by
  intro r hp hO hN hH
  obtain ⟨s0, s1, s2, s3, s4, s5, s6, s7, s8, rfl⟩ := len9 (show r.length = 9 from hN.1)
  have hR := hN.2.1.1
  have hIv : ∀ q ∈ ([(0, .negSucc 2147483647, .ofNat 2147483647), (1, .ofNat 2, .ofNat 2), (2, .negSucc 2147483647, .ofNat 2147483647), (3, .ofNat 0, .ofNat 6560), (4, .ofNat 1, .ofNat 1), (5, .negSucc 2147483647, .ofNat 2147483647), (6, .negSucc 2147483647, .ofNat 2147483647), (7, .negSucc 0, .negSucc 0), (8, .ofNat 0, .ofNat 4)] : sIv), ∃ x, ([s0, s1, s2, s3, s4, s5, s6, s7, s8] : List Int)[q.1]? = some x ∧ q.2.1 ≤ x ∧ x ≤ q.2.2 := hN.2.1.2
  have b1 : (2 : Int) ≤ s1 ∧ s1 ≤ (2 : Int) := ivX (q := (1, .ofNat 2, .ofNat 2)) (y := s1) (hIv _ (.tail _ (.head _))) rfl
  have b3 : (0 : Int) ≤ s3 ∧ s3 ≤ (6560 : Int) := ivX (q := (3, .ofNat 0, .ofNat 6560)) (y := s3) (hIv _ (.tail _ (.tail _ (.tail _ (.head _))))) rfl
  have b4 : (1 : Int) ≤ s4 ∧ s4 ≤ (1 : Int) := ivX (q := (4, .ofNat 1, .ofNat 1)) (y := s4) (hIv _ (.tail _ (.tail _ (.tail _ (.tail _ (.head _)))))) rfl
  have b7 : (-1 : Int) ≤ s7 ∧ s7 ≤ (-1 : Int) := ivX (q := (7, .negSucc 0, .negSucc 0)) (y := s7) (hIv _ (.tail _ (.tail _ (.tail _ (.tail _ (.tail _ (.tail _ (.tail _ (.head _))))))))) rfl
  have b8 : (0 : Int) ≤ s8 ∧ s8 ≤ (4 : Int) := ivX (q := (8, .ofNat 0, .ofNat 4)) (y := s8) (hIv _ (.tail _ (.tail _ (.tail _ (.tail _ (.tail _ (.tail _ (.tail _ (.tail _ (.head _)))))))))) rfl
  have hFc : ∀ q ∈ ([(207, [(.ofNat 0, [(.ofNat 1, 0)]), (.ofNat 0, [(.ofNat 1, 1)]), (.ofNat 0, [(.ofNat 1, 2)]), (.ofNat 0, [(.ofNat 1, 3)]), (.ofNat 0, [(.ofNat 1, 4)]), (.ofNat 0, [(.ofNat 1, 5)]), (.ofNat 0, [(.ofNat 1, 6)]), (.ofNat 0, [(.ofNat 1, 7)])]), (211, [(.ofNat 2, []), (.ofNat 0, [(.ofNat 1, 5)]), (.ofNat 0, [(.ofNat 1, 6)]), (.ofNat 0, [(.ofNat 1, 8)])])] : List sFc), fcOk fFS [s0, s1, s2, s3, s4, s5, s6, s7, s8] hp q := hH.2
  have f0 : SHq (MT hp) (nmM hp) s0 s1 s2 s3 s4 s5 s6 s7 := fcX (ys := [s0, s1, s2, s3, s4, s5, s6, s7]) (hFc _ (.head _)) ⟨sE_V rfl, sE_V rfl, sE_V rfl, sE_V rfl, sE_V rfl, sE_V rfl, sE_V rfl, sE_V rfl, trivial⟩
  have f1 : (0 ≤ s8 ∧ nmM hp (2 : Int) (bs (MT hp).1 s5 s6)) ∨ (s8 = -1 ∧ ¬ nmM hp (2 : Int) (bs (MT hp).1 s5 s6)) := fcX (ys := [2, s5, s6, s8]) (hFc _ (.tail _ (.head _))) ⟨sE_k _ _, sE_V rfl, sE_V rfl, sE_V rfl, trivial⟩
  obtain ⟨s9, ev⟩ : ∃ y : Int, y = nr s3 := ⟨_, rfl⟩
  have u := nr_b (t := s3) (by omega)
  rw [← ev] at u
  have ec : s1 = 2 := by omega
  exact poXu (u := [s9]) (.head _) rfl hR (by rw [wMn_eq, wMx_eq]; intro x hx; simp only [List.mem_cons, List.not_mem_nil, or_false] at hx; omega) (all_cons (ivO (y := s9) rfl (show (0 : Int) ≤ s9 by omega) (show s9 ≤ (6560 : Int) by omega)) (all_nil)) (all_nil) (all_cons ⟨[s6, 6, s2, s9], ⟨sE_V rfl, sE_k _ _, sE_V rfl, sE_V rfl, trivial⟩, (show SG (MT hp) (nmM hp) s6 (6 : Int) s2 s9 from sg_u ev (sn_go f0 (by unfold sNc; omega) (by omega) (by omega) (by rw [ec]; exact fds_y f1 (by omega))))⟩ (all_cons ⟨[s3, s9], ⟨sE_V rfl, sE_V rfl, trivial⟩, (show s9 = nr s3 from ev)⟩ (all_nil)))
theorem rl964 : ruOk fFS gR964 := by
  intro r hp hO hN hH
  obtain ⟨s0, s1, s2, s3, s4, s5, s6, s7, s8, rfl⟩ := len9 (show r.length = 9 from hN.1)
  have hR := hN.2.1.1
  have hIv : ∀ q ∈ ([(0, .negSucc 2147483647, .ofNat 2147483647), (1, .ofNat 3, .ofNat 3), (2, .negSucc 2147483647, .ofNat 2147483647), (3, .ofNat 0, .ofNat 6560), (4, .ofNat 1, .ofNat 1), (5, .negSucc 2147483647, .ofNat 2147483647), (6, .negSucc 2147483647, .ofNat 2147483647), (7, .negSucc 0, .negSucc 0), (8, .ofNat 0, .ofNat 4)] : sIv), ∃ x, ([s0, s1, s2, s3, s4, s5, s6, s7, s8] : List Int)[q.1]? = some x ∧ q.2.1 ≤ x ∧ x ≤ q.2.2 := hN.2.1.2
  have b1 : (3 : Int) ≤ s1 ∧ s1 ≤ (3 : Int) := ivX (q := (1, .ofNat 3, .ofNat 3)) (y := s1) (hIv _ (.tail _ (.head _))) rfl
  have b3 : (0 : Int) ≤ s3 ∧ s3 ≤ (6560 : Int) := ivX (q := (3, .ofNat 0, .ofNat 6560)) (y := s3) (hIv _ (.tail _ (.tail _ (.tail _ (.head _))))) rfl
  have b4 : (1 : Int) ≤ s4 ∧ s4 ≤ (1 : Int) := ivX (q := (4, .ofNat 1, .ofNat 1)) (y := s4) (hIv _ (.tail _ (.tail _ (.tail _ (.tail _ (.head _)))))) rfl
  have b7 : (-1 : Int) ≤ s7 ∧ s7 ≤ (-1 : Int) := ivX (q := (7, .negSucc 0, .negSucc 0)) (y := s7) (hIv _ (.tail _ (.tail _ (.tail _ (.tail _ (.tail _ (.tail _ (.tail _ (.head _))))))))) rfl
  have b8 : (0 : Int) ≤ s8 ∧ s8 ≤ (4 : Int) := ivX (q := (8, .ofNat 0, .ofNat 4)) (y := s8) (hIv _ (.tail _ (.tail _ (.tail _ (.tail _ (.tail _ (.tail _ (.tail _ (.tail _ (.head _)))))))))) rfl
  have hFc : ∀ q ∈ ([(207, [(.ofNat 0, [(.ofNat 1, 0)]), (.ofNat 0, [(.ofNat 1, 1)]), (.ofNat 0, [(.ofNat 1, 2)]), (.ofNat 0, [(.ofNat 1, 3)]), (.ofNat 0, [(.ofNat 1, 4)]), (.ofNat 0, [(.ofNat 1, 5)]), (.ofNat 0, [(.ofNat 1, 6)]), (.ofNat 0, [(.ofNat 1, 7)])]), (211, [(.ofNat 3, []), (.ofNat 0, [(.ofNat 1, 5)]), (.ofNat 0, [(.ofNat 1, 6)]), (.ofNat 0, [(.ofNat 1, 8)])])] : List sFc), fcOk fFS [s0, s1, s2, s3, s4, s5, s6, s7, s8] hp q := hH.2
  have f0 : SHq (MT hp) (nmM hp) s0 s1 s2 s3 s4 s5 s6 s7 := fcX (ys := [s0, s1, s2, s3, s4, s5, s6, s7]) (hFc _ (.head _)) ⟨sE_V rfl, sE_V rfl, sE_V rfl, sE_V rfl, sE_V rfl, sE_V rfl, sE_V rfl, sE_V rfl, trivial⟩
  have f1 : (0 ≤ s8 ∧ nmM hp (3 : Int) (bs (MT hp).1 s5 s6)) ∨ (s8 = -1 ∧ ¬ nmM hp (3 : Int) (bs (MT hp).1 s5 s6)) := fcX (ys := [3, s5, s6, s8]) (hFc _ (.tail _ (.head _))) ⟨sE_k _ _, sE_V rfl, sE_V rfl, sE_V rfl, trivial⟩
  obtain ⟨s9, ev⟩ : ∃ y : Int, y = nr s3 := ⟨_, rfl⟩
  have u := nr_b (t := s3) (by omega)
  rw [← ev] at u
  have ec : s1 = 3 := by omega
  exact poXu (u := [s9]) (.head _) rfl hR (by rw [wMn_eq, wMx_eq]; intro x hx; simp only [List.mem_cons, List.not_mem_nil, or_false] at hx; omega) (all_cons (ivO (y := s9) rfl (show (0 : Int) ≤ s9 by omega) (show s9 ≤ (6560 : Int) by omega)) (all_nil)) (all_nil) (all_cons ⟨[s6, 6, s2, s9], ⟨sE_V rfl, sE_k _ _, sE_V rfl, sE_V rfl, trivial⟩, (show SG (MT hp) (nmM hp) s6 (6 : Int) s2 s9 from sg_u ev (sn_go f0 (by unfold sNc; omega) (by omega) (by omega) (by rw [ec]; exact fds_y f1 (by omega))))⟩ (all_cons ⟨[s3, s9], ⟨sE_V rfl, sE_V rfl, trivial⟩, (show s9 = nr s3 from ev)⟩ (all_nil)))
theorem rl965 : ruOk fFS gR965 := by
  intro r hp hO hN hH
  obtain ⟨s0, s1, s2, rfl⟩ := len3 (show r.length = 3 from hN.1)
  have hR := hN.2.1.1
  have hIv : ∀ q ∈ ([(0, .ofNat 0, .ofNat 44), (1, .ofNat 20, .ofNat 20), (2, .negSucc 2147483647, .ofNat 2147483647)] : sIv), ∃ x, ([s0, s1, s2] : List Int)[q.1]? = some x ∧ q.2.1 ≤ x ∧ x ≤ q.2.2 := hN.2.1.2
  have b0 : (0 : Int) ≤ s0 ∧ s0 ≤ (44 : Int) := ivX (q := (0, .ofNat 0, .ofNat 44)) (y := s0) (hIv _ (.head _)) rfl
  have b1 : (20 : Int) ≤ s1 ∧ s1 ≤ (20 : Int) := ivX (q := (1, .ofNat 20, .ofNat 20)) (y := s1) (hIv _ (.tail _ (.head _))) rfl
  have hRf : ∀ q ∈ ([((78, .ofNat 273, []), (.ofNat 50, []), 1, .ofNat 0, [(.ofNat 1, 0)]), ((92, .ofNat 287, []), (.ofNat 0, [(.ofNat 1, 0)]), 1, .ofNat 0, [(.ofNat 1, 1)])] : List sRf), rfOk [s0, s1, s2] hp q := hH.1
  have h0 : hI hp 273 50 = s0 := rfI0 (hRf _ (.head _)) (sE_k _ _) (sE_k _ _) (sE_V rfl)
  have y0 : (0 : Int) ≤ s0 ∧ s0 ≤ (45 : Int) := by rw [← h0]; exact hI_ty hO (by decide) rfl
  obtain ⟨i1, e1, l1, h1⟩ := rfI (xv := s1) (iv := s0) (hRf _ (.tail _ (.head _))) (sE_k _ _) (sE_V rfl) (sE_V rfl)
  have l1 : i1 < 45 := l1
  have h1 : hI hp 287 i1 = s1 := h1
  have hFc : ∀ q ∈ ([(15, [(.ofNat 0, [(.ofNat 1, 0)]), (.ofNat 0, [(.ofNat 1, 2)])])] : List sFc), fcOk fFS [s0, s1, s2] hp q := hH.2
  have f0 : fStk s0 s2 hp := fcX (ys := [s0, s2]) (hFc _ (.head _)) ⟨sE_V rfl, sE_V rfl, trivial⟩
  exact poX (.head _) rfl hR (all_nil) (all_nil) (all_cons ⟨[(s0 + 1), s2], ⟨sEv (y' := ((1 : Int) + ((1 : Int) * s0 + 0))) rfl (by omega), sE_V rfl, trivial⟩, (show fStk (s0 + 1) s2 hp from stk_psh f0 h1 (by omega) (by omega) (by omega) (by omega))⟩ (all_nil))
theorem rl966 : ruOk fFS gR966 := by
  intro r hp hO hN hH
  obtain ⟨s0, s1, s2, s3, rfl⟩ := len4 (show r.length = 4 from hN.1)
  have hR := hN.2.1.1
  have hIv : ∀ q ∈ ([(0, .ofNat 0, .ofNat 44), (1, .ofNat 20, .ofNat 20), (2, .ofNat 0, .ofNat 2186), (3, .ofNat 1, .ofNat 8)] : sIv), ∃ x, ([s0, s1, s2, s3] : List Int)[q.1]? = some x ∧ q.2.1 ≤ x ∧ x ≤ q.2.2 := hN.2.1.2
  have b0 : (0 : Int) ≤ s0 ∧ s0 ≤ (44 : Int) := ivX (q := (0, .ofNat 0, .ofNat 44)) (y := s0) (hIv _ (.head _)) rfl
  have b1 : (20 : Int) ≤ s1 ∧ s1 ≤ (20 : Int) := ivX (q := (1, .ofNat 20, .ofNat 20)) (y := s1) (hIv _ (.tail _ (.head _))) rfl
  have b2 : (0 : Int) ≤ s2 ∧ s2 ≤ (2186 : Int) := ivX (q := (2, .ofNat 0, .ofNat 2186)) (y := s2) (hIv _ (.tail _ (.tail _ (.head _)))) rfl
  have b3 : (1 : Int) ≤ s3 ∧ s3 ≤ (8 : Int) := ivX (q := (3, .ofNat 1, .ofNat 8)) (y := s3) (hIv _ (.tail _ (.tail _ (.tail _ (.head _))))) rfl
  have hRf : ∀ q ∈ ([((78, .ofNat 273, []), (.ofNat 50, []), 1, .ofNat 0, [(.ofNat 1, 0)]), ((92, .ofNat 287, []), (.ofNat 0, [(.ofNat 1, 0)]), 1, .ofNat 0, [(.ofNat 1, 1)])] : List sRf), rfOk [s0, s1, s2, s3] hp q := hH.1
  have h0 : hI hp 273 50 = s0 := rfI0 (hRf _ (.head _)) (sE_k _ _) (sE_k _ _) (sE_V rfl)
  have y0 : (0 : Int) ≤ s0 ∧ s0 ≤ (45 : Int) := by rw [← h0]; exact hI_ty hO (by decide) rfl
  obtain ⟨i1, e1, l1, h1⟩ := rfI (xv := s1) (iv := s0) (hRf _ (.tail _ (.head _))) (sE_k _ _) (sE_V rfl) (sE_V rfl)
  have l1 : i1 < 45 := l1
  have h1 : hI hp 287 i1 = s1 := h1
  have hFc : ∀ q ∈ ([(212, [(.ofNat 0, [(.ofNat 1, 0)]), (.ofNat 0, [(.ofNat 1, 2)])]), (199, [(.ofNat 0, [(.ofNat 1, 2)]), (.ofNat 0, [(.ofNat 1, 3)])])] : List sFc), fcOk fFS [s0, s1, s2, s3] hp q := hH.2
  have f0 : ∃ n : Nat, s0 = (n : Int) ∧ n ≤ 45 ∧ sFo (fun j => hI hp 287 j) n s2 := fcX (ys := [s0, s2]) (hFc _ (.head _)) ⟨sE_V rfl, sE_V rfl, trivial⟩
  have f1 : s3 = dp s2 + 1 := fcX (ys := [s2, s3]) (hFc _ (.tail _ (.head _))) ⟨sE_V rfl, sE_V rfl, trivial⟩
  exact poX (.head _) rfl hR (all_nil) (all_nil) (all_cons ⟨[(s0 + 1), (3 * s2 + 1)], ⟨sEv (y' := ((1 : Int) + ((1 : Int) * s0 + 0))) rfl (by omega), sEv (y' := ((1 : Int) + ((3 : Int) * s2 + 0))) rfl (by omega), trivial⟩, (show ∃ n : Nat, (s0 + 1) = (n : Int) ∧ n ≤ 45 ∧ sFo (fun j => hI hp 287 j) n (3 * s2 + 1) from stm_psh f0 h1 (by omega) (by omega) (by omega) rfl)⟩ (all_cons ⟨[(3 * s2 + 1), (s3 + 1)], ⟨sEv (y' := ((1 : Int) + ((3 : Int) * s2 + 0))) rfl (by omega), sEv (y' := ((1 : Int) + ((1 : Int) * s3 + 0))) rfl (by omega), trivial⟩, (show (s3 + 1) = dp (3 * s2 + 1) + 1 from dp_31 (by omega) (by omega) f1 rfl rfl)⟩ (all_nil)))
theorem rl967 : ruOk fFS gR967 := by
  intro r hp hO hN hH
  obtain ⟨s0, s1, s2, rfl⟩ := len3 (show r.length = 3 from hN.1)
  have hR := hN.2.1.1
  have hIv : ∀ q ∈ ([(0, .ofNat 0, .ofNat 44), (1, .ofNat 23, .ofNat 23), (2, .negSucc 2147483647, .ofNat 2147483647)] : sIv), ∃ x, ([s0, s1, s2] : List Int)[q.1]? = some x ∧ q.2.1 ≤ x ∧ x ≤ q.2.2 := hN.2.1.2
  have b0 : (0 : Int) ≤ s0 ∧ s0 ≤ (44 : Int) := ivX (q := (0, .ofNat 0, .ofNat 44)) (y := s0) (hIv _ (.head _)) rfl
  have b1 : (23 : Int) ≤ s1 ∧ s1 ≤ (23 : Int) := ivX (q := (1, .ofNat 23, .ofNat 23)) (y := s1) (hIv _ (.tail _ (.head _))) rfl
  have hRf : ∀ q ∈ ([((78, .ofNat 273, []), (.ofNat 50, []), 1, .ofNat 0, [(.ofNat 1, 0)]), ((92, .ofNat 287, []), (.ofNat 0, [(.ofNat 1, 0)]), 1, .ofNat 0, [(.ofNat 1, 1)])] : List sRf), rfOk [s0, s1, s2] hp q := hH.1
  have h0 : hI hp 273 50 = s0 := rfI0 (hRf _ (.head _)) (sE_k _ _) (sE_k _ _) (sE_V rfl)
  have y0 : (0 : Int) ≤ s0 ∧ s0 ≤ (45 : Int) := by rw [← h0]; exact hI_ty hO (by decide) rfl
  obtain ⟨i1, e1, l1, h1⟩ := rfI (xv := s1) (iv := s0) (hRf _ (.tail _ (.head _))) (sE_k _ _) (sE_V rfl) (sE_V rfl)
  have l1 : i1 < 45 := l1
  have h1 : hI hp 287 i1 = s1 := h1
  have hFc : ∀ q ∈ ([(15, [(.ofNat 0, [(.ofNat 1, 0)]), (.ofNat 0, [(.ofNat 1, 2)])])] : List sFc), fcOk fFS [s0, s1, s2] hp q := hH.2
  have f0 : fStk s0 s2 hp := fcX (ys := [s0, s2]) (hFc _ (.head _)) ⟨sE_V rfl, sE_V rfl, trivial⟩
  exact poX (.head _) rfl hR (all_nil) (all_nil) (all_cons ⟨[(s0 + 1), s2], ⟨sEv (y' := ((1 : Int) + ((1 : Int) * s0 + 0))) rfl (by omega), sE_V rfl, trivial⟩, (show fStk (s0 + 1) s2 hp from stk_psh f0 h1 (by omega) (by omega) (by omega) (by omega))⟩ (all_nil))
theorem rl968 : ruOk fFS gR968 := by
  intro r hp hO hN hH
  obtain ⟨s0, s1, s2, s3, rfl⟩ := len4 (show r.length = 4 from hN.1)
  have hR := hN.2.1.1
  have hIv : ∀ q ∈ ([(0, .ofNat 0, .ofNat 44), (1, .ofNat 23, .ofNat 23), (2, .ofNat 0, .ofNat 2186), (3, .ofNat 1, .ofNat 8)] : sIv), ∃ x, ([s0, s1, s2, s3] : List Int)[q.1]? = some x ∧ q.2.1 ≤ x ∧ x ≤ q.2.2 := hN.2.1.2
  have b0 : (0 : Int) ≤ s0 ∧ s0 ≤ (44 : Int) := ivX (q := (0, .ofNat 0, .ofNat 44)) (y := s0) (hIv _ (.head _)) rfl
  have b1 : (23 : Int) ≤ s1 ∧ s1 ≤ (23 : Int) := ivX (q := (1, .ofNat 23, .ofNat 23)) (y := s1) (hIv _ (.tail _ (.head _))) rfl
  have b2 : (0 : Int) ≤ s2 ∧ s2 ≤ (2186 : Int) := ivX (q := (2, .ofNat 0, .ofNat 2186)) (y := s2) (hIv _ (.tail _ (.tail _ (.head _)))) rfl
  have b3 : (1 : Int) ≤ s3 ∧ s3 ≤ (8 : Int) := ivX (q := (3, .ofNat 1, .ofNat 8)) (y := s3) (hIv _ (.tail _ (.tail _ (.tail _ (.head _))))) rfl
  have hRf : ∀ q ∈ ([((78, .ofNat 273, []), (.ofNat 50, []), 1, .ofNat 0, [(.ofNat 1, 0)]), ((92, .ofNat 287, []), (.ofNat 0, [(.ofNat 1, 0)]), 1, .ofNat 0, [(.ofNat 1, 1)])] : List sRf), rfOk [s0, s1, s2, s3] hp q := hH.1
  have h0 : hI hp 273 50 = s0 := rfI0 (hRf _ (.head _)) (sE_k _ _) (sE_k _ _) (sE_V rfl)
  have y0 : (0 : Int) ≤ s0 ∧ s0 ≤ (45 : Int) := by rw [← h0]; exact hI_ty hO (by decide) rfl
  obtain ⟨i1, e1, l1, h1⟩ := rfI (xv := s1) (iv := s0) (hRf _ (.tail _ (.head _))) (sE_k _ _) (sE_V rfl) (sE_V rfl)
  have l1 : i1 < 45 := l1
  have h1 : hI hp 287 i1 = s1 := h1
  have hFc : ∀ q ∈ ([(212, [(.ofNat 0, [(.ofNat 1, 0)]), (.ofNat 0, [(.ofNat 1, 2)])]), (199, [(.ofNat 0, [(.ofNat 1, 2)]), (.ofNat 0, [(.ofNat 1, 3)])])] : List sFc), fcOk fFS [s0, s1, s2, s3] hp q := hH.2
  have f0 : ∃ n : Nat, s0 = (n : Int) ∧ n ≤ 45 ∧ sFo (fun j => hI hp 287 j) n s2 := fcX (ys := [s0, s2]) (hFc _ (.head _)) ⟨sE_V rfl, sE_V rfl, trivial⟩
  have f1 : s3 = dp s2 + 1 := fcX (ys := [s2, s3]) (hFc _ (.tail _ (.head _))) ⟨sE_V rfl, sE_V rfl, trivial⟩
  exact poX (.head _) rfl hR (all_nil) (all_nil) (all_cons ⟨[(s0 + 1), (3 * s2 + 2)], ⟨sEv (y' := ((1 : Int) + ((1 : Int) * s0 + 0))) rfl (by omega), sEv (y' := ((2 : Int) + ((3 : Int) * s2 + 0))) rfl (by omega), trivial⟩, (show ∃ n : Nat, (s0 + 1) = (n : Int) ∧ n ≤ 45 ∧ sFo (fun j => hI hp 287 j) n (3 * s2 + 2) from stm_psh f0 h1 (by omega) (by omega) (by omega) rfl)⟩ (all_cons ⟨[(3 * s2 + 2), (s3 + 1)], ⟨sEv (y' := ((2 : Int) + ((3 : Int) * s2 + 0))) rfl (by omega), sEv (y' := ((1 : Int) + ((1 : Int) * s3 + 0))) rfl (by omega), trivial⟩, (show (s3 + 1) = dp (3 * s2 + 2) + 1 from dp_32 (by omega) (by omega) f1 rfl rfl)⟩ (all_nil)))
theorem rl969 : ruOk fFS gR969 := by
  intro r hp hO hN hH
  obtain ⟨s0, s1, s2, s3, s4, s5, s6, s7, rfl⟩ := len8 (show r.length = 8 from hN.1)
  have hR := hN.2.1.1
  have hIv : ∀ q ∈ ([(0, .negSucc 2147483647, .ofNat 2147483647), (1, .negSucc 2147483647, .ofNat 2147483647), (2, .negSucc 2147483647, .ofNat 2147483647), (3, .negSucc 2147483647, .ofNat 2147483647), (4, .ofNat 1, .ofNat 1), (5, .negSucc 2147483647, .ofNat 2147483647), (6, .negSucc 2147483647, .ofNat 2147483647), (7, .negSucc 0, .ofNat 29)] : sIv), ∃ x, ([s0, s1, s2, s3, s4, s5, s6, s7] : List Int)[q.1]? = some x ∧ q.2.1 ≤ x ∧ x ≤ q.2.2 := hN.2.1.2
  have b4 : (1 : Int) ≤ s4 ∧ s4 ≤ (1 : Int) := ivX (q := (4, .ofNat 1, .ofNat 1)) (y := s4) (hIv _ (.tail _ (.tail _ (.tail _ (.tail _ (.head _)))))) rfl
  have b7 : (-1 : Int) ≤ s7 ∧ s7 ≤ (29 : Int) := ivX (q := (7, .negSucc 0, .ofNat 29)) (y := s7) (hIv _ (.tail _ (.tail _ (.tail _ (.tail _ (.tail _ (.tail _ (.tail _ (.head _))))))))) rfl
  have hFc : ∀ q ∈ ([(207, [(.ofNat 0, [(.ofNat 1, 0)]), (.ofNat 0, [(.ofNat 1, 1)]), (.ofNat 0, [(.ofNat 1, 2)]), (.ofNat 0, [(.ofNat 1, 3)]), (.ofNat 0, [(.ofNat 1, 4)]), (.ofNat 0, [(.ofNat 1, 5)]), (.ofNat 0, [(.ofNat 1, 6)]), (.ofNat 0, [(.ofNat 1, 7)])])] : List sFc), fcOk fFS [s0, s1, s2, s3, s4, s5, s6, s7] hp q := hH.2
  have f0 : SHq (MT hp) (nmM hp) s0 s1 s2 s3 s4 s5 s6 s7 := fcX (ys := [s0, s1, s2, s3, s4, s5, s6, s7]) (hFc _ (.head _)) ⟨sE_V rfl, sE_V rfl, sE_V rfl, sE_V rfl, sE_V rfl, sE_V rfl, sE_V rfl, sE_V rfl, trivial⟩
  have u := sh_bd (MT_ok hO) f0
  have u3 := sh_k1 (MT_ok hO) f0 (by omega)
  have y : (((-1 : Int) ≤ s7 ∧ s7 ≤ (18 : Int))) ∨ (((19 : Int) ≤ s7 ∧ s7 ≤ (19 : Int))) ∨ (((20 : Int) ≤ s7 ∧ s7 ≤ (20 : Int))) ∨ (((21 : Int) ≤ s7 ∧ s7 ≤ (29 : Int))) := by omega
  rcases y with y | y | y | y
  · exact poX (.head _) rfl hR (all_cons (ivO (y := s7) rfl (show (-1 : Int) ≤ s7 by omega) (show s7 ≤ (18 : Int) by omega)) (all_nil)) (all_nil) (all_nil)
  · exact poX (.tail _ (.head _)) rfl hR (all_cons (ivO (y := s7) rfl (show (19 : Int) ≤ s7 by omega) (show s7 ≤ (19 : Int) by omega)) (all_nil)) (all_nil) (all_nil)
  · exact poX (.tail _ (.tail _ (.head _))) rfl hR (all_cons (ivO (y := s7) rfl (show (20 : Int) ≤ s7 by omega) (show s7 ≤ (20 : Int) by omega)) (all_nil)) (all_nil) (all_nil)
  · exact poX (.tail _ (.tail _ (.tail _ (.head _)))) rfl hR (all_cons (ivO (y := s7) rfl (show (21 : Int) ≤ s7 by omega) (show s7 ≤ (29 : Int) by omega)) (all_nil)) (all_nil) (all_nil)
theorem rl970 : ruOk fFS gR970 := by
  intro r hp hO hN hH
  obtain ⟨s0, s1, s2, s3, s4, s5, s6, s7, rfl⟩ := len8 (show r.length = 8 from hN.1)
  have hR := hN.2.1.1
  have hIv : ∀ q ∈ ([(0, .negSucc 2147483647, .ofNat 2147483647), (1, .negSucc 2147483647, .ofNat 2147483647), (2, .negSucc 2147483647, .ofNat 2147483647), (3, .negSucc 2147483647, .ofNat 2147483647), (4, .ofNat 3, .ofNat 3), (5, .negSucc 2147483647, .ofNat 2147483647), (6, .negSucc 2147483647, .ofNat 2147483647), (7, .negSucc 2147483647, .ofNat 2147483647)] : sIv), ∃ x, ([s0, s1, s2, s3, s4, s5, s6, s7] : List Int)[q.1]? = some x ∧ q.2.1 ≤ x ∧ x ≤ q.2.2 := hN.2.1.2
  have b4 : (3 : Int) ≤ s4 ∧ s4 ≤ (3 : Int) := ivX (q := (4, .ofNat 3, .ofNat 3)) (y := s4) (hIv _ (.tail _ (.tail _ (.tail _ (.tail _ (.head _)))))) rfl
  have b7 : (-2147483648 : Int) ≤ s7 ∧ s7 ≤ (2147483647 : Int) := ivX (q := (7, .negSucc 2147483647, .ofNat 2147483647)) (y := s7) (hIv _ (.tail _ (.tail _ (.tail _ (.tail _ (.tail _ (.tail _ (.tail _ (.head _))))))))) rfl
  have hFc : ∀ q ∈ ([(207, [(.ofNat 0, [(.ofNat 1, 0)]), (.ofNat 0, [(.ofNat 1, 1)]), (.ofNat 0, [(.ofNat 1, 2)]), (.ofNat 0, [(.ofNat 1, 3)]), (.ofNat 0, [(.ofNat 1, 4)]), (.ofNat 0, [(.ofNat 1, 5)]), (.ofNat 0, [(.ofNat 1, 6)]), (.ofNat 0, [(.ofNat 1, 7)])])] : List sFc), fcOk fFS [s0, s1, s2, s3, s4, s5, s6, s7] hp q := hH.2
  have f0 : SHq (MT hp) (nmM hp) s0 s1 s2 s3 s4 s5 s6 s7 := fcX (ys := [s0, s1, s2, s3, s4, s5, s6, s7]) (hFc _ (.head _)) ⟨sE_V rfl, sE_V rfl, sE_V rfl, sE_V rfl, sE_V rfl, sE_V rfl, sE_V rfl, sE_V rfl, trivial⟩
  have u := sh_bd (MT_ok hO) f0
  have y : (((-2147483648 : Int) ≤ s7 ∧ s7 ≤ (40 : Int))) ∨ (((41 : Int) ≤ s7 ∧ s7 ≤ (41 : Int))) ∨ (((42 : Int) ≤ s7 ∧ s7 ≤ (2147483647 : Int))) := by omega
  rcases y with y | y | y
  · exact poX (.head _) rfl hR (all_cons (ivO (y := s7) rfl (show (-2147483648 : Int) ≤ s7 by omega) (show s7 ≤ (40 : Int) by omega)) (all_nil)) (all_nil) (all_nil)
  · exact poX (.tail _ (.head _)) rfl hR (all_cons (ivO (y := s7) rfl (show (41 : Int) ≤ s7 by omega) (show s7 ≤ (41 : Int) by omega)) (all_nil)) (all_nil) (all_nil)
  · exact poX (.tail _ (.tail _ (.head _))) rfl hR (all_cons (ivO (y := s7) rfl (show (42 : Int) ≤ s7 by omega) (show s7 ≤ (2147483647 : Int) by omega)) (all_nil)) (all_nil) (all_nil)
theorem rl971 : ruOk fFS gR971 := by
  intro r hp hO hN hH
  obtain ⟨s0, s1, s2, rfl⟩ := len3 (show r.length = 3 from hN.1)
  have hR := hN.2.1.1
  have hIv : ∀ q ∈ ([(0, .negSucc 2147483647, .ofNat 2147483647), (1, .ofNat 0, .ofNat 6560), (2, .negSucc 2147483647, .ofNat 2147483647)] : sIv), ∃ x, ([s0, s1, s2] : List Int)[q.1]? = some x ∧ q.2.1 ≤ x ∧ x ≤ q.2.2 := hN.2.1.2
  have b1 : (0 : Int) ≤ s1 ∧ s1 ≤ (6560 : Int) := ivX (q := (1, .ofNat 0, .ofNat 6560)) (y := s1) (hIv _ (.tail _ (.head _))) rfl
  have b2 : (-2147483648 : Int) ≤ s2 ∧ s2 ≤ (2147483647 : Int) := ivX (q := (2, .negSucc 2147483647, .ofNat 2147483647)) (y := s2) (hIv _ (.tail _ (.tail _ (.head _)))) rfl
  have hFc : ∀ q ∈ ([(212, [(.ofNat 0, [(.ofNat 1, 0)]), (.ofNat 0, [(.ofNat 1, 1)])]), (199, [(.ofNat 0, [(.ofNat 1, 1)]), (.ofNat 0, [(.ofNat 1, 2)])])] : List sFc), fcOk fFS [s0, s1, s2] hp q := hH.2
  have f0 : ∃ n : Nat, s0 = (n : Int) ∧ n ≤ 45 ∧ sFo (fun j => hI hp 287 j) n s1 := fcX (ys := [s0, s1]) (hFc _ (.head _)) ⟨sE_V rfl, sE_V rfl, trivial⟩
  have f1 : s2 = dp s1 + 1 := fcX (ys := [s1, s2]) (hFc _ (.tail _ (.head _))) ⟨sE_V rfl, sE_V rfl, trivial⟩
  have u := dp_8 (t := s1) (by omega)
  have u2 := dp_nn s1
  exact poX (.head _) rfl hR (all_cons (ivO (y := s2) rfl (show (1 : Int) ≤ s2 by omega) (show s2 ≤ (9 : Int) by omega)) (all_nil)) (all_nil) (all_nil)
theorem rl972 : ruOk fFS gR972 := by
  intro r hp hO hN hH
  obtain ⟨s0, s1, rfl⟩ := len2 (show r.length = 2 from hN.1)
  have hR := hN.2.1.1
  have hIv : ∀ q ∈ ([(0, .ofNat 1, .ofNat 45), (1, .negSucc 2147483647, .ofNat 2147483647)] : sIv), ∃ x, ([s0, s1] : List Int)[q.1]? = some x ∧ q.2.1 ≤ x ∧ x ≤ q.2.2 := hN.2.1.2
  have b0 : (1 : Int) ≤ s0 ∧ s0 ≤ (45 : Int) := ivX (q := (0, .ofNat 1, .ofNat 45)) (y := s0) (hIv _ (.head _)) rfl
  have b1 : (-2147483648 : Int) ≤ s1 ∧ s1 ≤ (2147483647 : Int) := ivX (q := (1, .negSucc 2147483647, .ofNat 2147483647)) (y := s1) (hIv _ (.tail _ (.head _))) rfl
  have hRf : ∀ q ∈ ([((78, .ofNat 273, []), (.ofNat 50, []), 1, .ofNat 0, [(.ofNat 1, 0)]), ((92, .ofNat 287, []), (.negSucc 0, [(.ofNat 1, 0)]), 1, .ofNat 0, [(.ofNat 1, 1)])] : List sRf), rfOk [s0, s1] hp q := hH.1
  have h0 : hI hp 273 50 = s0 := rfI0 (hRf _ (.head _)) (sE_k _ _) (sE_k _ _) (sE_V rfl)
  have y0 : (0 : Int) ≤ s0 ∧ s0 ≤ (45 : Int) := by rw [← h0]; exact hI_ty hO (by decide) rfl
  obtain ⟨i1, e1, l1, h1⟩ := rfI (xv := s1) (iv := (s0 - 1)) (hRf _ (.tail _ (.head _))) (sE_k _ _) (sEv (y' := ((-1 : Int) + ((1 : Int) * s0 + 0))) rfl (by omega)) (sE_V rfl)
  have l1 : i1 < 45 := l1
  have h1 : hI hp 287 i1 = s1 := h1
  have y : (((-2147483648 : Int) ≤ s1 ∧ s1 ≤ (19 : Int))) ∨ (((20 : Int) ≤ s1 ∧ s1 ≤ (20 : Int))) ∨ (((21 : Int) ≤ s1 ∧ s1 ≤ (2147483647 : Int))) := by omega
  rcases y with y | y | y
  · exact poX (.head _) rfl hR (all_cons (ivO (y := s1) rfl (show (-2147483648 : Int) ≤ s1 by omega) (show s1 ≤ (19 : Int) by omega)) (all_nil)) (all_nil) (all_nil)
  · exact poX (.tail _ (.head _)) rfl hR (all_cons (ivO (y := s1) rfl (show (20 : Int) ≤ s1 by omega) (show s1 ≤ (20 : Int) by omega)) (all_nil)) (all_nil) (all_nil)
  · exact poX (.tail _ (.tail _ (.head _))) rfl hR (all_cons (ivO (y := s1) rfl (show (21 : Int) ≤ s1 by omega) (show s1 ≤ (2147483647 : Int) by omega)) (all_nil)) (all_nil) (all_nil)
theorem rl973 : ruOk fFS gR973 := by
  intro r hp hO hN hH
  obtain ⟨s0, s1, s2, rfl⟩ := len3 (show r.length = 3 from hN.1)
  have hR := hN.2.1.1
  have hIv : ∀ q ∈ ([(0, .ofNat 0, .ofNat 0), (1, .negSucc 2147483647, .ofNat 2147483647), (2, .negSucc 2147483647, .ofNat 2147483647)] : sIv), ∃ x, ([s0, s1, s2] : List Int)[q.1]? = some x ∧ q.2.1 ≤ x ∧ x ≤ q.2.2 := hN.2.1.2
  have b0 : (0 : Int) ≤ s0 ∧ s0 ≤ (0 : Int) := ivX (q := (0, .ofNat 0, .ofNat 0)) (y := s0) (hIv _ (.head _)) rfl
  have hRf : ∀ q ∈ ([((78, .ofNat 273, []), (.ofNat 50, []), 1, .ofNat 0, [(.ofNat 1, 0)])] : List sRf), rfOk [s0, s1, s2] hp q := hH.1
  have h0 : hI hp 273 50 = s0 := rfI0 (hRf _ (.head _)) (sE_k _ _) (sE_k _ _) (sE_V rfl)
  have y0 : (0 : Int) ≤ s0 ∧ s0 ≤ (45 : Int) := by rw [← h0]; exact hI_ty hO (by decide) rfl
  have hFc : ∀ q ∈ ([(212, [(.ofNat 0, [(.ofNat 1, 0)]), (.ofNat 0, [(.ofNat 1, 1)])]), (200, [(.ofNat 0, [(.ofNat 1, 1)]), (.ofNat 0, [(.ofNat 1, 2)])])] : List sFc), fcOk fFS [s0, s1, s2] hp q := hH.2
  have f0 : ∃ n : Nat, s0 = (n : Int) ∧ n ≤ 45 ∧ sFo (fun j => hI hp 287 j) n s1 := fcX (ys := [s0, s1]) (hFc _ (.head _)) ⟨sE_V rfl, sE_V rfl, trivial⟩
  have f1 : s2 = nr s1 := fcX (ys := [s1, s2]) (hFc _ (.tail _ (.head _))) ⟨sE_V rfl, sE_V rfl, trivial⟩
  have u := stm_z f0 (by omega)
  have un := f1
  rw [u, nr_0] at un
  exact poX (.head _) rfl hR (all_nil) (all_cons ⟨((0 : Int) + ((1 : Int) * s1 + ((-1 : Int) * s2 + 0))), rfl, (show ((0 : Int) + ((1 : Int) * s1 + ((-1 : Int) * s2 + 0))) ≤ 0 by omega)⟩ (all_cons ⟨((0 : Int) + ((-1 : Int) * s1 + ((1 : Int) * s2 + 0))), rfl, (show ((0 : Int) + ((-1 : Int) * s1 + ((1 : Int) * s2 + 0))) ≤ 0 by omega)⟩ (all_nil))) (all_nil)
theorem rl974 : ruOk fFS gR974 := by
  intro r hp hO hN hH
  obtain ⟨s0, s1, s2, s3, rfl⟩ := len4 (show r.length = 4 from hN.1)
  have hR := hN.2.1.1
  have hIv : ∀ q ∈ ([(0, .ofNat 1, .ofNat 45), (1, .negSucc 2147483647, .ofNat 19), (2, .ofNat 0, .ofNat 6560), (3, .negSucc 2147483647, .ofNat 2147483647)] : sIv), ∃ x, ([s0, s1, s2, s3] : List Int)[q.1]? = some x ∧ q.2.1 ≤ x ∧ x ≤ q.2.2 := hN.2.1.2
  have b0 : (1 : Int) ≤ s0 ∧ s0 ≤ (45 : Int) := ivX (q := (0, .ofNat 1, .ofNat 45)) (y := s0) (hIv _ (.head _)) rfl
  have b1 : (-2147483648 : Int) ≤ s1 ∧ s1 ≤ (19 : Int) := ivX (q := (1, .negSucc 2147483647, .ofNat 19)) (y := s1) (hIv _ (.tail _ (.head _))) rfl
  have b2 : (0 : Int) ≤ s2 ∧ s2 ≤ (6560 : Int) := ivX (q := (2, .ofNat 0, .ofNat 6560)) (y := s2) (hIv _ (.tail _ (.tail _ (.head _)))) rfl
  have hRf : ∀ q ∈ ([((78, .ofNat 273, []), (.ofNat 50, []), 1, .ofNat 0, [(.ofNat 1, 0)]), ((92, .ofNat 287, []), (.negSucc 0, [(.ofNat 1, 0)]), 1, .ofNat 0, [(.ofNat 1, 1)])] : List sRf), rfOk [s0, s1, s2, s3] hp q := hH.1
  have h0 : hI hp 273 50 = s0 := rfI0 (hRf _ (.head _)) (sE_k _ _) (sE_k _ _) (sE_V rfl)
  have y0 : (0 : Int) ≤ s0 ∧ s0 ≤ (45 : Int) := by rw [← h0]; exact hI_ty hO (by decide) rfl
  obtain ⟨i1, e1, l1, h1⟩ := rfI (xv := s1) (iv := (s0 - 1)) (hRf _ (.tail _ (.head _))) (sE_k _ _) (sEv (y' := ((-1 : Int) + ((1 : Int) * s0 + 0))) rfl (by omega)) (sE_V rfl)
  have l1 : i1 < 45 := l1
  have h1 : hI hp 287 i1 = s1 := h1
  have hFc : ∀ q ∈ ([(212, [(.ofNat 0, [(.ofNat 1, 0)]), (.ofNat 0, [(.ofNat 1, 2)])]), (200, [(.ofNat 0, [(.ofNat 1, 2)]), (.ofNat 0, [(.ofNat 1, 3)])])] : List sFc), fcOk fFS [s0, s1, s2, s3] hp q := hH.2
  have f0 : ∃ n : Nat, s0 = (n : Int) ∧ n ≤ 45 ∧ sFo (fun j => hI hp 287 j) n s2 := fcX (ys := [s0, s2]) (hFc _ (.head _)) ⟨sE_V rfl, sE_V rfl, trivial⟩
  have f1 : s3 = nr s2 := fcX (ys := [s2, s3]) (hFc _ (.tail _ (.head _))) ⟨sE_V rfl, sE_V rfl, trivial⟩
  have u := stm_n1 f0 h1 (by omega) (by omega)
  have un := f1
  rw [nr_n1 u] at un
  exact poX (.head _) rfl hR (all_nil) (all_cons ⟨((0 : Int) + ((1 : Int) * s2 + ((-1 : Int) * s3 + 0))), rfl, (show ((0 : Int) + ((1 : Int) * s2 + ((-1 : Int) * s3 + 0))) ≤ 0 by omega)⟩ (all_cons ⟨((0 : Int) + ((-1 : Int) * s2 + ((1 : Int) * s3 + 0))), rfl, (show ((0 : Int) + ((-1 : Int) * s2 + ((1 : Int) * s3 + 0))) ≤ 0 by omega)⟩ (all_nil))) (all_nil)
theorem rl975 : ruOk fFS gR975 := by
  intro r hp hO hN hH
  obtain ⟨s0, s1, s2, s3, rfl⟩ := len4 (show r.length = 4 from hN.1)
  have hR := hN.2.1.1
  have hIv : ∀ q ∈ ([(0, .ofNat 1, .ofNat 45), (1, .ofNat 21, .ofNat 2147483647), (2, .ofNat 0, .ofNat 6560), (3, .negSucc 2147483647, .ofNat 2147483647)] : sIv), ∃ x, ([s0, s1, s2, s3] : List Int)[q.1]? = some x ∧ q.2.1 ≤ x ∧ x ≤ q.2.2 := hN.2.1.2
  have b0 : (1 : Int) ≤ s0 ∧ s0 ≤ (45 : Int) := ivX (q := (0, .ofNat 1, .ofNat 45)) (y := s0) (hIv _ (.head _)) rfl
  have b1 : (21 : Int) ≤ s1 ∧ s1 ≤ (2147483647 : Int) := ivX (q := (1, .ofNat 21, .ofNat 2147483647)) (y := s1) (hIv _ (.tail _ (.head _))) rfl
  have b2 : (0 : Int) ≤ s2 ∧ s2 ≤ (6560 : Int) := ivX (q := (2, .ofNat 0, .ofNat 6560)) (y := s2) (hIv _ (.tail _ (.tail _ (.head _)))) rfl
  have hRf : ∀ q ∈ ([((78, .ofNat 273, []), (.ofNat 50, []), 1, .ofNat 0, [(.ofNat 1, 0)]), ((92, .ofNat 287, []), (.negSucc 0, [(.ofNat 1, 0)]), 1, .ofNat 0, [(.ofNat 1, 1)])] : List sRf), rfOk [s0, s1, s2, s3] hp q := hH.1
  have h0 : hI hp 273 50 = s0 := rfI0 (hRf _ (.head _)) (sE_k _ _) (sE_k _ _) (sE_V rfl)
  have y0 : (0 : Int) ≤ s0 ∧ s0 ≤ (45 : Int) := by rw [← h0]; exact hI_ty hO (by decide) rfl
  obtain ⟨i1, e1, l1, h1⟩ := rfI (xv := s1) (iv := (s0 - 1)) (hRf _ (.tail _ (.head _))) (sE_k _ _) (sEv (y' := ((-1 : Int) + ((1 : Int) * s0 + 0))) rfl (by omega)) (sE_V rfl)
  have l1 : i1 < 45 := l1
  have h1 : hI hp 287 i1 = s1 := h1
  have hFc : ∀ q ∈ ([(212, [(.ofNat 0, [(.ofNat 1, 0)]), (.ofNat 0, [(.ofNat 1, 2)])]), (200, [(.ofNat 0, [(.ofNat 1, 2)]), (.ofNat 0, [(.ofNat 1, 3)])])] : List sFc), fcOk fFS [s0, s1, s2, s3] hp q := hH.2
  have f0 : ∃ n : Nat, s0 = (n : Int) ∧ n ≤ 45 ∧ sFo (fun j => hI hp 287 j) n s2 := fcX (ys := [s0, s2]) (hFc _ (.head _)) ⟨sE_V rfl, sE_V rfl, trivial⟩
  have f1 : s3 = nr s2 := fcX (ys := [s2, s3]) (hFc _ (.tail _ (.head _))) ⟨sE_V rfl, sE_V rfl, trivial⟩
  have u := stm_n1 f0 h1 (by omega) (by omega)
  have un := f1
  rw [nr_n1 u] at un
  exact poX (.head _) rfl hR (all_nil) (all_cons ⟨((0 : Int) + ((1 : Int) * s2 + ((-1 : Int) * s3 + 0))), rfl, (show ((0 : Int) + ((1 : Int) * s2 + ((-1 : Int) * s3 + 0))) ≤ 0 by omega)⟩ (all_cons ⟨((0 : Int) + ((-1 : Int) * s2 + ((1 : Int) * s3 + 0))), rfl, (show ((0 : Int) + ((-1 : Int) * s2 + ((1 : Int) * s3 + 0))) ≤ 0 by omega)⟩ (all_nil))) (all_nil)
theorem rl976 : ruOk fFS gR976 := by
  intro r hp hO hN hH
  obtain ⟨s0, s1, s2, s3, rfl⟩ := len4 (show r.length = 4 from hN.1)
  have hR := hN.2.1.1
  have hIv : ∀ q ∈ ([(0, .negSucc 2147483647, .ofNat 2147483647), (1, .negSucc 2147483647, .ofNat 2147483647), (2, .negSucc 2147483647, .ofNat 2147483647), (3, .negSucc 2147483647, .ofNat 2147483647)] : sIv), ∃ x, ([s0, s1, s2, s3] : List Int)[q.1]? = some x ∧ q.2.1 ≤ x ∧ x ≤ q.2.2 := hN.2.1.2
  have hCs : ∀ c ∈ ([(.ofNat 0, [(.ofNat 1, 1), (.negSucc 0, 3)]), (.ofNat 0, [(.negSucc 0, 1), (.ofNat 1, 3)])] : List sLn), ∃ x, sE [s0, s1, s2, s3] c = some x ∧ x ≤ 0 := hN.2.2.1
  have c0 : ((0 : Int) + ((1 : Int) * s1 + ((-1 : Int) * s3 + 0))) ≤ 0 := csX (hCs _ (.head _)) rfl
  have c1 : ((0 : Int) + ((-1 : Int) * s1 + ((1 : Int) * s3 + 0))) ≤ 0 := csX (hCs _ (.tail _ (.head _))) rfl
  have hFc : ∀ q ∈ ([(212, [(.ofNat 0, [(.ofNat 1, 0)]), (.ofNat 0, [(.ofNat 1, 1)])]), (199, [(.ofNat 0, [(.ofNat 1, 1)]), (.ofNat 0, [(.ofNat 1, 2)])]), (200, [(.ofNat 0, [(.ofNat 1, 1)]), (.ofNat 0, [(.ofNat 1, 3)])])] : List sFc), fcOk fFS [s0, s1, s2, s3] hp q := hH.2
  have f0 : ∃ n : Nat, s0 = (n : Int) ∧ n ≤ 45 ∧ sFo (fun j => hI hp 287 j) n s1 := fcX (ys := [s0, s1]) (hFc _ (.head _)) ⟨sE_V rfl, sE_V rfl, trivial⟩
  have f1 : s2 = dp s1 + 1 := fcX (ys := [s1, s2]) (hFc _ (.tail _ (.head _))) ⟨sE_V rfl, sE_V rfl, trivial⟩
  have f2 : s3 = nr s1 := fcX (ys := [s1, s3]) (hFc _ (.tail _ (.tail _ (.head _)))) ⟨sE_V rfl, sE_V rfl, trivial⟩
  have e : s1 = s3 := by omega
  exact poX (.head _) rfl hR (all_nil) (all_nil) (all_cons ⟨[s0, s3], ⟨sE_V rfl, sE_V rfl, trivial⟩, (show ∃ n : Nat, s0 = (n : Int) ∧ n ≤ 45 ∧ sFo (fun j => hI hp 287 j) n s3 from (by rw [← e]; exact f0))⟩ (all_cons ⟨[s3, s2], ⟨sE_V rfl, sE_V rfl, trivial⟩, (show s2 = dp s3 + 1 from (by rw [← e]; exact f1))⟩ (all_nil)))
theorem rl977 : ruOk fFS gR977 := by
  intro r hp hO hN hH
  obtain ⟨s0, s1, s2, rfl⟩ := len3 (show r.length = 3 from hN.1)
  have hR := hN.2.1.1
  have hIv : ∀ q ∈ ([(0, .ofNat 1, .ofNat 45), (1, .ofNat 20, .ofNat 20), (2, .negSucc 2147483647, .ofNat 2147483647)] : sIv), ∃ x, ([s0, s1, s2] : List Int)[q.1]? = some x ∧ q.2.1 ≤ x ∧ x ≤ q.2.2 := hN.2.1.2
  have b0 : (1 : Int) ≤ s0 ∧ s0 ≤ (45 : Int) := ivX (q := (0, .ofNat 1, .ofNat 45)) (y := s0) (hIv _ (.head _)) rfl
  have b1 : (20 : Int) ≤ s1 ∧ s1 ≤ (20 : Int) := ivX (q := (1, .ofNat 20, .ofNat 20)) (y := s1) (hIv _ (.tail _ (.head _))) rfl
  have hRf : ∀ q ∈ ([((78, .ofNat 273, []), (.ofNat 50, []), 1, .ofNat 0, [(.ofNat 1, 0)]), ((92, .ofNat 287, []), (.negSucc 0, [(.ofNat 1, 0)]), 1, .ofNat 0, [(.ofNat 1, 1)])] : List sRf), rfOk [s0, s1, s2] hp q := hH.1
  have h0 : hI hp 273 50 = s0 := rfI0 (hRf _ (.head _)) (sE_k _ _) (sE_k _ _) (sE_V rfl)
  have y0 : (0 : Int) ≤ s0 ∧ s0 ≤ (45 : Int) := by rw [← h0]; exact hI_ty hO (by decide) rfl
  obtain ⟨i1, e1, l1, h1⟩ := rfI (xv := s1) (iv := (s0 - 1)) (hRf _ (.tail _ (.head _))) (sE_k _ _) (sEv (y' := ((-1 : Int) + ((1 : Int) * s0 + 0))) rfl (by omega)) (sE_V rfl)
  have l1 : i1 < 45 := l1
  have h1 : hI hp 287 i1 = s1 := h1
  have hFc : ∀ q ∈ ([(15, [(.ofNat 0, [(.ofNat 1, 0)]), (.ofNat 0, [(.ofNat 1, 2)])])] : List sFc), fcOk fFS [s0, s1, s2] hp q := hH.2
  have f0 : fStk s0 s2 hp := fcX (ys := [s0, s2]) (hFc _ (.head _)) ⟨sE_V rfl, sE_V rfl, trivial⟩
  obtain ⟨v, v1, v2, v3, v4⟩ := stk_pop f0 h1 (by omega)
  exact poX (.head _) rfl hR (all_nil) (all_nil) (all_cons ⟨[(s0 - 1), s2], ⟨sEv (y' := ((-1 : Int) + ((1 : Int) * s0 + 0))) rfl (by omega), sE_V rfl, trivial⟩, (show fStk (s0 - 1) s2 hp from stk_cg v1 (by omega) (by omega))⟩ (all_nil))
theorem rl978 : ruOk fFS gR978 := by
  intro r hp hO hN hH
  obtain ⟨s0, s1, s2, s3, s4, rfl⟩ := len5 (show r.length = 5 from hN.1)
  have hR := hN.2.1.1
  have hIv : ∀ q ∈ ([(0, .ofNat 1, .ofNat 45), (1, .ofNat 20, .ofNat 20), (2, .ofNat 0, .ofNat 6560), (3, .negSucc 2147483647, .ofNat 2147483647), (4, .negSucc 2147483647, .ofNat 2147483647)] : sIv), ∃ x, ([s0, s1, s2, s3, s4] : List Int)[q.1]? = some x ∧ q.2.1 ≤ x ∧ x ≤ q.2.2 := hN.2.1.2
  have b0 : (1 : Int) ≤ s0 ∧ s0 ≤ (45 : Int) := ivX (q := (0, .ofNat 1, .ofNat 45)) (y := s0) (hIv _ (.head _)) rfl
  have b1 : (20 : Int) ≤ s1 ∧ s1 ≤ (20 : Int) := ivX (q := (1, .ofNat 20, .ofNat 20)) (y := s1) (hIv _ (.tail _ (.head _))) rfl
  have b2 : (0 : Int) ≤ s2 ∧ s2 ≤ (6560 : Int) := ivX (q := (2, .ofNat 0, .ofNat 6560)) (y := s2) (hIv _ (.tail _ (.tail _ (.head _)))) rfl
  have b3 : (-2147483648 : Int) ≤ s3 ∧ s3 ≤ (2147483647 : Int) := ivX (q := (3, .negSucc 2147483647, .ofNat 2147483647)) (y := s3) (hIv _ (.tail _ (.tail _ (.tail _ (.head _))))) rfl
  have hRf : ∀ q ∈ ([((78, .ofNat 273, []), (.ofNat 50, []), 1, .ofNat 0, [(.ofNat 1, 0)]), ((92, .ofNat 287, []), (.negSucc 0, [(.ofNat 1, 0)]), 1, .ofNat 0, [(.ofNat 1, 1)])] : List sRf), rfOk [s0, s1, s2, s3, s4] hp q := hH.1
  have h0 : hI hp 273 50 = s0 := rfI0 (hRf _ (.head _)) (sE_k _ _) (sE_k _ _) (sE_V rfl)
  have y0 : (0 : Int) ≤ s0 ∧ s0 ≤ (45 : Int) := by rw [← h0]; exact hI_ty hO (by decide) rfl
  obtain ⟨i1, e1, l1, h1⟩ := rfI (xv := s1) (iv := (s0 - 1)) (hRf _ (.tail _ (.head _))) (sE_k _ _) (sEv (y' := ((-1 : Int) + ((1 : Int) * s0 + 0))) rfl (by omega)) (sE_V rfl)
  have l1 : i1 < 45 := l1
  have h1 : hI hp 287 i1 = s1 := h1
  have hFc : ∀ q ∈ ([(212, [(.ofNat 0, [(.ofNat 1, 0)]), (.ofNat 0, [(.ofNat 1, 2)])]), (199, [(.ofNat 0, [(.ofNat 1, 2)]), (.ofNat 0, [(.ofNat 1, 3)])]), (200, [(.ofNat 0, [(.ofNat 1, 2)]), (.ofNat 0, [(.ofNat 1, 4)])])] : List sFc), fcOk fFS [s0, s1, s2, s3, s4] hp q := hH.2
  have f0 : ∃ n : Nat, s0 = (n : Int) ∧ n ≤ 45 ∧ sFo (fun j => hI hp 287 j) n s2 := fcX (ys := [s0, s2]) (hFc _ (.head _)) ⟨sE_V rfl, sE_V rfl, trivial⟩
  have f1 : s3 = dp s2 + 1 := fcX (ys := [s2, s3]) (hFc _ (.tail _ (.head _))) ⟨sE_V rfl, sE_V rfl, trivial⟩
  have f2 : s4 = nr s2 := fcX (ys := [s2, s4]) (hFc _ (.tail _ (.tail _ (.head _)))) ⟨sE_V rfl, sE_V rfl, trivial⟩
  obtain ⟨s5, w0, w1, w2⟩ := stm_p20 f0 h1 (by omega) (by omega)
  have ud := f1
  rw [w2] at ud
  have u3 := dp_3 (t := s5) (j := 1) (by omega) (by omega) (Or.inl rfl)
  have u4 := dp_nn s5
  have u5 := dp_7 (t := s5) (by omega)
  have un := f2
  rw [w2, nr_31 w0 (by omega)] at un
  exact poXu (u := [s5]) (.head _) rfl hR (by rw [wMn_eq, wMx_eq]; intro x hx; simp only [List.mem_cons, List.not_mem_nil, or_false] at hx; omega) (all_cons (ivO (y := s3) rfl (show (2 : Int) ≤ s3 by omega) (show s3 ≤ (9 : Int) by omega)) (all_cons (ivO (y := s5) rfl (show (0 : Int) ≤ s5 by omega) (show s5 ≤ (2186 : Int) by omega)) (all_nil))) (all_nil) (all_cons ⟨[(s0 - 1), s5], ⟨sEv (y' := ((-1 : Int) + ((1 : Int) * s0 + 0))) rfl (by omega), sE_V rfl, trivial⟩, (show ∃ n : Nat, (s0 - 1) = (n : Int) ∧ n ≤ 45 ∧ sFo (fun j => hI hp 287 j) n s5 from w1)⟩ (all_cons ⟨[s5, (s3 - 1)], ⟨sE_V rfl, sEv (y' := ((-1 : Int) + ((1 : Int) * s3 + 0))) rfl (by omega), trivial⟩, (show (s3 - 1) = dp s5 + 1 from (show _ = dp s5 + 1 by omega))⟩ (all_cons ⟨[s5, s4], ⟨sE_V rfl, sE_V rfl, trivial⟩, (show s4 = nr s5 from un)⟩ (all_nil))))
theorem rl979 : ruOk fFS gR979 := by
  intro r hp hO hN hH
  have hr0 := len0 (show r.length = 0 from hN.1)
  subst hr0
  have hR := hN.2.1.1
  exact poX (.head _) rfl hR (all_nil) (all_nil) (all_cons ⟨[6385252, 20], ⟨sE_k _ _, sE_k _ _, trivial⟩, (show ∃ j : Nat, j < 30 ∧ (20 : Int) = (j : Int) ∧ (6385252 : Int) = cd 256 0 (wrd j) from rw_k (j := 20) (by decide) (by decide) (by decide))⟩ (all_nil))
theorem rl980 : ruOk fFS gR980 := by
  intro r hp hO hN hH
  have hr0 := len0 (show r.length = 0 from hN.1)
  subst hr0
  have hR := hN.2.1.1
  exact poX (.head _) rfl hR (all_nil) (all_nil) (all_cons ⟨[28530, 19], ⟨sE_k _ _, sE_k _ _, trivial⟩, (show ∃ j : Nat, j < 30 ∧ (19 : Int) = (j : Int) ∧ (28530 : Int) = cd 256 0 (wrd j) from rw_k (j := 19) (by decide) (by decide) (by decide))⟩ (all_nil))
theorem rl981 : ruOk fFS gR981 := by
  intro r hp hO hN hH
  obtain ⟨s0, s1, rfl⟩ := len2 (show r.length = 2 from hN.1)
  have hR := hN.2.1.1
  have hIv : ∀ q ∈ ([(0, .ofNat 1, .ofNat 45), (1, .negSucc 2147483647, .ofNat 2147483647)] : sIv), ∃ x, ([s0, s1] : List Int)[q.1]? = some x ∧ q.2.1 ≤ x ∧ x ≤ q.2.2 := hN.2.1.2
  have b0 : (1 : Int) ≤ s0 ∧ s0 ≤ (45 : Int) := ivX (q := (0, .ofNat 1, .ofNat 45)) (y := s0) (hIv _ (.head _)) rfl
  have b1 : (-2147483648 : Int) ≤ s1 ∧ s1 ≤ (2147483647 : Int) := ivX (q := (1, .negSucc 2147483647, .ofNat 2147483647)) (y := s1) (hIv _ (.tail _ (.head _))) rfl
  have hRf : ∀ q ∈ ([((78, .ofNat 273, []), (.ofNat 50, []), 1, .ofNat 0, [(.ofNat 1, 0)]), ((92, .ofNat 287, []), (.negSucc 0, [(.ofNat 1, 0)]), 1, .ofNat 0, [(.ofNat 1, 1)])] : List sRf), rfOk [s0, s1] hp q := hH.1
  have h0 : hI hp 273 50 = s0 := rfI0 (hRf _ (.head _)) (sE_k _ _) (sE_k _ _) (sE_V rfl)
  have y0 : (0 : Int) ≤ s0 ∧ s0 ≤ (45 : Int) := by rw [← h0]; exact hI_ty hO (by decide) rfl
  obtain ⟨i1, e1, l1, h1⟩ := rfI (xv := s1) (iv := (s0 - 1)) (hRf _ (.tail _ (.head _))) (sE_k _ _) (sEv (y' := ((-1 : Int) + ((1 : Int) * s0 + 0))) rfl (by omega)) (sE_V rfl)
  have l1 : i1 < 45 := l1
  have h1 : hI hp 287 i1 = s1 := h1
  have y : (((-2147483648 : Int) ≤ s1 ∧ s1 ≤ (20 : Int))) ∨ (((21 : Int) ≤ s1 ∧ s1 ≤ (21 : Int))) ∨ (((22 : Int) ≤ s1 ∧ s1 ≤ (22 : Int))) ∨ (((23 : Int) ≤ s1 ∧ s1 ≤ (2147483647 : Int))) := by omega
  rcases y with y | y | y | y
  · exact poX (.head _) rfl hR (all_cons (ivO (y := s1) rfl (show (-2147483648 : Int) ≤ s1 by omega) (show s1 ≤ (20 : Int) by omega)) (all_nil)) (all_nil) (all_nil)
  · exact poX (.tail _ (.head _)) rfl hR (all_cons (ivO (y := s1) rfl (show (21 : Int) ≤ s1 by omega) (show s1 ≤ (21 : Int) by omega)) (all_nil)) (all_nil) (all_nil)
  · exact poX (.tail _ (.tail _ (.head _))) rfl hR (all_cons (ivO (y := s1) rfl (show (22 : Int) ≤ s1 by omega) (show s1 ≤ (22 : Int) by omega)) (all_nil)) (all_nil) (all_nil)
  · exact poX (.tail _ (.tail _ (.tail _ (.head _)))) rfl hR (all_cons (ivO (y := s1) rfl (show (23 : Int) ≤ s1 by omega) (show s1 ≤ (2147483647 : Int) by omega)) (all_nil)) (all_nil) (all_nil)
theorem rl982 : ruOk fFS gR982 := by
  intro r hp hO hN hH
  obtain ⟨s0, rfl⟩ := len1 (show r.length = 1 from hN.1)
  have hR := hN.2.1.1
  have hIv : ∀ q ∈ ([(0, .ofNat 0, .ofNat 0)] : sIv), ∃ x, ([s0] : List Int)[q.1]? = some x ∧ q.2.1 ≤ x ∧ x ≤ q.2.2 := hN.2.1.2
  have b0 : (0 : Int) ≤ s0 ∧ s0 ≤ (0 : Int) := ivX (q := (0, .ofNat 0, .ofNat 0)) (y := s0) (hIv _ (.head _)) rfl
  have hRf : ∀ q ∈ ([((78, .ofNat 273, []), (.ofNat 50, []), 1, .ofNat 0, [(.ofNat 1, 0)])] : List sRf), rfOk [s0] hp q := hH.1
  have h0 : hI hp 273 50 = s0 := rfI0 (hRf _ (.head _)) (sE_k _ _) (sE_k _ _) (sE_V rfl)
  have y0 : (0 : Int) ≤ s0 ∧ s0 ≤ (45 : Int) := by rw [← h0]; exact hI_ty hO (by decide) rfl
  exact poX (.head _) rfl hR (all_nil) (all_nil) (all_cons ⟨[s0], ⟨sE_V rfl, trivial⟩, (show fNj s0 hp from nj0 (by omega))⟩ (all_nil))
theorem rl983 : ruOk fFS gR983 := by
  intro r hp hO hN hH
  obtain ⟨s0, s1, rfl⟩ := len2 (show r.length = 2 from hN.1)
  have hR := hN.2.1.1
  have hIv : ∀ q ∈ ([(0, .ofNat 1, .ofNat 45), (1, .ofNat 0, .ofNat 20)] : sIv), ∃ x, ([s0, s1] : List Int)[q.1]? = some x ∧ q.2.1 ≤ x ∧ x ≤ q.2.2 := hN.2.1.2
  have b0 : (1 : Int) ≤ s0 ∧ s0 ≤ (45 : Int) := ivX (q := (0, .ofNat 1, .ofNat 45)) (y := s0) (hIv _ (.head _)) rfl
  have b1 : (0 : Int) ≤ s1 ∧ s1 ≤ (20 : Int) := ivX (q := (1, .ofNat 0, .ofNat 20)) (y := s1) (hIv _ (.tail _ (.head _))) rfl
  have hRf : ∀ q ∈ ([((78, .ofNat 273, []), (.ofNat 50, []), 1, .ofNat 0, [(.ofNat 1, 0)]), ((92, .ofNat 287, []), (.negSucc 0, [(.ofNat 1, 0)]), 1, .ofNat 0, [(.ofNat 1, 1)])] : List sRf), rfOk [s0, s1] hp q := hH.1
  have h0 : hI hp 273 50 = s0 := rfI0 (hRf _ (.head _)) (sE_k _ _) (sE_k _ _) (sE_V rfl)
  have y0 : (0 : Int) ≤ s0 ∧ s0 ≤ (45 : Int) := by rw [← h0]; exact hI_ty hO (by decide) rfl
  obtain ⟨i1, e1, l1, h1⟩ := rfI (xv := s1) (iv := (s0 - 1)) (hRf _ (.tail _ (.head _))) (sE_k _ _) (sEv (y' := ((-1 : Int) + ((1 : Int) * s0 + 0))) rfl (by omega)) (sE_V rfl)
  have l1 : i1 < 45 := l1
  have h1 : hI hp 287 i1 = s1 := h1
  exact poX (.head _) rfl hR (all_nil) (all_nil) (all_cons ⟨[s0], ⟨sE_V rfl, trivial⟩, (show fNj s0 hp from nj_of h1 (by omega) (by omega) (by omega))⟩ (all_nil))
theorem rl984 : ruOk fFS gR984 := by
  intro r hp hO hN hH
  obtain ⟨s0, s1, rfl⟩ := len2 (show r.length = 2 from hN.1)
  have hR := hN.2.1.1
  have hIv : ∀ q ∈ ([(0, .ofNat 1, .ofNat 45), (1, .ofNat 23, .ofNat 23)] : sIv), ∃ x, ([s0, s1] : List Int)[q.1]? = some x ∧ q.2.1 ≤ x ∧ x ≤ q.2.2 := hN.2.1.2
  have b0 : (1 : Int) ≤ s0 ∧ s0 ≤ (45 : Int) := ivX (q := (0, .ofNat 1, .ofNat 45)) (y := s0) (hIv _ (.head _)) rfl
  have b1 : (23 : Int) ≤ s1 ∧ s1 ≤ (23 : Int) := ivX (q := (1, .ofNat 23, .ofNat 23)) (y := s1) (hIv _ (.tail _ (.head _))) rfl
  have hRf : ∀ q ∈ ([((78, .ofNat 273, []), (.ofNat 50, []), 1, .ofNat 0, [(.ofNat 1, 0)]), ((92, .ofNat 287, []), (.negSucc 0, [(.ofNat 1, 0)]), 1, .ofNat 0, [(.ofNat 1, 1)])] : List sRf), rfOk [s0, s1] hp q := hH.1
  have h0 : hI hp 273 50 = s0 := rfI0 (hRf _ (.head _)) (sE_k _ _) (sE_k _ _) (sE_V rfl)
  have y0 : (0 : Int) ≤ s0 ∧ s0 ≤ (45 : Int) := by rw [← h0]; exact hI_ty hO (by decide) rfl
  obtain ⟨i1, e1, l1, h1⟩ := rfI (xv := s1) (iv := (s0 - 1)) (hRf _ (.tail _ (.head _))) (sE_k _ _) (sEv (y' := ((-1 : Int) + ((1 : Int) * s0 + 0))) rfl (by omega)) (sE_V rfl)
  have l1 : i1 < 45 := l1
  have h1 : hI hp 287 i1 = s1 := h1
  exact poX (.head _) rfl hR (all_nil) (all_nil) (all_cons ⟨[s0], ⟨sE_V rfl, trivial⟩, (show fNj s0 hp from nj_of h1 (by omega) (by omega) (by omega))⟩ (all_nil))
theorem rl985 : ruOk fFS gR985 := by
  intro r hp hO hN hH
  obtain ⟨s0, s1, s2, rfl⟩ := len3 (show r.length = 3 from hN.1)
  have hR := hN.2.1.1
  have hIv : ∀ q ∈ ([(0, .ofNat 1, .ofNat 45), (1, .ofNat 21, .ofNat 22), (2, .negSucc 2147483647, .ofNat 2147483647)] : sIv), ∃ x, ([s0, s1, s2] : List Int)[q.1]? = some x ∧ q.2.1 ≤ x ∧ x ≤ q.2.2 := hN.2.1.2
  have b0 : (1 : Int) ≤ s0 ∧ s0 ≤ (45 : Int) := ivX (q := (0, .ofNat 1, .ofNat 45)) (y := s0) (hIv _ (.head _)) rfl
  have b1 : (21 : Int) ≤ s1 ∧ s1 ≤ (22 : Int) := ivX (q := (1, .ofNat 21, .ofNat 22)) (y := s1) (hIv _ (.tail _ (.head _))) rfl
  have b2 : (-2147483648 : Int) ≤ s2 ∧ s2 ≤ (2147483647 : Int) := ivX (q := (2, .negSucc 2147483647, .ofNat 2147483647)) (y := s2) (hIv _ (.tail _ (.tail _ (.head _)))) rfl
  have hRf : ∀ q ∈ ([((78, .ofNat 273, []), (.ofNat 50, []), 1, .ofNat 0, [(.ofNat 1, 0)]), ((92, .ofNat 287, []), (.negSucc 0, [(.ofNat 1, 0)]), 1, .ofNat 0, [(.ofNat 1, 1)])] : List sRf), rfOk [s0, s1, s2] hp q := hH.1
  have h0 : hI hp 273 50 = s0 := rfI0 (hRf _ (.head _)) (sE_k _ _) (sE_k _ _) (sE_V rfl)
  have y0 : (0 : Int) ≤ s0 ∧ s0 ≤ (45 : Int) := by rw [← h0]; exact hI_ty hO (by decide) rfl
  obtain ⟨i1, e1, l1, h1⟩ := rfI (xv := s1) (iv := (s0 - 1)) (hRf _ (.tail _ (.head _))) (sE_k _ _) (sEv (y' := ((-1 : Int) + ((1 : Int) * s0 + 0))) rfl (by omega)) (sE_V rfl)
  have l1 : i1 < 45 := l1
  have h1 : hI hp 287 i1 = s1 := h1
  have hFc : ∀ q ∈ ([(15, [(.ofNat 0, [(.ofNat 1, 0)]), (.ofNat 0, [(.ofNat 1, 2)])])] : List sFc), fcOk fFS [s0, s1, s2] hp q := hH.2
  have f0 : fStk s0 s2 hp := fcX (ys := [s0, s2]) (hFc _ (.head _)) ⟨sE_V rfl, sE_V rfl, trivial⟩
  obtain ⟨v, v1, v2, v3, v4⟩ := stk_pop f0 h1 (by omega)
  exact poX (.head _) rfl hR (all_cons (ivO (y := s2) rfl (show (1 : Int) ≤ s2 by omega) (show s2 ≤ (45 : Int) by omega)) (all_nil)) (all_nil) (all_cons ⟨[(s0 - 1), (s2 - 1)], ⟨sEv (y' := ((-1 : Int) + ((1 : Int) * s0 + 0))) rfl (by omega), sEv (y' := ((-1 : Int) + ((1 : Int) * s2 + 0))) rfl (by omega), trivial⟩, (show fStk (s0 - 1) (s2 - 1) hp from stk_cg v1 (by omega) (by omega))⟩ (all_nil))
theorem rl986 : ruOk fFS gR986 := by
  intro r hp hO hN hH
  obtain ⟨s0, s1, s2, rfl⟩ := len3 (show r.length = 3 from hN.1)
  have hR := hN.2.1.1
  have hIv : ∀ q ∈ ([(0, .ofNat 1, .ofNat 45), (1, .ofNat 21, .ofNat 22), (2, .negSucc 2147483647, .ofNat 2147483647)] : sIv), ∃ x, ([s0, s1, s2] : List Int)[q.1]? = some x ∧ q.2.1 ≤ x ∧ x ≤ q.2.2 := hN.2.1.2
  have b0 : (1 : Int) ≤ s0 ∧ s0 ≤ (45 : Int) := ivX (q := (0, .ofNat 1, .ofNat 45)) (y := s0) (hIv _ (.head _)) rfl
  have b1 : (21 : Int) ≤ s1 ∧ s1 ≤ (22 : Int) := ivX (q := (1, .ofNat 21, .ofNat 22)) (y := s1) (hIv _ (.tail _ (.head _))) rfl
  have hRf : ∀ q ∈ ([((78, .ofNat 273, []), (.ofNat 50, []), 1, .ofNat 0, [(.ofNat 1, 0)]), ((92, .ofNat 287, []), (.negSucc 0, [(.ofNat 1, 0)]), 1, .ofNat 0, [(.ofNat 1, 1)])] : List sRf), rfOk [s0, s1, s2] hp q := hH.1
  have h0 : hI hp 273 50 = s0 := rfI0 (hRf _ (.head _)) (sE_k _ _) (sE_k _ _) (sE_V rfl)
  have y0 : (0 : Int) ≤ s0 ∧ s0 ≤ (45 : Int) := by rw [← h0]; exact hI_ty hO (by decide) rfl
  obtain ⟨i1, e1, l1, h1⟩ := rfI (xv := s1) (iv := (s0 - 1)) (hRf _ (.tail _ (.head _))) (sE_k _ _) (sEv (y' := ((-1 : Int) + ((1 : Int) * s0 + 0))) rfl (by omega)) (sE_V rfl)
  have l1 : i1 < 45 := l1
  have h1 : hI hp 287 i1 = s1 := h1
  have hFc : ∀ q ∈ ([(212, [(.ofNat 0, [(.ofNat 1, 0)]), (.ofNat 0, [(.ofNat 1, 2)])])] : List sFc), fcOk fFS [s0, s1, s2] hp q := hH.2
  have f0 : ∃ n : Nat, s0 = (n : Int) ∧ n ≤ 45 ∧ sFo (fun j => hI hp 287 j) n s2 := fcX (ys := [s0, s2]) (hFc _ (.head _)) ⟨sE_V rfl, sE_V rfl, trivial⟩
  exact poX (.head _) rfl hR (all_nil) (all_nil) (all_cons ⟨[(s0 - 1), s2], ⟨sEv (y' := ((-1 : Int) + ((1 : Int) * s0 + 0))) rfl (by omega), sE_V rfl, trivial⟩, (show ∃ n : Nat, (s0 - 1) = (n : Int) ∧ n ≤ 45 ∧ sFo (fun j => hI hp 287 j) n s2 from stm_pj f0 h1 (by omega) (by omega))⟩ (all_nil))
theorem rl987 : ruOk fFS gR987 := by
  intro r hp hO hN hH
  obtain ⟨s0, s1, s2, s3, s4, s5, s6, s7, rfl⟩ := len8 (show r.length = 8 from hN.1)
  have hR := hN.2.1.1
  have hIv : ∀ q ∈ ([(0, .negSucc 2147483647, .ofNat 2147483647), (1, .ofNat 6, .ofNat 6), (2, .negSucc 2147483647, .ofNat 2147483647), (3, .negSucc 2147483647, .ofNat 2147483647), (4, .ofNat 2, .ofNat 2), (5, .negSucc 2147483647, .ofNat 2147483647), (6, .negSucc 2147483647, .ofNat 2147483647), (7, .negSucc 2147483647, .ofNat 2147483647)] : sIv), ∃ x, ([s0, s1, s2, s3, s4, s5, s6, s7] : List Int)[q.1]? = some x ∧ q.2.1 ≤ x ∧ x ≤ q.2.2 := hN.2.1.2
  have b1 : (6 : Int) ≤ s1 ∧ s1 ≤ (6 : Int) := ivX (q := (1, .ofNat 6, .ofNat 6)) (y := s1) (hIv _ (.tail _ (.head _))) rfl
  have b4 : (2 : Int) ≤ s4 ∧ s4 ≤ (2 : Int) := ivX (q := (4, .ofNat 2, .ofNat 2)) (y := s4) (hIv _ (.tail _ (.tail _ (.tail _ (.tail _ (.head _)))))) rfl
  have hFc : ∀ q ∈ ([(207, [(.ofNat 0, [(.ofNat 1, 0)]), (.ofNat 0, [(.ofNat 1, 1)]), (.ofNat 0, [(.ofNat 1, 2)]), (.ofNat 0, [(.ofNat 1, 3)]), (.ofNat 0, [(.ofNat 1, 4)]), (.ofNat 0, [(.ofNat 1, 5)]), (.ofNat 0, [(.ofNat 1, 6)]), (.ofNat 0, [(.ofNat 1, 7)])])] : List sFc), fcOk fFS [s0, s1, s2, s3, s4, s5, s6, s7] hp q := hH.2
  have f0 : SHq (MT hp) (nmM hp) s0 s1 s2 s3 s4 s5 s6 s7 := fcX (ys := [s0, s1, s2, s3, s4, s5, s6, s7]) (hFc _ (.head _)) ⟨sE_V rfl, sE_V rfl, sE_V rfl, sE_V rfl, sE_V rfl, sE_V rfl, sE_V rfl, sE_V rfl, trivial⟩
  exact poX (.head _) rfl hR (all_nil) (all_nil) (all_cons ⟨[1, s5], ⟨sE_k _ _, sE_V rfl, trivial⟩, (show SRS (MT hp) (nmM hp) (1 : Int) s5 from s6_f1 f0 (by omega) (by omega) (by omega) (by omega))⟩ (all_nil))
theorem rl988 : ruOk fFS gR988 := by
  intro r hp hO hN hH
  obtain ⟨s0, s1, s2, s3, s4, s5, s6, s7, rfl⟩ := len8 (show r.length = 8 from hN.1)
  have hR := hN.2.1.1
  have hIv : ∀ q ∈ ([(0, .negSucc 2147483647, .ofNat 2147483647), (1, .ofNat 6, .ofNat 6), (2, .negSucc 2147483647, .ofNat 2147483647), (3, .negSucc 2147483647, .ofNat 2147483647), (4, .ofNat 4, .ofNat 4), (5, .negSucc 2147483647, .ofNat 2147483647), (6, .negSucc 2147483647, .ofNat 2147483647), (7, .negSucc 2147483647, .ofNat 2147483647)] : sIv), ∃ x, ([s0, s1, s2, s3, s4, s5, s6, s7] : List Int)[q.1]? = some x ∧ q.2.1 ≤ x ∧ x ≤ q.2.2 := hN.2.1.2
  have b1 : (6 : Int) ≤ s1 ∧ s1 ≤ (6 : Int) := ivX (q := (1, .ofNat 6, .ofNat 6)) (y := s1) (hIv _ (.tail _ (.head _))) rfl
  have b4 : (4 : Int) ≤ s4 ∧ s4 ≤ (4 : Int) := ivX (q := (4, .ofNat 4, .ofNat 4)) (y := s4) (hIv _ (.tail _ (.tail _ (.tail _ (.tail _ (.head _)))))) rfl
  have hFc : ∀ q ∈ ([(207, [(.ofNat 0, [(.ofNat 1, 0)]), (.ofNat 0, [(.ofNat 1, 1)]), (.ofNat 0, [(.ofNat 1, 2)]), (.ofNat 0, [(.ofNat 1, 3)]), (.ofNat 0, [(.ofNat 1, 4)]), (.ofNat 0, [(.ofNat 1, 5)]), (.ofNat 0, [(.ofNat 1, 6)]), (.ofNat 0, [(.ofNat 1, 7)])])] : List sFc), fcOk fFS [s0, s1, s2, s3, s4, s5, s6, s7] hp q := hH.2
  have f0 : SHq (MT hp) (nmM hp) s0 s1 s2 s3 s4 s5 s6 s7 := fcX (ys := [s0, s1, s2, s3, s4, s5, s6, s7]) (hFc _ (.head _)) ⟨sE_V rfl, sE_V rfl, sE_V rfl, sE_V rfl, sE_V rfl, sE_V rfl, sE_V rfl, sE_V rfl, trivial⟩
  exact poX (.head _) rfl hR (all_nil) (all_nil) (all_cons ⟨[1, s5], ⟨sE_k _ _, sE_V rfl, trivial⟩, (show SRS (MT hp) (nmM hp) (1 : Int) s5 from s6_f1 f0 (by omega) (by omega) (by omega) (by omega))⟩ (all_nil))
theorem rl989 : ruOk fFS gR989 := by
  intro r hp hO hN hH
  obtain ⟨s0, s1, s2, s3, s4, s5, s6, s7, s8, rfl⟩ := len9 (show r.length = 9 from hN.1)
  have hR := hN.2.1.1
  have hIv : ∀ q ∈ ([(0, .ofNat 0, .ofNat 0), (1, .negSucc 2147483647, .ofNat 2147483647), (2, .ofNat 6, .ofNat 6), (3, .negSucc 2147483647, .ofNat 2147483647), (4, .negSucc 2147483647, .ofNat 2147483647), (5, .ofNat 0, .ofNat 0), (6, .negSucc 2147483647, .ofNat 2147483647), (7, .negSucc 2147483647, .ofNat 2147483647), (8, .negSucc 2147483647, .ofNat 2147483647)] : sIv), ∃ x, ([s0, s1, s2, s3, s4, s5, s6, s7, s8] : List Int)[q.1]? = some x ∧ q.2.1 ≤ x ∧ x ≤ q.2.2 := hN.2.1.2
  have b0 : (0 : Int) ≤ s0 ∧ s0 ≤ (0 : Int) := ivX (q := (0, .ofNat 0, .ofNat 0)) (y := s0) (hIv _ (.head _)) rfl
  have b2 : (6 : Int) ≤ s2 ∧ s2 ≤ (6 : Int) := ivX (q := (2, .ofNat 6, .ofNat 6)) (y := s2) (hIv _ (.tail _ (.tail _ (.head _)))) rfl
  have b5 : (0 : Int) ≤ s5 ∧ s5 ≤ (0 : Int) := ivX (q := (5, .ofNat 0, .ofNat 0)) (y := s5) (hIv _ (.tail _ (.tail _ (.tail _ (.tail _ (.tail _ (.head _))))))) rfl
  have hRf : ∀ q ∈ ([((78, .ofNat 273, []), (.ofNat 50, []), 1, .ofNat 0, [(.ofNat 1, 0)])] : List sRf), rfOk [s0, s1, s2, s3, s4, s5, s6, s7, s8] hp q := hH.1
  have h0 : hI hp 273 50 = s0 := rfI0 (hRf _ (.head _)) (sE_k _ _) (sE_k _ _) (sE_V rfl)
  have y0 : (0 : Int) ≤ s0 ∧ s0 ≤ (45 : Int) := by rw [← h0]; exact hI_ty hO (by decide) rfl
  have hFc : ∀ q ∈ ([(207, [(.ofNat 0, [(.ofNat 1, 1)]), (.ofNat 0, [(.ofNat 1, 2)]), (.ofNat 0, [(.ofNat 1, 3)]), (.ofNat 0, [(.ofNat 1, 4)]), (.ofNat 0, [(.ofNat 1, 5)]), (.ofNat 0, [(.ofNat 1, 6)]), (.ofNat 0, [(.ofNat 1, 7)]), (.ofNat 0, [(.ofNat 1, 8)])]), (212, [(.ofNat 0, [(.ofNat 1, 0)]), (.ofNat 0, [(.ofNat 1, 4)])])] : List sFc), fcOk fFS [s0, s1, s2, s3, s4, s5, s6, s7, s8] hp q := hH.2
  have f0 : SHq (MT hp) (nmM hp) s1 s2 s3 s4 s5 s6 s7 s8 := fcX (ys := [s1, s2, s3, s4, s5, s6, s7, s8]) (hFc _ (.head _)) ⟨sE_V rfl, sE_V rfl, sE_V rfl, sE_V rfl, sE_V rfl, sE_V rfl, sE_V rfl, sE_V rfl, trivial⟩
  have f1 : ∃ n : Nat, s0 = (n : Int) ∧ n ≤ 45 ∧ sFo (fun j => hI hp 287 j) n s4 := fcX (ys := [s0, s4]) (hFc _ (.tail _ (.head _))) ⟨sE_V rfl, sE_V rfl, trivial⟩
  have u := stm_z f1 (by omega)
  exact poX (.head _) rfl hR (all_nil) (all_nil) (all_cons ⟨[s3], ⟨sE_V rfl, trivial⟩, (show SDN (MT hp) (nmM hp) s3 from s6_end f0 (by omega) (by omega) (by omega))⟩ (all_nil))
theorem rl990 : ruOk fFS gR990 := by
  intro r hp hO hN hH
  obtain ⟨s0, s1, s2, s3, s4, s5, s6, s7, rfl⟩ := len8 (show r.length = 8 from hN.1)
  have hR := hN.2.1.1
  have hIv : ∀ q ∈ ([(0, .negSucc 2147483647, .ofNat 2147483647), (1, .ofNat 6, .ofNat 6), (2, .negSucc 2147483647, .ofNat 2147483647), (3, .negSucc 2147483647, .ofNat 2147483647), (4, .ofNat 1, .ofNat 1), (5, .negSucc 2147483647, .ofNat 2147483647), (6, .negSucc 2147483647, .ofNat 2147483647), (7, .negSucc 0, .ofNat 18)] : sIv), ∃ x, ([s0, s1, s2, s3, s4, s5, s6, s7] : List Int)[q.1]? = some x ∧ q.2.1 ≤ x ∧ x ≤ q.2.2 := hN.2.1.2
  have b1 : (6 : Int) ≤ s1 ∧ s1 ≤ (6 : Int) := ivX (q := (1, .ofNat 6, .ofNat 6)) (y := s1) (hIv _ (.tail _ (.head _))) rfl
  have b4 : (1 : Int) ≤ s4 ∧ s4 ≤ (1 : Int) := ivX (q := (4, .ofNat 1, .ofNat 1)) (y := s4) (hIv _ (.tail _ (.tail _ (.tail _ (.tail _ (.head _)))))) rfl
  have b7 : (-1 : Int) ≤ s7 ∧ s7 ≤ (18 : Int) := ivX (q := (7, .negSucc 0, .ofNat 18)) (y := s7) (hIv _ (.tail _ (.tail _ (.tail _ (.tail _ (.tail _ (.tail _ (.tail _ (.head _))))))))) rfl
  have hFc : ∀ q ∈ ([(207, [(.ofNat 0, [(.ofNat 1, 0)]), (.ofNat 0, [(.ofNat 1, 1)]), (.ofNat 0, [(.ofNat 1, 2)]), (.ofNat 0, [(.ofNat 1, 3)]), (.ofNat 0, [(.ofNat 1, 4)]), (.ofNat 0, [(.ofNat 1, 5)]), (.ofNat 0, [(.ofNat 1, 6)]), (.ofNat 0, [(.ofNat 1, 7)])])] : List sFc), fcOk fFS [s0, s1, s2, s3, s4, s5, s6, s7] hp q := hH.2
  have f0 : SHq (MT hp) (nmM hp) s0 s1 s2 s3 s4 s5 s6 s7 := fcX (ys := [s0, s1, s2, s3, s4, s5, s6, s7]) (hFc _ (.head _)) ⟨sE_V rfl, sE_V rfl, sE_V rfl, sE_V rfl, sE_V rfl, sE_V rfl, sE_V rfl, sE_V rfl, trivial⟩
  exact poX (.head _) rfl hR (all_nil) (all_nil) (all_cons ⟨[1, s5], ⟨sE_k _ _, sE_V rfl, trivial⟩, (show SRS (MT hp) (nmM hp) (1 : Int) s5 from s6_f1 f0 (by omega) (by omega) (by omega) (by omega))⟩ (all_nil))
theorem rl991 : ruOk fFS gR991 := by
  intro r hp hO hN hH
  obtain ⟨s0, s1, s2, s3, s4, s5, s6, s7, rfl⟩ := len8 (show r.length = 8 from hN.1)
  have hR := hN.2.1.1
  have hIv : ∀ q ∈ ([(0, .negSucc 2147483647, .ofNat 2147483647), (1, .ofNat 6, .ofNat 6), (2, .negSucc 2147483647, .ofNat 2147483647), (3, .negSucc 2147483647, .ofNat 2147483647), (4, .ofNat 1, .ofNat 1), (5, .negSucc 2147483647, .ofNat 2147483647), (6, .negSucc 2147483647, .ofNat 2147483647), (7, .ofNat 21, .ofNat 29)] : sIv), ∃ x, ([s0, s1, s2, s3, s4, s5, s6, s7] : List Int)[q.1]? = some x ∧ q.2.1 ≤ x ∧ x ≤ q.2.2 := hN.2.1.2
  have b1 : (6 : Int) ≤ s1 ∧ s1 ≤ (6 : Int) := ivX (q := (1, .ofNat 6, .ofNat 6)) (y := s1) (hIv _ (.tail _ (.head _))) rfl
  have b4 : (1 : Int) ≤ s4 ∧ s4 ≤ (1 : Int) := ivX (q := (4, .ofNat 1, .ofNat 1)) (y := s4) (hIv _ (.tail _ (.tail _ (.tail _ (.tail _ (.head _)))))) rfl
  have b7 : (21 : Int) ≤ s7 ∧ s7 ≤ (29 : Int) := ivX (q := (7, .ofNat 21, .ofNat 29)) (y := s7) (hIv _ (.tail _ (.tail _ (.tail _ (.tail _ (.tail _ (.tail _ (.tail _ (.head _))))))))) rfl
  have hFc : ∀ q ∈ ([(207, [(.ofNat 0, [(.ofNat 1, 0)]), (.ofNat 0, [(.ofNat 1, 1)]), (.ofNat 0, [(.ofNat 1, 2)]), (.ofNat 0, [(.ofNat 1, 3)]), (.ofNat 0, [(.ofNat 1, 4)]), (.ofNat 0, [(.ofNat 1, 5)]), (.ofNat 0, [(.ofNat 1, 6)]), (.ofNat 0, [(.ofNat 1, 7)])])] : List sFc), fcOk fFS [s0, s1, s2, s3, s4, s5, s6, s7] hp q := hH.2
  have f0 : SHq (MT hp) (nmM hp) s0 s1 s2 s3 s4 s5 s6 s7 := fcX (ys := [s0, s1, s2, s3, s4, s5, s6, s7]) (hFc _ (.head _)) ⟨sE_V rfl, sE_V rfl, sE_V rfl, sE_V rfl, sE_V rfl, sE_V rfl, sE_V rfl, sE_V rfl, trivial⟩
  exact poX (.head _) rfl hR (all_nil) (all_nil) (all_cons ⟨[1, s5], ⟨sE_k _ _, sE_V rfl, trivial⟩, (show SRS (MT hp) (nmM hp) (1 : Int) s5 from s6_f1 f0 (by omega) (by omega) (by omega) (by omega))⟩ (all_nil))
theorem rl992 : ruOk fFS gR992 := by
  intro r hp hO hN hH
  obtain ⟨s0, s1, s2, s3, s4, s5, s6, s7, rfl⟩ := len8 (show r.length = 8 from hN.1)
  have hR := hN.2.1.1
  have hIv : ∀ q ∈ ([(0, .negSucc 2147483647, .ofNat 2147483647), (1, .ofNat 6, .ofNat 6), (2, .negSucc 2147483647, .ofNat 2147483647), (3, .negSucc 2147483647, .ofNat 2147483647), (4, .ofNat 3, .ofNat 3), (5, .negSucc 2147483647, .ofNat 2147483647), (6, .negSucc 2147483647, .ofNat 2147483647), (7, .negSucc 2147483647, .ofNat 40)] : sIv), ∃ x, ([s0, s1, s2, s3, s4, s5, s6, s7] : List Int)[q.1]? = some x ∧ q.2.1 ≤ x ∧ x ≤ q.2.2 := hN.2.1.2
  have b1 : (6 : Int) ≤ s1 ∧ s1 ≤ (6 : Int) := ivX (q := (1, .ofNat 6, .ofNat 6)) (y := s1) (hIv _ (.tail _ (.head _))) rfl
  have b4 : (3 : Int) ≤ s4 ∧ s4 ≤ (3 : Int) := ivX (q := (4, .ofNat 3, .ofNat 3)) (y := s4) (hIv _ (.tail _ (.tail _ (.tail _ (.tail _ (.head _)))))) rfl
  have b7 : (-2147483648 : Int) ≤ s7 ∧ s7 ≤ (40 : Int) := ivX (q := (7, .negSucc 2147483647, .ofNat 40)) (y := s7) (hIv _ (.tail _ (.tail _ (.tail _ (.tail _ (.tail _ (.tail _ (.tail _ (.head _))))))))) rfl
  have hFc : ∀ q ∈ ([(207, [(.ofNat 0, [(.ofNat 1, 0)]), (.ofNat 0, [(.ofNat 1, 1)]), (.ofNat 0, [(.ofNat 1, 2)]), (.ofNat 0, [(.ofNat 1, 3)]), (.ofNat 0, [(.ofNat 1, 4)]), (.ofNat 0, [(.ofNat 1, 5)]), (.ofNat 0, [(.ofNat 1, 6)]), (.ofNat 0, [(.ofNat 1, 7)])])] : List sFc), fcOk fFS [s0, s1, s2, s3, s4, s5, s6, s7] hp q := hH.2
  have f0 : SHq (MT hp) (nmM hp) s0 s1 s2 s3 s4 s5 s6 s7 := fcX (ys := [s0, s1, s2, s3, s4, s5, s6, s7]) (hFc _ (.head _)) ⟨sE_V rfl, sE_V rfl, sE_V rfl, sE_V rfl, sE_V rfl, sE_V rfl, sE_V rfl, sE_V rfl, trivial⟩
  exact poX (.head _) rfl hR (all_nil) (all_nil) (all_cons ⟨[1, s5], ⟨sE_k _ _, sE_V rfl, trivial⟩, (show SRS (MT hp) (nmM hp) (1 : Int) s5 from s6_f1 f0 (by omega) (by omega) (by omega) (by omega))⟩ (all_nil))
theorem rl993 : ruOk fFS gR993 := by
  intro r hp hO hN hH
  obtain ⟨s0, s1, s2, s3, s4, s5, s6, s7, rfl⟩ := len8 (show r.length = 8 from hN.1)
  have hR := hN.2.1.1
  have hIv : ∀ q ∈ ([(0, .negSucc 2147483647, .ofNat 2147483647), (1, .ofNat 6, .ofNat 6), (2, .negSucc 2147483647, .ofNat 2147483647), (3, .negSucc 2147483647, .ofNat 2147483647), (4, .ofNat 3, .ofNat 3), (5, .negSucc 2147483647, .ofNat 2147483647), (6, .negSucc 2147483647, .ofNat 2147483647), (7, .ofNat 42, .ofNat 2147483647)] : sIv), ∃ x, ([s0, s1, s2, s3, s4, s5, s6, s7] : List Int)[q.1]? = some x ∧ q.2.1 ≤ x ∧ x ≤ q.2.2 := hN.2.1.2
  have b1 : (6 : Int) ≤ s1 ∧ s1 ≤ (6 : Int) := ivX (q := (1, .ofNat 6, .ofNat 6)) (y := s1) (hIv _ (.tail _ (.head _))) rfl
  have b4 : (3 : Int) ≤ s4 ∧ s4 ≤ (3 : Int) := ivX (q := (4, .ofNat 3, .ofNat 3)) (y := s4) (hIv _ (.tail _ (.tail _ (.tail _ (.tail _ (.head _)))))) rfl
  have b7 : (42 : Int) ≤ s7 ∧ s7 ≤ (2147483647 : Int) := ivX (q := (7, .ofNat 42, .ofNat 2147483647)) (y := s7) (hIv _ (.tail _ (.tail _ (.tail _ (.tail _ (.tail _ (.tail _ (.tail _ (.head _))))))))) rfl
  have hFc : ∀ q ∈ ([(207, [(.ofNat 0, [(.ofNat 1, 0)]), (.ofNat 0, [(.ofNat 1, 1)]), (.ofNat 0, [(.ofNat 1, 2)]), (.ofNat 0, [(.ofNat 1, 3)]), (.ofNat 0, [(.ofNat 1, 4)]), (.ofNat 0, [(.ofNat 1, 5)]), (.ofNat 0, [(.ofNat 1, 6)]), (.ofNat 0, [(.ofNat 1, 7)])])] : List sFc), fcOk fFS [s0, s1, s2, s3, s4, s5, s6, s7] hp q := hH.2
  have f0 : SHq (MT hp) (nmM hp) s0 s1 s2 s3 s4 s5 s6 s7 := fcX (ys := [s0, s1, s2, s3, s4, s5, s6, s7]) (hFc _ (.head _)) ⟨sE_V rfl, sE_V rfl, sE_V rfl, sE_V rfl, sE_V rfl, sE_V rfl, sE_V rfl, sE_V rfl, trivial⟩
  exact poX (.head _) rfl hR (all_nil) (all_nil) (all_cons ⟨[1, s5], ⟨sE_k _ _, sE_V rfl, trivial⟩, (show SRS (MT hp) (nmM hp) (1 : Int) s5 from s6_f1 f0 (by omega) (by omega) (by omega) (by omega))⟩ (all_nil))
theorem rl994 : ruOk fFS gR994 := by
  intro r hp hO hN hH
  obtain ⟨s0, s1, s2, s3, s4, s5, s6, s7, s8, rfl⟩ := len9 (show r.length = 9 from hN.1)
  have hR := hN.2.1.1
  have hIv : ∀ q ∈ ([(0, .ofNat 0, .ofNat 0), (1, .negSucc 2147483647, .ofNat 2147483647), (2, .ofNat 6, .ofNat 6), (3, .negSucc 2147483647, .ofNat 2147483647), (4, .negSucc 2147483647, .ofNat 2147483647), (5, .ofNat 3, .ofNat 3), (6, .negSucc 2147483647, .ofNat 2147483647), (7, .negSucc 2147483647, .ofNat 2147483647), (8, .ofNat 41, .ofNat 41)] : sIv), ∃ x, ([s0, s1, s2, s3, s4, s5, s6, s7, s8] : List Int)[q.1]? = some x ∧ q.2.1 ≤ x ∧ x ≤ q.2.2 := hN.2.1.2
  have b0 : (0 : Int) ≤ s0 ∧ s0 ≤ (0 : Int) := ivX (q := (0, .ofNat 0, .ofNat 0)) (y := s0) (hIv _ (.head _)) rfl
  have b2 : (6 : Int) ≤ s2 ∧ s2 ≤ (6 : Int) := ivX (q := (2, .ofNat 6, .ofNat 6)) (y := s2) (hIv _ (.tail _ (.tail _ (.head _)))) rfl
  have b5 : (3 : Int) ≤ s5 ∧ s5 ≤ (3 : Int) := ivX (q := (5, .ofNat 3, .ofNat 3)) (y := s5) (hIv _ (.tail _ (.tail _ (.tail _ (.tail _ (.tail _ (.head _))))))) rfl
  have b8 : (41 : Int) ≤ s8 ∧ s8 ≤ (41 : Int) := ivX (q := (8, .ofNat 41, .ofNat 41)) (y := s8) (hIv _ (.tail _ (.tail _ (.tail _ (.tail _ (.tail _ (.tail _ (.tail _ (.tail _ (.head _)))))))))) rfl
  have hRf : ∀ q ∈ ([((78, .ofNat 273, []), (.ofNat 50, []), 1, .ofNat 0, [(.ofNat 1, 0)])] : List sRf), rfOk [s0, s1, s2, s3, s4, s5, s6, s7, s8] hp q := hH.1
  have h0 : hI hp 273 50 = s0 := rfI0 (hRf _ (.head _)) (sE_k _ _) (sE_k _ _) (sE_V rfl)
  have y0 : (0 : Int) ≤ s0 ∧ s0 ≤ (45 : Int) := by rw [← h0]; exact hI_ty hO (by decide) rfl
  have hFc : ∀ q ∈ ([(207, [(.ofNat 0, [(.ofNat 1, 1)]), (.ofNat 0, [(.ofNat 1, 2)]), (.ofNat 0, [(.ofNat 1, 3)]), (.ofNat 0, [(.ofNat 1, 4)]), (.ofNat 0, [(.ofNat 1, 5)]), (.ofNat 0, [(.ofNat 1, 6)]), (.ofNat 0, [(.ofNat 1, 7)]), (.ofNat 0, [(.ofNat 1, 8)])]), (212, [(.ofNat 0, [(.ofNat 1, 0)]), (.ofNat 0, [(.ofNat 1, 4)])])] : List sFc), fcOk fFS [s0, s1, s2, s3, s4, s5, s6, s7, s8] hp q := hH.2
  have f0 : SHq (MT hp) (nmM hp) s1 s2 s3 s4 s5 s6 s7 s8 := fcX (ys := [s1, s2, s3, s4, s5, s6, s7, s8]) (hFc _ (.head _)) ⟨sE_V rfl, sE_V rfl, sE_V rfl, sE_V rfl, sE_V rfl, sE_V rfl, sE_V rfl, sE_V rfl, trivial⟩
  have f1 : ∃ n : Nat, s0 = (n : Int) ∧ n ≤ 45 ∧ sFo (fun j => hI hp 287 j) n s4 := fcX (ys := [s0, s4]) (hFc _ (.tail _ (.head _))) ⟨sE_V rfl, sE_V rfl, trivial⟩
  have u := stm_z f1 (by omega)
  exact poX (.head _) rfl hR (all_nil) (all_nil) (all_cons ⟨[1, s6], ⟨sE_k _ _, sE_V rfl, trivial⟩, (show SRS (MT hp) (nmM hp) (1 : Int) s6 from s6_f1 f0 (by omega) (by omega) (by omega) (by omega))⟩ (all_nil))
theorem rl995 : ruOk fFS gR995 := by
  intro r hp hO hN hH
  obtain ⟨s0, s1, s2, s3, s4, s5, s6, s7, s8, s9, s10, rfl⟩ := len11 (show r.length = 11 from hN.1)
  have hR := hN.2.1.1
  have hIv : ∀ q ∈ ([(0, .ofNat 1, .ofNat 45), (1, .negSucc 2147483647, .ofNat 2147483647), (2, .ofNat 6, .ofNat 6), (3, .negSucc 2147483647, .ofNat 2147483647), (4, .ofNat 0, .ofNat 6560), (5, .ofNat 3, .ofNat 3), (6, .negSucc 2147483647, .ofNat 2147483647), (7, .negSucc 2147483647, .ofNat 2147483647), (8, .ofNat 41, .ofNat 41), (9, .ofNat 0, .ofNat 6560), (10, .negSucc 2147483647, .ofNat 2147483647)] : sIv), ∃ x, ([s0, s1, s2, s3, s4, s5, s6, s7, s8, s9, s10] : List Int)[q.1]? = some x ∧ q.2.1 ≤ x ∧ x ≤ q.2.2 := hN.2.1.2
  have b0 : (1 : Int) ≤ s0 ∧ s0 ≤ (45 : Int) := ivX (q := (0, .ofNat 1, .ofNat 45)) (y := s0) (hIv _ (.head _)) rfl
  have b2 : (6 : Int) ≤ s2 ∧ s2 ≤ (6 : Int) := ivX (q := (2, .ofNat 6, .ofNat 6)) (y := s2) (hIv _ (.tail _ (.tail _ (.head _)))) rfl
  have b4 : (0 : Int) ≤ s4 ∧ s4 ≤ (6560 : Int) := ivX (q := (4, .ofNat 0, .ofNat 6560)) (y := s4) (hIv _ (.tail _ (.tail _ (.tail _ (.tail _ (.head _)))))) rfl
  have b5 : (3 : Int) ≤ s5 ∧ s5 ≤ (3 : Int) := ivX (q := (5, .ofNat 3, .ofNat 3)) (y := s5) (hIv _ (.tail _ (.tail _ (.tail _ (.tail _ (.tail _ (.head _))))))) rfl
  have b8 : (41 : Int) ≤ s8 ∧ s8 ≤ (41 : Int) := ivX (q := (8, .ofNat 41, .ofNat 41)) (y := s8) (hIv _ (.tail _ (.tail _ (.tail _ (.tail _ (.tail _ (.tail _ (.tail _ (.tail _ (.head _)))))))))) rfl
  have b9 : (0 : Int) ≤ s9 ∧ s9 ≤ (6560 : Int) := ivX (q := (9, .ofNat 0, .ofNat 6560)) (y := s9) (hIv _ (.tail _ (.tail _ (.tail _ (.tail _ (.tail _ (.tail _ (.tail _ (.tail _ (.tail _ (.head _))))))))))) rfl
  have b10 : (-2147483648 : Int) ≤ s10 ∧ s10 ≤ (2147483647 : Int) := ivX (q := (10, .negSucc 2147483647, .ofNat 2147483647)) (y := s10) (hIv _ (.tail _ (.tail _ (.tail _ (.tail _ (.tail _ (.tail _ (.tail _ (.tail _ (.tail _ (.tail _ (.head _)))))))))))) rfl
  have hRf : ∀ q ∈ ([((78, .ofNat 273, []), (.ofNat 50, []), 1, .ofNat 0, [(.ofNat 1, 0)])] : List sRf), rfOk [s0, s1, s2, s3, s4, s5, s6, s7, s8, s9, s10] hp q := hH.1
  have h0 : hI hp 273 50 = s0 := rfI0 (hRf _ (.head _)) (sE_k _ _) (sE_k _ _) (sE_V rfl)
  have y0 : (0 : Int) ≤ s0 ∧ s0 ≤ (45 : Int) := by rw [← h0]; exact hI_ty hO (by decide) rfl
  have hFc : ∀ q ∈ ([(207, [(.ofNat 0, [(.ofNat 1, 1)]), (.ofNat 0, [(.ofNat 1, 2)]), (.ofNat 0, [(.ofNat 1, 3)]), (.ofNat 0, [(.ofNat 1, 4)]), (.ofNat 0, [(.ofNat 1, 5)]), (.ofNat 0, [(.ofNat 1, 6)]), (.ofNat 0, [(.ofNat 1, 7)]), (.ofNat 0, [(.ofNat 1, 8)])]), (212, [(.ofNat 0, [(.ofNat 1, 0)]), (.ofNat 0, [(.ofNat 1, 4)])]), (23, [(.ofNat 0, [(.ofNat 1, 0)])]), (200, [(.ofNat 0, [(.ofNat 1, 9)]), (.ofNat 0, [(.ofNat 1, 4)])]), (199, [(.ofNat 0, [(.ofNat 1, 4)]), (.ofNat 0, [(.ofNat 1, 10)])])] : List sFc), fcOk fFS [s0, s1, s2, s3, s4, s5, s6, s7, s8, s9, s10] hp q := hH.2
  have f0 : SHq (MT hp) (nmM hp) s1 s2 s3 s4 s5 s6 s7 s8 := fcX (ys := [s1, s2, s3, s4, s5, s6, s7, s8]) (hFc _ (.head _)) ⟨sE_V rfl, sE_V rfl, sE_V rfl, sE_V rfl, sE_V rfl, sE_V rfl, sE_V rfl, sE_V rfl, trivial⟩
  have f1 : ∃ n : Nat, s0 = (n : Int) ∧ n ≤ 45 ∧ sFo (fun j => hI hp 287 j) n s4 := fcX (ys := [s0, s4]) (hFc _ (.tail _ (.head _))) ⟨sE_V rfl, sE_V rfl, trivial⟩
  have f2 : fNj s0 hp := fcX (ys := [s0]) (hFc _ (.tail _ (.tail _ (.head _)))) ⟨sE_V rfl, trivial⟩
  have f3 : s4 = nr s9 := fcX (ys := [s9, s4]) (hFc _ (.tail _ (.tail _ (.tail _ (.head _))))) ⟨sE_V rfl, sE_V rfl, trivial⟩
  have f4 : s10 = dp s4 + 1 := fcX (ys := [s4, s10]) (hFc _ (.tail _ (.tail _ (.tail _ (.tail _ (.head _)))))) ⟨sE_V rfl, sE_V rfl, trivial⟩
  have u0 := f3
  have u1 := nr_3 (t := s9) (by omega) (by omega)
  rw [← u0] at u1
  obtain ⟨s11, w0, w1, w2⟩ := stm_nj f1 f2 (by omega) u1
  obtain ⟨s12, ev⟩ : ∃ y : Int, y = nr s11 := ⟨_, rfl⟩
  have u2 := nr_b (t := s11) (by omega)
  rw [← ev] at u2
  have ud := f4
  rw [w2] at ud
  have u3 := dp_3 (t := s11) (j := 2) (by omega) (by omega) (Or.inr rfl)
  have u4 := dp_nn s11
  have u5 := dp_7 (t := s11) (by omega)
  have hz := s6_cl f0 (by omega) (by omega) (by omega) (by omega)
  rw [show s4 / 3 = s11 by omega] at hz
  exact poXu (u := [s11, s12]) (.head _) rfl hR (by rw [wMn_eq, wMx_eq]; intro x hx; simp only [List.mem_cons, List.not_mem_nil, or_false] at hx; omega) (all_cons (ivO (y := s10) rfl (show (2 : Int) ≤ s10 by omega) (show s10 ≤ (9 : Int) by omega)) (all_cons (ivO (y := s11) rfl (show (0 : Int) ≤ s11 by omega) (show s11 ≤ (2186 : Int) by omega)) (all_cons (ivO (y := s12) rfl (show (0 : Int) ≤ s12 by omega) (show s12 ≤ (6560 : Int) by omega)) (all_nil)))) (all_nil) (all_cons ⟨[(s0 - 1), s11], ⟨sEv (y' := ((-1 : Int) + ((1 : Int) * s0 + 0))) rfl (by omega), sE_V rfl, trivial⟩, (show ∃ n : Nat, (s0 - 1) = (n : Int) ∧ n ≤ 45 ∧ sFo (fun j => hI hp 287 j) n s11 from w1)⟩ (all_cons ⟨[s11, (s10 - 1)], ⟨sE_V rfl, sEv (y' := ((-1 : Int) + ((1 : Int) * s10 + 0))) rfl (by omega), trivial⟩, (show (s10 - 1) = dp s11 + 1 from (show _ = dp s11 + 1 by omega))⟩ (all_cons ⟨[s7, 6, s3, s12], ⟨sE_V rfl, sE_k _ _, sE_V rfl, sE_V rfl, trivial⟩, (show SG (MT hp) (nmM hp) s7 (6 : Int) s3 s12 from sg_u ev hz)⟩ (all_cons ⟨[s11, s12], ⟨sE_V rfl, sE_V rfl, trivial⟩, (show s12 = nr s11 from ev)⟩ (all_nil)))))
theorem rl996 : ruOk fFS gR996 := by
  intro r hp hO hN hH
  obtain ⟨s0, s1, rfl⟩ := len2 (show r.length = 2 from hN.1)
  have hR := hN.2.1.1
  have hIv : ∀ q ∈ ([(0, .ofNat 1, .ofNat 45), (1, .negSucc 2147483647, .ofNat 2147483647)] : sIv), ∃ x, ([s0, s1] : List Int)[q.1]? = some x ∧ q.2.1 ≤ x ∧ x ≤ q.2.2 := hN.2.1.2
  have b0 : (1 : Int) ≤ s0 ∧ s0 ≤ (45 : Int) := ivX (q := (0, .ofNat 1, .ofNat 45)) (y := s0) (hIv _ (.head _)) rfl
  have hRf : ∀ q ∈ ([((78, .ofNat 273, []), (.ofNat 50, []), 1, .ofNat 0, [(.ofNat 1, 0)])] : List sRf), rfOk [s0, s1] hp q := hH.1
  have h0 : hI hp 273 50 = s0 := rfI0 (hRf _ (.head _)) (sE_k _ _) (sE_k _ _) (sE_V rfl)
  have y0 : (0 : Int) ≤ s0 ∧ s0 ≤ (45 : Int) := by rw [← h0]; exact hI_ty hO (by decide) rfl
  have hFc : ∀ q ∈ ([(15, [(.ofNat 0, [(.ofNat 1, 0)]), (.ofNat 0, [(.ofNat 1, 1)])]), (23, [(.ofNat 0, [(.ofNat 1, 0)])])] : List sFc), fcOk fFS [s0, s1] hp q := hH.2
  have f0 : fStk s0 s1 hp := fcX (ys := [s0, s1]) (hFc _ (.head _)) ⟨sE_V rfl, sE_V rfl, trivial⟩
  have f1 : fNj s0 hp := fcX (ys := [s0]) (hFc _ (.tail _ (.head _))) ⟨sE_V rfl, trivial⟩
  exact poX (.head _) rfl hR (all_nil) (all_nil) (all_cons ⟨[(s0 - 1), s1], ⟨sEv (y' := ((-1 : Int) + ((1 : Int) * s0 + 0))) rfl (by omega), sE_V rfl, trivial⟩, (show fStk (s0 - 1) s1 hp from stk_cg (stk_nj f0 f1 (by omega)) (by omega) (by omega))⟩ (all_nil))
theorem rl997 : ruOk fFS gR997 := by
  intro r hp hO hN hH
  obtain ⟨s0, s1, s2, rfl⟩ := len3 (show r.length = 3 from hN.1)
  have hR := hN.2.1.1
  have hIv : ∀ q ∈ ([(0, .ofNat 0, .ofNat 44), (1, .ofNat 21, .ofNat 22), (2, .negSucc 2147483647, .ofNat 2147483647)] : sIv), ∃ x, ([s0, s1, s2] : List Int)[q.1]? = some x ∧ q.2.1 ≤ x ∧ x ≤ q.2.2 := hN.2.1.2
  have b0 : (0 : Int) ≤ s0 ∧ s0 ≤ (44 : Int) := ivX (q := (0, .ofNat 0, .ofNat 44)) (y := s0) (hIv _ (.head _)) rfl
  have b1 : (21 : Int) ≤ s1 ∧ s1 ≤ (22 : Int) := ivX (q := (1, .ofNat 21, .ofNat 22)) (y := s1) (hIv _ (.tail _ (.head _))) rfl
  have hRf : ∀ q ∈ ([((78, .ofNat 273, []), (.ofNat 50, []), 1, .ofNat 0, [(.ofNat 1, 0)]), ((92, .ofNat 287, []), (.ofNat 0, [(.ofNat 1, 0)]), 1, .ofNat 0, [(.ofNat 1, 1)])] : List sRf), rfOk [s0, s1, s2] hp q := hH.1
  have h0 : hI hp 273 50 = s0 := rfI0 (hRf _ (.head _)) (sE_k _ _) (sE_k _ _) (sE_V rfl)
  have y0 : (0 : Int) ≤ s0 ∧ s0 ≤ (45 : Int) := by rw [← h0]; exact hI_ty hO (by decide) rfl
  obtain ⟨i1, e1, l1, h1⟩ := rfI (xv := s1) (iv := s0) (hRf _ (.tail _ (.head _))) (sE_k _ _) (sE_V rfl) (sE_V rfl)
  have l1 : i1 < 45 := l1
  have h1 : hI hp 287 i1 = s1 := h1
  have hFc : ∀ q ∈ ([(15, [(.ofNat 0, [(.ofNat 1, 0)]), (.ofNat 0, [(.ofNat 1, 2)])])] : List sFc), fcOk fFS [s0, s1, s2] hp q := hH.2
  have f0 : fStk s0 s2 hp := fcX (ys := [s0, s2]) (hFc _ (.head _)) ⟨sE_V rfl, sE_V rfl, trivial⟩
  exact poX (.head _) rfl hR (all_nil) (all_nil) (all_cons ⟨[(s0 + 1), (s2 + 1)], ⟨sEv (y' := ((1 : Int) + ((1 : Int) * s0 + 0))) rfl (by omega), sEv (y' := ((1 : Int) + ((1 : Int) * s2 + 0))) rfl (by omega), trivial⟩, (show fStk (s0 + 1) (s2 + 1) hp from stk_psh f0 h1 (by omega) (by omega) (by omega) (by omega))⟩ (all_nil))
theorem rl998 : ruOk fFS gR998 := by
  intro r hp hO hN hH
  obtain ⟨s0, s1, s2, s3, rfl⟩ := len4 (show r.length = 4 from hN.1)
  have hR := hN.2.1.1
  have hIv : ∀ q ∈ ([(0, .ofNat 0, .ofNat 44), (1, .ofNat 21, .ofNat 22), (2, .negSucc 2147483647, .ofNat 2147483647), (3, .ofNat 0, .ofNat 6560)] : sIv), ∃ x, ([s0, s1, s2, s3] : List Int)[q.1]? = some x ∧ q.2.1 ≤ x ∧ x ≤ q.2.2 := hN.2.1.2
  have b0 : (0 : Int) ≤ s0 ∧ s0 ≤ (44 : Int) := ivX (q := (0, .ofNat 0, .ofNat 44)) (y := s0) (hIv _ (.head _)) rfl
  have b1 : (21 : Int) ≤ s1 ∧ s1 ≤ (22 : Int) := ivX (q := (1, .ofNat 21, .ofNat 22)) (y := s1) (hIv _ (.tail _ (.head _))) rfl
  have b3 : (0 : Int) ≤ s3 ∧ s3 ≤ (6560 : Int) := ivX (q := (3, .ofNat 0, .ofNat 6560)) (y := s3) (hIv _ (.tail _ (.tail _ (.tail _ (.head _))))) rfl
  have hRf : ∀ q ∈ ([((78, .ofNat 273, []), (.ofNat 50, []), 1, .ofNat 0, [(.ofNat 1, 0)]), ((92, .ofNat 287, []), (.ofNat 0, [(.ofNat 1, 0)]), 1, .ofNat 0, [(.ofNat 1, 1)])] : List sRf), rfOk [s0, s1, s2, s3] hp q := hH.1
  have h0 : hI hp 273 50 = s0 := rfI0 (hRf _ (.head _)) (sE_k _ _) (sE_k _ _) (sE_V rfl)
  have y0 : (0 : Int) ≤ s0 ∧ s0 ≤ (45 : Int) := by rw [← h0]; exact hI_ty hO (by decide) rfl
  obtain ⟨i1, e1, l1, h1⟩ := rfI (xv := s1) (iv := s0) (hRf _ (.tail _ (.head _))) (sE_k _ _) (sE_V rfl) (sE_V rfl)
  have l1 : i1 < 45 := l1
  have h1 : hI hp 287 i1 = s1 := h1
  have hFc : ∀ q ∈ ([(212, [(.ofNat 0, [(.ofNat 1, 0)]), (.ofNat 0, [(.ofNat 1, 2)])]), (200, [(.ofNat 0, [(.ofNat 1, 3)]), (.ofNat 0, [(.ofNat 1, 2)])])] : List sFc), fcOk fFS [s0, s1, s2, s3] hp q := hH.2
  have f0 : ∃ n : Nat, s0 = (n : Int) ∧ n ≤ 45 ∧ sFo (fun j => hI hp 287 j) n s2 := fcX (ys := [s0, s2]) (hFc _ (.head _)) ⟨sE_V rfl, sE_V rfl, trivial⟩
  have f1 : s2 = nr s3 := fcX (ys := [s3, s2]) (hFc _ (.tail _ (.head _))) ⟨sE_V rfl, sE_V rfl, trivial⟩
  have u1 := nr_3 (t := s3) (by omega) (by omega)
  rw [← f1] at u1
  exact poX (.head _) rfl hR (all_nil) (all_nil) (all_cons ⟨[(s0 + 1), s2], ⟨sEv (y' := ((1 : Int) + ((1 : Int) * s0 + 0))) rfl (by omega), sE_V rfl, trivial⟩, (show ∃ n : Nat, (s0 + 1) = (n : Int) ∧ n ≤ 45 ∧ sFo (fun j => hI hp 287 j) n s2 from stm_psh f0 h1 (by omega) (by omega) (Or.inr (Or.inr ⟨by omega, rfl, u1⟩)) rfl)⟩ (all_nil))
theorem rl999 : ruOk fFS gR999 := by
  intro r hp hO hN hH
  obtain ⟨s0, s1, s2, s3, s4, s5, s6, s7, rfl⟩ := len8 (show r.length = 8 from hN.1)
  have hR := hN.2.1.1
  have hIv : ∀ q ∈ ([(0, .negSucc 2147483647, .ofNat 2147483647), (1, .ofNat 6, .ofNat 6), (2, .negSucc 2147483647, .ofNat 2147483647), (3, .negSucc 2147483647, .ofNat 2147483647), (4, .ofNat 1, .ofNat 1), (5, .negSucc 2147483647, .ofNat 2147483647), (6, .negSucc 2147483647, .ofNat 2147483647), (7, .ofNat 19, .ofNat 20)] : sIv), ∃ x, ([s0, s1, s2, s3, s4, s5, s6, s7] : List Int)[q.1]? = some x ∧ q.2.1 ≤ x ∧ x ≤ q.2.2 := hN.2.1.2
  have b1 : (6 : Int) ≤ s1 ∧ s1 ≤ (6 : Int) := ivX (q := (1, .ofNat 6, .ofNat 6)) (y := s1) (hIv _ (.tail _ (.head _))) rfl
  have b4 : (1 : Int) ≤ s4 ∧ s4 ≤ (1 : Int) := ivX (q := (4, .ofNat 1, .ofNat 1)) (y := s4) (hIv _ (.tail _ (.tail _ (.tail _ (.tail _ (.head _)))))) rfl
  have b7 : (19 : Int) ≤ s7 ∧ s7 ≤ (20 : Int) := ivX (q := (7, .ofNat 19, .ofNat 20)) (y := s7) (hIv _ (.tail _ (.tail _ (.tail _ (.tail _ (.tail _ (.tail _ (.tail _ (.head _))))))))) rfl
  have hFc : ∀ q ∈ ([(207, [(.ofNat 0, [(.ofNat 1, 0)]), (.ofNat 0, [(.ofNat 1, 1)]), (.ofNat 0, [(.ofNat 1, 2)]), (.ofNat 0, [(.ofNat 1, 3)]), (.ofNat 0, [(.ofNat 1, 4)]), (.ofNat 0, [(.ofNat 1, 5)]), (.ofNat 0, [(.ofNat 1, 6)]), (.ofNat 0, [(.ofNat 1, 7)])])] : List sFc), fcOk fFS [s0, s1, s2, s3, s4, s5, s6, s7] hp q := hH.2
  have f0 : SHq (MT hp) (nmM hp) s0 s1 s2 s3 s4 s5 s6 s7 := fcX (ys := [s0, s1, s2, s3, s4, s5, s6, s7]) (hFc _ (.head _)) ⟨sE_V rfl, sE_V rfl, sE_V rfl, sE_V rfl, sE_V rfl, sE_V rfl, sE_V rfl, sE_V rfl, trivial⟩
  exact poX (.head _) rfl hR (all_nil) (all_nil) (all_cons ⟨[s6, 0, s2, s3], ⟨sE_V rfl, sE_k _ _, sE_V rfl, sE_V rfl, trivial⟩, (show SG (MT hp) (nmM hp) s6 (0 : Int) s2 s3 from s6_join f0 (by omega) (by omega) (by omega))⟩ (all_nil))
theorem rl1000 : ruOk fFS gR1000 := by
  intro r hp hO hN hH
  obtain ⟨s0, s1, s2, s3, s4, s5, s6, s7, s8, s9, rfl⟩ := len10 (show r.length = 10 from hN.1)
  have hR := hN.2.1.1
  have hIv : ∀ q ∈ ([(0, .ofNat 1, .ofNat 45), (1, .negSucc 2147483647, .ofNat 2147483647), (2, .ofNat 6, .ofNat 6), (3, .negSucc 2147483647, .ofNat 2147483647), (4, .ofNat 0, .ofNat 6560), (5, .ofNat 0, .ofNat 0), (6, .negSucc 2147483647, .ofNat 2147483647), (7, .negSucc 2147483647, .ofNat 2147483647), (8, .negSucc 2147483647, .ofNat 2147483647), (9, .ofNat 0, .ofNat 6560)] : sIv), ∃ x, ([s0, s1, s2, s3, s4, s5, s6, s7, s8, s9] : List Int)[q.1]? = some x ∧ q.2.1 ≤ x ∧ x ≤ q.2.2 := hN.2.1.2
  have b0 : (1 : Int) ≤ s0 ∧ s0 ≤ (45 : Int) := ivX (q := (0, .ofNat 1, .ofNat 45)) (y := s0) (hIv _ (.head _)) rfl
  have b2 : (6 : Int) ≤ s2 ∧ s2 ≤ (6 : Int) := ivX (q := (2, .ofNat 6, .ofNat 6)) (y := s2) (hIv _ (.tail _ (.tail _ (.head _)))) rfl
  have b4 : (0 : Int) ≤ s4 ∧ s4 ≤ (6560 : Int) := ivX (q := (4, .ofNat 0, .ofNat 6560)) (y := s4) (hIv _ (.tail _ (.tail _ (.tail _ (.tail _ (.head _)))))) rfl
  have b5 : (0 : Int) ≤ s5 ∧ s5 ≤ (0 : Int) := ivX (q := (5, .ofNat 0, .ofNat 0)) (y := s5) (hIv _ (.tail _ (.tail _ (.tail _ (.tail _ (.tail _ (.head _))))))) rfl
  have b9 : (0 : Int) ≤ s9 ∧ s9 ≤ (6560 : Int) := ivX (q := (9, .ofNat 0, .ofNat 6560)) (y := s9) (hIv _ (.tail _ (.tail _ (.tail _ (.tail _ (.tail _ (.tail _ (.tail _ (.tail _ (.tail _ (.head _))))))))))) rfl
  have hRf : ∀ q ∈ ([((78, .ofNat 273, []), (.ofNat 50, []), 1, .ofNat 0, [(.ofNat 1, 0)])] : List sRf), rfOk [s0, s1, s2, s3, s4, s5, s6, s7, s8, s9] hp q := hH.1
  have h0 : hI hp 273 50 = s0 := rfI0 (hRf _ (.head _)) (sE_k _ _) (sE_k _ _) (sE_V rfl)
  have y0 : (0 : Int) ≤ s0 ∧ s0 ≤ (45 : Int) := by rw [← h0]; exact hI_ty hO (by decide) rfl
  have hFc : ∀ q ∈ ([(207, [(.ofNat 0, [(.ofNat 1, 1)]), (.ofNat 0, [(.ofNat 1, 2)]), (.ofNat 0, [(.ofNat 1, 3)]), (.ofNat 0, [(.ofNat 1, 4)]), (.ofNat 0, [(.ofNat 1, 5)]), (.ofNat 0, [(.ofNat 1, 6)]), (.ofNat 0, [(.ofNat 1, 7)]), (.ofNat 0, [(.ofNat 1, 8)])]), (212, [(.ofNat 0, [(.ofNat 1, 0)]), (.ofNat 0, [(.ofNat 1, 4)])]), (23, [(.ofNat 0, [(.ofNat 1, 0)])]), (200, [(.ofNat 0, [(.ofNat 1, 9)]), (.ofNat 0, [(.ofNat 1, 4)])])] : List sFc), fcOk fFS [s0, s1, s2, s3, s4, s5, s6, s7, s8, s9] hp q := hH.2
  have f0 : SHq (MT hp) (nmM hp) s1 s2 s3 s4 s5 s6 s7 s8 := fcX (ys := [s1, s2, s3, s4, s5, s6, s7, s8]) (hFc _ (.head _)) ⟨sE_V rfl, sE_V rfl, sE_V rfl, sE_V rfl, sE_V rfl, sE_V rfl, sE_V rfl, sE_V rfl, trivial⟩
  have f1 : ∃ n : Nat, s0 = (n : Int) ∧ n ≤ 45 ∧ sFo (fun j => hI hp 287 j) n s4 := fcX (ys := [s0, s4]) (hFc _ (.tail _ (.head _))) ⟨sE_V rfl, sE_V rfl, trivial⟩
  have f2 : fNj s0 hp := fcX (ys := [s0]) (hFc _ (.tail _ (.tail _ (.head _)))) ⟨sE_V rfl, trivial⟩
  have f3 : s4 = nr s9 := fcX (ys := [s9, s4]) (hFc _ (.tail _ (.tail _ (.tail _ (.head _))))) ⟨sE_V rfl, sE_V rfl, trivial⟩
  have u0 := f3
  have u1 := nr_3 (t := s9) (by omega) (by omega)
  rw [← u0] at u1
  obtain ⟨w, w0, -, w2⟩ := stm_nj f1 f2 (by omega) u1
  exact poX (.head _) rfl hR (all_nil) (all_nil) (all_cons ⟨[1, s6], ⟨sE_k _ _, sE_V rfl, trivial⟩, (show SRS (MT hp) (nmM hp) (1 : Int) s6 from s6_f1 f0 (by omega) (by omega) (by omega) (by omega))⟩ (all_nil))
theorem rl1001 : ruOk fFS gR1001 := by
  intro r hp hO hN hH
  obtain ⟨s0, rfl⟩ := len1 (show r.length = 1 from hN.1)
  have hR := hN.2.1.1
  have hIv : ∀ q ∈ ([(0, .negSucc 2147483647, .ofNat 2147483647)] : sIv), ∃ x, ([s0] : List Int)[q.1]? = some x ∧ q.2.1 ≤ x ∧ x ≤ q.2.2 := hN.2.1.2
  have b0 : (-2147483648 : Int) ≤ s0 ∧ s0 ≤ (2147483647 : Int) := ivX (q := (0, .negSucc 2147483647, .ofNat 2147483647)) (y := s0) (hIv _ (.head _)) rfl
  have hFc : ∀ q ∈ ([(15, [(.ofNat 0, []), (.ofNat 0, [(.ofNat 1, 0)])])] : List sFc), fcOk fFS [s0] hp q := hH.2
  have f0 : fStk 0 s0 hp := fcX (ys := [0, s0]) (hFc _ (.head _)) ⟨sE_k _ _, sE_V rfl, trivial⟩
  have u := stk_z' f0 (by omega)
  exact poX (.head _) rfl hR (all_cons (ivO (y := s0) rfl (show (0 : Int) ≤ s0 by omega) (show s0 ≤ (0 : Int) by omega)) (all_nil)) (all_nil) (all_nil)
theorem rl1002 : ruOk fFS gR1002 := by
  intro r hp hO hN hH
  have hr0 := len0 (show r.length = 0 from hN.1)
  subst hr0
  have hR := hN.2.1.1
  exact poX (.head _) rfl hR (all_nil) (all_nil) (all_cons ⟨[0], ⟨sE_k _ _, trivial⟩, (show fEq 275 691 277 0 160 0 hp from eq0 (by omega))⟩ (all_nil))
theorem rl1003 : ruOk fFS gR1003 := by
  intro r hp hO hN hH
  obtain ⟨s0, s1, rfl⟩ := len2 (show r.length = 2 from hN.1)
  have hR := hN.2.1.1
  have hIv : ∀ q ∈ ([(0, .ofNat 0, .ofNat 159), (1, .negSucc 2147483647, .ofNat 2147483647)] : sIv), ∃ x, ([s0, s1] : List Int)[q.1]? = some x ∧ q.2.1 ≤ x ∧ x ≤ q.2.2 := hN.2.1.2
  have b0 : (0 : Int) ≤ s0 ∧ s0 ≤ (159 : Int) := ivX (q := (0, .ofNat 0, .ofNat 159)) (y := s0) (hIv _ (.head _)) rfl
  have hRf : ∀ q ∈ ([((80, .ofNat 275, []), (.ofNat 691, [(.ofNat 1, 0)]), 1, .ofNat 0, [(.ofNat 1, 1)]), ((82, .ofNat 277, []), (.ofNat 0, [(.ofNat 1, 0)]), 1, .ofNat 0, [(.ofNat 1, 1)])] : List sRf), rfOk [s0, s1] hp q := hH.1
  obtain ⟨i0, e0, l0, h0⟩ := rfI (xv := s1) (iv := (s0 + 691)) (hRf _ (.head _)) (sE_k _ _) (sEv (y' := ((691 : Int) + ((1 : Int) * s0 + 0))) rfl (by omega)) (sE_V rfl)
  have l0 : i0 < 871 := l0
  have h0 : hI hp 275 i0 = s1 := h0
  obtain ⟨i1, e1, l1, h1⟩ := rfI (xv := s1) (iv := s0) (hRf _ (.tail _ (.head _))) (sE_k _ _) (sE_V rfl) (sE_V rfl)
  have l1 : i1 < 160 := l1
  have h1 : hI hp 277 i1 = s1 := h1
  have hFc : ∀ q ∈ ([(16, [(.ofNat 0, [(.ofNat 1, 0)])])] : List sFc), fcOk fFS [s0, s1] hp q := hH.2
  have f0 : fEq 275 691 277 0 160 s0 hp := fcX (ys := [s0]) (hFc _ (.head _)) ⟨sE_V rfl, trivial⟩
  exact poX (.head _) rfl hR (all_nil) (all_nil) (all_cons ⟨[(s0 + 1)], ⟨sEv (y' := ((1 : Int) + ((1 : Int) * s0 + 0))) rfl (by omega), trivial⟩, (show fEq 275 691 277 0 160 (s0 + 1) hp from eq_add f0 h0 h1 (by omega) (by omega) (by omega))⟩ (all_nil))
theorem rl1004 : ruOk fFS gR1004 := by
  intro r hp hO hN hH
  obtain ⟨s0, s1, rfl⟩ := len2 (show r.length = 2 from hN.1)
  have hR := hN.2.1.1
  have hIv : ∀ q ∈ ([(0, .negSucc 2147483647, .ofNat 2147483647), (1, .ofNat 0, .ofNat 53)] : sIv), ∃ x, ([s0, s1] : List Int)[q.1]? = some x ∧ q.2.1 ≤ x ∧ x ≤ q.2.2 := hN.2.1.2
  have b1 : (0 : Int) ≤ s1 ∧ s1 ≤ (53 : Int) := ivX (q := (1, .ofNat 0, .ofNat 53)) (y := s1) (hIv _ (.tail _ (.head _))) rfl
  have hCs : ∀ c ∈ ([(.ofNat 0, [(.negSucc 0, 0), (.ofNat 3, 1)])] : List sLn), ∃ x, sE [s0, s1] c = some x ∧ x ≤ 0 := hN.2.2.1
  have c0 : ((0 : Int) + ((-1 : Int) * s0 + ((3 : Int) * s1 + 0))) ≤ 0 := csX (hCs _ (.head _)) rfl
  have hRf : ∀ q ∈ ([((80, .ofNat 275, []), (.ofNat 690, []), 1, .ofNat 0, [(.ofNat 1, 1)]), ((78, .ofNat 273, []), (.ofNat 48, []), 1, .ofNat 0, [(.ofNat 1, 1)])] : List sRf), rfOk [s0, s1] hp q := hH.1
  have h0 : hI hp 275 690 = s1 := rfI0 (hRf _ (.head _)) (sE_k _ _) (sE_k _ _) (sE_V rfl)
  have y0 : (0 : Int) ≤ s1 ∧ s1 ≤ (53 : Int) := by rw [← h0]; exact hI_ty hO (by decide) rfl
  have h1 : hI hp 273 48 = s1 := rfI0 (hRf _ (.tail _ (.head _))) (sE_k _ _) (sE_k _ _) (sE_V rfl)
  have y1 : (0 : Int) ≤ s1 ∧ s1 ≤ (53 : Int) := by rw [← h1]; exact hI_ty hO (by decide) rfl
  have hFc : ∀ q ∈ ([(16, [(.ofNat 0, [(.ofNat 1, 0)])]), (14, [(.ofNat 0, [(.ofNat 1, 1)]), (.ofNat 1, [])])] : List sFc), fcOk fFS [s0, s1] hp q := hH.2
  have f0 : fEq 275 691 277 0 160 s0 hp := fcX (ys := [s0]) (hFc _ (.head _)) ⟨sE_V rfl, trivial⟩
  have f1 : fCode s1 1 hp := fcX (ys := [s1, 1]) (hFc _ (.tail _ (.head _))) ⟨sE_V rfl, sE_k _ _, trivial⟩
  exact poX (.head _) rfl hR (all_nil) (all_nil) (all_cons ⟨[], trivial, (show fPfs 275 690 hp from pfs_of h0 (by omega) f0 (by omega) f1)⟩ (all_nil))
theorem rl1005 : ruOk fFS gR1005 := by
  intro r hp hO hN hH
  obtain ⟨s0, rfl⟩ := len1 (show r.length = 1 from hN.1)
  have hR := hN.2.1.1
  have hIv : ∀ q ∈ ([(0, .negSucc 2147483647, .ofNat 2147483647)] : sIv), ∃ x, ([s0] : List Int)[q.1]? = some x ∧ q.2.1 ≤ x ∧ x ≤ q.2.2 := hN.2.1.2
  have hRf : ∀ q ∈ ([((78, .ofNat 273, []), (.ofNat 49, []), 1, .ofNat 0, [(.ofNat 1, 0)])] : List sRf), rfOk [s0] hp q := hH.1
  have h0 : hI hp 273 49 = s0 := rfI0 (hRf _ (.head _)) (sE_k _ _) (sE_k _ _) (sE_V rfl)
  have y0 : (0 : Int) ≤ s0 ∧ s0 ≤ (20 : Int) := by rw [← h0]; exact hI_ty hO (by decide) rfl
  have hFc : ∀ q ∈ ([(209, [(.ofNat 0, [(.ofNat 1, 0)])])] : List sFc), fcOk fFS [s0] hp q := hH.2
  have f0 : SDN (MT hp) (nmM hp) s0 := fcX (ys := [s0]) (hFc _ (.head _)) ⟨sE_V rfl, trivial⟩
  exact poX (.head _) rfl hR (all_nil) (all_nil) (all_cons ⟨[s0, 0], ⟨sE_V rfl, sE_k _ _, trivial⟩, (show SAN (MT hp) (nmM hp) s0 (0 : Int) from Or.inl ⟨f0, rfl⟩)⟩ (all_nil))
theorem rl1006 : ruOk fFS gR1006 := by
  intro r hp hO hN hH
  have hr0 := len0 (show r.length = 0 from hN.1)
  subst hr0
  have hR := hN.2.1.1
  have hFc : ∀ q ∈ ([(12, [])] : List sFc), fcOk fFS [] hp q := hH.2
  have f0 : fPfs 275 690 hp := fcX (ys := []) (hFc _ (.head _)) trivial
  exact poX (.head _) rfl hR (all_nil) (all_nil) (all_cons ⟨[0, 0], ⟨sE_k _ _, sE_k _ _, trivial⟩, (show fDep 0 0 hp from dep0' f0 (by omega) (by omega))⟩ (all_nil))
theorem rl1007 : ruOk fFS gR1007 := by
  intro r hp hO hN hH
  obtain ⟨s0, s1, rfl⟩ := len2 (show r.length = 2 from hN.1)
  have hR := hN.2.1.1
  have hIv : ∀ q ∈ ([(0, .negSucc 2147483647, .ofNat 2147483647), (1, .negSucc 2147483647, .ofNat 2147483647)] : sIv), ∃ x, ([s0, s1] : List Int)[q.1]? = some x ∧ q.2.1 ≤ x ∧ x ≤ q.2.2 := hN.2.1.2
  have b1 : (-2147483648 : Int) ≤ s1 ∧ s1 ≤ (2147483647 : Int) := ivX (q := (1, .negSucc 2147483647, .ofNat 2147483647)) (y := s1) (hIv _ (.tail _ (.head _))) rfl
  have hRf : ∀ q ∈ ([((80, .ofNat 275, []), (.ofNat 691, [(.ofNat 3, 0)]), 1, .ofNat 0, [(.ofNat 1, 1)])] : List sRf), rfOk [s0, s1] hp q := hH.1
  obtain ⟨i0, e0, l0, h0⟩ := rfI (xv := s1) (iv := (3 * s0 + 691)) (hRf _ (.head _)) (sE_k _ _) (sEv (y' := ((691 : Int) + ((3 : Int) * s0 + 0))) rfl (by omega)) (sE_V rfl)
  have l0 : i0 < 871 := l0
  have h0 : hI hp 275 i0 = s1 := h0
  have y : (((-2147483648 : Int) ≤ s1 ∧ s1 ≤ (3 : Int))) ∨ (((4 : Int) ≤ s1 ∧ s1 ≤ (4 : Int))) ∨ (((5 : Int) ≤ s1 ∧ s1 ≤ (19 : Int))) ∨ (((20 : Int) ≤ s1 ∧ s1 ≤ (20 : Int))) ∨ (((21 : Int) ≤ s1 ∧ s1 ≤ (21 : Int))) ∨ (((22 : Int) ≤ s1 ∧ s1 ≤ (22 : Int))) ∨ (((23 : Int) ≤ s1 ∧ s1 ≤ (2147483647 : Int))) := by omega
  rcases y with y | y | y | y | y | y | y
  · exact poX (.head _) rfl hR (all_cons (ivO (y := s1) rfl (show (-2147483648 : Int) ≤ s1 by omega) (show s1 ≤ (3 : Int) by omega)) (all_nil)) (all_nil) (all_nil)
  · exact poX (.tail _ (.head _)) rfl hR (all_cons (ivO (y := s1) rfl (show (4 : Int) ≤ s1 by omega) (show s1 ≤ (4 : Int) by omega)) (all_nil)) (all_nil) (all_nil)
  · exact poX (.tail _ (.tail _ (.head _))) rfl hR (all_cons (ivO (y := s1) rfl (show (5 : Int) ≤ s1 by omega) (show s1 ≤ (19 : Int) by omega)) (all_nil)) (all_nil) (all_nil)
  · exact poX (.tail _ (.tail _ (.tail _ (.head _)))) rfl hR (all_cons (ivO (y := s1) rfl (show (20 : Int) ≤ s1 by omega) (show s1 ≤ (20 : Int) by omega)) (all_nil)) (all_nil) (all_nil)
  · exact poX (.tail _ (.tail _ (.tail _ (.tail _ (.head _))))) rfl hR (all_cons (ivO (y := s1) rfl (show (21 : Int) ≤ s1 by omega) (show s1 ≤ (21 : Int) by omega)) (all_nil)) (all_nil) (all_nil)
  · exact poX (.tail _ (.tail _ (.tail _ (.tail _ (.tail _ (.head _)))))) rfl hR (all_cons (ivO (y := s1) rfl (show (22 : Int) ≤ s1 by omega) (show s1 ≤ (22 : Int) by omega)) (all_nil)) (all_nil) (all_nil)
  · exact poX (.tail _ (.tail _ (.tail _ (.tail _ (.tail _ (.tail _ (.head _))))))) rfl hR (all_cons (ivO (y := s1) rfl (show (23 : Int) ≤ s1 by omega) (show s1 ≤ (2147483647 : Int) by omega)) (all_nil)) (all_nil) (all_nil)
theorem rl1008 : ruOk fFS gR1008 := by
  intro r hp hO hN hH
  obtain ⟨s0, s1, s2, s3, s4, rfl⟩ := len5 (show r.length = 5 from hN.1)
  have hR := hN.2.1.1
  have hIv : ∀ q ∈ ([(0, .negSucc 2147483647, .ofNat 2147483647), (1, .ofNat 0, .ofNat 52), (2, .negSucc 2147483647, .ofNat 2147483647), (3, .ofNat 20, .ofNat 20), (4, .negSucc 2147483647, .ofNat 2147483647)] : sIv), ∃ x, ([s0, s1, s2, s3, s4] : List Int)[q.1]? = some x ∧ q.2.1 ≤ x ∧ x ≤ q.2.2 := hN.2.1.2
  have b0 : (-2147483648 : Int) ≤ s0 ∧ s0 ≤ (2147483647 : Int) := ivX (q := (0, .negSucc 2147483647, .ofNat 2147483647)) (y := s0) (hIv _ (.head _)) rfl
  have b1 : (0 : Int) ≤ s1 ∧ s1 ≤ (52 : Int) := ivX (q := (1, .ofNat 0, .ofNat 52)) (y := s1) (hIv _ (.tail _ (.head _))) rfl
  have b3 : (20 : Int) ≤ s3 ∧ s3 ≤ (20 : Int) := ivX (q := (3, .ofNat 20, .ofNat 20)) (y := s3) (hIv _ (.tail _ (.tail _ (.tail _ (.head _))))) rfl
  have hCs : ∀ c ∈ ([(.ofNat 1, [(.ofNat 1, 1), (.negSucc 0, 2)])] : List sLn), ∃ x, sE [s0, s1, s2, s3, s4] c = some x ∧ x ≤ 0 := hN.2.2.1
  have c0 : ((1 : Int) + ((1 : Int) * s1 + ((-1 : Int) * s2 + 0))) ≤ 0 := csX (hCs _ (.head _)) rfl
  have hRf : ∀ q ∈ ([((80, .ofNat 275, []), (.ofNat 690, []), 1, .ofNat 0, [(.ofNat 1, 2)]), ((80, .ofNat 275, []), (.ofNat 691, [(.ofNat 3, 1)]), 1, .ofNat 0, [(.ofNat 1, 3)]), ((80, .ofNat 275, []), (.ofNat 693, [(.ofNat 3, 1)]), 1, .ofNat 0, [(.ofNat 1, 4)])] : List sRf), rfOk [s0, s1, s2, s3, s4] hp q := hH.1
  have h0 : hI hp 275 690 = s2 := rfI0 (hRf _ (.head _)) (sE_k _ _) (sE_k _ _) (sE_V rfl)
  have y0 : (0 : Int) ≤ s2 ∧ s2 ≤ (53 : Int) := by rw [← h0]; exact hI_ty hO (by decide) rfl
  obtain ⟨i1, e1, l1, h1⟩ := rfI (xv := s3) (iv := (3 * s1 + 691)) (hRf _ (.tail _ (.head _))) (sE_k _ _) (sEv (y' := ((691 : Int) + ((3 : Int) * s1 + 0))) rfl (by omega)) (sE_V rfl)
  have l1 : i1 < 871 := l1
  have h1 : hI hp 275 i1 = s3 := h1
  obtain ⟨i2, e2, l2, h2⟩ := rfI (xv := s4) (iv := (3 * s1 + 693)) (hRf _ (.tail _ (.tail _ (.head _)))) (sE_k _ _) (sEv (y' := ((693 : Int) + ((3 : Int) * s1 + 0))) rfl (by omega)) (sE_V rfl)
  have l2 : i2 < 871 := l2
  have h2 : hI hp 275 i2 = s4 := h2
  have hFc : ∀ q ∈ ([(13, [(.ofNat 0, [(.ofNat 1, 1)]), (.ofNat 0, [(.ofNat 1, 0)])])] : List sFc), fcOk fFS [s0, s1, s2, s3, s4] hp q := hH.2
  have f0 : fDep s1 s0 hp := fcX (ys := [s1, s0]) (hFc _ (.head _)) ⟨sE_V rfl, sE_V rfl, trivial⟩
  obtain ⟨d, u, u2⟩ := dep_use f0 h0 (by omega) h1 h2 (by omega) (by omega)
  unfold stC at u
  exact poX (.head _) rfl hR (all_cons (ivO (y := s0) rfl (show (1 : Int) ≤ s0 by omega) (show s0 ≤ (20 : Int) by omega)) (all_nil)) (all_nil) (all_cons ⟨[(s1 + 1), s0], ⟨sEv (y' := ((1 : Int) + ((1 : Int) * s1 + 0))) rfl (by omega), sE_V rfl, trivial⟩, (show fDep (s1 + 1) s0 hp from dep_cg u2 (by omega) (by omega))⟩ (all_nil))
theorem rl1009 : ruOk fFS gR1009 := by
  intro r hp hO hN hH
  obtain ⟨s0, s1, s2, s3, s4, rfl⟩ := len5 (show r.length = 5 from hN.1)
  have hR := hN.2.1.1
  have hIv : ∀ q ∈ ([(0, .negSucc 2147483647, .ofNat 2147483647), (1, .ofNat 0, .ofNat 52), (2, .negSucc 2147483647, .ofNat 2147483647), (3, .ofNat 21, .ofNat 22), (4, .negSucc 2147483647, .ofNat 2147483647)] : sIv), ∃ x, ([s0, s1, s2, s3, s4] : List Int)[q.1]? = some x ∧ q.2.1 ≤ x ∧ x ≤ q.2.2 := hN.2.1.2
  have b0 : (-2147483648 : Int) ≤ s0 ∧ s0 ≤ (2147483647 : Int) := ivX (q := (0, .negSucc 2147483647, .ofNat 2147483647)) (y := s0) (hIv _ (.head _)) rfl
  have b1 : (0 : Int) ≤ s1 ∧ s1 ≤ (52 : Int) := ivX (q := (1, .ofNat 0, .ofNat 52)) (y := s1) (hIv _ (.tail _ (.head _))) rfl
  have b3 : (21 : Int) ≤ s3 ∧ s3 ≤ (22 : Int) := ivX (q := (3, .ofNat 21, .ofNat 22)) (y := s3) (hIv _ (.tail _ (.tail _ (.tail _ (.head _))))) rfl
  have hCs : ∀ c ∈ ([(.ofNat 1, [(.ofNat 1, 1), (.negSucc 0, 2)])] : List sLn), ∃ x, sE [s0, s1, s2, s3, s4] c = some x ∧ x ≤ 0 := hN.2.2.1
  have c0 : ((1 : Int) + ((1 : Int) * s1 + ((-1 : Int) * s2 + 0))) ≤ 0 := csX (hCs _ (.head _)) rfl
  have hRf : ∀ q ∈ ([((80, .ofNat 275, []), (.ofNat 690, []), 1, .ofNat 0, [(.ofNat 1, 2)]), ((80, .ofNat 275, []), (.ofNat 691, [(.ofNat 3, 1)]), 1, .ofNat 0, [(.ofNat 1, 3)]), ((80, .ofNat 275, []), (.ofNat 693, [(.ofNat 3, 1)]), 1, .ofNat 0, [(.ofNat 1, 4)])] : List sRf), rfOk [s0, s1, s2, s3, s4] hp q := hH.1
  have h0 : hI hp 275 690 = s2 := rfI0 (hRf _ (.head _)) (sE_k _ _) (sE_k _ _) (sE_V rfl)
  have y0 : (0 : Int) ≤ s2 ∧ s2 ≤ (53 : Int) := by rw [← h0]; exact hI_ty hO (by decide) rfl
  obtain ⟨i1, e1, l1, h1⟩ := rfI (xv := s3) (iv := (3 * s1 + 691)) (hRf _ (.tail _ (.head _))) (sE_k _ _) (sEv (y' := ((691 : Int) + ((3 : Int) * s1 + 0))) rfl (by omega)) (sE_V rfl)
  have l1 : i1 < 871 := l1
  have h1 : hI hp 275 i1 = s3 := h1
  obtain ⟨i2, e2, l2, h2⟩ := rfI (xv := s4) (iv := (3 * s1 + 693)) (hRf _ (.tail _ (.tail _ (.head _)))) (sE_k _ _) (sEv (y' := ((693 : Int) + ((3 : Int) * s1 + 0))) rfl (by omega)) (sE_V rfl)
  have l2 : i2 < 871 := l2
  have h2 : hI hp 275 i2 = s4 := h2
  have hFc : ∀ q ∈ ([(13, [(.ofNat 0, [(.ofNat 1, 1)]), (.ofNat 0, [(.ofNat 1, 0)])])] : List sFc), fcOk fFS [s0, s1, s2, s3, s4] hp q := hH.2
  have f0 : fDep s1 s0 hp := fcX (ys := [s1, s0]) (hFc _ (.head _)) ⟨sE_V rfl, sE_V rfl, trivial⟩
  obtain ⟨d, u, u2⟩ := dep_use f0 h0 (by omega) h1 h2 (by omega) (by omega)
  unfold stC at u
  exact poX (.head _) rfl hR (all_cons (ivO (y := s0) rfl (show (2 : Int) ≤ s0 by omega) (show s0 ≤ (20 : Int) by omega)) (all_nil)) (all_nil) (all_cons ⟨[(s1 + 1), (s0 - 1)], ⟨sEv (y' := ((1 : Int) + ((1 : Int) * s1 + 0))) rfl (by omega), sEv (y' := ((-1 : Int) + ((1 : Int) * s0 + 0))) rfl (by omega), trivial⟩, (show fDep (s1 + 1) (s0 - 1) hp from dep_cg u2 (by omega) (by omega))⟩ (all_nil))
theorem rl1010 : ruOk fFS gR1010 := by
  intro r hp hO hN hH
  obtain ⟨s0, s1, s2, s3, s4, rfl⟩ := len5 (show r.length = 5 from hN.1)
  have hR := hN.2.1.1
  have hIv : ∀ q ∈ ([(0, .negSucc 2147483647, .ofNat 2147483647), (1, .ofNat 0, .ofNat 52), (2, .negSucc 2147483647, .ofNat 2147483647), (3, .ofNat 4, .ofNat 4), (4, .negSucc 2147483647, .ofNat 2147483647)] : sIv), ∃ x, ([s0, s1, s2, s3, s4] : List Int)[q.1]? = some x ∧ q.2.1 ≤ x ∧ x ≤ q.2.2 := hN.2.1.2
  have b0 : (-2147483648 : Int) ≤ s0 ∧ s0 ≤ (2147483647 : Int) := ivX (q := (0, .negSucc 2147483647, .ofNat 2147483647)) (y := s0) (hIv _ (.head _)) rfl
  have b1 : (0 : Int) ≤ s1 ∧ s1 ≤ (52 : Int) := ivX (q := (1, .ofNat 0, .ofNat 52)) (y := s1) (hIv _ (.tail _ (.head _))) rfl
  have b3 : (4 : Int) ≤ s3 ∧ s3 ≤ (4 : Int) := ivX (q := (3, .ofNat 4, .ofNat 4)) (y := s3) (hIv _ (.tail _ (.tail _ (.tail _ (.head _))))) rfl
  have b4 : (-2147483648 : Int) ≤ s4 ∧ s4 ≤ (2147483647 : Int) := ivX (q := (4, .negSucc 2147483647, .ofNat 2147483647)) (y := s4) (hIv _ (.tail _ (.tail _ (.tail _ (.tail _ (.head _)))))) rfl
  have hCs : ∀ c ∈ ([(.ofNat 1, [(.ofNat 1, 1), (.negSucc 0, 2)])] : List sLn), ∃ x, sE [s0, s1, s2, s3, s4] c = some x ∧ x ≤ 0 := hN.2.2.1
  have c0 : ((1 : Int) + ((1 : Int) * s1 + ((-1 : Int) * s2 + 0))) ≤ 0 := csX (hCs _ (.head _)) rfl
  have hRf : ∀ q ∈ ([((80, .ofNat 275, []), (.ofNat 690, []), 1, .ofNat 0, [(.ofNat 1, 2)]), ((80, .ofNat 275, []), (.ofNat 691, [(.ofNat 3, 1)]), 1, .ofNat 0, [(.ofNat 1, 3)]), ((80, .ofNat 275, []), (.ofNat 693, [(.ofNat 3, 1)]), 1, .ofNat 0, [(.ofNat 1, 4)])] : List sRf), rfOk [s0, s1, s2, s3, s4] hp q := hH.1
  have h0 : hI hp 275 690 = s2 := rfI0 (hRf _ (.head _)) (sE_k _ _) (sE_k _ _) (sE_V rfl)
  have y0 : (0 : Int) ≤ s2 ∧ s2 ≤ (53 : Int) := by rw [← h0]; exact hI_ty hO (by decide) rfl
  obtain ⟨i1, e1, l1, h1⟩ := rfI (xv := s3) (iv := (3 * s1 + 691)) (hRf _ (.tail _ (.head _))) (sE_k _ _) (sEv (y' := ((691 : Int) + ((3 : Int) * s1 + 0))) rfl (by omega)) (sE_V rfl)
  have l1 : i1 < 871 := l1
  have h1 : hI hp 275 i1 = s3 := h1
  obtain ⟨i2, e2, l2, h2⟩ := rfI (xv := s4) (iv := (3 * s1 + 693)) (hRf _ (.tail _ (.tail _ (.head _)))) (sE_k _ _) (sEv (y' := ((693 : Int) + ((3 : Int) * s1 + 0))) rfl (by omega)) (sE_V rfl)
  have l2 : i2 < 871 := l2
  have h2 : hI hp 275 i2 = s4 := h2
  have hFc : ∀ q ∈ ([(13, [(.ofNat 0, [(.ofNat 1, 1)]), (.ofNat 0, [(.ofNat 1, 0)])])] : List sFc), fcOk fFS [s0, s1, s2, s3, s4] hp q := hH.2
  have f0 : fDep s1 s0 hp := fcX (ys := [s1, s0]) (hFc _ (.head _)) ⟨sE_V rfl, sE_V rfl, trivial⟩
  obtain ⟨d, u, u2⟩ := dep_use f0 h0 (by omega) h1 h2 (by omega) (by omega)
  unfold stC at u
  exact poX (.head _) rfl hR (all_cons (ivO (y := s0) rfl (show (0 : Int) ≤ s0 by omega) (show s0 ≤ (19 : Int) by omega)) (all_cons (ivO (y := s4) rfl (show (0 : Int) ≤ s4 by omega) (show s4 ≤ (2 : Int) by omega)) (all_nil))) (all_nil) (all_cons ⟨[(s1 + 1), (s0 + 1)], ⟨sEv (y' := ((1 : Int) + ((1 : Int) * s1 + 0))) rfl (by omega), sEv (y' := ((1 : Int) + ((1 : Int) * s0 + 0))) rfl (by omega), trivial⟩, (show fDep (s1 + 1) (s0 + 1) hp from dep_cg u2 (by omega) (by omega))⟩ (all_nil))
theorem rl1011 : ruOk fFS gR1011 := by
  intro r hp hO hN hH
  obtain ⟨s0, s1, s2, s3, s4, rfl⟩ := len5 (show r.length = 5 from hN.1)
  have hR := hN.2.1.1
  have hIv : ∀ q ∈ ([(0, .negSucc 2147483647, .ofNat 2147483647), (1, .ofNat 0, .ofNat 52), (2, .negSucc 2147483647, .ofNat 2147483647), (3, .negSucc 2147483647, .ofNat 19), (4, .negSucc 2147483647, .ofNat 2147483647)] : sIv), ∃ x, ([s0, s1, s2, s3, s4] : List Int)[q.1]? = some x ∧ q.2.1 ≤ x ∧ x ≤ q.2.2 := hN.2.1.2
  have b0 : (-2147483648 : Int) ≤ s0 ∧ s0 ≤ (2147483647 : Int) := ivX (q := (0, .negSucc 2147483647, .ofNat 2147483647)) (y := s0) (hIv _ (.head _)) rfl
  have b1 : (0 : Int) ≤ s1 ∧ s1 ≤ (52 : Int) := ivX (q := (1, .ofNat 0, .ofNat 52)) (y := s1) (hIv _ (.tail _ (.head _))) rfl
  have b3 : (-2147483648 : Int) ≤ s3 ∧ s3 ≤ (19 : Int) := ivX (q := (3, .negSucc 2147483647, .ofNat 19)) (y := s3) (hIv _ (.tail _ (.tail _ (.tail _ (.head _))))) rfl
  have hCs : ∀ c ∈ ([(.ofNat 1, [(.ofNat 1, 1), (.negSucc 0, 2)])] : List sLn), ∃ x, sE [s0, s1, s2, s3, s4] c = some x ∧ x ≤ 0 := hN.2.2.1
  have c0 : ((1 : Int) + ((1 : Int) * s1 + ((-1 : Int) * s2 + 0))) ≤ 0 := csX (hCs _ (.head _)) rfl
  have hRf : ∀ q ∈ ([((80, .ofNat 275, []), (.ofNat 690, []), 1, .ofNat 0, [(.ofNat 1, 2)]), ((80, .ofNat 275, []), (.ofNat 691, [(.ofNat 3, 1)]), 1, .ofNat 0, [(.ofNat 1, 3)]), ((80, .ofNat 275, []), (.ofNat 693, [(.ofNat 3, 1)]), 1, .ofNat 0, [(.ofNat 1, 4)])] : List sRf), rfOk [s0, s1, s2, s3, s4] hp q := hH.1
  have h0 : hI hp 275 690 = s2 := rfI0 (hRf _ (.head _)) (sE_k _ _) (sE_k _ _) (sE_V rfl)
  have y0 : (0 : Int) ≤ s2 ∧ s2 ≤ (53 : Int) := by rw [← h0]; exact hI_ty hO (by decide) rfl
  obtain ⟨i1, e1, l1, h1⟩ := rfI (xv := s3) (iv := (3 * s1 + 691)) (hRf _ (.tail _ (.head _))) (sE_k _ _) (sEv (y' := ((691 : Int) + ((3 : Int) * s1 + 0))) rfl (by omega)) (sE_V rfl)
  have l1 : i1 < 871 := l1
  have h1 : hI hp 275 i1 = s3 := h1
  obtain ⟨i2, e2, l2, h2⟩ := rfI (xv := s4) (iv := (3 * s1 + 693)) (hRf _ (.tail _ (.tail _ (.head _)))) (sE_k _ _) (sEv (y' := ((693 : Int) + ((3 : Int) * s1 + 0))) rfl (by omega)) (sE_V rfl)
  have l2 : i2 < 871 := l2
  have h2 : hI hp 275 i2 = s4 := h2
  have hFc : ∀ q ∈ ([(13, [(.ofNat 0, [(.ofNat 1, 1)]), (.ofNat 0, [(.ofNat 1, 0)])])] : List sFc), fcOk fFS [s0, s1, s2, s3, s4] hp q := hH.2
  have f0 : fDep s1 s0 hp := fcX (ys := [s1, s0]) (hFc _ (.head _)) ⟨sE_V rfl, sE_V rfl, trivial⟩
  obtain ⟨d, u, u2⟩ := dep_use f0 h0 (by omega) h1 h2 (by omega) (by omega)
  unfold stC at u
  exact poX (.head _) rfl hR (all_cons (ivO (y := s0) rfl (show (0 : Int) ≤ s0 by omega) (show s0 ≤ (19 : Int) by omega)) (all_nil)) (all_nil) (all_cons ⟨[(s1 + 1), (s0 + 1)], ⟨sEv (y' := ((1 : Int) + ((1 : Int) * s1 + 0))) rfl (by omega), sEv (y' := ((1 : Int) + ((1 : Int) * s0 + 0))) rfl (by omega), trivial⟩, (show fDep (s1 + 1) (s0 + 1) hp from dep_cg u2 (by omega) (by omega))⟩ (all_nil))
theorem rl1012 : ruOk fFS gR1012 := by
  intro r hp hO hN hH
  obtain ⟨s0, s1, s2, s3, s4, rfl⟩ := len5 (show r.length = 5 from hN.1)
  have hR := hN.2.1.1
  have hIv : ∀ q ∈ ([(0, .negSucc 2147483647, .ofNat 2147483647), (1, .ofNat 0, .ofNat 52), (2, .negSucc 2147483647, .ofNat 2147483647), (3, .ofNat 23, .ofNat 2147483647), (4, .negSucc 2147483647, .ofNat 2147483647)] : sIv), ∃ x, ([s0, s1, s2, s3, s4] : List Int)[q.1]? = some x ∧ q.2.1 ≤ x ∧ x ≤ q.2.2 := hN.2.1.2
  have b0 : (-2147483648 : Int) ≤ s0 ∧ s0 ≤ (2147483647 : Int) := ivX (q := (0, .negSucc 2147483647, .ofNat 2147483647)) (y := s0) (hIv _ (.head _)) rfl
  have b1 : (0 : Int) ≤ s1 ∧ s1 ≤ (52 : Int) := ivX (q := (1, .ofNat 0, .ofNat 52)) (y := s1) (hIv _ (.tail _ (.head _))) rfl
  have b3 : (23 : Int) ≤ s3 ∧ s3 ≤ (2147483647 : Int) := ivX (q := (3, .ofNat 23, .ofNat 2147483647)) (y := s3) (hIv _ (.tail _ (.tail _ (.tail _ (.head _))))) rfl
  have hCs : ∀ c ∈ ([(.ofNat 1, [(.ofNat 1, 1), (.negSucc 0, 2)])] : List sLn), ∃ x, sE [s0, s1, s2, s3, s4] c = some x ∧ x ≤ 0 := hN.2.2.1
  have c0 : ((1 : Int) + ((1 : Int) * s1 + ((-1 : Int) * s2 + 0))) ≤ 0 := csX (hCs _ (.head _)) rfl
  have hRf : ∀ q ∈ ([((80, .ofNat 275, []), (.ofNat 690, []), 1, .ofNat 0, [(.ofNat 1, 2)]), ((80, .ofNat 275, []), (.ofNat 691, [(.ofNat 3, 1)]), 1, .ofNat 0, [(.ofNat 1, 3)]), ((80, .ofNat 275, []), (.ofNat 693, [(.ofNat 3, 1)]), 1, .ofNat 0, [(.ofNat 1, 4)])] : List sRf), rfOk [s0, s1, s2, s3, s4] hp q := hH.1
  have h0 : hI hp 275 690 = s2 := rfI0 (hRf _ (.head _)) (sE_k _ _) (sE_k _ _) (sE_V rfl)
  have y0 : (0 : Int) ≤ s2 ∧ s2 ≤ (53 : Int) := by rw [← h0]; exact hI_ty hO (by decide) rfl
  obtain ⟨i1, e1, l1, h1⟩ := rfI (xv := s3) (iv := (3 * s1 + 691)) (hRf _ (.tail _ (.head _))) (sE_k _ _) (sEv (y' := ((691 : Int) + ((3 : Int) * s1 + 0))) rfl (by omega)) (sE_V rfl)
  have l1 : i1 < 871 := l1
  have h1 : hI hp 275 i1 = s3 := h1
  obtain ⟨i2, e2, l2, h2⟩ := rfI (xv := s4) (iv := (3 * s1 + 693)) (hRf _ (.tail _ (.tail _ (.head _)))) (sE_k _ _) (sEv (y' := ((693 : Int) + ((3 : Int) * s1 + 0))) rfl (by omega)) (sE_V rfl)
  have l2 : i2 < 871 := l2
  have h2 : hI hp 275 i2 = s4 := h2
  have hFc : ∀ q ∈ ([(13, [(.ofNat 0, [(.ofNat 1, 1)]), (.ofNat 0, [(.ofNat 1, 0)])])] : List sFc), fcOk fFS [s0, s1, s2, s3, s4] hp q := hH.2
  have f0 : fDep s1 s0 hp := fcX (ys := [s1, s0]) (hFc _ (.head _)) ⟨sE_V rfl, sE_V rfl, trivial⟩
  obtain ⟨d, u, u2⟩ := dep_use f0 h0 (by omega) h1 h2 (by omega) (by omega)
  unfold stC at u
  exact poX (.head _) rfl hR (all_cons (ivO (y := s0) rfl (show (0 : Int) ≤ s0 by omega) (show s0 ≤ (19 : Int) by omega)) (all_nil)) (all_nil) (all_cons ⟨[(s1 + 1), (s0 + 1)], ⟨sEv (y' := ((1 : Int) + ((1 : Int) * s1 + 0))) rfl (by omega), sEv (y' := ((1 : Int) + ((1 : Int) * s0 + 0))) rfl (by omega), trivial⟩, (show fDep (s1 + 1) (s0 + 1) hp from dep_cg u2 (by omega) (by omega))⟩ (all_nil))
theorem rl1013 : ruOk fFS gR1013 := by
  intro r hp hO hN hH
  have hr0 := len0 (show r.length = 0 from hN.1)
  subst hr0
  have hR := hN.2.1.1
  exact poX (.head _) rfl hR (all_nil) (all_nil) (all_cons ⟨[0], ⟨sE_k _ _, trivial⟩, (show fEq 289 0 275 0 871 0 hp from eq0 (by omega))⟩ (all_nil))
theorem rl1014 : ruOk fFS gR1014 := by
  intro r hp hO hN hH
  have hr0 := len0 (show r.length = 0 from hN.1)
  subst hr0
  have hR := hN.2.1.1
  exact poX (.head _) rfl hR (all_nil) (all_nil) (all_cons ⟨[0], ⟨sE_k _ _, trivial⟩, (show fEq 289 871 275 0 871 0 hp from eq0 (by omega))⟩ (all_nil))
theorem rl1015 : ruOk fFS gR1015 := by
  intro r hp hO hN hH
  obtain ⟨s0, s1, rfl⟩ := len2 (show r.length = 2 from hN.1)
  have hR := hN.2.1.1
  have hIv : ∀ q ∈ ([(0, .ofNat 0, .ofNat 870), (1, .negSucc 2147483647, .ofNat 2147483647)] : sIv), ∃ x, ([s0, s1] : List Int)[q.1]? = some x ∧ q.2.1 ≤ x ∧ x ≤ q.2.2 := hN.2.1.2
  have b0 : (0 : Int) ≤ s0 ∧ s0 ≤ (870 : Int) := ivX (q := (0, .ofNat 0, .ofNat 870)) (y := s0) (hIv _ (.head _)) rfl
  have hRf : ∀ q ∈ ([((94, .ofNat 289, []), (.ofNat 871, [(.ofNat 1, 0)]), 1, .ofNat 0, [(.ofNat 1, 1)]), ((80, .ofNat 275, []), (.ofNat 0, [(.ofNat 1, 0)]), 1, .ofNat 0, [(.ofNat 1, 1)])] : List sRf), rfOk [s0, s1] hp q := hH.1
  obtain ⟨i0, e0, l0, h0⟩ := rfI (xv := s1) (iv := (s0 + 871)) (hRf _ (.head _)) (sE_k _ _) (sEv (y' := ((871 : Int) + ((1 : Int) * s0 + 0))) rfl (by omega)) (sE_V rfl)
  have l0 : i0 < 1742 := l0
  have h0 : hI hp 289 i0 = s1 := h0
  obtain ⟨i1, e1, l1, h1⟩ := rfI (xv := s1) (iv := s0) (hRf _ (.tail _ (.head _))) (sE_k _ _) (sE_V rfl) (sE_V rfl)
  have l1 : i1 < 871 := l1
  have h1 : hI hp 275 i1 = s1 := h1
  have hFc : ∀ q ∈ ([(20, [(.ofNat 0, [(.ofNat 1, 0)])])] : List sFc), fcOk fFS [s0, s1] hp q := hH.2
  have f0 : fEq 289 871 275 0 871 s0 hp := fcX (ys := [s0]) (hFc _ (.head _)) ⟨sE_V rfl, trivial⟩
  exact poX (.head _) rfl hR (all_nil) (all_nil) (all_cons ⟨[(s0 + 1)], ⟨sEv (y' := ((1 : Int) + ((1 : Int) * s0 + 0))) rfl (by omega), trivial⟩, (show fEq 289 871 275 0 871 (s0 + 1) hp from eq_add f0 h0 h1 (by omega) (by omega) (by omega))⟩ (all_nil))
theorem rl1016 : ruOk fFS gR1016 := by
  intro r hp hO hN hH
  obtain ⟨s0, s1, rfl⟩ := len2 (show r.length = 2 from hN.1)
  have hR := hN.2.1.1
  have hIv : ∀ q ∈ ([(0, .ofNat 0, .ofNat 870), (1, .negSucc 2147483647, .ofNat 2147483647)] : sIv), ∃ x, ([s0, s1] : List Int)[q.1]? = some x ∧ q.2.1 ≤ x ∧ x ≤ q.2.2 := hN.2.1.2
  have b0 : (0 : Int) ≤ s0 ∧ s0 ≤ (870 : Int) := ivX (q := (0, .ofNat 0, .ofNat 870)) (y := s0) (hIv _ (.head _)) rfl
  have hRf : ∀ q ∈ ([((94, .ofNat 289, []), (.ofNat 0, [(.ofNat 1, 0)]), 1, .ofNat 0, [(.ofNat 1, 1)]), ((80, .ofNat 275, []), (.ofNat 0, [(.ofNat 1, 0)]), 1, .ofNat 0, [(.ofNat 1, 1)])] : List sRf), rfOk [s0, s1] hp q := hH.1
  obtain ⟨i0, e0, l0, h0⟩ := rfI (xv := s1) (iv := s0) (hRf _ (.head _)) (sE_k _ _) (sE_V rfl) (sE_V rfl)
  have l0 : i0 < 1742 := l0
  have h0 : hI hp 289 i0 = s1 := h0
  obtain ⟨i1, e1, l1, h1⟩ := rfI (xv := s1) (iv := s0) (hRf _ (.tail _ (.head _))) (sE_k _ _) (sE_V rfl) (sE_V rfl)
  have l1 : i1 < 871 := l1
  have h1 : hI hp 275 i1 = s1 := h1
  have hFc : ∀ q ∈ ([(18, [(.ofNat 0, [(.ofNat 1, 0)])])] : List sFc), fcOk fFS [s0, s1] hp q := hH.2
  have f0 : fEq 289 0 275 0 871 s0 hp := fcX (ys := [s0]) (hFc _ (.head _)) ⟨sE_V rfl, trivial⟩
  exact poX (.head _) rfl hR (all_nil) (all_nil) (all_cons ⟨[(s0 + 1)], ⟨sEv (y' := ((1 : Int) + ((1 : Int) * s0 + 0))) rfl (by omega), trivial⟩, (show fEq 289 0 275 0 871 (s0 + 1) hp from eq_add f0 h0 h1 (by omega) (by omega) (by omega))⟩ (all_nil))
theorem rl1017 : ruOk fFS gR1017 := by
  intro r hp hO hN hH
  have hr0 := len0 (show r.length = 0 from hN.1)
  subst hr0
  have hR := hN.2.1.1
  exact poX (.head _) rfl hR (all_nil) (all_nil) (all_cons ⟨[0], ⟨sE_k _ _, trivial⟩, (show ∀ j : Nat, j < 12 → (j : Int) < (0 : Int) → hL hp 290 (12 + j) = hL hp 278 j from fun j _ w => absurd w (by omega))⟩ (all_nil))
theorem rl1018 : ruOk fFS gR1018 := by
  intro r hp hO hN hH
  have hr0 := len0 (show r.length = 0 from hN.1)
  subst hr0
  have hR := hN.2.1.1
  exact poX (.head _) rfl hR (all_nil) (all_nil) (all_cons ⟨[0], ⟨sE_k _ _, trivial⟩, (show ∀ j : Nat, j < 12 → (j : Int) < (0 : Int) → hL hp 290 (0 + j) = hL hp 278 j from fun j _ w => absurd w (by omega))⟩ (all_nil))
theorem rl1019 : ruOk fFS gR1019 := by
  intro r hp hO hN hH
  obtain ⟨s0, s1, rfl⟩ := len2 (show r.length = 2 from hN.1)
  have hR := hN.2.1.1
  have hIv : ∀ q ∈ ([(0, .ofNat 0, .ofNat 11)] : sIv), ∃ x, ([s0, s1] : List Int)[q.1]? = some x ∧ q.2.1 ≤ x ∧ x ≤ q.2.2 := hN.2.1.2
  have b0 : (0 : Int) ≤ s0 ∧ s0 ≤ (11 : Int) := ivX (q := (0, .ofNat 0, .ofNat 11)) (y := s0) (hIv _ (.head _)) rfl
  have hRf : ∀ q ∈ ([((95, .ofNat 290, []), (.ofNat 12, [(.ofNat 1, 0)]), 5, .ofNat 0, [(.ofNat 1, 1)]), ((83, .ofNat 278, []), (.ofNat 0, [(.ofNat 1, 0)]), 5, .ofNat 0, [(.ofNat 1, 1)])] : List sRf), rfOk [s0, s1] hp q := hH.1
  obtain ⟨i0, e0, l0, h0⟩ := rfL (iv := (s0 + 12)) (hRf _ (.head _)) (sE_k _ _) (sEv (y' := ((12 : Int) + ((1 : Int) * s0 + 0))) rfl (by omega)) (sE_V rfl)
  have l0 : i0 < 24 := l0
  have h0 : hL hp 290 i0 = s1 := h0
  obtain ⟨i1, e1, l1, h1⟩ := rfL (iv := s0) (hRf _ (.tail _ (.head _))) (sE_k _ _) (sE_V rfl) (sE_V rfl)
  have l1 : i1 < 24 := l1
  have h1 : hL hp 278 i1 = s1 := h1
  have hFc : ∀ q ∈ ([(239, [(.ofNat 0, [(.ofNat 1, 0)])])] : List sFc), fcOk fFS [s0, s1] hp q := hH.2
  have f0 : ∀ j : Nat, j < 12 → (j : Int) < s0 → hL hp 290 (12 + j) = hL hp 278 j := fcX (ys := [s0]) (hFc _ (.head _)) ⟨sE_V rfl, trivial⟩
  exact poX (.head _) rfl hR (all_nil) (all_nil) (all_cons ⟨[(s0 + 1)], ⟨sEv (y' := ((1 : Int) + ((1 : Int) * s0 + 0))) rfl (by omega), trivial⟩, (show ∀ j : Nat, j < 12 → (j : Int) < (s0 + 1) → hL hp 290 (12 + j) = hL hp 278 j from nmc_s (X := fun j => hL hp 290 (12 + j)) (Y := fun j => hL hp 278 j) (j0 := i1) f0 (by show hL hp 290 (12 + i1) = _; rw [show 12 + i1 = i0 by omega, h0]) h1 (by omega) (by omega))⟩ (all_nil))
theorem rl1020 : ruOk fFS gR1020 := by
  intro r hp hO hN hH
  obtain ⟨s0, s1, rfl⟩ := len2 (show r.length = 2 from hN.1)
  have hR := hN.2.1.1
  have hIv : ∀ q ∈ ([(0, .ofNat 0, .ofNat 11)] : sIv), ∃ x, ([s0, s1] : List Int)[q.1]? = some x ∧ q.2.1 ≤ x ∧ x ≤ q.2.2 := hN.2.1.2
  have b0 : (0 : Int) ≤ s0 ∧ s0 ≤ (11 : Int) := ivX (q := (0, .ofNat 0, .ofNat 11)) (y := s0) (hIv _ (.head _)) rfl
  have hRf : ∀ q ∈ ([((95, .ofNat 290, []), (.ofNat 0, [(.ofNat 1, 0)]), 5, .ofNat 0, [(.ofNat 1, 1)]), ((83, .ofNat 278, []), (.ofNat 0, [(.ofNat 1, 0)]), 5, .ofNat 0, [(.ofNat 1, 1)])] : List sRf), rfOk [s0, s1] hp q := hH.1
  obtain ⟨i0, e0, l0, h0⟩ := rfL (iv := s0) (hRf _ (.head _)) (sE_k _ _) (sE_V rfl) (sE_V rfl)
  have l0 : i0 < 24 := l0
  have h0 : hL hp 290 i0 = s1 := h0
  obtain ⟨i1, e1, l1, h1⟩ := rfL (iv := s0) (hRf _ (.tail _ (.head _))) (sE_k _ _) (sE_V rfl) (sE_V rfl)
  have l1 : i1 < 24 := l1
  have h1 : hL hp 278 i1 = s1 := h1
  have hFc : ∀ q ∈ ([(234, [(.ofNat 0, [(.ofNat 1, 0)])])] : List sFc), fcOk fFS [s0, s1] hp q := hH.2
  have f0 : ∀ j : Nat, j < 12 → (j : Int) < s0 → hL hp 290 (0 + j) = hL hp 278 j := fcX (ys := [s0]) (hFc _ (.head _)) ⟨sE_V rfl, trivial⟩
  exact poX (.head _) rfl hR (all_nil) (all_nil) (all_cons ⟨[(s0 + 1)], ⟨sEv (y' := ((1 : Int) + ((1 : Int) * s0 + 0))) rfl (by omega), trivial⟩, (show ∀ j : Nat, j < 12 → (j : Int) < (s0 + 1) → hL hp 290 (0 + j) = hL hp 278 j from nmc_s (X := fun j => hL hp 290 (0 + j)) (Y := fun j => hL hp 278 j) (j0 := i1) f0 (by show hL hp 290 (0 + i1) = _; rw [show 0 + i1 = i0 by omega, h0]) h1 (by omega) (by omega))⟩ (all_nil))
theorem rl1021 : ruOk fFS gR1021 := by
  intro r hp hO hN hH
  obtain ⟨s0, s1, rfl⟩ := len2 (show r.length = 2 from hN.1)
  have hR := hN.2.1.1
  have hIv : ∀ q ∈ ([(0, .ofNat 0, .ofNat 8), (1, .ofNat 871, .ofNat 871)] : sIv), ∃ x, ([s0, s1] : List Int)[q.1]? = some x ∧ q.2.1 ≤ x ∧ x ≤ q.2.2 := hN.2.1.2
  have b0 : (0 : Int) ≤ s0 ∧ s0 ≤ (8 : Int) := ivX (q := (0, .ofNat 0, .ofNat 8)) (y := s0) (hIv _ (.head _)) rfl
  have b1 : (871 : Int) ≤ s1 ∧ s1 ≤ (871 : Int) := ivX (q := (1, .ofNat 871, .ofNat 871)) (y := s1) (hIv _ (.tail _ (.head _))) rfl
  have hRf : ∀ q ∈ ([((80, .ofNat 275, []), (.ofNat 6, []), 1, .ofNat 0, [(.ofNat 1, 0)])] : List sRf), rfOk [s0, s1] hp q := hH.1
  have h0 : hI hp 275 6 = s0 := rfI0 (hRf _ (.head _)) (sE_k _ _) (sE_k _ _) (sE_V rfl)
  have y0 : (0 : Int) ≤ s0 ∧ s0 ≤ (8 : Int) := by rw [← h0]; exact hI_ty hO (by decide) rfl
  have hFc : ∀ q ∈ ([(20, [(.ofNat 0, [(.ofNat 1, 1)])]), (7, [(.ofNat 0, [(.ofNat 1, 0)])]), (12, [])] : List sFc), fcOk fFS [s0, s1] hp q := hH.2
  have f0 : fEq 289 871 275 0 871 s1 hp := fcX (ys := [s1]) (hFc _ (.head _)) ⟨sE_V rfl, trivial⟩
  have f1 : fCh 275 250 s0 hp := fcX (ys := [s0]) (hFc _ (.tail _ (.head _))) ⟨sE_V rfl, trivial⟩
  have f2 : fPfs 275 690 hp := fcX (ys := []) (hFc _ (.tail _ (.tail _ (.head _)))) trivial
  exact poX (.head _) rfl hR (all_nil) (all_nil) (all_cons ⟨[], trivial, (show fKept 871 1 hp from kept_of hO f0 (by omega) h0 f1 f2)⟩ (all_nil))
theorem rl1022 : ruOk fFS gR1022 := by
  intro r hp hO hN hH
  obtain ⟨s0, s1, rfl⟩ := len2 (show r.length = 2 from hN.1)
  have hR := hN.2.1.1
  have hIv : ∀ q ∈ ([(0, .ofNat 871, .ofNat 871), (1, .ofNat 12, .ofNat 12)] : sIv), ∃ x, ([s0, s1] : List Int)[q.1]? = some x ∧ q.2.1 ≤ x ∧ x ≤ q.2.2 := hN.2.1.2
  have b0 : (871 : Int) ≤ s0 ∧ s0 ≤ (871 : Int) := ivX (q := (0, .ofNat 871, .ofNat 871)) (y := s0) (hIv _ (.head _)) rfl
  have b1 : (12 : Int) ≤ s1 ∧ s1 ≤ (12 : Int) := ivX (q := (1, .ofNat 12, .ofNat 12)) (y := s1) (hIv _ (.tail _ (.head _))) rfl
  have hFc : ∀ q ∈ ([(235, []), (20, [(.ofNat 0, [(.ofNat 1, 0)])]), (239, [(.ofNat 0, [(.ofNat 1, 1)])])] : List sFc), fcOk fFS [s0, s1] hp q := hH.2
  have f0 : (∀ c L, isW L → (nmR hp 244 c L ↔ nmM hp c L)) ∧ hI hp 243 0 = hI hp 275 0 ∧ hI hp 243 1 = hI hp 275 1 := fcX (ys := []) (hFc _ (.head _)) trivial
  have f1 : fEq 289 871 275 0 871 s0 hp := fcX (ys := [s0]) (hFc _ (.tail _ (.head _))) ⟨sE_V rfl, trivial⟩
  have f2 : ∀ j : Nat, j < 12 → (j : Int) < s1 → hL hp 290 (12 + j) = hL hp 278 j := fcX (ys := [s1]) (hFc _ (.tail _ (.tail _ (.head _)))) ⟨sE_V rfl, trivial⟩
  have u0 := f1 0 (by omega) (by omega)
  have u1 := f1 1 (by omega) (by omega)
  rw [Nat.zero_add] at u0 u1
  exact poX (.head _) rfl hR (all_nil) (all_nil) (all_cons ⟨[], trivial, (show (∀ c L, isW L → (nmR hp 244 c L ↔ nmK hp 1 c L)) ∧ (hI hp 289 871 = 0 ∨ (hI hp 243 0 = hI hp 289 871 ∧ hI hp 243 1 = hI hp 289 872)) from (by have w := al_r f0 (nmm_k (k' := 1) f1 (by omega) f2 (by omega)) u0.symm u1.symm; exact ⟨w.1, Or.inr w.2⟩))⟩ (all_nil))
theorem rl1023 : ruOk fFS gR1023 := by
  intro r hp hO hN hH
  obtain ⟨s0, s1, rfl⟩ := len2 (show r.length = 2 from hN.1)
  have hR := hN.2.1.1
  have hIv : ∀ q ∈ ([(0, .ofNat 0, .ofNat 8), (1, .ofNat 871, .ofNat 871)] : sIv), ∃ x, ([s0, s1] : List Int)[q.1]? = some x ∧ q.2.1 ≤ x ∧ x ≤ q.2.2 := hN.2.1.2
  have b0 : (0 : Int) ≤ s0 ∧ s0 ≤ (8 : Int) := ivX (q := (0, .ofNat 0, .ofNat 8)) (y := s0) (hIv _ (.head _)) rfl
  have b1 : (871 : Int) ≤ s1 ∧ s1 ≤ (871 : Int) := ivX (q := (1, .ofNat 871, .ofNat 871)) (y := s1) (hIv _ (.tail _ (.head _))) rfl
  have hRf : ∀ q ∈ ([((80, .ofNat 275, []), (.ofNat 6, []), 1, .ofNat 0, [(.ofNat 1, 0)])] : List sRf), rfOk [s0, s1] hp q := hH.1
  have h0 : hI hp 275 6 = s0 := rfI0 (hRf _ (.head _)) (sE_k _ _) (sE_k _ _) (sE_V rfl)
  have y0 : (0 : Int) ≤ s0 ∧ s0 ≤ (8 : Int) := by rw [← h0]; exact hI_ty hO (by decide) rfl
  have hFc : ∀ q ∈ ([(18, [(.ofNat 0, [(.ofNat 1, 1)])]), (7, [(.ofNat 0, [(.ofNat 1, 0)])]), (12, [])] : List sFc), fcOk fFS [s0, s1] hp q := hH.2
  have f0 : fEq 289 0 275 0 871 s1 hp := fcX (ys := [s1]) (hFc _ (.head _)) ⟨sE_V rfl, trivial⟩
  have f1 : fCh 275 250 s0 hp := fcX (ys := [s0]) (hFc _ (.tail _ (.head _))) ⟨sE_V rfl, trivial⟩
  have f2 : fPfs 275 690 hp := fcX (ys := []) (hFc _ (.tail _ (.tail _ (.head _)))) trivial
  exact poX (.head _) rfl hR (all_nil) (all_nil) (all_cons ⟨[], trivial, (show fKept 0 0 hp from kept_of hO f0 (by omega) h0 f1 f2)⟩ (all_nil))
theorem rl1024 : ruOk fFS gR1024 := by
  intro r hp hO hN hH
  obtain ⟨s0, s1, rfl⟩ := len2 (show r.length = 2 from hN.1)
  have hR := hN.2.1.1
  have hIv : ∀ q ∈ ([(0, .ofNat 871, .ofNat 871), (1, .ofNat 12, .ofNat 12)] : sIv), ∃ x, ([s0, s1] : List Int)[q.1]? = some x ∧ q.2.1 ≤ x ∧ x ≤ q.2.2 := hN.2.1.2
  have b0 : (871 : Int) ≤ s0 ∧ s0 ≤ (871 : Int) := ivX (q := (0, .ofNat 871, .ofNat 871)) (y := s0) (hIv _ (.head _)) rfl
  have b1 : (12 : Int) ≤ s1 ∧ s1 ≤ (12 : Int) := ivX (q := (1, .ofNat 12, .ofNat 12)) (y := s1) (hIv _ (.tail _ (.head _))) rfl
  have hFc : ∀ q ∈ ([(230, []), (18, [(.ofNat 0, [(.ofNat 1, 0)])]), (234, [(.ofNat 0, [(.ofNat 1, 1)])])] : List sFc), fcOk fFS [s0, s1] hp q := hH.2
  have f0 : (∀ c L, isW L → (nmR hp 213 c L ↔ nmM hp c L)) ∧ hI hp 212 0 = hI hp 275 0 ∧ hI hp 212 1 = hI hp 275 1 := fcX (ys := []) (hFc _ (.head _)) trivial
  have f1 : fEq 289 0 275 0 871 s0 hp := fcX (ys := [s0]) (hFc _ (.tail _ (.head _))) ⟨sE_V rfl, trivial⟩
  have f2 : ∀ j : Nat, j < 12 → (j : Int) < s1 → hL hp 290 (0 + j) = hL hp 278 j := fcX (ys := [s1]) (hFc _ (.tail _ (.tail _ (.head _)))) ⟨sE_V rfl, trivial⟩
  have u0 := f1 0 (by omega) (by omega)
  have u1 := f1 1 (by omega) (by omega)
  rw [Nat.zero_add] at u0 u1
  exact poX (.head _) rfl hR (all_nil) (all_nil) (all_cons ⟨[], trivial, (show (∀ c L, isW L → (nmR hp 213 c L ↔ nmK hp 0 c L)) ∧ (hI hp 289 0 = 0 ∨ (hI hp 212 0 = hI hp 289 0 ∧ hI hp 212 1 = hI hp 289 1)) from (by have w := al_r f0 (nmm_k (k' := 0) f1 (by omega) f2 (by omega)) u0.symm u1.symm; exact ⟨w.1, Or.inr w.2⟩))⟩ (all_nil))
theorem rl1025 : ruOk fFS gR1025 := by
  intro r hp hO hN hH
  obtain ⟨s0, s1, s2, rfl⟩ := len3 (show r.length = 3 from hN.1)
  have hR := hN.2.1.1
  have hIv : ∀ q ∈ ([(0, .ofNat 1, .ofNat 1), (1, .negSucc 2147483647, .ofNat 2147483647), (2, .negSucc 2147483647, .ofNat 2147483647)] : sIv), ∃ x, ([s0, s1, s2] : List Int)[q.1]? = some x ∧ q.2.1 ≤ x ∧ x ≤ q.2.2 := hN.2.1.2
  have b0 : (1 : Int) ≤ s0 ∧ s0 ≤ (1 : Int) := ivX (q := (0, .ofNat 1, .ofNat 1)) (y := s0) (hIv _ (.head _)) rfl
  have b1 : (-2147483648 : Int) ≤ s1 ∧ s1 ≤ (2147483647 : Int) := ivX (q := (1, .negSucc 2147483647, .ofNat 2147483647)) (y := s1) (hIv _ (.tail _ (.head _))) rfl
  have b2 : (-2147483648 : Int) ≤ s2 ∧ s2 ≤ (2147483647 : Int) := ivX (q := (2, .negSucc 2147483647, .ofNat 2147483647)) (y := s2) (hIv _ (.tail _ (.tail _ (.head _)))) rfl
  have hRf : ∀ q ∈ ([((96, .ofNat 291, []), (.ofNat 1, []), 1, .ofNat 0, [(.ofNat 1, 0)]), ((94, .ofNat 289, []), (.ofNat 871, []), 1, .ofNat 0, [(.ofNat 1, 1)]), ((94, .ofNat 289, []), (.ofNat 872, []), 1, .ofNat 0, [(.ofNat 1, 2)])] : List sRf), rfOk [s0, s1, s2] hp q := hH.1
  have h0 : hI hp 291 1 = s0 := rfI0 (hRf _ (.head _)) (sE_k _ _) (sE_k _ _) (sE_V rfl)
  have y0 : (0 : Int) ≤ s0 ∧ s0 ≤ (1 : Int) := by rw [← h0]; exact hI_ty hO (by decide) rfl
  have h1 : hI hp 289 871 = s1 := rfI0 (hRf _ (.tail _ (.head _))) (sE_k _ _) (sE_k _ _) (sE_V rfl)
  have y1 : (0 : Int) ≤ s1 ∧ s1 ≤ (10 : Int) := by rw [← h1]; exact hI_ty hO (by decide) rfl
  have h2 : hI hp 289 872 = s2 := rfI0 (hRf _ (.tail _ (.tail _ (.head _)))) (sE_k _ _) (sE_k _ _) (sE_V rfl)
  have y2 : (0 : Int) ≤ s2 ∧ s2 ≤ (10 : Int) := by rw [← h2]; exact hI_ty hO (by decide) rfl
  have hFc : ∀ q ∈ ([(19, [])] : List sFc), fcOk fFS [s0, s1, s2] hp q := hH.2
  have f0 : fKept 871 1 hp := fcX (ys := []) (hFc _ (.head _)) trivial
  have u := kept_b f0 h0 (by omega) h1 h2 rfl
  exact poX (.head _) rfl hR (all_cons (ivO (y := s1) rfl (show (1 : Int) ≤ s1 by omega) (show s1 ≤ (10 : Int) by omega)) (all_cons (ivO (y := s2) rfl (show (1 : Int) ≤ s2 by omega) (show s2 ≤ (10 : Int) by omega)) (all_nil))) (all_nil) (all_nil)
theorem rl1026 : ruOk fFS gR1026 := by
  intro r hp hO hN hH
  obtain ⟨s0, s1, s2, rfl⟩ := len3 (show r.length = 3 from hN.1)
  have hR := hN.2.1.1
  have hIv : ∀ q ∈ ([(0, .ofNat 1, .ofNat 1), (1, .negSucc 2147483647, .ofNat 2147483647), (2, .negSucc 2147483647, .ofNat 2147483647)] : sIv), ∃ x, ([s0, s1, s2] : List Int)[q.1]? = some x ∧ q.2.1 ≤ x ∧ x ≤ q.2.2 := hN.2.1.2
  have b0 : (1 : Int) ≤ s0 ∧ s0 ≤ (1 : Int) := ivX (q := (0, .ofNat 1, .ofNat 1)) (y := s0) (hIv _ (.head _)) rfl
  have b1 : (-2147483648 : Int) ≤ s1 ∧ s1 ≤ (2147483647 : Int) := ivX (q := (1, .negSucc 2147483647, .ofNat 2147483647)) (y := s1) (hIv _ (.tail _ (.head _))) rfl
  have b2 : (-2147483648 : Int) ≤ s2 ∧ s2 ≤ (2147483647 : Int) := ivX (q := (2, .negSucc 2147483647, .ofNat 2147483647)) (y := s2) (hIv _ (.tail _ (.tail _ (.head _)))) rfl
  have hRf : ∀ q ∈ ([((96, .ofNat 291, []), (.ofNat 0, []), 1, .ofNat 0, [(.ofNat 1, 0)]), ((94, .ofNat 289, []), (.ofNat 0, []), 1, .ofNat 0, [(.ofNat 1, 1)]), ((94, .ofNat 289, []), (.ofNat 1, []), 1, .ofNat 0, [(.ofNat 1, 2)])] : List sRf), rfOk [s0, s1, s2] hp q := hH.1
  have h0 : hI hp 291 0 = s0 := rfI0 (hRf _ (.head _)) (sE_k _ _) (sE_k _ _) (sE_V rfl)
  have y0 : (0 : Int) ≤ s0 ∧ s0 ≤ (1 : Int) := by rw [← h0]; exact hI_ty hO (by decide) rfl
  have h1 : hI hp 289 0 = s1 := rfI0 (hRf _ (.tail _ (.head _))) (sE_k _ _) (sE_k _ _) (sE_V rfl)
  have y1 : (0 : Int) ≤ s1 ∧ s1 ≤ (10 : Int) := by rw [← h1]; exact hI_ty hO (by decide) rfl
  have h2 : hI hp 289 1 = s2 := rfI0 (hRf _ (.tail _ (.tail _ (.head _)))) (sE_k _ _) (sE_k _ _) (sE_V rfl)
  have y2 : (0 : Int) ≤ s2 ∧ s2 ≤ (10 : Int) := by rw [← h2]; exact hI_ty hO (by decide) rfl
  have hFc : ∀ q ∈ ([(17, [])] : List sFc), fcOk fFS [s0, s1, s2] hp q := hH.2
  have f0 : fKept 0 0 hp := fcX (ys := []) (hFc _ (.head _)) trivial
  have u := kept_b f0 h0 (by omega) h1 h2 rfl
  exact poX (.head _) rfl hR (all_cons (ivO (y := s1) rfl (show (1 : Int) ≤ s1 by omega) (show s1 ≤ (10 : Int) by omega)) (all_cons (ivO (y := s2) rfl (show (1 : Int) ≤ s2 by omega) (show s2 ≤ (10 : Int) by omega)) (all_nil))) (all_nil) (all_nil)
theorem rl1027 : ruOk fFS gR1027 := by
  intro r hp hO hN hH
  obtain ⟨s0, s1, s2, rfl⟩ := len3 (show r.length = 3 from hN.1)
  have hR := hN.2.1.1
  have hIv : ∀ q ∈ ([(0, .ofNat 1, .ofNat 1), (1, .ofNat 0, .ofNat 8), (2, .ofNat 871, .ofNat 871)] : sIv), ∃ x, ([s0, s1, s2] : List Int)[q.1]? = some x ∧ q.2.1 ≤ x ∧ x ≤ q.2.2 := hN.2.1.2
  have b0 : (1 : Int) ≤ s0 ∧ s0 ≤ (1 : Int) := ivX (q := (0, .ofNat 1, .ofNat 1)) (y := s0) (hIv _ (.head _)) rfl
  have b1 : (0 : Int) ≤ s1 ∧ s1 ≤ (8 : Int) := ivX (q := (1, .ofNat 0, .ofNat 8)) (y := s1) (hIv _ (.tail _ (.head _))) rfl
  have b2 : (871 : Int) ≤ s2 ∧ s2 ≤ (871 : Int) := ivX (q := (2, .ofNat 871, .ofNat 871)) (y := s2) (hIv _ (.tail _ (.tail _ (.head _)))) rfl
  have hRf : ∀ q ∈ ([((96, .ofNat 291, []), (.ofNat 1, []), 1, .ofNat 0, [(.ofNat 1, 0)]), ((80, .ofNat 275, []), (.ofNat 6, []), 1, .ofNat 0, [(.ofNat 1, 1)])] : List sRf), rfOk [s0, s1, s2] hp q := hH.1
  have h0 : hI hp 291 1 = s0 := rfI0 (hRf _ (.head _)) (sE_k _ _) (sE_k _ _) (sE_V rfl)
  have y0 : (0 : Int) ≤ s0 ∧ s0 ≤ (1 : Int) := by rw [← h0]; exact hI_ty hO (by decide) rfl
  have h1 : hI hp 275 6 = s1 := rfI0 (hRf _ (.tail _ (.head _))) (sE_k _ _) (sE_k _ _) (sE_V rfl)
  have y1 : (0 : Int) ≤ s1 ∧ s1 ≤ (8 : Int) := by rw [← h1]; exact hI_ty hO (by decide) rfl
  have hFc : ∀ q ∈ ([(20, [(.ofNat 0, [(.ofNat 1, 2)])]), (19, [])] : List sFc), fcOk fFS [s0, s1, s2] hp q := hH.2
  have f0 : fEq 289 871 275 0 871 s2 hp := fcX (ys := [s2]) (hFc _ (.head _)) ⟨sE_V rfl, trivial⟩
  have f1 : fKept 871 1 hp := fcX (ys := []) (hFc _ (.tail _ (.head _))) trivial
  have u := kept_ch f1 (by rw [h0]; omega) f0 (by omega) h1
  exact poX (.head _) rfl hR (all_nil) (all_nil) (all_cons ⟨[s1], ⟨sE_V rfl, trivial⟩, (show fCh 275 250 s1 hp from u.1)⟩ (all_cons ⟨[], trivial, (show fPfs 275 690 hp from u.2)⟩ (all_nil)))
theorem rl1028 : ruOk fFS gR1028 := by
  intro r hp hO hN hH
  obtain ⟨s0, s1, s2, rfl⟩ := len3 (show r.length = 3 from hN.1)
  have hR := hN.2.1.1
  have hIv : ∀ q ∈ ([(0, .ofNat 1, .ofNat 1), (1, .ofNat 0, .ofNat 8), (2, .ofNat 871, .ofNat 871)] : sIv), ∃ x, ([s0, s1, s2] : List Int)[q.1]? = some x ∧ q.2.1 ≤ x ∧ x ≤ q.2.2 := hN.2.1.2
  have b0 : (1 : Int) ≤ s0 ∧ s0 ≤ (1 : Int) := ivX (q := (0, .ofNat 1, .ofNat 1)) (y := s0) (hIv _ (.head _)) rfl
  have b1 : (0 : Int) ≤ s1 ∧ s1 ≤ (8 : Int) := ivX (q := (1, .ofNat 0, .ofNat 8)) (y := s1) (hIv _ (.tail _ (.head _))) rfl
  have b2 : (871 : Int) ≤ s2 ∧ s2 ≤ (871 : Int) := ivX (q := (2, .ofNat 871, .ofNat 871)) (y := s2) (hIv _ (.tail _ (.tail _ (.head _)))) rfl
  have hRf : ∀ q ∈ ([((96, .ofNat 291, []), (.ofNat 0, []), 1, .ofNat 0, [(.ofNat 1, 0)]), ((80, .ofNat 275, []), (.ofNat 6, []), 1, .ofNat 0, [(.ofNat 1, 1)])] : List sRf), rfOk [s0, s1, s2] hp q := hH.1
  have h0 : hI hp 291 0 = s0 := rfI0 (hRf _ (.head _)) (sE_k _ _) (sE_k _ _) (sE_V rfl)
  have y0 : (0 : Int) ≤ s0 ∧ s0 ≤ (1 : Int) := by rw [← h0]; exact hI_ty hO (by decide) rfl
  have h1 : hI hp 275 6 = s1 := rfI0 (hRf _ (.tail _ (.head _))) (sE_k _ _) (sE_k _ _) (sE_V rfl)
  have y1 : (0 : Int) ≤ s1 ∧ s1 ≤ (8 : Int) := by rw [← h1]; exact hI_ty hO (by decide) rfl
  have hFc : ∀ q ∈ ([(18, [(.ofNat 0, [(.ofNat 1, 2)])]), (17, [])] : List sFc), fcOk fFS [s0, s1, s2] hp q := hH.2
  have f0 : fEq 289 0 275 0 871 s2 hp := fcX (ys := [s2]) (hFc _ (.head _)) ⟨sE_V rfl, trivial⟩
  have f1 : fKept 0 0 hp := fcX (ys := []) (hFc _ (.tail _ (.head _))) trivial
  have u := kept_ch f1 (by rw [h0]; omega) f0 (by omega) h1
  exact poX (.head _) rfl hR (all_nil) (all_nil) (all_cons ⟨[s1], ⟨sE_V rfl, trivial⟩, (show fCh 275 250 s1 hp from u.1)⟩ (all_cons ⟨[], trivial, (show fPfs 275 690 hp from u.2)⟩ (all_nil)))
theorem rl1029 : ruOk fFS gR1029 := by
  intro r hp hO hN hH
  obtain ⟨s0, s1, rfl⟩ := len2 (show r.length = 2 from hN.1)
  have hR := hN.2.1.1
  have hIv : ∀ q ∈ ([(0, .ofNat 871, .ofNat 871), (1, .ofNat 12, .ofNat 12)] : sIv), ∃ x, ([s0, s1] : List Int)[q.1]? = some x ∧ q.2.1 ≤ x ∧ x ≤ q.2.2 := hN.2.1.2
  have b0 : (871 : Int) ≤ s0 ∧ s0 ≤ (871 : Int) := ivX (q := (0, .ofNat 871, .ofNat 871)) (y := s0) (hIv _ (.head _)) rfl
  have b1 : (12 : Int) ≤ s1 ∧ s1 ≤ (12 : Int) := ivX (q := (1, .ofNat 12, .ofNat 12)) (y := s1) (hIv _ (.tail _ (.head _))) rfl
  have hFc : ∀ q ∈ ([(237, []), (20, [(.ofNat 0, [(.ofNat 1, 0)])]), (239, [(.ofNat 0, [(.ofNat 1, 1)])])] : List sFc), fcOk fFS [s0, s1] hp q := hH.2
  have f0 : (∀ c L, isW L → (nmR hp 3 c L ↔ nmK hp 1 c L)) ∧ (hI hp 289 871 = 0 ∨ (hI hp 2 0 = hI hp 289 871 ∧ hI hp 2 1 = hI hp 289 872)) := fcX (ys := []) (hFc _ (.head _)) trivial
  have f1 : fEq 289 871 275 0 871 s0 hp := fcX (ys := [s0]) (hFc _ (.tail _ (.head _))) ⟨sE_V rfl, trivial⟩
  have f2 : ∀ j : Nat, j < 12 → (j : Int) < s1 → hL hp 290 (12 + j) = hL hp 278 j := fcX (ys := [s1]) (hFc _ (.tail _ (.tail _ (.head _)))) ⟨sE_V rfl, trivial⟩
  have u0 := f1 0 (by omega) (by omega)
  have u1 := f1 1 (by omega) (by omega)
  rw [Nat.zero_add] at u0 u1
  have w0 : hI hp 289 871 = hI hp 275 0 := u0
  have t0 : (1 : Int) ≤ hI hp 275 0 ∧ hI hp 275 0 ≤ (10 : Int) := hI_ty hO (by decide) rfl
  have v0 := f0.2.resolve_left (by rw [w0]; omega)
  exact poX (.head _) rfl hR (all_nil) (all_nil) (all_cons ⟨[], trivial, (show (∀ c L, isW L → (nmR hp 3 c L ↔ nmM hp c L)) ∧ hI hp 2 0 = hI hp 275 0 ∧ hI hp 2 1 = hI hp 275 1 from al_r ⟨f0.1, v0⟩ (nmm_k (k' := 1) f1 (by omega) f2 (by omega)).symm u0 u1)⟩ (all_nil))
theorem rl1030 : ruOk fFS gR1030 := by
  intro r hp hO hN hH
  obtain ⟨s0, s1, rfl⟩ := len2 (show r.length = 2 from hN.1)
  have hR := hN.2.1.1
  have hIv : ∀ q ∈ ([(0, .ofNat 871, .ofNat 871), (1, .ofNat 12, .ofNat 12)] : sIv), ∃ x, ([s0, s1] : List Int)[q.1]? = some x ∧ q.2.1 ≤ x ∧ x ≤ q.2.2 := hN.2.1.2
  have b0 : (871 : Int) ≤ s0 ∧ s0 ≤ (871 : Int) := ivX (q := (0, .ofNat 871, .ofNat 871)) (y := s0) (hIv _ (.head _)) rfl
  have b1 : (12 : Int) ≤ s1 ∧ s1 ≤ (12 : Int) := ivX (q := (1, .ofNat 12, .ofNat 12)) (y := s1) (hIv _ (.tail _ (.head _))) rfl
  have hFc : ∀ q ∈ ([(238, []), (20, [(.ofNat 0, [(.ofNat 1, 0)])]), (239, [(.ofNat 0, [(.ofNat 1, 1)])])] : List sFc), fcOk fFS [s0, s1] hp q := hH.2
  have f0 : (∀ c L, isW L → (nmR hp 16 c L ↔ nmK hp 1 c L)) ∧ (hI hp 289 871 = 0 ∨ (hI hp 15 0 = hI hp 289 871 ∧ hI hp 15 1 = hI hp 289 872)) := fcX (ys := []) (hFc _ (.head _)) trivial
  have f1 : fEq 289 871 275 0 871 s0 hp := fcX (ys := [s0]) (hFc _ (.tail _ (.head _))) ⟨sE_V rfl, trivial⟩
  have f2 : ∀ j : Nat, j < 12 → (j : Int) < s1 → hL hp 290 (12 + j) = hL hp 278 j := fcX (ys := [s1]) (hFc _ (.tail _ (.tail _ (.head _)))) ⟨sE_V rfl, trivial⟩
  have u0 := f1 0 (by omega) (by omega)
  have u1 := f1 1 (by omega) (by omega)
  rw [Nat.zero_add] at u0 u1
  have w0 : hI hp 289 871 = hI hp 275 0 := u0
  have t0 : (1 : Int) ≤ hI hp 275 0 ∧ hI hp 275 0 ≤ (10 : Int) := hI_ty hO (by decide) rfl
  have v0 := f0.2.resolve_left (by rw [w0]; omega)
  exact poX (.head _) rfl hR (all_nil) (all_nil) (all_cons ⟨[], trivial, (show (∀ c L, isW L → (nmR hp 16 c L ↔ nmM hp c L)) ∧ hI hp 15 0 = hI hp 275 0 ∧ hI hp 15 1 = hI hp 275 1 from al_r ⟨f0.1, v0⟩ (nmm_k (k' := 1) f1 (by omega) f2 (by omega)).symm u0 u1)⟩ (all_nil))
theorem rl1031 : ruOk fFS gR1031 := by
  intro r hp hO hN hH
  obtain ⟨s0, s1, rfl⟩ := len2 (show r.length = 2 from hN.1)
  have hR := hN.2.1.1
  have hIv : ∀ q ∈ ([(0, .ofNat 871, .ofNat 871), (1, .ofNat 12, .ofNat 12)] : sIv), ∃ x, ([s0, s1] : List Int)[q.1]? = some x ∧ q.2.1 ≤ x ∧ x ≤ q.2.2 := hN.2.1.2
  have b0 : (871 : Int) ≤ s0 ∧ s0 ≤ (871 : Int) := ivX (q := (0, .ofNat 871, .ofNat 871)) (y := s0) (hIv _ (.head _)) rfl
  have b1 : (12 : Int) ≤ s1 ∧ s1 ≤ (12 : Int) := ivX (q := (1, .ofNat 12, .ofNat 12)) (y := s1) (hIv _ (.tail _ (.head _))) rfl
  have hFc : ∀ q ∈ ([(232, []), (18, [(.ofNat 0, [(.ofNat 1, 0)])]), (234, [(.ofNat 0, [(.ofNat 1, 1)])])] : List sFc), fcOk fFS [s0, s1] hp q := hH.2
  have f0 : (∀ c L, isW L → (nmR hp 3 c L ↔ nmK hp 0 c L)) ∧ (hI hp 289 0 = 0 ∨ (hI hp 2 0 = hI hp 289 0 ∧ hI hp 2 1 = hI hp 289 1)) := fcX (ys := []) (hFc _ (.head _)) trivial
  have f1 : fEq 289 0 275 0 871 s0 hp := fcX (ys := [s0]) (hFc _ (.tail _ (.head _))) ⟨sE_V rfl, trivial⟩
  have f2 : ∀ j : Nat, j < 12 → (j : Int) < s1 → hL hp 290 (0 + j) = hL hp 278 j := fcX (ys := [s1]) (hFc _ (.tail _ (.tail _ (.head _)))) ⟨sE_V rfl, trivial⟩
  have u0 := f1 0 (by omega) (by omega)
  have u1 := f1 1 (by omega) (by omega)
  rw [Nat.zero_add] at u0 u1
  have w0 : hI hp 289 0 = hI hp 275 0 := u0
  have t0 : (1 : Int) ≤ hI hp 275 0 ∧ hI hp 275 0 ≤ (10 : Int) := hI_ty hO (by decide) rfl
  have v0 := f0.2.resolve_left (by rw [w0]; omega)
  exact poX (.head _) rfl hR (all_nil) (all_nil) (all_cons ⟨[], trivial, (show (∀ c L, isW L → (nmR hp 3 c L ↔ nmM hp c L)) ∧ hI hp 2 0 = hI hp 275 0 ∧ hI hp 2 1 = hI hp 275 1 from al_r ⟨f0.1, v0⟩ (nmm_k (k' := 0) f1 (by omega) f2 (by omega)).symm u0 u1)⟩ (all_nil))
theorem rl1032 : ruOk fFS gR1032 := by
  intro r hp hO hN hH
  obtain ⟨s0, s1, rfl⟩ := len2 (show r.length = 2 from hN.1)
  have hR := hN.2.1.1
  have hIv : ∀ q ∈ ([(0, .ofNat 871, .ofNat 871), (1, .ofNat 12, .ofNat 12)] : sIv), ∃ x, ([s0, s1] : List Int)[q.1]? = some x ∧ q.2.1 ≤ x ∧ x ≤ q.2.2 := hN.2.1.2
  have b0 : (871 : Int) ≤ s0 ∧ s0 ≤ (871 : Int) := ivX (q := (0, .ofNat 871, .ofNat 871)) (y := s0) (hIv _ (.head _)) rfl
  have b1 : (12 : Int) ≤ s1 ∧ s1 ≤ (12 : Int) := ivX (q := (1, .ofNat 12, .ofNat 12)) (y := s1) (hIv _ (.tail _ (.head _))) rfl
  have hFc : ∀ q ∈ ([(233, []), (18, [(.ofNat 0, [(.ofNat 1, 0)])]), (234, [(.ofNat 0, [(.ofNat 1, 1)])])] : List sFc), fcOk fFS [s0, s1] hp q := hH.2
  have f0 : (∀ c L, isW L → (nmR hp 16 c L ↔ nmK hp 0 c L)) ∧ (hI hp 289 0 = 0 ∨ (hI hp 15 0 = hI hp 289 0 ∧ hI hp 15 1 = hI hp 289 1)) := fcX (ys := []) (hFc _ (.head _)) trivial
  have f1 : fEq 289 0 275 0 871 s0 hp := fcX (ys := [s0]) (hFc _ (.tail _ (.head _))) ⟨sE_V rfl, trivial⟩
  have f2 : ∀ j : Nat, j < 12 → (j : Int) < s1 → hL hp 290 (0 + j) = hL hp 278 j := fcX (ys := [s1]) (hFc _ (.tail _ (.tail _ (.head _)))) ⟨sE_V rfl, trivial⟩
  have u0 := f1 0 (by omega) (by omega)
  have u1 := f1 1 (by omega) (by omega)
  rw [Nat.zero_add] at u0 u1
  have w0 : hI hp 289 0 = hI hp 275 0 := u0
  have t0 : (1 : Int) ≤ hI hp 275 0 ∧ hI hp 275 0 ≤ (10 : Int) := hI_ty hO (by decide) rfl
  have v0 := f0.2.resolve_left (by rw [w0]; omega)
  exact poX (.head _) rfl hR (all_nil) (all_nil) (all_cons ⟨[], trivial, (show (∀ c L, isW L → (nmR hp 16 c L ↔ nmM hp c L)) ∧ hI hp 15 0 = hI hp 275 0 ∧ hI hp 15 1 = hI hp 275 1 from al_r ⟨f0.1, v0⟩ (nmm_k (k' := 0) f1 (by omega) f2 (by omega)).symm u0 u1)⟩ (all_nil))
end CkRul12
