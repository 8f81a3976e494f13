section CkLaw4
theorem lrR {r : List Int} {hp : Lean.RArray Nat} {ro tg k c0 i0 : Nat} {ce ix e : sLn} (h : rfOk r hp ((ro, ce), ix, (tg, e))) (ht : 16 ≤ tg) (e1 : sE r ce = some (c0 : Int)) (e2 : sE r ix = some (i0 : Int)) (e3 : sE r e = some (k : Int)) : hv hp c0 i0 = cR k := by
  obtain ⟨c, i, a1, a2, a3, a4, a5, a6⟩ := h
  obtain ⟨x, x1, x2, x3, x4⟩ := a6.2.2.2.2.2.1 ht
  have q1 : (c0 : Int) = (c : Int) := Option.some.inj (e1.symm.trans a1)
  have q2 : (i0 : Int) = (i : Int) := Option.some.inj (e2.symm.trans a4)
  have q3 : (k : Int) = (x : Int) := Option.some.inj (e3.symm.trans x1)
  have w1 : c0 = c := by omega
  have w2 : i0 = i := by omega
  have w3 : k = x := by omega
  rw [w1, w2, w3]
  exact x4
theorem hv_I {hp : Lean.RArray Nat} (hO : hOk hp) {c j : Nat} {a b : Int} (hc : c < tNC) (ht : sSgAt (tSg (tRO c)) j = some (.inl (a, b))) : hv hp c j = cI (hI hp c j) ∧ zMn ≤ hI hp c j ∧ hI hp c j ≤ zMx := by
  obtain ⟨x, x1, x2, x3, x4, x5⟩ := (hO.2 c hc).2.2 j _ ht
  rw [hI_eq x3 x4 x5]
  exact ⟨x5, x3, x4⟩
theorem vOk_9 {r : List Int} {e : sLn} {w : Nat} : vOk r (9, e) w :=
  ⟨fun q => absurd q (by simp), fun q => absurd q (by simp), fun q => absurd q (by simp), fun q => absurd q (by simp), fun q => absurd q (by simp), fun q => absurd q (by simp), fun q => absurd q (by simp), fun q => absurd q (by simp)⟩
theorem lrI {r : List Int} {hp : Lean.RArray Nat} (hO : hOk hp) {ro c j : Nat} {ce ix e : sLn} {a b x : Int} (e1 : sE r ce = some (c : Int)) (e2 : sE r ix = some (j : Int)) (hc : c < tNC) (hr : tRO c = ro) (hj : j < tLe ro) (ht : sSgAt (tSg (tRO c)) j = some (.inl (a, b))) (hx : hI hp c j = x) (e3 : sE r e = some x) : rfOk r hp ((ro, ce), ix, (1, e)) := by
  obtain ⟨q1, q2, q3⟩ := hv_I hO hc ht
  refine ⟨c, j, e1, hc, hr, e2, hj, ?_⟩
  show vOk r (1, e) (hv hp c j)
  rw [q1]
  exact vOk_i (by rw [hx]; exact e3) q2 q3
theorem lrC {r : List Int} {hp : Lean.RArray Nat} {ro c j k rk tg : Nat} {ce ix e : sLn} (e1 : sE r ce = some (c : Int)) (e2 : sE r ix = some (j : Int)) (hc : c < tNC) (hr : tRO c = ro) (hj : j < tLe ro) (hx : hv hp c j = cR k) (hk : k < tNC) (hrk : tRO k = rk) (htg : tg = Nat.add rk 16) (e3 : sE r e = some (k : Int)) : rfOk r hp ((ro, ce), ix, (tg, e)) := by
  refine ⟨c, j, e1, hc, hr, e2, hj, ?_⟩
  show vOk r (tg, e) (hv hp c j)
  rw [hx, htg]
  exact vOk_r e3 hk hrk
/-- what holds between the law's rounds -/
def lIn (cu ot sa sb pa pb na : Nat) (hp : Lean.RArray Nat) : Prop := hOk hp ∧ (hv hp 0 10 = cR cu ∧ hv hp 0 11 = cR ot ∧ hv hp 0 6 = cR pa ∧ hv hp 0 7 = cR pb) ∧ ∃ z a b c t u v : Int, (0 ≤ z ∧ z ≤ 8) ∧ (0 ≤ a ∧ a ≤ 40) ∧ (0 ≤ b ∧ b ≤ 40) ∧ (0 ≤ c ∧ c ≤ 40) ∧ (0 ≤ t ∧ t ≤ 940) ∧ (0 ≤ u ∧ u ≤ 1) ∧ (0 ≤ v ∧ v ≤ 1) ∧ hI hp 275 6 = z ∧ hI hp cu 2 = a ∧ hI hp 237 2 = b ∧ hI hp 268 2 = c ∧ (hI hp 0 1 = t ∧ hI hp 273 2 = t ∧ hI hp 211 0 = u ∧ hI hp 291 0 = u ∧ hI hp 242 0 = v ∧ hI hp 291 1 = v) ∧ fSen sa sb a hp ∧ fSen 238 240 b hp ∧ fSen 269 271 c hp ∧ fCh 275 250 z hp ∧ fPfs 275 690 hp ∧ fKept 0 0 hp ∧ fKept 871 1 hp ∧ (∃ w : Int, (t ≤ w ∧ w ≤ 940) ∧ kTEQ w hp) ∧ kCODX hp ∧ kRSV hp ∧ (∀ c L, isW L → (nmR hp na c L ↔ nmM hp c L)) ∧ kIEQ0 hp ∧ kIEQ1 hp
theorem ofA {rr : List Int} {hp : Lean.RArray Nat} (hO : hOk hp) (hN : sNOk tSg rr gEA.1) (hH : hsOk fFS rr hp gEA.2.2) : lIn 52 57 53 55 2 15 3 hp := by
  obtain ⟨s0, s1, s2, s3, s4, s5, s6, s7, s8, s9, s10, s11, s12, s13, rfl⟩ := len14 (show rr.length = 14 from hN.1)
  have hIv : ∀ q ∈ ([(0, .negSucc 2147483647, .ofNat 2147483647), (1, .negSucc 2147483647, .ofNat 2147483647), (2, .negSucc 2147483647, .ofNat 2147483647), (3, .negSucc 2147483647, .ofNat 2147483647), (4, .negSucc 2147483647, .ofNat 2147483647), (5, .ofNat 0, .ofNat 3072), (6, .ofNat 0, .ofNat 8), (7, .ofNat 0, .ofNat 40), (8, .ofNat 0, .ofNat 40), (9, .ofNat 0, .ofNat 40), (10, .ofNat 0, .ofNat 940), (11, .ofNat 0, .ofNat 1), (12, .ofNat 0, .ofNat 1), (13, .ofNat 0, .ofNat 940)] : sIv), ∃ x, ([s0, s1, s2, s3, s4, s5, s6, s7, s8, s9, s10, s11, s12, s13] : List Int)[q.1]? = some x ∧ q.2.1 ≤ x ∧ x ≤ q.2.2 := hN.2.1.2
  have b0 : (-2147483648 : Int) ≤ s0 ∧ s0 ≤ (2147483647 : Int) := ivX (q := (0, .negSucc 2147483647, .ofNat 2147483647)) (y := s0) (hIv _ (.head _)) rfl
  have b1 : (-2147483648 : Int) ≤ s1 ∧ s1 ≤ (2147483647 : Int) := ivX (q := (1, .negSucc 2147483647, .ofNat 2147483647)) (y := s1) (hIv _ (.tail _ (.head _))) rfl
  have b2 : (-2147483648 : Int) ≤ s2 ∧ s2 ≤ (2147483647 : Int) := ivX (q := (2, .negSucc 2147483647, .ofNat 2147483647)) (y := s2) (hIv _ (.tail _ (.tail _ (.head _)))) rfl
  have b3 : (-2147483648 : Int) ≤ s3 ∧ s3 ≤ (2147483647 : Int) := ivX (q := (3, .negSucc 2147483647, .ofNat 2147483647)) (y := s3) (hIv _ (.tail _ (.tail _ (.tail _ (.head _))))) rfl
  have b4 : (-2147483648 : Int) ≤ s4 ∧ s4 ≤ (2147483647 : Int) := ivX (q := (4, .negSucc 2147483647, .ofNat 2147483647)) (y := s4) (hIv _ (.tail _ (.tail _ (.tail _ (.tail _ (.head _)))))) rfl
  have b5 : (0 : Int) ≤ s5 ∧ s5 ≤ (3072 : Int) := ivX (q := (5, .ofNat 0, .ofNat 3072)) (y := s5) (hIv _ (.tail _ (.tail _ (.tail _ (.tail _ (.tail _ (.head _))))))) rfl
  have b6 : (0 : Int) ≤ s6 ∧ s6 ≤ (8 : Int) := ivX (q := (6, .ofNat 0, .ofNat 8)) (y := s6) (hIv _ (.tail _ (.tail _ (.tail _ (.tail _ (.tail _ (.tail _ (.head _)))))))) rfl
  have b7 : (0 : Int) ≤ s7 ∧ s7 ≤ (40 : Int) := ivX (q := (7, .ofNat 0, .ofNat 40)) (y := s7) (hIv _ (.tail _ (.tail _ (.tail _ (.tail _ (.tail _ (.tail _ (.tail _ (.head _))))))))) rfl
  have b8 : (0 : Int) ≤ s8 ∧ s8 ≤ (40 : Int) := ivX (q := (8, .ofNat 0, .ofNat 40)) (y := s8) (hIv _ (.tail _ (.tail _ (.tail _ (.tail _ (.tail _ (.tail _ (.tail _ (.tail _ (.head _)))))))))) rfl
  have b9 : (0 : Int) ≤ s9 ∧ s9 ≤ (40 : Int) := ivX (q := (9, .ofNat 0, .ofNat 40)) (y := s9) (hIv _ (.tail _ (.tail _ (.tail _ (.tail _ (.tail _ (.tail _ (.tail _ (.tail _ (.tail _ (.head _))))))))))) rfl
  have b10 : (0 : Int) ≤ s10 ∧ s10 ≤ (940 : Int) := ivX (q := (10, .ofNat 0, .ofNat 940)) (y := s10) (hIv _ (.tail _ (.tail _ (.tail _ (.tail _ (.tail _ (.tail _ (.tail _ (.tail _ (.tail _ (.tail _ (.head _)))))))))))) rfl
  have b11 : (0 : Int) ≤ s11 ∧ s11 ≤ (1 : Int) := ivX (q := (11, .ofNat 0, .ofNat 1)) (y := s11) (hIv _ (.tail _ (.tail _ (.tail _ (.tail _ (.tail _ (.tail _ (.tail _ (.tail _ (.tail _ (.tail _ (.tail _ (.head _))))))))))))) rfl
  have b12 : (0 : Int) ≤ s12 ∧ s12 ≤ (1 : Int) := ivX (q := (12, .ofNat 0, .ofNat 1)) (y := s12) (hIv _ (.tail _ (.tail _ (.tail _ (.tail _ (.tail _ (.tail _ (.tail _ (.tail _ (.tail _ (.tail _ (.tail _ (.tail _ (.head _)))))))))))))) rfl
  have b13 : (0 : Int) ≤ s13 ∧ s13 ≤ (940 : Int) := ivX (q := (13, .ofNat 0, .ofNat 940)) (y := s13) (hIv _ (.tail _ (.tail _ (.tail _ (.tail _ (.tail _ (.tail _ (.tail _ (.tail _ (.tail _ (.tail _ (.tail _ (.tail _ (.tail _ (.head _))))))))))))))) rfl
  have hCs : ∀ c ∈ ([(.ofNat 0, [(.ofNat 1, 10), (.negSucc 0, 13)])] : List sLn), ∃ x, sE [s0, s1, s2, s3, s4, s5, s6, s7, s8, s9, s10, s11, s12, s13] c = some x ∧ x ≤ 0 := hN.2.2.1
  have c0 : ((0 : Int) + ((1 : Int) * s10 + ((-1 : Int) * s13 + 0))) ≤ 0 := csX (hCs _ (.head _)) rfl
  have hRf : ∀ q ∈ ([((80, .ofNat 275, []), (.ofNat 6, []), 1, .ofNat 0, [(.ofNat 1, 6)]), ((0, .ofNat 0, []), (.ofNat 10, []), 43, .ofNat 52, []), ((0, .ofNat 0, []), (.ofNat 11, []), 48, .ofNat 57, []), ((0, .ofNat 0, []), (.ofNat 6, []), 18, .ofNat 2, []), ((0, .ofNat 0, []), (.ofNat 7, []), 114, .ofNat 15, []), ((27, .ofNat 52, []), (.ofNat 2, []), 1, .ofNat 0, [(.ofNat 1, 7)]), ((67, .ofNat 237, []), (.ofNat 2, []), 1, .ofNat 0, [(.ofNat 1, 8)]), ((73, .ofNat 268, []), (.ofNat 2, []), 1, .ofNat 0, [(.ofNat 1, 9)]), ((0, .ofNat 0, []), (.ofNat 1, []), 1, .ofNat 0, [(.ofNat 1, 10)]), ((78, .ofNat 273, []), (.ofNat 2, []), 1, .ofNat 0, [(.ofNat 1, 10)]), ((66, .ofNat 211, []), (.ofNat 0, []), 1, .ofNat 0, [(.ofNat 1, 11)]), ((96, .ofNat 291, []), (.ofNat 0, []), 1, .ofNat 0, [(.ofNat 1, 11)]), ((72, .ofNat 242, []), (.ofNat 0, []), 1, .ofNat 0, [(.ofNat 1, 12)]), ((96, .ofNat 291, []), (.ofNat 1, []), 1, .ofNat 0, [(.ofNat 1, 12)])] : List sRf), rfOk [s0, s1, s2, s3, s4, s5, s6, s7, s8, s9, s10, s11, s12, s13] hp q := hH.1
  have h0 : hI hp 275 6 = s6 := rfI0 (hRf _ (.head _)) (sE_k _ _) (sE_k _ _) (sE_V rfl)
  have h1 : hv hp 0 10 = cR 52 := lrR (hRf _ (.tail _ (.head _))) (by decide) (sE_k _ _) (sE_k _ _) (sE_k _ _)
  have h2 : hv hp 0 11 = cR 57 := lrR (hRf _ (.tail _ (.tail _ (.head _)))) (by decide) (sE_k _ _) (sE_k _ _) (sE_k _ _)
  have h3 : hv hp 0 6 = cR 2 := lrR (hRf _ (.tail _ (.tail _ (.tail _ (.head _))))) (by decide) (sE_k _ _) (sE_k _ _) (sE_k _ _)
  have h4 : hv hp 0 7 = cR 15 := lrR (hRf _ (.tail _ (.tail _ (.tail _ (.tail _ (.head _)))))) (by decide) (sE_k _ _) (sE_k _ _) (sE_k _ _)
  have h5 : hI hp 52 2 = s7 := rfI0 (hRf _ (.tail _ (.tail _ (.tail _ (.tail _ (.tail _ (.head _))))))) (sE_k _ _) (sE_k _ _) (sE_V rfl)
  have h6 : hI hp 237 2 = s8 := rfI0 (hRf _ (.tail _ (.tail _ (.tail _ (.tail _ (.tail _ (.tail _ (.head _)))))))) (sE_k _ _) (sE_k _ _) (sE_V rfl)
  have h7 : hI hp 268 2 = s9 := rfI0 (hRf _ (.tail _ (.tail _ (.tail _ (.tail _ (.tail _ (.tail _ (.tail _ (.head _))))))))) (sE_k _ _) (sE_k _ _) (sE_V rfl)
  have h8 : hI hp 0 1 = s10 := rfI0 (hRf _ (.tail _ (.tail _ (.tail _ (.tail _ (.tail _ (.tail _ (.tail _ (.tail _ (.head _)))))))))) (sE_k _ _) (sE_k _ _) (sE_V rfl)
  have h9 : hI hp 273 2 = s10 := rfI0 (hRf _ (.tail _ (.tail _ (.tail _ (.tail _ (.tail _ (.tail _ (.tail _ (.tail _ (.tail _ (.head _))))))))))) (sE_k _ _) (sE_k _ _) (sE_V rfl)
  have h10 : hI hp 211 0 = s11 := rfI0 (hRf _ (.tail _ (.tail _ (.tail _ (.tail _ (.tail _ (.tail _ (.tail _ (.tail _ (.tail _ (.tail _ (.head _)))))))))))) (sE_k _ _) (sE_k _ _) (sE_V rfl)
  have h11 : hI hp 291 0 = s11 := rfI0 (hRf _ (.tail _ (.tail _ (.tail _ (.tail _ (.tail _ (.tail _ (.tail _ (.tail _ (.tail _ (.tail _ (.tail _ (.head _))))))))))))) (sE_k _ _) (sE_k _ _) (sE_V rfl)
  have h12 : hI hp 242 0 = s12 := rfI0 (hRf _ (.tail _ (.tail _ (.tail _ (.tail _ (.tail _ (.tail _ (.tail _ (.tail _ (.tail _ (.tail _ (.tail _ (.tail _ (.head _)))))))))))))) (sE_k _ _) (sE_k _ _) (sE_V rfl)
  have h13 : hI hp 291 1 = s12 := rfI0 (hRf _ (.tail _ (.tail _ (.tail _ (.tail _ (.tail _ (.tail _ (.tail _ (.tail _ (.tail _ (.tail _ (.tail _ (.tail _ (.tail _ (.head _))))))))))))))) (sE_k _ _) (sE_k _ _) (sE_V rfl)
  have hFc : ∀ q ∈ ([(1, [(.ofNat 0, [(.ofNat 1, 7)])]), (3, [(.ofNat 0, [(.ofNat 1, 8)])]), (4, [(.ofNat 0, [(.ofNat 1, 9)])]), (7, [(.ofNat 0, [(.ofNat 1, 6)])]), (12, []), (17, []), (19, []), (177, [(.ofNat 0, [(.ofNat 1, 13)])]), (51, []), (132, []), (216, []), (231, []), (236, [])] : List sFc), fcOk fFS [s0, s1, s2, s3, s4, s5, s6, s7, s8, s9, s10, s11, s12, s13] hp q := hH.2
  have f0 : fSen 53 55 s7 hp := fcX (ys := [s7]) (hFc _ (.head _)) ⟨sE_V rfl, trivial⟩
  have f1 : fSen 238 240 s8 hp := fcX (ys := [s8]) (hFc _ (.tail _ (.head _))) ⟨sE_V rfl, trivial⟩
  have f2 : fSen 269 271 s9 hp := fcX (ys := [s9]) (hFc _ (.tail _ (.tail _ (.head _)))) ⟨sE_V rfl, trivial⟩
  have f3 : fCh 275 250 s6 hp := fcX (ys := [s6]) (hFc _ (.tail _ (.tail _ (.tail _ (.head _))))) ⟨sE_V rfl, trivial⟩
  have f4 : fPfs 275 690 hp := fcX (ys := []) (hFc _ (.tail _ (.tail _ (.tail _ (.tail _ (.head _)))))) trivial
  have f5 : fKept 0 0 hp := fcX (ys := []) (hFc _ (.tail _ (.tail _ (.tail _ (.tail _ (.tail _ (.head _))))))) trivial
  have f6 : fKept 871 1 hp := fcX (ys := []) (hFc _ (.tail _ (.tail _ (.tail _ (.tail _ (.tail _ (.tail _ (.head _)))))))) trivial
  have f7 : kTEQ s13 hp := fcX (ys := [s13]) (hFc _ (.tail _ (.tail _ (.tail _ (.tail _ (.tail _ (.tail _ (.tail _ (.head _))))))))) ⟨sE_V rfl, trivial⟩
  have f8 : kCODX hp := fcX (ys := []) (hFc _ (.tail _ (.tail _ (.tail _ (.tail _ (.tail _ (.tail _ (.tail _ (.tail _ (.head _)))))))))) trivial
  have f9 : kRSV hp := fcX (ys := []) (hFc _ (.tail _ (.tail _ (.tail _ (.tail _ (.tail _ (.tail _ (.tail _ (.tail _ (.tail _ (.head _))))))))))) trivial
  have f10 : kPEQA hp := fcX (ys := []) (hFc _ (.tail _ (.tail _ (.tail _ (.tail _ (.tail _ (.tail _ (.tail _ (.tail _ (.tail _ (.tail _ (.head _)))))))))))) trivial
  have f11 : kIEQ0 hp := fcX (ys := []) (hFc _ (.tail _ (.tail _ (.tail _ (.tail _ (.tail _ (.tail _ (.tail _ (.tail _ (.tail _ (.tail _ (.tail _ (.head _))))))))))))) trivial
  have f12 : kIEQ1 hp := fcX (ys := []) (hFc _ (.tail _ (.tail _ (.tail _ (.tail _ (.tail _ (.tail _ (.tail _ (.tail _ (.tail _ (.tail _ (.tail _ (.tail _ (.head _)))))))))))))) trivial
  exact ⟨hO, ⟨h1, h2, h3, h4⟩, s6, s7, s8, s9, s10, s11, s12, by omega, by omega, by omega, by omega, by omega, by omega, by omega, h0, h5, h6, h7, ⟨h8, h9, h10, h11, h12, h13⟩, f0, f1, f2, f3, f4, f5, f6, ⟨s13, by omega, f7⟩, f8, f9, f10, f11, f12⟩
theorem toA {rc : List Int} {hp : Lean.RArray Nat} {md : sMd} {L : Nat} {i : Int} (hl : rc.length = 6) (hR : ∀ x ∈ rc, zMn ≤ x ∧ x ≤ zMx) (hi5 : rc[5]? = some i) (hi : 0 ≤ i ∧ i ≤ 3072) (h : lIn 52 57 53 55 2 15 3 hp) (l0 : eSl L 0 = 30) (l1 : eSl L 1 = cR 0) (l2 : eSl L 2 = cR 273) (l3 : eSl L 3 = cR 292) (l4 : eSl L 4 = cI i) : ∃ r, Gs fFS rc none 0 md hp r gLA.1 gLA.2.1 [] gLA.2.2 L [] hp := by
  obtain ⟨s0, s1, s2, s3, s4, s5, rfl⟩ := len6 hl
  have e5 : s5 = i := Option.some.inj hi5
  subst e5
  obtain ⟨hO, ⟨x1, x2, x3, x4⟩, z, a, b, c, t, u, v, bz, ba, bb, bc, bt, bu, bv, hz, ha, hb, hc, ⟨ht1, ht2, hu1, hu2, hv1, hv2⟩, f0, f1, f2, f3, f4, f5, f6, ⟨w, bw, f7⟩, f8, f9, f10, f11, f12⟩ := h
  have hR2 : ∀ x ∈ ([s0, s1, s2, s3, s4, s5, z, a, b, c, t, u, v, w] : List Int), wMn ≤ x ∧ x ≤ wMx := by
    intro x hx
    have hx : x ∈ ([s0, s1, s2, s3, s4, s5] ++ [z, a, b, c, t, u, v, w] : List Int) := hx
    rcases List.mem_append.mp hx with hx | hx
    · exact wz (hR x hx).1 (hR x hx).2
    · rw [wMn_eq, wMx_eq]
      simp only [List.mem_cons, List.not_mem_nil, or_false] at hx
      rcases hx with rfl | rfl | rfl | rfl | rfl | rfl | rfl | rfl <;> omega
  have r0 := hR s0 (.head _)
  have r1 := hR s1 (.tail _ (.head _))
  have r2 := hR s2 (.tail _ (.tail _ (.head _)))
  have r3 := hR s3 (.tail _ (.tail _ (.tail _ (.head _))))
  have r4 := hR s4 (.tail _ (.tail _ (.tail _ (.tail _ (.head _)))))
  have r5 := hR s5 (.tail _ (.tail _ (.tail _ (.tail _ (.tail _ (.head _))))))
  have r5z := r5
  rw [zMn_eq, zMx_eq] at r0 r1 r2 r3 r4 r5
  refine ⟨[s0, s1, s2, s3, s4, s5, z, a, b, c, t, u, v, w], ⟨rfl, ⟨hR2, all_cons (ivO (y := s0) rfl (show (-2147483648 : Int) ≤ s0 by omega) (show s0 ≤ (2147483647 : Int) by omega)) (all_cons (ivO (y := s1) rfl (show (-2147483648 : Int) ≤ s1 by omega) (show s1 ≤ (2147483647 : Int) by omega)) (all_cons (ivO (y := s2) rfl (show (-2147483648 : Int) ≤ s2 by omega) (show s2 ≤ (2147483647 : Int) by omega)) (all_cons (ivO (y := s3) rfl (show (-2147483648 : Int) ≤ s3 by omega) (show s3 ≤ (2147483647 : Int) by omega)) (all_cons (ivO (y := s4) rfl (show (-2147483648 : Int) ≤ s4 by omega) (show s4 ≤ (2147483647 : Int) by omega)) (all_cons (ivO (y := s5) rfl (show (0 : Int) ≤ s5 by omega) (show s5 ≤ (3072 : Int) by omega)) (all_cons (ivO (y := z) rfl (show (0 : Int) ≤ z by omega) (show z ≤ (8 : Int) by omega)) (all_cons (ivO (y := a) rfl (show (0 : Int) ≤ a by omega) (show a ≤ (40 : Int) by omega)) (all_cons (ivO (y := b) rfl (show (0 : Int) ≤ b by omega) (show b ≤ (40 : Int) by omega)) (all_cons (ivO (y := c) rfl (show (0 : Int) ≤ c by omega) (show c ≤ (40 : Int) by omega)) (all_cons (ivO (y := t) rfl (show (0 : Int) ≤ t by omega) (show t ≤ (940 : Int) by omega)) (all_cons (ivO (y := u) rfl (show (0 : Int) ≤ u by omega) (show u ≤ (1 : Int) by omega)) (all_cons (ivO (y := v) rfl (show (0 : Int) ≤ v by omega) (show v ≤ (1 : Int) by omega)) (all_cons (ivO (y := w) rfl (show (0 : Int) ≤ w by omega) (show w ≤ (940 : Int) by omega)) (all_nil))))))))))))))⟩, all_cons ⟨((0 : Int) + ((1 : Int) * t + ((-1 : Int) * w + 0))), rfl, by omega⟩ all_nil, all_nil⟩, fun j v hj => ?_, trivial, hO, ⟨all_cons (lrI hO (c := 275) (j := 6) rfl rfl (by decide) rfl (by decide) rfl hz (show sE [s0, s1, s2, s3, s4, s5, z, a, b, c, t, u, v, w] (sV 6) = some z from sE_V rfl)) (all_cons (lrC (c := 0) (j := 10) (k := 52) (rk := 27) rfl rfl (by decide) rfl (by decide) x1 (by decide) rfl rfl rfl) (all_cons (lrC (c := 0) (j := 11) (k := 57) (rk := 32) rfl rfl (by decide) rfl (by decide) x2 (by decide) rfl rfl rfl) (all_cons (lrC (c := 0) (j := 6) (k := 2) (rk := 2) rfl rfl (by decide) rfl (by decide) x3 (by decide) rfl rfl rfl) (all_cons (lrC (c := 0) (j := 7) (k := 15) (rk := 98) rfl rfl (by decide) rfl (by decide) x4 (by decide) rfl rfl rfl) (all_cons (lrI hO (c := 52) (j := 2) rfl rfl (by decide) rfl (by decide) rfl ha (show sE [s0, s1, s2, s3, s4, s5, z, a, b, c, t, u, v, w] (sV 7) = some a from sE_V rfl)) (all_cons (lrI hO (c := 237) (j := 2) rfl rfl (by decide) rfl (by decide) rfl hb (show sE [s0, s1, s2, s3, s4, s5, z, a, b, c, t, u, v, w] (sV 8) = some b from sE_V rfl)) (all_cons (lrI hO (c := 268) (j := 2) rfl rfl (by decide) rfl (by decide) rfl hc (show sE [s0, s1, s2, s3, s4, s5, z, a, b, c, t, u, v, w] (sV 9) = some c from sE_V rfl)) (all_cons (lrI hO (c := 0) (j := 1) rfl rfl (by decide) rfl (by decide) rfl ht1 (show sE [s0, s1, s2, s3, s4, s5, z, a, b, c, t, u, v, w] (sV 10) = some t from sE_V rfl)) (all_cons (lrI hO (c := 273) (j := 2) rfl rfl (by decide) rfl (by decide) rfl ht2 (show sE [s0, s1, s2, s3, s4, s5, z, a, b, c, t, u, v, w] (sV 10) = some t from sE_V rfl)) (all_cons (lrI hO (c := 211) (j := 0) rfl rfl (by decide) rfl (by decide) rfl hu1 (show sE [s0, s1, s2, s3, s4, s5, z, a, b, c, t, u, v, w] (sV 11) = some u from sE_V rfl)) (all_cons (lrI hO (c := 291) (j := 0) rfl rfl (by decide) rfl (by decide) rfl hu2 (show sE [s0, s1, s2, s3, s4, s5, z, a, b, c, t, u, v, w] (sV 11) = some u from sE_V rfl)) (all_cons (lrI hO (c := 242) (j := 0) rfl rfl (by decide) rfl (by decide) rfl hv1 (show sE [s0, s1, s2, s3, s4, s5, z, a, b, c, t, u, v, w] (sV 12) = some v from sE_V rfl)) (all_cons (lrI hO (c := 291) (j := 1) rfl rfl (by decide) rfl (by decide) rfl hv2 (show sE [s0, s1, s2, s3, s4, s5, z, a, b, c, t, u, v, w] (sV 12) = some v from sE_V rfl)) (all_nil)))))))))))))), all_cons (⟨[a], ⟨(show sE [s0, s1, s2, s3, s4, s5, z, a, b, c, t, u, v, w] (sV 7) = some a from sE_V rfl), trivial⟩, f0⟩) (all_cons (⟨[b], ⟨(show sE [s0, s1, s2, s3, s4, s5, z, a, b, c, t, u, v, w] (sV 8) = some b from sE_V rfl), trivial⟩, f1⟩) (all_cons (⟨[c], ⟨(show sE [s0, s1, s2, s3, s4, s5, z, a, b, c, t, u, v, w] (sV 9) = some c from sE_V rfl), trivial⟩, f2⟩) (all_cons (⟨[z], ⟨(show sE [s0, s1, s2, s3, s4, s5, z, a, b, c, t, u, v, w] (sV 6) = some z from sE_V rfl), trivial⟩, f3⟩) (all_cons (⟨[], trivial, f4⟩) (all_cons (⟨[], trivial, f5⟩) (all_cons (⟨[], trivial, f6⟩) (all_cons (⟨[w], ⟨(show sE [s0, s1, s2, s3, s4, s5, z, a, b, c, t, u, v, w] (sV 13) = some w from sE_V rfl), trivial⟩, f7⟩) (all_cons (⟨[], trivial, f8⟩) (all_cons (⟨[], trivial, f9⟩) (all_cons (⟨[], trivial, f10⟩) (all_cons (⟨[], trivial, f11⟩) (all_cons (⟨[], trivial, f12⟩) (all_nil)))))))))))))⟩, ⟨[z, a, b, c, t, u, v, w], rfl⟩, fun e he => (by cases he), hFr_refl _ hp⟩
  have hj : ([(8, .ofNat 0, []), (16, .ofNat 0, []), (94, .ofNat 273, []), (113, .ofNat 292, []), (1, .ofNat 0, [(.ofNat 1, 5)]), (9, .ofNat 0, []), (9, .ofNat 0, [])] : List sVl)[j]? = some v := hj
  match j, hj with
  | 0, hj => cases hj; rw [l0]; exact vOk_s
  | 1, hj => cases hj; rw [l1]; exact vOk_r (ro := 0) (c := 0) rfl (by decide) rfl
  | 2, hj => cases hj; rw [l2]; exact vOk_r (ro := 78) (c := 273) rfl (by decide) rfl
  | 3, hj => cases hj; rw [l3]; exact vOk_r (ro := 97) (c := 292) rfl (by decide) rfl
  | 4, hj => cases hj; rw [l4]; exact vOk_i (sE_V rfl) r5z.1 r5z.2
  | 5, hj => cases hj; exact vOk_9
  | 6, hj => cases hj; exact vOk_9
  | n + 7, hj => exact absurd hj (by simp)
theorem ofB {rr : List Int} {hp : Lean.RArray Nat} (hO : hOk hp) (hN : sNOk tSg rr gEB.1) (hH : hsOk fFS rr hp gEB.2.2) : lIn 57 52 58 60 2 15 3 hp := by
  obtain ⟨s0, s1, s2, s3, s4, s5, s6, s7, s8, s9, s10, s11, s12, s13, rfl⟩ := len14 (show rr.length = 14 from hN.1)
  have hIv : ∀ q ∈ ([(0, .negSucc 2147483647, .ofNat 2147483647), (1, .negSucc 2147483647, .ofNat 2147483647), (2, .negSucc 2147483647, .ofNat 2147483647), (3, .negSucc 2147483647, .ofNat 2147483647), (4, .negSucc 2147483647, .ofNat 2147483647), (5, .ofNat 0, .ofNat 3072), (6, .ofNat 0, .ofNat 8), (7, .ofNat 0, .ofNat 40), (8, .ofNat 0, .ofNat 40), (9, .ofNat 0, .ofNat 40), (10, .ofNat 0, .ofNat 940), (11, .ofNat 0, .ofNat 1), (12, .ofNat 0, .ofNat 1), (13, .ofNat 0, .ofNat 940)] : sIv), ∃ x, ([s0, s1, s2, s3, s4, s5, s6, s7, s8, s9, s10, s11, s12, s13] : List Int)[q.1]? = some x ∧ q.2.1 ≤ x ∧ x ≤ q.2.2 := hN.2.1.2
  have b0 : (-2147483648 : Int) ≤ s0 ∧ s0 ≤ (2147483647 : Int) := ivX (q := (0, .negSucc 2147483647, .ofNat 2147483647)) (y := s0) (hIv _ (.head _)) rfl
  have b1 : (-2147483648 : Int) ≤ s1 ∧ s1 ≤ (2147483647 : Int) := ivX (q := (1, .negSucc 2147483647, .ofNat 2147483647)) (y := s1) (hIv _ (.tail _ (.head _))) rfl
  have b2 : (-2147483648 : Int) ≤ s2 ∧ s2 ≤ (2147483647 : Int) := ivX (q := (2, .negSucc 2147483647, .ofNat 2147483647)) (y := s2) (hIv _ (.tail _ (.tail _ (.head _)))) rfl
  have b3 : (-2147483648 : Int) ≤ s3 ∧ s3 ≤ (2147483647 : Int) := ivX (q := (3, .negSucc 2147483647, .ofNat 2147483647)) (y := s3) (hIv _ (.tail _ (.tail _ (.tail _ (.head _))))) rfl
  have b4 : (-2147483648 : Int) ≤ s4 ∧ s4 ≤ (2147483647 : Int) := ivX (q := (4, .negSucc 2147483647, .ofNat 2147483647)) (y := s4) (hIv _ (.tail _ (.tail _ (.tail _ (.tail _ (.head _)))))) rfl
  have b5 : (0 : Int) ≤ s5 ∧ s5 ≤ (3072 : Int) := ivX (q := (5, .ofNat 0, .ofNat 3072)) (y := s5) (hIv _ (.tail _ (.tail _ (.tail _ (.tail _ (.tail _ (.head _))))))) rfl
  have b6 : (0 : Int) ≤ s6 ∧ s6 ≤ (8 : Int) := ivX (q := (6, .ofNat 0, .ofNat 8)) (y := s6) (hIv _ (.tail _ (.tail _ (.tail _ (.tail _ (.tail _ (.tail _ (.head _)))))))) rfl
  have b7 : (0 : Int) ≤ s7 ∧ s7 ≤ (40 : Int) := ivX (q := (7, .ofNat 0, .ofNat 40)) (y := s7) (hIv _ (.tail _ (.tail _ (.tail _ (.tail _ (.tail _ (.tail _ (.tail _ (.head _))))))))) rfl
  have b8 : (0 : Int) ≤ s8 ∧ s8 ≤ (40 : Int) := ivX (q := (8, .ofNat 0, .ofNat 40)) (y := s8) (hIv _ (.tail _ (.tail _ (.tail _ (.tail _ (.tail _ (.tail _ (.tail _ (.tail _ (.head _)))))))))) rfl
  have b9 : (0 : Int) ≤ s9 ∧ s9 ≤ (40 : Int) := ivX (q := (9, .ofNat 0, .ofNat 40)) (y := s9) (hIv _ (.tail _ (.tail _ (.tail _ (.tail _ (.tail _ (.tail _ (.tail _ (.tail _ (.tail _ (.head _))))))))))) rfl
  have b10 : (0 : Int) ≤ s10 ∧ s10 ≤ (940 : Int) := ivX (q := (10, .ofNat 0, .ofNat 940)) (y := s10) (hIv _ (.tail _ (.tail _ (.tail _ (.tail _ (.tail _ (.tail _ (.tail _ (.tail _ (.tail _ (.tail _ (.head _)))))))))))) rfl
  have b11 : (0 : Int) ≤ s11 ∧ s11 ≤ (1 : Int) := ivX (q := (11, .ofNat 0, .ofNat 1)) (y := s11) (hIv _ (.tail _ (.tail _ (.tail _ (.tail _ (.tail _ (.tail _ (.tail _ (.tail _ (.tail _ (.tail _ (.tail _ (.head _))))))))))))) rfl
  have b12 : (0 : Int) ≤ s12 ∧ s12 ≤ (1 : Int) := ivX (q := (12, .ofNat 0, .ofNat 1)) (y := s12) (hIv _ (.tail _ (.tail _ (.tail _ (.tail _ (.tail _ (.tail _ (.tail _ (.tail _ (.tail _ (.tail _ (.tail _ (.tail _ (.head _)))))))))))))) rfl
  have b13 : (0 : Int) ≤ s13 ∧ s13 ≤ (940 : Int) := ivX (q := (13, .ofNat 0, .ofNat 940)) (y := s13) (hIv _ (.tail _ (.tail _ (.tail _ (.tail _ (.tail _ (.tail _ (.tail _ (.tail _ (.tail _ (.tail _ (.tail _ (.tail _ (.tail _ (.head _))))))))))))))) rfl
  have hCs : ∀ c ∈ ([(.ofNat 0, [(.ofNat 1, 10), (.negSucc 0, 13)])] : List sLn), ∃ x, sE [s0, s1, s2, s3, s4, s5, s6, s7, s8, s9, s10, s11, s12, s13] c = some x ∧ x ≤ 0 := hN.2.2.1
  have c0 : ((0 : Int) + ((1 : Int) * s10 + ((-1 : Int) * s13 + 0))) ≤ 0 := csX (hCs _ (.head _)) rfl
  have hRf : ∀ q ∈ ([((80, .ofNat 275, []), (.ofNat 6, []), 1, .ofNat 0, [(.ofNat 1, 6)]), ((0, .ofNat 0, []), (.ofNat 10, []), 48, .ofNat 57, []), ((0, .ofNat 0, []), (.ofNat 11, []), 43, .ofNat 52, []), ((0, .ofNat 0, []), (.ofNat 6, []), 18, .ofNat 2, []), ((0, .ofNat 0, []), (.ofNat 7, []), 114, .ofNat 15, []), ((32, .ofNat 57, []), (.ofNat 2, []), 1, .ofNat 0, [(.ofNat 1, 7)]), ((67, .ofNat 237, []), (.ofNat 2, []), 1, .ofNat 0, [(.ofNat 1, 8)]), ((73, .ofNat 268, []), (.ofNat 2, []), 1, .ofNat 0, [(.ofNat 1, 9)]), ((0, .ofNat 0, []), (.ofNat 1, []), 1, .ofNat 0, [(.ofNat 1, 10)]), ((78, .ofNat 273, []), (.ofNat 2, []), 1, .ofNat 0, [(.ofNat 1, 10)]), ((66, .ofNat 211, []), (.ofNat 0, []), 1, .ofNat 0, [(.ofNat 1, 11)]), ((96, .ofNat 291, []), (.ofNat 0, []), 1, .ofNat 0, [(.ofNat 1, 11)]), ((72, .ofNat 242, []), (.ofNat 0, []), 1, .ofNat 0, [(.ofNat 1, 12)]), ((96, .ofNat 291, []), (.ofNat 1, []), 1, .ofNat 0, [(.ofNat 1, 12)])] : List sRf), rfOk [s0, s1, s2, s3, s4, s5, s6, s7, s8, s9, s10, s11, s12, s13] hp q := hH.1
  have h0 : hI hp 275 6 = s6 := rfI0 (hRf _ (.head _)) (sE_k _ _) (sE_k _ _) (sE_V rfl)
  have h1 : hv hp 0 10 = cR 57 := lrR (hRf _ (.tail _ (.head _))) (by decide) (sE_k _ _) (sE_k _ _) (sE_k _ _)
  have h2 : hv hp 0 11 = cR 52 := lrR (hRf _ (.tail _ (.tail _ (.head _)))) (by decide) (sE_k _ _) (sE_k _ _) (sE_k _ _)
  have h3 : hv hp 0 6 = cR 2 := lrR (hRf _ (.tail _ (.tail _ (.tail _ (.head _))))) (by decide) (sE_k _ _) (sE_k _ _) (sE_k _ _)
  have h4 : hv hp 0 7 = cR 15 := lrR (hRf _ (.tail _ (.tail _ (.tail _ (.tail _ (.head _)))))) (by decide) (sE_k _ _) (sE_k _ _) (sE_k _ _)
  have h5 : hI hp 57 2 = s7 := rfI0 (hRf _ (.tail _ (.tail _ (.tail _ (.tail _ (.tail _ (.head _))))))) (sE_k _ _) (sE_k _ _) (sE_V rfl)
  have h6 : hI hp 237 2 = s8 := rfI0 (hRf _ (.tail _ (.tail _ (.tail _ (.tail _ (.tail _ (.tail _ (.head _)))))))) (sE_k _ _) (sE_k _ _) (sE_V rfl)
  have h7 : hI hp 268 2 = s9 := rfI0 (hRf _ (.tail _ (.tail _ (.tail _ (.tail _ (.tail _ (.tail _ (.tail _ (.head _))))))))) (sE_k _ _) (sE_k _ _) (sE_V rfl)
  have h8 : hI hp 0 1 = s10 := rfI0 (hRf _ (.tail _ (.tail _ (.tail _ (.tail _ (.tail _ (.tail _ (.tail _ (.tail _ (.head _)))))))))) (sE_k _ _) (sE_k _ _) (sE_V rfl)
  have h9 : hI hp 273 2 = s10 := rfI0 (hRf _ (.tail _ (.tail _ (.tail _ (.tail _ (.tail _ (.tail _ (.tail _ (.tail _ (.tail _ (.head _))))))))))) (sE_k _ _) (sE_k _ _) (sE_V rfl)
  have h10 : hI hp 211 0 = s11 := rfI0 (hRf _ (.tail _ (.tail _ (.tail _ (.tail _ (.tail _ (.tail _ (.tail _ (.tail _ (.tail _ (.tail _ (.head _)))))))))))) (sE_k _ _) (sE_k _ _) (sE_V rfl)
  have h11 : hI hp 291 0 = s11 := rfI0 (hRf _ (.tail _ (.tail _ (.tail _ (.tail _ (.tail _ (.tail _ (.tail _ (.tail _ (.tail _ (.tail _ (.tail _ (.head _))))))))))))) (sE_k _ _) (sE_k _ _) (sE_V rfl)
  have h12 : hI hp 242 0 = s12 := rfI0 (hRf _ (.tail _ (.tail _ (.tail _ (.tail _ (.tail _ (.tail _ (.tail _ (.tail _ (.tail _ (.tail _ (.tail _ (.tail _ (.head _)))))))))))))) (sE_k _ _) (sE_k _ _) (sE_V rfl)
  have h13 : hI hp 291 1 = s12 := rfI0 (hRf _ (.tail _ (.tail _ (.tail _ (.tail _ (.tail _ (.tail _ (.tail _ (.tail _ (.tail _ (.tail _ (.tail _ (.tail _ (.tail _ (.head _))))))))))))))) (sE_k _ _) (sE_k _ _) (sE_V rfl)
  have hFc : ∀ q ∈ ([(2, [(.ofNat 0, [(.ofNat 1, 7)])]), (3, [(.ofNat 0, [(.ofNat 1, 8)])]), (4, [(.ofNat 0, [(.ofNat 1, 9)])]), (7, [(.ofNat 0, [(.ofNat 1, 6)])]), (12, []), (17, []), (19, []), (177, [(.ofNat 0, [(.ofNat 1, 13)])]), (51, []), (132, []), (216, []), (231, []), (236, [])] : List sFc), fcOk fFS [s0, s1, s2, s3, s4, s5, s6, s7, s8, s9, s10, s11, s12, s13] hp q := hH.2
  have f0 : fSen 58 60 s7 hp := fcX (ys := [s7]) (hFc _ (.head _)) ⟨sE_V rfl, trivial⟩
  have f1 : fSen 238 240 s8 hp := fcX (ys := [s8]) (hFc _ (.tail _ (.head _))) ⟨sE_V rfl, trivial⟩
  have f2 : fSen 269 271 s9 hp := fcX (ys := [s9]) (hFc _ (.tail _ (.tail _ (.head _)))) ⟨sE_V rfl, trivial⟩
  have f3 : fCh 275 250 s6 hp := fcX (ys := [s6]) (hFc _ (.tail _ (.tail _ (.tail _ (.head _))))) ⟨sE_V rfl, trivial⟩
  have f4 : fPfs 275 690 hp := fcX (ys := []) (hFc _ (.tail _ (.tail _ (.tail _ (.tail _ (.head _)))))) trivial
  have f5 : fKept 0 0 hp := fcX (ys := []) (hFc _ (.tail _ (.tail _ (.tail _ (.tail _ (.tail _ (.head _))))))) trivial
  have f6 : fKept 871 1 hp := fcX (ys := []) (hFc _ (.tail _ (.tail _ (.tail _ (.tail _ (.tail _ (.tail _ (.head _)))))))) trivial
  have f7 : kTEQ s13 hp := fcX (ys := [s13]) (hFc _ (.tail _ (.tail _ (.tail _ (.tail _ (.tail _ (.tail _ (.tail _ (.head _))))))))) ⟨sE_V rfl, trivial⟩
  have f8 : kCODX hp := fcX (ys := []) (hFc _ (.tail _ (.tail _ (.tail _ (.tail _ (.tail _ (.tail _ (.tail _ (.tail _ (.head _)))))))))) trivial
  have f9 : kRSV hp := fcX (ys := []) (hFc _ (.tail _ (.tail _ (.tail _ (.tail _ (.tail _ (.tail _ (.tail _ (.tail _ (.tail _ (.head _))))))))))) trivial
  have f10 : kPEQA hp := fcX (ys := []) (hFc _ (.tail _ (.tail _ (.tail _ (.tail _ (.tail _ (.tail _ (.tail _ (.tail _ (.tail _ (.tail _ (.head _)))))))))))) trivial
  have f11 : kIEQ0 hp := fcX (ys := []) (hFc _ (.tail _ (.tail _ (.tail _ (.tail _ (.tail _ (.tail _ (.tail _ (.tail _ (.tail _ (.tail _ (.tail _ (.head _))))))))))))) trivial
  have f12 : kIEQ1 hp := fcX (ys := []) (hFc _ (.tail _ (.tail _ (.tail _ (.tail _ (.tail _ (.tail _ (.tail _ (.tail _ (.tail _ (.tail _ (.tail _ (.tail _ (.head _)))))))))))))) trivial
  exact ⟨hO, ⟨h1, h2, h3, h4⟩, s6, s7, s8, s9, s10, s11, s12, by omega, by omega, by omega, by omega, by omega, by omega, by omega, h0, h5, h6, h7, ⟨h8, h9, h10, h11, h12, h13⟩, f0, f1, f2, f3, f4, f5, f6, ⟨s13, by omega, f7⟩, f8, f9, f10, f11, f12⟩
theorem toB {rc : List Int} {hp : Lean.RArray Nat} {md : sMd} {L : Nat} {i : Int} (hl : rc.length = 6) (hR : ∀ x ∈ rc, zMn ≤ x ∧ x ≤ zMx) (hi5 : rc[5]? = some i) (hi : 0 ≤ i ∧ i ≤ 3072) (h : lIn 57 52 58 60 2 15 3 hp) (l0 : eSl L 0 = 30) (l1 : eSl L 1 = cR 0) (l2 : eSl L 2 = cR 273) (l3 : eSl L 3 = cR 292) (l4 : eSl L 4 = cI i) : ∃ r, Gs fFS rc none 0 md hp r gLB.1 gLB.2.1 [] gLB.2.2 L [] hp := by
  obtain ⟨s0, s1, s2, s3, s4, s5, rfl⟩ := len6 hl
  have e5 : s5 = i := Option.some.inj hi5
  subst e5
  obtain ⟨hO, ⟨x1, x2, x3, x4⟩, z, a, b, c, t, u, v, bz, ba, bb, bc, bt, bu, bv, hz, ha, hb, hc, ⟨ht1, ht2, hu1, hu2, hv1, hv2⟩, f0, f1, f2, f3, f4, f5, f6, ⟨w, bw, f7⟩, f8, f9, f10, f11, f12⟩ := h
  have hR2 : ∀ x ∈ ([s0, s1, s2, s3, s4, s5, z, a, b, c, t, u, v, w] : List Int), wMn ≤ x ∧ x ≤ wMx := by
    intro x hx
    have hx : x ∈ ([s0, s1, s2, s3, s4, s5] ++ [z, a, b, c, t, u, v, w] : List Int) := hx
    rcases List.mem_append.mp hx with hx | hx
    · exact wz (hR x hx).1 (hR x hx).2
    · rw [wMn_eq, wMx_eq]
      simp only [List.mem_cons, List.not_mem_nil, or_false] at hx
      rcases hx with rfl | rfl | rfl | rfl | rfl | rfl | rfl | rfl <;> omega
  have r0 := hR s0 (.head _)
  have r1 := hR s1 (.tail _ (.head _))
  have r2 := hR s2 (.tail _ (.tail _ (.head _)))
  have r3 := hR s3 (.tail _ (.tail _ (.tail _ (.head _))))
  have r4 := hR s4 (.tail _ (.tail _ (.tail _ (.tail _ (.head _)))))
  have r5 := hR s5 (.tail _ (.tail _ (.tail _ (.tail _ (.tail _ (.head _))))))
  have r5z := r5
  rw [zMn_eq, zMx_eq] at r0 r1 r2 r3 r4 r5
  refine ⟨[s0, s1, s2, s3, s4, s5, z, a, b, c, t, u, v, w], ⟨rfl, ⟨hR2, all_cons (ivO (y := s0) rfl (show (-2147483648 : Int) ≤ s0 by omega) (show s0 ≤ (2147483647 : Int) by omega)) (all_cons (ivO (y := s1) rfl (show (-2147483648 : Int) ≤ s1 by omega) (show s1 ≤ (2147483647 : Int) by omega)) (all_cons (ivO (y := s2) rfl (show (-2147483648 : Int) ≤ s2 by omega) (show s2 ≤ (2147483647 : Int) by omega)) (all_cons (ivO (y := s3) rfl (show (-2147483648 : Int) ≤ s3 by omega) (show s3 ≤ (2147483647 : Int) by omega)) (all_cons (ivO (y := s4) rfl (show (-2147483648 : Int) ≤ s4 by omega) (show s4 ≤ (2147483647 : Int) by omega)) (all_cons (ivO (y := s5) rfl (show (0 : Int) ≤ s5 by omega) (show s5 ≤ (3072 : Int) by omega)) (all_cons (ivO (y := z) rfl (show (0 : Int) ≤ z by omega) (show z ≤ (8 : Int) by omega)) (all_cons (ivO (y := a) rfl (show (0 : Int) ≤ a by omega) (show a ≤ (40 : Int) by omega)) (all_cons (ivO (y := b) rfl (show (0 : Int) ≤ b by omega) (show b ≤ (40 : Int) by omega)) (all_cons (ivO (y := c) rfl (show (0 : Int) ≤ c by omega) (show c ≤ (40 : Int) by omega)) (all_cons (ivO (y := t) rfl (show (0 : Int) ≤ t by omega) (show t ≤ (940 : Int) by omega)) (all_cons (ivO (y := u) rfl (show (0 : Int) ≤ u by omega) (show u ≤ (1 : Int) by omega)) (all_cons (ivO (y := v) rfl (show (0 : Int) ≤ v by omega) (show v ≤ (1 : Int) by omega)) (all_cons (ivO (y := w) rfl (show (0 : Int) ≤ w by omega) (show w ≤ (940 : Int) by omega)) (all_nil))))))))))))))⟩, all_cons ⟨((0 : Int) + ((1 : Int) * t + ((-1 : Int) * w + 0))), rfl, by omega⟩ all_nil, all_nil⟩, fun j v hj => ?_, trivial, hO, ⟨all_cons (lrI hO (c := 275) (j := 6) rfl rfl (by decide) rfl (by decide) rfl hz (show sE [s0, s1, s2, s3, s4, s5, z, a, b, c, t, u, v, w] (sV 6) = some z from sE_V rfl)) (all_cons (lrC (c := 0) (j := 10) (k := 57) (rk := 32) rfl rfl (by decide) rfl (by decide) x1 (by decide) rfl rfl rfl) (all_cons (lrC (c := 0) (j := 11) (k := 52) (rk := 27) rfl rfl (by decide) rfl (by decide) x2 (by decide) rfl rfl rfl) (all_cons (lrC (c := 0) (j := 6) (k := 2) (rk := 2) rfl rfl (by decide) rfl (by decide) x3 (by decide) rfl rfl rfl) (all_cons (lrC (c := 0) (j := 7) (k := 15) (rk := 98) rfl rfl (by decide) rfl (by decide) x4 (by decide) rfl rfl rfl) (all_cons (lrI hO (c := 57) (j := 2) rfl rfl (by decide) rfl (by decide) rfl ha (show sE [s0, s1, s2, s3, s4, s5, z, a, b, c, t, u, v, w] (sV 7) = some a from sE_V rfl)) (all_cons (lrI hO (c := 237) (j := 2) rfl rfl (by decide) rfl (by decide) rfl hb (show sE [s0, s1, s2, s3, s4, s5, z, a, b, c, t, u, v, w] (sV 8) = some b from sE_V rfl)) (all_cons (lrI hO (c := 268) (j := 2) rfl rfl (by decide) rfl (by decide) rfl hc (show sE [s0, s1, s2, s3, s4, s5, z, a, b, c, t, u, v, w] (sV 9) = some c from sE_V rfl)) (all_cons (lrI hO (c := 0) (j := 1) rfl rfl (by decide) rfl (by decide) rfl ht1 (show sE [s0, s1, s2, s3, s4, s5, z, a, b, c, t, u, v, w] (sV 10) = some t from sE_V rfl)) (all_cons (lrI hO (c := 273) (j := 2) rfl rfl (by decide) rfl (by decide) rfl ht2 (show sE [s0, s1, s2, s3, s4, s5, z, a, b, c, t, u, v, w] (sV 10) = some t from sE_V rfl)) (all_cons (lrI hO (c := 211) (j := 0) rfl rfl (by decide) rfl (by decide) rfl hu1 (show sE [s0, s1, s2, s3, s4, s5, z, a, b, c, t, u, v, w] (sV 11) = some u from sE_V rfl)) (all_cons (lrI hO (c := 291) (j := 0) rfl rfl (by decide) rfl (by decide) rfl hu2 (show sE [s0, s1, s2, s3, s4, s5, z, a, b, c, t, u, v, w] (sV 11) = some u from sE_V rfl)) (all_cons (lrI hO (c := 242) (j := 0) rfl rfl (by decide) rfl (by decide) rfl hv1 (show sE [s0, s1, s2, s3, s4, s5, z, a, b, c, t, u, v, w] (sV 12) = some v from sE_V rfl)) (all_cons (lrI hO (c := 291) (j := 1) rfl rfl (by decide) rfl (by decide) rfl hv2 (show sE [s0, s1, s2, s3, s4, s5, z, a, b, c, t, u, v, w] (sV 12) = some v from sE_V rfl)) (all_nil)))))))))))))), all_cons (⟨[a], ⟨(show sE [s0, s1, s2, s3, s4, s5, z, a, b, c, t, u, v, w] (sV 7) = some a from sE_V rfl), trivial⟩, f0⟩) (all_cons (⟨[b], ⟨(show sE [s0, s1, s2, s3, s4, s5, z, a, b, c, t, u, v, w] (sV 8) = some b from sE_V rfl), trivial⟩, f1⟩) (all_cons (⟨[c], ⟨(show sE [s0, s1, s2, s3, s4, s5, z, a, b, c, t, u, v, w] (sV 9) = some c from sE_V rfl), trivial⟩, f2⟩) (all_cons (⟨[z], ⟨(show sE [s0, s1, s2, s3, s4, s5, z, a, b, c, t, u, v, w] (sV 6) = some z from sE_V rfl), trivial⟩, f3⟩) (all_cons (⟨[], trivial, f4⟩) (all_cons (⟨[], trivial, f5⟩) (all_cons (⟨[], trivial, f6⟩) (all_cons (⟨[w], ⟨(show sE [s0, s1, s2, s3, s4, s5, z, a, b, c, t, u, v, w] (sV 13) = some w from sE_V rfl), trivial⟩, f7⟩) (all_cons (⟨[], trivial, f8⟩) (all_cons (⟨[], trivial, f9⟩) (all_cons (⟨[], trivial, f10⟩) (all_cons (⟨[], trivial, f11⟩) (all_cons (⟨[], trivial, f12⟩) (all_nil)))))))))))))⟩, ⟨[z, a, b, c, t, u, v, w], rfl⟩, fun e he => (by cases he), hFr_refl _ hp⟩
  have hj : ([(8, .ofNat 0, []), (16, .ofNat 0, []), (94, .ofNat 273, []), (113, .ofNat 292, []), (1, .ofNat 0, [(.ofNat 1, 5)]), (9, .ofNat 0, []), (9, .ofNat 0, [])] : List sVl)[j]? = some v := hj
  match j, hj with
  | 0, hj => cases hj; rw [l0]; exact vOk_s
  | 1, hj => cases hj; rw [l1]; exact vOk_r (ro := 0) (c := 0) rfl (by decide) rfl
  | 2, hj => cases hj; rw [l2]; exact vOk_r (ro := 78) (c := 273) rfl (by decide) rfl
  | 3, hj => cases hj; rw [l3]; exact vOk_r (ro := 97) (c := 292) rfl (by decide) rfl
  | 4, hj => cases hj; rw [l4]; exact vOk_i (sE_V rfl) r5z.1 r5z.2
  | 5, hj => cases hj; exact vOk_9
  | 6, hj => cases hj; exact vOk_9
  | n + 7, hj => exact absurd hj (by simp)
theorem ofC {rr : List Int} {hp : Lean.RArray Nat} (hO : hOk hp) (hN : sNOk tSg rr gEC.1) (hH : hsOk fFS rr hp gEC.2.2) : lIn 52 57 53 55 15 2 16 hp := by
  obtain ⟨s0, s1, s2, s3, s4, s5, s6, s7, s8, s9, s10, s11, s12, s13, rfl⟩ := len14 (show rr.length = 14 from hN.1)
  have hIv : ∀ q ∈ ([(0, .negSucc 2147483647, .ofNat 2147483647), (1, .negSucc 2147483647, .ofNat 2147483647), (2, .negSucc 2147483647, .ofNat 2147483647), (3, .negSucc 2147483647, .ofNat 2147483647), (4, .negSucc 2147483647, .ofNat 2147483647), (5, .ofNat 0, .ofNat 3072), (6, .ofNat 0, .ofNat 8), (7, .ofNat 0, .ofNat 40), (8, .ofNat 0, .ofNat 40), (9, .ofNat 0, .ofNat 40), (10, .ofNat 0, .ofNat 940), (11, .ofNat 0, .ofNat 1), (12, .ofNat 0, .ofNat 1), (13, .ofNat 0, .ofNat 940)] : sIv), ∃ x, ([s0, s1, s2, s3, s4, s5, s6, s7, s8, s9, s10, s11, s12, s13] : List Int)[q.1]? = some x ∧ q.2.1 ≤ x ∧ x ≤ q.2.2 := hN.2.1.2
  have b0 : (-2147483648 : Int) ≤ s0 ∧ s0 ≤ (2147483647 : Int) := ivX (q := (0, .negSucc 2147483647, .ofNat 2147483647)) (y := s0) (hIv _ (.head _)) rfl
  have b1 : (-2147483648 : Int) ≤ s1 ∧ s1 ≤ (2147483647 : Int) := ivX (q := (1, .negSucc 2147483647, .ofNat 2147483647)) (y := s1) (hIv _ (.tail _ (.head _))) rfl
  have b2 : (-2147483648 : Int) ≤ s2 ∧ s2 ≤ (2147483647 : Int) := ivX (q := (2, .negSucc 2147483647, .ofNat 2147483647)) (y := s2) (hIv _ (.tail _ (.tail _ (.head _)))) rfl
  have b3 : (-2147483648 : Int) ≤ s3 ∧ s3 ≤ (2147483647 : Int) := ivX (q := (3, .negSucc 2147483647, .ofNat 2147483647)) (y := s3) (hIv _ (.tail _ (.tail _ (.tail _ (.head _))))) rfl
  have b4 : (-2147483648 : Int) ≤ s4 ∧ s4 ≤ (2147483647 : Int) := ivX (q := (4, .negSucc 2147483647, .ofNat 2147483647)) (y := s4) (hIv _ (.tail _ (.tail _ (.tail _ (.tail _ (.head _)))))) rfl
  have b5 : (0 : Int) ≤ s5 ∧ s5 ≤ (3072 : Int) := ivX (q := (5, .ofNat 0, .ofNat 3072)) (y := s5) (hIv _ (.tail _ (.tail _ (.tail _ (.tail _ (.tail _ (.head _))))))) rfl
  have b6 : (0 : Int) ≤ s6 ∧ s6 ≤ (8 : Int) := ivX (q := (6, .ofNat 0, .ofNat 8)) (y := s6) (hIv _ (.tail _ (.tail _ (.tail _ (.tail _ (.tail _ (.tail _ (.head _)))))))) rfl
  have b7 : (0 : Int) ≤ s7 ∧ s7 ≤ (40 : Int) := ivX (q := (7, .ofNat 0, .ofNat 40)) (y := s7) (hIv _ (.tail _ (.tail _ (.tail _ (.tail _ (.tail _ (.tail _ (.tail _ (.head _))))))))) rfl
  have b8 : (0 : Int) ≤ s8 ∧ s8 ≤ (40 : Int) := ivX (q := (8, .ofNat 0, .ofNat 40)) (y := s8) (hIv _ (.tail _ (.tail _ (.tail _ (.tail _ (.tail _ (.tail _ (.tail _ (.tail _ (.head _)))))))))) rfl
  have b9 : (0 : Int) ≤ s9 ∧ s9 ≤ (40 : Int) := ivX (q := (9, .ofNat 0, .ofNat 40)) (y := s9) (hIv _ (.tail _ (.tail _ (.tail _ (.tail _ (.tail _ (.tail _ (.tail _ (.tail _ (.tail _ (.head _))))))))))) rfl
  have b10 : (0 : Int) ≤ s10 ∧ s10 ≤ (940 : Int) := ivX (q := (10, .ofNat 0, .ofNat 940)) (y := s10) (hIv _ (.tail _ (.tail _ (.tail _ (.tail _ (.tail _ (.tail _ (.tail _ (.tail _ (.tail _ (.tail _ (.head _)))))))))))) rfl
  have b11 : (0 : Int) ≤ s11 ∧ s11 ≤ (1 : Int) := ivX (q := (11, .ofNat 0, .ofNat 1)) (y := s11) (hIv _ (.tail _ (.tail _ (.tail _ (.tail _ (.tail _ (.tail _ (.tail _ (.tail _ (.tail _ (.tail _ (.tail _ (.head _))))))))))))) rfl
  have b12 : (0 : Int) ≤ s12 ∧ s12 ≤ (1 : Int) := ivX (q := (12, .ofNat 0, .ofNat 1)) (y := s12) (hIv _ (.tail _ (.tail _ (.tail _ (.tail _ (.tail _ (.tail _ (.tail _ (.tail _ (.tail _ (.tail _ (.tail _ (.tail _ (.head _)))))))))))))) rfl
  have b13 : (0 : Int) ≤ s13 ∧ s13 ≤ (940 : Int) := ivX (q := (13, .ofNat 0, .ofNat 940)) (y := s13) (hIv _ (.tail _ (.tail _ (.tail _ (.tail _ (.tail _ (.tail _ (.tail _ (.tail _ (.tail _ (.tail _ (.tail _ (.tail _ (.tail _ (.head _))))))))))))))) rfl
  have hCs : ∀ c ∈ ([(.ofNat 0, [(.ofNat 1, 10), (.negSucc 0, 13)])] : List sLn), ∃ x, sE [s0, s1, s2, s3, s4, s5, s6, s7, s8, s9, s10, s11, s12, s13] c = some x ∧ x ≤ 0 := hN.2.2.1
  have c0 : ((0 : Int) + ((1 : Int) * s10 + ((-1 : Int) * s13 + 0))) ≤ 0 := csX (hCs _ (.head _)) rfl
  have hRf : ∀ q ∈ ([((80, .ofNat 275, []), (.ofNat 6, []), 1, .ofNat 0, [(.ofNat 1, 6)]), ((0, .ofNat 0, []), (.ofNat 10, []), 43, .ofNat 52, []), ((0, .ofNat 0, []), (.ofNat 11, []), 48, .ofNat 57, []), ((0, .ofNat 0, []), (.ofNat 6, []), 114, .ofNat 15, []), ((0, .ofNat 0, []), (.ofNat 7, []), 18, .ofNat 2, []), ((27, .ofNat 52, []), (.ofNat 2, []), 1, .ofNat 0, [(.ofNat 1, 7)]), ((67, .ofNat 237, []), (.ofNat 2, []), 1, .ofNat 0, [(.ofNat 1, 8)]), ((73, .ofNat 268, []), (.ofNat 2, []), 1, .ofNat 0, [(.ofNat 1, 9)]), ((0, .ofNat 0, []), (.ofNat 1, []), 1, .ofNat 0, [(.ofNat 1, 10)]), ((78, .ofNat 273, []), (.ofNat 2, []), 1, .ofNat 0, [(.ofNat 1, 10)]), ((66, .ofNat 211, []), (.ofNat 0, []), 1, .ofNat 0, [(.ofNat 1, 11)]), ((96, .ofNat 291, []), (.ofNat 0, []), 1, .ofNat 0, [(.ofNat 1, 11)]), ((72, .ofNat 242, []), (.ofNat 0, []), 1, .ofNat 0, [(.ofNat 1, 12)]), ((96, .ofNat 291, []), (.ofNat 1, []), 1, .ofNat 0, [(.ofNat 1, 12)])] : List sRf), rfOk [s0, s1, s2, s3, s4, s5, s6, s7, s8, s9, s10, s11, s12, s13] hp q := hH.1
  have h0 : hI hp 275 6 = s6 := rfI0 (hRf _ (.head _)) (sE_k _ _) (sE_k _ _) (sE_V rfl)
  have h1 : hv hp 0 10 = cR 52 := lrR (hRf _ (.tail _ (.head _))) (by decide) (sE_k _ _) (sE_k _ _) (sE_k _ _)
  have h2 : hv hp 0 11 = cR 57 := lrR (hRf _ (.tail _ (.tail _ (.head _)))) (by decide) (sE_k _ _) (sE_k _ _) (sE_k _ _)
  have h3 : hv hp 0 6 = cR 15 := lrR (hRf _ (.tail _ (.tail _ (.tail _ (.head _))))) (by decide) (sE_k _ _) (sE_k _ _) (sE_k _ _)
  have h4 : hv hp 0 7 = cR 2 := lrR (hRf _ (.tail _ (.tail _ (.tail _ (.tail _ (.head _)))))) (by decide) (sE_k _ _) (sE_k _ _) (sE_k _ _)
  have h5 : hI hp 52 2 = s7 := rfI0 (hRf _ (.tail _ (.tail _ (.tail _ (.tail _ (.tail _ (.head _))))))) (sE_k _ _) (sE_k _ _) (sE_V rfl)
  have h6 : hI hp 237 2 = s8 := rfI0 (hRf _ (.tail _ (.tail _ (.tail _ (.tail _ (.tail _ (.tail _ (.head _)))))))) (sE_k _ _) (sE_k _ _) (sE_V rfl)
  have h7 : hI hp 268 2 = s9 := rfI0 (hRf _ (.tail _ (.tail _ (.tail _ (.tail _ (.tail _ (.tail _ (.tail _ (.head _))))))))) (sE_k _ _) (sE_k _ _) (sE_V rfl)
  have h8 : hI hp 0 1 = s10 := rfI0 (hRf _ (.tail _ (.tail _ (.tail _ (.tail _ (.tail _ (.tail _ (.tail _ (.tail _ (.head _)))))))))) (sE_k _ _) (sE_k _ _) (sE_V rfl)
  have h9 : hI hp 273 2 = s10 := rfI0 (hRf _ (.tail _ (.tail _ (.tail _ (.tail _ (.tail _ (.tail _ (.tail _ (.tail _ (.tail _ (.head _))))))))))) (sE_k _ _) (sE_k _ _) (sE_V rfl)
  have h10 : hI hp 211 0 = s11 := rfI0 (hRf _ (.tail _ (.tail _ (.tail _ (.tail _ (.tail _ (.tail _ (.tail _ (.tail _ (.tail _ (.tail _ (.head _)))))))))))) (sE_k _ _) (sE_k _ _) (sE_V rfl)
  have h11 : hI hp 291 0 = s11 := rfI0 (hRf _ (.tail _ (.tail _ (.tail _ (.tail _ (.tail _ (.tail _ (.tail _ (.tail _ (.tail _ (.tail _ (.tail _ (.head _))))))))))))) (sE_k _ _) (sE_k _ _) (sE_V rfl)
  have h12 : hI hp 242 0 = s12 := rfI0 (hRf _ (.tail _ (.tail _ (.tail _ (.tail _ (.tail _ (.tail _ (.tail _ (.tail _ (.tail _ (.tail _ (.tail _ (.tail _ (.head _)))))))))))))) (sE_k _ _) (sE_k _ _) (sE_V rfl)
  have h13 : hI hp 291 1 = s12 := rfI0 (hRf _ (.tail _ (.tail _ (.tail _ (.tail _ (.tail _ (.tail _ (.tail _ (.tail _ (.tail _ (.tail _ (.tail _ (.tail _ (.tail _ (.head _))))))))))))))) (sE_k _ _) (sE_k _ _) (sE_V rfl)
  have hFc : ∀ q ∈ ([(1, [(.ofNat 0, [(.ofNat 1, 7)])]), (3, [(.ofNat 0, [(.ofNat 1, 8)])]), (4, [(.ofNat 0, [(.ofNat 1, 9)])]), (7, [(.ofNat 0, [(.ofNat 1, 6)])]), (12, []), (17, []), (19, []), (177, [(.ofNat 0, [(.ofNat 1, 13)])]), (51, []), (132, []), (217, []), (231, []), (236, [])] : List sFc), fcOk fFS [s0, s1, s2, s3, s4, s5, s6, s7, s8, s9, s10, s11, s12, s13] hp q := hH.2
  have f0 : fSen 53 55 s7 hp := fcX (ys := [s7]) (hFc _ (.head _)) ⟨sE_V rfl, trivial⟩
  have f1 : fSen 238 240 s8 hp := fcX (ys := [s8]) (hFc _ (.tail _ (.head _))) ⟨sE_V rfl, trivial⟩
  have f2 : fSen 269 271 s9 hp := fcX (ys := [s9]) (hFc _ (.tail _ (.tail _ (.head _)))) ⟨sE_V rfl, trivial⟩
  have f3 : fCh 275 250 s6 hp := fcX (ys := [s6]) (hFc _ (.tail _ (.tail _ (.tail _ (.head _))))) ⟨sE_V rfl, trivial⟩
  have f4 : fPfs 275 690 hp := fcX (ys := []) (hFc _ (.tail _ (.tail _ (.tail _ (.tail _ (.head _)))))) trivial
  have f5 : fKept 0 0 hp := fcX (ys := []) (hFc _ (.tail _ (.tail _ (.tail _ (.tail _ (.tail _ (.head _))))))) trivial
  have f6 : fKept 871 1 hp := fcX (ys := []) (hFc _ (.tail _ (.tail _ (.tail _ (.tail _ (.tail _ (.tail _ (.head _)))))))) trivial
  have f7 : kTEQ s13 hp := fcX (ys := [s13]) (hFc _ (.tail _ (.tail _ (.tail _ (.tail _ (.tail _ (.tail _ (.tail _ (.head _))))))))) ⟨sE_V rfl, trivial⟩
  have f8 : kCODX hp := fcX (ys := []) (hFc _ (.tail _ (.tail _ (.tail _ (.tail _ (.tail _ (.tail _ (.tail _ (.tail _ (.head _)))))))))) trivial
  have f9 : kRSV hp := fcX (ys := []) (hFc _ (.tail _ (.tail _ (.tail _ (.tail _ (.tail _ (.tail _ (.tail _ (.tail _ (.tail _ (.head _))))))))))) trivial
  have f10 : kPEQB hp := fcX (ys := []) (hFc _ (.tail _ (.tail _ (.tail _ (.tail _ (.tail _ (.tail _ (.tail _ (.tail _ (.tail _ (.tail _ (.head _)))))))))))) trivial
  have f11 : kIEQ0 hp := fcX (ys := []) (hFc _ (.tail _ (.tail _ (.tail _ (.tail _ (.tail _ (.tail _ (.tail _ (.tail _ (.tail _ (.tail _ (.tail _ (.head _))))))))))))) trivial
  have f12 : kIEQ1 hp := fcX (ys := []) (hFc _ (.tail _ (.tail _ (.tail _ (.tail _ (.tail _ (.tail _ (.tail _ (.tail _ (.tail _ (.tail _ (.tail _ (.tail _ (.head _)))))))))))))) trivial
  exact ⟨hO, ⟨h1, h2, h3, h4⟩, s6, s7, s8, s9, s10, s11, s12, by omega, by omega, by omega, by omega, by omega, by omega, by omega, h0, h5, h6, h7, ⟨h8, h9, h10, h11, h12, h13⟩, f0, f1, f2, f3, f4, f5, f6, ⟨s13, by omega, f7⟩, f8, f9, f10, f11, f12⟩
theorem toC {rc : List Int} {hp : Lean.RArray Nat} {md : sMd} {L : Nat} {i : Int} (hl : rc.length = 6) (hR : ∀ x ∈ rc, zMn ≤ x ∧ x ≤ zMx) (hi5 : rc[5]? = some i) (hi : 0 ≤ i ∧ i ≤ 3072) (h : lIn 52 57 53 55 15 2 16 hp) (l0 : eSl L 0 = 30) (l1 : eSl L 1 = cR 0) (l2 : eSl L 2 = cR 273) (l3 : eSl L 3 = cR 292) (l4 : eSl L 4 = cI i) : ∃ r, Gs fFS rc none 0 md hp r gLC.1 gLC.2.1 [] gLC.2.2 L [] hp := by
  obtain ⟨s0, s1, s2, s3, s4, s5, rfl⟩ := len6 hl
  have e5 : s5 = i := Option.some.inj hi5
  subst e5
  obtain ⟨hO, ⟨x1, x2, x3, x4⟩, z, a, b, c, t, u, v, bz, ba, bb, bc, bt, bu, bv, hz, ha, hb, hc, ⟨ht1, ht2, hu1, hu2, hv1, hv2⟩, f0, f1, f2, f3, f4, f5, f6, ⟨w, bw, f7⟩, f8, f9, f10, f11, f12⟩ := h
  have hR2 : ∀ x ∈ ([s0, s1, s2, s3, s4, s5, z, a, b, c, t, u, v, w] : List Int), wMn ≤ x ∧ x ≤ wMx := by
    intro x hx
    have hx : x ∈ ([s0, s1, s2, s3, s4, s5] ++ [z, a, b, c, t, u, v, w] : List Int) := hx
    rcases List.mem_append.mp hx with hx | hx
    · exact wz (hR x hx).1 (hR x hx).2
    · rw [wMn_eq, wMx_eq]
      simp only [List.mem_cons, List.not_mem_nil, or_false] at hx
      rcases hx with rfl | rfl | rfl | rfl | rfl | rfl | rfl | rfl <;> omega
  have r0 := hR s0 (.head _)
  have r1 := hR s1 (.tail _ (.head _))
  have r2 := hR s2 (.tail _ (.tail _ (.head _)))
  have r3 := hR s3 (.tail _ (.tail _ (.tail _ (.head _))))
  have r4 := hR s4 (.tail _ (.tail _ (.tail _ (.tail _ (.head _)))))
  have r5 := hR s5 (.tail _ (.tail _ (.tail _ (.tail _ (.tail _ (.head _))))))
  have r5z := r5
  rw [zMn_eq, zMx_eq] at r0 r1 r2 r3 r4 r5
  refine ⟨[s0, s1, s2, s3, s4, s5, z, a, b, c, t, u, v, w], ⟨rfl, ⟨hR2, all_cons (ivO (y := s0) rfl (show (-2147483648 : Int) ≤ s0 by omega) (show s0 ≤ (2147483647 : Int) by omega)) (all_cons (ivO (y := s1) rfl (show (-2147483648 : Int) ≤ s1 by omega) (show s1 ≤ (2147483647 : Int) by omega)) (all_cons (ivO (y := s2) rfl (show (-2147483648 : Int) ≤ s2 by omega) (show s2 ≤ (2147483647 : Int) by omega)) (all_cons (ivO (y := s3) rfl (show (-2147483648 : Int) ≤ s3 by omega) (show s3 ≤ (2147483647 : Int) by omega)) (all_cons (ivO (y := s4) rfl (show (-2147483648 : Int) ≤ s4 by omega) (show s4 ≤ (2147483647 : Int) by omega)) (all_cons (ivO (y := s5) rfl (show (0 : Int) ≤ s5 by omega) (show s5 ≤ (3072 : Int) by omega)) (all_cons (ivO (y := z) rfl (show (0 : Int) ≤ z by omega) (show z ≤ (8 : Int) by omega)) (all_cons (ivO (y := a) rfl (show (0 : Int) ≤ a by omega) (show a ≤ (40 : Int) by omega)) (all_cons (ivO (y := b) rfl (show (0 : Int) ≤ b by omega) (show b ≤ (40 : Int) by omega)) (all_cons (ivO (y := c) rfl (show (0 : Int) ≤ c by omega) (show c ≤ (40 : Int) by omega)) (all_cons (ivO (y := t) rfl (show (0 : Int) ≤ t by omega) (show t ≤ (940 : Int) by omega)) (all_cons (ivO (y := u) rfl (show (0 : Int) ≤ u by omega) (show u ≤ (1 : Int) by omega)) (all_cons (ivO (y := v) rfl (show (0 : Int) ≤ v by omega) (show v ≤ (1 : Int) by omega)) (all_cons (ivO (y := w) rfl (show (0 : Int) ≤ w by omega) (show w ≤ (940 : Int) by omega)) (all_nil))))))))))))))⟩, all_cons ⟨((0 : Int) + ((1 : Int) * t + ((-1 : Int) * w + 0))), rfl, by omega⟩ all_nil, all_nil⟩, fun j v hj => ?_, trivial, hO, ⟨all_cons (lrI hO (c := 275) (j := 6) rfl rfl (by decide) rfl (by decide) rfl hz (show sE [s0, s1, s2, s3, s4, s5, z, a, b, c, t, u, v, w] (sV 6) = some z from sE_V rfl)) (all_cons (lrC (c := 0) (j := 10) (k := 52) (rk := 27) rfl rfl (by decide) rfl (by decide) x1 (by decide) rfl rfl rfl) (all_cons (lrC (c := 0) (j := 11) (k := 57) (rk := 32) rfl rfl (by decide) rfl (by decide) x2 (by decide) rfl rfl rfl) (all_cons (lrC (c := 0) (j := 6) (k := 15) (rk := 98) rfl rfl (by decide) rfl (by decide) x3 (by decide) rfl rfl rfl) (all_cons (lrC (c := 0) (j := 7) (k := 2) (rk := 2) rfl rfl (by decide) rfl (by decide) x4 (by decide) rfl rfl rfl) (all_cons (lrI hO (c := 52) (j := 2) rfl rfl (by decide) rfl (by decide) rfl ha (show sE [s0, s1, s2, s3, s4, s5, z, a, b, c, t, u, v, w] (sV 7) = some a from sE_V rfl)) (all_cons (lrI hO (c := 237) (j := 2) rfl rfl (by decide) rfl (by decide) rfl hb (show sE [s0, s1, s2, s3, s4, s5, z, a, b, c, t, u, v, w] (sV 8) = some b from sE_V rfl)) (all_cons (lrI hO (c := 268) (j := 2) rfl rfl (by decide) rfl (by decide) rfl hc (show sE [s0, s1, s2, s3, s4, s5, z, a, b, c, t, u, v, w] (sV 9) = some c from sE_V rfl)) (all_cons (lrI hO (c := 0) (j := 1) rfl rfl (by decide) rfl (by decide) rfl ht1 (show sE [s0, s1, s2, s3, s4, s5, z, a, b, c, t, u, v, w] (sV 10) = some t from sE_V rfl)) (all_cons (lrI hO (c := 273) (j := 2) rfl rfl (by decide) rfl (by decide) rfl ht2 (show sE [s0, s1, s2, s3, s4, s5, z, a, b, c, t, u, v, w] (sV 10) = some t from sE_V rfl)) (all_cons (lrI hO (c := 211) (j := 0) rfl rfl (by decide) rfl (by decide) rfl hu1 (show sE [s0, s1, s2, s3, s4, s5, z, a, b, c, t, u, v, w] (sV 11) = some u from sE_V rfl)) (all_cons (lrI hO (c := 291) (j := 0) rfl rfl (by decide) rfl (by decide) rfl hu2 (show sE [s0, s1, s2, s3, s4, s5, z, a, b, c, t, u, v, w] (sV 11) = some u from sE_V rfl)) (all_cons (lrI hO (c := 242) (j := 0) rfl rfl (by decide) rfl (by decide) rfl hv1 (show sE [s0, s1, s2, s3, s4, s5, z, a, b, c, t, u, v, w] (sV 12) = some v from sE_V rfl)) (all_cons (lrI hO (c := 291) (j := 1) rfl rfl (by decide) rfl (by decide) rfl hv2 (show sE [s0, s1, s2, s3, s4, s5, z, a, b, c, t, u, v, w] (sV 12) = some v from sE_V rfl)) (all_nil)))))))))))))), all_cons (⟨[a], ⟨(show sE [s0, s1, s2, s3, s4, s5, z, a, b, c, t, u, v, w] (sV 7) = some a from sE_V rfl), trivial⟩, f0⟩) (all_cons (⟨[b], ⟨(show sE [s0, s1, s2, s3, s4, s5, z, a, b, c, t, u, v, w] (sV 8) = some b from sE_V rfl), trivial⟩, f1⟩) (all_cons (⟨[c], ⟨(show sE [s0, s1, s2, s3, s4, s5, z, a, b, c, t, u, v, w] (sV 9) = some c from sE_V rfl), trivial⟩, f2⟩) (all_cons (⟨[z], ⟨(show sE [s0, s1, s2, s3, s4, s5, z, a, b, c, t, u, v, w] (sV 6) = some z from sE_V rfl), trivial⟩, f3⟩) (all_cons (⟨[], trivial, f4⟩) (all_cons (⟨[], trivial, f5⟩) (all_cons (⟨[], trivial, f6⟩) (all_cons (⟨[w], ⟨(show sE [s0, s1, s2, s3, s4, s5, z, a, b, c, t, u, v, w] (sV 13) = some w from sE_V rfl), trivial⟩, f7⟩) (all_cons (⟨[], trivial, f8⟩) (all_cons (⟨[], trivial, f9⟩) (all_cons (⟨[], trivial, f10⟩) (all_cons (⟨[], trivial, f11⟩) (all_cons (⟨[], trivial, f12⟩) (all_nil)))))))))))))⟩, ⟨[z, a, b, c, t, u, v, w], rfl⟩, fun e he => (by cases he), hFr_refl _ hp⟩
  have hj : ([(8, .ofNat 0, []), (16, .ofNat 0, []), (94, .ofNat 273, []), (113, .ofNat 292, []), (1, .ofNat 0, [(.ofNat 1, 5)]), (9, .ofNat 0, []), (9, .ofNat 0, [])] : List sVl)[j]? = some v := hj
  match j, hj with
  | 0, hj => cases hj; rw [l0]; exact vOk_s
  | 1, hj => cases hj; rw [l1]; exact vOk_r (ro := 0) (c := 0) rfl (by decide) rfl
  | 2, hj => cases hj; rw [l2]; exact vOk_r (ro := 78) (c := 273) rfl (by decide) rfl
  | 3, hj => cases hj; rw [l3]; exact vOk_r (ro := 97) (c := 292) rfl (by decide) rfl
  | 4, hj => cases hj; rw [l4]; exact vOk_i (sE_V rfl) r5z.1 r5z.2
  | 5, hj => cases hj; exact vOk_9
  | 6, hj => cases hj; exact vOk_9
  | n + 7, hj => exact absurd hj (by simp)
theorem ofD {rr : List Int} {hp : Lean.RArray Nat} (hO : hOk hp) (hN : sNOk tSg rr gED.1) (hH : hsOk fFS rr hp gED.2.2) : lIn 57 52 58 60 15 2 16 hp := by
  obtain ⟨s0, s1, s2, s3, s4, s5, s6, s7, s8, s9, s10, s11, s12, s13, rfl⟩ := len14 (show rr.length = 14 from hN.1)
  have hIv : ∀ q ∈ ([(0, .negSucc 2147483647, .ofNat 2147483647), (1, .negSucc 2147483647, .ofNat 2147483647), (2, .negSucc 2147483647, .ofNat 2147483647), (3, .negSucc 2147483647, .ofNat 2147483647), (4, .negSucc 2147483647, .ofNat 2147483647), (5, .ofNat 0, .ofNat 3072), (6, .ofNat 0, .ofNat 8), (7, .ofNat 0, .ofNat 40), (8, .ofNat 0, .ofNat 40), (9, .ofNat 0, .ofNat 40), (10, .ofNat 0, .ofNat 940), (11, .ofNat 0, .ofNat 1), (12, .ofNat 0, .ofNat 1), (13, .ofNat 0, .ofNat 940)] : sIv), ∃ x, ([s0, s1, s2, s3, s4, s5, s6, s7, s8, s9, s10, s11, s12, s13] : List Int)[q.1]? = some x ∧ q.2.1 ≤ x ∧ x ≤ q.2.2 := hN.2.1.2
  have b0 : (-2147483648 : Int) ≤ s0 ∧ s0 ≤ (2147483647 : Int) := ivX (q := (0, .negSucc 2147483647, .ofNat 2147483647)) (y := s0) (hIv _ (.head _)) rfl
  have b1 : (-2147483648 : Int) ≤ s1 ∧ s1 ≤ (2147483647 : Int) := ivX (q := (1, .negSucc 2147483647, .ofNat 2147483647)) (y := s1) (hIv _ (.tail _ (.head _))) rfl
  have b2 : (-2147483648 : Int) ≤ s2 ∧ s2 ≤ (2147483647 : Int) := ivX (q := (2, .negSucc 2147483647, .ofNat 2147483647)) (y := s2) (hIv _ (.tail _ (.tail _ (.head _)))) rfl
  have b3 : (-2147483648 : Int) ≤ s3 ∧ s3 ≤ (2147483647 : Int) := ivX (q := (3, .negSucc 2147483647, .ofNat 2147483647)) (y := s3) (hIv _ (.tail _ (.tail _ (.tail _ (.head _))))) rfl
  have b4 : (-2147483648 : Int) ≤ s4 ∧ s4 ≤ (2147483647 : Int) := ivX (q := (4, .negSucc 2147483647, .ofNat 2147483647)) (y := s4) (hIv _ (.tail _ (.tail _ (.tail _ (.tail _ (.head _)))))) rfl
  have b5 : (0 : Int) ≤ s5 ∧ s5 ≤ (3072 : Int) := ivX (q := (5, .ofNat 0, .ofNat 3072)) (y := s5) (hIv _ (.tail _ (.tail _ (.tail _ (.tail _ (.tail _ (.head _))))))) rfl
  have b6 : (0 : Int) ≤ s6 ∧ s6 ≤ (8 : Int) := ivX (q := (6, .ofNat 0, .ofNat 8)) (y := s6) (hIv _ (.tail _ (.tail _ (.tail _ (.tail _ (.tail _ (.tail _ (.head _)))))))) rfl
  have b7 : (0 : Int) ≤ s7 ∧ s7 ≤ (40 : Int) := ivX (q := (7, .ofNat 0, .ofNat 40)) (y := s7) (hIv _ (.tail _ (.tail _ (.tail _ (.tail _ (.tail _ (.tail _ (.tail _ (.head _))))))))) rfl
  have b8 : (0 : Int) ≤ s8 ∧ s8 ≤ (40 : Int) := ivX (q := (8, .ofNat 0, .ofNat 40)) (y := s8) (hIv _ (.tail _ (.tail _ (.tail _ (.tail _ (.tail _ (.tail _ (.tail _ (.tail _ (.head _)))))))))) rfl
  have b9 : (0 : Int) ≤ s9 ∧ s9 ≤ (40 : Int) := ivX (q := (9, .ofNat 0, .ofNat 40)) (y := s9) (hIv _ (.tail _ (.tail _ (.tail _ (.tail _ (.tail _ (.tail _ (.tail _ (.tail _ (.tail _ (.head _))))))))))) rfl
  have b10 : (0 : Int) ≤ s10 ∧ s10 ≤ (940 : Int) := ivX (q := (10, .ofNat 0, .ofNat 940)) (y := s10) (hIv _ (.tail _ (.tail _ (.tail _ (.tail _ (.tail _ (.tail _ (.tail _ (.tail _ (.tail _ (.tail _ (.head _)))))))))))) rfl
  have b11 : (0 : Int) ≤ s11 ∧ s11 ≤ (1 : Int) := ivX (q := (11, .ofNat 0, .ofNat 1)) (y := s11) (hIv _ (.tail _ (.tail _ (.tail _ (.tail _ (.tail _ (.tail _ (.tail _ (.tail _ (.tail _ (.tail _ (.tail _ (.head _))))))))))))) rfl
  have b12 : (0 : Int) ≤ s12 ∧ s12 ≤ (1 : Int) := ivX (q := (12, .ofNat 0, .ofNat 1)) (y := s12) (hIv _ (.tail _ (.tail _ (.tail _ (.tail _ (.tail _ (.tail _ (.tail _ (.tail _ (.tail _ (.tail _ (.tail _ (.tail _ (.head _)))))))))))))) rfl
  have b13 : (0 : Int) ≤ s13 ∧ s13 ≤ (940 : Int) := ivX (q := (13, .ofNat 0, .ofNat 940)) (y := s13) (hIv _ (.tail _ (.tail _ (.tail _ (.tail _ (.tail _ (.tail _ (.tail _ (.tail _ (.tail _ (.tail _ (.tail _ (.tail _ (.tail _ (.head _))))))))))))))) rfl
  have hCs : ∀ c ∈ ([(.ofNat 0, [(.ofNat 1, 10), (.negSucc 0, 13)])] : List sLn), ∃ x, sE [s0, s1, s2, s3, s4, s5, s6, s7, s8, s9, s10, s11, s12, s13] c = some x ∧ x ≤ 0 := hN.2.2.1
  have c0 : ((0 : Int) + ((1 : Int) * s10 + ((-1 : Int) * s13 + 0))) ≤ 0 := csX (hCs _ (.head _)) rfl
  have hRf : ∀ q ∈ ([((80, .ofNat 275, []), (.ofNat 6, []), 1, .ofNat 0, [(.ofNat 1, 6)]), ((0, .ofNat 0, []), (.ofNat 10, []), 48, .ofNat 57, []), ((0, .ofNat 0, []), (.ofNat 11, []), 43, .ofNat 52, []), ((0, .ofNat 0, []), (.ofNat 6, []), 114, .ofNat 15, []), ((0, .ofNat 0, []), (.ofNat 7, []), 18, .ofNat 2, []), ((32, .ofNat 57, []), (.ofNat 2, []), 1, .ofNat 0, [(.ofNat 1, 7)]), ((67, .ofNat 237, []), (.ofNat 2, []), 1, .ofNat 0, [(.ofNat 1, 8)]), ((73, .ofNat 268, []), (.ofNat 2, []), 1, .ofNat 0, [(.ofNat 1, 9)]), ((0, .ofNat 0, []), (.ofNat 1, []), 1, .ofNat 0, [(.ofNat 1, 10)]), ((78, .ofNat 273, []), (.ofNat 2, []), 1, .ofNat 0, [(.ofNat 1, 10)]), ((66, .ofNat 211, []), (.ofNat 0, []), 1, .ofNat 0, [(.ofNat 1, 11)]), ((96, .ofNat 291, []), (.ofNat 0, []), 1, .ofNat 0, [(.ofNat 1, 11)]), ((72, .ofNat 242, []), (.ofNat 0, []), 1, .ofNat 0, [(.ofNat 1, 12)]), ((96, .ofNat 291, []), (.ofNat 1, []), 1, .ofNat 0, [(.ofNat 1, 12)])] : List sRf), rfOk [s0, s1, s2, s3, s4, s5, s6, s7, s8, s9, s10, s11, s12, s13] hp q := hH.1
  have h0 : hI hp 275 6 = s6 := rfI0 (hRf _ (.head _)) (sE_k _ _) (sE_k _ _) (sE_V rfl)
  have h1 : hv hp 0 10 = cR 57 := lrR (hRf _ (.tail _ (.head _))) (by decide) (sE_k _ _) (sE_k _ _) (sE_k _ _)
  have h2 : hv hp 0 11 = cR 52 := lrR (hRf _ (.tail _ (.tail _ (.head _)))) (by decide) (sE_k _ _) (sE_k _ _) (sE_k _ _)
  have h3 : hv hp 0 6 = cR 15 := lrR (hRf _ (.tail _ (.tail _ (.tail _ (.head _))))) (by decide) (sE_k _ _) (sE_k _ _) (sE_k _ _)
  have h4 : hv hp 0 7 = cR 2 := lrR (hRf _ (.tail _ (.tail _ (.tail _ (.tail _ (.head _)))))) (by decide) (sE_k _ _) (sE_k _ _) (sE_k _ _)
  have h5 : hI hp 57 2 = s7 := rfI0 (hRf _ (.tail _ (.tail _ (.tail _ (.tail _ (.tail _ (.head _))))))) (sE_k _ _) (sE_k _ _) (sE_V rfl)
  have h6 : hI hp 237 2 = s8 := rfI0 (hRf _ (.tail _ (.tail _ (.tail _ (.tail _ (.tail _ (.tail _ (.head _)))))))) (sE_k _ _) (sE_k _ _) (sE_V rfl)
  have h7 : hI hp 268 2 = s9 := rfI0 (hRf _ (.tail _ (.tail _ (.tail _ (.tail _ (.tail _ (.tail _ (.tail _ (.head _))))))))) (sE_k _ _) (sE_k _ _) (sE_V rfl)
  have h8 : hI hp 0 1 = s10 := rfI0 (hRf _ (.tail _ (.tail _ (.tail _ (.tail _ (.tail _ (.tail _ (.tail _ (.tail _ (.head _)))))))))) (sE_k _ _) (sE_k _ _) (sE_V rfl)
  have h9 : hI hp 273 2 = s10 := rfI0 (hRf _ (.tail _ (.tail _ (.tail _ (.tail _ (.tail _ (.tail _ (.tail _ (.tail _ (.tail _ (.head _))))))))))) (sE_k _ _) (sE_k _ _) (sE_V rfl)
  have h10 : hI hp 211 0 = s11 := rfI0 (hRf _ (.tail _ (.tail _ (.tail _ (.tail _ (.tail _ (.tail _ (.tail _ (.tail _ (.tail _ (.tail _ (.head _)))))))))))) (sE_k _ _) (sE_k _ _) (sE_V rfl)
  have h11 : hI hp 291 0 = s11 := rfI0 (hRf _ (.tail _ (.tail _ (.tail _ (.tail _ (.tail _ (.tail _ (.tail _ (.tail _ (.tail _ (.tail _ (.tail _ (.head _))))))))))))) (sE_k _ _) (sE_k _ _) (sE_V rfl)
  have h12 : hI hp 242 0 = s12 := rfI0 (hRf _ (.tail _ (.tail _ (.tail _ (.tail _ (.tail _ (.tail _ (.tail _ (.tail _ (.tail _ (.tail _ (.tail _ (.tail _ (.head _)))))))))))))) (sE_k _ _) (sE_k _ _) (sE_V rfl)
  have h13 : hI hp 291 1 = s12 := rfI0 (hRf _ (.tail _ (.tail _ (.tail _ (.tail _ (.tail _ (.tail _ (.tail _ (.tail _ (.tail _ (.tail _ (.tail _ (.tail _ (.tail _ (.head _))))))))))))))) (sE_k _ _) (sE_k _ _) (sE_V rfl)
  have hFc : ∀ q ∈ ([(2, [(.ofNat 0, [(.ofNat 1, 7)])]), (3, [(.ofNat 0, [(.ofNat 1, 8)])]), (4, [(.ofNat 0, [(.ofNat 1, 9)])]), (7, [(.ofNat 0, [(.ofNat 1, 6)])]), (12, []), (17, []), (19, []), (177, [(.ofNat 0, [(.ofNat 1, 13)])]), (51, []), (132, []), (217, []), (231, []), (236, [])] : List sFc), fcOk fFS [s0, s1, s2, s3, s4, s5, s6, s7, s8, s9, s10, s11, s12, s13] hp q := hH.2
  have f0 : fSen 58 60 s7 hp := fcX (ys := [s7]) (hFc _ (.head _)) ⟨sE_V rfl, trivial⟩
  have f1 : fSen 238 240 s8 hp := fcX (ys := [s8]) (hFc _ (.tail _ (.head _))) ⟨sE_V rfl, trivial⟩
  have f2 : fSen 269 271 s9 hp := fcX (ys := [s9]) (hFc _ (.tail _ (.tail _ (.head _)))) ⟨sE_V rfl, trivial⟩
  have f3 : fCh 275 250 s6 hp := fcX (ys := [s6]) (hFc _ (.tail _ (.tail _ (.tail _ (.head _))))) ⟨sE_V rfl, trivial⟩
  have f4 : fPfs 275 690 hp := fcX (ys := []) (hFc _ (.tail _ (.tail _ (.tail _ (.tail _ (.head _)))))) trivial
  have f5 : fKept 0 0 hp := fcX (ys := []) (hFc _ (.tail _ (.tail _ (.tail _ (.tail _ (.tail _ (.head _))))))) trivial
  have f6 : fKept 871 1 hp := fcX (ys := []) (hFc _ (.tail _ (.tail _ (.tail _ (.tail _ (.tail _ (.tail _ (.head _)))))))) trivial
  have f7 : kTEQ s13 hp := fcX (ys := [s13]) (hFc _ (.tail _ (.tail _ (.tail _ (.tail _ (.tail _ (.tail _ (.tail _ (.head _))))))))) ⟨sE_V rfl, trivial⟩
  have f8 : kCODX hp := fcX (ys := []) (hFc _ (.tail _ (.tail _ (.tail _ (.tail _ (.tail _ (.tail _ (.tail _ (.tail _ (.head _)))))))))) trivial
  have f9 : kRSV hp := fcX (ys := []) (hFc _ (.tail _ (.tail _ (.tail _ (.tail _ (.tail _ (.tail _ (.tail _ (.tail _ (.tail _ (.head _))))))))))) trivial
  have f10 : kPEQB hp := fcX (ys := []) (hFc _ (.tail _ (.tail _ (.tail _ (.tail _ (.tail _ (.tail _ (.tail _ (.tail _ (.tail _ (.tail _ (.head _)))))))))))) trivial
  have f11 : kIEQ0 hp := fcX (ys := []) (hFc _ (.tail _ (.tail _ (.tail _ (.tail _ (.tail _ (.tail _ (.tail _ (.tail _ (.tail _ (.tail _ (.tail _ (.head _))))))))))))) trivial
  have f12 : kIEQ1 hp := fcX (ys := []) (hFc _ (.tail _ (.tail _ (.tail _ (.tail _ (.tail _ (.tail _ (.tail _ (.tail _ (.tail _ (.tail _ (.tail _ (.tail _ (.head _)))))))))))))) trivial
  exact ⟨hO, ⟨h1, h2, h3, h4⟩, s6, s7, s8, s9, s10, s11, s12, by omega, by omega, by omega, by omega, by omega, by omega, by omega, h0, h5, h6, h7, ⟨h8, h9, h10, h11, h12, h13⟩, f0, f1, f2, f3, f4, f5, f6, ⟨s13, by omega, f7⟩, f8, f9, f10, f11, f12⟩
theorem toD {rc : List Int} {hp : Lean.RArray Nat} {md : sMd} {L : Nat} {i : Int} (hl : rc.length = 6) (hR : ∀ x ∈ rc, zMn ≤ x ∧ x ≤ zMx) (hi5 : rc[5]? = some i) (hi : 0 ≤ i ∧ i ≤ 3072) (h : lIn 57 52 58 60 15 2 16 hp) (l0 : eSl L 0 = 30) (l1 : eSl L 1 = cR 0) (l2 : eSl L 2 = cR 273) (l3 : eSl L 3 = cR 292) (l4 : eSl L 4 = cI i) : ∃ r, Gs fFS rc none 0 md hp r gLD.1 gLD.2.1 [] gLD.2.2 L [] hp := by
  obtain ⟨s0, s1, s2, s3, s4, s5, rfl⟩ := len6 hl
  have e5 : s5 = i := Option.some.inj hi5
  subst e5
  obtain ⟨hO, ⟨x1, x2, x3, x4⟩, z, a, b, c, t, u, v, bz, ba, bb, bc, bt, bu, bv, hz, ha, hb, hc, ⟨ht1, ht2, hu1, hu2, hv1, hv2⟩, f0, f1, f2, f3, f4, f5, f6, ⟨w, bw, f7⟩, f8, f9, f10, f11, f12⟩ := h
  have hR2 : ∀ x ∈ ([s0, s1, s2, s3, s4, s5, z, a, b, c, t, u, v, w] : List Int), wMn ≤ x ∧ x ≤ wMx := by
    intro x hx
    have hx : x ∈ ([s0, s1, s2, s3, s4, s5] ++ [z, a, b, c, t, u, v, w] : List Int) := hx
    rcases List.mem_append.mp hx with hx | hx
    · exact wz (hR x hx).1 (hR x hx).2
    · rw [wMn_eq, wMx_eq]
      simp only [List.mem_cons, List.not_mem_nil, or_false] at hx
      rcases hx with rfl | rfl | rfl | rfl | rfl | rfl | rfl | rfl <;> omega
  have r0 := hR s0 (.head _)
  have r1 := hR s1 (.tail _ (.head _))
  have r2 := hR s2 (.tail _ (.tail _ (.head _)))
  have r3 := hR s3 (.tail _ (.tail _ (.tail _ (.head _))))
  have r4 := hR s4 (.tail _ (.tail _ (.tail _ (.tail _ (.head _)))))
  have r5 := hR s5 (.tail _ (.tail _ (.tail _ (.tail _ (.tail _ (.head _))))))
  have r5z := r5
  rw [zMn_eq, zMx_eq] at r0 r1 r2 r3 r4 r5
  refine ⟨[s0, s1, s2, s3, s4, s5, z, a, b, c, t, u, v, w], ⟨rfl, ⟨hR2, all_cons (ivO (y := s0) rfl (show (-2147483648 : Int) ≤ s0 by omega) (show s0 ≤ (2147483647 : Int) by omega)) (all_cons (ivO (y := s1) rfl (show (-2147483648 : Int) ≤ s1 by omega) (show s1 ≤ (2147483647 : Int) by omega)) (all_cons (ivO (y := s2) rfl (show (-2147483648 : Int) ≤ s2 by omega) (show s2 ≤ (2147483647 : Int) by omega)) (all_cons (ivO (y := s3) rfl (show (-2147483648 : Int) ≤ s3 by omega) (show s3 ≤ (2147483647 : Int) by omega)) (all_cons (ivO (y := s4) rfl (show (-2147483648 : Int) ≤ s4 by omega) (show s4 ≤ (2147483647 : Int) by omega)) (all_cons (ivO (y := s5) rfl (show (0 : Int) ≤ s5 by omega) (show s5 ≤ (3072 : Int) by omega)) (all_cons (ivO (y := z) rfl (show (0 : Int) ≤ z by omega) (show z ≤ (8 : Int) by omega)) (all_cons (ivO (y := a) rfl (show (0 : Int) ≤ a by omega) (show a ≤ (40 : Int) by omega)) (all_cons (ivO (y := b) rfl (show (0 : Int) ≤ b by omega) (show b ≤ (40 : Int) by omega)) (all_cons (ivO (y := c) rfl (show (0 : Int) ≤ c by omega) (show c ≤ (40 : Int) by omega)) (all_cons (ivO (y := t) rfl (show (0 : Int) ≤ t by omega) (show t ≤ (940 : Int) by omega)) (all_cons (ivO (y := u) rfl (show (0 : Int) ≤ u by omega) (show u ≤ (1 : Int) by omega)) (all_cons (ivO (y := v) rfl (show (0 : Int) ≤ v by omega) (show v ≤ (1 : Int) by omega)) (all_cons (ivO (y := w) rfl (show (0 : Int) ≤ w by omega) (show w ≤ (940 : Int) by omega)) (all_nil))))))))))))))⟩, all_cons ⟨((0 : Int) + ((1 : Int) * t + ((-1 : Int) * w + 0))), rfl, by omega⟩ all_nil, all_nil⟩, fun j v hj => ?_, trivial, hO, ⟨all_cons (lrI hO (c := 275) (j := 6) rfl rfl (by decide) rfl (by decide) rfl hz (show sE [s0, s1, s2, s3, s4, s5, z, a, b, c, t, u, v, w] (sV 6) = some z from sE_V rfl)) (all_cons (lrC (c := 0) (j := 10) (k := 57) (rk := 32) rfl rfl (by decide) rfl (by decide) x1 (by decide) rfl rfl rfl) (all_cons (lrC (c := 0) (j := 11) (k := 52) (rk := 27) rfl rfl (by decide) rfl (by decide) x2 (by decide) rfl rfl rfl) (all_cons (lrC (c := 0) (j := 6) (k := 15) (rk := 98) rfl rfl (by decide) rfl (by decide) x3 (by decide) rfl rfl rfl) (all_cons (lrC (c := 0) (j := 7) (k := 2) (rk := 2) rfl rfl (by decide) rfl (by decide) x4 (by decide) rfl rfl rfl) (all_cons (lrI hO (c := 57) (j := 2) rfl rfl (by decide) rfl (by decide) rfl ha (show sE [s0, s1, s2, s3, s4, s5, z, a, b, c, t, u, v, w] (sV 7) = some a from sE_V rfl)) (all_cons (lrI hO (c := 237) (j := 2) rfl rfl (by decide) rfl (by decide) rfl hb (show sE [s0, s1, s2, s3, s4, s5, z, a, b, c, t, u, v, w] (sV 8) = some b from sE_V rfl)) (all_cons (lrI hO (c := 268) (j := 2) rfl rfl (by decide) rfl (by decide) rfl hc (show sE [s0, s1, s2, s3, s4, s5, z, a, b, c, t, u, v, w] (sV 9) = some c from sE_V rfl)) (all_cons (lrI hO (c := 0) (j := 1) rfl rfl (by decide) rfl (by decide) rfl ht1 (show sE [s0, s1, s2, s3, s4, s5, z, a, b, c, t, u, v, w] (sV 10) = some t from sE_V rfl)) (all_cons (lrI hO (c := 273) (j := 2) rfl rfl (by decide) rfl (by decide) rfl ht2 (show sE [s0, s1, s2, s3, s4, s5, z, a, b, c, t, u, v, w] (sV 10) = some t from sE_V rfl)) (all_cons (lrI hO (c := 211) (j := 0) rfl rfl (by decide) rfl (by decide) rfl hu1 (show sE [s0, s1, s2, s3, s4, s5, z, a, b, c, t, u, v, w] (sV 11) = some u from sE_V rfl)) (all_cons (lrI hO (c := 291) (j := 0) rfl rfl (by decide) rfl (by decide) rfl hu2 (show sE [s0, s1, s2, s3, s4, s5, z, a, b, c, t, u, v, w] (sV 11) = some u from sE_V rfl)) (all_cons (lrI hO (c := 242) (j := 0) rfl rfl (by decide) rfl (by decide) rfl hv1 (show sE [s0, s1, s2, s3, s4, s5, z, a, b, c, t, u, v, w] (sV 12) = some v from sE_V rfl)) (all_cons (lrI hO (c := 291) (j := 1) rfl rfl (by decide) rfl (by decide) rfl hv2 (show sE [s0, s1, s2, s3, s4, s5, z, a, b, c, t, u, v, w] (sV 12) = some v from sE_V rfl)) (all_nil)))))))))))))), all_cons (⟨[a], ⟨(show sE [s0, s1, s2, s3, s4, s5, z, a, b, c, t, u, v, w] (sV 7) = some a from sE_V rfl), trivial⟩, f0⟩) (all_cons (⟨[b], ⟨(show sE [s0, s1, s2, s3, s4, s5, z, a, b, c, t, u, v, w] (sV 8) = some b from sE_V rfl), trivial⟩, f1⟩) (all_cons (⟨[c], ⟨(show sE [s0, s1, s2, s3, s4, s5, z, a, b, c, t, u, v, w] (sV 9) = some c from sE_V rfl), trivial⟩, f2⟩) (all_cons (⟨[z], ⟨(show sE [s0, s1, s2, s3, s4, s5, z, a, b, c, t, u, v, w] (sV 6) = some z from sE_V rfl), trivial⟩, f3⟩) (all_cons (⟨[], trivial, f4⟩) (all_cons (⟨[], trivial, f5⟩) (all_cons (⟨[], trivial, f6⟩) (all_cons (⟨[w], ⟨(show sE [s0, s1, s2, s3, s4, s5, z, a, b, c, t, u, v, w] (sV 13) = some w from sE_V rfl), trivial⟩, f7⟩) (all_cons (⟨[], trivial, f8⟩) (all_cons (⟨[], trivial, f9⟩) (all_cons (⟨[], trivial, f10⟩) (all_cons (⟨[], trivial, f11⟩) (all_cons (⟨[], trivial, f12⟩) (all_nil)))))))))))))⟩, ⟨[z, a, b, c, t, u, v, w], rfl⟩, fun e he => (by cases he), hFr_refl _ hp⟩
  have hj : ([(8, .ofNat 0, []), (16, .ofNat 0, []), (94, .ofNat 273, []), (113, .ofNat 292, []), (1, .ofNat 0, [(.ofNat 1, 5)]), (9, .ofNat 0, []), (9, .ofNat 0, [])] : List sVl)[j]? = some v := hj
  match j, hj with
  | 0, hj => cases hj; rw [l0]; exact vOk_s
  | 1, hj => cases hj; rw [l1]; exact vOk_r (ro := 0) (c := 0) rfl (by decide) rfl
  | 2, hj => cases hj; rw [l2]; exact vOk_r (ro := 78) (c := 273) rfl (by decide) rfl
  | 3, hj => cases hj; rw [l3]; exact vOk_r (ro := 97) (c := 292) rfl (by decide) rfl
  | 4, hj => cases hj; rw [l4]; exact vOk_i (sE_V rfl) r5z.1 r5z.2
  | 5, hj => cases hj; exact vOk_9
  | 6, hj => cases hj; exact vOk_9
  | n + 7, hj => exact absurd hj (by simp)
end CkLaw4
