section CkLaw4
theorem len13 {r : List Int} (h : r.length = 13) : ∃ x y z a b c d e f g u v w, r = [x, y, z, a, b, c, d, e, f, g, u, v, w] := by
  obtain ⟨x, r5, rfl, g5⟩ := lenS h
  obtain ⟨y, r6, rfl, g6⟩ := lenS g5
  obtain ⟨z, r7, rfl, g7⟩ := lenS g6
  obtain ⟨a, r1, rfl, g1⟩ := lenS g7
  obtain ⟨b, r2, rfl, g2⟩ := lenS g1
  obtain ⟨c, r3, rfl, g3⟩ := lenS g2
  obtain ⟨d, r4, rfl, g4⟩ := lenS g3
  obtain ⟨e, f, g, u, v, w, rfl⟩ := len6 g4
  exact ⟨x, y, z, a, b, c, d, e, f, g, u, v, w, rfl⟩
theorem rfR {r : List Int} {hp : Lean.RArray Nat} {ro tg k : Nat} {ce ix e : sLn} {cv iv : Int} (h : rfOk r hp ((ro, ce), ix, (tg, e))) (ht : 16 ≤ tg) (e1 : sE r ce = some cv) (e2 : sE r ix = some iv) (e3 : sE r e = some (k : Int)) : ∃ c i : Nat, cv = (c : Int) ∧ iv = (i : Int) ∧ hv hp c i = cR k := by
  obtain ⟨c, i, a1, a2, a3, a4, a5, a6⟩ := h
  obtain ⟨x, x1, x2, x3, x4⟩ := a6.2.2.2.2.2.1 ht
  have q1 : cv = (c : Int) := Option.some.inj (e1.symm.trans a1)
  have q2 : iv = (i : Int) := Option.some.inj (e2.symm.trans a4)
  have q3 : (k : Int) = (x : Int) := Option.some.inj (e3.symm.trans x1)
  have q4 : k = x := by omega
  exact ⟨c, i, q1, q2, by rw [q4]; exact x4⟩
theorem hv_I {hp : Lean.RArray Nat} (hO : hOk hp) {c j : Nat} {a b : Int} (hc : c < tNC) (ht : sSgAt (tSg (tRO c)) j = some (.inl (a, b))) : hv hp c j = cI (hI hp c j) ∧ zMn ≤ hI hp c j ∧ hI hp c j ≤ zMx := by
  obtain ⟨x, x1, x2, x3, x4, x5⟩ := (hO.2 c hc).2.2 j _ ht
  rw [hI_eq x3 x4 x5]
  exact ⟨x5, x3, x4⟩
theorem vOk_9 {r : List Int} {e : sLn} {w : Nat} : vOk r (9, e) w :=
  ⟨fun q => absurd q (by simp), fun q => absurd q (by simp), fun q => absurd q (by simp), fun q => absurd q (by simp), fun q => absurd q (by simp), fun q => absurd q (by simp), fun q => absurd q (by simp)⟩
theorem rfI {r : List Int} {hp : Lean.RArray Nat} (hO : hOk hp) {ro c j : Nat} {ce ix e : sLn} {a b x : Int} (e1 : sE r ce = some (c : Int)) (e2 : sE r ix = some (j : Int)) (hc : c < tNC) (hr : tRO c = ro) (hj : j < tLe ro) (ht : sSgAt (tSg (tRO c)) j = some (.inl (a, b))) (hx : hI hp c j = x) (e3 : sE r e = some x) : rfOk r hp ((ro, ce), ix, (1, e)) := by
  obtain ⟨q1, q2, q3⟩ := hv_I hO hc ht
  refine ⟨c, j, e1, hc, hr, e2, hj, ?_⟩
  show vOk r (1, e) (hv hp c j)
  rw [q1]
  exact vOk_i (by rw [hx]; exact e3) q2 q3
theorem rfC {r : List Int} {hp : Lean.RArray Nat} {ro c j k rk tg : Nat} {ce ix e : sLn} (e1 : sE r ce = some (c : Int)) (e2 : sE r ix = some (j : Int)) (hc : c < tNC) (hr : tRO c = ro) (hj : j < tLe ro) (hx : hv hp c j = cR k) (hk : k < tNC) (hrk : tRO k = rk) (htg : tg = Nat.add rk 16) (e3 : sE r e = some (k : Int)) : rfOk r hp ((ro, ce), ix, (tg, e)) := by
  refine ⟨c, j, e1, hc, hr, e2, hj, ?_⟩
  show vOk r (tg, e) (hv hp c j)
  rw [hx, htg]
  exact vOk_r e3 hk hrk
/-- what holds between the law's rounds -/
def lIn (cu ot sa sb : Nat) (hp : Lean.RArray Nat) : Prop := hOk hp ∧ hv hp 0 10 = cR cu ∧ hv hp 0 11 = cR ot ∧ ∃ z a b c t u v : Int, (0 ≤ z ∧ z ≤ 8) ∧ (0 ≤ a ∧ a ≤ 40) ∧ (0 ≤ b ∧ b ≤ 40) ∧ (0 ≤ c ∧ c ≤ 40) ∧ (0 ≤ t ∧ t ≤ 940) ∧ (0 ≤ u ∧ u ≤ 1) ∧ (0 ≤ v ∧ v ≤ 1) ∧ hI hp 275 6 = z ∧ hI hp cu 2 = a ∧ hI hp 237 2 = b ∧ hI hp 268 2 = c ∧ (hI hp 0 1 = t ∧ hI hp 273 2 = t ∧ hI hp 211 0 = u ∧ hI hp 291 0 = u ∧ hI hp 242 0 = v ∧ hI hp 291 1 = v) ∧ fSen sa sb a hp ∧ fSen 238 240 b hp ∧ fSen 269 271 c hp ∧ fCh 275 250 z hp ∧ fPfs 275 690 hp ∧ fKept 0 0 hp ∧ fKept 871 1 hp
theorem ofA {rr : List Int} {hp : Lean.RArray Nat} (hO : hOk hp) (hN : sNOk tSg rr gEA.1) (hH : hsOk fFS rr hp gEA.2.2) : lIn 52 57 53 55 hp := by
  obtain ⟨s0, s1, s2, s3, s4, s5, s6, s7, s8, s9, s10, s11, s12, rfl⟩ := len13 (show rr.length = 13 from hN.1)
  have hIv : ∀ q ∈ ([(5, .ofNat 0, .ofNat 3072), (6, .ofNat 0, .ofNat 8), (7, .ofNat 0, .ofNat 40), (8, .ofNat 0, .ofNat 40), (9, .ofNat 0, .ofNat 40), (10, .ofNat 0, .ofNat 940), (11, .ofNat 0, .ofNat 1), (12, .ofNat 0, .ofNat 1)] : sIv), ∃ x, ([s0, s1, s2, s3, s4, s5, s6, s7, s8, s9, s10, s11, s12] : List Int)[q.1]? = some x ∧ q.2.1 ≤ x ∧ x ≤ q.2.2 := hN.2.1.2
  have b5 : (0 : Int) ≤ s5 ∧ s5 ≤ (3072 : Int) := ivX (q := (5, .ofNat 0, .ofNat 3072)) (y := s5) (hIv _ (.head _)) rfl
  have b6 : (0 : Int) ≤ s6 ∧ s6 ≤ (8 : Int) := ivX (q := (6, .ofNat 0, .ofNat 8)) (y := s6) (hIv _ (.tail _ (.head _))) rfl
  have b7 : (0 : Int) ≤ s7 ∧ s7 ≤ (40 : Int) := ivX (q := (7, .ofNat 0, .ofNat 40)) (y := s7) (hIv _ (.tail _ (.tail _ (.head _)))) rfl
  have b8 : (0 : Int) ≤ s8 ∧ s8 ≤ (40 : Int) := ivX (q := (8, .ofNat 0, .ofNat 40)) (y := s8) (hIv _ (.tail _ (.tail _ (.tail _ (.head _))))) rfl
  have b9 : (0 : Int) ≤ s9 ∧ s9 ≤ (40 : Int) := ivX (q := (9, .ofNat 0, .ofNat 40)) (y := s9) (hIv _ (.tail _ (.tail _ (.tail _ (.tail _ (.head _)))))) rfl
  have b10 : (0 : Int) ≤ s10 ∧ s10 ≤ (940 : Int) := ivX (q := (10, .ofNat 0, .ofNat 940)) (y := s10) (hIv _ (.tail _ (.tail _ (.tail _ (.tail _ (.tail _ (.head _))))))) rfl
  have b11 : (0 : Int) ≤ s11 ∧ s11 ≤ (1 : Int) := ivX (q := (11, .ofNat 0, .ofNat 1)) (y := s11) (hIv _ (.tail _ (.tail _ (.tail _ (.tail _ (.tail _ (.tail _ (.head _)))))))) rfl
  have b12 : (0 : Int) ≤ s12 ∧ s12 ≤ (1 : Int) := ivX (q := (12, .ofNat 0, .ofNat 1)) (y := s12) (hIv _ (.tail _ (.tail _ (.tail _ (.tail _ (.tail _ (.tail _ (.tail _ (.head _))))))))) rfl
  have hRf : ∀ q ∈ ([((80, .ofNat 275, []), (.ofNat 6, []), 1, .ofNat 0, [(.ofNat 1, 6)]), ((0, .ofNat 0, []), (.ofNat 10, []), 43, .ofNat 52, []), ((0, .ofNat 0, []), (.ofNat 11, []), 48, .ofNat 57, []), ((27, .ofNat 52, []), (.ofNat 2, []), 1, .ofNat 0, [(.ofNat 1, 7)]), ((67, .ofNat 237, []), (.ofNat 2, []), 1, .ofNat 0, [(.ofNat 1, 8)]), ((73, .ofNat 268, []), (.ofNat 2, []), 1, .ofNat 0, [(.ofNat 1, 9)]), ((0, .ofNat 0, []), (.ofNat 1, []), 1, .ofNat 0, [(.ofNat 1, 10)]), ((78, .ofNat 273, []), (.ofNat 2, []), 1, .ofNat 0, [(.ofNat 1, 10)]), ((66, .ofNat 211, []), (.ofNat 0, []), 1, .ofNat 0, [(.ofNat 1, 11)]), ((96, .ofNat 291, []), (.ofNat 0, []), 1, .ofNat 0, [(.ofNat 1, 11)]), ((72, .ofNat 242, []), (.ofNat 0, []), 1, .ofNat 0, [(.ofNat 1, 12)]), ((96, .ofNat 291, []), (.ofNat 1, []), 1, .ofNat 0, [(.ofNat 1, 12)])] : List sRf), rfOk [s0, s1, s2, s3, s4, s5, s6, s7, s8, s9, s10, s11, s12] hp q := hH.1
  obtain ⟨c_0, i0, p0, -, e0, -, h0⟩ := rfX (cv := ((275 : Int) + 0)) (iv := ((6 : Int) + 0)) (xv := ((0 : Int) + ((1 : Int) * s6 + 0))) (hRf _ (.head _)) rfl rfl rfl
  have w0 : c_0 = 275 := by omega
  subst w0
  have w0 : i0 = 6 := by omega
  subst w0
  obtain ⟨c_1, i1, p1, e1, h1⟩ := rfR (cv := ((0 : Int) + 0)) (iv := ((10 : Int) + 0)) (k := 52) (hRf _ (.tail _ (.head _))) (by decide) rfl rfl rfl
  have w1 : c_1 = 0 := by omega
  subst w1
  have w1 : i1 = 10 := by omega
  subst w1
  obtain ⟨c_2, i2, p2, e2, h2⟩ := rfR (cv := ((0 : Int) + 0)) (iv := ((11 : Int) + 0)) (k := 57) (hRf _ (.tail _ (.tail _ (.head _)))) (by decide) rfl rfl rfl
  have w2 : c_2 = 0 := by omega
  subst w2
  have w2 : i2 = 11 := by omega
  subst w2
  obtain ⟨c_3, i3, p3, -, e3, -, h3⟩ := rfX (cv := ((52 : Int) + 0)) (iv := ((2 : Int) + 0)) (xv := ((0 : Int) + ((1 : Int) * s7 + 0))) (hRf _ (.tail _ (.tail _ (.tail _ (.head _))))) rfl rfl rfl
  have w3 : c_3 = 52 := by omega
  subst w3
  have w3 : i3 = 2 := by omega
  subst w3
  obtain ⟨c_4, i4, p4, -, e4, -, h4⟩ := rfX (cv := ((237 : Int) + 0)) (iv := ((2 : Int) + 0)) (xv := ((0 : Int) + ((1 : Int) * s8 + 0))) (hRf _ (.tail _ (.tail _ (.tail _ (.tail _ (.head _)))))) rfl rfl rfl
  have w4 : c_4 = 237 := by omega
  subst w4
  have w4 : i4 = 2 := by omega
  subst w4
  obtain ⟨c_5, i5, p5, -, e5, -, h5⟩ := rfX (cv := ((268 : Int) + 0)) (iv := ((2 : Int) + 0)) (xv := ((0 : Int) + ((1 : Int) * s9 + 0))) (hRf _ (.tail _ (.tail _ (.tail _ (.tail _ (.tail _ (.head _))))))) rfl rfl rfl
  have w5 : c_5 = 268 := by omega
  subst w5
  have w5 : i5 = 2 := by omega
  subst w5
  obtain ⟨c_6, i6, p6, -, e6, -, h6⟩ := rfX (cv := ((0 : Int) + 0)) (iv := ((1 : Int) + 0)) (xv := ((0 : Int) + ((1 : Int) * s10 + 0))) (hRf _ (.tail _ (.tail _ (.tail _ (.tail _ (.tail _ (.tail _ (.head _)))))))) rfl rfl rfl
  have w6 : c_6 = 0 := by omega
  subst w6
  have w6 : i6 = 1 := by omega
  subst w6
  obtain ⟨c_7, i7, p7, -, e7, -, h7⟩ := rfX (cv := ((273 : Int) + 0)) (iv := ((2 : Int) + 0)) (xv := ((0 : Int) + ((1 : Int) * s10 + 0))) (hRf _ (.tail _ (.tail _ (.tail _ (.tail _ (.tail _ (.tail _ (.tail _ (.head _))))))))) rfl rfl rfl
  have w7 : c_7 = 273 := by omega
  subst w7
  have w7 : i7 = 2 := by omega
  subst w7
  obtain ⟨c_8, i8, p8, -, e8, -, h8⟩ := rfX (cv := ((211 : Int) + 0)) (iv := ((0 : Int) + 0)) (xv := ((0 : Int) + ((1 : Int) * s11 + 0))) (hRf _ (.tail _ (.tail _ (.tail _ (.tail _ (.tail _ (.tail _ (.tail _ (.tail _ (.head _)))))))))) rfl rfl rfl
  have w8 : c_8 = 211 := by omega
  subst w8
  have w8 : i8 = 0 := by omega
  subst w8
  obtain ⟨c_9, i9, p9, -, e9, -, h9⟩ := rfX (cv := ((291 : Int) + 0)) (iv := ((0 : Int) + 0)) (xv := ((0 : Int) + ((1 : Int) * s11 + 0))) (hRf _ (.tail _ (.tail _ (.tail _ (.tail _ (.tail _ (.tail _ (.tail _ (.tail _ (.tail _ (.head _))))))))))) rfl rfl rfl
  have w9 : c_9 = 291 := by omega
  subst w9
  have w9 : i9 = 0 := by omega
  subst w9
  obtain ⟨c_10, i10, p10, -, e10, -, h10⟩ := rfX (cv := ((242 : Int) + 0)) (iv := ((0 : Int) + 0)) (xv := ((0 : Int) + ((1 : Int) * s12 + 0))) (hRf _ (.tail _ (.tail _ (.tail _ (.tail _ (.tail _ (.tail _ (.tail _ (.tail _ (.tail _ (.tail _ (.head _)))))))))))) rfl rfl rfl
  have w10 : c_10 = 242 := by omega
  subst w10
  have w10 : i10 = 0 := by omega
  subst w10
  obtain ⟨c_11, i11, p11, -, e11, -, h11⟩ := rfX (cv := ((291 : Int) + 0)) (iv := ((1 : Int) + 0)) (xv := ((0 : Int) + ((1 : Int) * s12 + 0))) (hRf _ (.tail _ (.tail _ (.tail _ (.tail _ (.tail _ (.tail _ (.tail _ (.tail _ (.tail _ (.tail _ (.tail _ (.head _))))))))))))) rfl rfl rfl
  have w11 : c_11 = 291 := by omega
  subst w11
  have w11 : i11 = 1 := by omega
  subst w11
  have hFc : ∀ q ∈ ([(1, [(.ofNat 0, [(.ofNat 1, 7)])]), (3, [(.ofNat 0, [(.ofNat 1, 8)])]), (4, [(.ofNat 0, [(.ofNat 1, 9)])]), (7, [(.ofNat 0, [(.ofNat 1, 6)])]), (12, []), (17, []), (19, [])] : List sFc), fcOk fFS [s0, s1, s2, s3, s4, s5, s6, s7, s8, s9, s10, s11, s12] hp q := hH.2
  have f0 : fSen 53 55 ((0 : Int) + ((1 : Int) * s7 + 0)) hp := fc1X (hFc _ (.head _)) rfl
  have f1 : fSen 238 240 ((0 : Int) + ((1 : Int) * s8 + 0)) hp := fc1X (hFc _ (.tail _ (.head _))) rfl
  have f2 : fSen 269 271 ((0 : Int) + ((1 : Int) * s9 + 0)) hp := fc1X (hFc _ (.tail _ (.tail _ (.head _)))) rfl
  have f3 : fCh 275 250 ((0 : Int) + ((1 : Int) * s6 + 0)) hp := fc1X (hFc _ (.tail _ (.tail _ (.tail _ (.head _))))) rfl
  have f4 : fPfs 275 690 hp := fc0X (hFc _ (.tail _ (.tail _ (.tail _ (.tail _ (.head _))))))
  have f5 : fKept 0 0 hp := fc0X (hFc _ (.tail _ (.tail _ (.tail _ (.tail _ (.tail _ (.head _)))))))
  have f6 : fKept 871 1 hp := fc0X (hFc _ (.tail _ (.tail _ (.tail _ (.tail _ (.tail _ (.tail _ (.head _))))))))
  exact ⟨hO, h1, h2, ((0 : Int) + ((1 : Int) * s6 + 0)), ((0 : Int) + ((1 : Int) * s7 + 0)), ((0 : Int) + ((1 : Int) * s8 + 0)), ((0 : Int) + ((1 : Int) * s9 + 0)), ((0 : Int) + ((1 : Int) * s10 + 0)), ((0 : Int) + ((1 : Int) * s11 + 0)), ((0 : Int) + ((1 : Int) * s12 + 0)), by omega, by omega, by omega, by omega, by omega, by omega, by omega, h0, h3, h4, h5, ⟨h6, h7, h8, h9, h10, h11⟩, f0, f1, f2, f3, f4, f5, f6⟩
theorem toA {rc : List Int} {hp : Lean.RArray Nat} {md : sMd} {L : Nat} {i : Int} (hl : rc.length = 6) (hR : ∀ x ∈ rc, zMn ≤ x ∧ x ≤ zMx) (hi5 : rc[5]? = some i) (hi : 0 ≤ i ∧ i ≤ 3072) (h : lIn 52 57 53 55 hp) (l0 : eSl L 0 = 30) (l1 : eSl L 1 = cR 0) (l2 : eSl L 2 = cR 273) (l3 : eSl L 3 = cR 292) (l4 : eSl L 4 = cI i) : ∃ r, Gs fFS rc none 0 md hp r gLA.1 gLA.2.1 [] gLA.2.2 L [] hp := by
  obtain ⟨s0, s1, s2, s3, s4, s5, rfl⟩ := len6 hl
  have e5 : s5 = i := Option.some.inj hi5
  subst e5
  obtain ⟨hO, x1, x2, z, a, b, c, t, u, v, bz, ba, bb, bc, bt, bu, bv, hz, ha, hb, hc, ⟨ht1, ht2, hu1, hu2, hv1, hv2⟩, f0, f1, f2, f3, f4, f5, f6⟩ := h
  have hR2 : ∀ x ∈ ([s0, s1, s2, s3, s4, s5, z, a, b, c, t, u, v] : List Int), zMn ≤ x ∧ x ≤ zMx := by
    intro x hx
    have hx : x ∈ ([s0, s1, s2, s3, s4, s5] ++ [z, a, b, c, t, u, v] : List Int) := hx
    rcases List.mem_append.mp hx with hx | hx
    · exact hR x hx
    · rw [zMn_eq, zMx_eq]
      simp only [List.mem_cons, List.not_mem_nil, or_false] at hx
      rcases hx with rfl | rfl | rfl | rfl | rfl | rfl | rfl <;> omega
  have r5 := hR s5 (.tail _ (.tail _ (.tail _ (.tail _ (.tail _ (.head _))))))
  refine ⟨[s0, s1, s2, s3, s4, s5, z, a, b, c, t, u, v], ⟨rfl, ⟨hR2, all_cons (ivO (y := s5) rfl (show (0 : Int) ≤ s5 by omega) (show s5 ≤ (3072 : Int) by omega)) (all_cons (ivO (y := z) rfl (show (0 : Int) ≤ z by omega) (show z ≤ (8 : Int) by omega)) (all_cons (ivO (y := a) rfl (show (0 : Int) ≤ a by omega) (show a ≤ (40 : Int) by omega)) (all_cons (ivO (y := b) rfl (show (0 : Int) ≤ b by omega) (show b ≤ (40 : Int) by omega)) (all_cons (ivO (y := c) rfl (show (0 : Int) ≤ c by omega) (show c ≤ (40 : Int) by omega)) (all_cons (ivO (y := t) rfl (show (0 : Int) ≤ t by omega) (show t ≤ (940 : Int) by omega)) (all_cons (ivO (y := u) rfl (show (0 : Int) ≤ u by omega) (show u ≤ (1 : Int) by omega)) (all_cons (ivO (y := v) rfl (show (0 : Int) ≤ v by omega) (show v ≤ (1 : Int) by omega)) (all_nil))))))))⟩, all_nil, all_nil⟩, fun j v hj => ?_, trivial, hO, ⟨all_cons (rfI hO (c := 275) (j := 6) rfl rfl (by decide) rfl (by decide) rfl hz (show sE [s0, s1, s2, s3, s4, s5, z, a, b, c, t, u, v] (sV 6) = some z from sE_V rfl)) (all_cons (rfC (c := 0) (j := 10) (k := 52) (rk := 27) rfl rfl (by decide) rfl (by decide) x1 (by decide) rfl rfl rfl) (all_cons (rfC (c := 0) (j := 11) (k := 57) (rk := 32) rfl rfl (by decide) rfl (by decide) x2 (by decide) rfl rfl rfl) (all_cons (rfI hO (c := 52) (j := 2) rfl rfl (by decide) rfl (by decide) rfl ha (show sE [s0, s1, s2, s3, s4, s5, z, a, b, c, t, u, v] (sV 7) = some a from sE_V rfl)) (all_cons (rfI hO (c := 237) (j := 2) rfl rfl (by decide) rfl (by decide) rfl hb (show sE [s0, s1, s2, s3, s4, s5, z, a, b, c, t, u, v] (sV 8) = some b from sE_V rfl)) (all_cons (rfI hO (c := 268) (j := 2) rfl rfl (by decide) rfl (by decide) rfl hc (show sE [s0, s1, s2, s3, s4, s5, z, a, b, c, t, u, v] (sV 9) = some c from sE_V rfl)) (all_cons (rfI hO (c := 0) (j := 1) rfl rfl (by decide) rfl (by decide) rfl ht1 (show sE [s0, s1, s2, s3, s4, s5, z, a, b, c, t, u, v] (sV 10) = some t from sE_V rfl)) (all_cons (rfI hO (c := 273) (j := 2) rfl rfl (by decide) rfl (by decide) rfl ht2 (show sE [s0, s1, s2, s3, s4, s5, z, a, b, c, t, u, v] (sV 10) = some t from sE_V rfl)) (all_cons (rfI hO (c := 211) (j := 0) rfl rfl (by decide) rfl (by decide) rfl hu1 (show sE [s0, s1, s2, s3, s4, s5, z, a, b, c, t, u, v] (sV 11) = some u from sE_V rfl)) (all_cons (rfI hO (c := 291) (j := 0) rfl rfl (by decide) rfl (by decide) rfl hu2 (show sE [s0, s1, s2, s3, s4, s5, z, a, b, c, t, u, v] (sV 11) = some u from sE_V rfl)) (all_cons (rfI hO (c := 242) (j := 0) rfl rfl (by decide) rfl (by decide) rfl hv1 (show sE [s0, s1, s2, s3, s4, s5, z, a, b, c, t, u, v] (sV 12) = some v from sE_V rfl)) (all_cons (rfI hO (c := 291) (j := 1) rfl rfl (by decide) rfl (by decide) rfl hv2 (show sE [s0, s1, s2, s3, s4, s5, z, a, b, c, t, u, v] (sV 12) = some v from sE_V rfl)) (all_nil)))))))))))), all_cons (⟨[a], ⟨(show sE [s0, s1, s2, s3, s4, s5, z, a, b, c, t, u, v] (sV 7) = some a from sE_V rfl), trivial⟩, f0⟩) (all_cons (⟨[b], ⟨(show sE [s0, s1, s2, s3, s4, s5, z, a, b, c, t, u, v] (sV 8) = some b from sE_V rfl), trivial⟩, f1⟩) (all_cons (⟨[c], ⟨(show sE [s0, s1, s2, s3, s4, s5, z, a, b, c, t, u, v] (sV 9) = some c from sE_V rfl), trivial⟩, f2⟩) (all_cons (⟨[z], ⟨(show sE [s0, s1, s2, s3, s4, s5, z, a, b, c, t, u, v] (sV 6) = some z from sE_V rfl), trivial⟩, f3⟩) (all_cons (⟨[], trivial, f4⟩) (all_cons (⟨[], trivial, f5⟩) (all_cons (⟨[], trivial, f6⟩) (all_nil)))))))⟩, ⟨[z, a, b, c, t, u, v], rfl⟩, fun e he => (by cases he), hFr_refl _ hp⟩
  have hj : ([(8, .ofNat 0, []), (16, .ofNat 0, []), (94, .ofNat 273, []), (113, .ofNat 292, []), (1, .ofNat 0, [(.ofNat 1, 5)]), (9, .ofNat 0, []), (9, .ofNat 0, [])] : List sVl)[j]? = some v := hj
  match j, hj with
  | 0, hj => cases hj; rw [l0]; exact vOk_s
  | 1, hj => cases hj; rw [l1]; exact vOk_r (ro := 0) (c := 0) rfl (by decide) rfl
  | 2, hj => cases hj; rw [l2]; exact vOk_r (ro := 78) (c := 273) rfl (by decide) rfl
  | 3, hj => cases hj; rw [l3]; exact vOk_r (ro := 97) (c := 292) rfl (by decide) rfl
  | 4, hj => cases hj; rw [l4]; exact vOk_i (sE_V rfl) r5.1 r5.2
  | 5, hj => cases hj; exact vOk_9
  | 6, hj => cases hj; exact vOk_9
  | n + 7, hj => exact absurd hj (by simp)
theorem ofB {rr : List Int} {hp : Lean.RArray Nat} (hO : hOk hp) (hN : sNOk tSg rr gEB.1) (hH : hsOk fFS rr hp gEB.2.2) : lIn 57 52 58 60 hp := by
  obtain ⟨s0, s1, s2, s3, s4, s5, s6, s7, s8, s9, s10, s11, s12, rfl⟩ := len13 (show rr.length = 13 from hN.1)
  have hIv : ∀ q ∈ ([(5, .ofNat 0, .ofNat 3072), (6, .ofNat 0, .ofNat 8), (7, .ofNat 0, .ofNat 40), (8, .ofNat 0, .ofNat 40), (9, .ofNat 0, .ofNat 40), (10, .ofNat 0, .ofNat 940), (11, .ofNat 0, .ofNat 1), (12, .ofNat 0, .ofNat 1)] : sIv), ∃ x, ([s0, s1, s2, s3, s4, s5, s6, s7, s8, s9, s10, s11, s12] : List Int)[q.1]? = some x ∧ q.2.1 ≤ x ∧ x ≤ q.2.2 := hN.2.1.2
  have b5 : (0 : Int) ≤ s5 ∧ s5 ≤ (3072 : Int) := ivX (q := (5, .ofNat 0, .ofNat 3072)) (y := s5) (hIv _ (.head _)) rfl
  have b6 : (0 : Int) ≤ s6 ∧ s6 ≤ (8 : Int) := ivX (q := (6, .ofNat 0, .ofNat 8)) (y := s6) (hIv _ (.tail _ (.head _))) rfl
  have b7 : (0 : Int) ≤ s7 ∧ s7 ≤ (40 : Int) := ivX (q := (7, .ofNat 0, .ofNat 40)) (y := s7) (hIv _ (.tail _ (.tail _ (.head _)))) rfl
  have b8 : (0 : Int) ≤ s8 ∧ s8 ≤ (40 : Int) := ivX (q := (8, .ofNat 0, .ofNat 40)) (y := s8) (hIv _ (.tail _ (.tail _ (.tail _ (.head _))))) rfl
  have b9 : (0 : Int) ≤ s9 ∧ s9 ≤ (40 : Int) := ivX (q := (9, .ofNat 0, .ofNat 40)) (y := s9) (hIv _ (.tail _ (.tail _ (.tail _ (.tail _ (.head _)))))) rfl
  have b10 : (0 : Int) ≤ s10 ∧ s10 ≤ (940 : Int) := ivX (q := (10, .ofNat 0, .ofNat 940)) (y := s10) (hIv _ (.tail _ (.tail _ (.tail _ (.tail _ (.tail _ (.head _))))))) rfl
  have b11 : (0 : Int) ≤ s11 ∧ s11 ≤ (1 : Int) := ivX (q := (11, .ofNat 0, .ofNat 1)) (y := s11) (hIv _ (.tail _ (.tail _ (.tail _ (.tail _ (.tail _ (.tail _ (.head _)))))))) rfl
  have b12 : (0 : Int) ≤ s12 ∧ s12 ≤ (1 : Int) := ivX (q := (12, .ofNat 0, .ofNat 1)) (y := s12) (hIv _ (.tail _ (.tail _ (.tail _ (.tail _ (.tail _ (.tail _ (.tail _ (.head _))))))))) rfl
  have hRf : ∀ q ∈ ([((80, .ofNat 275, []), (.ofNat 6, []), 1, .ofNat 0, [(.ofNat 1, 6)]), ((0, .ofNat 0, []), (.ofNat 10, []), 48, .ofNat 57, []), ((0, .ofNat 0, []), (.ofNat 11, []), 43, .ofNat 52, []), ((32, .ofNat 57, []), (.ofNat 2, []), 1, .ofNat 0, [(.ofNat 1, 7)]), ((67, .ofNat 237, []), (.ofNat 2, []), 1, .ofNat 0, [(.ofNat 1, 8)]), ((73, .ofNat 268, []), (.ofNat 2, []), 1, .ofNat 0, [(.ofNat 1, 9)]), ((0, .ofNat 0, []), (.ofNat 1, []), 1, .ofNat 0, [(.ofNat 1, 10)]), ((78, .ofNat 273, []), (.ofNat 2, []), 1, .ofNat 0, [(.ofNat 1, 10)]), ((66, .ofNat 211, []), (.ofNat 0, []), 1, .ofNat 0, [(.ofNat 1, 11)]), ((96, .ofNat 291, []), (.ofNat 0, []), 1, .ofNat 0, [(.ofNat 1, 11)]), ((72, .ofNat 242, []), (.ofNat 0, []), 1, .ofNat 0, [(.ofNat 1, 12)]), ((96, .ofNat 291, []), (.ofNat 1, []), 1, .ofNat 0, [(.ofNat 1, 12)])] : List sRf), rfOk [s0, s1, s2, s3, s4, s5, s6, s7, s8, s9, s10, s11, s12] hp q := hH.1
  obtain ⟨c_0, i0, p0, -, e0, -, h0⟩ := rfX (cv := ((275 : Int) + 0)) (iv := ((6 : Int) + 0)) (xv := ((0 : Int) + ((1 : Int) * s6 + 0))) (hRf _ (.head _)) rfl rfl rfl
  have w0 : c_0 = 275 := by omega
  subst w0
  have w0 : i0 = 6 := by omega
  subst w0
  obtain ⟨c_1, i1, p1, e1, h1⟩ := rfR (cv := ((0 : Int) + 0)) (iv := ((10 : Int) + 0)) (k := 57) (hRf _ (.tail _ (.head _))) (by decide) rfl rfl rfl
  have w1 : c_1 = 0 := by omega
  subst w1
  have w1 : i1 = 10 := by omega
  subst w1
  obtain ⟨c_2, i2, p2, e2, h2⟩ := rfR (cv := ((0 : Int) + 0)) (iv := ((11 : Int) + 0)) (k := 52) (hRf _ (.tail _ (.tail _ (.head _)))) (by decide) rfl rfl rfl
  have w2 : c_2 = 0 := by omega
  subst w2
  have w2 : i2 = 11 := by omega
  subst w2
  obtain ⟨c_3, i3, p3, -, e3, -, h3⟩ := rfX (cv := ((57 : Int) + 0)) (iv := ((2 : Int) + 0)) (xv := ((0 : Int) + ((1 : Int) * s7 + 0))) (hRf _ (.tail _ (.tail _ (.tail _ (.head _))))) rfl rfl rfl
  have w3 : c_3 = 57 := by omega
  subst w3
  have w3 : i3 = 2 := by omega
  subst w3
  obtain ⟨c_4, i4, p4, -, e4, -, h4⟩ := rfX (cv := ((237 : Int) + 0)) (iv := ((2 : Int) + 0)) (xv := ((0 : Int) + ((1 : Int) * s8 + 0))) (hRf _ (.tail _ (.tail _ (.tail _ (.tail _ (.head _)))))) rfl rfl rfl
  have w4 : c_4 = 237 := by omega
  subst w4
  have w4 : i4 = 2 := by omega
  subst w4
  obtain ⟨c_5, i5, p5, -, e5, -, h5⟩ := rfX (cv := ((268 : Int) + 0)) (iv := ((2 : Int) + 0)) (xv := ((0 : Int) + ((1 : Int) * s9 + 0))) (hRf _ (.tail _ (.tail _ (.tail _ (.tail _ (.tail _ (.head _))))))) rfl rfl rfl
  have w5 : c_5 = 268 := by omega
  subst w5
  have w5 : i5 = 2 := by omega
  subst w5
  obtain ⟨c_6, i6, p6, -, e6, -, h6⟩ := rfX (cv := ((0 : Int) + 0)) (iv := ((1 : Int) + 0)) (xv := ((0 : Int) + ((1 : Int) * s10 + 0))) (hRf _ (.tail _ (.tail _ (.tail _ (.tail _ (.tail _ (.tail _ (.head _)))))))) rfl rfl rfl
  have w6 : c_6 = 0 := by omega
  subst w6
  have w6 : i6 = 1 := by omega
  subst w6
  obtain ⟨c_7, i7, p7, -, e7, -, h7⟩ := rfX (cv := ((273 : Int) + 0)) (iv := ((2 : Int) + 0)) (xv := ((0 : Int) + ((1 : Int) * s10 + 0))) (hRf _ (.tail _ (.tail _ (.tail _ (.tail _ (.tail _ (.tail _ (.tail _ (.head _))))))))) rfl rfl rfl
  have w7 : c_7 = 273 := by omega
  subst w7
  have w7 : i7 = 2 := by omega
  subst w7
  obtain ⟨c_8, i8, p8, -, e8, -, h8⟩ := rfX (cv := ((211 : Int) + 0)) (iv := ((0 : Int) + 0)) (xv := ((0 : Int) + ((1 : Int) * s11 + 0))) (hRf _ (.tail _ (.tail _ (.tail _ (.tail _ (.tail _ (.tail _ (.tail _ (.tail _ (.head _)))))))))) rfl rfl rfl
  have w8 : c_8 = 211 := by omega
  subst w8
  have w8 : i8 = 0 := by omega
  subst w8
  obtain ⟨c_9, i9, p9, -, e9, -, h9⟩ := rfX (cv := ((291 : Int) + 0)) (iv := ((0 : Int) + 0)) (xv := ((0 : Int) + ((1 : Int) * s11 + 0))) (hRf _ (.tail _ (.tail _ (.tail _ (.tail _ (.tail _ (.tail _ (.tail _ (.tail _ (.tail _ (.head _))))))))))) rfl rfl rfl
  have w9 : c_9 = 291 := by omega
  subst w9
  have w9 : i9 = 0 := by omega
  subst w9
  obtain ⟨c_10, i10, p10, -, e10, -, h10⟩ := rfX (cv := ((242 : Int) + 0)) (iv := ((0 : Int) + 0)) (xv := ((0 : Int) + ((1 : Int) * s12 + 0))) (hRf _ (.tail _ (.tail _ (.tail _ (.tail _ (.tail _ (.tail _ (.tail _ (.tail _ (.tail _ (.tail _ (.head _)))))))))))) rfl rfl rfl
  have w10 : c_10 = 242 := by omega
  subst w10
  have w10 : i10 = 0 := by omega
  subst w10
  obtain ⟨c_11, i11, p11, -, e11, -, h11⟩ := rfX (cv := ((291 : Int) + 0)) (iv := ((1 : Int) + 0)) (xv := ((0 : Int) + ((1 : Int) * s12 + 0))) (hRf _ (.tail _ (.tail _ (.tail _ (.tail _ (.tail _ (.tail _ (.tail _ (.tail _ (.tail _ (.tail _ (.tail _ (.head _))))))))))))) rfl rfl rfl
  have w11 : c_11 = 291 := by omega
  subst w11
  have w11 : i11 = 1 := by omega
  subst w11
  have hFc : ∀ q ∈ ([(2, [(.ofNat 0, [(.ofNat 1, 7)])]), (3, [(.ofNat 0, [(.ofNat 1, 8)])]), (4, [(.ofNat 0, [(.ofNat 1, 9)])]), (7, [(.ofNat 0, [(.ofNat 1, 6)])]), (12, []), (17, []), (19, [])] : List sFc), fcOk fFS [s0, s1, s2, s3, s4, s5, s6, s7, s8, s9, s10, s11, s12] hp q := hH.2
  have f0 : fSen 58 60 ((0 : Int) + ((1 : Int) * s7 + 0)) hp := fc1X (hFc _ (.head _)) rfl
  have f1 : fSen 238 240 ((0 : Int) + ((1 : Int) * s8 + 0)) hp := fc1X (hFc _ (.tail _ (.head _))) rfl
  have f2 : fSen 269 271 ((0 : Int) + ((1 : Int) * s9 + 0)) hp := fc1X (hFc _ (.tail _ (.tail _ (.head _)))) rfl
  have f3 : fCh 275 250 ((0 : Int) + ((1 : Int) * s6 + 0)) hp := fc1X (hFc _ (.tail _ (.tail _ (.tail _ (.head _))))) rfl
  have f4 : fPfs 275 690 hp := fc0X (hFc _ (.tail _ (.tail _ (.tail _ (.tail _ (.head _))))))
  have f5 : fKept 0 0 hp := fc0X (hFc _ (.tail _ (.tail _ (.tail _ (.tail _ (.tail _ (.head _)))))))
  have f6 : fKept 871 1 hp := fc0X (hFc _ (.tail _ (.tail _ (.tail _ (.tail _ (.tail _ (.tail _ (.head _))))))))
  exact ⟨hO, h1, h2, ((0 : Int) + ((1 : Int) * s6 + 0)), ((0 : Int) + ((1 : Int) * s7 + 0)), ((0 : Int) + ((1 : Int) * s8 + 0)), ((0 : Int) + ((1 : Int) * s9 + 0)), ((0 : Int) + ((1 : Int) * s10 + 0)), ((0 : Int) + ((1 : Int) * s11 + 0)), ((0 : Int) + ((1 : Int) * s12 + 0)), by omega, by omega, by omega, by omega, by omega, by omega, by omega, h0, h3, h4, h5, ⟨h6, h7, h8, h9, h10, h11⟩, f0, f1, f2, f3, f4, f5, f6⟩
theorem toB {rc : List Int} {hp : Lean.RArray Nat} {md : sMd} {L : Nat} {i : Int} (hl : rc.length = 6) (hR : ∀ x ∈ rc, zMn ≤ x ∧ x ≤ zMx) (hi5 : rc[5]? = some i) (hi : 0 ≤ i ∧ i ≤ 3072) (h : lIn 57 52 58 60 hp) (l0 : eSl L 0 = 30) (l1 : eSl L 1 = cR 0) (l2 : eSl L 2 = cR 273) (l3 : eSl L 3 = cR 292) (l4 : eSl L 4 = cI i) : ∃ r, Gs fFS rc none 0 md hp r gLB.1 gLB.2.1 [] gLB.2.2 L [] hp := by
  obtain ⟨s0, s1, s2, s3, s4, s5, rfl⟩ := len6 hl
  have e5 : s5 = i := Option.some.inj hi5
  subst e5
  obtain ⟨hO, x1, x2, z, a, b, c, t, u, v, bz, ba, bb, bc, bt, bu, bv, hz, ha, hb, hc, ⟨ht1, ht2, hu1, hu2, hv1, hv2⟩, f0, f1, f2, f3, f4, f5, f6⟩ := h
  have hR2 : ∀ x ∈ ([s0, s1, s2, s3, s4, s5, z, a, b, c, t, u, v] : List Int), zMn ≤ x ∧ x ≤ zMx := by
    intro x hx
    have hx : x ∈ ([s0, s1, s2, s3, s4, s5] ++ [z, a, b, c, t, u, v] : List Int) := hx
    rcases List.mem_append.mp hx with hx | hx
    · exact hR x hx
    · rw [zMn_eq, zMx_eq]
      simp only [List.mem_cons, List.not_mem_nil, or_false] at hx
      rcases hx with rfl | rfl | rfl | rfl | rfl | rfl | rfl <;> omega
  have r5 := hR s5 (.tail _ (.tail _ (.tail _ (.tail _ (.tail _ (.head _))))))
  refine ⟨[s0, s1, s2, s3, s4, s5, z, a, b, c, t, u, v], ⟨rfl, ⟨hR2, all_cons (ivO (y := s5) rfl (show (0 : Int) ≤ s5 by omega) (show s5 ≤ (3072 : Int) by omega)) (all_cons (ivO (y := z) rfl (show (0 : Int) ≤ z by omega) (show z ≤ (8 : Int) by omega)) (all_cons (ivO (y := a) rfl (show (0 : Int) ≤ a by omega) (show a ≤ (40 : Int) by omega)) (all_cons (ivO (y := b) rfl (show (0 : Int) ≤ b by omega) (show b ≤ (40 : Int) by omega)) (all_cons (ivO (y := c) rfl (show (0 : Int) ≤ c by omega) (show c ≤ (40 : Int) by omega)) (all_cons (ivO (y := t) rfl (show (0 : Int) ≤ t by omega) (show t ≤ (940 : Int) by omega)) (all_cons (ivO (y := u) rfl (show (0 : Int) ≤ u by omega) (show u ≤ (1 : Int) by omega)) (all_cons (ivO (y := v) rfl (show (0 : Int) ≤ v by omega) (show v ≤ (1 : Int) by omega)) (all_nil))))))))⟩, all_nil, all_nil⟩, fun j v hj => ?_, trivial, hO, ⟨all_cons (rfI hO (c := 275) (j := 6) rfl rfl (by decide) rfl (by decide) rfl hz (show sE [s0, s1, s2, s3, s4, s5, z, a, b, c, t, u, v] (sV 6) = some z from sE_V rfl)) (all_cons (rfC (c := 0) (j := 10) (k := 57) (rk := 32) rfl rfl (by decide) rfl (by decide) x1 (by decide) rfl rfl rfl) (all_cons (rfC (c := 0) (j := 11) (k := 52) (rk := 27) rfl rfl (by decide) rfl (by decide) x2 (by decide) rfl rfl rfl) (all_cons (rfI hO (c := 57) (j := 2) rfl rfl (by decide) rfl (by decide) rfl ha (show sE [s0, s1, s2, s3, s4, s5, z, a, b, c, t, u, v] (sV 7) = some a from sE_V rfl)) (all_cons (rfI hO (c := 237) (j := 2) rfl rfl (by decide) rfl (by decide) rfl hb (show sE [s0, s1, s2, s3, s4, s5, z, a, b, c, t, u, v] (sV 8) = some b from sE_V rfl)) (all_cons (rfI hO (c := 268) (j := 2) rfl rfl (by decide) rfl (by decide) rfl hc (show sE [s0, s1, s2, s3, s4, s5, z, a, b, c, t, u, v] (sV 9) = some c from sE_V rfl)) (all_cons (rfI hO (c := 0) (j := 1) rfl rfl (by decide) rfl (by decide) rfl ht1 (show sE [s0, s1, s2, s3, s4, s5, z, a, b, c, t, u, v] (sV 10) = some t from sE_V rfl)) (all_cons (rfI hO (c := 273) (j := 2) rfl rfl (by decide) rfl (by decide) rfl ht2 (show sE [s0, s1, s2, s3, s4, s5, z, a, b, c, t, u, v] (sV 10) = some t from sE_V rfl)) (all_cons (rfI hO (c := 211) (j := 0) rfl rfl (by decide) rfl (by decide) rfl hu1 (show sE [s0, s1, s2, s3, s4, s5, z, a, b, c, t, u, v] (sV 11) = some u from sE_V rfl)) (all_cons (rfI hO (c := 291) (j := 0) rfl rfl (by decide) rfl (by decide) rfl hu2 (show sE [s0, s1, s2, s3, s4, s5, z, a, b, c, t, u, v] (sV 11) = some u from sE_V rfl)) (all_cons (rfI hO (c := 242) (j := 0) rfl rfl (by decide) rfl (by decide) rfl hv1 (show sE [s0, s1, s2, s3, s4, s5, z, a, b, c, t, u, v] (sV 12) = some v from sE_V rfl)) (all_cons (rfI hO (c := 291) (j := 1) rfl rfl (by decide) rfl (by decide) rfl hv2 (show sE [s0, s1, s2, s3, s4, s5, z, a, b, c, t, u, v] (sV 12) = some v from sE_V rfl)) (all_nil)))))))))))), all_cons (⟨[a], ⟨(show sE [s0, s1, s2, s3, s4, s5, z, a, b, c, t, u, v] (sV 7) = some a from sE_V rfl), trivial⟩, f0⟩) (all_cons (⟨[b], ⟨(show sE [s0, s1, s2, s3, s4, s5, z, a, b, c, t, u, v] (sV 8) = some b from sE_V rfl), trivial⟩, f1⟩) (all_cons (⟨[c], ⟨(show sE [s0, s1, s2, s3, s4, s5, z, a, b, c, t, u, v] (sV 9) = some c from sE_V rfl), trivial⟩, f2⟩) (all_cons (⟨[z], ⟨(show sE [s0, s1, s2, s3, s4, s5, z, a, b, c, t, u, v] (sV 6) = some z from sE_V rfl), trivial⟩, f3⟩) (all_cons (⟨[], trivial, f4⟩) (all_cons (⟨[], trivial, f5⟩) (all_cons (⟨[], trivial, f6⟩) (all_nil)))))))⟩, ⟨[z, a, b, c, t, u, v], rfl⟩, fun e he => (by cases he), hFr_refl _ hp⟩
  have hj : ([(8, .ofNat 0, []), (16, .ofNat 0, []), (94, .ofNat 273, []), (113, .ofNat 292, []), (1, .ofNat 0, [(.ofNat 1, 5)]), (9, .ofNat 0, []), (9, .ofNat 0, [])] : List sVl)[j]? = some v := hj
  match j, hj with
  | 0, hj => cases hj; rw [l0]; exact vOk_s
  | 1, hj => cases hj; rw [l1]; exact vOk_r (ro := 0) (c := 0) rfl (by decide) rfl
  | 2, hj => cases hj; rw [l2]; exact vOk_r (ro := 78) (c := 273) rfl (by decide) rfl
  | 3, hj => cases hj; rw [l3]; exact vOk_r (ro := 97) (c := 292) rfl (by decide) rfl
  | 4, hj => cases hj; rw [l4]; exact vOk_i (sE_V rfl) r5.1 r5.2
  | 5, hj => cases hj; exact vOk_9
  | 6, hj => cases hj; exact vOk_9
  | n + 7, hj => exact absurd hj (by simp)
end CkLaw4
