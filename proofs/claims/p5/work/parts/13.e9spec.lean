section Spec9
variable {T : pT} {q c l e f g h m n k a z v x y w u i p lo hi : Int} {D D' : pD} {s : pSt} {P Q : pD → Prop}
theorem gN1 (hT : tOk T) (hG : G T ((q, 1, l), (e, f, g, h, m, n), D)) (ht : TKB T q 2 a z v) (hN : NO T q) : G T ((z, 2, l), (v, 0, 0, 0, 0, 0), D) := by
  obtain ⟨lo, hi, r0, r1, r2⟩ := no_at hT hG ht hN
  have r3 : 1 ≤ v ∧ v ≤ 10 := by unfold numC at r0; omega
  exact G_go2 hG ht.1 ((nx1 (by decide)).trans (by unfold pNum; rw [pIf_t rfl, pIf_t r3]; rfl))
theorem gN2 (hT : tOk T) (hG : G T ((q, 2, l), (e, f, g, h, m, n), D)) (ht : TKB T q 2 a z v) (hN : NO T q) : G T ((z, 26, l + 1), (0, 0, 0, 0, 0, 0), aSz D e v) := by
  obtain ⟨lo, hi, r0, r1, r2⟩ := no_at hT hG ht hN
  have r3 : 1 ≤ v ∧ v ≤ 10 := by unfold numC at r0; omega
  exact G_go2 hG ht.1 ((nx2 (by decide)).trans (by unfold pNum; rw [pIf_t rfl, pIf_t r3]; rfl))
theorem gN5 (hT : tOk T) (hG : G T ((q, 5, l), (e, f, g, h, m, n), D)) (ht : TKB T q 2 a z v) (hN : NO T q) : G T ((z, 6, l), (e, v, 0, 0, m, n), D) := by
  obtain ⟨lo, hi, r0, r1, r2⟩ := no_at hT hG ht hN
  have r3 : 0 ≤ v ∧ v ≤ dCx D - 1 := by unfold numC at r0; omega
  exact G_go2 hG ht.1 ((nx5 (by decide)).trans (by unfold pNum; rw [pIf_t rfl, pIf_t r3]; rfl))
theorem gN6 (hT : tOk T) (hG : G T ((q, 6, l), (e, f, g, h, m, n), D)) (ht : TKB T q 2 a z v) (hN : NO T q) : G T ((z, 7, l), (e, f, v, 0, m, n), D) := by
  obtain ⟨lo, hi, r0, r1, r2⟩ := no_at hT hG ht hN
  have r3 : 0 ≤ v ∧ v ≤ dCy D - 1 := by unfold numC at r0; omega
  exact G_go2 hG ht.1 ((nx6 (by decide)).trans (by unfold pNum; rw [pIf_t rfl, pIf_t r3]; rfl))
theorem gN7 (hT : tOk T) (hG : G T ((q, 7, l), (e, f, g, h, m, n), D)) (ht : TKB T q 2 a z v) (hN : NO T q) : G T ((z, 8, l), (e, f, g, v, m, n), D) := by
  obtain ⟨lo, hi, r0, r1, r2⟩ := no_at hT hG ht hN
  have r3 : 1 ≤ v ∧ v ≤ dCx D - f := by unfold numC at r0; omega
  exact G_go2 hG ht.1 ((nx7 (by decide)).trans (by unfold pNum; rw [pIf_t rfl, pIf_t r3]; rfl))
theorem gN8s (hT : tOk T) (hG : G T ((q, 8, l), (e, f, g, h, m, n), D)) (ht : TKB T q 2 a z v) (hN : NO T q) (he : e = -1) (hA : ¬ anyT D f g h v) : G T ((z, 26, l + 1), (0, 0, 0, 0, 0, 0), aSp D (bs T.1 m n) f g h v) := by
  obtain ⟨lo, hi, r0, r1, r2⟩ := no_at hT hG ht hN
  have r3 : 1 ≤ v ∧ v ≤ dCy D - g := by unfold numC at r0; omega
  exact G_go2 hG ht.1 ((nx8 (by decide)).trans (by unfold pNum; rw [pIf_t rfl, pIf_t r3, pIf_f hA, pIf_t he]; rfl))
theorem gN8f (hT : tOk T) (hG : G T ((q, 8, l), (e, f, g, h, m, n), D)) (ht : TKB T q 2 a z v) (hN : NO T q) (he : e ≠ -1) (hA : ¬ anyT D f g h v) : G T ((z, 26, l + 1), (0, 0, 0, 0, 0, 0), aFi D f g h v) := by
  obtain ⟨lo, hi, r0, r1, r2⟩ := no_at hT hG ht hN
  have r3 : 1 ≤ v ∧ v ≤ dCy D - g := by unfold numC at r0; omega
  exact G_go2 hG ht.1 ((nx8 (by decide)).trans (by unfold pNum; rw [pIf_t rfl, pIf_t r3, pIf_f hA, pIf_f he]; rfl))
theorem gN8x (hT : tOk T) (hG : G T ((q, 8, l), (e, f, g, h, m, n), D)) (ht : TKB T q 2 a z v) (hN : NO T q) (hA : anyT D f g h v) : R T (3, a) := by
  obtain ⟨lo, hi, r0, r1, r2⟩ := no_at hT hG ht hN
  have r3 : 1 ≤ v ∧ v ≤ dCy D - g := by unfold numC at r0; omega
  exact G_fl2 hG ht.1 ((nx8 (by decide)).trans (by unfold pNum; rw [pIf_t rfl, pIf_t r3, pIf_t hA]; rfl))
theorem gN15 (hT : tOk T) (hG : G T ((q, 15, l), (e, f, g, h, m, n), D)) (ht : TKB T q 2 a z v) (hN : NO T q) : G T ((z, 16, l), (0, 0, 0, 0, m, n), D) := by
  obtain ⟨lo, hi, r0, r1, r2⟩ := no_at hT hG ht hN
  have r3 : 1 ≤ v ∧ v ≤ 12 := by unfold numC at r0; omega
  exact G_go2 hG ht.1 ((nx15 (by decide)).trans (by unfold pNum; rw [pIf_t rfl, pIf_t r3]; rfl))
theorem gN16 (hT : tOk T) (hG : G T ((q, 16, l), (e, f, g, h, m, n), D)) (ht : TKB T q 2 a z v) (hN : NO T q) : G T ((z, 17, l + 1), (0, 0, 0, 0, 0, 0), aKn D (bs T.1 m n)) := by
  obtain ⟨lo, hi, r0, r1, r2⟩ := no_at hT hG ht hN
  have r3 : 1 ≤ v ∧ v ≤ 9 := by unfold numC at r0; omega
  exact G_go2 hG ht.1 ((nx16 (by decide)).trans (by unfold pNum; rw [pIf_t rfl, pIf_t r3]; rfl))
theorem gN19 (hT : tOk T) (hG : G T ((q, 19, l), (e, f, g, h, m, n), D)) (ht : TKB T q 2 a z v) (hN : NO T q) : G T ((z, 20, l), (e, v, 0, 0, 0, 0), D) := by
  obtain ⟨lo, hi, r0, r1, r2⟩ := no_at hT hG ht hN
  have r3 : 0 ≤ v ∧ v ≤ dCx D - 1 := by unfold numC at r0; omega
  exact G_go2 hG ht.1 ((nx19 (by decide)).trans (by unfold pNum; rw [pIf_t rfl, pIf_t r3]; rfl))
theorem gN20 (hT : tOk T) (hG : G T ((q, 20, l), (e, f, g, h, m, n), D)) (ht : TKB T q 2 a z v) (hN : NO T q) (hA : fre D f v) : G T ((z, 26, l + 1), (0, 0, 0, 0, 0, 0), aTr D f v) := by
  obtain ⟨lo, hi, r0, r1, r2⟩ := no_at hT hG ht hN
  have r3 : 0 ≤ v ∧ v ≤ dCy D - 1 := by unfold numC at r0; omega
  exact G_go2 hG ht.1 ((nx20 (by decide)).trans (by unfold pNum; rw [pIf_t rfl, pIf_t r3, pIf_t hA]; rfl))
theorem gN20x (hT : tOk T) (hG : G T ((q, 20, l), (e, f, g, h, m, n), D)) (ht : TKB T q 2 a z v) (hN : NO T q) (hA : ¬ fre D f v) : R T (3, a) := by
  obtain ⟨lo, hi, r0, r1, r2⟩ := no_at hT hG ht hN
  have r3 : 0 ≤ v ∧ v ≤ dCy D - 1 := by unfold numC at r0; omega
  exact G_fl2 hG ht.1 ((nx20 (by decide)).trans (by unfold pNum; rw [pIf_t rfl, pIf_t r3, pIf_f hA]; rfl))
theorem gN21 (hT : tOk T) (hG : G T ((q, 21, l), (e, f, g, h, m, n), D)) (ht : TKB T q 2 a z v) (hN : NO T q) : G T ((z, 22, l), (0, v, 0, 0, 0, 0), D) := by
  obtain ⟨lo, hi, r0, r1, r2⟩ := no_at hT hG ht hN
  have r3 : 0 ≤ v ∧ v ≤ dCx D - 1 := by unfold numC at r0; omega
  exact G_go2 hG ht.1 ((nx21 (by decide)).trans (by unfold pNum; rw [pIf_t rfl, pIf_t r3]; rfl))
theorem gN22 (hT : tOk T) (hG : G T ((q, 22, l), (e, f, g, h, m, n), D)) (ht : TKB T q 2 a z v) (hN : NO T q) (hA : fre D f v) : G T ((z, 26, l + 1), (0, 0, 0, 0, 0, 0), aWa D f v) := by
  obtain ⟨lo, hi, r0, r1, r2⟩ := no_at hT hG ht hN
  have r3 : 0 ≤ v ∧ v ≤ dCy D - 1 := by unfold numC at r0; omega
  exact G_go2 hG ht.1 ((nx22 (by decide)).trans (by unfold pNum; rw [pIf_t rfl, pIf_t r3, pIf_t hA]; rfl))
theorem gN22x (hT : tOk T) (hG : G T ((q, 22, l), (e, f, g, h, m, n), D)) (ht : TKB T q 2 a z v) (hN : NO T q) (hA : ¬ fre D f v) : R T (3, a) := by
  obtain ⟨lo, hi, r0, r1, r2⟩ := no_at hT hG ht hN
  have r3 : 0 ≤ v ∧ v ≤ dCy D - 1 := by unfold numC at r0; omega
  exact G_fl2 hG ht.1 ((nx22 (by decide)).trans (by unfold pNum; rw [pIf_t rfl, pIf_t r3, pIf_f hA]; rfl))
theorem gN24 (hT : tOk T) (hG : G T ((q, 24, l), (e, f, g, h, m, n), D)) (ht : TKB T q 2 a z v) (hN : NO T q) (hA : (e, v) ∉ dWi D) : G T ((z, 25, l), (e, v, 0, 0, 0, 0), D) := by
  obtain ⟨lo, hi, r0, r1, r2⟩ := no_at hT hG ht hN
  have r3 : 1 ≤ v ∧ v ≤ 4 := by unfold numC at r0; omega
  exact G_go2 hG ht.1 ((nx24 (by decide)).trans (by unfold pNum; rw [pIf_t rfl, pIf_t r3, pIf_f hA]; rfl))
theorem gN24x (hT : tOk T) (hG : G T ((q, 24, l), (e, f, g, h, m, n), D)) (ht : TKB T q 2 a z v) (hN : NO T q) (hA : (e, v) ∈ dWi D) : R T (3, a) := by
  obtain ⟨lo, hi, r0, r1, r2⟩ := no_at hT hG ht hN
  have r3 : 1 ≤ v ∧ v ≤ 4 := by unfold numC at r0; omega
  exact G_fl2 hG ht.1 ((nx24 (by decide)).trans (by unfold pNum; rw [pIf_t rfl, pIf_t r3, pIf_t hA]; rfl))
theorem gN25 (hT : tOk T) (hG : G T ((q, 25, l), (e, f, g, h, m, n), D)) (ht : TKB T q 2 a z v) (hN : NO T q) : G T ((z, 26, l + 1), (0, 0, 0, 0, 0, 0), aWi D e f) := by
  obtain ⟨lo, hi, r0, r1, r2⟩ := no_at hT hG ht hN
  have r3 : 1 ≤ v ∧ v ≤ 9 := by unfold numC at r0; omega
  exact G_go2 hG ht.1 ((nx25 (by decide)).trans (by unfold pNum; rw [pIf_t rfl, pIf_t r3]; rfl))
theorem gW23 (hG : G T ((q, 23, l), (e, f, g, h, m, n), D)) (ht : TKB T q 1 a z v) (h1 : 8 ≤ v) (h2 : v ≤ 12) : G T ((z, 24, l), (v - 8, 0, 0, 0, 0, 0), D) := G_go2 hG ht.1 ((nx23 k14).trans (pIf_t ⟨rfl, h1, h2⟩))
theorem gF3 (hG : G T ((q, 3, l), (e, f, g, h, m, n), D)) (ht : TKB T q 1 a z (-1)) (hf : frs D (bs T.1 a z)) : G T ((z, 26, l + 1), (0, 0, 0, 0, 0, 0), aOw D (bs T.1 a z)) := G_go2 hG ht.1 ((nx3 k14).trans (by unfold pFre; rw [pIf_t ⟨rfl, rfl⟩, pIf_t hf]; rfl))
theorem gF9 (hG : G T ((q, 9, l), (e, f, g, h, m, n), D)) (ht : TKB T q 1 a z (-1)) (hf : frs D (bs T.1 a z)) : G T ((z, 5, l), (-1, 0, 0, 0, a, z), D) := G_go2 hG ht.1 ((nx9 k14).trans (by unfold pFre; rw [pIf_t ⟨rfl, rfl⟩, pIf_t hf]; rfl))
theorem gF14 (hG : G T ((q, 14, l), (e, f, g, h, m, n), D)) (ht : TKB T q 1 a z (-1)) (hf : frs D (bs T.1 a z)) : G T ((z, 15, l), (0, 0, 0, 0, a, z), D) := G_go2 hG ht.1 ((nx14 k14).trans (by unfold pFre; rw [pIf_t ⟨rfl, rfl⟩, pIf_t hf]; rfl))
theorem gO4 (hG : G T ((q, 4, l), (e, f, g, h, m, n), D)) (ht : TKB T q 1 a z (-1)) (hs : i = slF D (bs T.1 a z) 12) (h1 : 0 ≤ i) (h2 : i ≤ 3) : G T ((z, 5, l), (i, 0, 0, 0, 0, 0), D) := by
  subst hs
  exact G_go2 hG ht.1 ((nx4 k14).trans (by unfold pOld; rw [pIf_t ⟨rfl, rfl⟩, pIf_t ⟨h1, h2⟩]; rfl))
theorem gO18 (hG : G T ((q, 18, l), (e, f, g, h, m, n), D)) (ht : TKB T q 1 a z (-1)) (hs : i = slF D (bs T.1 a z) 12) (h1 : 7 ≤ i) (h2 : i ≤ 11) : G T ((z, 19, l), (i - 7, 0, 0, 0, 0, 0), D) := by
  subst hs
  exact G_go2 hG ht.1 ((nx18 k14).trans (by unfold pOld; rw [pIf_t ⟨rfl, rfl⟩, pIf_t ⟨h1, h2⟩]; rfl))
theorem ln_f0 (hT : tOk T) (hH : Hq T q c l e f g h m n k a z v) (hS : dF T l (fun D => szl D)) (hc : c = 0) (hk : k = 1) (hv : v = 0) : RS T 3 a := by
  obtain ⟨⟨D, hG⟩, ht⟩ := hH
  subst hc
  subst hk
  subst hv
  have hs : szl D := dF_at hT hG hS
  exact ⟨by decide, G_fl2 hG ht.1 ((nx0 k14).trans (by rw [pIf_f (by decide), pIf_t ⟨rfl, by decide, by decide⟩, pLn_0, pIf_t hs]; rfl))⟩
theorem ln_g0 (hT : tOk T) (hH : Hq T q c l e f g h m n k a z v) (hS : dF T l (fun D => ¬ (szl D) ∧ P D)) (hc : c = 0) (hk : k = 1) (hv : v = 0) : ∃ D, G T ((z, 1, l), (0, 0, 0, 0, 0, 0), D) ∧ P D := by
  obtain ⟨⟨D, hG⟩, ht⟩ := hH
  subst hc
  subst hk
  subst hv
  have hs : ¬ (szl D) ∧ P D := dF_at hT hG hS
  exact ⟨D, G_go2 hG ht.1 ((nx0 k14).trans (by rw [pIf_f (by decide), pIf_t ⟨rfl, by decide, by decide⟩, pLn_0, pIf_f hs.1]; rfl)), hs.2⟩
theorem ln_f1 (hT : tOk T) (hH : Hq T q c l e f g h m n k a z v) (hS : dF T l (fun D => 4 ≤ (dOw D).length)) (hc : c = 0) (hk : k = 1) (hv : v = 1) : RS T 4 a := by
  obtain ⟨⟨D, hG⟩, ht⟩ := hH
  subst hc
  subst hk
  subst hv
  have hs : 4 ≤ (dOw D).length := dF_at hT hG hS
  exact ⟨by decide, G_fl2 hG ht.1 ((nx0 k14).trans (by rw [pIf_f (by decide), pIf_t ⟨rfl, by decide, by decide⟩, pLn_1, pIf_t hs]; rfl))⟩
theorem ln_g1 (hT : tOk T) (hH : Hq T q c l e f g h m n k a z v) (hS : dF T l (fun D => ¬ (4 ≤ (dOw D).length) ∧ P D)) (hc : c = 0) (hk : k = 1) (hv : v = 1) : ∃ D, G T ((z, 3, l), (0, 0, 0, 0, 0, 0), D) ∧ P D := by
  obtain ⟨⟨D, hG⟩, ht⟩ := hH
  subst hc
  subst hk
  subst hv
  have hs : ¬ (4 ≤ (dOw D).length) ∧ P D := dF_at hT hG hS
  exact ⟨D, G_go2 hG ht.1 ((nx0 k14).trans (by rw [pIf_f (by decide), pIf_t ⟨rfl, by decide, by decide⟩, pLn_1, pIf_f hs.1]; rfl)), hs.2⟩
theorem ln_f2 (hT : tOk T) (hH : Hq T q c l e f g h m n k a z v) (hS : dF T l (fun D => 8 ≤ dFi D)) (hc : c = 0) (hk : k = 1) (hv : v = 2) : RS T 4 a := by
  obtain ⟨⟨D, hG⟩, ht⟩ := hH
  subst hc
  subst hk
  subst hv
  have hs : 8 ≤ dFi D := dF_at hT hG hS
  exact ⟨by decide, G_fl2 hG ht.1 ((nx0 k14).trans (by rw [pIf_f (by decide), pIf_t ⟨rfl, by decide, by decide⟩, pLn_2, pIf_t hs]; rfl))⟩
theorem ln_g2 (hT : tOk T) (hH : Hq T q c l e f g h m n k a z v) (hS : dF T l (fun D => ¬ (8 ≤ dFi D) ∧ P D)) (hc : c = 0) (hk : k = 1) (hv : v = 2) : ∃ D, G T ((z, 4, l), (0, 0, 0, 0, 0, 0), D) ∧ P D := by
  obtain ⟨⟨D, hG⟩, ht⟩ := hH
  subst hc
  subst hk
  subst hv
  have hs : ¬ (8 ≤ dFi D) ∧ P D := dF_at hT hG hS
  exact ⟨D, G_go2 hG ht.1 ((nx0 k14).trans (by rw [pIf_f (by decide), pIf_t ⟨rfl, by decide, by decide⟩, pLn_2, pIf_f hs.1]; rfl)), hs.2⟩
theorem ln_f3 (hT : tOk T) (hH : Hq T q c l e f g h m n k a z v) (hS : dF T l (fun D => 3 ≤ (dSt D).length)) (hc : c = 0) (hk : k = 1) (hv : v = 3) : RS T 4 a := by
  obtain ⟨⟨D, hG⟩, ht⟩ := hH
  subst hc
  subst hk
  subst hv
  have hs : 3 ≤ (dSt D).length := dF_at hT hG hS
  exact ⟨by decide, G_fl2 hG ht.1 ((nx0 k14).trans (by rw [pIf_f (by decide), pIf_t ⟨rfl, by decide, by decide⟩, pLn_3, pIf_t hs]; rfl))⟩
theorem ln_g3 (hT : tOk T) (hH : Hq T q c l e f g h m n k a z v) (hS : dF T l (fun D => ¬ (3 ≤ (dSt D).length) ∧ P D)) (hc : c = 0) (hk : k = 1) (hv : v = 3) : ∃ D, G T ((z, 9, l), (0, 0, 0, 0, 0, 0), D) ∧ P D := by
  obtain ⟨⟨D, hG⟩, ht⟩ := hH
  subst hc
  subst hk
  subst hv
  have hs : ¬ (3 ≤ (dSt D).length) ∧ P D := dF_at hT hG hS
  exact ⟨D, G_go2 hG ht.1 ((nx0 k14).trans (by rw [pIf_f (by decide), pIf_t ⟨rfl, by decide, by decide⟩, pLn_3, pIf_f hs.1]; rfl)), hs.2⟩
theorem ln_f4 (hT : tOk T) (hH : Hq T q c l e f g h m n k a z v) (hS : dF T l (fun D => 5 ≤ (dKn D).length)) (hc : c = 0) (hk : k = 1) (hv : v = 4) : RS T 4 a := by
  obtain ⟨⟨D, hG⟩, ht⟩ := hH
  subst hc
  subst hk
  subst hv
  have hs : 5 ≤ (dKn D).length := dF_at hT hG hS
  exact ⟨by decide, G_fl2 hG ht.1 ((nx0 k14).trans (by rw [pIf_f (by decide), pIf_t ⟨rfl, by decide, by decide⟩, pLn_4, pIf_t hs]; rfl))⟩
theorem ln_g4 (hT : tOk T) (hH : Hq T q c l e f g h m n k a z v) (hS : dF T l (fun D => ¬ (5 ≤ (dKn D).length) ∧ P D)) (hc : c = 0) (hk : k = 1) (hv : v = 4) : ∃ D, G T ((z, 14, l), (0, 0, 0, 0, 0, 0), D) ∧ P D := by
  obtain ⟨⟨D, hG⟩, ht⟩ := hH
  subst hc
  subst hk
  subst hv
  have hs : ¬ (5 ≤ (dKn D).length) ∧ P D := dF_at hT hG hS
  exact ⟨D, G_go2 hG ht.1 ((nx0 k14).trans (by rw [pIf_f (by decide), pIf_t ⟨rfl, by decide, by decide⟩, pLn_4, pIf_f hs.1]; rfl)), hs.2⟩
theorem ln_f5 (hT : tOk T) (hH : Hq T q c l e f g h m n k a z v) (hS : dF T l (fun D => 14 ≤ (dTr D).length)) (hc : c = 0) (hk : k = 1) (hv : v = 5) : RS T 4 a := by
  obtain ⟨⟨D, hG⟩, ht⟩ := hH
  subst hc
  subst hk
  subst hv
  have hs : 14 ≤ (dTr D).length := dF_at hT hG hS
  exact ⟨by decide, G_fl2 hG ht.1 ((nx0 k14).trans (by rw [pIf_f (by decide), pIf_t ⟨rfl, by decide, by decide⟩, pLn_5, pIf_t hs]; rfl))⟩
theorem ln_g5 (hT : tOk T) (hH : Hq T q c l e f g h m n k a z v) (hS : dF T l (fun D => ¬ (14 ≤ (dTr D).length) ∧ P D)) (hc : c = 0) (hk : k = 1) (hv : v = 5) : ∃ D, G T ((z, 18, l), (0, 0, 0, 0, 0, 0), D) ∧ P D := by
  obtain ⟨⟨D, hG⟩, ht⟩ := hH
  subst hc
  subst hk
  subst hv
  have hs : ¬ (14 ≤ (dTr D).length) ∧ P D := dF_at hT hG hS
  exact ⟨D, G_go2 hG ht.1 ((nx0 k14).trans (by rw [pIf_f (by decide), pIf_t ⟨rfl, by decide, by decide⟩, pLn_5, pIf_f hs.1]; rfl)), hs.2⟩
theorem ln_f6 (hT : tOk T) (hH : Hq T q c l e f g h m n k a z v) (hS : dF T l (fun D => 10 ≤ (dWa D).length)) (hc : c = 0) (hk : k = 1) (hv : v = 6) : RS T 4 a := by
  obtain ⟨⟨D, hG⟩, ht⟩ := hH
  subst hc
  subst hk
  subst hv
  have hs : 10 ≤ (dWa D).length := dF_at hT hG hS
  exact ⟨by decide, G_fl2 hG ht.1 ((nx0 k14).trans (by rw [pIf_f (by decide), pIf_t ⟨rfl, by decide, by decide⟩, pLn_6, pIf_t hs]; rfl))⟩
theorem ln_g6 (hT : tOk T) (hH : Hq T q c l e f g h m n k a z v) (hS : dF T l (fun D => ¬ (10 ≤ (dWa D).length) ∧ P D)) (hc : c = 0) (hk : k = 1) (hv : v = 6) : ∃ D, G T ((z, 21, l), (0, 0, 0, 0, 0, 0), D) ∧ P D := by
  obtain ⟨⟨D, hG⟩, ht⟩ := hH
  subst hc
  subst hk
  subst hv
  have hs : ¬ (10 ≤ (dWa D).length) ∧ P D := dF_at hT hG hS
  exact ⟨D, G_go2 hG ht.1 ((nx0 k14).trans (by rw [pIf_f (by decide), pIf_t ⟨rfl, by decide, by decide⟩, pLn_6, pIf_f hs.1]; rfl)), hs.2⟩
theorem ln_f7 (hT : tOk T) (hH : Hq T q c l e f g h m n k a z v) (hS : dF T l (fun D => 8 ≤ (dWi D).length)) (hc : c = 0) (hk : k = 1) (hv : v = 7) : RS T 4 a := by
  obtain ⟨⟨D, hG⟩, ht⟩ := hH
  subst hc
  subst hk
  subst hv
  have hs : 8 ≤ (dWi D).length := dF_at hT hG hS
  exact ⟨by decide, G_fl2 hG ht.1 ((nx0 k14).trans (by rw [pIf_f (by decide), pIf_t ⟨rfl, by decide, by decide⟩, pLn_7, pIf_t hs]; rfl))⟩
theorem ln_g7 (hT : tOk T) (hH : Hq T q c l e f g h m n k a z v) (hS : dF T l (fun D => ¬ (8 ≤ (dWi D).length) ∧ P D)) (hc : c = 0) (hk : k = 1) (hv : v = 7) : ∃ D, G T ((z, 23, l), (0, 0, 0, 0, 0, 0), D) ∧ P D := by
  obtain ⟨⟨D, hG⟩, ht⟩ := hH
  subst hc
  subst hk
  subst hv
  have hs : ¬ (8 ≤ (dWi D).length) ∧ P D := dF_at hT hG hS
  exact ⟨D, G_go2 hG ht.1 ((nx0 k14).trans (by rw [pIf_f (by decide), pIf_t ⟨rfl, by decide, by decide⟩, pLn_7, pIf_f hs.1]; rfl)), hs.2⟩
/-- what a line added -/
def dl (T : pT) (l : Int) (act : pD → pD) : Prop := ∃ D, dat T l D ∧ dat T (l + 1) (act D)
theorem dl_G {R R' : Int × Int × Int × Int × Int × Int} {act : pD → pD} {q' c' : Int} (hG : G T ((q, c, l), R, D)) (hG' : G T ((q', c', l + 1), R', act D)) : dl T l act := ⟨D, G_dat hG, G_dat hG'⟩
theorem carry {act : pD → pD} (hT : tOk T) (hd : dl T l act) (hP : dF T l P) (hQ : ∀ D, P D → Q (act D)) (e1 : x = l + 1) : dF T x Q := by
  obtain ⟨D, h1, h2⟩ := hd
  subst e1
  exact ⟨act D, h2, hQ D (dF_D hT h1 hP)⟩
theorem carryI {act : pD → pD} (hT : tOk T) (hd : dl T l act) (hQ : ∀ D, dI D → Q (act D)) (e1 : x = l + 1) : dF T x Q := by
  obtain ⟨D, h1, h2⟩ := hd
  subst e1
  exact ⟨act D, h2, hQ D (dat_I hT.1 hT.2.2.1 h1)⟩
theorem ct_aOw {L : List Int} {co cs ck cw ct cu cf cz cx cy co' : Int} (e1 : co' = co + 1) (hC : ctP co cs ck cw ct cu cf cz cx cy D) : ctP co' cs ck cw ct cu cf cz cx cy (aOw D L) := by
  obtain ⟨h0, h1, h2, h3, h4, h5, h6, h7, h8, h9⟩ := hC
  refine ⟨?_, h1, h2, h3, h4, h5, h6, h7, h8, h9⟩
  show co' = (((dOw D ++ [_]).length : Nat) : Int)
  rw [List.length_append]
  show co' = (((dOw D).length + 1 : Nat) : Int)
  omega
theorem ct_aSp {L : List Int} {x y w u : Int} {co cs ck cw ct cu cf cz cx cy cs' : Int} (e1 : cs' = cs + 1) (hC : ctP co cs ck cw ct cu cf cz cx cy D) : ctP co cs' ck cw ct cu cf cz cx cy (aSp D L x y w u) := by
  obtain ⟨h0, h1, h2, h3, h4, h5, h6, h7, h8, h9⟩ := hC
  refine ⟨h0, ?_, h2, h3, h4, h5, h6, h7, h8, h9⟩
  show cs' = (((dSt D ++ [_]).length : Nat) : Int)
  rw [List.length_append]
  show cs' = (((dSt D).length + 1 : Nat) : Int)
  omega
theorem ct_aKn {L : List Int} {co cs ck cw ct cu cf cz cx cy ck' : Int} (e1 : ck' = ck + 1) (hC : ctP co cs ck cw ct cu cf cz cx cy D) : ctP co cs ck' cw ct cu cf cz cx cy (aKn D L) := by
  obtain ⟨h0, h1, h2, h3, h4, h5, h6, h7, h8, h9⟩ := hC
  refine ⟨h0, h1, ?_, h3, h4, h5, h6, h7, h8, h9⟩
  show ck' = (((dKn D ++ [_]).length : Nat) : Int)
  rw [List.length_append]
  show ck' = (((dKn D).length + 1 : Nat) : Int)
  omega
theorem ct_aWi {x y : Int} {co cs ck cw ct cu cf cz cx cy cw' : Int} (e1 : cw' = cw + 1) (hC : ctP co cs ck cw ct cu cf cz cx cy D) : ctP co cs ck cw' ct cu cf cz cx cy (aWi D x y) := by
  obtain ⟨h0, h1, h2, h3, h4, h5, h6, h7, h8, h9⟩ := hC
  refine ⟨h0, h1, h2, ?_, h4, h5, h6, h7, h8, h9⟩
  show cw' = (((dWi D ++ [_]).length : Nat) : Int)
  rw [List.length_append]
  show cw' = (((dWi D).length + 1 : Nat) : Int)
  omega
theorem ct_aTr {x y : Int} {co cs ck cw ct cu cf cz cx cy ct' : Int} (e1 : ct' = ct + 1) (hC : ctP co cs ck cw ct cu cf cz cx cy D) : ctP co cs ck cw ct' cu cf cz cx cy (aTr D x y) := by
  obtain ⟨h0, h1, h2, h3, h4, h5, h6, h7, h8, h9⟩ := hC
  refine ⟨h0, h1, h2, h3, ?_, h5, h6, h7, h8, h9⟩
  show ct' = (((dTr D ++ [_]).length : Nat) : Int)
  rw [List.length_append]
  show ct' = (((dTr D).length + 1 : Nat) : Int)
  omega
theorem ct_aWa {x y : Int} {co cs ck cw ct cu cf cz cx cy cu' : Int} (e1 : cu' = cu + 1) (hC : ctP co cs ck cw ct cu cf cz cx cy D) : ctP co cs ck cw ct cu' cf cz cx cy (aWa D x y) := by
  obtain ⟨h0, h1, h2, h3, h4, h5, h6, h7, h8, h9⟩ := hC
  refine ⟨h0, h1, h2, h3, h4, ?_, h6, h7, h8, h9⟩
  show cu' = (((dWa D ++ [_]).length : Nat) : Int)
  rw [List.length_append]
  show cu' = (((dWa D).length + 1 : Nat) : Int)
  omega
theorem ct_aFi {x y w u : Int} {co cs ck cw ct cu cf cz cx cy cf' : Int} (e1 : cf' = cf + 1) (hC : ctP co cs ck cw ct cu cf cz cx cy D) : ctP co cs ck cw ct cu cf' cz cx cy (aFi D x y w u) := by
  obtain ⟨h0, h1, h2, h3, h4, h5, h6, h7, h8, h9⟩ := hC
  refine ⟨h0, h1, h2, h3, h4, h5, ?_, h7, h8, h9⟩
  show cf' = dFi D + 1
  omega
theorem ct_aSz {x y co cs ck cw ct cu cf cz cx cy : Int} (hC : ctP co cs ck cw ct cu cf cz cx cy D) : ctP co cs ck cw ct cu cf 1 x y (aSz D x y) := ⟨hC.1, hC.2.1, hC.2.2.1, hC.2.2.2.1, hC.2.2.2.2.1, hC.2.2.2.2.2.1, hC.2.2.2.2.2.2.1, rfl, rfl, rfl⟩
end Spec9
