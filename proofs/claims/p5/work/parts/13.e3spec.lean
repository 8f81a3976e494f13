section Spec3a
/-- where the machine is: place, control, lines; registers; what the lines said -/
abbrev pSt : Type := (Int × Int × Int) × (Int × Int × Int × Int × Int × Int) × pD
abbrev pO : Type := pSt ⊕ (Int × Int)
def go (q c l e f g h m n : Int) (D : pD) : pO := .inl ((q, c, l), (e, f, g, h, m, n), D)
def fl (k p : Int) : pO := .inr (k, p)
noncomputable def pNum (k v lo hi a : Int) (o : pO) : pO := pIf (k = 2) (pIf (lo ≤ v ∧ v ≤ hi) o (fl 2 a)) (fl 1 a)
noncomputable def pFre (D : pD) (L : List Int) (k v a : Int) (o : pO) : pO := pIf (k = 1 ∧ v = -1) (pIf (frs D L) o (fl 3 a)) (fl 1 a)
noncomputable def pOld (D : pD) (L : List Int) (k v a lo hi : Int) (o : Int → pO) : pO := pIf (k = 1 ∧ v = -1) (pIf (lo ≤ slF D L 12 ∧ slF D L 12 ≤ hi) (o (slF D L 12)) (fl 3 a)) (fl 1 a)
def szl (D : pD) : Prop := 1 ≤ dCz D ∨ 1 ≤ dFi D ∨ 1 ≤ (dSt D).length ∨ 1 ≤ (dTr D).length ∨ 1 ≤ (dWa D).length
noncomputable def pLn (l : Int) (D : pD) (a z v : Int) : pO := pIf (v = 0) (pIf (szl D) (fl 3 a) (go z 1 l 0 0 0 0 0 0 D)) (pIf (v = 1) (pIf (4 ≤ (dOw D).length) (fl 4 a) (go z 3 l 0 0 0 0 0 0 D)) (pIf (v = 2) (pIf (8 ≤ dFi D) (fl 4 a) (go z 4 l 0 0 0 0 0 0 D)) (pIf (v = 3) (pIf (3 ≤ (dSt D).length) (fl 4 a) (go z 9 l 0 0 0 0 0 0 D)) (pIf (v = 4) (pIf (5 ≤ (dKn D).length) (fl 4 a) (go z 14 l 0 0 0 0 0 0 D)) (pIf (v = 5) (pIf (14 ≤ (dTr D).length) (fl 4 a) (go z 18 l 0 0 0 0 0 0 D)) (pIf (v = 6) (pIf (10 ≤ (dWa D).length) (fl 4 a) (go z 21 l 0 0 0 0 0 0 D)) (pIf (v = 7) (pIf (8 ≤ (dWi D).length) (fl 4 a) (go z 23 l 0 0 0 0 0 0 D)) (fl 1 a))))))))
theorem pLn_0 (l : Int) (D : pD) (a z : Int) : pLn l D a z 0 = pIf (szl D) (fl 3 a) (go z 1 l 0 0 0 0 0 0 D) := by
  unfold pLn
  rw [pIf_t rfl]
theorem pLn_1 (l : Int) (D : pD) (a z : Int) : pLn l D a z 1 = pIf (4 ≤ (dOw D).length) (fl 4 a) (go z 3 l 0 0 0 0 0 0 D) := by
  unfold pLn
  rw [pIf_f (by decide), pIf_t rfl]
theorem pLn_2 (l : Int) (D : pD) (a z : Int) : pLn l D a z 2 = pIf (8 ≤ dFi D) (fl 4 a) (go z 4 l 0 0 0 0 0 0 D) := by
  unfold pLn
  rw [pIf_f (by decide), pIf_f (by decide), pIf_t rfl]
theorem pLn_3 (l : Int) (D : pD) (a z : Int) : pLn l D a z 3 = pIf (3 ≤ (dSt D).length) (fl 4 a) (go z 9 l 0 0 0 0 0 0 D) := by
  unfold pLn
  rw [pIf_f (by decide), pIf_f (by decide), pIf_f (by decide), pIf_t rfl]
theorem pLn_4 (l : Int) (D : pD) (a z : Int) : pLn l D a z 4 = pIf (5 ≤ (dKn D).length) (fl 4 a) (go z 14 l 0 0 0 0 0 0 D) := by
  unfold pLn
  rw [pIf_f (by decide), pIf_f (by decide), pIf_f (by decide), pIf_f (by decide), pIf_t rfl]
theorem pLn_5 (l : Int) (D : pD) (a z : Int) : pLn l D a z 5 = pIf (14 ≤ (dTr D).length) (fl 4 a) (go z 18 l 0 0 0 0 0 0 D) := by
  unfold pLn
  rw [pIf_f (by decide), pIf_f (by decide), pIf_f (by decide), pIf_f (by decide), pIf_f (by decide), pIf_t rfl]
theorem pLn_6 (l : Int) (D : pD) (a z : Int) : pLn l D a z 6 = pIf (10 ≤ (dWa D).length) (fl 4 a) (go z 21 l 0 0 0 0 0 0 D) := by
  unfold pLn
  rw [pIf_f (by decide), pIf_f (by decide), pIf_f (by decide), pIf_f (by decide), pIf_f (by decide), pIf_f (by decide), pIf_t rfl]
theorem pLn_7 (l : Int) (D : pD) (a z : Int) : pLn l D a z 7 = pIf (8 ≤ (dWi D).length) (fl 4 a) (go z 23 l 0 0 0 0 0 0 D) := by
  unfold pLn
  rw [pIf_f (by decide), pIf_f (by decide), pIf_f (by decide), pIf_f (by decide), pIf_f (by decide), pIf_f (by decide), pIf_f (by decide), pIf_t rfl]
noncomputable def pNx (b : Int → Int) (q c l e f g h m n : Int) (D : pD) (k a z v : Int) : pO := pIf (c = 17) (pIf (k = 1 ∧ v = 13) (go z 26 l 0 0 0 0 0 0 D) (go q 26 l e f g h m n D)) (pIf (k = 4) (fl 1 a) (pIf (c = 0) (pIf (k = 0) (fl 0 l) (pIf (k = 1 ∧ 0 ≤ v ∧ v ≤ 7) (pLn l D a z v) (fl 1 a))) (pIf (c = 1) (pNum k v (1) (10) a (go z 2 l v 0 0 0 0 0 D)) (pIf (c = 2) (pNum k v (1) (10) a (go z 26 (l + 1) 0 0 0 0 0 0 (aSz D e v))) (pIf (c = 3) (pFre D (bs b a z) k v a (go z 26 (l + 1) 0 0 0 0 0 0 (aOw D (bs b a z)))) (pIf (c = 4) (pOld D (bs b a z) k v a 0 3 (fun j => go z 5 l j 0 0 0 0 0 D)) (pIf (c = 5) (pNum k v (0) (dCx D - 1) a (go z 6 l e v 0 0 m n D)) (pIf (c = 6) (pNum k v (0) (dCy D - 1) a (go z 7 l e f v 0 m n D)) (pIf (c = 7) (pNum k v (1) (dCx D - f) a (go z 8 l e f g v m n D)) (pIf (c = 8) (pNum k v (1) (dCy D - g) a (pIf (anyT D f g h v) (fl 3 a) (pIf (e = -1) (go z 26 (l + 1) 0 0 0 0 0 0 (aSp D (bs b m n) f g h v)) (go z 26 (l + 1) 0 0 0 0 0 0 (aFi D f g h v))))) (pIf (c = 9) (pFre D (bs b a z) k v a (go z 5 l (-1) 0 0 0 a z D)) (pIf (c = 14) (pFre D (bs b a z) k v a (go z 15 l 0 0 0 0 a z D)) (pIf (c = 15) (pNum k v (1) (12) a (go z 16 l 0 0 0 0 m n D)) (pIf (c = 16) (pNum k v (1) (9) a (go z 17 (l + 1) 0 0 0 0 0 0 (aKn D (bs b m n)))) (pIf (c = 18) (pOld D (bs b a z) k v a 7 11 (fun j => go z 19 l (j - 7) 0 0 0 0 0 D)) (pIf (c = 19) (pNum k v (0) (dCx D - 1) a (go z 20 l e v 0 0 0 0 D)) (pIf (c = 20) (pNum k v (0) (dCy D - 1) a (pIf (fre D f v) (go z 26 (l + 1) 0 0 0 0 0 0 (aTr D f v)) (fl 3 a))) (pIf (c = 21) (pNum k v (0) (dCx D - 1) a (go z 22 l 0 v 0 0 0 0 D)) (pIf (c = 22) (pNum k v (0) (dCy D - 1) a (pIf (fre D f v) (go z 26 (l + 1) 0 0 0 0 0 0 (aWa D f v)) (fl 3 a))) (pIf (c = 23) (pIf (k = 1 ∧ 8 ≤ v ∧ v ≤ 12) (go z 24 l (v - 8) 0 0 0 0 0 D) (fl 1 a)) (pIf (c = 24) (pNum k v (1) (4) a (pIf ((e, v) ∈ dWi D) (fl 3 a) (go z 25 l e v 0 0 0 0 D))) (pIf (c = 25) (pNum k v (1) (9) a (go z 26 (l + 1) 0 0 0 0 0 0 (aWi D e f))) (pIf (c = 26) (pIf (k = 3 ∧ v = 59) (go z 0 l 0 0 0 0 0 0 D) (fl 1 a)) (fl 9 a))))))))))))))))))))))))
theorem nx0 {b : Int → Int} {q l e f g h m n : Int} {D : pD} {k a z v : Int} (h4 : k ≠ 4) : pNx b q 0 l e f g h m n D k a z v = pIf (k = 0) (fl 0 l) (pIf (k = 1 ∧ 0 ≤ v ∧ v ≤ 7) (pLn l D a z v) (fl 1 a)) := by
  unfold pNx
  rw [pIf_f (by decide), pIf_f h4, pIf_t rfl]
theorem nx1 {b : Int → Int} {q l e f g h m n : Int} {D : pD} {k a z v : Int} (h4 : k ≠ 4) : pNx b q 1 l e f g h m n D k a z v = pNum k v (1) (10) a (go z 2 l v 0 0 0 0 0 D) := by
  unfold pNx
  rw [pIf_f (by decide), pIf_f h4, pIf_f (by decide), pIf_t rfl]
theorem nx2 {b : Int → Int} {q l e f g h m n : Int} {D : pD} {k a z v : Int} (h4 : k ≠ 4) : pNx b q 2 l e f g h m n D k a z v = pNum k v (1) (10) a (go z 26 (l + 1) 0 0 0 0 0 0 (aSz D e v)) := by
  unfold pNx
  rw [pIf_f (by decide), pIf_f h4, pIf_f (by decide), pIf_f (by decide), pIf_t rfl]
theorem nx3 {b : Int → Int} {q l e f g h m n : Int} {D : pD} {k a z v : Int} (h4 : k ≠ 4) : pNx b q 3 l e f g h m n D k a z v = pFre D (bs b a z) k v a (go z 26 (l + 1) 0 0 0 0 0 0 (aOw D (bs b a z))) := by
  unfold pNx
  rw [pIf_f (by decide), pIf_f h4, pIf_f (by decide), pIf_f (by decide), pIf_f (by decide), pIf_t rfl]
theorem nx4 {b : Int → Int} {q l e f g h m n : Int} {D : pD} {k a z v : Int} (h4 : k ≠ 4) : pNx b q 4 l e f g h m n D k a z v = pOld D (bs b a z) k v a 0 3 (fun j => go z 5 l j 0 0 0 0 0 D) := by
  unfold pNx
  rw [pIf_f (by decide), pIf_f h4, pIf_f (by decide), pIf_f (by decide), pIf_f (by decide), pIf_f (by decide), pIf_t rfl]
theorem nx5 {b : Int → Int} {q l e f g h m n : Int} {D : pD} {k a z v : Int} (h4 : k ≠ 4) : pNx b q 5 l e f g h m n D k a z v = pNum k v (0) (dCx D - 1) a (go z 6 l e v 0 0 m n D) := by
  unfold pNx
  rw [pIf_f (by decide), pIf_f h4, pIf_f (by decide), pIf_f (by decide), pIf_f (by decide), pIf_f (by decide), pIf_f (by decide), pIf_t rfl]
theorem nx6 {b : Int → Int} {q l e f g h m n : Int} {D : pD} {k a z v : Int} (h4 : k ≠ 4) : pNx b q 6 l e f g h m n D k a z v = pNum k v (0) (dCy D - 1) a (go z 7 l e f v 0 m n D) := by
  unfold pNx
  rw [pIf_f (by decide), pIf_f h4, pIf_f (by decide), pIf_f (by decide), pIf_f (by decide), pIf_f (by decide), pIf_f (by decide), pIf_f (by decide), pIf_t rfl]
theorem nx7 {b : Int → Int} {q l e f g h m n : Int} {D : pD} {k a z v : Int} (h4 : k ≠ 4) : pNx b q 7 l e f g h m n D k a z v = pNum k v (1) (dCx D - f) a (go z 8 l e f g v m n D) := by
  unfold pNx
  rw [pIf_f (by decide), pIf_f h4, pIf_f (by decide), pIf_f (by decide), pIf_f (by decide), pIf_f (by decide), pIf_f (by decide), pIf_f (by decide), pIf_f (by decide), pIf_t rfl]
theorem nx8 {b : Int → Int} {q l e f g h m n : Int} {D : pD} {k a z v : Int} (h4 : k ≠ 4) : pNx b q 8 l e f g h m n D k a z v = pNum k v (1) (dCy D - g) a (pIf (anyT D f g h v) (fl 3 a) (pIf (e = -1) (go z 26 (l + 1) 0 0 0 0 0 0 (aSp D (bs b m n) f g h v)) (go z 26 (l + 1) 0 0 0 0 0 0 (aFi D f g h v)))) := by
  unfold pNx
  rw [pIf_f (by decide), pIf_f h4, pIf_f (by decide), pIf_f (by decide), pIf_f (by decide), pIf_f (by decide), pIf_f (by decide), pIf_f (by decide), pIf_f (by decide), pIf_f (by decide), pIf_t rfl]
theorem nx9 {b : Int → Int} {q l e f g h m n : Int} {D : pD} {k a z v : Int} (h4 : k ≠ 4) : pNx b q 9 l e f g h m n D k a z v = pFre D (bs b a z) k v a (go z 5 l (-1) 0 0 0 a z D) := by
  unfold pNx
  rw [pIf_f (by decide), pIf_f h4, pIf_f (by decide), pIf_f (by decide), pIf_f (by decide), pIf_f (by decide), pIf_f (by decide), pIf_f (by decide), pIf_f (by decide), pIf_f (by decide), pIf_f (by decide), pIf_t rfl]
theorem nx14 {b : Int → Int} {q l e f g h m n : Int} {D : pD} {k a z v : Int} (h4 : k ≠ 4) : pNx b q 14 l e f g h m n D k a z v = pFre D (bs b a z) k v a (go z 15 l 0 0 0 0 a z D) := by
  unfold pNx
  rw [pIf_f (by decide), pIf_f h4, pIf_f (by decide), pIf_f (by decide), pIf_f (by decide), pIf_f (by decide), pIf_f (by decide), pIf_f (by decide), pIf_f (by decide), pIf_f (by decide), pIf_f (by decide), pIf_f (by decide), pIf_t rfl]
theorem nx15 {b : Int → Int} {q l e f g h m n : Int} {D : pD} {k a z v : Int} (h4 : k ≠ 4) : pNx b q 15 l e f g h m n D k a z v = pNum k v (1) (12) a (go z 16 l 0 0 0 0 m n D) := by
  unfold pNx
  rw [pIf_f (by decide), pIf_f h4, pIf_f (by decide), pIf_f (by decide), pIf_f (by decide), pIf_f (by decide), pIf_f (by decide), pIf_f (by decide), pIf_f (by decide), pIf_f (by decide), pIf_f (by decide), pIf_f (by decide), pIf_f (by decide), pIf_t rfl]
theorem nx16 {b : Int → Int} {q l e f g h m n : Int} {D : pD} {k a z v : Int} (h4 : k ≠ 4) : pNx b q 16 l e f g h m n D k a z v = pNum k v (1) (9) a (go z 17 (l + 1) 0 0 0 0 0 0 (aKn D (bs b m n))) := by
  unfold pNx
  rw [pIf_f (by decide), pIf_f h4, pIf_f (by decide), pIf_f (by decide), pIf_f (by decide), pIf_f (by decide), pIf_f (by decide), pIf_f (by decide), pIf_f (by decide), pIf_f (by decide), pIf_f (by decide), pIf_f (by decide), pIf_f (by decide), pIf_f (by decide), pIf_t rfl]
theorem nx18 {b : Int → Int} {q l e f g h m n : Int} {D : pD} {k a z v : Int} (h4 : k ≠ 4) : pNx b q 18 l e f g h m n D k a z v = pOld D (bs b a z) k v a 7 11 (fun j => go z 19 l (j - 7) 0 0 0 0 0 D) := by
  unfold pNx
  rw [pIf_f (by decide), pIf_f h4, pIf_f (by decide), pIf_f (by decide), pIf_f (by decide), pIf_f (by decide), pIf_f (by decide), pIf_f (by decide), pIf_f (by decide), pIf_f (by decide), pIf_f (by decide), pIf_f (by decide), pIf_f (by decide), pIf_f (by decide), pIf_f (by decide), pIf_t rfl]
theorem nx19 {b : Int → Int} {q l e f g h m n : Int} {D : pD} {k a z v : Int} (h4 : k ≠ 4) : pNx b q 19 l e f g h m n D k a z v = pNum k v (0) (dCx D - 1) a (go z 20 l e v 0 0 0 0 D) := by
  unfold pNx
  rw [pIf_f (by decide), pIf_f h4, pIf_f (by decide), pIf_f (by decide), pIf_f (by decide), pIf_f (by decide), pIf_f (by decide), pIf_f (by decide), pIf_f (by decide), pIf_f (by decide), pIf_f (by decide), pIf_f (by decide), pIf_f (by decide), pIf_f (by decide), pIf_f (by decide), pIf_f (by decide), pIf_t rfl]
theorem nx20 {b : Int → Int} {q l e f g h m n : Int} {D : pD} {k a z v : Int} (h4 : k ≠ 4) : pNx b q 20 l e f g h m n D k a z v = pNum k v (0) (dCy D - 1) a (pIf (fre D f v) (go z 26 (l + 1) 0 0 0 0 0 0 (aTr D f v)) (fl 3 a)) := by
  unfold pNx
  rw [pIf_f (by decide), pIf_f h4, pIf_f (by decide), pIf_f (by decide), pIf_f (by decide), pIf_f (by decide), pIf_f (by decide), pIf_f (by decide), pIf_f (by decide), pIf_f (by decide), pIf_f (by decide), pIf_f (by decide), pIf_f (by decide), pIf_f (by decide), pIf_f (by decide), pIf_f (by decide), pIf_f (by decide), pIf_t rfl]
theorem nx21 {b : Int → Int} {q l e f g h m n : Int} {D : pD} {k a z v : Int} (h4 : k ≠ 4) : pNx b q 21 l e f g h m n D k a z v = pNum k v (0) (dCx D - 1) a (go z 22 l 0 v 0 0 0 0 D) := by
  unfold pNx
  rw [pIf_f (by decide), pIf_f h4, pIf_f (by decide), pIf_f (by decide), pIf_f (by decide), pIf_f (by decide), pIf_f (by decide), pIf_f (by decide), pIf_f (by decide), pIf_f (by decide), pIf_f (by decide), pIf_f (by decide), pIf_f (by decide), pIf_f (by decide), pIf_f (by decide), pIf_f (by decide), pIf_f (by decide), pIf_f (by decide), pIf_t rfl]
theorem nx22 {b : Int → Int} {q l e f g h m n : Int} {D : pD} {k a z v : Int} (h4 : k ≠ 4) : pNx b q 22 l e f g h m n D k a z v = pNum k v (0) (dCy D - 1) a (pIf (fre D f v) (go z 26 (l + 1) 0 0 0 0 0 0 (aWa D f v)) (fl 3 a)) := by
  unfold pNx
  rw [pIf_f (by decide), pIf_f h4, pIf_f (by decide), pIf_f (by decide), pIf_f (by decide), pIf_f (by decide), pIf_f (by decide), pIf_f (by decide), pIf_f (by decide), pIf_f (by decide), pIf_f (by decide), pIf_f (by decide), pIf_f (by decide), pIf_f (by decide), pIf_f (by decide), pIf_f (by decide), pIf_f (by decide), pIf_f (by decide), pIf_f (by decide), pIf_t rfl]
theorem nx23 {b : Int → Int} {q l e f g h m n : Int} {D : pD} {k a z v : Int} (h4 : k ≠ 4) : pNx b q 23 l e f g h m n D k a z v = pIf (k = 1 ∧ 8 ≤ v ∧ v ≤ 12) (go z 24 l (v - 8) 0 0 0 0 0 D) (fl 1 a) := by
  unfold pNx
  rw [pIf_f (by decide), pIf_f h4, pIf_f (by decide), pIf_f (by decide), pIf_f (by decide), pIf_f (by decide), pIf_f (by decide), pIf_f (by decide), pIf_f (by decide), pIf_f (by decide), pIf_f (by decide), pIf_f (by decide), pIf_f (by decide), pIf_f (by decide), pIf_f (by decide), pIf_f (by decide), pIf_f (by decide), pIf_f (by decide), pIf_f (by decide), pIf_f (by decide), pIf_t rfl]
theorem nx24 {b : Int → Int} {q l e f g h m n : Int} {D : pD} {k a z v : Int} (h4 : k ≠ 4) : pNx b q 24 l e f g h m n D k a z v = pNum k v (1) (4) a (pIf ((e, v) ∈ dWi D) (fl 3 a) (go z 25 l e v 0 0 0 0 D)) := by
  unfold pNx
  rw [pIf_f (by decide), pIf_f h4, pIf_f (by decide), pIf_f (by decide), pIf_f (by decide), pIf_f (by decide), pIf_f (by decide), pIf_f (by decide), pIf_f (by decide), pIf_f (by decide), pIf_f (by decide), pIf_f (by decide), pIf_f (by decide), pIf_f (by decide), pIf_f (by decide), pIf_f (by decide), pIf_f (by decide), pIf_f (by decide), pIf_f (by decide), pIf_f (by decide), pIf_f (by decide), pIf_t rfl]
theorem nx25 {b : Int → Int} {q l e f g h m n : Int} {D : pD} {k a z v : Int} (h4 : k ≠ 4) : pNx b q 25 l e f g h m n D k a z v = pNum k v (1) (9) a (go z 26 (l + 1) 0 0 0 0 0 0 (aWi D e f)) := by
  unfold pNx
  rw [pIf_f (by decide), pIf_f h4, pIf_f (by decide), pIf_f (by decide), pIf_f (by decide), pIf_f (by decide), pIf_f (by decide), pIf_f (by decide), pIf_f (by decide), pIf_f (by decide), pIf_f (by decide), pIf_f (by decide), pIf_f (by decide), pIf_f (by decide), pIf_f (by decide), pIf_f (by decide), pIf_f (by decide), pIf_f (by decide), pIf_f (by decide), pIf_f (by decide), pIf_f (by decide), pIf_f (by decide), pIf_t rfl]
theorem nx26 {b : Int → Int} {q l e f g h m n : Int} {D : pD} {k a z v : Int} (h4 : k ≠ 4) : pNx b q 26 l e f g h m n D k a z v = pIf (k = 3 ∧ v = 59) (go z 0 l 0 0 0 0 0 0 D) (fl 1 a) := by
  unfold pNx
  rw [pIf_f (by decide), pIf_f h4, pIf_f (by decide), pIf_f (by decide), pIf_f (by decide), pIf_f (by decide), pIf_f (by decide), pIf_f (by decide), pIf_f (by decide), pIf_f (by decide), pIf_f (by decide), pIf_f (by decide), pIf_f (by decide), pIf_f (by decide), pIf_f (by decide), pIf_f (by decide), pIf_f (by decide), pIf_f (by decide), pIf_f (by decide), pIf_f (by decide), pIf_f (by decide), pIf_f (by decide), pIf_f (by decide), pIf_t rfl]
theorem nx17 {b : Int → Int} {q l e f g h m n : Int} {D : pD} {k a z v : Int} : pNx b q 17 l e f g h m n D k a z v = pIf (k = 1 ∧ v = 13) (go z 26 l 0 0 0 0 0 0 D) (go q 26 l e f g h m n D) := by
  unfold pNx
  rw [pIf_t rfl]
theorem nxF {b : Int → Int} {q c l e f g h m n : Int} {D : pD} {a z v : Int} (hc : c ≠ 17) : pNx b q c l e f g h m n D 4 a z v = fl 1 a := by
  unfold pNx
  rw [pIf_f hc, pIf_t rfl]
theorem nxO {b : Int → Int} {q c l e f g h m n : Int} {D : pD} {k a z v : Int} (hk : k ≠ 4) (hc : ¬ (c = 0 ∨ c = 1 ∨ c = 2 ∨ c = 3 ∨ c = 4 ∨ c = 5 ∨ c = 6 ∨ c = 7 ∨ c = 8 ∨ c = 9 ∨ c = 14 ∨ c = 15 ∨ c = 16 ∨ c = 18 ∨ c = 19 ∨ c = 20 ∨ c = 21 ∨ c = 22 ∨ c = 23 ∨ c = 24 ∨ c = 25 ∨ c = 26)) (h17 : c ≠ 17) : pNx b q c l e f g h m n D k a z v = fl 9 a := by
  unfold pNx
  rw [pIf_f h17, pIf_f hk, pIf_f (by omega), pIf_f (by omega), pIf_f (by omega), pIf_f (by omega), pIf_f (by omega), pIf_f (by omega), pIf_f (by omega), pIf_f (by omega), pIf_f (by omega), pIf_f (by omega), pIf_f (by omega), pIf_f (by omega), pIf_f (by omega), pIf_f (by omega), pIf_f (by omega), pIf_f (by omega), pIf_f (by omega), pIf_f (by omega), pIf_f (by omega), pIf_f (by omega), pIf_f (by omega), pIf_f (by omega)]
end Spec3a
