section CkFact9z
variable {T : pT} {q c l e f g h m n k a z v x y w u i p lo hi : Int} {D D' : pD} {s : pSt}
/-- areas lie in the parish -/
def arI (D : pD) : Prop := ∀ t ∈ dAr D, 0 ≤ t.1 ∧ t.1 + t.2.2.1 ≤ 10 ∧ 0 ≤ t.2.1 ∧ t.2.1 + t.2.2.2 ≤ 10
def rgI (c f g h : Int) (D : pD) : Prop := (c = 6 → 0 ≤ f ∧ f ≤ dCx D - 1) ∧ (c = 7 → (0 ≤ f ∧ f ≤ dCx D - 1) ∧ 0 ≤ g ∧ g ≤ dCy D - 1) ∧ (c = 8 → (0 ≤ f ∧ f ≤ dCx D - 1) ∧ (0 ≤ g ∧ g ≤ dCy D - 1) ∧ 1 ≤ h ∧ h ≤ dCx D - f)
def raI (s : pSt) : Prop := arI s.2.2 ∧ rgI s.1.2.1 s.2.1.2.1 s.2.1.2.2.1 s.2.1.2.2.2.1 s.2.2
theorem rg_n (h6 : c ≠ 6) (h7 : c ≠ 7) (h8 : c ≠ 8) : rgI c f g h D := ⟨fun w => absurd w h6, fun w => absurd w h7, fun w => absurd w h8⟩
theorem ra_go {q' c' l' e' f' g' h' m' n' : Int} (hA : arI D') (hR : rgI c' f' g' h' D') (hs : s = ((q', c', l'), (e', f', g', h', m', n'), D')) : raI s := by
  subst hs
  exact ⟨hA, hR⟩
theorem ar_c {D' : pD} (hA : arI D) (h1 : 0 ≤ x ∧ x + w ≤ 10 ∧ 0 ≤ y ∧ y + u ≤ 10) (e1 : dAr D' = (x, y, w, u) :: dAr D) : arI D' := by
  intro t ht
  rw [e1] at ht
  rcases List.mem_cons.1 ht with r | r
  · subst r; exact h1
  · exact hA t r
theorem rak0 (hI : dI D) (hA : arI D) (hR : rgI 0 f g h D) (h4 : k ≠ 4) (hx : pNx T.1 q 0 l e f g h m n D k a z v = .inl s) : raI s := by
  rw [nx0 h4] at hx
  rcases pIf_i hx with ⟨-, hx⟩ | ⟨-, hx⟩
  · exact fl_i hx
  · rcases pIf_i hx with ⟨⟨-, v1, v2⟩, hx⟩ | ⟨-, hx⟩
    · rcases (show v = 0 ∨ v = 1 ∨ v = 2 ∨ v = 3 ∨ v = 4 ∨ v = 5 ∨ v = 6 ∨ v = 7 by omega) with rfl | rfl | rfl | rfl | rfl | rfl | rfl | rfl
      · rw [pLn_0] at hx
        rcases pIf_i hx with ⟨-, hx⟩ | ⟨-, hx⟩
        · exact fl_i hx
        · exact ra_go hA (rg_n (by decide) (by decide) (by decide)) (go_i hx)
      · rw [pLn_1] at hx
        rcases pIf_i hx with ⟨-, hx⟩ | ⟨-, hx⟩
        · exact fl_i hx
        · exact ra_go hA (rg_n (by decide) (by decide) (by decide)) (go_i hx)
      · rw [pLn_2] at hx
        rcases pIf_i hx with ⟨-, hx⟩ | ⟨-, hx⟩
        · exact fl_i hx
        · exact ra_go hA (rg_n (by decide) (by decide) (by decide)) (go_i hx)
      · rw [pLn_3] at hx
        rcases pIf_i hx with ⟨-, hx⟩ | ⟨-, hx⟩
        · exact fl_i hx
        · exact ra_go hA (rg_n (by decide) (by decide) (by decide)) (go_i hx)
      · rw [pLn_4] at hx
        rcases pIf_i hx with ⟨-, hx⟩ | ⟨-, hx⟩
        · exact fl_i hx
        · exact ra_go hA (rg_n (by decide) (by decide) (by decide)) (go_i hx)
      · rw [pLn_5] at hx
        rcases pIf_i hx with ⟨-, hx⟩ | ⟨-, hx⟩
        · exact fl_i hx
        · exact ra_go hA (rg_n (by decide) (by decide) (by decide)) (go_i hx)
      · rw [pLn_6] at hx
        rcases pIf_i hx with ⟨-, hx⟩ | ⟨-, hx⟩
        · exact fl_i hx
        · exact ra_go hA (rg_n (by decide) (by decide) (by decide)) (go_i hx)
      · rw [pLn_7] at hx
        rcases pIf_i hx with ⟨-, hx⟩ | ⟨-, hx⟩
        · exact fl_i hx
        · exact ra_go hA (rg_n (by decide) (by decide) (by decide)) (go_i hx)
    · exact fl_i hx
theorem rak1 (hI : dI D) (hA : arI D) (hR : rgI 1 f g h D) (h4 : k ≠ 4) (hx : pNx T.1 q 1 l e f g h m n D k a z v = .inl s) : raI s := by
  rw [nx1 h4] at hx
  obtain ⟨k2, v1, v2, hx⟩ := pNum_i hx
  exact ra_go hA (rg_n (by decide) (by decide) (by decide)) (go_i hx)
theorem rak2 (hI : dI D) (hA : arI D) (hR : rgI 2 f g h D) (h4 : k ≠ 4) (hx : pNx T.1 q 2 l e f g h m n D k a z v = .inl s) : raI s := by
  rw [nx2 h4] at hx
  obtain ⟨k2, v1, v2, hx⟩ := pNum_i hx
  exact ra_go (show arI (aSz D e v) from hA) (rg_n (by decide) (by decide) (by decide)) (go_i hx)
theorem rak3 (hI : dI D) (hA : arI D) (hR : rgI 3 f g h D) (h4 : k ≠ 4) (hx : pNx T.1 q 3 l e f g h m n D k a z v = .inl s) : raI s := by
  rw [nx3 h4] at hx
  obtain ⟨-, hf, hx⟩ := pFre_i hx
  exact ra_go (show arI (aOw D (bs T.1 a z)) from hA) (rg_n (by decide) (by decide) (by decide)) (go_i hx)
theorem rak4 (hI : dI D) (hA : arI D) (hR : rgI 4 f g h D) (h4 : k ≠ 4) (hx : pNx T.1 q 4 l e f g h m n D k a z v = .inl s) : raI s := by
  rw [nx4 h4] at hx
  obtain ⟨-, -, hx⟩ := pOld_i hx
  exact ra_go hA (rg_n (by decide) (by decide) (by decide)) (go_i hx)
theorem rak5 (hI : dI D) (hA : arI D) (hR : rgI 5 f g h D) (h4 : k ≠ 4) (hx : pNx T.1 q 5 l e f g h m n D k a z v = .inl s) : raI s := by
  rw [nx5 h4] at hx
  obtain ⟨k2, v1, v2, hx⟩ := pNum_i hx
  exact ra_go hA ⟨fun _ => ⟨v1, v2⟩, fun w => absurd w (by decide), fun w => absurd w (by decide)⟩ (go_i hx)
theorem rak6 (hI : dI D) (hA : arI D) (hR : rgI 6 f g h D) (h4 : k ≠ 4) (hx : pNx T.1 q 6 l e f g h m n D k a z v = .inl s) : raI s := by
  rw [nx6 h4] at hx
  obtain ⟨k2, v1, v2, hx⟩ := pNum_i hx
  exact ra_go hA ⟨fun w => absurd w (by decide), fun _ => ⟨hR.1 rfl, v1, v2⟩, fun w => absurd w (by decide)⟩ (go_i hx)
theorem rak7 (hI : dI D) (hA : arI D) (hR : rgI 7 f g h D) (h4 : k ≠ 4) (hx : pNx T.1 q 7 l e f g h m n D k a z v = .inl s) : raI s := by
  rw [nx7 h4] at hx
  obtain ⟨k2, v1, v2, hx⟩ := pNum_i hx
  exact ra_go hA ⟨fun w => absurd w (by decide), fun w => absurd w (by decide), fun _ => ⟨(hR.2.1 rfl).1, (hR.2.1 rfl).2, v1, v2⟩⟩ (go_i hx)
theorem rak8 (hI : dI D) (hA : arI D) (hR : rgI 8 f g h D) (h4 : k ≠ 4) (hx : pNx T.1 q 8 l e f g h m n D k a z v = .inl s) : raI s := by
  rw [nx8 h4] at hx
  obtain ⟨k2, v1, v2, hx⟩ := pNum_i hx
  obtain ⟨⟨f1, f2⟩, ⟨g1, g2⟩, h1, h2⟩ := hR.2.2 rfl
  have d1 := hI.2.1
  rcases pIf_i hx with ⟨-, hx⟩ | ⟨-, hx⟩
  · exact fl_i hx
  · rcases pIf_i hx with ⟨e1, hx⟩ | ⟨e1, hx⟩
    · exact ra_go (ar_c (x := f) (y := g) (w := h) (u := v) hA ⟨by omega, by omega, by omega, by omega⟩ rfl) (rg_n (by decide) (by decide) (by decide)) (go_i hx)
    · exact ra_go (ar_c (x := f) (y := g) (w := h) (u := v) hA ⟨by omega, by omega, by omega, by omega⟩ rfl) (rg_n (by decide) (by decide) (by decide)) (go_i hx)
theorem rak9 (hI : dI D) (hA : arI D) (hR : rgI 9 f g h D) (h4 : k ≠ 4) (hx : pNx T.1 q 9 l e f g h m n D k a z v = .inl s) : raI s := by
  rw [nx9 h4] at hx
  obtain ⟨-, hf, hx⟩ := pFre_i hx
  exact ra_go hA (rg_n (by decide) (by decide) (by decide)) (go_i hx)
theorem rak14 (hI : dI D) (hA : arI D) (hR : rgI 14 f g h D) (h4 : k ≠ 4) (hx : pNx T.1 q 14 l e f g h m n D k a z v = .inl s) : raI s := by
  rw [nx14 h4] at hx
  obtain ⟨-, hf, hx⟩ := pFre_i hx
  exact ra_go hA (rg_n (by decide) (by decide) (by decide)) (go_i hx)
theorem rak15 (hI : dI D) (hA : arI D) (hR : rgI 15 f g h D) (h4 : k ≠ 4) (hx : pNx T.1 q 15 l e f g h m n D k a z v = .inl s) : raI s := by
  rw [nx15 h4] at hx
  obtain ⟨k2, v1, v2, hx⟩ := pNum_i hx
  exact ra_go hA (rg_n (by decide) (by decide) (by decide)) (go_i hx)
theorem rak16 (hI : dI D) (hA : arI D) (hR : rgI 16 f g h D) (h4 : k ≠ 4) (hx : pNx T.1 q 16 l e f g h m n D k a z v = .inl s) : raI s := by
  rw [nx16 h4] at hx
  obtain ⟨k2, v1, v2, hx⟩ := pNum_i hx
  exact ra_go (show arI (aKn D (bs T.1 m n)) from hA) (rg_n (by decide) (by decide) (by decide)) (go_i hx)
theorem rak18 (hI : dI D) (hA : arI D) (hR : rgI 18 f g h D) (h4 : k ≠ 4) (hx : pNx T.1 q 18 l e f g h m n D k a z v = .inl s) : raI s := by
  rw [nx18 h4] at hx
  obtain ⟨-, -, hx⟩ := pOld_i hx
  exact ra_go hA (rg_n (by decide) (by decide) (by decide)) (go_i hx)
theorem rak19 (hI : dI D) (hA : arI D) (hR : rgI 19 f g h D) (h4 : k ≠ 4) (hx : pNx T.1 q 19 l e f g h m n D k a z v = .inl s) : raI s := by
  rw [nx19 h4] at hx
  obtain ⟨k2, v1, v2, hx⟩ := pNum_i hx
  exact ra_go hA (rg_n (by decide) (by decide) (by decide)) (go_i hx)
theorem rak20 (hI : dI D) (hA : arI D) (hR : rgI 20 f g h D) (h4 : k ≠ 4) (hx : pNx T.1 q 20 l e f g h m n D k a z v = .inl s) : raI s := by
  rw [nx20 h4] at hx
  obtain ⟨k2, v1, v2, hx⟩ := pNum_i hx
  rcases pIf_i hx with ⟨-, hx⟩ | ⟨-, hx⟩
  · exact ra_go (show arI (aTr D f v) from hA) (rg_n (by decide) (by decide) (by decide)) (go_i hx)
  · exact fl_i hx
theorem rak21 (hI : dI D) (hA : arI D) (hR : rgI 21 f g h D) (h4 : k ≠ 4) (hx : pNx T.1 q 21 l e f g h m n D k a z v = .inl s) : raI s := by
  rw [nx21 h4] at hx
  obtain ⟨k2, v1, v2, hx⟩ := pNum_i hx
  exact ra_go hA (rg_n (by decide) (by decide) (by decide)) (go_i hx)
theorem rak22 (hI : dI D) (hA : arI D) (hR : rgI 22 f g h D) (h4 : k ≠ 4) (hx : pNx T.1 q 22 l e f g h m n D k a z v = .inl s) : raI s := by
  rw [nx22 h4] at hx
  obtain ⟨k2, v1, v2, hx⟩ := pNum_i hx
  rcases pIf_i hx with ⟨-, hx⟩ | ⟨-, hx⟩
  · exact ra_go (show arI (aWa D f v) from hA) (rg_n (by decide) (by decide) (by decide)) (go_i hx)
  · exact fl_i hx
theorem rak23 (hI : dI D) (hA : arI D) (hR : rgI 23 f g h D) (h4 : k ≠ 4) (hx : pNx T.1 q 23 l e f g h m n D k a z v = .inl s) : raI s := by
  rw [nx23 h4] at hx
  rcases pIf_i hx with ⟨-, hx⟩ | ⟨-, hx⟩
  · exact ra_go hA (rg_n (by decide) (by decide) (by decide)) (go_i hx)
  · exact fl_i hx
theorem rak24 (hI : dI D) (hA : arI D) (hR : rgI 24 f g h D) (h4 : k ≠ 4) (hx : pNx T.1 q 24 l e f g h m n D k a z v = .inl s) : raI s := by
  rw [nx24 h4] at hx
  obtain ⟨k2, v1, v2, hx⟩ := pNum_i hx
  rcases pIf_i hx with ⟨-, hx⟩ | ⟨-, hx⟩
  · exact fl_i hx
  · exact ra_go hA (rg_n (by decide) (by decide) (by decide)) (go_i hx)
theorem rak25 (hI : dI D) (hA : arI D) (hR : rgI 25 f g h D) (h4 : k ≠ 4) (hx : pNx T.1 q 25 l e f g h m n D k a z v = .inl s) : raI s := by
  rw [nx25 h4] at hx
  obtain ⟨k2, v1, v2, hx⟩ := pNum_i hx
  exact ra_go (show arI (aWi D e f) from hA) (rg_n (by decide) (by decide) (by decide)) (go_i hx)
theorem rak26 (hI : dI D) (hA : arI D) (hR : rgI 26 f g h D) (h4 : k ≠ 4) (hx : pNx T.1 q 26 l e f g h m n D k a z v = .inl s) : raI s := by
  rw [nx26 h4] at hx
  rcases pIf_i hx with ⟨-, hx⟩ | ⟨-, hx⟩
  · exact ra_go hA (rg_n (by decide) (by decide) (by decide)) (go_i hx)
  · exact fl_i hx
theorem ra_nx (hI : dI D) (hA : arI D) (hR : rgI c f g h D) (hx : pNx T.1 q c l e f g h m n D k a z v = .inl s) : raI s := by
  by_cases h17 : c = 17
  · subst h17
    rw [nx17] at hx
    rcases pIf_i hx with ⟨-, hx⟩ | ⟨-, hx⟩
    · exact ra_go hA (rg_n (by decide) (by decide) (by decide)) (go_i hx)
    · exact ra_go hA (rg_n (by decide) (by decide) (by decide)) (go_i hx)
  · by_cases h4 : k = 4
    · subst h4
      rw [nxF h17] at hx
      exact fl_i hx
    · by_cases hcs : c = 0 ∨ c = 1 ∨ c = 2 ∨ c = 3 ∨ c = 4 ∨ c = 5 ∨ c = 6 ∨ c = 7 ∨ c = 8 ∨ c = 9 ∨ c = 14 ∨ c = 15 ∨ c = 16 ∨ c = 18 ∨ c = 19 ∨ c = 20 ∨ c = 21 ∨ c = 22 ∨ c = 23 ∨ c = 24 ∨ c = 25 ∨ c = 26
      · rcases hcs with rfl | rfl | rfl | rfl | rfl | rfl | rfl | rfl | rfl | rfl | rfl | rfl | rfl | rfl | rfl | rfl | rfl | rfl | rfl | rfl | rfl | rfl
        · exact rak0 hI hA hR h4 hx
        · exact rak1 hI hA hR h4 hx
        · exact rak2 hI hA hR h4 hx
        · exact rak3 hI hA hR h4 hx
        · exact rak4 hI hA hR h4 hx
        · exact rak5 hI hA hR h4 hx
        · exact rak6 hI hA hR h4 hx
        · exact rak7 hI hA hR h4 hx
        · exact rak8 hI hA hR h4 hx
        · exact rak9 hI hA hR h4 hx
        · exact rak14 hI hA hR h4 hx
        · exact rak15 hI hA hR h4 hx
        · exact rak16 hI hA hR h4 hx
        · exact rak18 hI hA hR h4 hx
        · exact rak19 hI hA hR h4 hx
        · exact rak20 hI hA hR h4 hx
        · exact rak21 hI hA hR h4 hx
        · exact rak22 hI hA hR h4 hx
        · exact rak23 hI hA hR h4 hx
        · exact rak24 hI hA hR h4 hx
        · exact rak25 hI hA hR h4 hx
        · exact rak26 hI hA hR h4 hx
      · rw [nxO h4 hcs h17] at hx
        exact fl_i hx
theorem Run_ra (hn : 0 ≤ T.2.1) (hl : 0 ≤ T.2.2) : ∀ {i : Nat} {s : pSt}, Run T i (.inl s) → raI s := by
  intro i
  induction i with
  | zero =>
    intro s hr
    have e : s = ((0, 0, 0), (0, 0, 0, 0, 0, 0), d0) := Sum.inl.inj (show (Sum.inl s : pO) = _ from hr)
    rw [e]
    exact ⟨(fun t ht => by cases ht), rg_n (by decide) (by decide) (by decide)⟩
  | succ i ih =>
    intro s hr
    obtain ⟨s0, h1, k, a, z, v, h2, h3⟩ := hr
    have hI := Run_sI hn hl h1
    have hA := ih h1
    exact ra_nx hI.2 hA.1 hA.2 (show pNs T.1 s0 k a z v = .inl s from h3.symm)
theorem dat_ar (hT : tOk T) (h : dat T l D) : arI D := by
  obtain ⟨s, ⟨i, h1⟩, -, rfl⟩ := h
  exact (Run_ra hT.1 hT.2.2.1 h1).1
theorem dF_ar {P : pD → Prop} (hT : tOk T) (hF : dF T l P) : dF T l (fun D => arI D ∧ P D) := by
  obtain ⟨D, h1, h2⟩ := hF
  exact ⟨D, h1, dat_ar hT h1, h2⟩
theorem tkn_in (hA : arI D) (ht : tkn D x y) : 0 ≤ x ∧ x ≤ 9 ∧ 0 ≤ y ∧ y ≤ 9 := by
  obtain ⟨t, t1, t2, t3, t4, t5⟩ := ht
  have := hA t t1
  omega
theorem scn_e2 {s' : Int} (hA : arI D) (hS : scN D s' x y w h) (e1 : s' = x + 10 * u) (hu : y + h ≤ u) (h0 : 0 ≤ x) : ¬ anyT D x y w h := by
  rintro ⟨x', y', h1, h2, h3, h4, h5⟩
  obtain ⟨i1, i2, i3, i4⟩ := tkn_in hA h5
  have e : ((10 * y' + x').toNat : Int) = 10 * y' + x' := by omega
  refine hS (10 * y' + x').toNat (by omega) (by omega) ?_ ?_
  · unfold inR
    omega
  · unfold tkI
    rw [e, show (10 * y' + x') % 10 = x' by omega, show (10 * y' + x') / 10 = y' by omega]
    exact h5
theorem nC1 (hc : c = 1) (h1 : lo = 1) (h2 : hi = 10) : numC c f g D lo hi := Or.inl ⟨hc, h1, h2⟩
theorem nC2 (hc : c = 2) (h1 : lo = 1) (h2 : hi = 10) : numC c f g D lo hi := Or.inr (Or.inl ⟨hc, h1, h2⟩)
theorem nC5 (hc : c = 5) (h1 : lo = 0) (h2 : hi = dCx D - 1) : numC c f g D lo hi := Or.inr (Or.inr (Or.inl ⟨hc, h1, h2⟩))
theorem nC6 (hc : c = 6) (h1 : lo = 0) (h2 : hi = dCy D - 1) : numC c f g D lo hi := Or.inr (Or.inr (Or.inr (Or.inl ⟨hc, h1, h2⟩)))
theorem nC7 (hc : c = 7) (h1 : lo = 1) (h2 : hi = dCx D - f) : numC c f g D lo hi := Or.inr (Or.inr (Or.inr (Or.inr (Or.inl ⟨hc, h1, h2⟩))))
theorem nC8 (hc : c = 8) (h1 : lo = 1) (h2 : hi = dCy D - g) : numC c f g D lo hi := Or.inr (Or.inr (Or.inr (Or.inr (Or.inr (Or.inl ⟨hc, h1, h2⟩)))))
theorem nC15 (hc : c = 15) (h1 : lo = 1) (h2 : hi = 12) : numC c f g D lo hi := Or.inr (Or.inr (Or.inr (Or.inr (Or.inr (Or.inr (Or.inl ⟨hc, h1, h2⟩))))))
theorem nC16 (hc : c = 16) (h1 : lo = 1) (h2 : hi = 9) : numC c f g D lo hi := Or.inr (Or.inr (Or.inr (Or.inr (Or.inr (Or.inr (Or.inr (Or.inl ⟨hc, h1, h2⟩)))))))
theorem nC19 (hc : c = 19) (h1 : lo = 0) (h2 : hi = dCx D - 1) : numC c f g D lo hi := Or.inr (Or.inr (Or.inr (Or.inr (Or.inr (Or.inr (Or.inr (Or.inr (Or.inl ⟨hc, h1, h2⟩))))))))
theorem nC20 (hc : c = 20) (h1 : lo = 0) (h2 : hi = dCy D - 1) : numC c f g D lo hi := Or.inr (Or.inr (Or.inr (Or.inr (Or.inr (Or.inr (Or.inr (Or.inr (Or.inr (Or.inl ⟨hc, h1, h2⟩)))))))))
theorem nC21 (hc : c = 21) (h1 : lo = 0) (h2 : hi = dCx D - 1) : numC c f g D lo hi := Or.inr (Or.inr (Or.inr (Or.inr (Or.inr (Or.inr (Or.inr (Or.inr (Or.inr (Or.inr (Or.inl ⟨hc, h1, h2⟩))))))))))
theorem nC22 (hc : c = 22) (h1 : lo = 0) (h2 : hi = dCy D - 1) : numC c f g D lo hi := Or.inr (Or.inr (Or.inr (Or.inr (Or.inr (Or.inr (Or.inr (Or.inr (Or.inr (Or.inr (Or.inr (Or.inl ⟨hc, h1, h2⟩)))))))))))
theorem nC24 (hc : c = 24) (h1 : lo = 1) (h2 : hi = 4) : numC c f g D lo hi := Or.inr (Or.inr (Or.inr (Or.inr (Or.inr (Or.inr (Or.inr (Or.inr (Or.inr (Or.inr (Or.inr (Or.inr (Or.inl ⟨hc, h1, h2⟩))))))))))))
theorem nC25 (hc : c = 25) (h1 : lo = 1) (h2 : hi = 9) : numC c f g D lo hi := Or.inr (Or.inr (Or.inr (Or.inr (Or.inr (Or.inr (Or.inr (Or.inr (Or.inr (Or.inr (Or.inr (Or.inr (Or.inr (⟨hc, h1, h2⟩)))))))))))))
end CkFact9z
