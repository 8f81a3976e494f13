section Spec6
variable {T : pT} {q c l e f g h m n k a z v : Int} {D : pD} {s : pSt}
/-- how far a step goes -/
theorem nx_26 {D' : pD} {c0 : Int} (hD : dI D') (hz : 0 ≤ z ∧ z ≤ T.2.1 ∧ q < z ∧ 0 ≤ l ∧ 2 * (l + 1) ≤ z) (hs : s = ((z, 26, l + 1), (0, 0, 0, 0, 0, 0), D')) : nxR T q c0 l D s := by
  subst hs
  exact ⟨⟨c26 ⟨hz.1, hz.2.1, by omega, hz.2.2.2.2⟩, hD⟩, Or.inl hz.2.2.1, Or.inr rfl⟩
theorem nx_go {c' e' f' g' h' m' n' c0 : Int} (hD : dI D) (hC : cI4 T z c' l e' f' g' h' m' n' D) (hz : q < z) (hs : s = ((z, c', l), (e', f', g', h', m', n'), D)) : nxR T q c0 l D s := by
  subst hs
  exact ⟨⟨hC, hD⟩, Or.inl hz, Or.inl ⟨rfl, rfl⟩⟩
theorem nx_ok (hC : cI4 T q c l e f g h m n D) (hD : dI D) (ht : TK T q k a z v) (hl : 0 ≤ T.2.2) (hx : pNx T.1 q c l e f g h m n D k a z v = .inl s) : nxR T q c l D s := by
  obtain ⟨⟨i1, i2, i3, i4, i5, i6, i7⟩, ⟨r1, r2, r3, r4, r5, r6, r7, r8, r9, r10, r11, r12⟩, j3, j4, j5, j9, j14, j15, j18, j21, j23, j2⟩ := hC
  have bd := TK_bd ht i3 hl i4
  by_cases h17 : c = 17
  · subst h17
    rw [nx17] at hx
    rcases pIf_i hx with ⟨⟨k1, v1⟩, hx⟩ | ⟨-, hx⟩
    · have b := bd.2.2.2.2 (by omega)
      obtain ⟨b1, b2, b3, b4, b5, b6, -, -⟩ := b
      rw [go_i hx]
      exact ⟨⟨c26 ⟨by omega, by omega, by omega, by omega⟩, hD⟩, Or.inl (show q < z by omega), Or.inl ⟨rfl, rfl⟩⟩
    · rw [go_i hx]
      refine ⟨⟨⟨?_, ?_, ?_, ?_, ?_, ?_, ?_, ?_, ?_, ?_, ?_, ?_⟩, hD⟩, Or.inr ⟨rfl, rfl, rfl⟩, Or.inl ⟨rfl, rfl⟩⟩
      · show 0 ≤ (26 : Int) ∧ (26 : Int) ≤ 26 ∧ 0 ≤ q ∧ q ≤ T.2.1 ∧ 0 ≤ l ∧ 2 * l ≤ q ∧ ((26 : Int) ≠ 0 → (26 : Int) ≠ 17 → (26 : Int) ≠ 26 → 2 * l + 1 ≤ q)
        omega
      · exact ⟨r1, r2, r3, r4, r5, r6, r7, r8, r9, r10, r11, r12⟩
      all_goals (intros; exfalso; omega)
  · by_cases h4 : k = 4
    · subst h4
      rw [nxF h17] at hx
      exact fl_i hx
    · obtain ⟨b1, b2, b3, b4, b5, b6, b7, b8⟩ := bd.2.2.2.2 h4
      by_cases hcs : c = 0 ∨ c = 1 ∨ c = 2 ∨ c = 3 ∨ c = 4 ∨ c = 5 ∨ c = 6 ∨ c = 7 ∨ c = 8 ∨ c = 9 ∨ c = 14 ∨ c = 15 ∨ c = 16 ∨ c = 18 ∨ c = 19 ∨ c = 20 ∨ c = 21 ∨ c = 22 ∨ c = 23 ∨ c = 24 ∨ c = 25 ∨ c = 26
      · rcases hcs with rfl | rfl | rfl | rfl | rfl | rfl | rfl | rfl | rfl | rfl | rfl | rfl | rfl | rfl | rfl | rfl | rfl | rfl | rfl | rfl | rfl | rfl
        · rw [nx0 h4] at hx
          rcases pIf_i hx with ⟨-, hx⟩ | ⟨hk, hx⟩
          · exact fl_i hx
          · rcases pIf_i hx with ⟨⟨k1, v1, v2⟩, hx⟩ | ⟨-, hx⟩
            · exact ln_ok hD i5 ⟨by omega, b3, by omega, by omega⟩ ⟨v1, v2⟩ hx rfl
            · exact fl_i hx
        · rw [nx1 h4] at hx
          obtain ⟨k2, v1, v2, hx⟩ := pNum_i hx
          have v0 := b8 k2
          refine nx_go hD ⟨?_, ?_, ?_, ?_, ?_, ?_, ?_, ?_, ?_, ?_, ?_, ?_⟩ (by omega) (go_i hx)
          all_goals first | omega | (intros; omega) | (intro _ _; assumption) | (intro _; assumption) | (intro w; exfalso; omega)
        · rw [nx2 h4] at hx
          obtain ⟨k2, v1, v2, hx⟩ := pNum_i hx
          have v0 := b8 k2
          have u := j2 rfl
          exact nx_26 (dI_aSz hD ⟨by omega, by omega, by omega, by omega⟩) ⟨by omega, by omega, by omega, by omega, by omega⟩ (go_i hx)
        · rw [nx3 h4] at hx
          obtain ⟨⟨k1, v1⟩, hf, hx⟩ := pFre_i hx
          exact nx_26 (dI_aOw hD (j3 rfl) hf (b7 k1).2.1) ⟨by omega, by omega, by omega, by omega, by omega⟩ (go_i hx)
        · rw [nx4 h4] at hx
          obtain ⟨⟨k1, v1⟩, ⟨s1, s2⟩, hx⟩ := pOld_i hx
          have u := j4 rfl
          generalize slF D (bs T.1 a z) 12 = sl at s1 s2 hx
          have u5 : (sl = -1 → (dSt D).length < 3 ∧ frs D (bs T.1 0 0) ∧ isW (bs T.1 0 0)) ∧ (sl ≠ -1 → dFi D < 8) := ⟨fun w => by omega, fun _ => u⟩
          refine nx_go hD ⟨?_, ?_, ?_, ?_, ?_, ?_, ?_, ?_, ?_, ?_, ?_, ?_⟩ (by omega) (go_i hx)
          all_goals first | omega | (intros; omega) | (intro _ _; assumption) | (intro _; assumption) | (intro w; exfalso; omega)
        · rw [nx5 h4] at hx
          obtain ⟨k2, v1, v2, hx⟩ := pNum_i hx
          have v0 := b8 k2
          have u := j5 (by omega) (by omega)
          have d1 := hD.2.1
          refine nx_go hD ⟨?_, ?_, ?_, ?_, ?_, ?_, ?_, ?_, ?_, ?_, ?_, ?_⟩ (by omega) (go_i hx)
          all_goals first | omega | (intros; omega) | (intro _ _; assumption) | (intro _; assumption) | (intro w; exfalso; omega)
        · rw [nx6 h4] at hx
          obtain ⟨k2, v1, v2, hx⟩ := pNum_i hx
          have v0 := b8 k2
          have u := j5 (by omega) (by omega)
          have d1 := hD.2.1
          refine nx_go hD ⟨?_, ?_, ?_, ?_, ?_, ?_, ?_, ?_, ?_, ?_, ?_, ?_⟩ (by omega) (go_i hx)
          all_goals first | omega | (intros; omega) | (intro _ _; assumption) | (intro _; assumption) | (intro w; exfalso; omega)
        · rw [nx7 h4] at hx
          obtain ⟨k2, v1, v2, hx⟩ := pNum_i hx
          have v0 := b8 k2
          have u := j5 (by omega) (by omega)
          have d1 := hD.2.1
          refine nx_go hD ⟨?_, ?_, ?_, ?_, ?_, ?_, ?_, ?_, ?_, ?_, ?_, ?_⟩ (by omega) (go_i hx)
          all_goals first | omega | (intros; omega) | (intro _ _; assumption) | (intro _; assumption) | (intro w; exfalso; omega)
        · rw [nx8 h4] at hx
          obtain ⟨k2, v1, v2, hx⟩ := pNum_i hx
          have v0 := b8 k2
          have u := j5 (by omega) (by omega)
          rcases pIf_i hx with ⟨-, hx⟩ | ⟨-, hx⟩
          · exact fl_i hx
          · rcases pIf_i hx with ⟨e1, hx⟩ | ⟨e1, hx⟩
            · exact nx_26 (dI_aSp hD (u.1 e1).1 (u.1 e1).2.1 (u.1 e1).2.2) ⟨by omega, by omega, by omega, by omega, by omega⟩ (go_i hx)
            · exact nx_26 (dI_aFi hD (u.2 e1)) ⟨by omega, by omega, by omega, by omega, by omega⟩ (go_i hx)
        · rw [nx9 h4] at hx
          obtain ⟨⟨k1, v1⟩, hf, hx⟩ := pFre_i hx
          have u5 : ((-1 : Int) = -1 → (dSt D).length < 3 ∧ frs D (bs T.1 a z) ∧ isW (bs T.1 a z)) ∧ ((-1 : Int) ≠ -1 → dFi D < 8) := ⟨fun _ => ⟨j9 rfl, hf, (b7 k1).2.1⟩, fun w => absurd rfl w⟩
          refine nx_go hD ⟨?_, ?_, ?_, ?_, ?_, ?_, ?_, ?_, ?_, ?_, ?_, ?_⟩ (by omega) (go_i hx)
          all_goals first | omega | (intros; omega) | (intro _ _; assumption) | (intro _; assumption) | (intro w; exfalso; omega)
        · rw [nx14 h4] at hx
          obtain ⟨⟨k1, v1⟩, hf, hx⟩ := pFre_i hx
          have u := j14 (by omega) (by omega)
          have u5 : frs D (bs T.1 a z) ∧ isW (bs T.1 a z) := ⟨hf, (b7 k1).2.1⟩
          refine nx_go hD ⟨?_, ?_, ?_, ?_, ?_, ?_, ?_, ?_, ?_, ?_, ?_, ?_⟩ (by omega) (go_i hx)
          all_goals first | omega | (intros; omega) | (intro _ _; assumption) | (intro _; assumption) | (intro w; exfalso; omega)
        · rw [nx15 h4] at hx
          obtain ⟨k2, v1, v2, hx⟩ := pNum_i hx
          have v0 := b8 k2
          have u := j14 (by omega) (by omega)
          have u5 := j15 (by omega)
          refine nx_go hD ⟨?_, ?_, ?_, ?_, ?_, ?_, ?_, ?_, ?_, ?_, ?_, ?_⟩ (by omega) (go_i hx)
          all_goals first | omega | (intros; omega) | (intro _ _; assumption) | (intro _; assumption) | (intro w; exfalso; omega)
        · rw [nx16 h4] at hx
          obtain ⟨k2, v1, v2, hx⟩ := pNum_i hx
          have v0 := b8 k2
          have u := j14 (by omega) (by omega)
          have u5 := j15 (by omega)
          rw [go_i hx]
          refine ⟨⟨⟨?_, ?_, ?_, ?_, ?_, ?_, ?_, ?_, ?_, ?_, ?_, ?_⟩, dI_aKn hD u u5.1 u5.2⟩, Or.inl (show q < z by omega), Or.inr rfl⟩
          · show 0 ≤ (17 : Int) ∧ (17 : Int) ≤ 26 ∧ 0 ≤ z ∧ z ≤ T.2.1 ∧ 0 ≤ l + 1 ∧ 2 * (l + 1) ≤ z ∧ ((17 : Int) ≠ 0 → (17 : Int) ≠ 17 → (17 : Int) ≠ 26 → 2 * (l + 1) + 1 ≤ z)
            omega
          · show -1 ≤ (0 : Int) ∧ (0 : Int) ≤ 99 ∧ -1 ≤ (0 : Int) ∧ (0 : Int) ≤ 99 ∧ -1 ≤ (0 : Int) ∧ (0 : Int) ≤ 99 ∧ -1 ≤ (0 : Int) ∧ (0 : Int) ≤ 99 ∧ 0 ≤ (0 : Int) ∧ (0 : Int) ≤ T.2.1 ∧ 0 ≤ (0 : Int) ∧ (0 : Int) ≤ T.2.1
            omega
          all_goals (intros; exfalso; first | omega | (rename_i w; rcases w with w | w <;> omega))
        · rw [nx18 h4] at hx
          obtain ⟨⟨k1, v1⟩, ⟨s1, s2⟩, hx⟩ := pOld_i hx
          have u := j18 (by omega) (by omega)
          generalize slF D (bs T.1 a z) 12 = sl at s1 s2 hx
          refine nx_go hD ⟨?_, ?_, ?_, ?_, ?_, ?_, ?_, ?_, ?_, ?_, ?_, ?_⟩ (by omega) (go_i hx)
          all_goals first | omega | (intros; omega) | (intro _ _; assumption) | (intro _; assumption) | (intro w; exfalso; omega)
        · rw [nx19 h4] at hx
          obtain ⟨k2, v1, v2, hx⟩ := pNum_i hx
          have v0 := b8 k2
          have u := j18 (by omega) (by omega)
          refine nx_go hD ⟨?_, ?_, ?_, ?_, ?_, ?_, ?_, ?_, ?_, ?_, ?_, ?_⟩ (by omega) (go_i hx)
          all_goals first | omega | (intros; omega) | (intro _ _; assumption) | (intro _; assumption) | (intro w; exfalso; omega)
        · rw [nx20 h4] at hx
          obtain ⟨k2, v1, v2, hx⟩ := pNum_i hx
          have v0 := b8 k2
          have u := j18 (by omega) (by omega)
          rcases pIf_i hx with ⟨-, hx⟩ | ⟨-, hx⟩
          · exact nx_26 (dI_aTr hD u) ⟨by omega, by omega, by omega, by omega, by omega⟩ (go_i hx)
          · exact fl_i hx
        · rw [nx21 h4] at hx
          obtain ⟨k2, v1, v2, hx⟩ := pNum_i hx
          have v0 := b8 k2
          have u := j21 (by omega) (by omega)
          refine nx_go hD ⟨?_, ?_, ?_, ?_, ?_, ?_, ?_, ?_, ?_, ?_, ?_, ?_⟩ (by omega) (go_i hx)
          all_goals first | omega | (intros; omega) | (intro _ _; assumption) | (intro _; assumption) | (intro w; exfalso; omega)
        · rw [nx22 h4] at hx
          obtain ⟨k2, v1, v2, hx⟩ := pNum_i hx
          have v0 := b8 k2
          have u := j21 (by omega) (by omega)
          rcases pIf_i hx with ⟨-, hx⟩ | ⟨-, hx⟩
          · exact nx_26 (dI_aWa hD u) ⟨by omega, by omega, by omega, by omega, by omega⟩ (go_i hx)
          · exact fl_i hx
        · rw [nx23 h4] at hx
          have u := j23 (by omega) (by omega)
          rcases pIf_i hx with ⟨⟨k1, v1, v2⟩, hx⟩ | ⟨-, hx⟩
          · refine nx_go hD ⟨?_, ?_, ?_, ?_, ?_, ?_, ?_, ?_, ?_, ?_, ?_, ?_⟩ (by omega) (go_i hx)
            all_goals first | omega | (intros; omega) | (intro _ _; assumption) | (intro _; assumption) | (intro w; exfalso; omega)
          · exact fl_i hx
        · rw [nx24 h4] at hx
          obtain ⟨k2, v1, v2, hx⟩ := pNum_i hx
          have v0 := b8 k2
          have u := j23 (by omega) (by omega)
          rcases pIf_i hx with ⟨-, hx⟩ | ⟨-, hx⟩
          · exact fl_i hx
          · refine nx_go hD ⟨?_, ?_, ?_, ?_, ?_, ?_, ?_, ?_, ?_, ?_, ?_, ?_⟩ (by omega) (go_i hx)
            all_goals first | omega | (intros; omega) | (intro _ _; assumption) | (intro _; assumption) | (intro w; exfalso; omega)
        · rw [nx25 h4] at hx
          obtain ⟨k2, v1, v2, hx⟩ := pNum_i hx
          have v0 := b8 k2
          have u := j23 (by omega) (by omega)
          exact nx_26 (dI_aWi hD u) ⟨by omega, by omega, by omega, by omega, by omega⟩ (go_i hx)
        · rw [nx26 h4] at hx
          rcases pIf_i hx with ⟨⟨k1, v1⟩, hx⟩ | ⟨-, hx⟩
          · refine nx_go hD ⟨?_, ?_, ?_, ?_, ?_, ?_, ?_, ?_, ?_, ?_, ?_, ?_⟩ (by omega) (go_i hx)
            all_goals first | omega | (intros; omega) | (intro _ _; assumption) | (intro _; assumption) | (intro w; exfalso; omega)
          · exact fl_i hx
      · rw [nxO h4 hcs h17] at hx
        exact fl_i hx
theorem sI_0 (hn : 0 ≤ T.2.1) : sI T ((0, 0, 0), (0, 0, 0, 0, 0, 0), d0) := by
  refine ⟨⟨?_, ?_, ?_, ?_, ?_, ?_, ?_, ?_, ?_, ?_, ?_, ?_⟩, dI_0⟩
  · show 0 ≤ (0 : Int) ∧ (0 : Int) ≤ 26 ∧ 0 ≤ (0 : Int) ∧ (0 : Int) ≤ T.2.1 ∧ 0 ≤ (0 : Int) ∧ 2 * (0 : Int) ≤ 0 ∧ ((0 : Int) ≠ 0 → (0 : Int) ≠ 17 → (0 : Int) ≠ 26 → 2 * (0 : Int) + 1 ≤ 0)
    omega
  · show -1 ≤ (0 : Int) ∧ (0 : Int) ≤ 99 ∧ -1 ≤ (0 : Int) ∧ (0 : Int) ≤ 99 ∧ -1 ≤ (0 : Int) ∧ (0 : Int) ≤ 99 ∧ -1 ≤ (0 : Int) ∧ (0 : Int) ≤ 99 ∧ 0 ≤ (0 : Int) ∧ (0 : Int) ≤ T.2.1 ∧ 0 ≤ (0 : Int) ∧ (0 : Int) ≤ T.2.1
    omega
  all_goals (intros; exfalso; first | omega | (rename_i w; rcases w with w | w <;> omega))
theorem Run_sI (hn : 0 ≤ T.2.1) (hl : 0 ≤ T.2.2) : ∀ {i : Nat} {s : pSt}, Run T i (.inl s) → sI T s := by
  intro i
  induction i with
  | zero =>
    intro s hr
    have e : s = ((0, 0, 0), (0, 0, 0, 0, 0, 0), d0) := Sum.inl.inj (show (Sum.inl s : pO) = _ from hr)
    rw [e]
    exact sI_0 hn
  | succ i ih =>
    intro s hr
    obtain ⟨s0, h1, k, a, z, v, h2, h3⟩ := hr
    have hI := ih h1
    exact (nx_ok hI.1 hI.2 h2 hl (show pNs T.1 s0 k a z v = .inl s from h3.symm)).1
theorem Run_nx (hn : 0 ≤ T.2.1) (hl : 0 ≤ T.2.2) {i : Nat} {s s' : pSt} (h1 : Run T i (.inl s)) (h2 : Run T (i + 1) (.inl s')) : nxR T s.1.1 s.1.2.1 s.1.2.2 s.2.2 s' := by
  obtain ⟨s0, g1, k, a, z, v, g2, g3⟩ := h2
  have e := Sum.inl.inj (Run_det h1 g1)
  subst e
  have hI := Run_sI hn hl h1
  exact nx_ok hI.1 hI.2 g2 hl (show pNs T.1 s k a z v = .inl s' from g3.symm)
/-- one state behind another -/
def aft (s s' : pSt) : Prop := (s.1.1 < s'.1.1 ∨ (s.1.1 = s'.1.1 ∧ s.1.2.1 = 17 ∧ s'.1.2.1 = 26)) ∧ ((s.1.2.2 = s'.1.2.2 ∧ s'.2.2 = s.2.2) ∨ s.1.2.2 < s'.1.2.2)
theorem Run_aft (hn : 0 ≤ T.2.1) (hl : 0 ≤ T.2.2) {i : Nat} {s : pSt} (h1 : Run T i (.inl s)) : ∀ {d : Nat} {s' : pSt}, Run T (i + d + 1) (.inl s') → aft s s' := by
  intro d
  induction d with
  | zero =>
    intro s' h2
    obtain ⟨-, u, w⟩ := Run_nx hn hl h1 h2
    refine ⟨?_, ?_⟩
    · rcases u with u | ⟨u1, u2, u3⟩
      · exact Or.inl u
      · exact Or.inr ⟨u3.symm, u1, u2⟩
    · rcases w with ⟨w1, w2⟩ | w
      · exact Or.inl ⟨w1.symm, w2⟩
      · exact Or.inr (by omega)
  | succ d ih =>
    intro s' h2
    obtain ⟨s0, g1, g2⟩ := h2
    have g3 := ih (s' := s0) g1
    obtain ⟨-, u, w⟩ := Run_nx hn hl (show Run T (i + d + 1) (.inl s0) from g1) (show Run T (i + d + 1 + 1) (.inl s') from ⟨s0, g1, g2⟩)
    obtain ⟨x, y⟩ := g3
    refine ⟨?_, ?_⟩
    · rcases x with x | ⟨x1, x2, x3⟩
      · rcases u with u | ⟨u1, u2, u3⟩
        · exact Or.inl (by omega)
        · exact Or.inl (by omega)
      · rcases u with u | ⟨u1, u2, u3⟩
        · exact Or.inl (by omega)
        · omega
    · rcases y with ⟨y1, y2⟩ | y
      · rcases w with ⟨w1, w2⟩ | w
        · exact Or.inl ⟨by omega, w2.trans y2⟩
        · exact Or.inr (by omega)
      · rcases w with ⟨w1, w2⟩ | w
        · exact Or.inr (by omega)
        · exact Or.inr (by omega)
theorem G_cmp (hn : 0 ≤ T.2.1) (hl : 0 ≤ T.2.2) {s s' : pSt} (h : G T s) (h' : G T s') : s = s' ∨ aft s s' ∨ aft s' s := by
  obtain ⟨i, h⟩ := h
  obtain ⟨j, h'⟩ := h'
  rcases Nat.lt_trichotomy i j with x | x | x
  · exact Or.inr (Or.inl (Run_aft hn hl h (d := j - i - 1) (by rw [show i + (j - i - 1) + 1 = j by omega]; exact h')))
  · subst x
    exact Or.inl (Sum.inl.inj (Run_det h h'))
  · exact Or.inr (Or.inr (Run_aft hn hl h' (d := i - j - 1) (by rw [show j + (i - j - 1) + 1 = i by omega]; exact h)))
theorem G_q (hn : 0 ≤ T.2.1) (hl : 0 ≤ T.2.2) {s s' : pSt} (h : G T s) (h' : G T s') (he : s.1.1 = s'.1.1) (hc : s.1.2.1 ≠ 17) (hc' : s.1.2.1 ≠ 26) : s = s' := by
  rcases G_cmp hn hl h h' with x | ⟨x, -⟩ | ⟨x, -⟩
  · exact x
  · rcases x with x | ⟨-, x, -⟩
    · omega
    · exact absurd x hc
  · rcases x with x | ⟨-, -, x⟩
    · omega
    · exact absurd x hc'
/-- what l lines said -/
def dat (T : pT) (l : Int) (D : pD) : Prop := ∃ s, G T s ∧ s.1.2.2 = l ∧ s.2.2 = D
theorem dat_det (hn : 0 ≤ T.2.1) (hl : 0 ≤ T.2.2) {l : Int} {D D' : pD} (h : dat T l D) (h' : dat T l D') : D = D' := by
  obtain ⟨s, h1, h2, rfl⟩ := h
  obtain ⟨s', g1, g2, rfl⟩ := h'
  rcases G_cmp hn hl h1 g1 with x | ⟨-, x⟩ | ⟨-, x⟩
  · rw [x]
  · rcases x with ⟨-, x⟩ | x
    · exact x.symm
    · omega
  · rcases x with ⟨-, x⟩ | x
    · exact x
    · omega
theorem dat_I (hn : 0 ≤ T.2.1) (hl : 0 ≤ T.2.2) {l : Int} {D : pD} (h : dat T l D) : dI D := by
  obtain ⟨s, ⟨i, h1⟩, -, rfl⟩ := h
  exact (Run_sI hn hl h1).2
theorem G_sI (hn : 0 ≤ T.2.1) (hl : 0 ≤ T.2.2) {s : pSt} (h : G T s) : sI T s := by
  obtain ⟨i, h⟩ := h
  exact Run_sI hn hl h
end Spec6
