section Spec5
variable {T : pT} {q c l e f g h m n k a z v : Int} {D : pD} {s : pSt}
theorem pIf_i {p : Prop} {x y : pO} (h : pIf p x y = .inl s) : (p ∧ x = .inl s) ∨ (¬ p ∧ y = .inl s) := by
  by_cases hp : p
  · rw [pIf_t hp] at h; exact Or.inl ⟨hp, h⟩
  · rw [pIf_f hp] at h; exact Or.inr ⟨hp, h⟩
theorem fl_i {C : Prop} (h : fl k a = .inl s) : C := by cases h
theorem pNum_i {lo hi : Int} {o : pO} (h : pNum k v lo hi a o = .inl s) : k = 2 ∧ lo ≤ v ∧ v ≤ hi ∧ o = .inl s := by
  rcases pIf_i h with ⟨h1, h2⟩ | ⟨-, h2⟩
  · rcases pIf_i h2 with ⟨h3, h4⟩ | ⟨-, h4⟩
    · exact ⟨h1, h3.1, h3.2, h4⟩
    · exact fl_i h4
  · exact fl_i h2
theorem pFre_i {L : List Int} {o : pO} (h : pFre D L k v a o = .inl s) : (k = 1 ∧ v = -1) ∧ frs D L ∧ o = .inl s := by
  rcases pIf_i h with ⟨h1, h2⟩ | ⟨-, h2⟩
  · rcases pIf_i h2 with ⟨h3, h4⟩ | ⟨-, h4⟩
    · exact ⟨h1, h3, h4⟩
    · exact fl_i h4
  · exact fl_i h2
theorem pOld_i {L : List Int} {lo hi : Int} {o : Int → pO} (h : pOld D L k v a lo hi o = .inl s) : (k = 1 ∧ v = -1) ∧ (lo ≤ slF D L 12 ∧ slF D L 12 ≤ hi) ∧ o (slF D L 12) = .inl s := by
  rcases pIf_i h with ⟨h1, h2⟩ | ⟨-, h2⟩
  · rcases pIf_i h2 with ⟨h3, h4⟩ | ⟨-, h4⟩
    · exact ⟨h1, h3, h4⟩
    · exact fl_i h4
  · exact fl_i h2
theorem go_i {q' c' l' e' f' g' h' m' n' : Int} {D' : pD} (h : go q' c' l' e' f' g' h' m' n' D' = .inl s) : s = ((q', c', l'), (e', f', g', h', m', n'), D') := (Sum.inl.inj h).symm
/-- what a step makes of it -/
def nxR (T : pT) (q c l : Int) (D : pD) (s : pSt) : Prop := sI T s ∧ (q < s.1.1 ∨ (c = 17 ∧ s.1.2.1 = 26 ∧ s.1.1 = q)) ∧ ((s.1.2.2 = l ∧ s.2.2 = D) ∨ s.1.2.2 = l + 1)
theorem c26 (h1 : 0 ≤ z ∧ z ≤ T.2.1 ∧ 0 ≤ l ∧ 2 * l ≤ z) : cI4 T z 26 l 0 0 0 0 0 0 D := by
  refine ⟨by omega, by omega, ?_, ?_, ?_, ?_, ?_, ?_, ?_, ?_, ?_, ?_⟩ <;> (intros; omega)
theorem dI_aSz {x y : Int} (hD : dI D) (h1 : 1 ≤ x ∧ x ≤ 10 ∧ 1 ≤ y ∧ y ≤ 10) : dI (aSz D x y) := by
  obtain ⟨h2, h3, h4⟩ := hD
  exact ⟨h2, ⟨by show (0 : Int) ≤ 1; decide, by show (1 : Int) ≤ 1; decide, h1.1, h1.2.1, h1.2.2.1, h1.2.2.2⟩, h4⟩
theorem dI_aTr {x y : Int} (hD : dI D) (h1 : (dTr D).length < 14) : dI (aTr D x y) := by
  obtain ⟨⟨a1, a2, a3, a4, a5, a6, a7, a8⟩, h3, h4⟩ := hD
  refine ⟨⟨a1, a2, a3, a4, a5, ?_, a7, a8⟩, h3, h4⟩
  show (dTr D ++ [(x, y)]).length ≤ 14
  rw [List.length_append]
  exact h1
theorem dI_aWa {x y : Int} (hD : dI D) (h1 : (dWa D).length < 10) : dI (aWa D x y) := by
  obtain ⟨⟨a1, a2, a3, a4, a5, a6, a7, a8⟩, h3, h4⟩ := hD
  refine ⟨⟨a1, a2, a3, a4, a5, a6, ?_, a8⟩, h3, h4⟩
  show (dWa D ++ [(x, y)]).length ≤ 10
  rw [List.length_append]
  exact h1
theorem dI_aWi {x y : Int} (hD : dI D) (h1 : (dWi D).length < 8) : dI (aWi D x y) := by
  obtain ⟨⟨a1, a2, a3, a4, a5, a6, a7, a8⟩, h3, h4⟩ := hD
  refine ⟨⟨a1, a2, a3, a4, a5, a6, a7, ?_⟩, h3, h4⟩
  show (dWi D ++ [(x, y)]).length ≤ 8
  rw [List.length_append]
  exact h1
theorem dI_aFi {x y w u : Int} (hD : dI D) (h1 : dFi D < 8) : dI (aFi D x y w u) := by
  obtain ⟨⟨a1, a2, a3, a4, a5, a6, a7, a8⟩, h3, h4⟩ := hD
  refine ⟨⟨a1, a2, a3, ?_, ?_, a6, a7, a8⟩, h3, h4⟩
  · show 0 ≤ dFi D + 1
    omega
  · show dFi D + 1 ≤ 8
    omega
theorem dI_aOw {L : List Int} (hD : dI D) (h1 : (dOw D).length < 4) (h2 : frs D L) (h3' : isW L) : dI (aOw D L) := by
  obtain ⟨⟨a1, a2, a3, a4, a5, a6, a7, a8⟩, h3, h4⟩ := hD
  refine ⟨⟨?_, a2, a3, a4, a5, a6, a7, a8⟩, h3, nmI_add h4 h2 h3' (nm_aOw h1)⟩
  show (dOw D ++ [L]).length ≤ 4
  rw [List.length_append]
  exact h1
theorem dI_aSp {L : List Int} {x y w u : Int} (hD : dI D) (h1 : (dSt D).length < 3) (h2 : frs D L) (h3' : isW L) : dI (aSp D L x y w u) := by
  obtain ⟨⟨a1, a2, a3, a4, a5, a6, a7, a8⟩, h3, h4⟩ := hD
  refine ⟨⟨a1, ?_, a3, a4, a5, a6, a7, a8⟩, h3, nmI_add h4 h2 h3' (nm_aSp h1)⟩
  show (dSt D ++ [L]).length ≤ 3
  rw [List.length_append]
  exact h1
theorem dI_aKn {L : List Int} (hD : dI D) (h1 : (dKn D).length < 5) (h2 : frs D L) (h3' : isW L) : dI (aKn D L) := by
  obtain ⟨⟨a1, a2, a3, a4, a5, a6, a7, a8⟩, h3, h4⟩ := hD
  refine ⟨⟨a1, a2, ?_, a4, a5, a6, a7, a8⟩, h3, nmI_add h4 h2 h3' nm_aKn⟩
  show (dKn D ++ [L]).length ≤ 5
  rw [List.length_append]
  exact h1
theorem ln_ok {lo : Int} (hD : dI D) (hl : 0 ≤ l) (hz : 0 ≤ z ∧ z ≤ T.2.1 ∧ q < z ∧ 2 * l + 1 ≤ z) (hv : 0 ≤ v ∧ v ≤ 7) (hx : pLn l D a z v = .inl s) (hlo : lo = 0) : nxR T q lo l D s := by
  have key : ∀ c' : Int, (c' = 1 ∨ c' = 3 ∨ c' = 4 ∨ c' = 9 ∨ c' = 14 ∨ c' = 18 ∨ c' = 21 ∨ c' = 23) → (c' = 3 → (dOw D).length < 4) → (c' = 4 → dFi D < 8) → (c' = 9 → (dSt D).length < 3) → (c' = 14 → (dKn D).length < 5) → (c' = 18 → (dTr D).length < 14) → (c' = 21 → (dWa D).length < 10) → (c' = 23 → (dWi D).length < 8) → nxR T q lo l D ((z, c', l), (0, 0, 0, 0, 0, 0), D) := by
    intro c' h0 h1 h2 h3 h4 h5 h6 h7
    refine ⟨⟨⟨?_, ?_, ?_, ?_, ?_, ?_, ?_, ?_, ?_, ?_, ?_, ?_⟩, hD⟩, Or.inl hz.2.2.1, Or.inl ⟨rfl, rfl⟩⟩
    · show 0 ≤ c' ∧ c' ≤ 26 ∧ 0 ≤ z ∧ z ≤ T.2.1 ∧ 0 ≤ l ∧ 2 * l ≤ z ∧ (c' ≠ 0 → c' ≠ 17 → c' ≠ 26 → 2 * l + 1 ≤ z)
      omega
    · show -1 ≤ (0 : Int) ∧ (0 : Int) ≤ 99 ∧ -1 ≤ (0 : Int) ∧ (0 : Int) ≤ 99 ∧ -1 ≤ (0 : Int) ∧ (0 : Int) ≤ 99 ∧ -1 ≤ (0 : Int) ∧ (0 : Int) ≤ 99 ∧ 0 ≤ (0 : Int) ∧ (0 : Int) ≤ T.2.1 ∧ 0 ≤ (0 : Int) ∧ (0 : Int) ≤ T.2.1
      omega
    · exact h1
    · exact h2
    · show 5 ≤ c' → c' ≤ 8 → _
      intros; omega
    · exact h3
    · show 14 ≤ c' → c' ≤ 16 → (dKn D).length < 5
      intro _ _; exact h4 (by omega)
    · show c' = 15 ∨ c' = 16 → _
      intros; omega
    · show 18 ≤ c' → c' ≤ 20 → (dTr D).length < 14
      intro _ _; exact h5 (by omega)
    · show 21 ≤ c' → c' ≤ 22 → (dWa D).length < 10
      intro _ _; exact h6 (by omega)
    · show 23 ≤ c' → c' ≤ 25 → (dWi D).length < 8
      intro _ _; exact h7 (by omega)
    · show c' = 2 → _
      intros; omega
  rcases (show v = 0 ∨ v = 1 ∨ v = 2 ∨ v = 3 ∨ v = 4 ∨ v = 5 ∨ v = 6 ∨ v = 7 by omega) with rfl | rfl | rfl | rfl | rfl | rfl | rfl | rfl
  · rw [pLn_0] at hx
    rcases pIf_i hx with ⟨-, hx⟩ | ⟨hc, hx⟩
    · exact fl_i hx
    · rw [go_i hx]
      exact key 1 (by omega) (by omega) (by omega) (by omega) (by omega) (by omega) (by omega) (by omega)
  · rw [pLn_1] at hx
    rcases pIf_i hx with ⟨-, hx⟩ | ⟨hc, hx⟩
    · exact fl_i hx
    · rw [go_i hx]
      exact key 3 (by omega) (by omega) (by omega) (by omega) (by omega) (by omega) (by omega) (by omega)
  · rw [pLn_2] at hx
    rcases pIf_i hx with ⟨-, hx⟩ | ⟨hc, hx⟩
    · exact fl_i hx
    · rw [go_i hx]
      exact key 4 (by omega) (by omega) (by omega) (by omega) (by omega) (by omega) (by omega) (by omega)
  · rw [pLn_3] at hx
    rcases pIf_i hx with ⟨-, hx⟩ | ⟨hc, hx⟩
    · exact fl_i hx
    · rw [go_i hx]
      exact key 9 (by omega) (by omega) (by omega) (by omega) (by omega) (by omega) (by omega) (by omega)
  · rw [pLn_4] at hx
    rcases pIf_i hx with ⟨-, hx⟩ | ⟨hc, hx⟩
    · exact fl_i hx
    · rw [go_i hx]
      exact key 14 (by omega) (by omega) (by omega) (by omega) (by omega) (by omega) (by omega) (by omega)
  · rw [pLn_5] at hx
    rcases pIf_i hx with ⟨-, hx⟩ | ⟨hc, hx⟩
    · exact fl_i hx
    · rw [go_i hx]
      exact key 18 (by omega) (by omega) (by omega) (by omega) (by omega) (by omega) (by omega) (by omega)
  · rw [pLn_6] at hx
    rcases pIf_i hx with ⟨-, hx⟩ | ⟨hc, hx⟩
    · exact fl_i hx
    · rw [go_i hx]
      exact key 21 (by omega) (by omega) (by omega) (by omega) (by omega) (by omega) (by omega) (by omega)
  · rw [pLn_7] at hx
    rcases pIf_i hx with ⟨-, hx⟩ | ⟨hc, hx⟩
    · exact fl_i hx
    · rw [go_i hx]
      exact key 23 (by omega) (by omega) (by omega) (by omega) (by omega) (by omega) (by omega) (by omega)
end Spec5
