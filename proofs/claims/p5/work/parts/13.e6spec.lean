section Spec6
variable {T : pT} {q c l e f g h m n k a z v : Int} {D : pD} {s : pSt}
/-- how far a step goes -/
theorem nx_26 {D' : pD} {c0 : Int} (hD : dI D') (hz : 0 ≤ z ∧ z ≤ T.2.1 ∧ q < z ∧ 0 ≤ l ∧ 2 * (l + 1) ≤ z) (hs : s = ((z, 26, l + 1), (0, 0, 0, 0, 0, 0), D')) : nxR T q c0 l D s := by
  subst hs
  have hc : cI4 T z 26 (l + 1) 0 0 0 0 0 0 D' := c26 ⟨by omega, by omega, by omega, by omega⟩
  exact ⟨⟨hc, hD⟩, Or.inl hz.2.2.1, Or.inr rfl⟩
theorem nx_go {c' e' f' g' h' m' n' c0 : Int} (hD : dI D) (hC : cI4 T z c' l e' f' g' h' m' n' D) (hz : q < z) (hs : s = ((z, c', l), (e', f', g', h', m', n'), D)) : nxR T q c0 l D s := by
  subst hs
  exact ⟨⟨hC, hD⟩, Or.inl hz, Or.inl ⟨rfl, rfl⟩⟩
theorem nxk1 (hD : dI D) (h4 : k ≠ 4) (i3 : 0 ≤ q) (i5 : 0 ≤ l) (i6 : 2 * l ≤ q) (i7 : 2 * l + 1 ≤ q) (hr : -1 ≤ e ∧ e ≤ 99 ∧ -1 ≤ f ∧ f ≤ 99 ∧ -1 ≤ g ∧ g ≤ 99 ∧ -1 ≤ h ∧ h ≤ 99 ∧ 0 ≤ m ∧ m ≤ T.2.1 ∧ 0 ≤ n ∧ n ≤ T.2.1) (hb : q ≤ a ∧ a ≤ z ∧ z ≤ T.2.1 ∧ -1 ≤ v ∧ v ≤ 99) (b6 : k = 0 ∨ a < z) (b7 : k = 1 → v ≤ 29 ∧ isW (bs T.1 a z) ∧ v = wix (bs T.1 a z)) (b8 : k = 2 → 0 ≤ v)  (hx : pNx T.1 q 1 l e f g h m n D k a z v = .inl s) : nxR T q 1 l D s := by
  rw [nx1 h4] at hx
  obtain ⟨k2, v1, v2, hx⟩ := pNum_i hx
  have v0 := b8 k2
  have d1 := hD.2.1
  have b9 : a < z := by omega
  clear b6 b7 b8
  exact nx_go hD ⟨by omega, by omega, fun w => absurd w (by decide), fun w => absurd w (by decide), fun w _ => absurd w (by decide), fun w => absurd w (by decide), fun w _ => absurd w (by decide), fun w => absurd w (by decide), fun w _ => absurd w (by decide), fun w _ => absurd w (by decide), fun w _ => absurd w (by decide), fun _ => by omega⟩ (by omega) (go_i hx)
theorem nxk2 (hD : dI D) (h4 : k ≠ 4) (i3 : 0 ≤ q) (i5 : 0 ≤ l) (i6 : 2 * l ≤ q) (i7 : 2 * l + 1 ≤ q) (hr : -1 ≤ e ∧ e ≤ 99 ∧ -1 ≤ f ∧ f ≤ 99 ∧ -1 ≤ g ∧ g ≤ 99 ∧ -1 ≤ h ∧ h ≤ 99 ∧ 0 ≤ m ∧ m ≤ T.2.1 ∧ 0 ≤ n ∧ n ≤ T.2.1) (hb : q ≤ a ∧ a ≤ z ∧ z ≤ T.2.1 ∧ -1 ≤ v ∧ v ≤ 99) (b6 : k = 0 ∨ a < z) (b7 : k = 1 → v ≤ 29 ∧ isW (bs T.1 a z) ∧ v = wix (bs T.1 a z)) (b8 : k = 2 → 0 ≤ v) (j2 : (2 : Int) = 2 → 1 ≤ e ∧ e ≤ 10) (hx : pNx T.1 q 2 l e f g h m n D k a z v = .inl s) : nxR T q 2 l D s := by
  rw [nx2 h4] at hx
  obtain ⟨k2, v1, v2, hx⟩ := pNum_i hx
  have v0 := b8 k2
  have d1 := hD.2.1
  have b9 : a < z := by omega
  clear b6 b7 b8
  have u := j2 rfl
  exact nx_26 (dI_aSz hD ⟨by omega, by omega, by omega, by omega⟩) ⟨by omega, by omega, by omega, by omega, by omega⟩ (go_i hx)
theorem nxk3 (hD : dI D) (h4 : k ≠ 4) (i3 : 0 ≤ q) (i5 : 0 ≤ l) (i6 : 2 * l ≤ q) (i7 : 2 * l + 1 ≤ q) (hr : -1 ≤ e ∧ e ≤ 99 ∧ -1 ≤ f ∧ f ≤ 99 ∧ -1 ≤ g ∧ g ≤ 99 ∧ -1 ≤ h ∧ h ≤ 99 ∧ 0 ≤ m ∧ m ≤ T.2.1 ∧ 0 ≤ n ∧ n ≤ T.2.1) (hb : q ≤ a ∧ a ≤ z ∧ z ≤ T.2.1 ∧ -1 ≤ v ∧ v ≤ 99) (b6 : k = 0 ∨ a < z) (b7 : k = 1 → v ≤ 29 ∧ isW (bs T.1 a z) ∧ v = wix (bs T.1 a z)) (b8 : k = 2 → 0 ≤ v) (j3 : (3 : Int) = 3 → (dOw D).length < 4) (hx : pNx T.1 q 3 l e f g h m n D k a z v = .inl s) : nxR T q 3 l D s := by
  rw [nx3 h4] at hx
  obtain ⟨⟨k1, v1⟩, hf, hx⟩ := pFre_i hx
  have w := (b7 k1).2.1
  have b9 : a < z := by omega
  clear b6 b7 b8
  exact nx_26 (dI_aOw hD (j3 rfl) hf w) ⟨by omega, by omega, by omega, by omega, by omega⟩ (go_i hx)
theorem nxk4 (hD : dI D) (h4 : k ≠ 4) (i3 : 0 ≤ q) (i5 : 0 ≤ l) (i6 : 2 * l ≤ q) (i7 : 2 * l + 1 ≤ q) (hr : -1 ≤ e ∧ e ≤ 99 ∧ -1 ≤ f ∧ f ≤ 99 ∧ -1 ≤ g ∧ g ≤ 99 ∧ -1 ≤ h ∧ h ≤ 99 ∧ 0 ≤ m ∧ m ≤ T.2.1 ∧ 0 ≤ n ∧ n ≤ T.2.1) (hb : q ≤ a ∧ a ≤ z ∧ z ≤ T.2.1 ∧ -1 ≤ v ∧ v ≤ 99) (b6 : k = 0 ∨ a < z) (b7 : k = 1 → v ≤ 29 ∧ isW (bs T.1 a z) ∧ v = wix (bs T.1 a z)) (b8 : k = 2 → 0 ≤ v) (j4 : (4 : Int) = 4 → dFi D < 8) (hx : pNx T.1 q 4 l e f g h m n D k a z v = .inl s) : nxR T q 4 l D s := by
  rw [nx4 h4] at hx
  obtain ⟨⟨k1, v1⟩, ⟨s1, s2⟩, hx⟩ := pOld_i hx
  have u := j4 rfl
  generalize slF D (bs T.1 a z) 12 = sl at s1 s2 hx
  have b9 : a < z := by omega
  clear b6 b7 b8
  exact nx_go hD ⟨by omega, by omega, fun w => absurd w (by decide), fun w => absurd w (by decide), fun _ _ => ⟨fun w => by omega, fun _ => u⟩, fun w => absurd w (by decide), fun w _ => absurd w (by decide), fun w => absurd w (by decide), fun w _ => absurd w (by decide), fun w _ => absurd w (by decide), fun w _ => absurd w (by decide), fun w => absurd w (by decide)⟩ (by omega) (go_i hx)
theorem nxk5 (hD : dI D) (h4 : k ≠ 4) (i3 : 0 ≤ q) (i5 : 0 ≤ l) (i6 : 2 * l ≤ q) (i7 : 2 * l + 1 ≤ q) (hr : -1 ≤ e ∧ e ≤ 99 ∧ -1 ≤ f ∧ f ≤ 99 ∧ -1 ≤ g ∧ g ≤ 99 ∧ -1 ≤ h ∧ h ≤ 99 ∧ 0 ≤ m ∧ m ≤ T.2.1 ∧ 0 ≤ n ∧ n ≤ T.2.1) (hb : q ≤ a ∧ a ≤ z ∧ z ≤ T.2.1 ∧ -1 ≤ v ∧ v ≤ 99) (b6 : k = 0 ∨ a < z) (b7 : k = 1 → v ≤ 29 ∧ isW (bs T.1 a z) ∧ v = wix (bs T.1 a z)) (b8 : k = 2 → 0 ≤ v) (j5 : (5 : Int) ≤ 5 → (5 : Int) ≤ 8 → (e = -1 → (dSt D).length < 3 ∧ frs D (bs T.1 m n) ∧ isW (bs T.1 m n)) ∧ (e ≠ -1 → dFi D < 8)) (hx : pNx T.1 q 5 l e f g h m n D k a z v = .inl s) : nxR T q 5 l D s := by
  rw [nx5 h4] at hx
  obtain ⟨k2, v1, v2, hx⟩ := pNum_i hx
  have v0 := b8 k2
  have d1 := hD.2.1
  have b9 : a < z := by omega
  clear b6 b7 b8
  have u := j5 (by decide) (by decide)
  exact nx_go hD ⟨by omega, by omega, fun w => absurd w (by decide), fun w => absurd w (by decide), fun _ _ => u, fun w => absurd w (by decide), fun w _ => absurd w (by decide), fun w => absurd w (by decide), fun w _ => absurd w (by decide), fun w _ => absurd w (by decide), fun w _ => absurd w (by decide), fun w => absurd w (by decide)⟩ (by omega) (go_i hx)
theorem nxk6 (hD : dI D) (h4 : k ≠ 4) (i3 : 0 ≤ q) (i5 : 0 ≤ l) (i6 : 2 * l ≤ q) (i7 : 2 * l + 1 ≤ q) (hr : -1 ≤ e ∧ e ≤ 99 ∧ -1 ≤ f ∧ f ≤ 99 ∧ -1 ≤ g ∧ g ≤ 99 ∧ -1 ≤ h ∧ h ≤ 99 ∧ 0 ≤ m ∧ m ≤ T.2.1 ∧ 0 ≤ n ∧ n ≤ T.2.1) (hb : q ≤ a ∧ a ≤ z ∧ z ≤ T.2.1 ∧ -1 ≤ v ∧ v ≤ 99) (b6 : k = 0 ∨ a < z) (b7 : k = 1 → v ≤ 29 ∧ isW (bs T.1 a z) ∧ v = wix (bs T.1 a z)) (b8 : k = 2 → 0 ≤ v) (j5 : (5 : Int) ≤ 6 → (6 : Int) ≤ 8 → (e = -1 → (dSt D).length < 3 ∧ frs D (bs T.1 m n) ∧ isW (bs T.1 m n)) ∧ (e ≠ -1 → dFi D < 8)) (hx : pNx T.1 q 6 l e f g h m n D k a z v = .inl s) : nxR T q 6 l D s := by
  rw [nx6 h4] at hx
  obtain ⟨k2, v1, v2, hx⟩ := pNum_i hx
  have v0 := b8 k2
  have d1 := hD.2.1
  have b9 : a < z := by omega
  clear b6 b7 b8
  have u := j5 (by decide) (by decide)
  exact nx_go hD ⟨by omega, by omega, fun w => absurd w (by decide), fun w => absurd w (by decide), fun _ _ => u, fun w => absurd w (by decide), fun w _ => absurd w (by decide), fun w => absurd w (by decide), fun w _ => absurd w (by decide), fun w _ => absurd w (by decide), fun w _ => absurd w (by decide), fun w => absurd w (by decide)⟩ (by omega) (go_i hx)
theorem nxk7 (hD : dI D) (h4 : k ≠ 4) (i3 : 0 ≤ q) (i5 : 0 ≤ l) (i6 : 2 * l ≤ q) (i7 : 2 * l + 1 ≤ q) (hr : -1 ≤ e ∧ e ≤ 99 ∧ -1 ≤ f ∧ f ≤ 99 ∧ -1 ≤ g ∧ g ≤ 99 ∧ -1 ≤ h ∧ h ≤ 99 ∧ 0 ≤ m ∧ m ≤ T.2.1 ∧ 0 ≤ n ∧ n ≤ T.2.1) (hb : q ≤ a ∧ a ≤ z ∧ z ≤ T.2.1 ∧ -1 ≤ v ∧ v ≤ 99) (b6 : k = 0 ∨ a < z) (b7 : k = 1 → v ≤ 29 ∧ isW (bs T.1 a z) ∧ v = wix (bs T.1 a z)) (b8 : k = 2 → 0 ≤ v) (j5 : (5 : Int) ≤ 7 → (7 : Int) ≤ 8 → (e = -1 → (dSt D).length < 3 ∧ frs D (bs T.1 m n) ∧ isW (bs T.1 m n)) ∧ (e ≠ -1 → dFi D < 8)) (hx : pNx T.1 q 7 l e f g h m n D k a z v = .inl s) : nxR T q 7 l D s := by
  rw [nx7 h4] at hx
  obtain ⟨k2, v1, v2, hx⟩ := pNum_i hx
  have v0 := b8 k2
  have d1 := hD.2.1
  have b9 : a < z := by omega
  clear b6 b7 b8
  have u := j5 (by decide) (by decide)
  exact nx_go hD ⟨by omega, by omega, fun w => absurd w (by decide), fun w => absurd w (by decide), fun _ _ => u, fun w => absurd w (by decide), fun w _ => absurd w (by decide), fun w => absurd w (by decide), fun w _ => absurd w (by decide), fun w _ => absurd w (by decide), fun w _ => absurd w (by decide), fun w => absurd w (by decide)⟩ (by omega) (go_i hx)
theorem nxk8 (hD : dI D) (h4 : k ≠ 4) (i3 : 0 ≤ q) (i5 : 0 ≤ l) (i6 : 2 * l ≤ q) (i7 : 2 * l + 1 ≤ q) (hr : -1 ≤ e ∧ e ≤ 99 ∧ -1 ≤ f ∧ f ≤ 99 ∧ -1 ≤ g ∧ g ≤ 99 ∧ -1 ≤ h ∧ h ≤ 99 ∧ 0 ≤ m ∧ m ≤ T.2.1 ∧ 0 ≤ n ∧ n ≤ T.2.1) (hb : q ≤ a ∧ a ≤ z ∧ z ≤ T.2.1 ∧ -1 ≤ v ∧ v ≤ 99) (b6 : k = 0 ∨ a < z) (b7 : k = 1 → v ≤ 29 ∧ isW (bs T.1 a z) ∧ v = wix (bs T.1 a z)) (b8 : k = 2 → 0 ≤ v) (j5 : (5 : Int) ≤ 8 → (8 : Int) ≤ 8 → (e = -1 → (dSt D).length < 3 ∧ frs D (bs T.1 m n) ∧ isW (bs T.1 m n)) ∧ (e ≠ -1 → dFi D < 8)) (hx : pNx T.1 q 8 l e f g h m n D k a z v = .inl s) : nxR T q 8 l D s := by
  rw [nx8 h4] at hx
  obtain ⟨k2, v1, v2, hx⟩ := pNum_i hx
  have v0 := b8 k2
  have d1 := hD.2.1
  have b9 : a < z := by omega
  clear b6 b7 b8
  have u := j5 (by decide) (by decide)
  rcases pIf_i hx with ⟨-, hx⟩ | ⟨-, hx⟩
  · exact fl_i hx
  · rcases pIf_i hx with ⟨e1, hx⟩ | ⟨e1, hx⟩
    · have u1 := u.1 e1
      clear u
      exact nx_26 (dI_aSp hD u1.1 u1.2.1 u1.2.2) ⟨by omega, by omega, by omega, by omega, by omega⟩ (go_i hx)
    · have u1 := u.2 e1
      clear u
      exact nx_26 (dI_aFi hD u1) ⟨by omega, by omega, by omega, by omega, by omega⟩ (go_i hx)
theorem nxk9 (hD : dI D) (h4 : k ≠ 4) (i3 : 0 ≤ q) (i5 : 0 ≤ l) (i6 : 2 * l ≤ q) (i7 : 2 * l + 1 ≤ q) (hr : -1 ≤ e ∧ e ≤ 99 ∧ -1 ≤ f ∧ f ≤ 99 ∧ -1 ≤ g ∧ g ≤ 99 ∧ -1 ≤ h ∧ h ≤ 99 ∧ 0 ≤ m ∧ m ≤ T.2.1 ∧ 0 ≤ n ∧ n ≤ T.2.1) (hb : q ≤ a ∧ a ≤ z ∧ z ≤ T.2.1 ∧ -1 ≤ v ∧ v ≤ 99) (b6 : k = 0 ∨ a < z) (b7 : k = 1 → v ≤ 29 ∧ isW (bs T.1 a z) ∧ v = wix (bs T.1 a z)) (b8 : k = 2 → 0 ≤ v) (j9 : (9 : Int) = 9 → (dSt D).length < 3) (hx : pNx T.1 q 9 l e f g h m n D k a z v = .inl s) : nxR T q 9 l D s := by
  rw [nx9 h4] at hx
  obtain ⟨⟨k1, v1⟩, hf, hx⟩ := pFre_i hx
  have w := (b7 k1).2.1
  have b9 : a < z := by omega
  clear b6 b7 b8
  have u := j9 rfl
  exact nx_go hD ⟨by omega, by omega, fun w => absurd w (by decide), fun w => absurd w (by decide), fun _ _ => ⟨fun _ => ⟨u, hf, w⟩, fun w => absurd rfl w⟩, fun w => absurd w (by decide), fun w _ => absurd w (by decide), fun w => absurd w (by decide), fun w _ => absurd w (by decide), fun w _ => absurd w (by decide), fun w _ => absurd w (by decide), fun w => absurd w (by decide)⟩ (by omega) (go_i hx)
theorem nxk14 (hD : dI D) (h4 : k ≠ 4) (i3 : 0 ≤ q) (i5 : 0 ≤ l) (i6 : 2 * l ≤ q) (i7 : 2 * l + 1 ≤ q) (hr : -1 ≤ e ∧ e ≤ 99 ∧ -1 ≤ f ∧ f ≤ 99 ∧ -1 ≤ g ∧ g ≤ 99 ∧ -1 ≤ h ∧ h ≤ 99 ∧ 0 ≤ m ∧ m ≤ T.2.1 ∧ 0 ≤ n ∧ n ≤ T.2.1) (hb : q ≤ a ∧ a ≤ z ∧ z ≤ T.2.1 ∧ -1 ≤ v ∧ v ≤ 99) (b6 : k = 0 ∨ a < z) (b7 : k = 1 → v ≤ 29 ∧ isW (bs T.1 a z) ∧ v = wix (bs T.1 a z)) (b8 : k = 2 → 0 ≤ v) (j14 : (14 : Int) ≤ 14 → (14 : Int) ≤ 16 → (dKn D).length < 5) (hx : pNx T.1 q 14 l e f g h m n D k a z v = .inl s) : nxR T q 14 l D s := by
  rw [nx14 h4] at hx
  obtain ⟨⟨k1, v1⟩, hf, hx⟩ := pFre_i hx
  have w := (b7 k1).2.1
  have b9 : a < z := by omega
  clear b6 b7 b8
  have u := j14 (by decide) (by decide)
  exact nx_go hD ⟨by omega, by omega, fun w => absurd w (by decide), fun w => absurd w (by decide), fun _ w => absurd w (by decide), fun w => absurd w (by decide), fun _ _ => u, fun _ => ⟨hf, w⟩, fun w _ => absurd w (by decide), fun w _ => absurd w (by decide), fun w _ => absurd w (by decide), fun w => absurd w (by decide)⟩ (by omega) (go_i hx)
theorem nxk15 (hD : dI D) (h4 : k ≠ 4) (i3 : 0 ≤ q) (i5 : 0 ≤ l) (i6 : 2 * l ≤ q) (i7 : 2 * l + 1 ≤ q) (hr : -1 ≤ e ∧ e ≤ 99 ∧ -1 ≤ f ∧ f ≤ 99 ∧ -1 ≤ g ∧ g ≤ 99 ∧ -1 ≤ h ∧ h ≤ 99 ∧ 0 ≤ m ∧ m ≤ T.2.1 ∧ 0 ≤ n ∧ n ≤ T.2.1) (hb : q ≤ a ∧ a ≤ z ∧ z ≤ T.2.1 ∧ -1 ≤ v ∧ v ≤ 99) (b6 : k = 0 ∨ a < z) (b7 : k = 1 → v ≤ 29 ∧ isW (bs T.1 a z) ∧ v = wix (bs T.1 a z)) (b8 : k = 2 → 0 ≤ v) (j14 : (14 : Int) ≤ 15 → (15 : Int) ≤ 16 → (dKn D).length < 5) (j15 : (15 : Int) = 15 ∨ (15 : Int) = 16 → frs D (bs T.1 m n) ∧ isW (bs T.1 m n)) (hx : pNx T.1 q 15 l e f g h m n D k a z v = .inl s) : nxR T q 15 l D s := by
  rw [nx15 h4] at hx
  obtain ⟨k2, v1, v2, hx⟩ := pNum_i hx
  have v0 := b8 k2
  have d1 := hD.2.1
  have b9 : a < z := by omega
  clear b6 b7 b8
  have u := j14 (by decide) (by decide)
  have u5 := j15 (by decide)
  exact nx_go hD ⟨by omega, by omega, fun w => absurd w (by decide), fun w => absurd w (by decide), fun _ w => absurd w (by decide), fun w => absurd w (by decide), fun _ _ => u, fun _ => u5, fun w _ => absurd w (by decide), fun w _ => absurd w (by decide), fun w _ => absurd w (by decide), fun w => absurd w (by decide)⟩ (by omega) (go_i hx)
theorem nxk16 (hD : dI D) (h4 : k ≠ 4) (i3 : 0 ≤ q) (i5 : 0 ≤ l) (i6 : 2 * l ≤ q) (i7 : 2 * l + 1 ≤ q) (hr : -1 ≤ e ∧ e ≤ 99 ∧ -1 ≤ f ∧ f ≤ 99 ∧ -1 ≤ g ∧ g ≤ 99 ∧ -1 ≤ h ∧ h ≤ 99 ∧ 0 ≤ m ∧ m ≤ T.2.1 ∧ 0 ≤ n ∧ n ≤ T.2.1) (hb : q ≤ a ∧ a ≤ z ∧ z ≤ T.2.1 ∧ -1 ≤ v ∧ v ≤ 99) (b6 : k = 0 ∨ a < z) (b7 : k = 1 → v ≤ 29 ∧ isW (bs T.1 a z) ∧ v = wix (bs T.1 a z)) (b8 : k = 2 → 0 ≤ v) (j14 : (14 : Int) ≤ 16 → (16 : Int) ≤ 16 → (dKn D).length < 5) (j15 : (16 : Int) = 15 ∨ (16 : Int) = 16 → frs D (bs T.1 m n) ∧ isW (bs T.1 m n)) (hx : pNx T.1 q 16 l e f g h m n D k a z v = .inl s) : nxR T q 16 l D s := by
  rw [nx16 h4] at hx
  obtain ⟨k2, v1, v2, hx⟩ := pNum_i hx
  have v0 := b8 k2
  have d1 := hD.2.1
  have b9 : a < z := by omega
  clear b6 b7 b8
  have u := j14 (by decide) (by decide)
  have u5 := j15 (by decide)
  have hc : cI4 T z 17 (l + 1) 0 0 0 0 0 0 (aKn D (bs T.1 m n)) := ⟨by omega, by omega, fun w => absurd w (by decide), fun w => absurd w (by decide), fun _ w => absurd w (by decide), fun w => absurd w (by decide), fun _ w => absurd w (by decide), fun w => absurd w (by decide), fun w _ => absurd w (by decide), fun w _ => absurd w (by decide), fun w _ => absurd w (by decide), fun w => absurd w (by decide)⟩
  rw [go_i hx]
  exact ⟨⟨hc, dI_aKn hD u u5.1 u5.2⟩, Or.inl (show q < z by omega), Or.inr rfl⟩
theorem nxk18 (hD : dI D) (h4 : k ≠ 4) (i3 : 0 ≤ q) (i5 : 0 ≤ l) (i6 : 2 * l ≤ q) (i7 : 2 * l + 1 ≤ q) (hr : -1 ≤ e ∧ e ≤ 99 ∧ -1 ≤ f ∧ f ≤ 99 ∧ -1 ≤ g ∧ g ≤ 99 ∧ -1 ≤ h ∧ h ≤ 99 ∧ 0 ≤ m ∧ m ≤ T.2.1 ∧ 0 ≤ n ∧ n ≤ T.2.1) (hb : q ≤ a ∧ a ≤ z ∧ z ≤ T.2.1 ∧ -1 ≤ v ∧ v ≤ 99) (b6 : k = 0 ∨ a < z) (b7 : k = 1 → v ≤ 29 ∧ isW (bs T.1 a z) ∧ v = wix (bs T.1 a z)) (b8 : k = 2 → 0 ≤ v) (j18 : (18 : Int) ≤ 18 → (18 : Int) ≤ 20 → (dTr D).length < 14) (hx : pNx T.1 q 18 l e f g h m n D k a z v = .inl s) : nxR T q 18 l D s := by
  rw [nx18 h4] at hx
  obtain ⟨⟨k1, v1⟩, ⟨s1, s2⟩, hx⟩ := pOld_i hx
  have u := j18 (by decide) (by decide)
  generalize slF D (bs T.1 a z) 12 = sl at s1 s2 hx
  have b9 : a < z := by omega
  clear b6 b7 b8
  exact nx_go hD ⟨by omega, by omega, fun w => absurd w (by decide), fun w => absurd w (by decide), fun _ w => absurd w (by decide), fun w => absurd w (by decide), fun _ w => absurd w (by decide), fun w => absurd w (by decide), fun _ _ => u, fun w _ => absurd w (by decide), fun w _ => absurd w (by decide), fun w => absurd w (by decide)⟩ (by omega) (go_i hx)
theorem nxk19 (hD : dI D) (h4 : k ≠ 4) (i3 : 0 ≤ q) (i5 : 0 ≤ l) (i6 : 2 * l ≤ q) (i7 : 2 * l + 1 ≤ q) (hr : -1 ≤ e ∧ e ≤ 99 ∧ -1 ≤ f ∧ f ≤ 99 ∧ -1 ≤ g ∧ g ≤ 99 ∧ -1 ≤ h ∧ h ≤ 99 ∧ 0 ≤ m ∧ m ≤ T.2.1 ∧ 0 ≤ n ∧ n ≤ T.2.1) (hb : q ≤ a ∧ a ≤ z ∧ z ≤ T.2.1 ∧ -1 ≤ v ∧ v ≤ 99) (b6 : k = 0 ∨ a < z) (b7 : k = 1 → v ≤ 29 ∧ isW (bs T.1 a z) ∧ v = wix (bs T.1 a z)) (b8 : k = 2 → 0 ≤ v) (j18 : (18 : Int) ≤ 19 → (19 : Int) ≤ 20 → (dTr D).length < 14) (hx : pNx T.1 q 19 l e f g h m n D k a z v = .inl s) : nxR T q 19 l D s := by
  rw [nx19 h4] at hx
  obtain ⟨k2, v1, v2, hx⟩ := pNum_i hx
  have v0 := b8 k2
  have d1 := hD.2.1
  have b9 : a < z := by omega
  clear b6 b7 b8
  have u := j18 (by decide) (by decide)
  exact nx_go hD ⟨by omega, by omega, fun w => absurd w (by decide), fun w => absurd w (by decide), fun _ w => absurd w (by decide), fun w => absurd w (by decide), fun _ w => absurd w (by decide), fun w => absurd w (by decide), fun _ _ => u, fun w _ => absurd w (by decide), fun w _ => absurd w (by decide), fun w => absurd w (by decide)⟩ (by omega) (go_i hx)
theorem nxk20 (hD : dI D) (h4 : k ≠ 4) (i3 : 0 ≤ q) (i5 : 0 ≤ l) (i6 : 2 * l ≤ q) (i7 : 2 * l + 1 ≤ q) (hr : -1 ≤ e ∧ e ≤ 99 ∧ -1 ≤ f ∧ f ≤ 99 ∧ -1 ≤ g ∧ g ≤ 99 ∧ -1 ≤ h ∧ h ≤ 99 ∧ 0 ≤ m ∧ m ≤ T.2.1 ∧ 0 ≤ n ∧ n ≤ T.2.1) (hb : q ≤ a ∧ a ≤ z ∧ z ≤ T.2.1 ∧ -1 ≤ v ∧ v ≤ 99) (b6 : k = 0 ∨ a < z) (b7 : k = 1 → v ≤ 29 ∧ isW (bs T.1 a z) ∧ v = wix (bs T.1 a z)) (b8 : k = 2 → 0 ≤ v) (j18 : (18 : Int) ≤ 20 → (20 : Int) ≤ 20 → (dTr D).length < 14) (hx : pNx T.1 q 20 l e f g h m n D k a z v = .inl s) : nxR T q 20 l D s := by
  rw [nx20 h4] at hx
  obtain ⟨k2, v1, v2, hx⟩ := pNum_i hx
  have v0 := b8 k2
  have d1 := hD.2.1
  have b9 : a < z := by omega
  clear b6 b7 b8
  have u := j18 (by decide) (by decide)
  rcases pIf_i hx with ⟨-, hx⟩ | ⟨-, hx⟩
  · exact nx_26 (dI_aTr hD u) ⟨by omega, by omega, by omega, by omega, by omega⟩ (go_i hx)
  · exact fl_i hx
theorem nxk21 (hD : dI D) (h4 : k ≠ 4) (i3 : 0 ≤ q) (i5 : 0 ≤ l) (i6 : 2 * l ≤ q) (i7 : 2 * l + 1 ≤ q) (hr : -1 ≤ e ∧ e ≤ 99 ∧ -1 ≤ f ∧ f ≤ 99 ∧ -1 ≤ g ∧ g ≤ 99 ∧ -1 ≤ h ∧ h ≤ 99 ∧ 0 ≤ m ∧ m ≤ T.2.1 ∧ 0 ≤ n ∧ n ≤ T.2.1) (hb : q ≤ a ∧ a ≤ z ∧ z ≤ T.2.1 ∧ -1 ≤ v ∧ v ≤ 99) (b6 : k = 0 ∨ a < z) (b7 : k = 1 → v ≤ 29 ∧ isW (bs T.1 a z) ∧ v = wix (bs T.1 a z)) (b8 : k = 2 → 0 ≤ v) (j21 : (21 : Int) ≤ 21 → (21 : Int) ≤ 22 → (dWa D).length < 10) (hx : pNx T.1 q 21 l e f g h m n D k a z v = .inl s) : nxR T q 21 l D s := by
  rw [nx21 h4] at hx
  obtain ⟨k2, v1, v2, hx⟩ := pNum_i hx
  have v0 := b8 k2
  have d1 := hD.2.1
  have b9 : a < z := by omega
  clear b6 b7 b8
  have u := j21 (by decide) (by decide)
  exact nx_go hD ⟨by omega, by omega, fun w => absurd w (by decide), fun w => absurd w (by decide), fun _ w => absurd w (by decide), fun w => absurd w (by decide), fun _ w => absurd w (by decide), fun w => absurd w (by decide), fun _ w => absurd w (by decide), fun _ _ => u, fun w _ => absurd w (by decide), fun w => absurd w (by decide)⟩ (by omega) (go_i hx)
theorem nxk22 (hD : dI D) (h4 : k ≠ 4) (i3 : 0 ≤ q) (i5 : 0 ≤ l) (i6 : 2 * l ≤ q) (i7 : 2 * l + 1 ≤ q) (hr : -1 ≤ e ∧ e ≤ 99 ∧ -1 ≤ f ∧ f ≤ 99 ∧ -1 ≤ g ∧ g ≤ 99 ∧ -1 ≤ h ∧ h ≤ 99 ∧ 0 ≤ m ∧ m ≤ T.2.1 ∧ 0 ≤ n ∧ n ≤ T.2.1) (hb : q ≤ a ∧ a ≤ z ∧ z ≤ T.2.1 ∧ -1 ≤ v ∧ v ≤ 99) (b6 : k = 0 ∨ a < z) (b7 : k = 1 → v ≤ 29 ∧ isW (bs T.1 a z) ∧ v = wix (bs T.1 a z)) (b8 : k = 2 → 0 ≤ v) (j21 : (21 : Int) ≤ 22 → (22 : Int) ≤ 22 → (dWa D).length < 10) (hx : pNx T.1 q 22 l e f g h m n D k a z v = .inl s) : nxR T q 22 l D s := by
  rw [nx22 h4] at hx
  obtain ⟨k2, v1, v2, hx⟩ := pNum_i hx
  have v0 := b8 k2
  have d1 := hD.2.1
  have b9 : a < z := by omega
  clear b6 b7 b8
  have u := j21 (by decide) (by decide)
  rcases pIf_i hx with ⟨-, hx⟩ | ⟨-, hx⟩
  · exact nx_26 (dI_aWa hD u) ⟨by omega, by omega, by omega, by omega, by omega⟩ (go_i hx)
  · exact fl_i hx
theorem nxk23 (hD : dI D) (h4 : k ≠ 4) (i3 : 0 ≤ q) (i5 : 0 ≤ l) (i6 : 2 * l ≤ q) (i7 : 2 * l + 1 ≤ q) (hr : -1 ≤ e ∧ e ≤ 99 ∧ -1 ≤ f ∧ f ≤ 99 ∧ -1 ≤ g ∧ g ≤ 99 ∧ -1 ≤ h ∧ h ≤ 99 ∧ 0 ≤ m ∧ m ≤ T.2.1 ∧ 0 ≤ n ∧ n ≤ T.2.1) (hb : q ≤ a ∧ a ≤ z ∧ z ≤ T.2.1 ∧ -1 ≤ v ∧ v ≤ 99) (b6 : k = 0 ∨ a < z) (b7 : k = 1 → v ≤ 29 ∧ isW (bs T.1 a z) ∧ v = wix (bs T.1 a z)) (b8 : k = 2 → 0 ≤ v) (j23 : (23 : Int) ≤ 23 → (23 : Int) ≤ 25 → (dWi D).length < 8) (hx : pNx T.1 q 23 l e f g h m n D k a z v = .inl s) : nxR T q 23 l D s := by
  rw [nx23 h4] at hx
  have u := j23 (by decide) (by decide)
  rcases pIf_i hx with ⟨⟨k1, v1, v2⟩, hx⟩ | ⟨-, hx⟩
  · have b9 : a < z := by omega
    clear b6 b7 b8
    exact nx_go hD ⟨by omega, by omega, fun w => absurd w (by decide), fun w => absurd w (by decide), fun _ w => absurd w (by decide), fun w => absurd w (by decide), fun _ w => absurd w (by decide), fun w => absurd w (by decide), fun _ w => absurd w (by decide), fun _ w => absurd w (by decide), fun _ _ => u, fun w => absurd w (by decide)⟩ (by omega) (go_i hx)
  · exact fl_i hx
theorem nxk24 (hD : dI D) (h4 : k ≠ 4) (i3 : 0 ≤ q) (i5 : 0 ≤ l) (i6 : 2 * l ≤ q) (i7 : 2 * l + 1 ≤ q) (hr : -1 ≤ e ∧ e ≤ 99 ∧ -1 ≤ f ∧ f ≤ 99 ∧ -1 ≤ g ∧ g ≤ 99 ∧ -1 ≤ h ∧ h ≤ 99 ∧ 0 ≤ m ∧ m ≤ T.2.1 ∧ 0 ≤ n ∧ n ≤ T.2.1) (hb : q ≤ a ∧ a ≤ z ∧ z ≤ T.2.1 ∧ -1 ≤ v ∧ v ≤ 99) (b6 : k = 0 ∨ a < z) (b7 : k = 1 → v ≤ 29 ∧ isW (bs T.1 a z) ∧ v = wix (bs T.1 a z)) (b8 : k = 2 → 0 ≤ v) (j23 : (23 : Int) ≤ 24 → (24 : Int) ≤ 25 → (dWi D).length < 8) (hx : pNx T.1 q 24 l e f g h m n D k a z v = .inl s) : nxR T q 24 l D s := by
  rw [nx24 h4] at hx
  obtain ⟨k2, v1, v2, hx⟩ := pNum_i hx
  have v0 := b8 k2
  have d1 := hD.2.1
  have b9 : a < z := by omega
  clear b6 b7 b8
  have u := j23 (by decide) (by decide)
  rcases pIf_i hx with ⟨-, hx⟩ | ⟨-, hx⟩
  · exact fl_i hx
  · exact nx_go hD ⟨by omega, by omega, fun w => absurd w (by decide), fun w => absurd w (by decide), fun _ w => absurd w (by decide), fun w => absurd w (by decide), fun _ w => absurd w (by decide), fun w => absurd w (by decide), fun _ w => absurd w (by decide), fun _ w => absurd w (by decide), fun _ _ => u, fun w => absurd w (by decide)⟩ (by omega) (go_i hx)
theorem nxk25 (hD : dI D) (h4 : k ≠ 4) (i3 : 0 ≤ q) (i5 : 0 ≤ l) (i6 : 2 * l ≤ q) (i7 : 2 * l + 1 ≤ q) (hr : -1 ≤ e ∧ e ≤ 99 ∧ -1 ≤ f ∧ f ≤ 99 ∧ -1 ≤ g ∧ g ≤ 99 ∧ -1 ≤ h ∧ h ≤ 99 ∧ 0 ≤ m ∧ m ≤ T.2.1 ∧ 0 ≤ n ∧ n ≤ T.2.1) (hb : q ≤ a ∧ a ≤ z ∧ z ≤ T.2.1 ∧ -1 ≤ v ∧ v ≤ 99) (b6 : k = 0 ∨ a < z) (b7 : k = 1 → v ≤ 29 ∧ isW (bs T.1 a z) ∧ v = wix (bs T.1 a z)) (b8 : k = 2 → 0 ≤ v) (j23 : (23 : Int) ≤ 25 → (25 : Int) ≤ 25 → (dWi D).length < 8) (hx : pNx T.1 q 25 l e f g h m n D k a z v = .inl s) : nxR T q 25 l D s := by
  rw [nx25 h4] at hx
  obtain ⟨k2, v1, v2, hx⟩ := pNum_i hx
  have v0 := b8 k2
  have d1 := hD.2.1
  have b9 : a < z := by omega
  clear b6 b7 b8
  have u := j23 (by decide) (by decide)
  exact nx_26 (dI_aWi hD u) ⟨by omega, by omega, by omega, by omega, by omega⟩ (go_i hx)
theorem nxk26 (hD : dI D) (h4 : k ≠ 4) (i3 : 0 ≤ q) (i5 : 0 ≤ l) (i6 : 2 * l ≤ q) (hr : -1 ≤ e ∧ e ≤ 99 ∧ -1 ≤ f ∧ f ≤ 99 ∧ -1 ≤ g ∧ g ≤ 99 ∧ -1 ≤ h ∧ h ≤ 99 ∧ 0 ≤ m ∧ m ≤ T.2.1 ∧ 0 ≤ n ∧ n ≤ T.2.1) (hb : q ≤ a ∧ a ≤ z ∧ z ≤ T.2.1 ∧ -1 ≤ v ∧ v ≤ 99) (b6 : k = 0 ∨ a < z) (b7 : k = 1 → v ≤ 29 ∧ isW (bs T.1 a z) ∧ v = wix (bs T.1 a z)) (b8 : k = 2 → 0 ≤ v)  (hx : pNx T.1 q 26 l e f g h m n D k a z v = .inl s) : nxR T q 26 l D s := by
  rw [nx26 h4] at hx
  rcases pIf_i hx with ⟨⟨k1, v1⟩, hx⟩ | ⟨-, hx⟩
  · have b9 : a < z := by omega
    clear b6 b7 b8
    exact nx_go hD ⟨by omega, by omega, fun w => absurd w (by decide), fun w => absurd w (by decide), fun w _ => absurd w (by decide), fun w => absurd w (by decide), fun w _ => absurd w (by decide), fun w => absurd w (by decide), fun w _ => absurd w (by decide), fun w _ => absurd w (by decide), fun w _ => absurd w (by decide), fun w => absurd w (by decide)⟩ (by omega) (go_i hx)
  · exact fl_i hx
theorem nx_ok (hC : cI4 T q c l e f g h m n D) (hD : dI D) (ht : TK T q k a z v) (hl : 0 ≤ T.2.2) (hx : pNx T.1 q c l e f g h m n D k a z v = .inl s) : nxR T q c l D s := by
  obtain ⟨⟨i1, i2, i3, i4, i5, i6, i7⟩, hr, j3, j4, j5, j9, j14, j15, j18, j21, j23, j2⟩ := hC
  have bd := TK_bd ht i3 hl i4
  by_cases h17 : c = 17
  · subst h17
    rw [nx17] at hx
    rcases pIf_i hx with ⟨⟨k1, v1⟩, hx⟩ | ⟨-, hx⟩
    · obtain ⟨b1, b2, b3, b4, b5, b6, -, -⟩ := bd.2.2.2.2 (by rw [k1]; decide)
      have b9 : a < z := by
        rcases b6 with b6 | b6
        · rw [k1] at b6; exact absurd b6 (by decide)
        · exact b6
      have hc : cI4 T z 26 l 0 0 0 0 0 0 D := c26 ⟨Int.le_trans i3 (by omega), b3, i5, Int.le_trans i6 (by omega)⟩
      rw [go_i hx]
      exact ⟨⟨hc, hD⟩, Or.inl (show q < z by clear j3 j4 j5 j9 j14 j15 j18 j21 j23 j2 i7; omega), Or.inl ⟨rfl, rfl⟩⟩
    · have hc : cI4 T q 26 l e f g h m n D := ⟨⟨by decide, by decide, i3, i4, i5, i6, fun _ _ w => absurd rfl w⟩, hr, fun w => absurd w (by decide), fun w => absurd w (by decide), fun _ w => absurd w (by decide), fun w => absurd w (by decide), fun _ w => absurd w (by decide), fun w => absurd w (by decide), fun _ w => absurd w (by decide), fun _ w => absurd w (by decide), fun _ w => absurd w (by decide), fun w => absurd w (by decide)⟩
      rw [go_i hx]
      exact ⟨⟨hc, hD⟩, Or.inr ⟨rfl, rfl, rfl⟩, Or.inl ⟨rfl, rfl⟩⟩
  · by_cases h4 : k = 4
    · subst h4
      rw [nxF h17] at hx
      exact fl_i hx
    · obtain ⟨b1, b2, b3, b4, b5, b6, b7, b8⟩ := bd.2.2.2.2 h4
      have hb : q ≤ a ∧ a ≤ z ∧ z ≤ T.2.1 ∧ -1 ≤ v ∧ v ≤ 99 := ⟨b1, b2, b3, b4, b5⟩
      by_cases hcs : c = 0 ∨ c = 1 ∨ c = 2 ∨ c = 3 ∨ c = 4 ∨ c = 5 ∨ c = 6 ∨ c = 7 ∨ c = 8 ∨ c = 9 ∨ c = 14 ∨ c = 15 ∨ c = 16 ∨ c = 18 ∨ c = 19 ∨ c = 20 ∨ c = 21 ∨ c = 22 ∨ c = 23 ∨ c = 24 ∨ c = 25 ∨ c = 26
      · rcases hcs with rfl | rfl | rfl | rfl | rfl | rfl | rfl | rfl | rfl | rfl | rfl | rfl | rfl | rfl | rfl | rfl | rfl | rfl | rfl | rfl | rfl | rfl
        · rw [nx0 h4] at hx
          rcases pIf_i hx with ⟨-, hx⟩ | ⟨hk, hx⟩
          · exact fl_i hx
          · rcases pIf_i hx with ⟨⟨k1, v1, v2⟩, hx⟩ | ⟨-, hx⟩
            · have b9 : a < z := by
                rcases b6 with b6 | b6
                · exact absurd b6 hk
                · exact b6
              clear j3 j4 j5 j9 j14 j15 j18 j21 j23 j2 i7 b6 b7 b8 bd
              exact ln_ok hD i5 ⟨by omega, b3, by omega, by omega⟩ ⟨v1, v2⟩ hx rfl
            · exact fl_i hx
        · exact nxk1 hD h4 i3 i5 i6 (i7 (by decide) (by decide) (by decide)) hr hb b6 b7 b8  hx
        · exact nxk2 hD h4 i3 i5 i6 (i7 (by decide) (by decide) (by decide)) hr hb b6 b7 b8 j2 hx
        · exact nxk3 hD h4 i3 i5 i6 (i7 (by decide) (by decide) (by decide)) hr hb b6 b7 b8 j3 hx
        · exact nxk4 hD h4 i3 i5 i6 (i7 (by decide) (by decide) (by decide)) hr hb b6 b7 b8 j4 hx
        · exact nxk5 hD h4 i3 i5 i6 (i7 (by decide) (by decide) (by decide)) hr hb b6 b7 b8 j5 hx
        · exact nxk6 hD h4 i3 i5 i6 (i7 (by decide) (by decide) (by decide)) hr hb b6 b7 b8 j5 hx
        · exact nxk7 hD h4 i3 i5 i6 (i7 (by decide) (by decide) (by decide)) hr hb b6 b7 b8 j5 hx
        · exact nxk8 hD h4 i3 i5 i6 (i7 (by decide) (by decide) (by decide)) hr hb b6 b7 b8 j5 hx
        · exact nxk9 hD h4 i3 i5 i6 (i7 (by decide) (by decide) (by decide)) hr hb b6 b7 b8 j9 hx
        · exact nxk14 hD h4 i3 i5 i6 (i7 (by decide) (by decide) (by decide)) hr hb b6 b7 b8 j14 hx
        · exact nxk15 hD h4 i3 i5 i6 (i7 (by decide) (by decide) (by decide)) hr hb b6 b7 b8 j14 j15 hx
        · exact nxk16 hD h4 i3 i5 i6 (i7 (by decide) (by decide) (by decide)) hr hb b6 b7 b8 j14 j15 hx
        · exact nxk18 hD h4 i3 i5 i6 (i7 (by decide) (by decide) (by decide)) hr hb b6 b7 b8 j18 hx
        · exact nxk19 hD h4 i3 i5 i6 (i7 (by decide) (by decide) (by decide)) hr hb b6 b7 b8 j18 hx
        · exact nxk20 hD h4 i3 i5 i6 (i7 (by decide) (by decide) (by decide)) hr hb b6 b7 b8 j18 hx
        · exact nxk21 hD h4 i3 i5 i6 (i7 (by decide) (by decide) (by decide)) hr hb b6 b7 b8 j21 hx
        · exact nxk22 hD h4 i3 i5 i6 (i7 (by decide) (by decide) (by decide)) hr hb b6 b7 b8 j21 hx
        · exact nxk23 hD h4 i3 i5 i6 (i7 (by decide) (by decide) (by decide)) hr hb b6 b7 b8 j23 hx
        · exact nxk24 hD h4 i3 i5 i6 (i7 (by decide) (by decide) (by decide)) hr hb b6 b7 b8 j23 hx
        · exact nxk25 hD h4 i3 i5 i6 (i7 (by decide) (by decide) (by decide)) hr hb b6 b7 b8 j23 hx
        · exact nxk26 hD h4 i3 i5 i6 hr hb b6 b7 b8  hx
      · rw [nxO h4 hcs h17] at hx
        exact fl_i hx
theorem sI_0 (hn : 0 ≤ T.2.1) : sI T ((0, 0, 0), (0, 0, 0, 0, 0, 0), d0) := by
  have hc : cI4 T 0 0 0 0 0 0 0 0 0 d0 := ⟨by omega, by omega, fun w => absurd w (by decide), fun w => absurd w (by decide), fun w _ => absurd w (by decide), fun w => absurd w (by decide), fun w _ => absurd w (by decide), fun w => absurd w (by decide), fun w _ => absurd w (by decide), fun w _ => absurd w (by decide), fun w _ => absurd w (by decide), fun w => absurd w (by decide)⟩
  exact ⟨hc, dI_0⟩
theorem Run_sI (hn : 0 ≤ T.2.1) (hl : 0 ≤ T.2.2) : ∀ {i : Nat} {s : pSt}, Run T i (.inl s) → sI T s := by
  intro i
  induction i with
  | zero =>
    intro s hr
    have e : s = ((0, 0, 0), (0, 0, 0, 0, 0, 0), d0) := Sum.inl.inj (show (Sum.inl s : pO) = _ from hr)
    rw [e]
    exact sI_0 hn
  | succ i ih =>
    intro s hr
    obtain ⟨s0, h1, k, a, z, v, h2, h3⟩ := hr
    have hI := ih h1
    exact (nx_ok hI.1 hI.2 h2 hl (show pNs T.1 s0 k a z v = .inl s from h3.symm)).1
theorem Run_nx (hn : 0 ≤ T.2.1) (hl : 0 ≤ T.2.2) {i : Nat} {s s' : pSt} (h1 : Run T i (.inl s)) (h2 : Run T (i + 1) (.inl s')) : nxR T s.1.1 s.1.2.1 s.1.2.2 s.2.2 s' := by
  obtain ⟨s0, g1, k, a, z, v, g2, g3⟩ := h2
  have e := Sum.inl.inj (Run_det h1 g1)
  subst e
  have hI := Run_sI hn hl h1
  exact nx_ok hI.1 hI.2 g2 hl (show pNs T.1 s k a z v = .inl s' from g3.symm)
/-- one state behind another -/
def aft (s s' : pSt) : Prop := (s.1.1 < s'.1.1 ∨ (s.1.1 = s'.1.1 ∧ s.1.2.1 = 17 ∧ s'.1.2.1 = 26)) ∧ ((s.1.2.2 = s'.1.2.2 ∧ s'.2.2 = s.2.2) ∨ s.1.2.2 < s'.1.2.2)
theorem Run_aft (hn : 0 ≤ T.2.1) (hl : 0 ≤ T.2.2) {i : Nat} {s : pSt} (h1 : Run T i (.inl s)) : ∀ {d : Nat} {s' : pSt}, Run T (i + d + 1) (.inl s') → aft s s' := by
  intro d
  induction d with
  | zero =>
    intro s' h2
    obtain ⟨-, u, w⟩ := Run_nx hn hl h1 h2
    refine ⟨?_, ?_⟩
    · rcases u with u | ⟨u1, u2, u3⟩
      · exact Or.inl u
      · exact Or.inr ⟨u3.symm, u1, u2⟩
    · rcases w with ⟨w1, w2⟩ | w
      · exact Or.inl ⟨w1.symm, w2⟩
      · exact Or.inr (by omega)
  | succ d ih =>
    intro s' h2
    obtain ⟨s0, g1, g2⟩ := h2
    have g3 := ih (s' := s0) g1
    obtain ⟨-, u, w⟩ := Run_nx hn hl (show Run T (i + d + 1) (.inl s0) from g1) (show Run T (i + d + 1 + 1) (.inl s') from ⟨s0, g1, g2⟩)
    obtain ⟨x, y⟩ := g3
    refine ⟨?_, ?_⟩
    · rcases x with x | ⟨x1, x2, x3⟩
      · rcases u with u | ⟨u1, u2, u3⟩
        · exact Or.inl (by omega)
        · exact Or.inl (by omega)
      · rcases u with u | ⟨u1, u2, u3⟩
        · exact Or.inl (by omega)
        · omega
    · rcases y with ⟨y1, y2⟩ | y
      · rcases w with ⟨w1, w2⟩ | w
        · exact Or.inl ⟨by omega, w2.trans y2⟩
        · exact Or.inr (by omega)
      · rcases w with ⟨w1, w2⟩ | w
        · exact Or.inr (by omega)
        · exact Or.inr (by omega)
theorem G_cmp (hn : 0 ≤ T.2.1) (hl : 0 ≤ T.2.2) {s s' : pSt} (h : G T s) (h' : G T s') : s = s' ∨ aft s s' ∨ aft s' s := by
  obtain ⟨i, h⟩ := h
  obtain ⟨j, h'⟩ := h'
  rcases Nat.lt_trichotomy i j with x | x | x
  · exact Or.inr (Or.inl (Run_aft hn hl h (d := j - i - 1) (by rw [show i + (j - i - 1) + 1 = j by omega]; exact h')))
  · subst x
    exact Or.inl (Sum.inl.inj (Run_det h h'))
  · exact Or.inr (Or.inr (Run_aft hn hl h' (d := i - j - 1) (by rw [show j + (i - j - 1) + 1 = i by omega]; exact h)))
theorem G_q (hn : 0 ≤ T.2.1) (hl : 0 ≤ T.2.2) {s s' : pSt} (h : G T s) (h' : G T s') (he : s.1.1 = s'.1.1) (hc : s.1.2.1 ≠ 17) (hc' : s.1.2.1 ≠ 26) : s = s' := by
  rcases G_cmp hn hl h h' with x | ⟨x, -⟩ | ⟨x, -⟩
  · exact x
  · rcases x with x | ⟨-, x, -⟩
    · omega
    · exact absurd x hc
  · rcases x with x | ⟨-, -, x⟩
    · omega
    · exact absurd x hc'
/-- what l lines said -/
def dat (T : pT) (l : Int) (D : pD) : Prop := ∃ s, G T s ∧ s.1.2.2 = l ∧ s.2.2 = D
theorem dat_det (hn : 0 ≤ T.2.1) (hl : 0 ≤ T.2.2) {l : Int} {D D' : pD} (h : dat T l D) (h' : dat T l D') : D = D' := by
  obtain ⟨s, h1, h2, rfl⟩ := h
  obtain ⟨s', g1, g2, rfl⟩ := h'
  rcases G_cmp hn hl h1 g1 with x | ⟨-, x⟩ | ⟨-, x⟩
  · rw [x]
  · rcases x with ⟨-, x⟩ | x
    · exact x.symm
    · omega
  · rcases x with ⟨-, x⟩ | x
    · exact x
    · omega
theorem dat_I (hn : 0 ≤ T.2.1) (hl : 0 ≤ T.2.2) {l : Int} {D : pD} (h : dat T l D) : dI D := by
  obtain ⟨s, ⟨i, h1⟩, -, rfl⟩ := h
  exact (Run_sI hn hl h1).2
theorem G_sI (hn : 0 ≤ T.2.1) (hl : 0 ≤ T.2.2) {s : pSt} (h : G T s) : sI T s := by
  obtain ⟨i, h⟩ := h
  exact Run_sI hn hl h
end Spec6
