section Spec4
noncomputable def pNs (b : Int → Int) (s : pSt) (k a z v : Int) : pO := pNx b s.1.1 s.1.2.1 s.1.2.2 s.2.1.1 s.2.1.2.1 s.2.1.2.2.1 s.2.1.2.2.2.1 s.2.1.2.2.2.2.1 s.2.1.2.2.2.2.2 s.2.2 k a z v
/-- the machine's way -/
def Run (T : pT) : Nat → pO → Prop
  | 0, o => o = go 0 0 0 0 0 0 0 0 0 d0
  | i + 1, o => ∃ s, Run T i (.inl s) ∧ ∃ k a z v, TK T s.1.1 k a z v ∧ o = pNs T.1 s k a z v
variable {T : pT}
theorem pNs4 {b : Int → Int} {s : pSt} {a z v z' v' : Int} : pNs b s 4 a z v = pNs b s 4 a z' v' := by
  unfold pNs
  by_cases h : s.1.2.1 = 17
  · rw [h, nx17, nx17, pIf_f (fun q => absurd q.1 (by decide)), pIf_f (fun q => absurd q.1 (by decide))]
  · rw [nxF h, nxF h]
theorem Run_det : ∀ {i : Nat} {o o' : pO}, Run T i o → Run T i o' → o = o' := by
  intro i
  induction i with
  | zero => intro o o' h h'; exact Eq.trans (show o = _ from h) (Eq.symm (show o' = _ from h'))
  | succ i ih =>
    intro o o' h h'
    obtain ⟨s, h1, k, a, z, v, h2, rfl⟩ := h
    obtain ⟨s', g1, k', a', z', v', g2, rfl⟩ := h'
    have e := Sum.inl.inj (ih h1 g1)
    subst e
    obtain ⟨e1, e2, e3⟩ := TK_det h2 g2
    subst e1
    subst e2
    by_cases q : k = 4
    · subst q
      exact pNs4
    · obtain ⟨e4, e5⟩ := e3 q
      rw [e4, e5]
theorem Run_le {i : Nat} : ∀ {d : Nat} {o : pO}, Run T (i + d + 1) o → ∃ s, Run T i (.inl s) := by
  intro d
  induction d with
  | zero => intro o h; obtain ⟨s, h1, -⟩ := h; exact ⟨s, h1⟩
  | succ d ih => intro o h; obtain ⟨s, h1, -⟩ := h; exact ih h1
/-- the machine comes by here; it ends so -/
def G (T : pT) (s : pSt) : Prop := ∃ i, Run T i (.inl s)
def R (T : pT) (r : Int × Int) : Prop := ∃ i, Run T i (.inr r)
theorem R_det {r r' : Int × Int} (h : R T r) (h' : R T r') : r = r' := by
  obtain ⟨i, h⟩ := h
  obtain ⟨j, h'⟩ := h'
  rcases Nat.lt_trichotomy i j with e | e | e
  · obtain ⟨s, hs⟩ := Run_le (i := i) (d := j - i - 1) (o := .inr r') (by rw [show i + (j - i - 1) + 1 = j by omega]; exact h')
    cases Run_det h hs
  · subst e
    exact Sum.inr.inj (Run_det h h')
  · obtain ⟨s, hs⟩ := Run_le (i := j) (d := i - j - 1) (o := .inr r) (by rw [show j + (i - j - 1) + 1 = i by omega]; exact h)
    cases Run_det h' hs
theorem G_0 : G T ((0, 0, 0), (0, 0, 0, 0, 0, 0), d0) := ⟨0, rfl⟩
theorem G_go {s s' : pSt} {k a z v : Int} (h : G T s) (ht : TK T s.1.1 k a z v) (e : pNs T.1 s k a z v = .inl s') : G T s' := by
  obtain ⟨i, h⟩ := h
  exact ⟨i + 1, s, h, k, a, z, v, ht, e.symm⟩
theorem G_fl {s : pSt} {r : Int × Int} {k a z v : Int} (h : G T s) (ht : TK T s.1.1 k a z v) (e : pNs T.1 s k a z v = .inr r) : R T r := by
  obtain ⟨i, h⟩ := h
  exact ⟨i + 1, s, h, k, a, z, v, ht, e.symm⟩
/-- names -/
theorem getD_app {l : List (List Int)} {x : List Int} {j : Nat} : (l ++ [x]).getD j [] = if j = l.length then x else l.getD j [] := by
  rw [List.getD_eq_getElem?_getD, List.getD_eq_getElem?_getD]
  by_cases h : j < l.length
  · rw [List.getElem?_append_left h, if_neg (by omega)]
  · rw [List.getElem?_append_right (by omega)]
    by_cases e : j = l.length
    · rw [if_pos e, e, Nat.sub_self]
      rfl
    · rw [if_neg e, List.getElem?_eq_none (by show 1 ≤ j - l.length; omega), List.getElem?_eq_none (by omega)]
theorem nm_aOw {D : pD} {L : List Int} (h : (dOw D).length < 4) (j : Nat) : nm (aOw D L) j = if j = (dOw D).length then L else nm D j := by
  unfold nm
  by_cases q : j < 4
  · rw [if_pos q, if_pos q]
    exact getD_app
  · rw [if_neg q, if_neg q, if_neg (show ¬ j = (dOw D).length by omega)]
    rfl
theorem nm_aSp {D : pD} {L : List Int} {x y w v : Int} (h : (dSt D).length < 3) (j : Nat) : nm (aSp D L x y w v) j = if j = 4 + (dSt D).length then L else nm D j := by
  unfold nm
  by_cases q : j < 4
  · rw [if_pos q, if_pos q, if_neg (by omega)]
    rfl
  · rw [if_neg q, if_neg q]
    by_cases q2 : j < 7
    · rw [if_pos q2, if_pos q2]
      have e : (dSt (aSp D L x y w v)).getD (j - 4) [] = if j - 4 = (dSt D).length then L else (dSt D).getD (j - 4) [] := getD_app
      rw [e]
      by_cases q3 : j = 4 + (dSt D).length
      · rw [if_pos (by omega), if_pos q3]
      · rw [if_neg (by omega), if_neg q3]
    · rw [if_neg q2, if_neg q2, if_neg (by omega)]
      rfl
theorem nm_aKn {D : pD} {L : List Int} (j : Nat) : nm (aKn D L) j = if j = 7 + (dKn D).length then L else nm D j := by
  unfold nm
  by_cases q : j < 4
  · rw [if_pos q, if_pos q, if_neg (by omega)]
    rfl
  · rw [if_neg q, if_neg q]
    by_cases q2 : j < 7
    · rw [if_pos q2, if_pos q2, if_neg (by omega)]
      rfl
    · rw [if_neg q2, if_neg q2]
      have e : (dKn (aKn D L)).getD (j - 7) [] = if j - 7 = (dKn D).length then L else (dKn D).getD (j - 7) [] := getD_app
      rw [e]
      by_cases q3 : j = 7 + (dKn D).length
      · rw [if_pos (by omega), if_pos q3]
      · rw [if_neg (by omega), if_neg q3]
theorem nm_ow {D : pD} (h : (dOw D).length < 4) : nm D (dOw D).length = [] := by
  unfold nm
  rw [if_pos h, List.getD_eq_getElem?_getD, List.getElem?_eq_none (Nat.le_refl _)]
  rfl
theorem nm_st {D : pD} (h : (dSt D).length < 3) : nm D (4 + (dSt D).length) = [] := by
  unfold nm
  rw [if_neg (by omega), if_pos (by omega), List.getD_eq_getElem?_getD, List.getElem?_eq_none (by omega)]
  rfl
theorem nm_kn {D : pD} : nm D (7 + (dKn D).length) = [] := by
  unfold nm
  rw [if_neg (by omega), if_neg (by omega), List.getD_eq_getElem?_getD, List.getElem?_eq_none (by omega)]
  rfl
/-- names are words, none stands twice -/
def nmI (D : pD) : Prop := dst D ∧ ∀ j, j < 12 → nm D j = [] ∨ isW (nm D j)
theorem isW_ne {L : List Int} (h : isW L) : L ≠ [] := by intro e; rw [e] at h; exact absurd h.1 (by simp)
theorem nmI_add {D D' : pD} {L : List Int} {s : Nat} (h : nmI D) (hf : frs D L) (hL : isW L) (he : ∀ j, nm D' j = if j = s then L else nm D j) : nmI D' := by
  constructor
  · intro i j hi hj e hn
    rw [he, he] at e
    rw [he] at hn
    by_cases q1 : i = s
    · by_cases q2 : j = s
      · omega
      · rw [if_pos q1, if_neg q2] at e
        exact absurd e.symm (hf j hj)
    · by_cases q2 : j = s
      · rw [if_neg q1, if_pos q2] at e
        exact absurd e (hf i hi)
      · rw [if_neg q1, if_neg q2] at e
        rw [if_neg q1] at hn
        exact h.1 i j hi hj e hn
  · intro j hj
    rw [he]
    by_cases q : j = s
    · rw [if_pos q]
      exact Or.inr hL
    · rw [if_neg q]
      exact h.2 j hj
/-- what holds of what the lines said -/
def dI (D : pD) : Prop := ((dOw D).length ≤ 4 ∧ (dSt D).length ≤ 3 ∧ (dKn D).length ≤ 5 ∧ 0 ≤ dFi D ∧ dFi D ≤ 8 ∧ (dTr D).length ≤ 14 ∧ (dWa D).length ≤ 10 ∧ (dWi D).length ≤ 8) ∧ (0 ≤ dCz D ∧ dCz D ≤ 1 ∧ 1 ≤ dCx D ∧ dCx D ≤ 10 ∧ 1 ≤ dCy D ∧ dCy D ≤ 10) ∧ nmI D
def cI4 (T : pT) (q c l e f g h m n : Int) (D : pD) : Prop :=
  (0 ≤ c ∧ c ≤ 26 ∧ 0 ≤ q ∧ q ≤ T.2.1 ∧ 0 ≤ l ∧ 2 * l ≤ q ∧ (c ≠ 0 → c ≠ 17 → c ≠ 26 → 2 * l + 1 ≤ q)) ∧ (-1 ≤ e ∧ e ≤ 99 ∧ -1 ≤ f ∧ f ≤ 99 ∧ -1 ≤ g ∧ g ≤ 99 ∧ -1 ≤ h ∧ h ≤ 99 ∧ 0 ≤ m ∧ m ≤ T.2.1 ∧ 0 ≤ n ∧ n ≤ T.2.1)
  ∧ (c = 3 → (dOw D).length < 4) ∧ (c = 4 → dFi D < 8) ∧ (5 ≤ c → c ≤ 8 → (e = -1 → (dSt D).length < 3 ∧ frs D (bs T.1 m n) ∧ isW (bs T.1 m n)) ∧ (e ≠ -1 → dFi D < 8)) ∧ (c = 9 → (dSt D).length < 3) ∧ (14 ≤ c → c ≤ 16 → (dKn D).length < 5) ∧ (c = 15 ∨ c = 16 → frs D (bs T.1 m n) ∧ isW (bs T.1 m n)) ∧ (18 ≤ c → c ≤ 20 → (dTr D).length < 14) ∧ (21 ≤ c → c ≤ 22 → (dWa D).length < 10) ∧ (23 ≤ c → c ≤ 25 → (dWi D).length < 8) ∧ (c = 2 → 1 ≤ e ∧ e ≤ 10)
def sI (T : pT) (s : pSt) : Prop := cI4 T s.1.1 s.1.2.1 s.1.2.2 s.2.1.1 s.2.1.2.1 s.2.1.2.2.1 s.2.1.2.2.2.1 s.2.1.2.2.2.2.1 s.2.1.2.2.2.2.2 s.2.2 ∧ dI s.2.2
theorem nmI_0 : nmI d0 := by
  have e : ∀ j, nm d0 j = [] := by
    intro j
    unfold nm
    by_cases q : j < 4
    · rw [if_pos q]; rfl
    · rw [if_neg q]
      by_cases q2 : j < 7
      · rw [if_pos q2]; rfl
      · rw [if_neg q2]; rfl
  exact ⟨fun i j _ _ _ hn => absurd (e i) hn, fun j _ => Or.inl (e j)⟩
theorem dI_0 : dI d0 := ⟨by decide, by decide, nmI_0⟩
end Spec4
