section Spec2
/-- a tape: its bytes, how many, the limit -/
abbrev pT : Type := (Int → Int) × Int × Int
variable {T : pT}
def P1 (T : pT) (q a : Int) : Prop := q ≤ a ∧ (∀ i, q ≤ i → i < a → i < T.2.1 ∧ blk (T.1 i)) ∧ (a < T.2.1 → ¬ blk (T.1 a))
theorem P1_det {q a a' : Int} (h : P1 T q a) (h' : P1 T q a') : a = a' := by
  obtain ⟨h1, h2, h3⟩ := h
  obtain ⟨g1, g2, g3⟩ := h'
  rcases Int.lt_trichotomy a a' with e | e | e
  · obtain ⟨u, w⟩ := g2 a h1 e
    exact absurd w (h3 u)
  · exact e
  · obtain ⟨u, w⟩ := h2 a' g1 e
    exact absurd w (g3 u)
def aln (c : Int) : Prop := ltr c ∨ dgt c
/-- a longest row of letters and digits -/
def RE (T : pT) (e : Int) (j : Nat) : Prop := (∀ i : Nat, i < j → e + i < T.2.1 ∧ aln (T.1 (e + i))) ∧ (e + j < T.2.1 → ¬ aln (T.1 (e + j)))
theorem RE_det {e : Int} {j j' : Nat} (h : RE T e j) (h' : RE T e j') : j = j' := by
  rcases Nat.lt_trichotomy j j' with q | q | q
  · obtain ⟨u, w⟩ := h'.1 j q
    exact absurd w (h.2 u)
  · exact q
  · obtain ⟨u, w⟩ := h.1 j' q
    exact absurd w (h'.2 u)
def isW (l : List Int) : Prop := 1 ≤ l.length ∧ l.length ≤ 7 ∧ ∀ c ∈ l, ltr c
def isN (l : List Int) : Prop := 1 ≤ l.length ∧ l.length ≤ 2 ∧ ∀ c ∈ l, dgt c
theorem isWN {l : List Int} (h : isW l) : ¬ isN l := by
  intro h'
  cases l with
  | nil => exact absurd h.1 (by simp)
  | cons c l =>
    have a := h.2.2 c (.head _)
    have b := h'.2.2 c (.head _)
    unfold ltr at a
    unfold dgt at b
    omega
/-- a token that begins at p -/
def TKc (T : pT) (p k z v : Int) : Prop :=
  (sgn (T.1 p) ∧ k = 3 ∧ z = p + 1 ∧ v = T.1 p) ∨ (¬ sgn (T.1 p) ∧ ∃ j : Nat, RE T p j ∧ ((isW (bsF T.1 p j) ∧ k = 1 ∧ z = p + j ∧ v = wix (bsF T.1 p j)) ∨ (isN (bsF T.1 p j) ∧ k = 2 ∧ z = p + j ∧ v = cd 10 48 (bsF T.1 p j)) ∨ (¬ isW (bsF T.1 p j) ∧ ¬ isN (bsF T.1 p j) ∧ k = 4)))
def TK (T : pT) (q k a z v : Int) : Prop := ∃ p, P1 T q p ∧ ((T.2.2 ≤ p ∧ T.2.2 < T.2.1 ∧ k = 4 ∧ a = T.2.2) ∨ (T.2.1 ≤ p ∧ T.2.1 ≤ T.2.2 ∧ k = 0 ∧ a = p ∧ z = p ∧ v = -1) ∨ (p < T.2.1 ∧ (T.2.1 ≤ T.2.2 ∨ p < T.2.2) ∧ a = p ∧ TKc T p k z v))
theorem TKc_det {p k z v k' z' v' : Int} (h : TKc T p k z v) (h' : TKc T p k' z' v') : k = k' ∧ (k ≠ 4 → z = z' ∧ v = v') := by
  rcases h with ⟨h0, h1, h2, h3⟩ | ⟨h0, j, hj, h⟩
  · rcases h' with ⟨-, g1, g2, g3⟩ | ⟨g0, -⟩
    · exact ⟨by omega, fun _ => ⟨by omega, by omega⟩⟩
    · exact absurd h0 g0
  · rcases h' with ⟨g0, -⟩ | ⟨-, j', hj', h'⟩
    · exact absurd g0 h0
    · have e := RE_det hj hj'
      subst e
      rcases h with ⟨a0, a1, a2, a3⟩ | ⟨a0, a1, a2, a3⟩ | ⟨a0, a1, a2⟩
      · rcases h' with ⟨b0, b1, b2, b3⟩ | ⟨b0, b1, b2, b3⟩ | ⟨b0, b1, b2⟩
        · exact ⟨by omega, fun _ => ⟨by omega, by rw [a3, b3]⟩⟩
        · exact absurd b0 (isWN a0)
        · exact absurd a0 b0
      · rcases h' with ⟨b0, b1, b2, b3⟩ | ⟨b0, b1, b2, b3⟩ | ⟨b0, b1, b2⟩
        · exact absurd a0 (isWN b0)
        · exact ⟨by omega, fun _ => ⟨by omega, by rw [a3, b3]⟩⟩
        · exact absurd a0 b1
      · rcases h' with ⟨b0, b1, b2, b3⟩ | ⟨b0, b1, b2, b3⟩ | ⟨b0, b1, b2⟩
        · exact absurd b0 a0
        · exact absurd b0 a1
        · exact ⟨by omega, fun q => absurd a2 q⟩
theorem TK_det {q k a z v k' a' z' v' : Int} (h : TK T q k a z v) (h' : TK T q k' a' z' v') : k = k' ∧ a = a' ∧ (k ≠ 4 → z = z' ∧ v = v') := by
  obtain ⟨p, hp, h⟩ := h
  obtain ⟨p', hp', h'⟩ := h'
  have e := P1_det hp hp'
  subst e
  rcases h with ⟨h1, h2, h3, h4⟩ | ⟨h1, h2, h3, h4, h5, h6⟩ | ⟨h1, h2, h3, h4⟩
  · rcases h' with ⟨g1, g2, g3, g4⟩ | ⟨g1, g2, g3, g4, g5, g6⟩ | ⟨g1, g2, g3, g4⟩
    · exact ⟨by omega, by omega, fun q => absurd h3 q⟩
    · omega
    · omega
  · rcases h' with ⟨g1, g2, g3, g4⟩ | ⟨g1, g2, g3, g4, g5, g6⟩ | ⟨g1, g2, g3, g4⟩
    · omega
    · exact ⟨by omega, by omega, fun _ => ⟨by omega, by omega⟩⟩
    · omega
  · rcases h' with ⟨g1, g2, g3, g4⟩ | ⟨g1, g2, g3, g4, g5, g6⟩ | ⟨g1, g2, g3, g4⟩
    · omega
    · omega
    · obtain ⟨u, w⟩ := TKc_det h4 g4
      exact ⟨u, by omega, w⟩
/-- what a token's ends and value may be -/
theorem TK_bd {q k a z v : Int} (h : TK T q k a z v) (hq : 0 ≤ q) (hl : 0 ≤ T.2.2) (hn : q ≤ T.2.1) : 0 ≤ k ∧ k ≤ 4 ∧ 0 ≤ a ∧ a ≤ T.2.1 ∧ (k ≠ 4 → q ≤ a ∧ a ≤ z ∧ z ≤ T.2.1 ∧ -1 ≤ v ∧ v ≤ 99 ∧ (k = 0 ∨ a < z) ∧ (k = 1 → v ≤ 29 ∧ isW (bs T.1 a z) ∧ v = wix (bs T.1 a z)) ∧ (k = 2 → 0 ≤ v)) := by
  obtain ⟨p, ⟨p1, p2, p3⟩, h⟩ := h
  have pn : p ≤ T.2.1 := by
    by_cases e : p = q
    · omega
    · have := (p2 (p - 1) (by omega) (by omega)).1
      omega
  rcases h with ⟨h1, h2, h3, h4⟩ | ⟨h1, h2, h3, h4, h5, h6⟩ | ⟨h1, h2, h3, h4⟩
  · exact ⟨by omega, by omega, by omega, by omega, fun q => absurd h3 q⟩
  · exact ⟨by omega, by omega, by omega, by omega, fun _ => ⟨by omega, by omega, by omega, by omega, by omega, by omega, fun e => by omega, fun e => by omega⟩⟩
  · rcases h4 with ⟨g0, g1, g2, g3⟩ | ⟨g0, j, hj, h⟩
    · have : 0 ≤ T.1 p ∧ T.1 p ≤ 62 := by unfold sgn at g0; omega
      exact ⟨by omega, by omega, by omega, by omega, fun _ => ⟨by omega, by omega, by omega, by omega, by omega, by omega, fun e => by omega, fun e => by omega⟩⟩
    · have hz : ∀ k : Nat, 1 ≤ k → k = j → p + k ≤ T.2.1 := fun k hk e => by
        subst e
        have := (hj.1 (k - 1) (by omega)).1
        omega
      rcases h with ⟨a0, a1, a2, a3⟩ | ⟨a0, a1, a2, a3⟩ | ⟨a0, a1, a2⟩
      · have lj : 1 ≤ j := by have := a0.1; rw [bsF_len] at this; exact this
        have := hz j lj rfl
        have hw := wix_r (bsF T.1 p j)
        have eb : bs T.1 a z = bsF T.1 p j := by unfold bs; rw [a2, h3, show (p + (j : Int) - p).toNat = j by omega]
        exact ⟨by omega, by omega, by omega, by omega, fun _ => ⟨by omega, by omega, by omega, by omega, by omega, by omega, fun _ => ⟨by omega, by rw [eb]; exact a0, by rw [eb]; exact a3⟩, fun e => by omega⟩⟩
      · have lj : 1 ≤ j := by have := a0.1; rw [bsF_len] at this; exact this
        have lj2 : j ≤ 2 := by have := a0.2.1; rw [bsF_len] at this; exact this
        have := hz j lj rfl
        have hd : ∀ c ∈ bsF T.1 p j, 0 ≤ c - 48 ∧ c - 48 < 10 := fun c hc => by have := a0.2.2 c hc; unfold dgt at this; omega
        have w0 := cd_pos (m := 10) (o := 48) (by decide) (l := bsF T.1 p j) rfl (fun c hc => (hd c hc).1)
        have w1 : v ≤ 99 := by
          have w := cd_lt (m := 10) (o := 48) (by decide) (l := bsF T.1 p j) rfl hd
          rw [bsF_len] at w
          rcases (show j = 1 ∨ j = 2 by omega) with e | e <;> rw [e] at w a3
          · have w : cd 10 48 (bsF T.1 p 1) < 10 := w
            omega
          · have w : cd 10 48 (bsF T.1 p 2) < 100 := w
            omega
        exact ⟨by omega, by omega, by omega, by omega, fun _ => ⟨by omega, by omega, by omega, by omega, by omega, by omega, fun e => by omega, fun _ => by omega⟩⟩
      · exact ⟨by omega, by omega, by omega, by omega, fun q => absurd a2 q⟩
/-- what the lines said: names of owners, strips, kinds; how many fields; areas; trees; walls; winds; the size -/
abbrev pD : Type := (List (List Int) × List (List Int) × List (List Int)) × Int × List (Int × Int × Int × Int) × List (Int × Int) × List (Int × Int) × List (Int × Int) × (Int × Int × Int)
def dOw (D : pD) : List (List Int) := D.1.1
def dSt (D : pD) : List (List Int) := D.1.2.1
def dKn (D : pD) : List (List Int) := D.1.2.2
def dFi (D : pD) : Int := D.2.1
def dAr (D : pD) : List (Int × Int × Int × Int) := D.2.2.1
def dTr (D : pD) : List (Int × Int) := D.2.2.2.1
def dWa (D : pD) : List (Int × Int) := D.2.2.2.2.1
def dWi (D : pD) : List (Int × Int) := D.2.2.2.2.2.1
def dCz (D : pD) : Int := D.2.2.2.2.2.2.1
def dCx (D : pD) : Int := D.2.2.2.2.2.2.2.1
def dCy (D : pD) : Int := D.2.2.2.2.2.2.2.2
def d0 : pD := (([], [], []), 0, [], [], [], [], (0, 6, 6))
def aOw (D : pD) (L : List Int) : pD := ((dOw D ++ [L], dSt D, dKn D), D.2)
def aKn (D : pD) (L : List Int) : pD := ((dOw D, dSt D, dKn D ++ [L]), D.2)
def aSp (D : pD) (L : List Int) (x y w h : Int) : pD := ((dOw D, dSt D ++ [L], dKn D), dFi D, (x, y, w, h) :: dAr D, D.2.2.2)
def aFi (D : pD) (x y w h : Int) : pD := (D.1, dFi D + 1, (x, y, w, h) :: dAr D, D.2.2.2)
def aTr (D : pD) (x y : Int) : pD := (D.1, dFi D, dAr D, dTr D ++ [(x, y)], D.2.2.2.2)
def aWa (D : pD) (x y : Int) : pD := (D.1, dFi D, dAr D, dTr D, dWa D ++ [(x, y)], D.2.2.2.2.2)
def aWi (D : pD) (x y : Int) : pD := (D.1, dFi D, dAr D, dTr D, dWa D, dWi D ++ [(x, y)], D.2.2.2.2.2.2)
def aSz (D : pD) (x y : Int) : pD := (D.1, dFi D, dAr D, dTr D, dWa D, dWi D, (1, x, y))
def nm (D : pD) (j : Nat) : List Int := if j < 4 then (dOw D).getD j [] else if j < 7 then (dSt D).getD (j - 4) [] else (dKn D).getD (j - 7) []
def tkn (D : pD) (x y : Int) : Prop := ∃ a ∈ dAr D, a.1 ≤ x ∧ x < a.1 + a.2.2.1 ∧ a.2.1 ≤ y ∧ y < a.2.1 + a.2.2.2
def anyT (D : pD) (f g h v : Int) : Prop := ∃ x y, f ≤ x ∧ x < f + h ∧ g ≤ y ∧ y < g + v ∧ tkn D x y
def fre (D : pD) (x y : Int) : Prop := (x, y) ∉ dTr D ∧ (x, y) ∉ dWa D
def frs (D : pD) (L : List Int) : Prop := ∀ j, j < 12 → nm D j ≠ L
/-- which of the names it is -/
noncomputable def slF (D : pD) (L : List Int) : Nat → Int
  | 0 => -1
  | k + 1 => pIf (nm D k = L) (k : Int) (slF D L k)
theorem slF_no {D : pD} {L : List Int} : ∀ {k : Nat}, (∀ j, j < k → nm D j ≠ L) → slF D L k = -1 := by
  intro k
  induction k with
  | zero => intro _; rfl
  | succ k ih => intro h; show pIf (nm D k = L) (k : Int) (slF D L k) = -1; rw [pIf_f (h k (by omega))]; exact ih (fun j hj => h j (by omega))
theorem slF_r {D : pD} {L : List Int} : ∀ {k : Nat}, (slF D L k = -1 ∧ ∀ j, j < k → nm D j ≠ L) ∨ ∃ j : Nat, j < k ∧ slF D L k = (j : Int) ∧ nm D j = L := by
  intro k
  induction k with
  | zero => exact Or.inl ⟨rfl, fun j hj => by omega⟩
  | succ k ih =>
    by_cases e : nm D k = L
    · exact Or.inr ⟨k, by omega, pIf_t e, e⟩
    · have e2 : slF D L (k + 1) = slF D L k := pIf_f e
      rcases ih with ⟨h1, h2⟩ | ⟨j, h1, h2, h3⟩
      · exact Or.inl ⟨e2.trans h1, fun j hj => by
          by_cases q : j = k
          · rw [q]; exact e
          · exact h2 j (by omega)⟩
      · exact Or.inr ⟨j, by omega, e2.trans h2, h3⟩
/-- no name stands twice -/
def dst (D : pD) : Prop := ∀ i j, i < 12 → j < 12 → nm D i = nm D j → nm D i ≠ [] → i = j
theorem slF_is {D : pD} {L : List Int} (h : dst D) {r : Nat} (hr : r < 12) (e : nm D r = L) (hL : L ≠ []) : slF D L 12 = (r : Int) := by
  rcases slF_r (D := D) (L := L) (k := 12) with ⟨-, h2⟩ | ⟨j, h1, h2, h3⟩
  · exact absurd e (h2 r hr)
  · rw [h2, h j r h1 hr (by rw [h3, e]) (by rw [h3]; exact hL)]
end Spec2
