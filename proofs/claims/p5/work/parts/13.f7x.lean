section CkFact7
variable {T : pT} {hp : Lean.RArray Nat} {q c l e f g h m n k a z v x y w u i p s t d b lo hi : Int} {D : pD} {j j0 j1 : Nat} {P Q : pD → Prop}
/-- a scan of an area: no cell of it that is ahead is taken -/
theorem scn_0 (h1 : 0 ≤ x) (h2 : x + w ≤ 10 ∨ True) (hs : s = x + 10 * y) : scN D s x y w h := by
  intro p hp hs' hin
  unfold inR at hin
  omega
theorem scn_s (hS : scN D s x y w h) (hc : ¬ tkI D p) (e1 : p = s) (e2 : t = s + 1) : scN D t x y w h := by
  intro p' hp' hs' hin
  by_cases r : (p' : Int) < s
  · exact hS p' hp' r hin
  · have : (p' : Int) = p := by omega
    rw [this]
    exact hc
theorem scn_r (hS : scN D s x y w h) (hy : s = 10 * u + v) (hv : x + w ≤ v) (hw : x + w ≤ 10) (h0 : 0 ≤ x) (e2 : t = x + 10 * u + 10) (hu : 0 ≤ u) : scN D t x y w h := by
  intro p' hp' hs' hin
  by_cases r : (p' : Int) < s
  · exact hS p' hp' r hin
  · exfalso
    unfold inR at hin
    omega
theorem scn_end (hS : scN D s x y w h) (e1 : s = x + 10 * u) (hu : y + h ≤ u) (h0 : 0 ≤ x) (hx : x + w ≤ 10) (hy : 0 ≤ y) (hh : y + h ≤ 10) : ¬ anyT D x y w h := by
  rintro ⟨x', y', h1, h2, h3, h4, h5⟩
  have e : ((10 * y' + x').toNat : Int) = 10 * y' + x' := by omega
  refine hS (10 * y' + x').toNat (by omega) (by omega) ?_ ?_
  · unfold inR
    omega
  · unfold tkI
    rw [e, show (10 * y' + x') % 10 = x' by omega, show (10 * y' + x') / 10 = y' by omega]
    exact h5
theorem any_of (hc : tkI D p) (e1 : p = 10 * u + v) (hu : y ≤ u ∧ u < y + h) (hv : x ≤ v ∧ v < x + w) (h9 : 0 ≤ v ∧ v ≤ 9) : anyT D x y w h := by
  refine ⟨v, u, hv.1, hv.2, hu.1, hu.2, ?_⟩
  unfold tkI at hc
  rw [show p % 10 = v by omega, show p / 10 = u by omega] at hc
  exact hc
/-- areas are written -/
def tlP (F : Nat → Prop) (s x y w h : Int) (D : pD) : Prop := ∀ p : Nat, p < 100 → (p : Int) < s → (F p ↔ ¬ (tkI D p ∨ inR x y w h p))
def thP (F : Nat → Prop) (s : Int) (D : pD) : Prop := ∀ p : Nat, p < 100 → s ≤ (p : Int) → (F p ↔ ¬ tkI D p)
def tbP (F : Nat → Prop) (x y w h : Int) (D : pD) : Prop := ∀ p : Nat, p < 100 → (F p ↔ ¬ (tkI D p ∨ inR x y w h p))
def taP (F : Nat → Prop) (D : pD) : Prop := ∀ p : Nat, p < 100 → (F p ↔ ¬ tkI D p)
theorem tl_0 {F : Nat → Prop} (hA : taP F D) (h0 : 0 ≤ x) (hs : s = x + 10 * y) : tlP F s x y w h D := by
  intro p hp hs'
  rw [hA p hp]
  have : ¬ inR x y w h p := by unfold inR; omega
  constructor
  · intro h1 h2
    rcases h2 with h2 | h2
    · exact h1 h2
    · exact this h2
  · intro h1 h2
    exact h1 (Or.inl h2)
theorem th_0 {F : Nat → Prop} (hA : taP F D) : thP F s D := fun p hp _ => hA p hp
theorem th_s {F : Nat → Prop} (hA : thP F s D) (e1 : s ≤ t) : thP F t D := fun p hp hs => hA p hp (by omega)
theorem tl_s {F : Nat → Prop} (hA : tlP F s x y w h D) (hF : ¬ F j) (e1 : (j : Int) = s) (e2 : t = s + 1) (hin : inR x y w h s) : tlP F t x y w h D := by
  intro p hp hs
  by_cases r : (p : Int) < s
  · exact hA p hp r
  · have e3 : p = j := by omega
    subst e3
    constructor
    · intro h1; exact absurd h1 hF
    · intro h1
      exact absurd (Or.inr (by rw [e1]; exact hin)) h1
theorem tl_r {F : Nat → Prop} (hA : tlP F s x y w h D) (hB : thP F s D) (hy : s = 10 * u + v) (hv : x + w ≤ v) (hw : x + w ≤ 10) (h0 : 0 ≤ x) (e2 : t = x + 10 * u + 10) : tlP F t x y w h D := by
  intro p hp hs
  by_cases r : (p : Int) < s
  · exact hA p hp r
  · rw [hB p hp (by omega)]
    have : ¬ inR x y w h p := by unfold inR; omega
    constructor
    · intro h1 h2
      rcases h2 with h2 | h2
      · exact h1 h2
      · exact this h2
    · intro h1 h2
      exact h1 (Or.inl h2)
theorem tb_of {F : Nat → Prop} (hA : tlP F s x y w h D) (hB : thP F s D) (e1 : s = x + 10 * u) (hu : y + h ≤ u) (h0 : 0 ≤ x) : tbP F x y w h D := by
  intro p hp
  by_cases r : (p : Int) < s
  · exact hA p hp r
  · rw [hB p hp (by omega)]
    have : ¬ inR x y w h p := by unfold inR; omega
    constructor
    · intro h1 h2
      rcases h2 with h2 | h2
      · exact h1 h2
      · exact this h2
    · intro h1 h2
      exact h1 (Or.inl h2)
theorem ta_fi {F : Nat → Prop} (hA : tbP F x y w h D) : taP F (aFi D x y w h) := by
  intro p hp
  rw [hA p hp]
  exact not_congr (tkI_add (D := D) (D' := aFi D x y w h) rfl).symm
theorem ta_sp {F : Nat → Prop} {L : List Int} (hA : tbP F x y w h D) : taP F (aSp D L x y w h) := by
  intro p hp
  rw [hA p hp]
  exact not_congr (tkI_add (D := D) (D' := aSp D L x y w h) rfl).symm
theorem ce_1 (hA : dF (XT hp) l (taP (fX hp))) (h9 : j < 100) (hF : ¬ fX hp j) (e1 : p = (j : Int)) (eb : b = 1) : dF (XT hp) l (fun D => bP b (tkI D p)) := dF_mp hA (fun D hD => Or.inl ⟨eb, by rw [e1]; exact Classical.not_not.1 (fun w => hF ((hD j h9).2 w))⟩)
theorem ce_0 (hA : dF (XT hp) l (taP (fX hp))) (h9 : j < 100) (hF : fX hp j) (e1 : p = (j : Int)) (eb : b = 0) : dF (XT hp) l (fun D => bP b (tkI D p)) := dF_mp hA (fun D hD => Or.inr ⟨eb, by rw [e1]; exact (hD j h9).1 hF⟩)
theorem fX_o (h1 : hI hp (rr hp 1 8) j = x) (h2 : x ≠ -1) : ¬ fX hp j := fun w => h2 (by rw [← h1]; exact w.1)
theorem fX_s (h1 : hI hp (rr hp 1 9) j = x) (h2 : x ≠ -1) : ¬ fX hp j := fun w => h2 (by rw [← h1]; exact w.2)
theorem fX_b (h1 : hI hp (rr hp 1 8) j = x) (h2 : hI hp (rr hp 1 9) j0 = y) (e0 : j0 = j) (h3 : x = -1) (h4 : y = -1) : fX hp j := by subst e0; exact ⟨h1.trans h3, h2.trans h4⟩
theorem bP_1 {A : Prop} (hb : bP b A) (e1 : b = 1) : A := by
  rcases hb with ⟨-, h⟩ | ⟨h, -⟩
  · exact h
  · omega
theorem bP_0 {A : Prop} (hb : bP b A) (e1 : b = 0) : ¬ A := by
  rcases hb with ⟨h, -⟩ | ⟨-, h⟩
  · omega
  · exact h
theorem d1 {A : pD → Prop} (hF : dF T l (fun D => bP b (A D))) (e1 : b = 1) : dF T l A := dF_mp hF (fun _ h => bP_1 h e1)
theorem d0' {A : pD → Prop} (hF : dF T l (fun D => bP b (A D))) (e1 : b = 0) : dF T l (fun D => ¬ A D) := dF_mp hF (fun _ h => bP_0 h e1)
theorem bP_i1 {A : Prop} (h : A) (e1 : b = 1) : bP b A := Or.inl ⟨e1, h⟩
theorem bP_i0 {A : Prop} (h : ¬ A) (e1 : b = 0) : bP b A := Or.inr ⟨e1, h⟩
/-- bits -/
theorem bt_c (h : bt w j) : w / 2 ^ j % 2 = 1 := h
theorem sh_bit {z : Int} (hs : 0 ≤ y → y ≤ 31 → z = x / 2 ^ y.toNat) (ha : (1 : Int) = 1 → u = z % 2) (e1 : y = (j : Int)) (hj : j < 14) : u = x / 2 ^ j % 2 := by
  have h1 := hs (by omega) (by omega)
  have h2 := ha rfl
  rw [h2, h1, e1]
  rfl
theorem bt_no (h : ¬ (w / 2 ^ j % 2 = 1)) : ¬ bt w j := h
/-- walls as bits -/
theorem wc_x {z b' : Int} (hW : dF (XT hp) l (fun D => ∀ j : Nat, j < 10 → wR (hI hp (rr hp 2 10) j) D j)) (hr : hI hp (rr hp 2 10) j0 = w) (h10 : j0 < 10) (e1 : y = (j0 : Int)) (hs : 0 ≤ x → x ≤ 31 → z = w / 2 ^ x.toNat) (ha : (1 : Int) = 1 → u = z % 2) (hx : 0 ≤ x ∧ x ≤ 9) (eb : b' = u) : dF (XT hp) l (fun D => bP b' ((x, y) ∈ dWa D)) := by
  obtain ⟨k, hk⟩ : ∃ k : Nat, x = (k : Int) := ⟨x.toNat, by omega⟩
  have h1 := sh_bit hs ha hk (by omega)
  refine dF_mp hW (fun D hD => ?_)
  have h2 := hD j0 h10 k (by omega)
  rw [hr] at h2
  rw [hk, e1]
  by_cases r : bt w k
  · have : w / 2 ^ k % 2 = 1 := r
    exact Or.inl ⟨by omega, h2.1 r⟩
  · have : ¬ w / 2 ^ k % 2 = 1 := r
    have h3 : w / 2 ^ k % 2 = 0 := by
      generalize w / 2 ^ k = t at this ⊢
      omega
    exact Or.inr ⟨by omega, fun w => r (h2.2 w)⟩
theorem wlb_x {z o : Int} (hO : hOk hp) (hV : dF (XT hp) l (fun D => wR w D y)) (hl' : dF (XT hp) l (fun D => ∀ j : Nat, j < 10 → (j : Int) < s → wR (hI hp (rr hp 2 10) j) D j)) (hh : dF (XT hp) l (fun D => ∀ j : Nat, j < 10 → t ≤ (j : Int) → wR (hI hp (rr hp 2 10) j) D j)) (hr : hI hp (rr hp 2 10) j0 = o) (hs : (1 : Int) = 1 → 0 ≤ x → x ≤ 13 → z = 2 ^ x.toNat) (ho : ∀ i : Nat, i < 14 → (bt o i ↔ (bt w i ∨ bt z i))) (e1 : y = (j0 : Int)) (e2 : s = y) (e3 : t = y + 1) (hx : 0 ≤ x ∧ x ≤ 9) : dF (XT hp) l (fun D => ∀ j : Nat, j < 10 → ∀ i : Nat, i < 10 → (bt (hI hp (rr hp 2 10) j) i ↔ (((i : Int), (j : Int)) ∈ dWa D ∨ ((i : Int) = x ∧ (j : Int) = y)))) := by
  have hT := XT_ok hO
  obtain ⟨k, hk⟩ : ∃ k : Nat, x = (k : Int) := ⟨x.toNat, by omega⟩
  have hz : z = 2 ^ k := by rw [hs rfl hx.1 (by omega), hk]; rfl
  have hb : ∀ i : Nat, i < 10 → (bt z i ↔ i = k) := by
    have key : ∀ k, k < 10 → ∀ i, i < 10 → ((2 : Int) ^ k / 2 ^ i % 2 = 1 ↔ i = k) := by decide
    intro i hi
    rw [hz]
    exact key k (by omega) i hi
  refine dF_mp (dF_2 hT (dF_2 hT hV hl') hh) (fun D hD j hj i hi => ?_)
  obtain ⟨⟨h1, h2⟩, h3⟩ := hD
  by_cases r : (j : Int) = y
  · have e4 : j = j0 := by omega
    rw [e4, hr, ho i (by omega), hb i hi, h1 i hi, e1]
    constructor
    · rintro (h | h)
      · exact Or.inl h
      · exact Or.inr ⟨by omega, rfl⟩
    · rintro (h | ⟨h, -⟩)
      · exact Or.inl h
      · exact Or.inr (by omega)
  · have h4 : wR (hI hp (rr hp 2 10) j) D j := by
      by_cases r2 : (j : Int) < s
      · exact h2 j hj r2
      · exact h3 j hj (by omega)
    rw [h4 i hi]
    constructor
    · exact fun h => Or.inl h
    · rintro (h | ⟨-, h⟩)
      · exact h
      · omega
theorem wl_wa {R : Nat → Int} (hB : ∀ j : Nat, j < 10 → ∀ i : Nat, i < 10 → (bt (R j) i ↔ (((i : Int), (j : Int)) ∈ dWa D ∨ ((i : Int) = x ∧ (j : Int) = y)))) : ∀ j : Nat, j < 10 → wR (R j) (aWa D x y) j := by
  intro j hj i hi
  rw [hB j hj i hi]
  show _ ↔ ((i : Int), (j : Int)) ∈ dWa D ++ [(x, y)]
  rw [List.mem_append, List.mem_singleton, Prod.mk.injEq]
theorem al_x {z : Int} (hA : ∀ i : Nat, i < 14 → (i : Int) < t → bt (hI hp (hC hp 176 2) 2) i) (hr : hI hp (hC hp 176 2) 2 = w) (hs : 0 ≤ x → x ≤ 31 → z = w / 2 ^ x.toNat) (ha : (1 : Int) = 1 → u = z % 2) (hx : 0 ≤ x ∧ x ≤ 13) (h1 : x < t) (h0 : u = 0) : False := by
  obtain ⟨k, hk⟩ : ∃ k : Nat, x = (k : Int) := ⟨x.toNat, by omega⟩
  have h2 := sh_bit hs ha hk (by omega)
  have h3 := hA k (by omega) (by omega)
  rw [hr] at h3
  have h3 : w / 2 ^ k % 2 = 1 := h3
  omega
theorem al_add {z o : Int} (hA : ∀ i : Nat, i < 14 → (i : Int) < t → bt w i) (hr : hI hp (hC hp 176 2) 2 = o) (hs : (1 : Int) = 1 → 0 ≤ t → t ≤ 13 → z = 2 ^ t.toNat) (ho : ∀ i : Nat, i < 14 → (bt o i ↔ (bt w i ∨ bt z i))) (ht : 0 ≤ t ∧ t ≤ 13) (e1 : y = t + 1) : ∀ i : Nat, i < 14 → (i : Int) < y → bt (hI hp (hC hp 176 2) 2) i := by
  intro i hi hs'
  rw [hr, ho i hi]
  by_cases r : (i : Int) < t
  · exact Or.inl (hA i hi r)
  · refine Or.inr ?_
    have e2 : t = (i : Int) := by omega
    have hz : z = 2 ^ i := by rw [hs rfl ht.1 ht.2, e2]; rfl
    have key : ∀ i, i < 14 → (2 : Int) ^ i / 2 ^ i % 2 = 1 := by decide
    rw [hz]
    exact key i hi
theorem nn_s {A B : Nat → Int} {N : Nat} (hw : ∀ i : Nat, i < N → (i : Int) < s → ¬ (A i = x ∧ B i = y)) (hA : A j0 = u) (hB : B j1 = v) (e1 : (j0 : Int) = s) (e2 : (j1 : Int) = s) (hn : u ≠ x ∨ v ≠ y) (e3 : t = s + 1) : ∀ i : Nat, i < N → (i : Int) < t → ¬ (A i = x ∧ B i = y) := by
  intro i hi hs
  by_cases r : (i : Int) < s
  · exact hw i hi r
  · have e4 : i = j0 := by omega
    have e5 : j1 = j0 := by omega
    rw [e4]
    rw [e5] at hB
    rw [hA, hB]
    omega
theorem fr_1 (hT : tOk T) (h1 : dF T l (fun D => bP b ((x, y) ∈ dWa D))) (h2 : dF T l (fun D => bP d ((x, y) ∈ dTr D))) (e1 : b = 0) (e2 : d = 0) (e3 : u = 1) : dF T l (fun D => bP u (fre D x y)) := dF_mp (dF_2 hT h1 h2) (fun D hD => Or.inl ⟨e3, bP_0 hD.2 e2, bP_0 hD.1 e1⟩)
theorem fr_0w (h1 : dF T l (fun D => bP b ((x, y) ∈ dWa D))) (e1 : b = 1) (e3 : u = 0) : dF T l (fun D => bP u (fre D x y)) := dF_mp h1 (fun D hD => Or.inr ⟨e3, fun w => w.2 (bP_1 hD e1)⟩)
theorem fr_0t (h1 : dF T l (fun D => bP b ((x, y) ∈ dTr D))) (e1 : b = 1) (e3 : u = 0) : dF T l (fun D => bP u (fre D x y)) := dF_mp h1 (fun D hD => Or.inr ⟨e3, fun w => w.1 (bP_1 hD e1)⟩)
theorem tr_add (hT : dF T l P) (e1 : t = s) : dF T l P := hT
end CkFact7
