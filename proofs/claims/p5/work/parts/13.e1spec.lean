section Spec1
/-- a choice by what holds -/
noncomputable def pIf {α : Type} (p : Prop) (a b : α) : α := @ite α p (Classical.propDecidable p) a b
theorem pIf_t {α : Type} {p : Prop} {a b : α} (h : p) : pIf p a b = a := by unfold pIf; exact @if_pos p (Classical.propDecidable p) h α a b
theorem pIf_f {α : Type} {p : Prop} {a b : α} (h : ¬ p) : pIf p a b = b := by unfold pIf; exact @if_neg p (Classical.propDecidable p) h α a b
/-- bytes of a tape from e on -/
def bsF (b : Int → Int) (e : Int) : Nat → List Int
  | 0 => []
  | k + 1 => bsF b e k ++ [b (e + k)]
theorem bsF_len {b : Int → Int} {e : Int} : ∀ {k : Nat}, (bsF b e k).length = k := by
  intro k
  induction k with
  | zero => rfl
  | succ k ih => show (bsF b e k ++ [b (e + k)]).length = k + 1; rw [List.length_append, ih]; rfl
theorem bsF_mem {b : Int → Int} {e : Int} {x : Int} : ∀ {k : Nat}, x ∈ bsF b e k → ∃ i : Nat, i < k ∧ x = b (e + i) := by
  intro k
  induction k with
  | zero => intro h; cases h
  | succ k ih =>
    intro h
    rcases List.mem_append.1 h with h | h
    · obtain ⟨i, h1, h2⟩ := ih h
      exact ⟨i, by omega, h2⟩
    · exact ⟨k, by omega, List.mem_singleton.1 h⟩
theorem bsF_cg {b b' : Int → Int} {e : Int} : ∀ {k : Nat}, (∀ i : Nat, i < k → b (e + i) = b' (e + i)) → bsF b e k = bsF b' e k := by
  intro k
  induction k with
  | zero => intro _; rfl
  | succ k ih =>
    intro h
    show bsF b e k ++ [b (e + k)] = bsF b' e k ++ [b' (e + k)]
    rw [ih (fun i hi => h i (by omega)), h k (by omega)]
def bs (b : Int → Int) (a z : Int) : List Int := bsF b a (z - a).toNat
/-- a number, a name's code: by a base -/
def cd (m o : Int) (l : List Int) : Int := l.foldl (fun a c => m * a + (c - o)) 0
theorem cd_nil (m o : Int) : cd m o [] = 0 := rfl
theorem cd_app (m o : Int) (l : List Int) (c : Int) : cd m o (l ++ [c]) = m * cd m o l + (c - o) := by unfold cd; rw [List.foldl_append]; rfl
def dig (m o c : Int) : Prop := 1 ≤ c - o ∧ c - o < m
theorem snoc : ∀ {l : List Int}, l ≠ [] → ∃ l' c, l = l' ++ [c] := by
  intro l
  induction l with
  | nil => intro h; exact absurd rfl h
  | cons x t ih =>
    intro _
    by_cases r : t = []
    · exact ⟨[], x, by rw [r]; rfl⟩
    · obtain ⟨l', c, e⟩ := ih r
      exact ⟨x :: l', c, by rw [e]; rfl⟩
theorem cd_pos {m o : Int} (hm : 1 ≤ m) : ∀ {n : Nat} {l : List Int}, l.length = n → (∀ c ∈ l, 0 ≤ c - o) → 0 ≤ cd m o l := by
  intro n
  induction n with
  | zero => intro l hl _; rw [List.eq_nil_of_length_eq_zero hl]; exact Int.le_refl 0
  | succ n ih =>
    intro l hl h
    obtain ⟨l', c, rfl⟩ := snoc (l := l) (by intro e; rw [e] at hl; cases hl)
    rw [cd_app]
    have h1 := ih (l := l') (by rw [List.length_append] at hl; exact Nat.succ.inj hl) (fun c hc => h c (List.mem_append_left _ hc))
    have h2 := h c (List.mem_append_right _ (List.mem_singleton.2 rfl))
    have h3 : 0 ≤ m * cd m o l' := Int.mul_nonneg (by omega) h1
    omega
theorem cd_inj {m o : Int} (hm : 1 ≤ m) : ∀ {n : Nat} {l l' : List Int}, l.length = n → (∀ c ∈ l, dig m o c) → (∀ c ∈ l', dig m o c) → cd m o l = cd m o l' → l = l' := by
  intro n
  induction n with
  | zero =>
    intro l l' hl _ h' e
    have := List.eq_nil_of_length_eq_zero hl
    subst this
    by_cases q : l' = []
    · exact q.symm
    · obtain ⟨l2, c, rfl⟩ := snoc q
      rw [cd_app, cd_nil] at e
      have h1 := h' c (List.mem_append_right _ (List.mem_singleton.2 rfl))
      have h2 := cd_pos (o := o) hm (l := l2) rfl (fun x hx => by have := h' x (List.mem_append_left _ hx); unfold dig at this; omega)
      have h3 : 0 ≤ m * cd m o l2 := Int.mul_nonneg (by omega) h2
      unfold dig at h1
      omega
  | succ n ih =>
    intro l l' hl h h' e
    obtain ⟨l1, c, rfl⟩ := snoc (l := l) (by intro e; rw [e] at hl; cases hl)
    by_cases q : l' = []
    · subst q
      rw [cd_app, cd_nil] at e
      have h1 := h c (List.mem_append_right _ (List.mem_singleton.2 rfl))
      have h2 := cd_pos (o := o) hm (l := l1) rfl (fun x hx => by have := h x (List.mem_append_left _ hx); unfold dig at this; omega)
      have h3 : 0 ≤ m * cd m o l1 := Int.mul_nonneg (by omega) h2
      unfold dig at h1
      omega
    · obtain ⟨l2, c', rfl⟩ := snoc q
      rw [cd_app, cd_app] at e
      have h1 := h c (List.mem_append_right _ (List.mem_singleton.2 rfl))
      have h2 := h' c' (List.mem_append_right _ (List.mem_singleton.2 rfl))
      unfold dig at h1 h2
      have e3 : c - o = c' - o := by
        have a1 : (m * cd m o l1 + (c - o)) % m = c - o := by rw [Int.add_comm, Int.add_mul_emod_self_left]; exact Int.emod_eq_of_lt (by omega) (by omega)
        have a2 : (m * cd m o l2 + (c' - o)) % m = c' - o := by rw [Int.add_comm, Int.add_mul_emod_self_left]; exact Int.emod_eq_of_lt (by omega) (by omega)
        rw [← a1, ← a2, e]
      have e4 : m * cd m o l1 = m * cd m o l2 := by omega
      have e5 : cd m o l1 = cd m o l2 := Int.eq_of_mul_eq_mul_left (by omega) e4
      have e6 := ih (by rw [List.length_append] at hl; exact Nat.succ.inj hl) (fun x hx => h x (List.mem_append_left _ hx)) (fun x hx => h' x (List.mem_append_left _ hx)) e5
      rw [e6, show c = c' by omega]
theorem cd_lt {m o : Int} (hm : 1 ≤ m) : ∀ {n : Nat} {l : List Int}, l.length = n → (∀ c ∈ l, 0 ≤ c - o ∧ c - o < m) → cd m o l < m ^ n := by
  intro n
  induction n with
  | zero => intro l hl _; rw [List.eq_nil_of_length_eq_zero hl, cd_nil]; show (0 : Int) < m ^ 0; rw [Int.pow_zero]; decide
  | succ n ih =>
    intro l hl h
    obtain ⟨l', c, rfl⟩ := snoc (l := l) (by intro e; rw [e] at hl; cases hl)
    rw [cd_app]
    have h1 := ih (l := l') (by rw [List.length_append] at hl; exact Nat.succ.inj hl) (fun c hc => h c (List.mem_append_left _ hc))
    have h2 := h c (List.mem_append_right _ (List.mem_singleton.2 rfl))
    have h3 : m * (cd m o l' + 1) ≤ m * m ^ n := Int.mul_le_mul_of_nonneg_left (by omega) (by omega)
    rw [Int.mul_add, Int.mul_one] at h3
    rw [Int.pow_succ, Int.mul_comm (m ^ n) m]
    omega
def ltr (c : Int) : Prop := 97 ≤ c ∧ c ≤ 122
def dgt (c : Int) : Prop := 48 ≤ c ∧ c ≤ 57
def blk (c : Int) : Prop := c = 32 ∨ c = 10
def sgn (c : Int) : Prop := c = 40 ∨ c = 41 ∨ (59 ≤ c ∧ c ≤ 62)
theorem ltr32 {l : List Int} (h : ∀ c ∈ l, ltr c) : ∀ c ∈ l, dig 32 96 c := fun c hc => by have := h c hc; unfold ltr at this; unfold dig; omega
theorem ltr256 {l : List Int} (h : ∀ c ∈ l, ltr c) : ∀ c ∈ l, dig 256 0 c := fun c hc => by have := h c hc; unfold ltr at this; unfold dig; omega
theorem cd32 {l l' : List Int} (h : ∀ c ∈ l, ltr c) (h' : ∀ c ∈ l', ltr c) (e : cd 32 96 l = cd 32 96 l') : l = l' := cd_inj (by decide) rfl (ltr32 h) (ltr32 h') e
theorem cd256 {l l' : List Int} (h : ∀ c ∈ l, ltr c) (h' : ∀ c ∈ l', ltr c) (e : cd 256 0 l = cd 256 0 l') : l = l' := cd_inj (by decide) rfl (ltr256 h) (ltr256 h') e
/-- the words -/
def wds : List (List Int) := [[115, 105, 122, 101], [111, 119, 110, 101, 114], [102, 105, 101, 108, 100], [115, 116, 114, 105, 112], [107, 105, 110, 100], [116, 114, 101, 101], [119, 97, 108, 108], [119, 105, 110, 100], [115, 116, 105, 108, 108], [110, 111, 114, 116, 104], [101, 97, 115, 116], [115, 111, 117, 116, 104], [119, 101, 115, 116], [101, 118, 101, 114], [98, 108, 111, 119, 115], [112, 108, 97, 110, 116, 115], [102, 101, 108, 108, 115], [119, 97, 108, 108, 115], [114, 97, 107, 101, 115], [111, 114], [97, 110, 100], [110, 111, 116], [97, 108, 105, 118, 101], [111, 102], [102, 111, 114], [98, 121], [120], [121], [108, 101, 97, 118, 101, 115], [110, 117, 109, 98, 101, 114]]
def wixF (L : List Int) : List (List Int) → Int → Int
  | [], _ => -1
  | w :: ws, i => if w = L then i else wixF L ws (i + 1)
def wix (L : List Int) : Int := wixF L wds 0
def wrd (j : Nat) : List Int := wds.getD j []
theorem wixF_no {L : List Int} : ∀ {ws : List (List Int)} {i : Int}, (∀ w ∈ ws, w ≠ L) → wixF L ws i = -1 := by
  intro ws
  induction ws with
  | nil => intro i _; rfl
  | cons w ws ih =>
    intro i h
    show (if w = L then i else wixF L ws (i + 1)) = -1
    rw [if_neg (h w (.head _))]
    exact ih (fun x hx => h x (.tail _ hx))
theorem wixF_bd {L : List Int} : ∀ {ws : List (List Int)} {i : Int}, (wixF L ws i = -1 ∧ ∀ w ∈ ws, w ≠ L) ∨ (i ≤ wixF L ws i ∧ wixF L ws i < i + ws.length ∧ ws[(wixF L ws i - i).toNat]? = some L) := by
  intro ws
  induction ws with
  | nil => intro i; exact Or.inl ⟨rfl, fun w hw => by cases hw⟩
  | cons w ws ih =>
    intro i
    show ((if w = L then i else wixF L ws (i + 1)) = -1 ∧ _) ∨ (i ≤ (if w = L then i else wixF L ws (i + 1)) ∧ (if w = L then i else wixF L ws (i + 1)) < i + (ws.length + 1 : Nat) ∧ (w :: ws)[((if w = L then i else wixF L ws (i + 1)) - i).toNat]? = some L)
    by_cases e : w = L
    · rw [if_pos e]
      exact Or.inr ⟨by omega, by omega, by rw [show (i - i).toNat = 0 by omega, e]; rfl⟩
    · rw [if_neg e]
      rcases ih (i := i + 1) with ⟨h1, h2⟩ | ⟨h1, h2, h3⟩
      · exact Or.inl ⟨h1, fun x hx => by cases hx with | head => exact e | tail _ hx => exact h2 x hx⟩
      · refine Or.inr ⟨by omega, by omega, ?_⟩
        rw [show (wixF L ws (i + 1) - i).toNat = (wixF L ws (i + 1) - (i + 1)).toNat + 1 by omega]
        exact h3
theorem wix_r (L : List Int) : -1 ≤ wix L ∧ wix L ≤ 29 := by
  rcases wixF_bd (L := L) (ws := wds) (i := 0) with ⟨h, -⟩ | ⟨h1, h2, -⟩
  · have h : wix L = -1 := h
    omega
  · have h1 : 0 ≤ wix L := h1
    have h2 : wix L < 0 + 30 := h2
    omega
theorem wix_wrd : ∀ j, j < 30 → wix (wrd j) = (j : Int) := by decide
theorem wrd_ltr : ∀ j, j < 30 → ∀ c ∈ wrd j, 97 ≤ c ∧ c ≤ 122 := by decide
theorem wix_no {L : List Int} (h : ∀ j, j < 30 → wrd j ≠ L) : wix L = -1 := by
  rcases wixF_bd (L := L) (ws := wds) (i := 0) with ⟨h, -⟩ | ⟨h1, h2, h3⟩
  · exact h
  · have h2 : wixF L wds 0 < 0 + 30 := h2
    exact absurd (show wrd (wixF L wds 0 - 0).toNat = L by unfold wrd; rw [List.getD_eq_getElem?_getD, h3]; rfl) (h _ (by omega))
theorem wix_of {L : List Int} {j : Nat} (h : wix L = (j : Int)) : j < 30 ∧ wrd j = L := by
  rcases wixF_bd (L := L) (ws := wds) (i := 0) with ⟨h1, -⟩ | ⟨h1, h2, h3⟩
  · have h1 : wix L = -1 := h1
    omega
  · have h2 : wix L < 0 + 30 := h2
    refine ⟨by omega, ?_⟩
    have e : (wixF L wds 0 - 0).toNat = j := by
      show (wix L - 0).toNat = j
      omega
    rw [e] at h3
    unfold wrd
    rw [List.getD_eq_getElem?_getD, h3]
    rfl
end Spec1
