section CkFact4
variable {r : List Int} {hp : Lean.RArray Nat} {n n' t t' : Int}
theorem len0 (h : r.length = 0) : r = [] := List.eq_nil_of_length_eq_zero h
theorem lenS {k : Nat} (h : r.length = k + 1) : ∃ a r', r = a :: r' ∧ r'.length = k := by
  cases r with
  | nil => cases h
  | cons a r' => exact ⟨a, r', rfl, Nat.succ.inj h⟩
theorem len1 (h : r.length = 1) : ∃ a, r = [a] := by
  obtain ⟨a, r', rfl, g⟩ := lenS h
  exact ⟨a, by rw [len0 g]⟩
theorem len2 (h : r.length = 2) : ∃ a b, r = [a, b] := by
  obtain ⟨a, r', rfl, g⟩ := lenS h
  obtain ⟨b, rfl⟩ := len1 g
  exact ⟨a, b, rfl⟩
theorem len3 (h : r.length = 3) : ∃ a b c, r = [a, b, c] := by
  obtain ⟨a, r', rfl, g⟩ := lenS h
  obtain ⟨b, c, rfl⟩ := len2 g
  exact ⟨a, b, c, rfl⟩
theorem len4 (h : r.length = 4) : ∃ a b c d, r = [a, b, c, d] := by
  obtain ⟨a, r', rfl, g⟩ := lenS h
  obtain ⟨b, c, d, rfl⟩ := len3 g
  exact ⟨a, b, c, d, rfl⟩
theorem len5 (h : r.length = 5) : ∃ a b c d e, r = [a, b, c, d, e] := by
  obtain ⟨a, r', rfl, g⟩ := lenS h
  obtain ⟨b, c, d, e, rfl⟩ := len4 g
  exact ⟨a, b, c, d, e, rfl⟩
theorem len6 (h : r.length = 6) : ∃ a b c d e f, r = [a, b, c, d, e, f] := by
  obtain ⟨a, r', rfl, g⟩ := lenS h
  obtain ⟨b, c, d, e, f, rfl⟩ := len5 g
  exact ⟨a, b, c, d, e, f, rfl⟩
theorem ivX {q : Nat × Int × Int} {y : Int} (h : ∃ x, r[q.1]? = some x ∧ q.2.1 ≤ x ∧ x ≤ q.2.2) (e : r[q.1]? = some y) : q.2.1 ≤ y ∧ y ≤ q.2.2 := by
  obtain ⟨x, h1, h2⟩ := h
  rw [e] at h1
  cases h1
  exact h2
theorem csX {c : sLn} {y : Int} (h : ∃ x, sE r c = some x ∧ x ≤ 0) (e : sE r c = some y) : y ≤ 0 := by
  obtain ⟨x, h1, h2⟩ := h
  rw [e] at h1
  cases h1
  exact h2
theorem rfX {ro : Nat} {ce ix e : sLn} {cv iv xv : Int} (h : rfOk r hp ((ro, ce), ix, (1, e))) (e1 : sE r ce = some cv) (e2 : sE r ix = some iv) (e3 : sE r e = some xv) : ∃ c i : Nat, cv = (c : Int) ∧ c < tNC ∧ iv = (i : Int) ∧ i < tLe ro ∧ hI hp c i = xv := by
  obtain ⟨c, i, a1, a2, a3, a4, a5, a6⟩ := h
  obtain ⟨x, x1, x2, x3, x4⟩ := a6.2.1 rfl
  have q1 : cv = (c : Int) := Option.some.inj (e1.symm.trans a1)
  have q2 : iv = (i : Int) := Option.some.inj (e2.symm.trans a4)
  have q3 : xv = x := Option.some.inj (e3.symm.trans x1)
  exact ⟨c, i, q1, a2, q2, a5, by rw [q3]; exact hI_eq x2 x3 x4⟩
theorem fc0X {f : Nat} (h : fcOk fFS r hp (f, [])) : fFS f [] hp := by
  obtain ⟨xs, h1, h2⟩ := h
  cases xs with
  | nil => exact h2
  | cons x xs => exact h1.elim
theorem fc1X {f : Nat} {e : sLn} {y : Int} (h : fcOk fFS r hp (f, [e])) (h1 : sE r e = some y) : fFS f [y] hp := by
  obtain ⟨xs, h3, h2⟩ := h
  cases xs with
  | nil => exact h3.elim
  | cons x xs =>
    cases xs with
    | nil =>
      have q : y = x := Option.some.inj (h1.symm.trans h3.1)
      rw [q]
      exact h2
    | cons z zs => exact h3.2.elim
theorem fc2X {f : Nat} {e e' : sLn} {y y' : Int} (h : fcOk fFS r hp (f, [e, e'])) (h1 : sE r e = some y) (h1' : sE r e' = some y') : fFS f [y, y'] hp := by
  obtain ⟨xs, h3, h2⟩ := h
  cases xs with
  | nil => exact h3.elim
  | cons x xs =>
    cases xs with
    | nil => exact h3.2.elim
    | cons z zs =>
      cases zs with
      | nil =>
        have q : y = x := Option.some.inj (h1.symm.trans h3.1)
        have q' : y' = z := Option.some.inj (h1'.symm.trans h3.2.1)
        rw [q, q']
        exact h2
      | cons w ws => exact h3.2.2.elim
theorem all_nil {α : Type} {P : α → Prop} : ∀ q ∈ ([] : List α), P q := fun _ h => by cases h
theorem all_cons {α : Type} {P : α → Prop} {a : α} {l : List α} (h : P a) (h2 : ∀ q ∈ l, P q) : ∀ q ∈ a :: l, P q := by
  intro q hq
  rcases List.mem_cons.mp hq with rfl | hq
  · exact h
  · exact h2 q hq
theorem ivO {q : Nat × Int × Int} {y : Int} (e : r[q.1]? = some y) (h1 : q.2.1 ≤ y) (h2 : y ≤ q.2.2) : ∃ x, r[q.1]? = some x ∧ q.2.1 ≤ x ∧ x ≤ q.2.2 := ⟨y, e, h1, h2⟩
theorem poX {posts : List sTm} {m : Nat} {iv : sIv} {cs : List sLn} {lo : List sVl} {fc : List sFc} (hm : ((m, iv, cs, []), lo, ([], fc)) ∈ posts) (hl : r.length = m) (hR : ∀ x ∈ r, zMn ≤ x ∧ x ≤ zMx) (h1 : ∀ q ∈ iv, ∃ x, r[q.1]? = some x ∧ q.2.1 ≤ x ∧ x ≤ q.2.2) (h2 : ∀ c ∈ cs, ∃ x, sE r c = some x ∧ x ≤ 0) (h3 : ∀ q ∈ fc, fcOk fFS r hp q) : ∃ post ∈ posts, ∃ u, sNOk tSg (r ++ u) post.1 ∧ hsOk fFS (r ++ u) hp post.2.2 := by
  refine ⟨_, hm, [], ?_, ?_⟩
  · rw [List.append_nil]
    exact ⟨hl, ⟨hR, h1⟩, h2, fun _ q => by cases q⟩
  · rw [List.append_nil]
    exact ⟨fun _ q => (by cases q), h3⟩
def raAll {α : Type} (P : α → Prop) : Lean.RArray α → Prop
  | .leaf x => P x
  | .branch _ l r => raAll P l ∧ raAll P r
theorem ra_br {α : Type} (p : Nat) (l r : Lean.RArray α) (i : Nat) : Lean.RArray.get (.branch p l r) i = Lean.RArray.get l i ∨ Lean.RArray.get (.branch p l r) i = Lean.RArray.get r i := by
  have e : Lean.RArray.get (.branch p l r) i = @Bool.rec (fun _ => α) (Lean.RArray.get l i) (Lean.RArray.get r i) (Nat.ble p i) := rfl
  rw [e]
  cases Nat.ble p i
  · exact Or.inl rfl
  · exact Or.inr rfl
theorem gAll {α : Type} {P : α → Prop} : ∀ (a : Lean.RArray α) (i : Nat), raAll P a → P (Lean.RArray.get a i) := by
  intro a
  induction a with
  | leaf x => intro i h; exact h
  | branch p l r ihl ihr =>
    intro i h
    rcases ra_br p l r i with e | e
    · rw [e]; exact ihl i h.1
    · rw [e]; exact ihr i h.2
theorem psum0' (h : n = 0) (h' : t = 0) : fPsum n t hp := by subst h; subst h'; exact psum0
theorem stk0' (h : n = 0) (h' : t = 0) : fStk n t hp := by subst h; subst h'; exact stk0
theorem code0' (h : n = 0) (h' : t = 0) : fCode n t hp := by subst h; subst h'; exact code0
theorem dep0' (q : fPfs 275 690 hp) (h : n = 0) (h' : t = 0) : fDep n t hp := by subst h; subst h'; exact dep0 q
theorem sum_of' {x y : Int} (hO : hOk hp) (h : fPsum n t hp) (hx : hI hp 275 6 = x) (e : n = x) (h0 : y = 0) : fSum y t hp := by subst h0; exact sum_of hO h hx e
theorem stk_cg (h : fStk n t hp) (e : n' = n) (e' : t' = t) : fStk n' t' hp := by rw [e, e']; exact h
theorem dep_cg (h : fDep n t hp) (e : n' = n) (e' : t' = t) : fDep n' t' hp := by rw [e, e']; exact h
theorem stk_z' (h : fStk n t hp) (e : n = 0) : t = 0 := by subst e; exact stk_z h
theorem kept_b {a k b : Nat} {x y z : Int} (h : fKept a k hp) (hk : hI hp 291 k = x) (h1 : x = 1) (hy : hI hp 289 a = y) (hz : hI hp 289 b = z) (e : b = a + 1) : (1 ≤ y ∧ y ≤ 10) ∧ (1 ≤ z ∧ z ≤ 10) := by
  obtain ⟨u1, u2, -, -⟩ := h (by rw [hk]; exact h1)
  rw [← e] at u2
  rw [hy] at u1
  rw [hz] at u2
  exact ⟨u1, u2⟩
end CkFact4
