section CkFact1
/-- a slot's int -/
noncomputable def hI (hp : Lean.RArray Nat) (c j : Nat) : Int := sSgn (ePl (hv hp c j))
theorem sSgn_cI {x : Int} (h1 : zMn ≤ x) (h2 : x ≤ zMx) : sSgn (ePl (cI x)) = x := by
  obtain ⟨a, b, c⟩ := sSgn_ok (cI_lt x)
  have e : eCi (ePl (cI x)) = cI x := by rw [cI_pl]; rfl
  rw [e] at c
  exact (cI_inj h1 h2 a b c).symm
theorem hI_eq {hp : Lean.RArray Nat} {c j : Nat} {x : Int} (h1 : zMn ≤ x) (h2 : x ≤ zMx) (h : hv hp c j = cI x) : hI hp c j = x := by
  unfold hI
  rw [h]
  exact sSgn_cI h1 h2
theorem hI_of {hp hp' : Lean.RArray Nat} {c j : Nat} (h : hv hp' c j = hv hp c j) : hI hp' c j = hI hp c j := by unfold hI; rw [h]
theorem hI_ty {hp : Lean.RArray Nat} (hO : hOk hp) {c j : Nat} {a b : Int} (hc : c < tNC) (ht : sSgAt (tSg (tRO c)) j = some (.inl (a, b))) : a ≤ hI hp c j ∧ hI hp c j ≤ b := by
  obtain ⟨x, x1, x2, x3, x4, x5⟩ := (hO.2 c hc).2.2 j _ ht
  rw [hI_eq x3 x4 x5]
  exact ⟨x1, x2⟩
def fSpot (n : Int) (hp : Lean.RArray Nat) : Prop := ∀ f : Nat, f < 5 → (f : Int) < n → (0 ≤ hI hp 187 f ∧ hI hp 187 f ≤ 99) ∨ hI hp 189 f = -1
def fSen (a b : Nat) (n : Int) (hp : Lean.RArray Nat) : Prop := ∀ j : Nat, j < 40 → (j : Int) < n → hI hp a j ≠ 25 ∨ (0 ≤ hI hp b j ∧ hI hp b j ≤ 2)
def bxR (d o w h : Int) : Prop := (d = 14 ∧ 0 ≤ o ∧ o ≤ 4 ∧ 0 ≤ w ∧ w ≤ 4) ∨ d = 16 ∨ (d = 15 ∧ 0 ≤ o ∧ o ≤ 9 ∧ 0 ≤ w ∧ w ≤ 9 ∧ 0 ≤ h ∧ h ≤ 4) ∨ (16 ≤ d ∧ d ≤ 18 ∧ 0 ≤ o ∧ o ≤ 9 ∧ 0 ≤ w ∧ w ≤ 9)
def fRoll (n : Int) (hp : Lean.RArray Nat) : Prop := ∀ j : Nat, j < 40 → (j : Int) < n → bxR (hI hp 178 j) (hI hp 179 j) (hI hp 180 j) (hI hp 181 j)
def bxM (d o w h : Int) : Prop := (d = 0 ∧ 0 ≤ o ∧ o ≤ 4 ∧ 0 ≤ w ∧ w ≤ 4) ∨ d = 2 ∨ (d = 1 ∧ 0 ≤ o ∧ o ≤ 9 ∧ 0 ≤ w ∧ w ≤ 9 ∧ 0 ≤ h ∧ h ≤ 4) ∨ (2 ≤ d ∧ d ≤ 4 ∧ 0 ≤ o ∧ o ≤ 9 ∧ 0 ≤ w ∧ w ≤ 9)
def fRollm (n : Int) (hp : Lean.RArray Nat) : Prop := ∀ j : Nat, j < 40 → (j : Int) < n → bxM (hI hp 277 (4 * j)) (hI hp 277 (4 * j + 1)) (hI hp 277 (4 * j + 2)) (hI hp 277 (4 * j + 3))
def fCh (c b : Nat) (n : Int) (hp : Lean.RArray Nat) : Prop := ∀ j : Nat, j < 8 → (j : Int) < n → 1 ≤ hI hp c (b + j) ∧ hI hp c (b + j) ≤ 9
def fEq (c b c' b' len : Nat) (n : Int) (hp : Lean.RArray Nat) : Prop := ∀ j : Nat, j < len → (j : Int) < n → hI hp c (b + j) = hI hp c' (b' + j)
/-- sums of chances -/
noncomputable def sumC (hp : Lean.RArray Nat) : Nat → Int
  | 0 => 0
  | k + 1 => sumC hp k + hI hp 275 (250 + k)
def fPsum (n t : Int) (hp : Lean.RArray Nat) : Prop := ∃ k : Nat, n = (k : Int) ∧ (k ≤ 8 → t = sumC hp k)
def fSum (i t : Int) (hp : Lean.RArray Nat) : Prop := ∃ k z : Nat, i = (k : Int) ∧ hI hp 275 6 = (z : Int) ∧ k ≤ z ∧ z ≤ 8 ∧ t = sumC hp z - sumC hp k
/-- a step of a sentence's code: how many truths lie there -/
def stC (w q v v' : Int) : Prop := (w = 20 ∧ 1 ≤ v ∧ v ≤ 20 ∧ v' = v) ∨ ((w = 21 ∨ w = 22) ∧ 2 ≤ v ∧ v ≤ 20 ∧ v' = v - 1) ∨ (w = 4 ∧ 0 ≤ q ∧ q ≤ 2 ∧ 0 ≤ v ∧ v ≤ 19 ∧ v' = v + 1) ∨ ((w ≤ 3 ∨ (5 ≤ w ∧ w ≤ 19) ∨ 23 ≤ w) ∧ 0 ≤ v ∧ v ≤ 19 ∧ v' = v + 1)
def cdF (hp : Lean.RArray Nat) (c b : Nat) : Nat → Int → Prop
  | 0, v => v = 0
  | k + 1, v' => ∃ v, cdF hp c b k v ∧ stC (hI hp c (b + 3 * k)) (hI hp c (b + 3 * k + 2)) v v'
theorem cdF_det {hp : Lean.RArray Nat} {c b : Nat} : ∀ {k : Nat} {v v' : Int}, cdF hp c b k v → cdF hp c b k v' → v = v' := by
  intro k
  induction k with
  | zero => intro v v' h1 h2; have h1 : v = 0 := h1; have h2 : v' = 0 := h2; rw [h1, h2]
  | succ k ih =>
    intro v v' h1 h2
    obtain ⟨a, a1, a2⟩ := h1
    obtain ⟨b', b1, b2⟩ := h2
    have := ih a1 b1
    subst this
    unfold stC at a2 b2
    omega
theorem cdF_pre {hp : Lean.RArray Nat} {c b : Nat} : ∀ {n : Nat} {v : Int}, cdF hp c b n v → ∀ k, k < n → ∃ a a', cdF hp c b k a ∧ stC (hI hp c (b + 3 * k)) (hI hp c (b + 3 * k + 2)) a a' := by
  intro n
  induction n with
  | zero => intro v _ k hk; omega
  | succ n ih =>
    intro v h k hk
    obtain ⟨a, a1, a2⟩ := h
    by_cases e : k = n
    · subst e; exact ⟨a, v, a1, a2⟩
    · exact ih a1 k (by omega)
theorem cdF_of {hp hp' : Lean.RArray Nat} {c b c' b' : Nat} : ∀ {n : Nat} {v : Int}, (∀ j, j < 3 * n → hI hp' c' (b' + j) = hI hp c (b + j)) → cdF hp c b n v → cdF hp' c' b' n v := by
  intro n
  induction n with
  | zero => intro v _ h; exact h
  | succ n ih =>
    intro v he h
    obtain ⟨a, a1, a2⟩ := h
    refine ⟨a, ih (fun j hj => he j (by omega)) a1, ?_⟩
    rw [he (3 * n) (by omega), Nat.add_assoc, he (3 * n + 2) (by omega), ← Nat.add_assoc]
    exact a2
def fPfs (c b : Nat) (hp : Lean.RArray Nat) : Prop := ∃ k : Nat, hI hp c b = (k : Int) ∧ k ≤ 53 ∧ ∃ v, cdF hp c (b + 1) k v
def fDep (i n : Int) (hp : Lean.RArray Nat) : Prop := fPfs 275 690 hp ∧ ∃ k : Nat, i = (k : Int) ∧ k ≤ 53 ∧ cdF hp 275 691 k n
def fCode (i n : Int) (hp : Lean.RArray Nat) : Prop := ∃ k : Nat, i = (k : Int) ∧ k ≤ 53 ∧ cdF hp 277 0 k n
def skF (hp : Lean.RArray Nat) : Nat → Int → Prop
  | 0, v => v = 0
  | k + 1, v' => ∃ v, skF hp k v ∧ (((hI hp 287 k = 21 ∨ hI hp 287 k = 22) ∧ v' = v + 1) ∨ (hI hp 287 k ≠ 21 ∧ hI hp 287 k ≠ 22 ∧ v' = v))
theorem skF_bd {hp : Lean.RArray Nat} : ∀ {k : Nat} {v : Int}, skF hp k v → 0 ≤ v ∧ v ≤ k := by
  intro k
  induction k with
  | zero => intro v h; have h : v = 0 := h; omega
  | succ k ih =>
    intro v h
    obtain ⟨a, a1, a2⟩ := h
    have := ih a1
    omega
theorem skF_of {hp hp' : Lean.RArray Nat} : ∀ {n : Nat} {v : Int}, (∀ j, j < n → hI hp' 287 j = hI hp 287 j) → skF hp n v → skF hp' n v := by
  intro n
  induction n with
  | zero => intro v _ h; exact h
  | succ n ih =>
    intro v he h
    obtain ⟨a, a1, a2⟩ := h
    refine ⟨a, ih (fun j hj => he j (by omega)) a1, ?_⟩
    rw [he n (by omega)]
    exact a2
def fStk (t j : Int) (hp : Lean.RArray Nat) : Prop := ∃ k : Nat, t = (k : Int) ∧ k ≤ 45 ∧ skF hp k j
def fNj (t : Int) (hp : Lean.RArray Nat) : Prop := ∃ k : Nat, t = (k : Int) ∧ k ≤ 45 ∧ ∀ j, k = j + 1 → hI hp 287 j ≠ 21 ∧ hI hp 287 j ≠ 22
def fKept (o k : Nat) (hp : Lean.RArray Nat) : Prop := hI hp 291 k = 1 → (1 ≤ hI hp 289 o ∧ hI hp 289 o ≤ 10) ∧ (1 ≤ hI hp 289 (o + 1) ∧ hI hp 289 (o + 1) ≤ 10) ∧ fCh 289 (o + 250) (hI hp 289 (o + 6)) hp ∧ fPfs 289 (o + 690) hp
def fMod (x : Int) : Prop := x = -1 ∨ 900 ≤ x % 1000
def fEqa (d s : Nat) (hp : Lean.RArray Nat) : Prop := ∀ j : Nat, j < 40 → hv hp d j = hv hp s j
/-- what the facts say -/
def fFS : sFS := fun f xs hp => match f, xs with
  | 0, [n] => fSpot n hp
  | 1, [n] => fSen 53 55 n hp
  | 2, [n] => fSen 58 60 n hp
  | 3, [n] => fSen 238 240 n hp
  | 4, [n] => fSen 269 271 n hp
  | 5, [n] => fRoll n hp
  | 6, [n] => fCh 276 250 n hp
  | 7, [n] => fCh 275 250 n hp
  | 8, [n] => fEq 275 0 276 0 401 n hp
  | 9, [n, t] => fPsum n t hp
  | 10, [n, t] => fSum n t hp
  | 11, [n] => fRollm n hp
  | 12, [] => fPfs 275 690 hp
  | 13, [n, t] => fDep n t hp
  | 14, [n, t] => fCode n t hp
  | 15, [n, t] => fStk n t hp
  | 16, [n] => fEq 275 691 277 0 160 n hp
  | 17, [] => fKept 0 0 hp
  | 18, [n] => fEq 289 0 275 0 871 n hp
  | 19, [] => fKept 871 1 hp
  | 20, [n] => fEq 289 871 275 0 871 n hp
  | 21, [x] => fMod x
  | 23, [n] => fNj n hp
  | 24, [] => fEqa 53 238 hp
  | 25, [] => fEqa 238 53 hp
  | 26, [] => fEqa 55 240 hp
  | 27, [] => fEqa 240 55 hp
  | 28, [] => fEqa 53 269 hp
  | 29, [] => fEqa 269 53 hp
  | 30, [] => fEqa 55 271 hp
  | 31, [] => fEqa 271 55 hp
  | 32, [] => fEqa 58 238 hp
  | 33, [] => fEqa 238 58 hp
  | 34, [] => fEqa 60 240 hp
  | 35, [] => fEqa 240 60 hp
  | 36, [] => fEqa 58 269 hp
  | 37, [] => fEqa 269 58 hp
  | 38, [] => fEqa 60 271 hp
  | 39, [] => fEqa 271 60 hp
  | _, _ => False
theorem fFS_eq : eqOk fFS := by
  refine ⟨fun q hq hp h => ?_, fun x hp h h0 => ?_, fun x c hp h h1 h2 => ?_⟩
  · simp only [tEQ, List.mem_cons, List.not_mem_nil, or_false] at hq
    rcases hq with rfl | rfl | rfl | rfl | rfl | rfl | rfl | rfl | rfl | rfl | rfl | rfl | rfl | rfl | rfl | rfl <;> exact h
  · have h : fMod x := h
    rcases h with h | h
    · omega
    · exact h
  · show fMod x
    right
    omega
/-- slots that a fact looks at -/
theorem fp1 {f : Nat} {xs : List Int} {c j : Nat} (q : Nat × Nat × Nat × Nat) (hq : q ∈ tFP f) (h1 : tRO c = q.1) (h2 : q.2.1 ≤ j) (h3 : j < q.2.2.1) (h4 : ¬ q.2.2.2 = 0 → ∀ x, xs.head? = some x → (j : Int) < (q.2.1 : Int) + (q.2.2.2 : Int) * x) : fpIn f xs c j := ⟨q, hq, h1, h2, h3, h4⟩
end CkFact1
