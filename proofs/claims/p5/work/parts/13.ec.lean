section SSpec3
theorem nrF_s : ∀ (n : Nat) (t : Int), 0 ≤ t → t < 3 ^ n → nrF n t = nrF (n + 1) t := by
  intro n
  induction n with
  | zero =>
    intro t h1 h2
    have e : t = 0 := by
      have : (3 : Int) ^ 0 = 1 := rfl
      omega
    subst e
    rfl
  | succ n ih =>
    intro t h1 h2
    have h3 : t < 3 ^ n * 3 := by rw [← Int.pow_succ]; exact h2
    have h4 : t / 3 < 3 ^ n := by omega
    show (if t % 3 = 1 then nrF n (t / 3) else t) = (if t % 3 = 1 then nrF (n + 1) (t / 3) else t)
    rw [ih (t / 3) (by omega) h4]
theorem nr_31 {t : Int} (h1 : 0 ≤ t) (h2 : t ≤ 2186) : nr (3 * t + 1) = nr t := by
  show (if (3 * t + 1) % 3 = 1 then nrF 11 ((3 * t + 1) / 3) else 3 * t + 1) = nrF 12 t
  rw [if_pos (by omega), show (3 * t + 1) / 3 = t by omega]
  refine nrF_s 11 t h1 ?_
  have : (3 : Int) ^ 11 = 177147 := rfl
  omega
theorem nr_32 {t : Int} : nr (3 * t + 2) = 3 * t + 2 := by
  show (if (3 * t + 2) % 3 = 1 then nrF 11 ((3 * t + 2) / 3) else 3 * t + 2) = 3 * t + 2
  rw [if_neg (by omega)]
theorem nr_0 : nr 0 = 0 := rfl
theorem nr_of2 {t : Int} (h : t % 3 = 2) : nr t = t := by
  show (if t % 3 = 1 then nrF 11 (t / 3) else t) = t
  rw [if_neg (by omega)]
theorem dp_0 : dp 0 = 0 := rfl
/-- what a whole one stands in: nothing, or a bracket -/
theorem nrF_top : ∀ (n : Nat) (t : Int), 0 ≤ t → t < 3 ^ n → nrF n t % 3 ≠ 1 := by
  intro n
  induction n with
  | zero =>
    intro t h1 h2
    have e : t = 0 := by
      have : (3 : Int) ^ 0 = 1 := rfl
      omega
    subst e
    decide
  | succ n ih =>
    intro t h1 h2
    have h3 : t < 3 ^ n * 3 := by rw [← Int.pow_succ]; exact h2
    have h4 : t / 3 < 3 ^ n := by omega
    show (if t % 3 = 1 then nrF n (t / 3) else t) % 3 ≠ 1
    by_cases r : t % 3 = 1
    · rw [if_pos r]; exact ih (t / 3) (by omega) h4
    · rw [if_neg r]; exact r
theorem nr_top {t : Int} (h1 : 0 ≤ t) (h2 : t ≤ 6560) : nr t % 3 ≠ 1 := by
  refine nrF_top 12 t h1 ?_
  have : (3 : Int) ^ 12 = 531441 := rfl
  omega
theorem nr_nr {t : Int} (h1 : 0 ≤ t) (h2 : t ≤ 6560) : nr (nr t) = nr t := by
  show (if nr t % 3 = 1 then nrF 11 (nr t / 3) else nr t) = nr t
  rw [if_neg (nr_top h1 h2)]
end SSpec3
