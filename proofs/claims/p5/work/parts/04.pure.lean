section EvPure
theorem eF_eq (x : Nat) (k : Nat → Bool) : eF x k = k x := by cases x <;> rfl
theorem eFs_eq (st : List Nat) (k : List Nat → Bool) : eFs st k = k st := by
  cases st with
  | nil => rfl
  | cons v r => show eF v (fun v => k (v :: r)) = _; rw [eF_eq]
theorem eC_t {c t : Bool} (h : cond c t false = true) : c = true ∧ t = true := by cases c <;> simp_all
theorem eC_f {c t : Bool} (h : cond c false t = true) : c = false ∧ t = true := by cases c <;> simp_all
theorem eSl_bit (A j b : Nat) : (eSl A j).testBit b = (decide (b < 72) && A.testBit (72 * j + b)) := by
  show ((A >>> (72 * j)) % 4722366482869645213696).testBit b = _
  rw [show (4722366482869645213696 : Nat) = 2 ^ 72 from by decide, Nat.testBit_mod_two_pow, Nat.testBit_shiftRight]
theorem eSl_lt (A j : Nat) : eSl A j < 2 ^ 72 := by
  show (A >>> (72 * j)) % 4722366482869645213696 < _
  rw [show (4722366482869645213696 : Nat) = 2 ^ 72 from by decide]
  exact Nat.mod_lt _ (by decide)
theorem eBl_bit (A j n X b : Nat) : (eBl A j n X).testBit b = if b < 72 * j then A.testBit b else if b < 72 * (j + n) then X.testBit (b - 72 * j) else A.testBit b := by
  show ((A % 2 ^ (72 * j)) ||| (((X % 2 ^ (72 * n)) ||| ((A >>> (72 * (j + n))) <<< (72 * n))) <<< (72 * j))).testBit b = _
  rw [Nat.testBit_or, Nat.testBit_mod_two_pow, Nat.testBit_shiftLeft, Nat.testBit_or, Nat.testBit_mod_two_pow, Nat.testBit_shiftLeft, Nat.testBit_shiftRight]
  by_cases h1 : b < 72 * j
  · have h2 : ¬ 72 * j ≤ b := by omega
    simp [h1, h2]
  · have h2 : 72 * j ≤ b := by omega
    by_cases h3 : b < 72 * (j + n)
    · have h4 : b - 72 * j < 72 * n := by omega
      have h5 : ¬ 72 * n ≤ b - 72 * j := by omega
      simp [h1, h2, h3, h4, h5]
    · have h4 : ¬ b - 72 * j < 72 * n := by omega
      have h5 : 72 * n ≤ b - 72 * j := by omega
      have h6 : 72 * (j + n) + (b - 72 * j - 72 * n) = b := by omega
      simp [h1, h2, h3, h4, h5, h6]
theorem eSl_bl (A j n X i : Nat) : eSl (eBl A j n X) i = if i < j then eSl A i else if i < j + n then eSl X (i - j) else eSl A i := by
  apply Nat.eq_of_testBit_eq
  intro b
  rw [eSl_bit, eBl_bit]
  by_cases hb : b < 72
  · by_cases h1 : i < j
    · rw [if_pos h1, if_pos (by omega), eSl_bit]
    · rw [if_neg h1, if_neg (by omega)]
      by_cases h2 : i < j + n
      · rw [if_pos h2, if_pos (by omega), eSl_bit, show 72 * i + b - 72 * j = 72 * (i - j) + b from by omega]
      · rw [if_neg h2, if_neg (by omega), eSl_bit]
  · by_cases h1 : i < j
    · simp [hb, h1, eSl_bit]
    · by_cases h2 : i < j + n <;> simp [hb, h1, h2, eSl_bit]
theorem eSl_0 {v : Nat} (h : v < 2 ^ 72) : eSl v 0 = v := by
  show (v >>> (72 * 0)) % 4722366482869645213696 = v
  rw [show 72 * 0 = 0 from rfl, Nat.shiftRight_zero]
  exact Nat.mod_eq_of_lt h
theorem eSl_set {v : Nat} (h : v < 2 ^ 72) (A j i : Nat) : eSl (eBl A j 1 v) i = if i = j then v else eSl A i := by
  rw [eSl_bl]
  by_cases h1 : i < j
  · rw [if_pos h1, if_neg (by omega)]
  · rw [if_neg h1]
    by_cases h2 : i = j
    · rw [if_pos (by omega), if_pos h2, h2, Nat.sub_self, eSl_0 h]
    · rw [if_neg (by omega), if_neg h2]
theorem eSl_sh (A p i : Nat) : eSl (Nat.shiftRight A (Nat.mul 72 p)) i = eSl A (p + i) := by
  apply Nat.eq_of_testBit_eq
  intro b
  rw [eSl_bit, eSl_bit]
  show (decide (b < 72) && (A >>> (72 * p)).testBit (72 * i + b)) = _
  rw [Nat.testBit_shiftRight, show 72 * p + (72 * i + b) = 72 * (p + i) + b from by omega]
theorem eSl_cons {v : Nat} (h : v < 2 ^ 72) (X i : Nat) : eSl (v + 2 ^ 72 * X) (i + 1) = eSl X i ∧ eSl (v + 2 ^ 72 * X) 0 = v := by
  constructor
  · show ((v + 2 ^ 72 * X) >>> (72 * (i + 1))) % _ = (X >>> (72 * i)) % _
    rw [show 72 * (i + 1) = 72 + 72 * i from by omega, Nat.shiftRight_add, Nat.shiftRight_eq_div_pow (v + 2 ^ 72 * X) 72, Nat.add_mul_div_left _ _ (by decide), Nat.div_eq_of_lt h, Nat.zero_add]
  · show ((v + 2 ^ 72 * X) >>> (72 * 0)) % 4722366482869645213696 = v
    rw [show 72 * 0 = 0 from rfl, Nat.shiftRight_zero, show (4722366482869645213696 : Nat) = 2 ^ 72 from by decide, Nat.add_mul_mod_self_left, Nat.mod_eq_of_lt h]
theorem eRep_s (n : Nat) : (2 ^ (72 * (n + 1)) - 1) / 4722366482869645213695 = 1 + 2 ^ 72 * ((2 ^ (72 * n) - 1) / 4722366482869645213695) := by
  have key : ∀ n : Nat, ∃ S : Nat, 2 ^ (72 * n) = 1 + 4722366482869645213695 * S := by
    intro n
    induction n with
    | zero => exact ⟨0, by decide⟩
    | succ n ih =>
      obtain ⟨S, hS⟩ := ih
      refine ⟨1 + 4722366482869645213696 * S, ?_⟩
      rw [show 72 * (n + 1) = 72 * n + 72 from by omega, Nat.pow_add, hS, show (2 : Nat) ^ 72 = 4722366482869645213696 from by decide]
      omega
  obtain ⟨S, hS⟩ := key n
  have h2 : 2 ^ (72 * (n + 1)) = 1 + 4722366482869645213695 * (1 + 4722366482869645213696 * S) := by
    rw [show 72 * (n + 1) = 72 * n + 72 from by omega, Nat.pow_add, hS, show (2 : Nat) ^ 72 = 4722366482869645213696 from by decide]
    omega
  rw [h2, hS, Nat.add_sub_cancel_left, Nat.add_sub_cancel_left, Nat.mul_div_cancel_left _ (by decide), Nat.mul_div_cancel_left _ (by decide), show (2 : Nat) ^ 72 = 4722366482869645213696 from by decide]
theorem eSl_rep {v : Nat} (h : v < 2 ^ 72) : ∀ (n i : Nat), i < n → eSl (eRep n v) i = v := by
  intro n
  induction n with
  | zero => intro i hi; omega
  | succ n ih =>
    intro i hi
    have e : eRep (n + 1) v = v + 2 ^ 72 * eRep n v := by
      show v * ((2 ^ (72 * (n + 1)) - 1) / 4722366482869645213695) = v + 2 ^ 72 * (v * ((2 ^ (72 * n) - 1) / 4722366482869645213695))
      rw [eRep_s, Nat.mul_add, Nat.mul_one, Nat.mul_left_comm]
    rw [e]
    cases i with
    | zero => exact (eSl_cons h _ 0).2
    | succ i => rw [(eSl_cons h _ i).1]; exact ih i (by omega)
theorem eMk_ki {ki n d : Nat} (h1 : ki < 65536) (h2 : n < 65536) : eKi (eMk ki n d) = ki ∧ eLe (eMk ki n d) = n ∧ eDa (eMk ki n d) = d := by
  refine ⟨?_, ?_, ?_⟩
  · show (ki + (65536 * n + 4294967296 * d)) % 65536 = ki
    omega
  · show ((ki + (65536 * n + 4294967296 * d)) >>> 16) % 65536 = n
    rw [Nat.shiftRight_eq_div_pow]
    omega
  · show (ki + (65536 * n + 4294967296 * d)) >>> 32 = d
    rw [Nat.shiftRight_eq_div_pow]
    omega
theorem eSd_ki (c d : Nat) : eKi (eSd c d) = eKi c ∧ eLe (eSd c d) = eLe c ∧ eDa (eSd c d) = d := by
  refine ⟨?_, ?_, ?_⟩
  · show (c % 4294967296 + 4294967296 * d) % 65536 = c % 65536
    omega
  · show ((c % 4294967296 + 4294967296 * d) >>> 16) % 65536 = (c >>> 16) % 65536
    rw [Nat.shiftRight_eq_div_pow, Nat.shiftRight_eq_div_pow]
    omega
  · show (c % 4294967296 + 4294967296 * d) >>> 32 = d
    rw [Nat.shiftRight_eq_div_pow]
    omega
/-- the tree -/
noncomputable def eSetA (a : Lean.RArray Nat) (n v : Nat) : Lean.RArray Nat :=
  @Lean.RArray.rec Nat (fun _ => Lean.RArray Nat) (fun _ => .leaf v) (fun p l r ihl ihr => @Bool.rec (fun _ => Lean.RArray Nat) (.branch p ihl r) (.branch p l ihr) (Nat.ble p n)) a
theorem eSetK_eq (a : Lean.RArray Nat) (n v : Nat) : ∀ k : Lean.RArray Nat → Bool, eSetK a n v k = k (eSetA a n v) := by
  induction a with
  | leaf x => intro k; rfl
  | branch p l r ihl ihr =>
    intro k
    show @Bool.rec (fun _ => Bool) (eSetK l n v (fun l' => k (.branch p l' r))) (eSetK r n v (fun r' => k (.branch p l r'))) (Nat.ble p n) = k (@Bool.rec (fun _ => Lean.RArray Nat) (.branch p (eSetA l n v) r) (.branch p l (eSetA r n v)) (Nat.ble p n))
    cases Nat.ble p n
    · exact ihl _
    · exact ihr _
def eWf (a : Lean.RArray Nat) : Nat → Nat → Prop := @Lean.RArray.rec Nat (fun _ => Nat → Nat → Prop) (fun _ lo hi => hi = lo + 1) (fun p _ _ wl wr lo hi => lo < p ∧ p < hi ∧ wl lo p ∧ wr p hi) a
theorem eGet_set (a : Lean.RArray Nat) (n v : Nat) : ∀ lo hi, eWf a lo hi → eWf (eSetA a n v) lo hi ∧ (lo ≤ n → n < hi → ∀ j, lo ≤ j → j < hi → Lean.RArray.get (eSetA a n v) j = if j = n then v else Lean.RArray.get a j) := by
  induction a with
  | leaf x =>
    intro lo hi h
    have h : hi = lo + 1 := h
    refine ⟨h, fun h1 h2 j h3 h4 => ?_⟩
    rw [if_pos (by omega)]
    rfl
  | branch p l r ihl ihr =>
    intro lo hi h
    obtain ⟨h1, h2, h3, h4⟩ : lo < p ∧ p < hi ∧ eWf l lo p ∧ eWf r p hi := h
    obtain ⟨wl, gl⟩ := ihl lo p h3
    obtain ⟨wr, gr⟩ := ihr p hi h4
    have e : eSetA (.branch p l r) n v = @Bool.rec (fun _ => Lean.RArray Nat) (.branch p (eSetA l n v) r) (.branch p l (eSetA r n v)) (Nat.ble p n) := rfl
    have g : ∀ (x y : Lean.RArray Nat) (j : Nat), Lean.RArray.get (.branch p x y) j = if p ≤ j then Lean.RArray.get y j else Lean.RArray.get x j := by
      intro x y j
      show @Bool.rec (fun _ => Nat) (Lean.RArray.get x j) (Lean.RArray.get y j) (Nat.ble p j) = _
      by_cases hj : p ≤ j
      · rw [if_pos hj, Nat.ble_eq_true_of_le hj]
      · rw [if_neg hj, show Nat.ble p j = false from by rw [← Bool.not_eq_true, Nat.ble_eq]; exact hj]
    by_cases hn : p ≤ n
    · rw [e, Nat.ble_eq_true_of_le hn]
      refine ⟨⟨h1, h2, h3, wr⟩, fun q1 q2 j q3 q4 => ?_⟩
      show Lean.RArray.get (.branch p l (eSetA r n v)) j = _
      rw [g, g]
      by_cases hj : p ≤ j
      · rw [if_pos hj, if_pos hj, gr hn q2 j hj q4]
      · rw [if_neg hj, if_neg hj, if_neg (by omega)]
    · have hb : Nat.ble p n = false := by rw [← Bool.not_eq_true, Nat.ble_eq]; exact hn
      rw [e, hb]
      refine ⟨⟨h1, h2, wl, h4⟩, fun q1 q2 j q3 q4 => ?_⟩
      show Lean.RArray.get (.branch p (eSetA l n v) r) j = _
      rw [g, g]
      by_cases hj : p ≤ j
      · rw [if_pos hj, if_pos hj, if_neg (by omega)]
      · rw [if_neg hj, if_neg hj, gl q1 (by omega) j q3 (by omega)]
theorem eT0_wf : ∀ (d lo : Nat), eWf (eT0 d lo) lo (lo + 2 ^ d) := by
  intro d
  induction d with
  | zero => intro lo; rfl
  | succ d ih =>
    intro lo
    have h : 0 < 2 ^ d := Nat.pow_pos (by decide)
    show lo < lo + 2 ^ d ∧ lo + 2 ^ d < lo + 2 ^ (d + 1) ∧ eWf (eT0 d lo) lo (lo + 2 ^ d) ∧ eWf (eT0 d (lo + 2 ^ d)) (lo + 2 ^ d) (lo + 2 ^ (d + 1))
    refine ⟨by omega, by rw [Nat.pow_succ]; omega, ih lo, ?_⟩
    have := ih (lo + 2 ^ d)
    rw [show lo + 2 ^ d + 2 ^ d = lo + 2 ^ (d + 1) from by rw [Nat.pow_succ]; omega] at this
    exact this
end EvPure
