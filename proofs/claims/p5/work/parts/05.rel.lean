section EvRel
/-- where the things are that were there before; which cells and names there were as the method began -/
abbrev evF : Type := (Nat → Value) × List Nat × List Int32
/-- an int as a number that keeps the order -/
def eX (x : Int32) : Nat := (x.toBitVec.toNat + 2147483648) % 4294967296
theorem eX_lt32 (x : Int32) : eX x < 4294967296 := Nat.mod_lt _ (by decide)
theorem eX_int (x : Int32) : (eX x : Int) = x.toInt + 2147483648 := by
  have h : x.toBitVec.toNat < 4294967296 := x.toBitVec.isLt
  have e : x.toInt = if 2 * x.toBitVec.toNat < 4294967296 then (x.toBitVec.toNat : Int) else (x.toBitVec.toNat : Int) - 4294967296 := BitVec.toInt_eq_toNat_cond x.toBitVec
  rw [e, eX]
  split <;> omega
theorem eX_lt (x y : Int32) : x < y ↔ eX x < eX y := by
  have hx := eX_int x
  have hy := eX_int y
  rw [Int32.lt_iff_toInt_lt]
  omega
theorem eX_inj {x y : Int32} (h : eX x = eX y) : x = y := by
  have hx := eX_int x
  have hy := eX_int y
  apply Int32.toInt_inj.mp
  omega
theorem eX_nI {p : Nat} (h : p < 4294967296) : eX (nI p) = eBi p := by
  show ((nI p).toBitVec.toNat + 2147483648) % 4294967296 = (p + 2147483648) % 4294967296
  rw [pk_tn h]
theorem eX_of (x : Int32) : ∃ p, p < 4294967296 ∧ x = nI p := by
  refine ⟨x.toBitVec.toNat, x.toBitVec.isLt, ?_⟩
  apply Int32.toBitVec_inj.mp
  apply BitVec.eq_of_toNat_eq
  exact (pk_tn x.toBitVec.isLt).symm
theorem eBi_lt (p : Nat) : eBi p < 4294967296 := Nat.mod_lt _ (by decide)
theorem eBi_bi {p : Nat} (h : p < 4294967296) : eBi (eBi p) = p := by
  show ((p + 2147483648) % 4294967296 + 2147483648) % 4294967296 = p
  omega
theorem eX_back (x : Int32) : x = nI (eBi (eX x)) := by
  obtain ⟨p, hp, rfl⟩ := eX_of x
  rw [eX_nI hp, eBi_bi hp]
theorem eCi_tg (n : Nat) : eTg (eCi n) = 1 ∧ ePl (eCi n) = n := by
  constructor
  · show (8 * n + 1) % 8 = 1
    omega
  · show (8 * n + 1) / 8 = n
    omega
theorem e8 (n t : Nat) (h : t < 8) : eTg (Nat.add (Nat.mul 8 n) t) = t ∧ ePl (Nat.add (Nat.mul 8 n) t) = n := by
  constructor
  · show (8 * n + t) % 8 = t
    omega
  · show (8 * n + t) / 8 = n
    omega
theorem eVal (v : Nat) : v = 8 * ePl v + eTg v := by
  show v = 8 * (v / 8) + v % 8
  omega
/-- what a kept value is, by the cells' addresses, the named ints, and where the things are that were there before -/
def eR (ad : List Nat) (sg : List Int32) (fo : evF) (v : Nat) (x : Value) : Prop :=
  v < 2 ^ 72 ∧ ((eTg v = 1 ∧ ePl v < 4294967296 ∧ x = .int (nI (ePl v))) ∨ (eTg v = 2 ∧ ∃ y, sg[ePl v]? = some y ∧ x = .int y) ∨ (eTg v = 3 ∧ ∃ y, x = .int y) ∨ (eTg v = 4 ∧ ePl v < 18446744073709551616 ∧ x = .long (lN (ePl v)))
    ∨ (eTg v = 5 ∧ ((ePl v = 0 ∧ x = .null) ∨ ∃ k a, ePl v = k + 1 ∧ ad[k]? = some a ∧ x = .ref a)) ∨ (eTg v = 6 ∧ x = fo.1 (ePl v) ∧ (x = .null ∨ ∃ a, x = .ref a)))
theorem eR_mono {ad ad' : List Nat} {sg sg' : List Int32} {fo : evF} {v : Nat} {x : Value} (h : eR ad sg fo v x) (ha : ∃ t, ad' = ad ++ t) (hs : ∃ t, sg' = sg ++ t) : eR ad' sg' fo v x := by
  obtain ⟨t, rfl⟩ := ha
  obtain ⟨u, rfl⟩ := hs
  obtain ⟨h0, h | ⟨h1, y, h2, h3⟩ | h | h | ⟨h1, h | ⟨k, a, h2, h3, h4⟩⟩ | h⟩ := h
  · exact ⟨h0, Or.inl h⟩
  · exact ⟨h0, Or.inr (Or.inl ⟨h1, y, by rw [List.getElem?_append_left (List.getElem?_eq_some_iff.mp h2).1]; exact h2, h3⟩)⟩
  · exact ⟨h0, Or.inr (Or.inr (Or.inl h))⟩
  · exact ⟨h0, Or.inr (Or.inr (Or.inr (Or.inl h)))⟩
  · exact ⟨h0, Or.inr (Or.inr (Or.inr (Or.inr (Or.inl ⟨h1, Or.inl h⟩))))⟩
  · exact ⟨h0, Or.inr (Or.inr (Or.inr (Or.inr (Or.inl ⟨h1, Or.inr ⟨k, a, h2, by rw [List.getElem?_append_left (List.getElem?_eq_some_iff.mp h3).1]; exact h3, h4⟩⟩))))⟩
  · exact ⟨h0, Or.inr (Or.inr (Or.inr (Or.inr (Or.inr h))))⟩
section
variable {ad : List Nat} {sg : List Int32} {fo : evF}
theorem eR_c {n : Nat} (h : n < 4294967296) : eR ad sg fo (eCi n) (.int (nI n)) := by
  refine ⟨?_, Or.inl ⟨(eCi_tg n).1, by rw [(eCi_tg n).2]; exact h, by rw [(eCi_tg n).2]⟩⟩
  show 8 * n + 1 < 2 ^ 72
  omega
theorem eR_any (x : Int32) : eR ad sg fo 3 (.int x) := ⟨by decide, Or.inr (Or.inr (Or.inl ⟨rfl, x, rfl⟩))⟩
theorem eR_l {n : Nat} (h : n < 18446744073709551616) : eR ad sg fo (Nat.add (Nat.mul 8 n) 4) (.long (lN n)) := by
  have e := e8 n 4 (by decide)
  refine ⟨?_, Or.inr (Or.inr (Or.inr (Or.inl ⟨e.1, by rw [e.2]; exact h, by rw [e.2]⟩)))⟩
  show 8 * n + 4 < 2 ^ 72
  omega
theorem eR_r {k a : Nat} (hk : k < 1024) (h : ad[k]? = some a) : eR ad sg fo (Nat.add (Nat.mul 8 (k + 1)) 5) (.ref a) := by
  have e := e8 (k + 1) 5 (by decide)
  refine ⟨?_, Or.inr (Or.inr (Or.inr (Or.inr (Or.inl ⟨e.1, Or.inr ⟨k, a, e.2, h, rfl⟩⟩))))⟩
  show 8 * (k + 1) + 5 < 2 ^ 72
  omega
theorem eR_n : eR ad sg fo 5 .null := ⟨by decide, Or.inr (Or.inr (Or.inr (Or.inr (Or.inl ⟨rfl, Or.inl ⟨rfl, rfl⟩⟩))))⟩
/-- an int is what an int's tag says -/
theorem eR_I {v : Nat} {x : Value} (h : eR ad sg fo v x) (hi : eIsI v = true) : ∃ y, x = .int y := by
  have h1 : 1 ≤ eTg v ∧ eTg v ≤ 3 := by
    obtain ⟨a, b⟩ := eC_t hi
    exact ⟨Nat.le_of_ble_eq_true a, Nat.le_of_ble_eq_true b⟩
  obtain ⟨-, ⟨-, -, h⟩ | ⟨-, y, -, h⟩ | ⟨-, h⟩ | ⟨h2, -⟩ | ⟨h2, -⟩ | ⟨h2, -⟩⟩ := h
  · exact ⟨_, h⟩
  · exact ⟨_, h⟩
  · exact h
  all_goals omega
theorem eR_A {v : Nat} {x : Value} (h : eR ad sg fo v x) (hi : eIsA v = true) : x = .null ∨ ∃ a, x = .ref a := by
  have h1 : 5 ≤ eTg v := by
    obtain ⟨a, b⟩ := eC_t hi
    exact Nat.le_of_ble_eq_true a
  obtain ⟨-, ⟨h2, -⟩ | ⟨h2, -⟩ | ⟨h2, -⟩ | ⟨h2, -⟩ | ⟨h2, ⟨-, h⟩ | ⟨k, a, -, -, h⟩⟩ | ⟨h2, h⟩⟩ := h
  · omega
  · omega
  · omega
  · omega
  · exact Or.inl h
  · exact Or.inr ⟨a, h⟩
  · exact h.2
theorem eR_L {v : Nat} {x : Value} (h : eR ad sg fo v x) (hi : eTg v = 4) : ePl v < 18446744073709551616 ∧ x = .long (lN (ePl v)) := by
  obtain ⟨-, ⟨h2, -⟩ | ⟨h2, -⟩ | ⟨h2, -⟩ | ⟨h2, h⟩ | ⟨h2, -⟩ | ⟨h2, -⟩⟩ := h <;> first | exact h | omega
theorem eR_1 {v : Nat} {x : Value} (h : eR ad sg fo v x) (hi : eTg v = 1) : ePl v < 4294967296 ∧ x = .int (nI (ePl v)) := by
  obtain ⟨-, ⟨h2, h⟩ | ⟨h2, -⟩ | ⟨h2, -⟩ | ⟨h2, -⟩ | ⟨h2, -⟩ | ⟨h2, -⟩⟩ := h <;> first | exact h | omega
theorem eR_5 {v k : Nat} {x : Value} (h : eR ad sg fo v x) (hi : eTg v = 5) (hp : ePl v = k + 1) : ∃ a, ad[k]? = some a ∧ x = .ref a := by
  obtain ⟨-, ⟨h2, -⟩ | ⟨h2, -⟩ | ⟨h2, -⟩ | ⟨h2, -⟩ | ⟨h2, ⟨h3, -⟩ | ⟨k', a, h3, h4, h⟩⟩ | ⟨h2, -⟩⟩ := h
  · omega
  · omega
  · omega
  · omega
  · omega
  · have : k' = k := by omega
    subst this
    exact ⟨a, h4, h⟩
  · omega
theorem eR_cat {v : Nat} {x : Value} (h : eR ad sg fo v x) : x.category = eCat v := by
  have e : eCat v = if eTg v = 4 then 2 else 1 := by
    show cond (Nat.beq (eTg v) 4) 2 1 = _
    by_cases h4 : eTg v = 4
    · rw [if_pos h4, h4]; rfl
    · rw [if_neg h4, show Nat.beq (eTg v) 4 = false from by rw [← Bool.not_eq_true]; exact fun q => h4 (Nat.eq_of_beq_eq_true q)]; rfl
  rw [e]
  obtain ⟨-, ⟨h2, -, h⟩ | ⟨h2, y, -, h⟩ | ⟨h2, y, h⟩ | ⟨h2, -, h⟩ | ⟨h2, ⟨-, h⟩ | ⟨k, a, -, -, h⟩⟩ | ⟨h2, -, h | ⟨a, h⟩⟩⟩ := h <;> subst h <;> simp [Value.category, h2]
/-- the named ints lie where the list says -/
def eE (env : evEnv) (sg : List Int32) : Prop := env.length = sg.length ∧ ∀ i x, sg[i]? = some x → (eEnv env i).1 ≤ eX x ∧ eX x ≤ (eEnv env i).2
theorem eEnv_eq (env : evEnv) : ∀ i, eEnv env i = (env[i]?).getD (0, 4294967295) := by
  induction env with
  | nil => intro i; rfl
  | cons q l ih =>
    intro i
    cases i with
    | zero => rfl
    | succ i => exact ih i
theorem eIv_ok {env : evEnv} (hE : eE env sg) {v : Nat} {x : Int32} (h : eR ad sg fo v (.int x)) : (eIv env v).1 ≤ eX x ∧ eX x ≤ (eIv env v).2 := by
  have hx := eX_lt32 x
  have full : (0, 4294967295).1 ≤ eX x ∧ eX x ≤ (0, 4294967295).2 := ⟨Nat.zero_le _, by show eX x ≤ 4294967295; omega⟩
  obtain ⟨-, ⟨h2, h3, h⟩ | ⟨h2, y, h3, h⟩ | ⟨h2, -⟩ | ⟨h2, -, h⟩ | ⟨h2, h⟩ | ⟨h2, h⟩⟩ := h
  · have e : eIv env v = (eBi (ePl v), eBi (ePl v)) := by unfold eIv; rw [h2]; rfl
    cases h
    rw [e, eX_nI h3]
    generalize eBi (ePl v) = z
    exact ⟨Nat.le_refl z, Nat.le_refl z⟩
  · have e : eIv env v = eEnv env (ePl v) := by unfold eIv; rw [h2]; rfl
    cases h
    rw [e]
    exact hE.2 _ _ h3
  · have e : eIv env v = (0, 4294967295) := by unfold eIv; rw [h2]; rfl
    rw [e]
    exact full
  · cases h
  · rcases h with ⟨-, h⟩ | ⟨k, a, -, -, h⟩ <;> cases h
  · rcases h.2 with h | ⟨a, h⟩ <;> cases h
theorem eE_set {env : evEnv} (hE : eE env sg) {i lo hi : Nat} (h : ∀ x, sg[i]? = some x → lo ≤ eX x ∧ eX x ≤ hi) : eE (env.set i (lo, hi)) sg := by
  refine ⟨by rw [List.length_set]; exact hE.1, fun j x hj => ?_⟩
  have hl : j < sg.length := (List.getElem?_eq_some_iff.mp hj).1
  rw [eEnv_eq, List.getElem?_set]
  by_cases e : i = j
  · subst e
    rw [if_pos rfl, if_pos (by rw [hE.1]; exact hl)]
    exact h x hj
  · rw [if_neg e, ← eEnv_eq]
    exact hE.2 j x hj
theorem eE_ref {env : evEnv} (hE : eE env sg) {v lo hi : Nat} {x : Int32} (h : eR ad sg fo v (.int x)) (h1 : lo ≤ eX x) (h2 : eX x ≤ hi) : eE (eRef env v lo hi) sg := by
  unfold eRef
  by_cases h4 : eTg v = 2
  · rw [h4]
    refine eE_set hE fun y hy => ?_
    obtain ⟨-, ⟨h3, -⟩ | ⟨-, z, h3, h⟩ | ⟨h3, -⟩ | ⟨h3, -⟩ | ⟨h3, -⟩ | ⟨h3, -⟩⟩ := h <;> first | omega | skip
    cases h
    cases hy.symm.trans h3
    exact ⟨h1, h2⟩
  · rw [show Nat.beq (eTg v) 2 = false from by rw [← Bool.not_eq_true]; exact fun q => h4 (Nat.eq_of_beq_eq_true q)]
    exact hE
theorem eE_new {env : evEnv} (hE : eE env sg) {x : Int32} {lo hi : Nat} (h1 : lo ≤ eX x) (h2 : eX x ≤ hi) : eE (env ++ [(lo, hi)]) (sg ++ [x]) := by
  refine ⟨by simp [hE.1], fun i y hy => ?_⟩
  rw [eEnv_eq]
  by_cases hi : i < sg.length
  · rw [List.getElem?_append_left hi] at hy
    rw [List.getElem?_append_left (by rw [hE.1]; exact hi), ← eEnv_eq]
    exact hE.2 i y hy
  · have hl := (List.getElem?_eq_some_iff.mp hy).1
    have e : i = sg.length := by simp at hl; omega
    subst e
    rw [← hE.1, List.getElem?_concat_length]
    rw [List.getElem?_concat_length] at hy
    cases hy
    exact ⟨h1, h2⟩
theorem eR_new {x : Int32} (h : sg.length < 1000000) : eR ad (sg ++ [x]) fo (Nat.add (Nat.mul 8 sg.length) 2) (.int x) := by
  have e := e8 sg.length 2 (by decide)
  refine ⟨?_, Or.inr (Or.inl ⟨e.1, x, by rw [e.2, List.getElem?_concat_length], rfl⟩)⟩
  show 8 * sg.length + 2 < 2 ^ 72
  omega
theorem eNrm_ok {env : evEnv} (hE : eE env sg) {v : Nat} {x : Value} (h : eR ad sg fo v x) : eR ad sg fo (eNrm env v) x := by
  unfold eNrm
  by_cases h4 : eTg v = 2
  · rw [h4]
    show eR ad sg fo (cond (Nat.beq (eEnv env (ePl v)).1 (eEnv env (ePl v)).2) (eCi (eBi (eEnv env (ePl v)).1)) v) x
    cases hb : Nat.beq (eEnv env (ePl v)).1 (eEnv env (ePl v)).2
    · exact h
    · have he := Nat.eq_of_beq_eq_true hb
      obtain ⟨-, ⟨h3, -⟩ | ⟨-, z, h3, h⟩ | ⟨h3, -⟩ | ⟨h3, -⟩ | ⟨h3, -⟩ | ⟨h3, -⟩⟩ := h <;> first | omega | skip
      subst h
      obtain ⟨q1, q2⟩ := hE.2 _ _ h3
      have e : (eEnv env (ePl v)).1 = eX z := by omega
      show eR ad sg fo (eCi (eBi (eEnv env (ePl v)).1)) (.int z)
      rw [e]
      have := eR_c (ad := ad) (sg := sg) (fo := fo) (n := eBi (eX z)) (eBi_lt _)
      rw [← eX_back] at this
      exact this
  · rw [show Nat.beq (eTg v) 2 = false from by rw [← Bool.not_eq_true]; exact fun q => h4 (Nat.eq_of_beq_eq_true q)]
    exact h
end
end EvRel
