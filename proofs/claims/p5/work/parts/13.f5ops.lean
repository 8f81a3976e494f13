section CkFact5
variable {hp : Lean.RArray Nat} {x y z : Int}
theorem op_eq {w : Nat} (h : Nat.beq w (cI z) = Nat.beq (cI z) (cI z)) : w = cI z := Nat.eq_of_beq_eq_true (h.trans (Nat.beq_refl _))
theorem op_p {p : Nat} (h : eCi p = cI z) : p = Int.toNat (z % 4294967296) := by
  have e : ePl (eCi p) = ePl (cI z) := by rw [h]
  rw [(eCi_tg p).2, cI_pl] at e
  exact e
theorem op_and : opK fFS tOPa eAnd := by
  intro x y z hp x1 x2 y1 y2 z1 z2 hK
  rw [zMn_eq] at x1 y1 z1
  rw [zMx_eq] at x2 y2 z2
  have e : eCi (Nat.land (ePl (cI x)) (ePl (cI y))) = cI z := by
    have := hK [] (fun v _ => Nat.beq v (cI z))
    unfold eAnd at this
    rw [cI_tg, cI_tg] at this
    exact op_eq this
  have e2 := op_p e
  rw [cI_pl, cI_pl] at e2
  show (y = 255 → z = x % 256) ∧ (y = 1 → z = x % 2)
  constructor
  · intro h
    subst h
    have e3 : Nat.land (Int.toNat (x % 4294967296)) 255 = Int.toNat (x % 4294967296) % 256 := Nat.and_two_pow_sub_one_eq_mod _ 8
    have e4 : Nat.land (Int.toNat (x % 4294967296)) 255 = Int.toNat (z % 4294967296) := e2
    omega
  · intro h
    subst h
    have e3 : Nat.land (Int.toNat (x % 4294967296)) 1 = Int.toNat (x % 4294967296) % 2 := Nat.and_two_pow_sub_one_eq_mod _ 1
    have e4 : Nat.land (Int.toNat (x % 4294967296)) 1 = Int.toNat (z % 4294967296) := e2
    omega
theorem bt_nat (w : Int) : ∀ i : Nat, i < 14 → (bt w i ↔ Nat.testBit (Int.toNat (w % 4294967296)) i = true) := by
  intro i hi
  rw [Nat.testBit_eq_decide_div_mod_eq, decide_eq_true_iff]
  unfold bt
  rcases (show i = 0 ∨ i = 1 ∨ i = 2 ∨ i = 3 ∨ i = 4 ∨ i = 5 ∨ i = 6 ∨ i = 7 ∨ i = 8 ∨ i = 9 ∨ i = 10 ∨ i = 11 ∨ i = 12 ∨ i = 13 by omega) with rfl | rfl | rfl | rfl | rfl | rfl | rfl | rfl | rfl | rfl | rfl | rfl | rfl | rfl <;> omega
theorem op_or : opK fFS tOPo (eOp fOr) := by
  intro x y z hp x1 x2 y1 y2 z1 z2 hK
  have e : eCi (fOr (ePl (cI x)) (ePl (cI y))) = cI z := by
    have := hK [] (fun v _ => Nat.beq v (cI z))
    unfold eOp at this
    rw [cI_tg, cI_tg] at this
    exact op_eq this
  have e2 := op_p e
  rw [cI_pl, cI_pl] at e2
  show ∀ i : Nat, i < 14 → (bt z i ↔ (bt x i ∨ bt y i))
  intro i hi
  rw [bt_nat z i hi, bt_nat x i hi, bt_nat y i hi, ← e2]
  have e3 : fOr (Int.toNat (x % 4294967296)) (Int.toNat (y % 4294967296)) = (Int.toNat (x % 4294967296)) ||| (Int.toNat (y % 4294967296)) := rfl
  rw [e3, Nat.testBit_or, Bool.or_eq_true]
theorem op_shl : opK fFS tOPl eShl := by
  intro x y z hp x1 x2 y1 y2 z1 z2 hK
  rw [zMn_eq] at x1 y1 z1
  rw [zMx_eq] at x2 y2 z2
  show x = 1 → 0 ≤ y → y ≤ 13 → z = 2 ^ y.toNat
  intro h h1 h2
  subst h
  have hb : Nat.blt (ePl (cI y)) 32 = true := by
    rw [cI_pl]
    exact Nat.ble_eq_true_of_le (by show Int.toNat (y % 4294967296) + 1 ≤ 32; omega)
  have e : eCi (eWrap (Nat.mul (ePl (cI 1)) (Nat.pow 2 (ePl (cI y))))) = cI z := by
    have := hK [] (fun v _ => Nat.beq v (cI z))
    unfold eShl at this
    rw [cI_tg, cI_tg, hb] at this
    exact op_eq this
  have e2 := op_p e
  rw [cI_pl, cI_pl] at e2
  have key : ∀ k : Nat, k ≤ 13 → Int.toNat (((k : Nat) : Int) % 4294967296) = k ∧ eWrap (Nat.mul (Int.toNat (1 % 4294967296)) (Nat.pow 2 k)) = 2 ^ k ∧ (2 : Nat) ^ k ≤ 8192 := by decide
  obtain ⟨k, hk⟩ : ∃ k : Nat, y = (k : Int) := ⟨y.toNat, by omega⟩
  subst hk
  obtain ⟨k1, k2, k3⟩ := key k (by omega)
  rw [k1, k2] at e2
  rw [show ((k : Int)).toNat = k from rfl]
  have e3 : ((2 ^ k : Nat) : Int) = (2 : Int) ^ k := by rw [Int.natCast_pow]; rfl
  omega
theorem op_ush : opK fFS tOPu eUsh := by
  intro x y z hp x1 x2 y1 y2 z1 z2 hK
  rw [zMn_eq] at x1 y1 z1
  rw [zMx_eq] at x2 y2 z2
  have key : ∀ y' : Int, y = y' → 0 ≤ y' → y' < 32 → Nat.div (Int.toNat (x % 4294967296)) (Nat.pow 2 (Int.toNat (y' % 4294967296))) = Int.toNat (z % 4294967296) := by
    intro y' h h1 h2
    subst h
    have hb : Nat.blt (ePl (cI y)) 32 = true := by
      rw [cI_pl]
      exact Nat.ble_eq_true_of_le (by show Int.toNat (y % 4294967296) + 1 ≤ 32; omega)
    have e : eCi (Nat.div (ePl (cI x)) (Nat.pow 2 (ePl (cI y)))) = cI z := by
      have := hK [] (fun v _ => Nat.beq v (cI z))
      unfold eUsh at this
      rw [cI_tg, cI_tg, hb] at this
      exact op_eq this
    have e2 := op_p e
    rw [cI_pl, cI_pl] at e2
    exact e2
  show (y = 24 → z % 256 = x / 16777216 % 256) ∧ (y = 16 → z % 256 = x / 65536 % 256) ∧ (y = 8 → z % 256 = x / 256 % 256) ∧ (y = 0 → z % 256 = x % 256)
  refine ⟨fun h => ?_, fun h => ?_, fun h => ?_, fun h => ?_⟩
  · have e : Int.toNat (x % 4294967296) / 16777216 = Int.toNat (z % 4294967296) := key 24 h (by decide) (by decide)
    omega
  · have e : Int.toNat (x % 4294967296) / 65536 = Int.toNat (z % 4294967296) := key 16 h (by decide) (by decide)
    omega
  · have e : Int.toNat (x % 4294967296) / 256 = Int.toNat (z % 4294967296) := key 8 h (by decide) (by decide)
    omega
  · have e : Int.toNat (x % 4294967296) / 1 = Int.toNat (z % 4294967296) := key 0 h (by decide) (by decide)
    omega
theorem eBy_m (n : Nat) : ∃ z : Int, -128 ≤ z ∧ z ≤ 127 ∧ z % 256 = ((n % 256 : Nat) : Int) ∧ eByte (eCi n) = cI z := by
  have hm : n % 256 < 256 := Nat.mod_lt _ (by decide)
  unfold eByte
  rw [(eCi_tg n).1, (eCi_tg n).2]
  by_cases h : n % 256 < 128
  · refine ⟨((n % 256 : Nat) : Int), by omega, by omega, by omega, ?_⟩
    rw [show Nat.blt (Nat.mod n 256) 128 = true from bltT h]
    exact cI_nat _ (by show n % 256 < 4294967296; omega)
  · refine ⟨((n % 256 : Nat) : Int) - 256, by omega, by omega, by omega, ?_⟩
    rw [show Nat.blt (Nat.mod n 256) 128 = false from by
      rw [← Bool.not_eq_true]
      exact fun q => h (eB_l q)]
    have e : eCi (Nat.add (Nat.mod n 256) 4294967040) = cI (((n % 256 + 4294967040 : Nat)) : Int) := cI_nat _ (by show n % 256 + 4294967040 < 4294967296; omega)
    show eCi (Nat.add (Nat.mod n 256) 4294967040) = _
    rw [e]
    exact cI_con (by omega)
theorem op_byte : ∀ (x z : Int) (hp : Lean.RArray Nat), zMn ≤ x → x ≤ zMx → -128 ≤ z → z ≤ 127 → eByte (cI x) = cI z → fFS tOPb [x, z] hp := by
  intro x z hp x1 x2 z1 z2 h
  show z % 256 = x % 256
  obtain ⟨w, w1, w2, w3, w4⟩ := eBy_m (Int.toNat (x % 4294967296))
  have w5 : eByte (cI x) = cI w := w4
  have w6 := cI_inj (by rw [zMn_eq]; omega) (by rw [zMx_eq]; omega) (by rw [zMn_eq]; omega) (by rw [zMx_eq]; omega) (h.symm.trans w5)
  omega
theorem nI_int {x : Int} (x1 : -2147483648 ≤ x) (x2 : x ≤ 2147483647) : (nI (Int.toNat (x % 4294967296))).toInt = x := by
  have e : (nI (Int.toNat (x % 4294967296))).toBitVec.toNat = Int.toNat (x % 4294967296) := pk_tn (by omega)
  have e2 : (nI (Int.toNat (x % 4294967296))).toInt = (nI (Int.toNat (x % 4294967296))).toBitVec.toInt := rfl
  rw [e2, BitVec.toInt_eq_toNat_cond, e]
  by_cases r : 2 * Int.toNat (x % 4294967296) < 2 ^ 32
  · rw [if_pos r]
    omega
  · rw [if_neg r]
    omega
theorem op_shr : opK fFS tOPr eShr := by
  intro x y z hp x1 x2 y1 y2 z1 z2 hK
  rw [zMn_eq] at x1 y1 z1
  rw [zMx_eq] at x2 y2 z2
  show 0 ≤ y → y ≤ 31 → z = x / 2 ^ y.toNat
  intro h1 h2
  obtain ⟨k, hk⟩ : ∃ k : Nat, y = (k : Int) := ⟨y.toNat, by omega⟩
  subst hk
  rw [show ((k : Int)).toNat = k from rfl]
  have hk : Int.toNat (((k : Nat) : Int) % 4294967296) = k := by omega
  have hb : Nat.blt (ePl (cI (k : Int))) 32 = true := by
    rw [cI_pl]
    exact Nat.ble_eq_true_of_le (by show Int.toNat (((k : Nat) : Int) % 4294967296) + 1 ≤ 32; omega)
  have hK := hK [] (fun v _ => Nat.beq v (cI z))
  unfold eShr at hK
  cases h0 : Nat.beq (cI x) 1
  · rw [h0] at hK
    rw [cI_tg, cI_tg, hb] at hK
    cases h3 : Nat.blt (ePl (cI x)) 2147483648
    · rw [h3] at hK
      unfold eOp at hK
      rw [cI_tg, cI_tg] at hK
      have e : eCi (fI (fun x y => x >>> (y &&& 31)) (ePl (cI x)) (ePl (cI (k : Int)))) = cI z := op_eq hK
      have e2 := op_p e
      rw [cI_pl, cI_pl, hk] at e2
      have e3 : (nI (Int.toNat (x % 4294967296)) >>> (nI k &&& 31)).toInt = (nI (Int.toNat (x % 4294967296))).toInt >>> k := pk_shr _ _ _ (eS_l k (by omega))
      rw [nI_int x1 x2, Int.shiftRight_eq_div_pow] at e3
      have e4 : (nI (Int.toNat (x % 4294967296)) >>> (nI k &&& 31)).toInt = (nI (Int.toNat (x % 4294967296)) >>> (nI k &&& 31)).toBitVec.toInt := rfl
      have e5 : (nI (Int.toNat (x % 4294967296)) >>> (nI k &&& 31)).toBitVec.toNat = Int.toNat (z % 4294967296) := e2
      rw [e4, BitVec.toInt_eq_toNat_cond, e5] at e3
      have e6 : (if 2 * Int.toNat (z % 4294967296) < 2 ^ 32 then ((Int.toNat (z % 4294967296) : Nat) : Int) else ((Int.toNat (z % 4294967296) : Nat) : Int) - ((2 ^ 32 : Nat) : Int)) = z := by
        by_cases r : 2 * Int.toNat (z % 4294967296) < 2 ^ 32
        · rw [if_pos r]; omega
        · rw [if_neg r]; omega
      rw [e6] at e3
      exact e3
    · rw [h3] at hK
      have e : eCi (Nat.div (ePl (cI x)) (Nat.pow 2 (ePl (cI (k : Int))))) = cI z := op_eq hK
      have e2 := op_p e
      have h3 := eB_l h3
      rw [cI_pl] at h3
      rw [cI_pl, cI_pl, hk] at e2
      have e3 : Int.toNat (x % 4294967296) / 2 ^ k = Int.toNat (z % 4294967296) := e2
      have hx : x = ((Int.toNat (x % 4294967296) : Nat) : Int) := by omega
      have hz : z = ((Int.toNat (z % 4294967296) : Nat) : Int) := by
        have : Int.toNat (x % 4294967296) / 2 ^ k ≤ Int.toNat (x % 4294967296) := Nat.div_le_self _ _
        omega
      rw [hz, ← e3, Int.natCast_ediv, ← hx, Int.natCast_pow]
      rfl
  · rw [h0] at hK
    have e : 1 = cI z := op_eq hK
    have e0 := Nat.eq_of_beq_eq_true h0
    have e1 : cI x = 8 * Int.toNat (x % 4294967296) + 1 := rfl
    have e2 : cI z = 8 * Int.toNat (z % 4294967296) + 1 := rfl
    have hx : x = 0 := by omega
    have hz : z = 0 := by omega
    rw [hx, hz, Int.zero_ediv]
theorem fFS_op : opOk fFS := ⟨⟨op_shr, op_shl, op_or, op_and, op_ush⟩, op_byte⟩
end CkFact5
