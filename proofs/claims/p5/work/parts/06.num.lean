section EvNum
variable {ad : List Nat} {sg : List Int32} {fo : evF}
/-- a way that is gone, with what is known there -/
def eWay (sg : List Int32) (k : evEnv → Bool) : Prop := ∃ env, eE env sg ∧ k env = true
theorem eB_f {a b : Nat} (h : Nat.beq a b = false) : a ≠ b := fun e => by subst e; rw [Nat.beq_refl] at h; cases h
theorem eB_l {a b : Nat} (h : Nat.blt a b = true) : a < b := Nat.le_of_ble_eq_true h
theorem eB_nl {a b : Nat} (h : Nat.blt a b = false) : b ≤ a := by
  have : ¬ a < b := fun q => by rw [show Nat.blt a b = true from Nat.ble_eq_true_of_le q] at h; cases h
  omega
theorem eB_nle {a b : Nat} (h : Nat.ble a b = false) : b < a := by
  have : ¬ a ≤ b := fun q => by rw [Nat.ble_eq_true_of_le q] at h; cases h
  omega
theorem eLt_ok {env : evEnv} (hE : eE env sg) {a b : Nat} {x y : Int32} (ha : eR ad sg fo a (.int x)) (hb : eR ad sg fo b (.int y)) {kt kf : evEnv → Bool} (h : eLt env a b kt kf = true) : (x < y → eWay sg kt) ∧ (¬ x < y → eWay sg kf) := by
  obtain ⟨a1, a2⟩ := eIv_ok hE ha
  obtain ⟨b1, b2⟩ := eIv_ok hE hb
  rw [eX_lt]
  unfold eLt at h
  cases h1 : Nat.blt (eIv env a).2 (eIv env b).1
  · rw [h1] at h
    have h1 := eB_nl h1
    cases h2 : Nat.ble (eIv env b).2 (eIv env a).1
    · rw [h2] at h
      have h2 := eB_nle h2
      cases h3 : Nat.beq (eIv env b).1 (eIv env b).2
      · rw [h3] at h
        cases h4 : Nat.beq (eIv env a).1 (eIv env a).2
        · rw [h4] at h
          obtain ⟨q1, q2⟩ := eC_t h
          exact ⟨fun _ => ⟨env, hE, q1⟩, fun _ => ⟨env, hE, q2⟩⟩
        · rw [h4] at h
          have h4 := Nat.eq_of_beq_eq_true h4
          obtain ⟨q1, q2⟩ := eC_t h
          exact ⟨fun hl => ⟨_, eE_ref hE hb (by show _ + 1 ≤ _; omega) b2, q1⟩, fun hl => ⟨_, eE_ref hE hb b1 (by omega), q2⟩⟩
      · rw [h3] at h
        have h3 := Nat.eq_of_beq_eq_true h3
        obtain ⟨q1, q2⟩ := eC_t h
        exact ⟨fun hl => ⟨_, eE_ref hE ha a1 (by show _ ≤ (eIv env b).1 - 1; omega), q1⟩, fun hl => ⟨_, eE_ref hE ha (by omega) a2, q2⟩⟩
    · rw [h2] at h
      have h2 := Nat.le_of_ble_eq_true h2
      exact ⟨fun hl => by omega, fun _ => ⟨env, hE, h⟩⟩
  · rw [h1] at h
    have h1 := eB_l h1
    exact ⟨fun _ => ⟨env, hE, h⟩, fun hl => by omega⟩
theorem eEqc_ok {env : evEnv} (hE : eE env sg) {a c : Nat} {x : Int32} (ha : eR ad sg fo a (.int x)) {kt kf : evEnv → Bool} (h : eEqc env a c kt kf = true) : (eX x = c → eWay sg kt) ∧ (¬ eX x = c → eWay sg kf) := by
  obtain ⟨a1, a2⟩ := eIv_ok hE ha
  unfold eEqc at h
  cases h1 : Nat.blt (eIv env a).2 c
  · rw [h1] at h
    have h1 := eB_nl h1
    cases h2 : Nat.blt c (eIv env a).1
    · rw [h2] at h
      have h2 := eB_nl h2
      cases h3 : Nat.beq (eIv env a).1 (eIv env a).2
      · rw [h3] at h
        obtain ⟨q1, q2⟩ := eC_t h
        refine ⟨fun e => ⟨_, eE_ref hE ha (by omega) (by omega), q1⟩, fun e => ?_⟩
        cases h4 : Nat.beq c (eIv env a).1
        · rw [h4] at q2
          cases h5 : Nat.beq c (eIv env a).2
          · rw [h5] at q2
            cases h6 : Nat.beq (eTg a) 2
            · rw [h6] at q2
              exact ⟨env, hE, q2⟩
            · rw [h6] at q2
              obtain ⟨q3, q4⟩ := eC_t q2
              by_cases e2 : eX x < c
              · exact ⟨_, eE_ref hE ha a1 (by show _ ≤ c - 1; omega), q3⟩
              · exact ⟨_, eE_ref hE ha (by show c + 1 ≤ _; omega) a2, q4⟩
          · rw [h5] at q2
            have h5 := Nat.eq_of_beq_eq_true h5
            exact ⟨_, eE_ref hE ha a1 (by show _ ≤ c - 1; omega), q2⟩
        · rw [h4] at q2
          have h4 := Nat.eq_of_beq_eq_true h4
          exact ⟨_, eE_ref hE ha (by show c + 1 ≤ _; omega) a2, q2⟩
      · rw [h3] at h
        have h3 := Nat.eq_of_beq_eq_true h3
        exact ⟨fun _ => ⟨env, hE, h⟩, fun e => by omega⟩
    · rw [h2] at h
      have h2 := eB_l h2
      exact ⟨fun e => by omega, fun _ => ⟨env, hE, h⟩⟩
  · rw [h1] at h
    have h1 := eB_l h1
    exact ⟨fun e => by omega, fun _ => ⟨env, hE, h⟩⟩
theorem eSpi_ok {i : Nat} {x : Int32} (hi : eR ad sg fo i (.int x)) {k : Nat → evEnv → Bool} {z : Nat} (hx : eX x = z + 2147483648) : ∀ (n j : Nat) (env : evEnv), eE env sg → eSpi i k n j env = true → j ≤ z → z ≤ j + n → ∃ env', eE env' sg ∧ k z env' = true := by
  intro n
  induction n with
  | zero =>
    intro j env hE h h1 h2
    have e : z = j := by omega
    rw [e]
    exact ⟨env, hE, h⟩
  | succ n ih =>
    intro j env hE h h1 h2
    have h : eEqc env i (Nat.add j 2147483648) (fun env => k j env) (fun env => eSpi i k n (Nat.add j 1) env) = true := h
    obtain ⟨q1, q2⟩ := eEqc_ok hE hi h
    by_cases e : z = j
    · obtain ⟨env', e1, e2⟩ := q1 (by show _ = j + 2147483648; omega)
      rw [e]
      exact ⟨env', e1, e2⟩
    · obtain ⟨env', e1, e2⟩ := q2 (by show ¬ _ = j + 2147483648; omega)
      exact ih (j + 1) env' e1 e2 (by omega) (by omega)
theorem eEq_ok {env : evEnv} (hE : eE env sg) {a b : Nat} {x y : Int32} (ha : eR ad sg fo a (.int x)) (hb : eR ad sg fo b (.int y)) {kt kf : evEnv → Bool} (h : eEq env a b kt kf = true) : (x = y → eWay sg kt) ∧ (¬ x = y → eWay sg kf) := by
  obtain ⟨a1, a2⟩ := eIv_ok hE ha
  obtain ⟨b1, b2⟩ := eIv_ok hE hb
  unfold eEq at h
  cases h1 : Nat.beq (eIv env b).1 (eIv env b).2
  · rw [h1] at h
    cases h2 : Nat.beq (eIv env a).1 (eIv env a).2
    · rw [h2] at h
      obtain ⟨q1, q2⟩ := eC_t h
      exact ⟨fun _ => ⟨env, hE, q1⟩, fun _ => ⟨env, hE, q2⟩⟩
    · rw [h2] at h
      have h2 := Nat.eq_of_beq_eq_true h2
      obtain ⟨q1, q2⟩ := eEqc_ok hE hb h
      exact ⟨fun e => q1 (by rw [← e]; omega), fun e => q2 (fun w => e (eX_inj (by omega)))⟩
  · rw [h1] at h
    have h1 := Nat.eq_of_beq_eq_true h1
    obtain ⟨q1, q2⟩ := eEqc_ok hE ha h
    exact ⟨fun e => q1 (by rw [e]; omega), fun e => q2 (fun w => e (eX_inj (by omega)))⟩
/-- what a comparison of two ints says -/
def eHolds (o : ClassFile.Cond) (x y : Int32) : Prop := match o with
  | .eq => x = y
  | .ne => ¬ x = y
  | .lt => x < y
  | .ge => ¬ x < y
  | .gt => y < x
  | .le => ¬ y < x
theorem eCmp_ok {env : evEnv} (hE : eE env sg) {a b : Nat} {x y : Int32} (ha : eR ad sg fo a (.int x)) (hb : eR ad sg fo b (.int y)) (o : ClassFile.Cond) {kt kf : evEnv → Bool} (h : eCmp o env a b kt kf = true) : (eHolds o x y → eWay sg kt) ∧ (¬ eHolds o x y → eWay sg kf) := by
  cases o
  case eq => exact eEq_ok hE ha hb h
  case ne => exact ⟨(eEq_ok hE ha hb h).2, fun q => (eEq_ok hE ha hb h).1 (Classical.not_not.mp q)⟩
  case lt => exact eLt_ok hE ha hb h
  case ge => exact ⟨(eLt_ok hE ha hb h).2, fun q => (eLt_ok hE ha hb h).1 (Classical.not_not.mp q)⟩
  case gt => exact eLt_ok hE hb ha h
  case le => exact ⟨(eLt_ok hE hb ha h).2, fun q => (eLt_ok hE hb ha h).1 (Classical.not_not.mp q)⟩
/-- an operation on two ints -/
def eOpOk (op : evEnv → Nat → Nat → (Nat → evEnv → Bool) → Bool) (f : Int32 → Int32 → Int32) (P : Int32 → Prop) : Prop :=
  ∀ (ad : List Nat) (sg : List Int32) (fo : evF) (env : evEnv) (a b : Nat) (x y : Int32) (k : Nat → evEnv → Bool), eE env sg → eR ad sg fo a (.int x) → eR ad sg fo b (.int y) → op env a b k = true →
    P y ∧ ∃ (v : Nat) (env' : evEnv) (sg' : List Int32), (∃ t, sg' = sg ++ t) ∧ eE env' sg' ∧ eR ad sg' fo v (.int (f x y)) ∧ k v env' = true
theorem eStay (sg : List Int32) : ∃ t, sg = sg ++ t := ⟨[], by simp⟩
theorem eTwo {a b : Nat} {z : Bool} (h : cond (Nat.beq (eTg a) 1) z false = true) (hz : z = true → eTg b = 1) : eTg a = 1 ∧ eTg b = 1 := ⟨Nat.eq_of_beq_eq_true (eC_t h).1, hz (eC_t h).2⟩
theorem eNm_ok {env : evEnv} {k : Nat → evEnv → Bool} {lo hi : Nat} {z : Int32} (hE : eE env sg) (h : eNm env k (env ++ [(lo, hi)]) = true) (h1 : lo ≤ eX z) (h2 : eX z ≤ hi) : ∃ (v : Nat) (env' : evEnv) (sg' : List Int32), (∃ t, sg' = sg ++ t) ∧ eE env' sg' ∧ eR ad sg' fo v (.int z) ∧ k v env' = true := by
  obtain ⟨q1, q2⟩ := eC_t h
  have q1 := eB_l q1
  refine ⟨_, _, sg ++ [z], ⟨[z], rfl⟩, eE_new hE h1 h2, ?_, q2⟩
  rw [hE.1]
  exact eR_new (by rw [← hE.1]; exact q1)
theorem eTn (x : Int32) : x.toBitVec.toNat < 4294967296 := x.toBitVec.isLt
theorem eX_add (x y : Int32) : eX (x + y) = (eX x + eX y + 2147483648) % 4294967296 := by
  have e : (x + y).toBitVec.toNat = (x.toBitVec.toNat + y.toBitVec.toNat) % 4294967296 := BitVec.toNat_add x.toBitVec y.toBitVec
  unfold eX
  rw [e]
  omega
theorem eX_sub (x y : Int32) : eX (x - y) = (eX x + (4294967296 - eX y) + 2147483648) % 4294967296 := by
  have e : (x - y).toBitVec.toNat = ((4294967296 - y.toBitVec.toNat) + x.toBitVec.toNat) % 4294967296 := BitVec.toNat_sub x.toBitVec y.toBitVec
  have hx := eTn x
  have hy := eTn y
  unfold eX
  rw [e]
  omega
theorem nI_mod (n : Nat) : nI (n % 4294967296) = nI n := by
  apply Int32.toBitVec_inj.mp
  apply BitVec.eq_of_toNat_eq
  show (n % 4294967296) % 2 ^ 32 = n % 2 ^ 32
  omega
theorem eAdd_ok : eOpOk eAdd (fun x y => x + y) (fun _ => True) := by
  intro ad sg fo env a b x y k hE ha hb h
  refine ⟨trivial, ?_⟩
  obtain ⟨a1, a2⟩ := eIv_ok hE ha
  obtain ⟨b1, b2⟩ := eIv_ok hE hb
  unfold eAdd at h
  cases h1 : cond (Nat.beq (eTg a) 1) (Nat.beq (eTg b) 1) false
  · rw [h1] at h
    cases h2 : cond (Nat.ble 2147483648 (Nat.add (eIv env a).1 (eIv env b).1)) (Nat.blt (Nat.add (eIv env a).2 (eIv env b).2) 6442450944) false
    · rw [h2] at h
      exact ⟨3, env, sg, eStay sg, hE, eR_any _, h⟩
    · rw [h2] at h
      obtain ⟨q1, q2⟩ := eC_t h2
      have q1 : 2147483648 ≤ (eIv env a).1 + (eIv env b).1 := Nat.le_of_ble_eq_true q1
      have q2 : (eIv env a).2 + (eIv env b).2 < 6442450944 := eB_l q2
      have e := eX_add x y
      refine eNm_ok hE h ?_ ?_
      · show (eIv env a).1 + (eIv env b).1 - 2147483648 ≤ eX (x + y)
        omega
      · show eX (x + y) ≤ (eIv env a).2 + (eIv env b).2 - 2147483648
        omega
  · rw [h1] at h
    obtain ⟨t1, t2⟩ := eTwo h1 Nat.eq_of_beq_eq_true
    obtain ⟨p1, e1⟩ := eR_1 ha t1
    obtain ⟨p2, e2⟩ := eR_1 hb t2
    cases e1; cases e2
    refine ⟨_, env, sg, eStay sg, hE, ?_, h⟩
    have := eR_c (ad := ad) (sg := sg) (fo := fo) (n := eWrap (Nat.add (ePl a) (ePl b))) (Nat.mod_lt _ (by decide))
    rw [show nI (eWrap (Nat.add (ePl a) (ePl b))) = nI (ePl a) + nI (ePl b) from by rw [nI_add]; exact nI_mod _] at this
    exact this
theorem eSub_ok : eOpOk eSub (fun x y => x - y) (fun _ => True) := by
  intro ad sg fo env a b x y k hE ha hb h
  refine ⟨trivial, ?_⟩
  obtain ⟨a1, a2⟩ := eIv_ok hE ha
  obtain ⟨b1, b2⟩ := eIv_ok hE hb
  unfold eSub at h
  cases h1 : cond (Nat.beq (eTg a) 1) (Nat.beq (eTg b) 1) false
  · rw [h1] at h
    cases h2 : cond (Nat.ble (eIv env b).2 (Nat.add (eIv env a).1 2147483648)) (Nat.blt (Nat.add (eIv env a).2 2147483648) (Nat.add (eIv env b).1 4294967296)) false
    · rw [h2] at h
      exact ⟨3, env, sg, eStay sg, hE, eR_any _, h⟩
    · rw [h2] at h
      obtain ⟨q1, q2⟩ := eC_t h2
      have q1 : (eIv env b).2 ≤ (eIv env a).1 + 2147483648 := Nat.le_of_ble_eq_true q1
      have q2 : (eIv env a).2 + 2147483648 < (eIv env b).1 + 4294967296 := eB_l q2
      have e := eX_sub x y
      have hy := eX_lt32 y
      refine eNm_ok hE h ?_ ?_
      · show (eIv env a).1 + 2147483648 - (eIv env b).2 ≤ eX (x - y)
        omega
      · show eX (x - y) ≤ (eIv env a).2 + 2147483648 - (eIv env b).1
        omega
  · rw [h1] at h
    obtain ⟨t1, t2⟩ := eTwo h1 Nat.eq_of_beq_eq_true
    obtain ⟨p1, e1⟩ := eR_1 ha t1
    obtain ⟨p2, e2⟩ := eR_1 hb t2
    cases e1; cases e2
    refine ⟨_, env, sg, eStay sg, hE, ?_, h⟩
    have := eR_c (ad := ad) (sg := sg) (fo := fo) (n := eWrap (Nat.add (ePl a) (Nat.sub 4294967296 (ePl b)))) (Nat.mod_lt _ (by decide))
    rw [show nI (eWrap (Nat.add (ePl a) (Nat.sub 4294967296 (ePl b)))) = nI (ePl a) - nI (ePl b) from by
      apply Int32.toBitVec_inj.mp
      apply BitVec.eq_of_toNat_eq
      rw [show (nI (ePl a) - nI (ePl b)).toBitVec.toNat = ((4294967296 - (nI (ePl b)).toBitVec.toNat) + (nI (ePl a)).toBitVec.toNat) % 4294967296 from BitVec.toNat_sub _ _, pk_tn p1, pk_tn p2, pk_tn (n := eWrap (Nat.add (ePl a) (Nat.sub 4294967296 (ePl b)))) (Nat.mod_lt _ (by decide))]
      show (ePl a + (4294967296 - ePl b)) % 4294967296 = _
      rw [Nat.add_comm]] at this
    exact this
set_option maxRecDepth 20000 in
theorem eMul_ok : eOpOk eMul (fun x y => x * y) (fun _ => True) := by
  intro ad sg fo env a b x y k hE ha hb h
  refine ⟨trivial, ?_⟩
  obtain ⟨a1, a2⟩ := eIv_ok hE ha
  obtain ⟨b1, b2⟩ := eIv_ok hE hb
  unfold eMul at h
  cases h1 : cond (Nat.beq (eTg a) 1) (Nat.beq (eTg b) 1) false
  · rw [h1] at h
    cases h2 : cond (Nat.ble 2147483648 (eIv env a).1) (cond (Nat.ble 2147483648 (eIv env b).1) (Nat.blt (Nat.mul (Nat.sub (eIv env a).2 2147483648) (Nat.sub (eIv env b).2 2147483648)) 2147483648) false) false
    · rw [h2] at h
      exact ⟨3, env, sg, eStay sg, hE, eR_any _, h⟩
    · rw [h2] at h
      obtain ⟨q1, q2⟩ := eC_t h2
      obtain ⟨q2, q3⟩ := eC_t q2
      have q1 : 2147483648 ≤ (eIv env a).1 := Nat.le_of_ble_eq_true q1
      have q2 : 2147483648 ≤ (eIv env b).1 := Nat.le_of_ble_eq_true q2
      have q3 : ((eIv env a).2 - 2147483648) * ((eIv env b).2 - 2147483648) < 2147483648 := eB_l q3
      obtain ⟨p1, hp1, rfl⟩ := eX_of x
      obtain ⟨p2, hp2, rfl⟩ := eX_of y
      have hx : eX (nI p1) = (p1 + 2147483648) % 4294967296 := eX_nI hp1
      have hy : eX (nI p2) = (p2 + 2147483648) % 4294967296 := eX_nI hp2
      have n1 : p1 < 2147483648 := by omega
      have n2 : p2 < 2147483648 := by omega
      have hx' : eX (nI p1) = p1 + 2147483648 := by rw [hx]; exact Nat.mod_eq_of_lt (by omega)
      have hy' : eX (nI p2) = p2 + 2147483648 := by rw [hy]; exact Nat.mod_eq_of_lt (by omega)
      rw [hx'] at a1 a2
      rw [hy'] at b1 b2
      have g1 : p1 ≤ (eIv env a).2 - 2147483648 := Nat.le_sub_of_add_le a2
      have g2 : p2 ≤ (eIv env b).2 - 2147483648 := Nat.le_sub_of_add_le b2
      have g3 : (eIv env a).1 - 2147483648 ≤ p1 := Nat.sub_le_of_le_add a1
      have g4 : (eIv env b).1 - 2147483648 ≤ p2 := Nat.sub_le_of_le_add b1
      have m1 := Nat.mul_le_mul g1 g2
      have m2 := Nat.mul_le_mul g3 g4
      have e : eX (nI p1 * nI p2) = p1 * p2 + 2147483648 := by
        rw [pk_mul, eX_nI (by omega)]
        show (p1 * p2 + 2147483648) % 4294967296 = _
        omega
      refine eNm_ok hE h ?_ ?_
      · show 2147483648 + ((eIv env a).1 - 2147483648) * ((eIv env b).1 - 2147483648) ≤ eX (nI p1 * nI p2)
        omega
      · show eX (nI p1 * nI p2) ≤ 2147483648 + ((eIv env a).2 - 2147483648) * ((eIv env b).2 - 2147483648)
        omega
  · rw [h1] at h
    obtain ⟨t1, t2⟩ := eTwo h1 Nat.eq_of_beq_eq_true
    obtain ⟨p1, e1⟩ := eR_1 ha t1
    obtain ⟨p2, e2⟩ := eR_1 hb t2
    cases e1; cases e2
    refine ⟨_, env, sg, eStay sg, hE, ?_, h⟩
    have := eR_c (ad := ad) (sg := sg) (fo := fo) (n := eWrap (Nat.mul (ePl a) (ePl b))) (Nat.mod_lt _ (by decide))
    rw [show nI (eWrap (Nat.mul (ePl a) (ePl b))) = nI (ePl a) * nI (ePl b) from by rw [pk_mul]; exact nI_mod _] at this
    exact this
theorem eN_and (a b : Nat) : nI a &&& nI b = nI (a &&& b) := by
  apply Int32.toBitVec_inj.1
  show BitVec.ofNat 32 a &&& BitVec.ofNat 32 b = BitVec.ofNat 32 (a &&& b)
  apply BitVec.eq_of_getLsbD_eq
  intro i hi
  simp [hi]
theorem eN_or (a b : Nat) : nI a ||| nI b = nI (a ||| b) := by
  apply Int32.toBitVec_inj.1
  show BitVec.ofNat 32 a ||| BitVec.ofNat 32 b = BitVec.ofNat 32 (a ||| b)
  apply BitVec.eq_of_getLsbD_eq
  intro i hi
  simp [hi]
theorem eN_xor (a b : Nat) : nI a ^^^ nI b = nI (a ^^^ b) := by
  apply Int32.toBitVec_inj.1
  show BitVec.ofNat 32 a ^^^ BitVec.ofNat 32 b = BitVec.ofNat 32 (a ^^^ b)
  apply BitVec.eq_of_getLsbD_eq
  intro i hi
  simp [hi]
theorem eAnd_ok : eOpOk eAnd (fun x y => x &&& y) (fun _ => True) := by
  intro ad sg fo env a b x y k hE ha hb h
  refine ⟨trivial, ?_⟩
  unfold eAnd at h
  cases h1 : cond (Nat.beq (eTg a) 1) (Nat.beq (eTg b) 1) false
  · rw [h1] at h
    cases h2 : cond (Nat.beq (eTg b) 1) (Nat.blt (ePl b) 2147483648) false
    · rw [h2] at h
      exact ⟨3, env, sg, eStay sg, hE, eR_any _, h⟩
    · rw [h2] at h
      obtain ⟨q1, q2⟩ := eC_t h2
      have q2 := eB_l q2
      obtain ⟨p2, e2⟩ := eR_1 hb (Nat.eq_of_beq_eq_true q1)
      cases e2
      obtain ⟨p1, hp1, rfl⟩ := eX_of x
      have hle : p1 &&& ePl b ≤ ePl b := Nat.and_le_right
      have e : eX (nI p1 &&& nI (ePl b)) = (p1 &&& ePl b) + 2147483648 := by
        rw [eN_and, eX_nI (by omega)]
        show ((p1 &&& ePl b) + 2147483648) % 4294967296 = _
        omega
      refine eNm_ok hE h ?_ ?_
      · show 2147483648 ≤ eX (nI p1 &&& nI (ePl b))
        omega
      · show eX (nI p1 &&& nI (ePl b)) ≤ 2147483648 + ePl b
        omega
  · rw [h1] at h
    obtain ⟨t1, t2⟩ := eTwo h1 Nat.eq_of_beq_eq_true
    obtain ⟨p1, e1⟩ := eR_1 ha t1
    obtain ⟨p2, e2⟩ := eR_1 hb t2
    cases e1; cases e2
    refine ⟨_, env, sg, eStay sg, hE, ?_, h⟩
    have hle : ePl a &&& ePl b ≤ ePl b := Nat.and_le_right
    have := eR_c (ad := ad) (sg := sg) (fo := fo) (n := Nat.land (ePl a) (ePl b)) (Nat.lt_of_le_of_lt hle p2)
    rw [show nI (Nat.land (ePl a) (ePl b)) = nI (ePl a) &&& nI (ePl b) from (eN_and _ _).symm] at this
    exact this
theorem eOp_ok {f : Nat → Nat → Nat} {g : Int32 → Int32 → Int32} (h0 : ∀ a b, a < 4294967296 → b < 4294967296 → f a b < 4294967296 ∧ nI (f a b) = g (nI a) (nI b)) : eOpOk (eOp f) g (fun _ => True) := by
  intro ad sg fo env a b x y k hE ha hb h
  refine ⟨trivial, ?_⟩
  unfold eOp at h
  cases h1 : cond (Nat.beq (eTg a) 1) (Nat.beq (eTg b) 1) false
  · rw [h1] at h
    exact ⟨3, env, sg, eStay sg, hE, eR_any _, h⟩
  · rw [h1] at h
    obtain ⟨t1, t2⟩ := eTwo h1 Nat.eq_of_beq_eq_true
    obtain ⟨p1, e1⟩ := eR_1 ha t1
    obtain ⟨p2, e2⟩ := eR_1 hb t2
    cases e1; cases e2
    refine ⟨_, env, sg, eStay sg, hE, ?_, h⟩
    obtain ⟨q1, q2⟩ := h0 _ _ p1 p2
    have := eR_c (ad := ad) (sg := sg) (fo := fo) q1
    rw [q2] at this
    exact this
theorem eOr_ok : eOpOk (eOp fOr) (fun x y => x ||| y) (fun _ => True) := eOp_ok fun a b ha hb => ⟨Nat.or_lt_two_pow (n := 32) ha hb, (eN_or a b).symm⟩
theorem eXor_ok : eOpOk (eOp fXor) (fun x y => x ^^^ y) (fun _ => True) := eOp_ok fun a b ha hb => ⟨Nat.xor_lt_two_pow (n := 32) ha hb, (eN_xor a b).symm⟩
theorem eS_l : ∀ n, n < 32 → ((nI n &&& 31).toBitVec.smod 32).toNat = n := by decide
theorem eS_u : ∀ n, n < 32 → (((nI n).toUInt32 &&& Int32.toUInt32 31).toBitVec % 32).toNat = n := by decide
theorem nI_back (x : Int32) : nI x.toBitVec.toNat = x := by
  apply Int32.toBitVec_inj.mp
  apply BitVec.eq_of_toNat_eq
  exact pk_tn x.toBitVec.isLt
theorem fI_ok (f : Int32 → Int32 → Int32) (a b : Nat) (_ : a < 4294967296) (_ : b < 4294967296) : fI f a b < 4294967296 ∧ nI (fI f a b) = f (nI a) (nI b) := ⟨(f (nI a) (nI b)).toBitVec.isLt, nI_back _⟩
theorem eShl_ok : eOpOk eShl (fun x y => x <<< (y &&& 31)) (fun _ => True) := by
  intro ad sg fo env a b x y k hE ha hb h
  refine ⟨trivial, ?_⟩
  unfold eShl at h
  cases h1 : cond (Nat.beq (eTg a) 1) (cond (Nat.beq (eTg b) 1) (Nat.blt (ePl b) 32) false) false
  · rw [h1] at h
    exact (eOp_ok (fI_ok _) ad sg fo env a b x y k hE ha hb h).2
  · rw [h1] at h
    obtain ⟨t1, t2⟩ := eC_t h1
    obtain ⟨t2, t3⟩ := eC_t t2
    have t3 := eB_l t3
    obtain ⟨p1, e1⟩ := eR_1 ha (Nat.eq_of_beq_eq_true t1)
    obtain ⟨p2, e2⟩ := eR_1 hb (Nat.eq_of_beq_eq_true t2)
    cases e1; cases e2
    refine ⟨_, env, sg, eStay sg, hE, ?_, h⟩
    have hlt : eWrap (Nat.mul (ePl a) (Nat.pow 2 (ePl b))) < 4294967296 := Nat.mod_lt _ (by decide)
    have := eR_c (ad := ad) (sg := sg) (fo := fo) hlt
    rw [show nI (eWrap (Nat.mul (ePl a) (Nat.pow 2 (ePl b)))) = nI (ePl a) <<< (nI (ePl b) &&& 31) from by
      apply Int32.toBitVec_inj.mp
      apply BitVec.eq_of_toNat_eq
      rw [pk_tn hlt, pk_shl _ _ (ePl b) (eS_l _ t3), pk_tn p1]
      rfl] at this
    exact this
theorem eUsh_ok : eOpOk eUsh (fun x y => (x.toUInt32 >>> (y.toUInt32 &&& Int32.toUInt32 31)).toInt32) (fun _ => True) := by
  intro ad sg fo env a b x y k hE ha hb h
  refine ⟨trivial, ?_⟩
  unfold eUsh at h
  cases h1 : cond (Nat.beq (eTg a) 1) (cond (Nat.beq (eTg b) 1) (Nat.blt (ePl b) 32) false) false
  · rw [h1] at h
    exact (eOp_ok (fI_ok _) ad sg fo env a b x y k hE ha hb h).2
  · rw [h1] at h
    obtain ⟨t1, t2⟩ := eC_t h1
    obtain ⟨t2, t3⟩ := eC_t t2
    have t3 := eB_l t3
    obtain ⟨p1, e1⟩ := eR_1 ha (Nat.eq_of_beq_eq_true t1)
    obtain ⟨p2, e2⟩ := eR_1 hb (Nat.eq_of_beq_eq_true t2)
    cases e1; cases e2
    refine ⟨_, env, sg, eStay sg, hE, ?_, h⟩
    have := eR_c (ad := ad) (sg := sg) (fo := fo) (n := Nat.div (ePl a) (Nat.pow 2 (ePl b))) (Nat.lt_of_le_of_lt (Nat.div_le_self _ _) p1)
    rw [show nI (Nat.div (ePl a) (Nat.pow 2 (ePl b))) = ((nI (ePl a)).toUInt32 >>> ((nI (ePl b)).toUInt32 &&& Int32.toUInt32 31)).toInt32 from (pk_ushrN p1 _ _ (eS_u _ t3)).symm] at this
    exact this
theorem e0shr (s : Int32) : (nI 0) >>> s = nI 0 := by
  apply Int32.toInt_inj.mp
  rw [pk_shr _ _ _ rfl]
  show (0 : Int) >>> _ = 0
  exact Int.zero_shiftRight _
theorem eShr_ok : eOpOk eShr (fun x y => x >>> (y &&& 31)) (fun _ => True) := by
  intro ad sg fo env a b x y k hE ha hb h
  refine ⟨trivial, ?_⟩
  unfold eShr at h
  cases h0 : Nat.beq a 1
  · rw [h0] at h
    have h : cond (cond (Nat.beq (eTg a) 1) (cond (Nat.beq (eTg b) 1) (cond (Nat.blt (ePl b) 32) (Nat.blt (ePl a) 2147483648) false) false) false) (k (eCi (Nat.div (ePl a) (Nat.pow 2 (ePl b)))) env) (eOp (fI (fun x y => x >>> (y &&& 31))) env a b k) = true := h
    cases h1 : cond (Nat.beq (eTg a) 1) (cond (Nat.beq (eTg b) 1) (cond (Nat.blt (ePl b) 32) (Nat.blt (ePl a) 2147483648) false) false) false
    · rw [h1] at h
      exact (eOp_ok (fI_ok _) ad sg fo env a b x y k hE ha hb h).2
    · rw [h1] at h
      obtain ⟨t1, t2⟩ := eC_t h1
      obtain ⟨t2, t3⟩ := eC_t t2
      obtain ⟨t3, t4⟩ := eC_t t3
      have t3 := eB_l t3
      have t4 := eB_l t4
      obtain ⟨p1, e1⟩ := eR_1 ha (Nat.eq_of_beq_eq_true t1)
      obtain ⟨p2, e2⟩ := eR_1 hb (Nat.eq_of_beq_eq_true t2)
      cases e1; cases e2
      refine ⟨_, env, sg, eStay sg, hE, ?_, h⟩
      have := eR_c (ad := ad) (sg := sg) (fo := fo) (n := Nat.div (ePl a) (Nat.pow 2 (ePl b))) (Nat.lt_of_le_of_lt (Nat.div_le_self _ _) p1)
      rw [show nI (Nat.div (ePl a) (Nat.pow 2 (ePl b))) = nI (ePl a) >>> (nI (ePl b) &&& 31) from (pk_shrN t4 _ _ (eS_l _ t3)).symm] at this
      exact this
  · rw [h0] at h
    have e := Nat.eq_of_beq_eq_true h0
    subst e
    obtain ⟨p1, e1⟩ := eR_1 ha rfl
    cases e1
    refine ⟨1, env, sg, eStay sg, hE, ?_, h⟩
    have := eR_c (ad := ad) (sg := sg) (fo := fo) (n := 0) (by decide)
    show eR ad sg fo 1 (.int (nI 0 >>> _))
    rw [e0shr]
    exact this
theorem nI_nz {b : Nat} (h0 : 0 < b) (h : b < 4294967296) : ¬ nI b = 0 := by
  intro q
  have e : (nI b).toBitVec.toNat = b := pk_tn h
  rw [q] at e
  have e0 : (0 : Int32).toBitVec.toNat = 0 := rfl
  omega
theorem ePos_ok {f f2 : Nat → Nat → Nat} {g : Int32 → Int32 → Int32} (h0 : ∀ a b, a < 2 ^ 31 → 0 < b → b < 2 ^ 31 → f a b < 4294967296 ∧ nI (f a b) = g (nI a) (nI b)) (h02 : ∀ a b, a < 4294967296 → b < 4294967296 → f2 a b < 4294967296 ∧ nI (f2 a b) = g (nI a) (nI b)) : eOpOk (ePos f f2) g (fun y => ¬ y = 0) := by
  intro ad sg fo env a b x y k hE ha hb h
  unfold ePos at h
  obtain ⟨h1, h⟩ := eC_t h
  obtain ⟨t1, h1⟩ := eC_t h1
  obtain ⟨t2, t5⟩ := eC_t h1
  have t5 := eB_l t5
  obtain ⟨p1, e1⟩ := eR_1 ha (Nat.eq_of_beq_eq_true t1)
  obtain ⟨p2, e2⟩ := eR_1 hb (Nat.eq_of_beq_eq_true t2)
  cases e1; cases e2
  refine ⟨nI_nz t5 p2, ?_⟩
  cases h3 : cond (Nat.blt (ePl a) 2147483648) (Nat.blt (ePl b) 2147483648) false
  · rw [h3] at h
    obtain ⟨q1, q2⟩ := h02 _ _ p1 p2
    refine ⟨_, env, sg, eStay sg, hE, ?_, h⟩
    have := eR_c (ad := ad) (sg := sg) (fo := fo) q1
    rw [q2] at this
    exact this
  · rw [h3] at h
    obtain ⟨t3, t4⟩ := eC_t h3
    obtain ⟨q1, q2⟩ := h0 _ _ (eB_l t3) t5 (eB_l t4)
    refine ⟨_, env, sg, eStay sg, hE, ?_, h⟩
    have := eR_c (ad := ad) (sg := sg) (fo := fo) q1
    rw [q2] at this
    exact this
theorem eDiv_ok : eOpOk (ePos fDiv (fI (fun x y => x / y))) (fun x y => x / y) (fun y => ¬ y = 0) := ePos_ok (fun a b ha h0 hb => ⟨Nat.lt_of_le_of_lt (Nat.div_le_self _ _) (by omega), (pk_div ha h0 hb).symm⟩) (fI_ok _)
theorem eRem_ok : eOpOk (ePos fRem (fI (fun x y => x - x / y * y))) (fun x y => x - x / y * y) (fun y => ¬ y = 0) := ePos_ok (fun a b ha h0 hb => ⟨Nat.lt_of_lt_of_le (Nat.mod_lt _ h0) (by omega), (pk_rem ha h0 hb).symm⟩) (fI_ok _)
/-- a constant -/
theorem eN32_lt (n : Int) : eN32 n < 4294967296 := by
  cases n with
  | ofNat n => exact Nat.mod_lt _ (by decide)
  | negSucc n =>
    show 4294967295 - n % 4294967296 < 4294967296
    omega
theorem eN32_ok (n : Int) : nI (eN32 n) = Int32.ofInt n := by
  apply Int32.toBitVec_inj.mp
  show BitVec.ofNat 32 (eN32 n) = BitVec.ofInt 32 n
  apply BitVec.eq_of_toNat_eq
  rw [BitVec.toNat_ofInt, BitVec.toNat_ofNat, Nat.mod_eq_of_lt (eN32_lt n)]
  cases n with
  | ofNat n =>
    show n % 4294967296 = ((Int.ofNat n) % ((2 ^ 32 : Nat) : Int)).toNat
    rw [Int.ofNat_eq_natCast]
    omega
  | negSucc n =>
    show 4294967295 - n % 4294967296 = ((Int.negSucc n) % ((2 ^ 32 : Nat) : Int)).toNat
    rw [Int.negSucc_eq]
    omega
end EvNum
