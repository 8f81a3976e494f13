section CkLaw9
noncomputable def wfB (a : Lean.RArray Nat) : Nat → Nat → Bool := @Lean.RArray.rec Nat (fun _ => Nat → Nat → Bool) (fun _ lo hi => Nat.beq hi (Nat.add lo 1)) (fun p _ _ wl wr lo hi => cond (Nat.blt lo p) (cond (Nat.blt p hi) (cond (wl lo p) (wr p hi) false) false) false) a
theorem wfB_ok : ∀ (a : Lean.RArray Nat) (lo hi : Nat), wfB a lo hi = true → eWf a lo hi := by
  intro a
  induction a with
  | leaf x => intro lo hi h; exact Nat.eq_of_beq_eq_true h
  | branch p l r ihl ihr =>
    intro lo hi h
    obtain ⟨h1, h⟩ := eC_t (show cond (Nat.blt lo p) (cond (Nat.blt p hi) (cond (wfB l lo p) (wfB r p hi) false) false) false = true from h)
    obtain ⟨h2, h⟩ := eC_t h
    obtain ⟨h3, h4⟩ := eC_t h
    exact ⟨Nat.le_of_ble_eq_true h1, Nat.le_of_ble_eq_true h2, ihl lo p h3, ihr p hi h4⟩
noncomputable def tyB (t : sTp) (w : Nat) : Bool := match t with
  | .inl q => cond (Nat.beq (eTg w) 1) (cond (Nat.blt (ePl w) 4294967296) (cond (zLe q.1 (sSgn (ePl w))) (zLe (sSgn (ePl w)) q.2) false) false) false
  | .inr (.inl _) => cond (Nat.beq (eTg w) 4) (Nat.blt w 147573952589676412928) false
  | .inr (.inr ros) => cond (Nat.beq (eTg w) 5) (cond (Nat.ble 1 (ePl w)) (cond (Nat.blt (Nat.sub (ePl w) 1) tNC) (decide (tRO (Nat.sub (ePl w) 1) ∈ ros)) false) false) false
theorem w_tp (w : Nat) : w = 8 * ePl w + eTg w := by
  show w = 8 * (w / 8) + w % 8
  omega
theorem tyB_ok {t : sTp} {w : Nat} (h : tyB t w = true) : tyOk t w := by
  cases t with
  | inl q =>
    obtain ⟨h1, h⟩ := eC_t (show cond (Nat.beq (eTg w) 1) (cond (Nat.blt (ePl w) 4294967296) (cond (zLe q.1 (sSgn (ePl w))) (zLe (sSgn (ePl w)) q.2) false) false) false = true from h)
    obtain ⟨h2, h⟩ := eC_t h
    obtain ⟨h3, h4⟩ := eC_t h
    have h1 := Nat.eq_of_beq_eq_true h1
    obtain ⟨a, b, c⟩ := sSgn_ok (show ePl w < 4294967296 from Nat.le_of_ble_eq_true h2)
    refine ⟨sSgn (ePl w), zLe_iff.mp h3, zLe_iff.mp h4, a, b, ?_⟩
    rw [← c]
    show w = 8 * ePl w + 1
    have := w_tp w
    omega
  | inr t =>
    cases t with
    | inl u =>
      obtain ⟨h1, h2⟩ := eC_t (show cond (Nat.beq (eTg w) 4) (Nat.blt w 147573952589676412928) false = true from h)
      exact ⟨Nat.eq_of_beq_eq_true h1, Nat.le_of_ble_eq_true h2⟩
    | inr ros =>
      obtain ⟨h1, h⟩ := eC_t (show cond (Nat.beq (eTg w) 5) (cond (Nat.ble 1 (ePl w)) (cond (Nat.blt (Nat.sub (ePl w) 1) tNC) (decide (tRO (Nat.sub (ePl w) 1) ∈ ros)) false) false) false = true from h)
      obtain ⟨h2, h⟩ := eC_t h
      obtain ⟨h3, h4⟩ := eC_t h
      have h1 := Nat.eq_of_beq_eq_true h1
      have h2 := Nat.le_of_ble_eq_true h2
      refine ⟨Nat.sub (ePl w) 1, Nat.le_of_ble_eq_true h3, of_decide_eq_true h4, ?_⟩
      show w = 8 * (ePl w - 1 + 1) + 5
      have := w_tp w
      omega
noncomputable def upB (f : Nat → Bool) (n : Nat) : Bool := @Nat.rec (fun _ => Bool) true (fun k ih => cond (f k) ih false) n
theorem upB_ok {f : Nat → Bool} : ∀ {n : Nat}, upB f n = true → ∀ k, k < n → f k = true := by
  intro n
  induction n with
  | zero => intro _ k hk; omega
  | succ n ih =>
    intro h k hk
    obtain ⟨h1, h2⟩ := eC_t (show cond (f n) (upB f n) false = true from h)
    by_cases e : k = n
    · rw [e]; exact h1
    · exact ih h2 k (by omega)
noncomputable def sgB (data : Nat) (sg : sSg) : Bool := @List.rec (Nat × Nat × sTp) (fun _ => Bool) true (fun q _ ih => cond (upB (fun k => tyB q.2.2 (eSl data (Nat.add q.1 k))) (Nat.sub q.2.1 q.1)) ih false) sg
theorem sgB_ok {data : Nat} : ∀ {sg : sSg}, sgB data sg = true → ∀ q ∈ sg, ∀ j, q.1 ≤ j → j < q.2.1 → tyOk q.2.2 (eSl data j) := by
  intro sg
  induction sg with
  | nil => intro _ q hq; cases hq
  | cons a sg ih =>
    intro h q hq j h1 h2
    obtain ⟨h3, h4⟩ := eC_t (show cond (upB (fun k => tyB a.2.2 (eSl data (Nat.add a.1 k))) (Nat.sub a.2.1 a.1)) (sgB data sg) false = true from h)
    rcases List.mem_cons.mp hq with rfl | hq
    · have z := tyB_ok (upB_ok h3 (j - q.1) (by show j - q.1 < q.2.1 - q.1; omega))
      have e : Nat.add q.1 (j - q.1) = j := by show q.1 + (j - q.1) = j; omega
      rw [e] at z
      exact z
    · exact ih h4 q hq j h1 h2
noncomputable def ceB (hp : Lean.RArray Nat) (c : Nat) : Bool := eF (Lean.RArray.get hp c) (fun x => cond (Nat.beq (eKi x) (tKi (tRO c))) (cond (Nat.beq (eLe x) (tLe (tRO c))) (eF (eDa x) (fun y => sgB y (tSg (tRO c)))) false) false)
theorem hOk_of {hp : Lean.RArray Nat} (h1 : wfB hp 0 1024 = true) (h2 : upB (ceB hp) tNC = true) : hOk hp := by
  refine ⟨wfB_ok _ _ _ h1, fun c hc => ?_⟩
  have h := upB_ok h2 c hc
  unfold ceB at h
  rw [eF_eq] at h
  obtain ⟨h3, h⟩ := eC_t h
  obtain ⟨h4, h⟩ := eC_t h
  rw [eF_eq] at h
  refine ⟨Nat.eq_of_beq_eq_true h3, Nat.eq_of_beq_eq_true h4, fun j t ht => ?_⟩
  obtain ⟨q, q1, q2, q3, q4⟩ := sSgAt_mem ht
  rw [← q4]
  exact sgB_ok h q q1 j q2 q3
set_option maxRecDepth 10000000 in
theorem eHp1_wf : wfB eHp1 0 1024 = true := by decide +kernel
set_option maxRecDepth 10000000 in
theorem eHp1_ce : upB (ceB eHp1) tNC = true := by decide +kernel
set_option maxRecDepth 10000000 in
theorem eHp1_v : (hv eHp1 0 10 = cR 52 ∧ hv eHp1 0 11 = cR 57 ∧ hv eHp1 0 6 = cR 2 ∧ hv eHp1 0 7 = cR 15) ∧ hI eHp1 275 6 = 0 ∧ hI eHp1 52 2 = 0 ∧ hI eHp1 237 2 = 0 ∧ hI eHp1 268 2 = 0 ∧ hI eHp1 275 690 = 0 ∧ hI eHp1 291 0 = 0 ∧ hI eHp1 291 1 = 0 ∧ hI eHp1 0 1 = 0 ∧ hI eHp1 273 2 = 0 ∧ hI eHp1 211 0 = 0 ∧ hI eHp1 242 0 = 0 := by
  unfold hI
  decide +kernel
set_option maxRecDepth 10000000 in
theorem eHp1_c : ∀ i : Nat, i < 30 → hL eHp1 174 i = cd 32 96 (wrd i) := by
  unfold hL
  decide +kernel
set_option maxRecDepth 10000000 in
theorem eHp1_r : ∀ i : Nat, i < 30 → hL eHp1 279 i = cd 256 0 (wrd (rsv i)) := by
  unfold hL
  decide +kernel
set_option maxRecDepth 10000000 in
theorem eHp1_n : ∀ j : Nat, j < 12 → hL eHp1 3 j = 0 ∧ hL eHp1 213 j = 0 ∧ hL eHp1 244 j = 0 := by
  unfold hL
  decide +kernel
set_option maxRecDepth 10000000 in
theorem eHp1_s : ∀ i : Nat, i < 5 → (2 ≤ i → hI eHp1 275 i = 0) ∧ hI eHp1 289 i = 0 ∧ hI eHp1 289 (871 * 1 + i) = 0 := by
  unfold hI
  decide +kernel
set_option maxRecDepth 10000000 in
theorem eHp1_z : hI eHp1 0 2 = hI eHp1 273 15 ∧ (hI eHp1 2 0 = hI eHp1 275 0 ∧ hI eHp1 2 1 = hI eHp1 275 1) ∧ hI eHp1 289 0 = 0 ∧ hI eHp1 289 871 = 0 := by
  unfold hI
  decide +kernel
theorem eHp1_in : lInv eHp1 := by
  obtain ⟨a1, a3, a4, a5, a6, a7, a8, a9, b1, b2, b3, b4⟩ := eHp1_v
  exact Or.inl ⟨hOk_of eHp1_wf eHp1_ce, a1, 0, 0, 0, 0, 0, 0, 0, by omega, by omega, by omega, by omega, by omega, by omega, by omega, a3, a4, a5, a6, ⟨b1, b2, b3, a8, b4, a9, eHp1_z.1⟩, sen0 (by omega), sen0 (by omega), sen0 (by omega), ch0 (by omega), pfs0 a7, fun h => (by rw [a8] at h; omega), fun h => (by rw [a9] at h; omega), ⟨0, by omega, fun i _ w => absurd w (by omega)⟩, eHp1_c, eHp1_r, ⟨fun c L hL => ⟨fun w => absurd w (nmX_0 (fun j hj => (eHp1_n j hj).1) hL), fun w => absurd w (nmG_0 (fun i h1 h2 => (eHp1_s i h2).1 h1))⟩, eHp1_z.2.1⟩, ⟨fun c L hL => ⟨fun w => absurd w (nmX_0 (fun j hj => (eHp1_n j hj).2.1) hL), fun w => absurd w (nmG_0 (fun i h1 h2 => by show hI eHp1 289 (871 * 0 + i) = 0; rw [Nat.mul_zero, Nat.zero_add]; exact (eHp1_s i h2).2.1))⟩, Or.inl eHp1_z.2.2.1⟩, ⟨fun c L hL => ⟨fun w => absurd w (nmX_0 (fun j hj => (eHp1_n j hj).2.2) hL), fun w => absurd w (nmG_0 (fun i h1 h2 => (eHp1_s i h2).2.2))⟩, Or.inl eHp1_z.2.2.2⟩⟩
theorem eL1_sl : lSl eL1 0 := by
  unfold lSl
  decide +kernel
end CkLaw9
