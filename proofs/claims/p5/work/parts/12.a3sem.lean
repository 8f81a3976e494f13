section CkSem
abbrev sVl : Type := Nat × sLn
abbrev sRf : Type := (Nat × sLn) × sLn × sVl
abbrev sFc : Type := Nat × List sLn
abbrev sHs : Type := List sRf × List sFc
theorem zMn_eq : zMn = -2147483648 := rfl
theorem zMx_eq : zMx = 2147483647 := rfl
/-- an int's code -/
noncomputable def cI (x : Int) : Nat := eCi (Int.toNat (x % 4294967296))
theorem cI_tg (x : Int) : eTg (cI x) = 1 := (eCi_tg _).1
theorem cI_pl (x : Int) : ePl (cI x) = Int.toNat (x % 4294967296) := (eCi_tg _).2
theorem cI_lt (x : Int) : ePl (cI x) < 4294967296 := by rw [cI_pl]; omega
theorem cI_72 (x : Int) : cI x < 2 ^ 72 := by
  show 8 * Int.toNat (x % 4294967296) + 1 < 2 ^ 72
  omega
theorem cI_isI (x : Int) : eIsI (cI x) = true := by unfold eIsI; rw [cI_tg]; rfl
theorem cI_nrm (env : evEnv) (x : Int) : eNrm env (cI x) = cI x := by unfold eNrm; rw [cI_tg]; rfl
theorem cI_iv (env : evEnv) {x : Int} (h1 : zMn ≤ x) (h2 : x ≤ zMx) : eIv env (cI x) = (Int.toNat (x + 2147483648), Int.toNat (x + 2147483648)) := by
  have e : eIv env (cI x) = (eBi (ePl (cI x)), eBi (ePl (cI x))) := by unfold eIv; rw [cI_tg]; rfl
  rw [zMn_eq] at h1
  rw [zMx_eq] at h2
  have e2 : eBi (ePl (cI x)) = Int.toNat (x + 2147483648) := by
    rw [cI_pl]
    show (Int.toNat (x % 4294967296) + 2147483648) % 4294967296 = _
    omega
  rw [e, e2]
theorem cI_con {x y : Int} (h : x % 4294967296 = y % 4294967296) : cI x = cI y := by unfold cI; rw [h]
theorem cI_wrap (x : Int) : ∃ z, zMn ≤ z ∧ z ≤ zMx ∧ cI x = cI z := by
  rw [zMn_eq, zMx_eq]
  by_cases h : x % 4294967296 < 2147483648
  · exact ⟨x % 4294967296, by omega, by omega, cI_con (by omega)⟩
  · exact ⟨x % 4294967296 - 4294967296, by omega, by omega, cI_con (by omega)⟩
theorem cI_nat (n : Nat) (h : n < 4294967296) : eCi n = cI (n : Int) := by
  unfold cI
  congr 1
  omega
theorem cI_inj {x y : Int} (h1 : zMn ≤ x) (h2 : x ≤ zMx) (h3 : zMn ≤ y) (h4 : y ≤ zMx) (h : cI x = cI y) : x = y := by
  have e : ePl (cI x) = ePl (cI y) := by rw [h]
  rw [cI_pl, cI_pl] at e
  rw [zMn_eq] at h1 h3
  rw [zMx_eq] at h2 h4
  omega
/-- a reference's code -/
noncomputable def cR (c : Nat) : Nat := Nat.add (Nat.mul 8 (c + 1)) 5
theorem cR_tg (c : Nat) : eTg (cR c) = 5 := (e8 (c + 1) 5 (by decide)).1
theorem cR_pl (c : Nat) : ePl (cR c) = c + 1 := (e8 (c + 1) 5 (by decide)).2
theorem cR_72 {c : Nat} (h : c < 1024) : cR c < 2 ^ 72 := by
  show 8 * (c + 1) + 5 < 2 ^ 72
  omega
theorem cR_isA (c : Nat) : eIsA (cR c) = true := by unfold eIsA; rw [cR_tg]; rfl
theorem cR_nrm (env : evEnv) (c : Nat) : eNrm env (cR c) = cR c := by unfold eNrm; rw [cR_tg]; rfl
theorem eNrm_4 (env : evEnv) {w : Nat} (h : eTg w = 4) : eNrm env w = w := by unfold eNrm; rw [h]; rfl
/-- a long's code -/
noncomputable def cL (x : Int) : Nat := Nat.add (Nat.mul 8 (Int.toNat (x % 18446744073709551616))) 4
theorem cL_tg (x : Int) : eTg (cL x) = 4 := (e8 _ 4 (by decide)).1
theorem cL_pl (x : Int) : ePl (cL x) = Int.toNat (x % 18446744073709551616) := (e8 _ 4 (by decide)).2
theorem cL_67 (x : Int) : cL x < 2 ^ 67 := by
  show 8 * Int.toNat (x % 18446744073709551616) + 4 < 2 ^ 67
  omega
theorem cL_72 (x : Int) : cL x < 2 ^ 72 := by
  show 8 * Int.toNat (x % 18446744073709551616) + 4 < 2 ^ 72
  omega
theorem wMn_eq : wMn = -9223372036854775808 := rfl
theorem wMx_eq : wMx = 9223372036854775807 := rfl
/-- a long has a value -/
theorem cL_of {w : Nat} (h : eTg w = 4) (h2 : w < 2 ^ 67) : ∃ x, wMn ≤ x ∧ x ≤ wMx ∧ w = cL x := by
  have e : w = 8 * (w / 8) + 4 := by
    have h : w % 8 = 4 := h
    omega
  rw [wMn_eq, wMx_eq]
  by_cases q : w / 8 < 9223372036854775808
  · refine ⟨((w / 8 : Nat) : Int), by omega, by omega, ?_⟩
    show w = 8 * Int.toNat (((w / 8 : Nat) : Int) % 18446744073709551616) + 4
    omega
  · refine ⟨((w / 8 : Nat) : Int) - 18446744073709551616, by omega, by omega, ?_⟩
    show w = 8 * Int.toNat ((((w / 8 : Nat) : Int) - 18446744073709551616) % 18446744073709551616) + 4
    omega
theorem cL_inj {x y : Int} (h1 : wMn ≤ x) (h2 : x ≤ wMx) (h3 : wMn ≤ y) (h4 : y ≤ wMx) (h : cL x = cL y) : x = y := by
  have e : ePl (cL x) = ePl (cL y) := by rw [h]
  rw [cL_pl, cL_pl] at e
  rw [wMn_eq] at h1 h3
  rw [wMx_eq] at h2 h4
  omega
theorem tNC_le : tNC ≤ 1024 := by decide
/-- what a value is -/
def vOk (r : List Int) (v : sVl) (w : Nat) : Prop :=
  (v.1 = 0 → ¬ eTg w = 4) ∧ (v.1 = 1 → ∃ x, sE r v.2 = some x ∧ zMn ≤ x ∧ x ≤ zMx ∧ w = cI x) ∧ (v.1 = 4 → eTg w = 4 ∧ w < 2 ^ 67) ∧ (v.1 = 6 → w = 46 ∨ w = 54) ∧ (v.1 = 7 → w = 7)
    ∧ (16 ≤ v.1 → ∃ c : Nat, sE r v.2 = some (c : Int) ∧ c < tNC ∧ tRO c + 16 = v.1 ∧ w = cR c) ∧ (v.1 = 8 → w = 30) ∧ (v.1 = 5 → ∃ x, sE r v.2 = some x ∧ wMn ≤ x ∧ x ≤ wMx ∧ w = cL x)
theorem vOk_i {r : List Int} {e : sLn} {x : Int} (h : sE r e = some x) (h1 : zMn ≤ x) (h2 : x ≤ zMx) : vOk r (1, e) (cI x) :=
  ⟨fun q => absurd q (by simp), fun _ => ⟨x, h, h1, h2, rfl⟩, fun q => absurd q (by simp), fun q => absurd q (by simp), fun q => absurd q (by simp), fun q => absurd q (by simp), fun q => absurd q (by simp), fun q => absurd q (by simp)⟩
theorem vOk_l {r : List Int} {e : sLn} {w : Nat} (h : eTg w = 4) (h2 : w < 2 ^ 67) : vOk r (4, e) w :=
  ⟨fun q => absurd q (by simp), fun q => absurd q (by simp), fun _ => ⟨h, h2⟩, fun q => absurd q (by simp), fun q => absurd q (by simp), fun q => absurd q (by simp), fun q => absurd q (by simp), fun q => absurd q (by simp)⟩
theorem vOk_u {r : List Int} {e : sLn} {w : Nat} (h : ¬ eTg w = 4) : vOk r (0, e) w :=
  ⟨fun _ => h, fun q => absurd q (by simp), fun q => absurd q (by simp), fun q => absurd q (by simp), fun q => absurd q (by simp), fun q => absurd q (by simp), fun q => absurd q (by simp), fun q => absurd q (by simp)⟩
theorem vOk_x {r : List Int} {e : sLn} {w : Nat} (h : w = 46 ∨ w = 54) : vOk r (6, e) w :=
  ⟨fun q => absurd q (by simp), fun q => absurd q (by simp), fun q => absurd q (by simp), fun _ => h, fun q => absurd q (by simp), fun q => absurd q (by simp), fun q => absurd q (by simp), fun q => absurd q (by simp)⟩
theorem vOk_s {r : List Int} {e : sLn} : vOk r (8, e) 30 :=
  ⟨fun q => absurd q (by simp), fun q => absurd q (by simp), fun q => absurd q (by simp), fun q => absurd q (by simp), fun q => absurd q (by simp), fun q => absurd q (by simp), fun _ => rfl, fun q => absurd q (by simp)⟩
theorem vOk_w {r : List Int} {e : sLn} {x : Int} (h : sE r e = some x) (h1 : wMn ≤ x) (h2 : x ≤ wMx) : vOk r (5, e) (cL x) :=
  ⟨fun q => absurd q (by simp), fun q => absurd q (by simp), fun q => absurd q (by simp), fun q => absurd q (by simp), fun q => absurd q (by simp), fun q => absurd q (by simp), fun q => absurd q (by simp), fun _ => ⟨x, h, h1, h2, rfl⟩⟩
theorem vOk_7 {r : List Int} {e : sLn} : vOk r (7, e) 7 :=
  ⟨fun q => absurd q (by simp), fun q => absurd q (by simp), fun q => absurd q (by simp), fun q => absurd q (by simp), fun _ => rfl, fun q => absurd q (by simp), fun q => absurd q (by simp), fun q => absurd q (by simp)⟩
theorem vOk_r {r : List Int} {ro : Nat} {e : sLn} {c : Nat} (h : sE r e = some (c : Int)) (h1 : c < tNC) (h2 : tRO c = ro) : vOk r (Nat.add ro 16, e) (cR c) := by
  have e16 : Nat.add ro 16 = ro + 16 := rfl
  rw [e16]
  refine ⟨fun q => ?_, fun q => ?_, fun q => ?_, fun q => ?_, fun q => ?_, fun _ => ⟨c, h, h1, by rw [h2], rfl⟩, fun q => ?_, fun q => ?_⟩ <;> exact absurd q (by show ¬ ro + 16 = _; omega)
theorem vOk_mono {r t : List Int} {v : sVl} {w : Nat} (h : vOk r v w) : vOk (r ++ t) v w := by
  obtain ⟨h0, h1, h2, h3, h4, h5, h6, h7⟩ := h
  refine ⟨h0, fun q => ?_, h2, h3, h4, fun q => ?_, h6, fun q => ?_⟩
  · obtain ⟨x, a, b⟩ := h1 q
    exact ⟨x, sE_mono a, b⟩
  · obtain ⟨x, a, b⟩ := h5 q
    exact ⟨x, sE_mono a, b⟩
  · obtain ⟨x, a, b⟩ := h7 q
    exact ⟨x, sE_mono a, b⟩
theorem vOk_L {r : List Int} {v : sVl} {w : Nat} (h : vOk r v w) (ht : Nat.beq v.1 5 = true) : ∃ x, sE r v.2 = some x ∧ wMn ≤ x ∧ x ≤ wMx ∧ w = cL x := h.2.2.2.2.2.2.2 (Nat.eq_of_beq_eq_true ht)
theorem vOk_I {r : List Int} {v : sVl} {w : Nat} (h : vOk r v w) (ht : Nat.beq v.1 1 = true) : ∃ x, sE r v.2 = some x ∧ zMn ≤ x ∧ x ≤ zMx ∧ w = cI x := h.2.1 (Nat.eq_of_beq_eq_true ht)
theorem vOk_R {r : List Int} {v : sVl} {w : Nat} (h : vOk r v w) (ht : Nat.ble 16 v.1 = true) : ∃ c : Nat, sE r v.2 = some (c : Int) ∧ c < tNC ∧ tRO c = Nat.sub v.1 16 ∧ w = cR c := by
  have hl := Nat.le_of_ble_eq_true ht
  obtain ⟨c, h1, h2, h3, h4⟩ := h.2.2.2.2.2.1 hl
  exact ⟨c, h1, h2, by show tRO c = v.1 - 16; omega, h4⟩
/-- no long: an int, a reference, or what isn't one -/
noncomputable def sNl (v : sVl) : Bool := cond (Nat.beq v.1 0) true (cond (Nat.beq v.1 1) true (Nat.ble 16 v.1))
theorem sNl_ok {r : List Int} {v : sVl} {w : Nat} (h : vOk r v w) (ht : sNl v = true) : ¬ eTg w = 4 := by
  rcases sCh ht with ⟨a, -⟩ | ⟨-, b⟩
  · exact h.1 (Nat.eq_of_beq_eq_true a)
  · rcases sCh b with ⟨a, -⟩ | ⟨-, b⟩
    · obtain ⟨x, -, -, -, rfl⟩ := vOk_I h a
      rw [cI_tg]; decide
    · obtain ⟨c, -, -, -, rfl⟩ := vOk_R h b
      rw [cR_tg]; decide
/-- one that may be kept -/
noncomputable def sKp (v : sVl) : Bool := cond (Nat.beq v.1 4) true (cond (Nat.beq v.1 5) true (cond (Nat.beq v.1 1) true (Nat.ble 16 v.1)))
theorem sKp_ok {r : List Int} {v : sVl} {w : Nat} (h : vOk r v w) (ht : sKp v = true) : w < 2 ^ 72 := by
  rcases sCh ht with ⟨a, -⟩ | ⟨-, b⟩
  · exact Nat.lt_trans (h.2.2.1 (Nat.eq_of_beq_eq_true a)).2 (by decide)
  · rcases sCh b with ⟨a, -⟩ | ⟨-, b⟩
    · obtain ⟨x, -, -, -, rfl⟩ := vOk_L h a
      exact cL_72 x
    · rcases sCh b with ⟨a, -⟩ | ⟨-, b⟩
      · obtain ⟨x, -, -, -, rfl⟩ := vOk_I h a
        exact cI_72 x
      · obtain ⟨c, -, h2, -, rfl⟩ := vOk_R h b
        exact cR_72 (Nat.lt_of_lt_of_le h2 tNC_le)
noncomputable def hv (hp : Lean.RArray Nat) (c j : Nat) : Nat := eSl (eDa (Lean.RArray.get hp c)) j
theorem hv_72 (hp : Lean.RArray Nat) (c j : Nat) : hv hp c j < 2 ^ 72 := eSl_lt _ _
def tyOk (t : sTp) (w : Nat) : Prop := match t with
  | .inl q => ∃ x, q.1 ≤ x ∧ x ≤ q.2 ∧ zMn ≤ x ∧ x ≤ zMx ∧ w = cI x
  | .inr (.inl _) => eTg w = 4 ∧ w < 2 ^ 67
  | .inr (.inr ros) => ∃ c, c < tNC ∧ tRO c ∈ ros ∧ w = cR c
/-- the cells are as their roles say -/
def hOk (hp : Lean.RArray Nat) : Prop := eWf hp 0 1024 ∧ ∀ c, c < tNC → eKi (Lean.RArray.get hp c) = tKi (tRO c) ∧ eLe (Lean.RArray.get hp c) = tLe (tRO c) ∧ ∀ j t, sSgAt (tSg (tRO c)) j = some t → tyOk t (hv hp c j)
def aSt (r : List Int) : List sVl → List Nat → Prop
  | [], [] => True
  | v :: st, w :: ws => vOk r v w ∧ aSt r st ws
  | _, _ => False
theorem aSt_mono {r t : List Int} : ∀ {st : List sVl} {ws : List Nat}, aSt r st ws → aSt (r ++ t) st ws
  | [], [], h => h
  | _ :: _, _ :: _, h => ⟨vOk_mono h.1, aSt_mono h.2⟩
  | [], _ :: _, h => h
  | _ :: _, [], h => h
theorem aSt_c {r : List Int} {v : sVl} {st : List sVl} {ws : List Nat} (h : aSt r (v :: st) ws) : ∃ w xs, ws = w :: xs ∧ vOk r v w ∧ aSt r st xs := by
  cases ws with
  | nil => exact h.elim
  | cons x ys => exact ⟨x, ys, rfl, h⟩
theorem aSt_n {r : List Int} {ws : List Nat} (h : aSt r [] ws) : ws = [] := by
  cases ws with
  | nil => rfl
  | cons x ys => exact h.elim
def sEs (r : List Int) : List sLn → List Int → Prop
  | [], [] => True
  | e :: es, x :: xs => sE r e = some x ∧ sEs r es xs
  | _, _ => False
theorem sEs_mono {r t : List Int} : ∀ {es : List sLn} {xs : List Int}, sEs r es xs → sEs (r ++ t) es xs
  | [], [], h => h
  | _ :: _, _ :: _, h => ⟨sE_mono h.1, sEs_mono h.2⟩
  | [], _ :: _, h => h
  | _ :: _, [], h => h
def rfOk (r : List Int) (hp : Lean.RArray Nat) (q : sRf) : Prop := ∃ c i : Nat, sE r q.1.2 = some (c : Int) ∧ c < tNC ∧ tRO c = q.1.1 ∧ sE r q.2.1 = some (i : Int) ∧ i < tLe q.1.1 ∧ vOk r q.2.2 (hv hp c i)
theorem rfOk_mono {r t : List Int} {hp : Lean.RArray Nat} {q : sRf} (h : rfOk r hp q) : rfOk (r ++ t) hp q := by
  obtain ⟨c, i, a, b, d, e, f, g⟩ := h
  exact ⟨c, i, sE_mono a, b, d, sE_mono e, f, vOk_mono g⟩
/-- facts: what each says, by its number, its arguments, the cells -/
abbrev sFS : Type := Nat → List Int → Lean.RArray Nat → Prop
def fcOk (FS : sFS) (r : List Int) (hp : Lean.RArray Nat) (q : sFc) : Prop := ∃ xs, sEs r q.2 xs ∧ FS q.1 xs hp
theorem fcOk_mono {FS : sFS} {r t : List Int} {hp : Lean.RArray Nat} {q : sFc} (h : fcOk FS r hp q) : fcOk FS (r ++ t) hp q := by
  obtain ⟨xs, a, b⟩ := h
  exact ⟨xs, sEs_mono a, b⟩
def hsOk (FS : sFS) (r : List Int) (hp : Lean.RArray Nat) (hs : sHs) : Prop := (∀ q ∈ hs.1, rfOk r hp q) ∧ ∀ q ∈ hs.2, fcOk FS r hp q
theorem hsOk_mono {FS : sFS} {r t : List Int} {hp : Lean.RArray Nat} {hs : sHs} (h : hsOk FS r hp hs) : hsOk FS (r ++ t) hp hs := ⟨fun q hq => rfOk_mono (h.1 q hq), fun q hq => fcOk_mono (h.2 q hq)⟩
def loOk (r : List Int) (lo : List sVl) (L : Nat) : Prop := ∀ j v, lo[j]? = some v → vOk r v (eSl L j)
theorem loOk_mono {r t : List Int} {lo : List sVl} {L : Nat} (h : loOk r lo L) : loOk (r ++ t) lo L := fun j v hj => vOk_mono (h j v hj)
/-- what a method may write: role, from, to -/
abbrev sMd : Type := List (Nat × Nat × Nat)
def hFr (md : sMd) (hp0 hp : Lean.RArray Nat) : Prop := ∀ c j, c < tNC → (∀ q ∈ md, ¬ (tRO c = q.1 ∧ q.2.1 ≤ j ∧ j ≤ q.2.2)) → hv hp c j = hv hp0 c j
theorem hFr_refl (md : sMd) (hp : Lean.RArray Nat) : hFr md hp hp := fun _ _ _ _ => rfl
theorem hFr_trans {md : sMd} {a b c : Lean.RArray Nat} (h1 : hFr md a b) (h2 : hFr md b c) : hFr md a c := fun x j hx hj => (h2 x j hx hj).trans (h1 x j hx hj)
/-- all that is known at a place of a method: the contract's own numbers rc, the measure -/
def Gs (FS : sFS) (rc : List Int) (mu : Option sLn) (M : Int) (md : sMd) (hp0 : Lean.RArray Nat) (r : List Int) (N : sNm) (lo st : List sVl) (hs : sHs) (L : Nat) (stc : List Nat) (hp : Lean.RArray Nat) : Prop :=
  sNOk tSg r N ∧ loOk r lo L ∧ aSt r st stc ∧ hOk hp ∧ hsOk FS r hp hs ∧ (∃ t, r = rc ++ t) ∧ (∀ e, mu = some e → sE r e = some M) ∧ hFr md hp0 hp
section
variable {FS : sFS} {rc : List Int} {mu : Option sLn} {M : Int} {md : sMd} {hp0 : Lean.RArray Nat} {r : List Int} {N : sNm} {lo st : List sVl} {hs : sHs} {L : Nat} {stc : List Nat} {hp : Lean.RArray Nat}
theorem Gs_ext (h : Gs FS rc mu M md hp0 r N lo st hs L stc hp) {t : List Int} {N' : sNm} (hN : sNOk tSg (r ++ t) N') : Gs FS rc mu M md hp0 (r ++ t) N' lo st hs L stc hp := by
  obtain ⟨-, h1, h2, h3, h4, ⟨u, h5⟩, h6, h7⟩ := h
  exact ⟨hN, loOk_mono h1, aSt_mono h2, h3, hsOk_mono h4, ⟨u ++ t, by rw [h5, List.append_assoc]⟩, fun e he => sE_mono (h6 e he), h7⟩
theorem Gs_N (h : Gs FS rc mu M md hp0 r N lo st hs L stc hp) {N' : sNm} (hN : sNOk tSg r N') : Gs FS rc mu M md hp0 r N' lo st hs L stc hp := ⟨hN, h.2⟩
theorem Gs_st (h : Gs FS rc mu M md hp0 r N lo st hs L stc hp) {st' : List sVl} {stc' : List Nat} (hS : aSt r st' stc') : Gs FS rc mu M md hp0 r N lo st' hs L stc' hp := ⟨h.1, h.2.1, hS, h.2.2.2⟩
theorem Gs_lo (h : Gs FS rc mu M md hp0 r N lo st hs L stc hp) {lo' : List sVl} {L' : Nat} (hS : loOk r lo' L') : Gs FS rc mu M md hp0 r N lo' st hs L' stc hp := ⟨h.1, hS, h.2.2⟩
theorem Gs_hs (h : Gs FS rc mu M md hp0 r N lo st hs L stc hp) {hs' : sHs} (hS : hsOk FS r hp hs') : Gs FS rc mu M md hp0 r N lo st hs' L stc hp := ⟨h.1, h.2.1, h.2.2.1, h.2.2.2.1, hS, h.2.2.2.2.2⟩
end
end CkSem
