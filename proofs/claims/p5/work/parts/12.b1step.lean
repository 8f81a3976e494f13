section CkStep1
abbrev aR : Type := Nat → sNm → List sVl → List sVl → sHs → Bool
abbrev aH : Type := aR → Nat → sNm → List sVl → List sVl → sHs → Bool
noncomputable def sGt (lo : List sVl) (j : Nat) (k : sVl → Bool) : Bool := @List.rec sVl (fun _ => Nat → Bool) (fun _ => false) (fun v _ ih j => @Nat.rec (fun _ => Bool) (k v) (fun m _ => ih m) j) lo j
theorem sGt_ok {k : sVl → Bool} : ∀ {lo : List sVl} {j : Nat}, sGt lo j k = true → ∃ v, lo[j]? = some v ∧ k v = true := by
  intro lo
  induction lo with
  | nil => intro j h; cases h
  | cons w lo ih =>
    intro j h
    cases j with
    | zero => exact ⟨w, rfl, h⟩
    | succ j => exact ih h
noncomputable def sStK (v : sVl) (lo : List sVl) : Nat → (List sVl → Bool) → Bool := @List.rec sVl (fun _ => Nat → (List sVl → Bool) → Bool) (fun _ _ => false) (fun w l ih j k => @Nat.rec (fun _ => Bool) (k (v :: l)) (fun m _ => ih m (fun l' => k (w :: l'))) j) lo
theorem sStK_ok {v : sVl} : ∀ {lo : List sVl} {j : Nat} {k : List sVl → Bool}, sStK v lo j k = true → j < lo.length ∧ k (lo.set j v) = true := by
  intro lo
  induction lo with
  | nil => intro j k h; cases h
  | cons w lo ih =>
    intro j k h
    cases j with
    | zero => exact ⟨Nat.zero_lt_succ _, h⟩
    | succ j =>
      obtain ⟨h1, h2⟩ := ih (show sStK v lo j (fun l' => k (w :: l')) = true from h)
      exact ⟨Nat.succ_lt_succ h1, h2⟩
theorem loOk_set {r : List Int} {lo : List sVl} {L j w : Nat} {v : sVl} (h : loOk r lo L) (hv' : vOk r v w) (hw : w < 2 ^ 72) : loOk r (lo.set j v) (eBl L j 1 w) := by
  intro i u hi
  rw [List.getElem?_set] at hi
  rw [eSl_set hw]
  by_cases e : j = i
  · subst e
    rw [if_pos rfl] at hi ⊢
    by_cases e2 : j < lo.length
    · rw [if_pos e2] at hi
      cases hi
      exact hv'
    · rw [if_neg e2] at hi; cases hi
  · rw [if_neg e] at hi
    rw [if_neg (fun z => e z.symm)]
    exact h i u hi
theorem pR_t {P : evP} {d mi : Nat} {k : evK} {pc L : Nat} {st : List Nat} {g : evG} (h : P d mi k pc L st g) : pR P d mi k pc L st g = true := pB_t h
theorem beqF {a b : Nat} (h : ¬ a = b) : Nat.beq a b = false := by
  rw [← Bool.not_eq_true]
  exact fun q => h (Nat.eq_of_beq_eq_true q)
theorem bltT {a b : Nat} (h : a < b) : Nat.blt a b = true := Nat.ble_eq_true_of_le h
variable {FS : sFS} {rc : List Int} {mu : Option sLn} {M : Int} {md : sMd} {hp0 : Lean.RArray Nat} {P : evP} {d mi : Nat} {k : evK} {hn : Nat} {env : evEnv} {nc ns : Nat} {ar : aR} {r : List Int} {pc : Nat} {N : sNm} {lo st : List sVl} {hs : sHs} {L : Nat} {stc : List Nat} {hp : Lean.RArray Nat}
noncomputable def aLoad (pt : sVl → Bool) (j len : Nat) : aH := fun ar pc N lo st hs => sGt lo j (fun v => cond (pt v) (sNrm N v (fun v => ar (Nat.add pc len) N lo (v :: st) hs)) false)
noncomputable def tI (v : sVl) : Bool := Nat.beq v.1 1
noncomputable def tA (v : sVl) : Bool := Nat.ble 16 v.1
noncomputable def tL (v : sVl) : Bool := cond (Nat.beq v.1 4) true (Nat.beq v.1 5)
theorem tI_ok {v : sVl} {w : Nat} (h : vOk r v w) (ht : tI v = true) : eIsI w = true ∧ eNrm env w = w := by
  obtain ⟨x, -, -, -, rfl⟩ := vOk_I h ht
  exact ⟨cI_isI x, cI_nrm env x⟩
theorem tA_ok {v : sVl} {w : Nat} (h : vOk r v w) (ht : tA v = true) : eIsA w = true ∧ eNrm env w = w := by
  obtain ⟨x, -, -, -, rfl⟩ := vOk_R h ht
  exact ⟨cR_isA x, cR_nrm env x⟩
theorem tL_w {v : sVl} {w : Nat} (h : vOk r v w) (ht : tL v = true) : eTg w = 4 ∧ w < 2 ^ 72 := by
  rcases sCh ht with ⟨ht, -⟩ | ⟨-, ht⟩
  · exact ⟨(h.2.2.1 (Nat.eq_of_beq_eq_true ht)).1, Nat.lt_trans (h.2.2.1 (Nat.eq_of_beq_eq_true ht)).2 (by decide)⟩
  · obtain ⟨x, -, -, -, rfl⟩ := vOk_L h ht
    exact ⟨cL_tg x, cL_72 x⟩
theorem tL_ok {v : sVl} {w : Nat} (h : vOk r v w) (ht : tL v = true) : Nat.beq (eTg w) 4 = true ∧ eNrm env w = w := by
  rcases sCh ht with ⟨ht, -⟩ | ⟨-, ht⟩
  · obtain ⟨h1, -⟩ := h.2.2.1 (Nat.eq_of_beq_eq_true ht)
    exact ⟨by rw [h1]; rfl, eNrm_4 env h1⟩
  · obtain ⟨x, -, -, -, rfl⟩ := vOk_L h ht
    exact ⟨by rw [cL_tg]; rfl, eNrm_4 env (cL_tg x)⟩
theorem i_load (har : (∀ pc N lo st hs, ar pc N lo st hs = true → ∀ r L stc hp, Gs FS rc mu M md hp0 r N lo st hs L stc hp → P d mi k pc L stc (hp, hn, env, nc, ns))) (hG : Gs FS rc mu M md hp0 r N lo st hs L stc hp) {pt : sVl → Bool} {p : Nat → Bool} {j len : Nat} (hpt : ∀ v w, vOk r v w → pt v = true → p w = true ∧ eNrm env w = w) (h : aLoad pt j len ar pc N lo st hs = true) : hLoad p j len (pR P d mi k) (pC P d) k pc L stc (hp, hn, env, nc, ns) = true := by
  obtain ⟨v, h1, h⟩ := sGt_ok h
  obtain ⟨h2, h⟩ := eC_t h
  have hv' := hG.2.1 j v h1
  obtain ⟨e1, e2⟩ := hpt v _ hv' h2
  obtain ⟨v', w1, w2⟩ := sNrm_ok hG.1 hv' h
  unfold hLoad
  rw [e1]
  show pR P d mi k _ L (eNrm env (eSl L j) :: stc) _ = true
  rw [e2]
  exact pR_t (har _ _ _ _ _ w2 r L _ hp (Gs_st hG ⟨w1, hG.2.2.1⟩))
noncomputable def aStore (pt : sVl → Bool) (nL j len : Nat) : aH := fun ar pc N lo st hs => match st with
  | v :: rest => cond (pt v) (cond (Nat.blt j nL) (sGt lo (Nat.sub j 1) (fun u => cond (sNl u) (sStK v lo j (fun lo => ar (Nat.add pc len) N lo rest hs)) false)) false) false
  | _ => false
theorem i_store (har : (∀ pc N lo st hs, ar pc N lo st hs = true → ∀ r L stc hp, Gs FS rc mu M md hp0 r N lo st hs L stc hp → P d mi k pc L stc (hp, hn, env, nc, ns))) (hG : Gs FS rc mu M md hp0 r N lo st hs L stc hp) {pt : sVl → Bool} {p : Nat → Bool} {nL j len : Nat} (hpt : ∀ v w, vOk r v w → pt v = true → p w = true ∧ w < 2 ^ 72) (h : aStore pt nL j len ar pc N lo st hs = true) : hStore p nL j len (pR P d mi k) (pC P d) k pc L stc (hp, hn, env, nc, ns) = true := by
  cases st with
  | nil => cases h
  | cons v rest =>
    obtain ⟨w, ws, rfl, hw, hst⟩ := aSt_c hG.2.2.1
    obtain ⟨h1, h⟩ := eC_t h
    obtain ⟨h2, h⟩ := eC_t h
    obtain ⟨u, h3, h⟩ := sGt_ok h
    obtain ⟨h4, h⟩ := eC_t h
    obtain ⟨-, h⟩ := sStK_ok h
    obtain ⟨e1, e2⟩ := hpt v w hw h1
    have e3 := sNl_ok (hG.2.1 _ u h3) h4
    show cond (p w) (cond (Nat.blt j nL) (cond (Nat.beq (eTg (eSl L (Nat.sub j 1))) 4) false (pR P d mi k (Nat.add pc len) (eBl L j 1 w) ws (hp, hn, env, nc, ns))) false) false = true
    rw [e1, h2, beqF e3]
    exact pR_t (har _ _ _ _ _ h r _ _ hp (Gs_lo (Gs_st hG hst) (loOk_set hG.2.1 hw e2)))
noncomputable def aStore2 (nL j len : Nat) : aH := fun ar pc N lo st hs => match st with
  | v :: rest => cond (tL v) (cond (Nat.blt (Nat.add j 1) nL) (sGt lo (Nat.sub j 1) (fun u => cond (sNl u) (sStK v lo j (fun lo => sStK (0, Int.ofNat 0, []) lo (Nat.add j 1) (fun lo => ar (Nat.add pc len) N lo rest hs))) false)) false) false
  | _ => false
theorem i_store2 (har : (∀ pc N lo st hs, ar pc N lo st hs = true → ∀ r L stc hp, Gs FS rc mu M md hp0 r N lo st hs L stc hp → P d mi k pc L stc (hp, hn, env, nc, ns))) (hG : Gs FS rc mu M md hp0 r N lo st hs L stc hp) {nL j len : Nat} (h : aStore2 nL j len ar pc N lo st hs = true) : hStore2 nL j len (pR P d mi k) (pC P d) k pc L stc (hp, hn, env, nc, ns) = true := by
  cases st with
  | nil => cases h
  | cons v rest =>
    obtain ⟨w, ws, rfl, hw, hst⟩ := aSt_c hG.2.2.1
    obtain ⟨h1, h⟩ := eC_t h
    obtain ⟨h2, h⟩ := eC_t h
    obtain ⟨u, h3, h⟩ := sGt_ok h
    obtain ⟨h4, h⟩ := eC_t h
    obtain ⟨-, h⟩ := sStK_ok h
    obtain ⟨-, h⟩ := sStK_ok h
    obtain ⟨e1, e2⟩ := tL_w hw h1
    have e3 := sNl_ok (hG.2.1 _ u h3) h4
    show cond (Nat.beq (eTg w) 4) (cond (Nat.blt (Nat.add j 1) nL) (cond (Nat.beq (eTg (eSl L (Nat.sub j 1))) 4) false (pR P d mi k (Nat.add pc len) (eBl (eBl L j 1 w) (Nat.add j 1) 1 0) ws (hp, hn, env, nc, ns))) false) false = true
    rw [e1, h2, beqF e3]
    exact pR_t (har _ _ _ _ _ h r _ _ hp (Gs_lo (Gs_st hG hst) (loOk_set (loOk_set hG.2.1 hw e2) (vOk_u (by decide)) (by decide))))
noncomputable def aPush (v : sVl) (len : Nat) : aH := fun ar pc N lo st hs => ar (Nat.add pc len) N lo (v :: st) hs
theorem i_push (har : (∀ pc N lo st hs, ar pc N lo st hs = true → ∀ r L stc hp, Gs FS rc mu M md hp0 r N lo st hs L stc hp → P d mi k pc L stc (hp, hn, env, nc, ns))) (hG : Gs FS rc mu M md hp0 r N lo st hs L stc hp) {v : sVl} {w len : Nat} (hv' : ∀ r, vOk r v w) (h : aPush v len ar pc N lo st hs = true) : hPush w len (pR P d mi k) (pC P d) k pc L stc (hp, hn, env, nc, ns) = true :=
  pR_t (har _ _ _ _ _ h r L _ hp (Gs_st hG ⟨hv' r, hG.2.2.1⟩))
noncomputable def aOp2 (F : sOp) : aH := fun ar pc N lo st hs => match st with
  | b :: a :: rest => cond (tI a) (cond (tI b) (F N a.2 b.2 (fun e N => ar (Nat.add pc 1) N lo ((1, e) :: rest) hs)) false) false
  | _ => false
theorem i_op2 (har : (∀ pc N lo st hs, ar pc N lo st hs = true → ∀ r L stc hp, Gs FS rc mu M md hp0 r N lo st hs L stc hp → P d mi k pc L stc (hp, hn, env, nc, ns))) (hG : Gs FS rc mu M md hp0 r N lo st hs L stc hp) {F : sOp} {f : evEnv → Nat → Nat → (Nat → evEnv → Bool) → Bool} (hF : aOpOk F f) (h : aOp2 F ar pc N lo st hs = true) : hOp2 f (pR P d mi k) (pC P d) k pc L stc (hp, hn, env, nc, ns) = true := by
  cases st with
  | nil => cases h
  | cons b st =>
    cases st with
    | nil => cases h
    | cons a rest =>
      obtain ⟨wb, ws1, rfl, hb, hst1⟩ := aSt_c hG.2.2.1
      obtain ⟨wa, ws, rfl, ha, hst⟩ := aSt_c hst1
      obtain ⟨h1, h⟩ := eC_t h
      obtain ⟨h2, h⟩ := eC_t h
      obtain ⟨x, x1, x2, x3, rfl⟩ := vOk_I ha h1
      obtain ⟨y, y1, y2, y3, rfl⟩ := vOk_I hb h2
      obtain ⟨t, e, N', z, q1, q2, q3, q4, q5, q6⟩ := hF r N a.2 b.2 x y _ hG.1 x1 y1 x2 x3 y2 y3 h
      show cond (eIsI (cI x)) (cond (eIsI (cI y)) (f env (cI x) (cI y) (fun v env => pR P d mi k (Nat.add pc 1) L (v :: ws) (hp, hn, env, nc, ns))) false) false = true
      rw [cI_isI, cI_isI, q6]
      exact pR_t (har _ _ _ _ _ q5 (r ++ t) L _ hp (Gs_st (Gs_ext hG q1) ⟨vOk_i q2 q3 q4, aSt_mono hst⟩))
/-- .. and what it was is kept -/
noncomputable def aOp2F (f0 : Nat) (F : sOp) (cl : List Nat) : aH := fun ar pc N lo st hs => match st with
  | b :: a :: rest => cond (tI a) (cond (tI b) (F N a.2 b.2 (fun e N => ar (Nat.add pc 1) N lo ((1, e) :: rest) (match cl with | [] => hs | _ => (hs.1, (f0, [a.2, b.2, e]) :: hs.2)))) false) false
  | _ => false
theorem hsOk_fc {q : sFc} (h : hsOk FS r hp hs) (hq : fcOk FS r hp q) : hsOk FS r hp (hs.1, q :: hs.2) := ⟨h.1, fun w hw => by
  rcases List.mem_cons.mp hw with rfl | hw
  · exact hq
  · exact h.2 w hw⟩
theorem i_op2F (har : (∀ pc N lo st hs, ar pc N lo st hs = true → ∀ r L stc hp, Gs FS rc mu M md hp0 r N lo st hs L stc hp → P d mi k pc L stc (hp, hn, env, nc, ns))) (hG : Gs FS rc mu M md hp0 r N lo st hs L stc hp) {f0 : Nat} {cl : List Nat} {F : sOp} {f : evEnv → Nat → Nat → (Nat → evEnv → Bool) → Bool} (hF : aOpOk F f) (hOP : ∀ (x y z : Int) (hp : Lean.RArray Nat), zMn ≤ x → x ≤ zMx → zMn ≤ y → y ≤ zMx → zMn ≤ z → z ≤ zMx → (∀ env K, f env (cI x) (cI y) K = K (cI z) env) → FS f0 [x, y, z] hp) (h : aOp2F f0 F cl ar pc N lo st hs = true) : hOp2 f (pR P d mi k) (pC P d) k pc L stc (hp, hn, env, nc, ns) = true := by
  cases st with
  | nil => cases h
  | cons b st =>
    cases st with
    | nil => cases h
    | cons a rest =>
      obtain ⟨wb, ws1, rfl, hb, hst1⟩ := aSt_c hG.2.2.1
      obtain ⟨wa, ws, rfl, ha, hst⟩ := aSt_c hst1
      obtain ⟨h1, h⟩ := eC_t h
      obtain ⟨h2, h⟩ := eC_t h
      obtain ⟨x, x1, x2, x3, rfl⟩ := vOk_I ha h1
      obtain ⟨y, y1, y2, y3, rfl⟩ := vOk_I hb h2
      obtain ⟨t, e, N', z, q1, q2, q3, q4, q5, q6⟩ := hF r N a.2 b.2 x y _ hG.1 x1 y1 x2 x3 y2 y3 h
      show cond (eIsI (cI x)) (cond (eIsI (cI y)) (f env (cI x) (cI y) (fun v env => pR P d mi k (Nat.add pc 1) L (v :: ws) (hp, hn, env, nc, ns))) false) false = true
      rw [cI_isI, cI_isI, q6]
      have hG2 := Gs_st (Gs_ext hG q1) (show aSt (r ++ t) ((1, e) :: rest) (cI z :: ws) from ⟨vOk_i q2 q3 q4, aSt_mono hst⟩)
      cases cl with
      | nil => exact pR_t (har _ _ _ _ _ q5 (r ++ t) L _ hp hG2)
      | cons c cl => exact pR_t (har _ _ _ _ _ q5 (r ++ t) L _ hp (Gs_hs hG2 (hsOk_fc hG2.2.2.2.2.1 ⟨[x, y, z], ⟨sE_mono x1, sE_mono y1, q2, trivial⟩, hOP x y z hp x2 x3 y2 y3 q3 q4 q6⟩)))
def opK (FS : sFS) (f0 : Nat) (f : evEnv → Nat → Nat → (Nat → evEnv → Bool) → Bool) : Prop := ∀ (x y z : Int) (hp : Lean.RArray Nat), zMn ≤ x → x ≤ zMx → zMn ≤ y → y ≤ zMx → zMn ≤ z → z ≤ zMx → (∀ env K, f env (cI x) (cI y) K = K (cI z) env) → FS f0 [x, y, z] hp
/-- the facts of bits -/
def opOk (FS : sFS) : Prop := (opK FS tOPr eShr ∧ opK FS tOPl eShl ∧ opK FS tOPo (eOp fOr) ∧ opK FS tOPa eAnd ∧ opK FS tOPu eUsh) ∧ ∀ (x z : Int) (hp : Lean.RArray Nat), zMn ≤ x → x ≤ zMx → -128 ≤ z → z ≤ 127 → eByte (cI x) = cI z → FS tOPb [x, z] hp
theorem eN32_cI (c : Int) : eCi (eN32 c) = cI c := by
  unfold cI
  congr 1
  cases c with
  | ofNat n =>
    show n % 4294967296 = Int.toNat ((n : Int) % 4294967296)
    omega
  | negSucc n =>
    show 4294967295 - n % 4294967296 = Int.toNat (Int.negSucc n % 4294967296)
    omega
noncomputable def aIinc (nL j : Nat) (c : Int) : aH := fun ar pc N lo st hs => cond (Nat.blt j nL) (sGt lo (Nat.sub j 1) (fun u => cond (sNl u) (sGt lo j (fun v => cond (tI v) (sFit N (sAdk v.2 c) (fun e N => sStK (1, e) lo j (fun lo => ar (Nat.add pc 3) N lo st hs))) false)) false)) false
theorem i_iinc (har : (∀ pc N lo st hs, ar pc N lo st hs = true → ∀ r L stc hp, Gs FS rc mu M md hp0 r N lo st hs L stc hp → P d mi k pc L stc (hp, hn, env, nc, ns))) (hG : Gs FS rc mu M md hp0 r N lo st hs L stc hp) {nL j : Nat} {c : Int} (h : aIinc nL j c ar pc N lo st hs = true) : hIinc nL j c (pR P d mi k) (pC P d) k pc L stc (hp, hn, env, nc, ns) = true := by
  obtain ⟨h1, h⟩ := eC_t h
  obtain ⟨u, h2, h⟩ := sGt_ok h
  obtain ⟨h3, h⟩ := eC_t h
  obtain ⟨v, h4, h⟩ := sGt_ok h
  obtain ⟨h5, h⟩ := eC_t h
  obtain ⟨x, x1, x2, x3, x4⟩ := vOk_I (hG.2.1 j v h4) h5
  have e3 := sNl_ok (hG.2.1 _ u h2) h3
  obtain ⟨t, e, N', z, q1, q2, q3, q4, q5, q6⟩ := sFit_ok hG.1 (sAdk_ok (c := c) x1) h
  obtain ⟨-, q5⟩ := sStK_ok q5
  unfold hIinc
  rw [h1, x4, cI_isI, beqF e3]
  show eAdd env (eNrm env (cI x)) (eCi (eN32 c)) (fun v env => pR P d mi k (Nat.add pc 3) (eBl L j 1 v) stc (hp, hn, env, nc, ns)) = true
  rw [cI_nrm, eN32_cI, eAdd_cI, q6]
  exact pR_t (har _ _ _ _ _ q5 (r ++ t) _ _ hp (Gs_lo (Gs_ext hG q1) (loOk_set (loOk_mono hG.2.1) (vOk_i q2 q3 q4) (cI_72 z))))
theorem eTo_t {pc : Nat} {off : Int} {k1 k2 : Nat → Bool} (h : eTo pc off k1 = true) (hk : ∀ t, k1 t = true → k2 t = true) : eTo pc off k2 = true := by
  unfold eTo at h ⊢
  cases hx : Int.add (Int.ofNat pc) off with
  | ofNat t => rw [hx] at h; exact hk t h
  | negSucc t => rw [hx] at h; cases h
noncomputable def aGoto (off : Int) : aH := fun ar pc N lo st hs => eTo pc off (fun t => ar t N lo st hs)
theorem i_goto (har : (∀ pc N lo st hs, ar pc N lo st hs = true → ∀ r L stc hp, Gs FS rc mu M md hp0 r N lo st hs L stc hp → P d mi k pc L stc (hp, hn, env, nc, ns))) (hG : Gs FS rc mu M md hp0 r N lo st hs L stc hp) {off : Int} (h : aGoto off ar pc N lo st hs = true) : hGoto off (pR P d mi k) (pC P d) k pc L stc (hp, hn, env, nc, ns) = true :=
  eTo_t h (fun t ht => pR_t (har _ _ _ _ _ ht r L _ hp hG))
noncomputable def aIf (o : ClassFile.Cond) (off : Int) : aH := fun ar pc N lo st hs => match st with
  | a :: rest => cond (tI a) (eTo pc off (fun t => sBr o N a.2 (Int.ofNat 0, []) (fun N => ar t N lo rest hs) (fun N => ar (Nat.add pc 3) N lo rest hs))) false
  | _ => false
theorem cI_0 : cI 0 = 1 := by decide
theorem i_if (har : (∀ pc N lo st hs, ar pc N lo st hs = true → ∀ r L stc hp, Gs FS rc mu M md hp0 r N lo st hs L stc hp → P d mi k pc L stc (hp, hn, env, nc, ns))) (hG : Gs FS rc mu M md hp0 r N lo st hs L stc hp) {o : ClassFile.Cond} {off : Int} (h : aIf o off ar pc N lo st hs = true) : hIf o off (pR P d mi k) (pC P d) k pc L stc (hp, hn, env, nc, ns) = true := by
  cases st with
  | nil => cases h
  | cons a rest =>
    obtain ⟨wa, ws, rfl, ha, hst⟩ := aSt_c hG.2.2.1
    obtain ⟨h1, h⟩ := eC_t h
    obtain ⟨x, x1, x2, x3, rfl⟩ := vOk_I ha h1
    show cond (eIsI (cI x)) (eTo pc off (fun t => eCmp o env (cI x) 1 (fun env => pR P d mi k t L ws (hp, hn, env, nc, ns)) (fun env => pR P d mi k (Nat.add pc 3) L ws (hp, hn, env, nc, ns)))) false = true
    rw [cI_isI]
    refine eTo_t h (fun t ht => ?_)
    obtain ⟨b1, b2⟩ := sBr_ok hG.1 x1 (sE_k r (Int.ofNat 0)) ht
    rw [← cI_0]
    refine eCmp_cI x2 x3 (by rw [zMn_eq]; decide) (by rw [zMx_eq]; decide) (fun q => ?_) (fun q => ?_)
    · obtain ⟨N', n1, n2⟩ := b1 q
      exact pR_t (har _ _ _ _ _ n2 r L _ hp (Gs_N (Gs_st hG hst) n1))
    · obtain ⟨N', n1, n2⟩ := b2 q
      exact pR_t (har _ _ _ _ _ n2 r L _ hp (Gs_N (Gs_st hG hst) n1))
noncomputable def aIcmp (o : ClassFile.Cond) (off : Int) : aH := fun ar pc N lo st hs => match st with
  | b :: a :: rest => cond (tI a) (cond (tI b) (eTo pc off (fun t => sBr o N a.2 b.2 (fun N => ar t N lo rest hs) (fun N => ar (Nat.add pc 3) N lo rest hs))) false) false
  | _ => false
theorem i_icmp (har : (∀ pc N lo st hs, ar pc N lo st hs = true → ∀ r L stc hp, Gs FS rc mu M md hp0 r N lo st hs L stc hp → P d mi k pc L stc (hp, hn, env, nc, ns))) (hG : Gs FS rc mu M md hp0 r N lo st hs L stc hp) {o : ClassFile.Cond} {off : Int} (h : aIcmp o off ar pc N lo st hs = true) : hIcmp o off (pR P d mi k) (pC P d) k pc L stc (hp, hn, env, nc, ns) = true := by
  cases st with
  | nil => cases h
  | cons b st =>
    cases st with
    | nil => cases h
    | cons a rest =>
      obtain ⟨wb, ws1, rfl, hb, hst1⟩ := aSt_c hG.2.2.1
      obtain ⟨wa, ws, rfl, ha, hst⟩ := aSt_c hst1
      obtain ⟨h1, h⟩ := eC_t h
      obtain ⟨h2, h⟩ := eC_t h
      obtain ⟨x, x1, x2, x3, rfl⟩ := vOk_I ha h1
      obtain ⟨y, y1, y2, y3, rfl⟩ := vOk_I hb h2
      show cond (eIsI (cI x)) (cond (eIsI (cI y)) (eTo pc off (fun t => eCmp o env (cI x) (cI y) (fun env => pR P d mi k t L ws (hp, hn, env, nc, ns)) (fun env => pR P d mi k (Nat.add pc 3) L ws (hp, hn, env, nc, ns)))) false) false = true
      rw [cI_isI, cI_isI]
      refine eTo_t h (fun t ht => ?_)
      obtain ⟨b1, b2⟩ := sBr_ok hG.1 x1 y1 ht
      refine eCmp_cI x2 x3 y2 y3 (fun q => ?_) (fun q => ?_)
      · obtain ⟨N', n1, n2⟩ := b1 q
        exact pR_t (har _ _ _ _ _ n2 r L _ hp (Gs_N (Gs_st hG hst) n1))
      · obtain ⟨N', n1, n2⟩ := b2 q
        exact pR_t (har _ _ _ _ _ n2 r L _ hp (Gs_N (Gs_st hG hst) n1))
noncomputable def aDup : aH := fun ar pc N lo st hs => match st with
  | v :: rest => cond (sNl v) (ar (Nat.add pc 1) N lo (v :: v :: rest) hs) false
  | _ => false
theorem i_dup (har : (∀ pc N lo st hs, ar pc N lo st hs = true → ∀ r L stc hp, Gs FS rc mu M md hp0 r N lo st hs L stc hp → P d mi k pc L stc (hp, hn, env, nc, ns))) (hG : Gs FS rc mu M md hp0 r N lo st hs L stc hp) (h : aDup ar pc N lo st hs = true) : hDup (pR P d mi k) (pC P d) k pc L stc (hp, hn, env, nc, ns) = true := by
  cases st with
  | nil => cases h
  | cons v rest =>
    obtain ⟨w, ws, rfl, hw, hst⟩ := aSt_c hG.2.2.1
    obtain ⟨h1, h⟩ := eC_t h
    show cond (Nat.beq (eTg w) 4) false (pR P d mi k (Nat.add pc 1) L (w :: w :: ws) (hp, hn, env, nc, ns)) = true
    rw [beqF (sNl_ok hw h1)]
    exact pR_t (har _ _ _ _ _ h r L _ hp (Gs_st hG ⟨hw, hw, hst⟩))
noncomputable def aPop : aH := fun ar pc N lo st hs => match st with
  | v :: rest => cond (sNl v) (ar (Nat.add pc 1) N lo rest hs) false
  | _ => false
theorem i_pop (har : (∀ pc N lo st hs, ar pc N lo st hs = true → ∀ r L stc hp, Gs FS rc mu M md hp0 r N lo st hs L stc hp → P d mi k pc L stc (hp, hn, env, nc, ns))) (hG : Gs FS rc mu M md hp0 r N lo st hs L stc hp) (h : aPop ar pc N lo st hs = true) : hPop (pR P d mi k) (pC P d) k pc L stc (hp, hn, env, nc, ns) = true := by
  cases st with
  | nil => cases h
  | cons v rest =>
    obtain ⟨w, ws, rfl, hw, hst⟩ := aSt_c hG.2.2.1
    obtain ⟨h1, h⟩ := eC_t h
    show cond (Nat.beq (eTg w) 4) false (pR P d mi k (Nat.add pc 1) L ws (hp, hn, env, nc, ns)) = true
    rw [beqF (sNl_ok hw h1)]
    exact pR_t (har _ _ _ _ _ h r L _ hp (Gs_st hG hst))
noncomputable def aDup2 : aH := fun ar pc N lo st hs => match st with
  | v :: u :: rest => cond (sNl v) (cond (sNl u) (ar (Nat.add pc 1) N lo (v :: u :: v :: u :: rest) hs) false) false
  | _ => false
theorem i_dup2 (har : (∀ pc N lo st hs, ar pc N lo st hs = true → ∀ r L stc hp, Gs FS rc mu M md hp0 r N lo st hs L stc hp → P d mi k pc L stc (hp, hn, env, nc, ns))) (hG : Gs FS rc mu M md hp0 r N lo st hs L stc hp) (h : aDup2 ar pc N lo st hs = true) : hDup2 (pR P d mi k) (pC P d) k pc L stc (hp, hn, env, nc, ns) = true := by
  cases st with
  | nil => cases h
  | cons v st =>
    cases st with
    | nil => cases h
    | cons u rest =>
      obtain ⟨w, ws1, rfl, hw, hst1⟩ := aSt_c hG.2.2.1
      obtain ⟨w2, ws, rfl, hw2, hst⟩ := aSt_c hst1
      obtain ⟨h1, h⟩ := eC_t h
      obtain ⟨h2, h⟩ := eC_t h
      show cond (Nat.beq (eTg w) 4) false (cond (Nat.beq (eTg w2) 4) false (pR P d mi k (Nat.add pc 1) L (w :: w2 :: w :: w2 :: ws) (hp, hn, env, nc, ns))) = true
      rw [beqF (sNl_ok hw h1), beqF (sNl_ok hw2 h2)]
      exact pR_t (har _ _ _ _ _ h r L _ hp (Gs_st hG ⟨hw, hw2, hw, hw2, hst⟩))
end CkStep1
