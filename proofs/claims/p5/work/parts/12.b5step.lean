section CkStep5
abbrev sTm : Type := sNm × List sVl × sHs
def loF (r : List Int) (lo : List sVl) (W : Nat → Nat) : Prop := ∀ j v, lo[j]? = some v → vOk r v (W j)
theorem loF_mono {r t : List Int} {lo : List sVl} {W : Nat → Nat} (h : loF r lo W) : loF (r ++ t) lo W := fun j v hj => vOk_mono (h j v hj)
theorem sEs_len {r : List Int} : ∀ {es : List sLn} {xs : List Int}, sEs r es xs → es.length = xs.length
  | [], [], _ => rfl
  | _ :: _, _ :: _, h => by rw [List.length_cons, List.length_cons, sEs_len h.2]
  | [], _ :: _, h => h.elim
  | _ :: _, [], h => h.elim
theorem sEs_app {r : List Int} {e : sLn} {x : Int} (hx : sE r e = some x) : ∀ {es : List sLn} {xs : List Int}, sEs r es xs → sEs r (es ++ [e]) (xs ++ [x])
  | [], [], _ => ⟨hx, trivial⟩
  | _ :: _, _ :: _, h => ⟨h.1, sEs_app hx h.2⟩
  | [], _ :: _, h => h.elim
  | _ :: _, [], h => h.elim
/-- the form that a symbol stands for -/
noncomputable def sGl (th : List sLn) (s : Nat) (k : sLn → Bool) : Bool := @List.rec sLn (fun _ => Nat → Bool) (fun _ => false) (fun v _ ih j => @Nat.rec (fun _ => Bool) (k v) (fun m _ => ih m) j) th s
theorem sGl_ok {r : List Int} {k : sLn → Bool} : ∀ {th : List sLn} {xs : List Int} {s : Nat}, sEs r th xs → sGl th s k = true → ∃ e x, xs[s]? = some x ∧ sE r e = some x ∧ k e = true := by
  intro th
  induction th with
  | nil => intro xs s _ h; cases h
  | cons w th ih =>
    intro xs s hx h
    cases xs with
    | nil => exact hx.elim
    | cons x xs =>
      cases s with
      | zero => exact ⟨w, x, rfl, hx.1, h⟩
      | succ s =>
        obtain ⟨e, y, a, b, c⟩ := ih (s := s) hx.2 h
        exact ⟨e, y, a, b, c⟩
noncomputable def sSbT (th : List sLn) (ts : List (Int × Nat)) : sLn → (sLn → Bool) → Bool := @List.rec (Int × Nat) (fun _ => sLn → (sLn → Bool) → Bool) (fun acc k => k acc) (fun q _ ih acc k => sGl th q.2 (fun f => sFl (sAdd acc (sMul q.1 f)) (fun acc => ih acc k))) ts
theorem sSbT_ok {r : List Int} {th : List sLn} {xs : List Int} (hth : sEs r th xs) : ∀ {ts : List (Int × Nat)} {acc : sLn} {a : Int} {k : sLn → Bool}, sE r acc = some a → sSbT th ts acc k = true → ∃ e y, sEt xs ts = some y ∧ sE r e = some (a + y) ∧ k e = true := by
  intro ts
  induction ts with
  | nil => intro acc a k ha h; exact ⟨acc, 0, rfl, by rw [Int.add_zero]; exact ha, h⟩
  | cons q ts ih =>
    intro acc a k ha h
    obtain ⟨f, x, x1, x2, h⟩ := sGl_ok hth (show sGl th q.2 (fun f => sFl (sAdd acc (sMul q.1 f)) (fun acc => sSbT th ts acc k)) = true from h)
    rw [sFl_eq] at h
    obtain ⟨e, y, y1, y2, y3⟩ := ih (sAdd_ok ha (sMul_ok (k := q.1) x2)) h
    obtain ⟨qa, qs⟩ := q
    exact ⟨e, qa * x + y, sEt_mk x1 y1, by rw [y2]; congr 1; show a + qa * x + y = _; omega, y3⟩
/-- a form, its symbols replaced -/
noncomputable def sSbK (th : List sLn) (e : sLn) (k : sLn → Bool) : Bool := sSbT th e.2 (e.1, []) k
theorem sSbK_ok {r : List Int} {th : List sLn} {xs : List Int} (hth : sEs r th xs) {e : sLn} {k : sLn → Bool} (h : sSbK th e k = true) : ∃ e' x, sE xs e = some x ∧ sE r e' = some x ∧ k e' = true := by
  obtain ⟨e', y, y1, y2, y3⟩ := sSbT_ok hth (sE_k r e.1) h
  exact ⟨e', e.1 + y, sE_iff.mpr ⟨y, y1, rfl⟩, y2, y3⟩
noncomputable def sApp (f : sLn) (th : List sLn) : (List sLn → Bool) → Bool := @List.rec sLn (fun _ => (List sLn → Bool) → Bool) (fun k => k [f]) (fun a _ ih k => ih (fun l => k (a :: l))) th
theorem sApp_eq (f : sLn) : ∀ (th : List sLn) (k : List sLn → Bool), sApp f th k = k (th ++ [f]) := by
  intro th
  induction th with
  | nil => intro k; rfl
  | cons a th ih =>
    intro k
    show sApp f th (fun l => k (a :: l)) = _
    rw [ih]
    rfl
noncomputable def sLen (th : List sLn) : Nat := @List.rec sLn (fun _ => Nat) 0 (fun _ _ ih => Nat.add ih 1) th
theorem sLen_eq : ∀ th : List sLn, sLen th = th.length := by
  intro th
  induction th with
  | nil => rfl
  | cons a th ih => show sLen th + 1 = th.length + 1; rw [ih]
/-- a symbol that isn't bound yet -/
noncomputable def sNew (th : List sLn) (p : sLn) : Bool := match p.2 with
  | [q] => cond (zEq p.1 (Int.ofNat 0)) (cond (zEq q.1 (Int.ofNat 1)) (Nat.beq q.2 (sLen th)) false) false
  | _ => false
theorem sNew_ok {th : List sLn} {p : sLn} (h : sNew th p = true) : p = sV th.length := by
  obtain ⟨c, ts⟩ := p
  unfold sNew at h
  split at h
  · rename_i q e
    have e : ts = [q] := e
    subst e
    obtain ⟨h1, h⟩ := eC_t h
    obtain ⟨h2, h⟩ := eC_t h
    have hc0 : c = 0 := zEq_ok h1
    have h2 : q.1 = 1 := zEq_ok h2
    have h3 := Nat.eq_of_beq_eq_true h
    rw [sLen_eq] at h3
    obtain ⟨qa, qs⟩ := q
    have h2 : qa = 1 := h2
    have h3 : qs = th.length := h3
    subst hc0 h2 h3
    rfl
  · cases h
noncomputable def sEqz (N : sNm) (a b : sLn) : Bool := cond (sLeq a b) true (sFl (sSub a b) (fun d => cond (zPs (sLo N d)) (zN (sHi N d)) false))
theorem sEqz_ok {r : List Int} {N : sNm} (hN : sNOk tSg r N) {a b : sLn} {x y : Int} (ha : sE r a = some x) (hb : sE r b = some y) (h : sEqz N a b = true) : x = y := by
  rcases sCh h with ⟨h, -⟩ | ⟨-, h⟩
  · rw [sLeq_ok h] at ha
    exact sE_inj ha hb
  · rw [sFl_eq] at h
    obtain ⟨h1, h2⟩ := eC_t h
    have h1 := zPs_iff.mp h1
    have h2 := zN_iff.mp h2
    have hd := sSub_ok ha hb
    have b1 := sLo_ok hN hd
    have b2 := sHi_ok hN hd
    omega
/-- a form of the template against a form -/
noncomputable def sPlL (N : sNm) (th : List sLn) (p v : sLn) (k : List sLn → Bool) : Bool := cond (sNew th p) (sApp v th k) (sSbK th p (fun e => cond (sEqz N e v) (k th) false))
theorem sPlL_ok {r : List Int} {N : sNm} (hN : sNOk tSg r N) {th : List sLn} {xs : List Int} (hth : sEs r th xs) {p v : sLn} {x : Int} (hv' : sE r v = some x) {k : List sLn → Bool} (h : sPlL N th p v k = true) : ∃ th' t, sEs r th' (xs ++ t) ∧ sE (xs ++ t) p = some x ∧ k th' = true := by
  rcases sCh h with ⟨h1, h⟩ | ⟨-, h⟩
  · rw [sApp_eq] at h
    have e := sNew_ok h1
    have hl := sEs_len hth
    refine ⟨_, [x], sEs_app hv' hth, ?_, h⟩
    rw [e, hl]
    exact sE_V (by rw [List.getElem?_concat_length])
  · obtain ⟨e', y, y1, y2, h⟩ := sSbK_ok hth h
    obtain ⟨h1, h⟩ := eC_t h
    have := sEqz_ok hN y2 hv' h1
    subst this
    exact ⟨th, [], by rw [sNil]; exact hth, by rw [sNil]; exact y1, h⟩
noncomputable def sNrmL (N : sNm) (e : sLn) (k : sLn → Bool) : Bool := cond (sIsK e) (k e) (zF (sLo N e) (fun a => cond (zEq a (sHi N e)) (k (a, [])) (k e)))
theorem sNrmL_ok {r : List Int} {N : sNm} (hN : sNOk tSg r N) {e : sLn} {x : Int} (hx : sE r e = some x) {k : sLn → Bool} (h : sNrmL N e k = true) : ∃ e', sE r e' = some x ∧ k e' = true := by
  rcases sCh h with ⟨-, h⟩ | ⟨-, h⟩
  · exact ⟨e, hx, h⟩
  · rw [zF_eq] at h
    rcases sCh h with ⟨h1, h⟩ | ⟨-, h⟩
    · have e1 := zEq_ok h1
      have b1 := sLo_ok hN hx
      have b2 := sHi_ok hN hx
      have e2 : sLo N e = x := by omega
      rw [e2] at h
      exact ⟨_, sE_k r x, h⟩
    · exact ⟨e, hx, h⟩
/-- a value of the template against a value -/
noncomputable def sPl (N : sNm) (th : List sLn) (p v : sVl) (k : List sLn → Bool) : Bool :=
  cond (Nat.beq p.1 9) (k th) (cond (Nat.beq p.1 0) (cond (cond (sNl v) true (Nat.beq v.1 6)) (k th) false) (cond (cond (Nat.beq p.1 4) (Nat.beq v.1 5) false) (k th) (cond (Nat.beq p.1 v.1) (cond (cond (Nat.beq p.1 1) true (cond (Nat.beq p.1 5) true (Nat.ble 16 p.1))) (sNrmL N v.2 (fun e => sPlL N th p.2 e k)) (cond (Nat.beq p.1 4) (k th) (cond (Nat.beq p.1 7) (k th) false))) false)))
theorem sPl_ok {r : List Int} {N : sNm} (hN : sNOk tSg r N) {th : List sLn} {xs : List Int} (hth : sEs r th xs) {p v : sVl} {w : Nat} (hv' : vOk r v w) {k : List sLn → Bool} (h : sPl N th p v k = true) : ∃ th' t, sEs r th' (xs ++ t) ∧ vOk (xs ++ t) p w ∧ k th' = true := by
  have stay : ∀ {q : Prop}, (vOk xs p w) → k th = true → ∃ th' t, sEs r th' (xs ++ t) ∧ vOk (xs ++ t) p w ∧ k th' = true := fun a b => ⟨th, [], by rw [sNil]; exact hth, by rw [sNil]; exact a, b⟩
  obtain ⟨pt, pe⟩ := p
  rcases sCh h with ⟨h1, h⟩ | ⟨-, h⟩
  · have h1 : pt = 9 := Nat.eq_of_beq_eq_true h1
    subst h1
    exact stay (q := True) ⟨fun q => absurd q (by simp), fun q => absurd q (by simp), fun q => absurd q (by simp), fun q => absurd q (by simp), fun q => absurd q (by simp), fun q => absurd q (by simp), fun q => absurd q (by simp), fun q => absurd q (by simp)⟩ h
  · rcases sCh h with ⟨h1, h⟩ | ⟨-, h⟩
    · have h1 : pt = 0 := Nat.eq_of_beq_eq_true h1
      subst h1
      obtain ⟨h2, h⟩ := eC_t h
      refine stay (q := True) (vOk_u ?_) h
      rcases sCh h2 with ⟨h3, -⟩ | ⟨-, h3⟩
      · exact sNl_ok hv' h3
      · rcases hv'.2.2.2.1 (Nat.eq_of_beq_eq_true h3) with rfl | rfl <;> decide
    · rcases sCh h with ⟨h1, h9⟩ | ⟨-, h⟩
      · obtain ⟨h2, h3⟩ := eC_t h1
        have h2 : pt = 4 := Nat.eq_of_beq_eq_true h2
        subst h2
        obtain ⟨x, -, -, -, rfl⟩ := vOk_L hv' h3
        exact stay (q := True) (vOk_l (cL_tg x) (cL_67 x)) h9
      obtain ⟨h1, h⟩ := eC_t h
      have h1 : pt = v.1 := Nat.eq_of_beq_eq_true h1
      rcases sCh h with ⟨h2, h⟩ | ⟨-, h⟩
      · rcases sCh h2 with ⟨h3, -⟩ | ⟨-, h3⟩
        · have h3 : pt = 1 := Nat.eq_of_beq_eq_true h3
          obtain ⟨x, x1, x2, x3, rfl⟩ := hv'.2.1 (by rw [← h1, h3])
          obtain ⟨e1, x1, h⟩ := sNrmL_ok hN x1 h
          obtain ⟨th', t, a, b, c⟩ := sPlL_ok hN hth x1 h
          subst h3
          exact ⟨th', t, a, vOk_i b x2 x3, c⟩
        rcases sCh h3 with ⟨h3, -⟩ | ⟨-, h3⟩
        · have h3 : pt = 5 := Nat.eq_of_beq_eq_true h3
          obtain ⟨x, x1, x2, x3, rfl⟩ := hv'.2.2.2.2.2.2.2 (by rw [← h1, h3])
          obtain ⟨e1, x1, h⟩ := sNrmL_ok hN x1 h
          obtain ⟨th', t, a, b, c⟩ := sPlL_ok hN hth x1 h
          subst h3
          exact ⟨th', t, a, vOk_w b x2 x3, c⟩
        · have h3 : 16 ≤ pt := Nat.le_of_ble_eq_true h3
          obtain ⟨c, c1, c2, c3, rfl⟩ := hv'.2.2.2.2.2.1 (by rw [← h1]; exact h3)
          obtain ⟨e1, c1, h⟩ := sNrmL_ok hN c1 h
          obtain ⟨th', t, a, b, e⟩ := sPlL_ok hN hth c1 h
          refine ⟨th', t, a, ?_, e⟩
          have q := vOk_r (r := xs ++ t) b c2 rfl
          have e2 : Nat.add (tRO c) 16 = pt := by rw [h1]; exact c3
          rw [e2] at q
          exact q
      · rcases sCh h with ⟨h2, h⟩ | ⟨-, h⟩
        · have h2 : pt = 4 := Nat.eq_of_beq_eq_true h2
          subst h2
          obtain ⟨a, b⟩ := hv'.2.2.1 h1.symm
          exact stay (q := True) (vOk_l a b) h
        · obtain ⟨h2, h⟩ := eC_t h
          have h2 : pt = 7 := Nat.eq_of_beq_eq_true h2
          subst h2
          have a := hv'.2.2.2.2.1 h1.symm
          subst a
          exact stay (q := True) vOk_7 h
/-- places one by one -/
noncomputable def sPls (N : sNm) (ps : List sVl) : List sVl → List sLn → (List sLn → Bool) → Bool := @List.rec sVl (fun _ => List sVl → List sLn → (List sLn → Bool) → Bool) (fun _ th k => k th) (fun p _ ih vs th k => @List.rec sVl (fun _ => Bool) false (fun v r _ => sPl N th p v (fun th => ih r th k)) vs) ps
theorem sPls_ok {r : List Int} {N : sNm} (hN : sNOk tSg r N) : ∀ {ps vs : List sVl} {W : Nat → Nat} {th : List sLn} {xs : List Int} {k : List sLn → Bool}, sEs r th xs → loF r vs W → sPls N ps vs th k = true → ∃ th' t, sEs r th' (xs ++ t) ∧ loF (xs ++ t) ps W ∧ k th' = true := by
  intro ps
  induction ps with
  | nil => intro vs W th xs k hth _ h; exact ⟨th, [], by rw [sNil]; exact hth, fun j v hj => (by simp at hj), h⟩
  | cons p ps ih =>
    intro vs W th xs k hth hv' h
    cases vs with
    | nil => cases h
    | cons v vs =>
      obtain ⟨th1, t1, a1, a2, a3⟩ := sPl_ok hN hth (hv' 0 v rfl) (show sPl N th p v (fun th => sPls N ps vs th k) = true from h)
      obtain ⟨th2, t2, b1, b2, b3⟩ := ih (W := fun j => W (j + 1)) a1 (fun j u hj => hv' (j + 1) u hj) a3
      rw [List.append_assoc] at b1 b2
      refine ⟨th2, t1 ++ t2, b1, fun j u hj => ?_, b3⟩
      cases j with
      | zero => cases hj; rw [← List.append_assoc]; exact vOk_mono a2
      | succ j => exact b2 j u hj
/-- a reference to a cell of that role is known -/
noncomputable def sHas (l : List sVl) (ro : Nat) (e : sLn) : Bool := @List.rec sVl (fun _ => Bool) false (fun v _ ih => cond (cond (Nat.beq v.1 (Nat.add ro 16)) (sLeq v.2 e) false) true ih) l
theorem sHas_ok {ro : Nat} {e : sLn} : ∀ {l : List sVl}, sHas l ro e = true → ∃ j : Nat, l[j]? = some (ro + 16, e) := by
  intro l
  induction l with
  | nil => intro h; cases h
  | cons v l ih =>
    intro h
    rcases sCh (show cond (cond (Nat.beq v.1 (Nat.add ro 16)) (sLeq v.2 e) false) true (sHas l ro e) = true from h) with ⟨h1, -⟩ | ⟨-, h1⟩
    · obtain ⟨a, b⟩ := eC_t h1
      refine ⟨0, ?_⟩
      have a : v.1 = ro + 16 := Nat.eq_of_beq_eq_true a
      have b := sLeq_ok b
      show some v = _
      rw [← a, ← b]
    · obtain ⟨j, hj⟩ := ih h1
      exact ⟨j + 1, hj⟩
noncomputable def sHasR (l : List sRf) (ro : Nat) (e : sLn) : Bool := @List.rec sRf (fun _ => Bool) false (fun q _ ih => cond (cond (cond (Nat.beq q.1.1 ro) (sLeq q.1.2 e) false) true (cond (Nat.beq q.2.2.1 (Nat.add ro 16)) (sLeq q.2.2.2 e) false)) true ih) l
theorem sHasR_ok {ro : Nat} {e : sLn} : ∀ {l : List sRf}, sHasR l ro e = true → ∃ q ∈ l, q.1 = (ro, e) ∨ q.2.2 = (ro + 16, e) := by
  intro l
  induction l with
  | nil => intro h; cases h
  | cons v l ih =>
    intro h
    rcases sCh (show cond (cond (cond (Nat.beq v.1.1 ro) (sLeq v.1.2 e) false) true (cond (Nat.beq v.2.2.1 (Nat.add ro 16)) (sLeq v.2.2.2 e) false)) true (sHasR l ro e) = true from h) with ⟨h1, -⟩ | ⟨-, h1⟩
    · refine ⟨v, List.mem_cons_self, ?_⟩
      rcases sCh h1 with ⟨h2, -⟩ | ⟨-, h2⟩
      · obtain ⟨a, b⟩ := eC_t h2
        left
        rw [← sLeq_ok b, ← Nat.eq_of_beq_eq_true a]
      · obtain ⟨a, b⟩ := eC_t h2
        right
        have a : v.2.2.1 = ro + 16 := Nat.eq_of_beq_eq_true a
        rw [← a, ← sLeq_ok b]
    · obtain ⟨q, a, b⟩ := ih h1
      exact ⟨q, List.mem_cons_of_mem _ a, b⟩
noncomputable def sKnR (lo : List sVl) (rf : List sRf) (ro : Nat) (e : sLn) : Bool := cond (sIsK e) (eF (Int.toNat e.1) (fun c => cond (zEq e.1 (Int.ofNat c)) (cond (Nat.blt c tNC) (Nat.beq (tRO c) ro) false) false)) (cond (sHas lo ro e) true (sHasR rf ro e))
theorem sKnR_ok {FS : sFS} {r : List Int} {lo : List sVl} {W : Nat → Nat} {hs : sHs} {hp : Lean.RArray Nat} (hlo : loF r lo W) (hH : hsOk FS r hp hs) {ro : Nat} {e : sLn} {x : Int} (hx : sE r e = some x) (h : sKnR lo hs.1 ro e = true) : ∃ c : Nat, x = (c : Int) ∧ c < tNC ∧ tRO c = ro := by
  have ref : ∀ w, vOk r (ro + 16, e) w → ∃ c : Nat, x = (c : Int) ∧ c < tNC ∧ tRO c = ro := fun w hw => by
    obtain ⟨c, c1, c2, c3, -⟩ := hw.2.2.2.2.2.1 (by show 16 ≤ ro + 16; omega)
    have c3 : tRO c + 16 = ro + 16 := c3
    exact ⟨c, sE_inj hx c1, c2, by omega⟩
  rcases sCh h with ⟨h1, h⟩ | ⟨-, h⟩
  · rw [eF_eq] at h
    obtain ⟨h2, h⟩ := eC_t h
    obtain ⟨h3, h⟩ := eC_t h
    refine ⟨Int.toNat e.1, ?_, eB_l h3, Nat.eq_of_beq_eq_true h⟩
    rw [sIsK_ok h1 hx]
    exact zEq_ok h2
  · rcases sCh h with ⟨h, -⟩ | ⟨-, h⟩
    · obtain ⟨j, hj⟩ := sHas_ok h
      exact ref _ (hlo j _ hj)
    · obtain ⟨q, hq, h | h⟩ := sHasR_ok h
      · obtain ⟨c, i, a1, a2, a3, -⟩ := hH.1 q hq
        rw [h] at a1 a3
        exact ⟨c, sE_inj hx a1, a2, a3⟩
      · obtain ⟨c, i, a1, a2, a3, a4, a5, a6⟩ := hH.1 q hq
        rw [h] at a6
        exact ref _ a6
/-- slots of the template -/
noncomputable def sMrf (lo : List sVl) (rf : List sRf) : sNm → sHs → List sLn → (List sLn → sNm → sHs → Bool) → Bool := @List.rec sRf (fun _ => sNm → sHs → List sLn → (List sLn → sNm → sHs → Bool) → Bool) (fun N hs th k => k th N hs) (fun q _ ih N hs th k => sSbK th q.1.2 (fun ce => sSbK th q.2.1 (fun ix => cond (sKnR lo hs.1 q.1.1 ce) (aRd N hs q.1.1 ce ix (fun v N hs => sPl N th q.2.2 v (fun th => ih N hs th k))) false))) rf
theorem sMrf_ok {FS : sFS} {hp : Lean.RArray Nat} {lo : List sVl} {W : Nat → Nat} (hO : hOk hp) : ∀ {rf : List sRf} {r : List Int} {N : sNm} {hs : sHs} {th : List sLn} {xs : List Int} {k : List sLn → sNm → sHs → Bool}, sNOk tSg r N → loF r lo W → hsOk FS r hp hs → sEs r th xs → sMrf lo rf N hs th k = true →
    ∃ t N' hs' th' u, sNOk tSg (r ++ t) N' ∧ hsOk FS (r ++ t) hp hs' ∧ sEs (r ++ t) th' (xs ++ u) ∧ (∀ q ∈ rf, rfOk (xs ++ u) hp q) ∧ k th' N' hs' = true := by
  intro rf
  induction rf with
  | nil => intro r N hs th xs k hN hlo hH hth h; exact ⟨[], N, hs, th, [], by rw [sNil]; exact hN, by rw [sNil]; exact hH, by rw [sNil, sNil]; exact hth, fun q hq => (by cases hq), h⟩
  | cons q rf ih =>
    intro r N hs th xs k hN hlo hH hth h
    have h : sSbK th q.1.2 (fun ce => sSbK th q.2.1 (fun ix => cond (sKnR lo hs.1 q.1.1 ce) (aRd N hs q.1.1 ce ix (fun v N hs => sPl N th q.2.2 v (fun th => sMrf lo rf N hs th k))) false)) = true := h
    obtain ⟨ce, x, x1, x2, h⟩ := sSbK_ok hth h
    obtain ⟨ix, y, y1, y2, h⟩ := sSbK_ok hth h
    obtain ⟨h1, h⟩ := eC_t h
    obtain ⟨c, rfl, c2, c3⟩ := sKnR_ok hlo hH x2 h1
    obtain ⟨i, rfl, i2, t, v, N1, hs1, n1, n2, n3, n4⟩ := aRd_ok hN hO hH c2 c3 x2 y2 h
    obtain ⟨th1, u1, m1, m2, m3⟩ := sPl_ok n1 (sEs_mono hth) n3 n4
    obtain ⟨t2, N', hs', th', u2, o1, o2, o3, o4, o5⟩ := ih n1 (loF_mono hlo) n2 m1 m3
    rw [List.append_assoc] at o1 o2 o3 o4
    rw [List.append_assoc] at o3
    refine ⟨t ++ t2, N', hs', th', u1 ++ u2, o1, o2, o3, fun w hw => ?_, o5⟩
    rcases List.mem_cons.mp hw with rfl | hw
    · rw [← List.append_assoc]
      exact ⟨c, i, sE_mono (sE_mono x1), c2, c3, sE_mono (sE_mono y1), i2, vOk_mono m2⟩
    · exact o4 w hw
/-- arguments of a fact -/
noncomputable def sArg (N : sNm) (ps : List sLn) : List sLn → List sLn → (List sLn → Bool) → Bool := @List.rec sLn (fun _ => List sLn → List sLn → (List sLn → Bool) → Bool) (fun vs th k => @List.rec sLn (fun _ => Bool) (k th) (fun _ _ _ => false) vs) (fun p _ ih vs th k => @List.rec sLn (fun _ => Bool) false (fun v r _ => sPlL N th p v (fun th => ih r th k)) vs) ps
theorem sArg_ok {r : List Int} {N : sNm} (hN : sNOk tSg r N) : ∀ {ps vs : List sLn} {ys : List Int} {th : List sLn} {xs : List Int} {k : List sLn → Bool}, sEs r th xs → sEs r vs ys → sArg N ps vs th k = true → ∃ th' t, sEs r th' (xs ++ t) ∧ sEs (xs ++ t) ps ys ∧ k th' = true := by
  intro ps
  induction ps with
  | nil =>
    intro vs ys th xs k hth hv' h
    cases vs with
    | cons v vs => cases h
    | nil =>
      cases ys with
      | cons y ys => exact hv'.elim
      | nil => exact ⟨th, [], by rw [sNil]; exact hth, trivial, h⟩
  | cons p ps ih =>
    intro vs ys th xs k hth hv' h
    cases vs with
    | nil => cases h
    | cons v vs =>
      cases ys with
      | nil => exact hv'.elim
      | cons y ys =>
        obtain ⟨th1, t1, a1, a2, a3⟩ := sPlL_ok hN hth hv'.1 (show sPlL N th p v (fun th => sArg N ps vs th k) = true from h)
        obtain ⟨th2, t2, b1, b2, b3⟩ := ih a1 hv'.2 a3
        rw [List.append_assoc] at b1 b2
        exact ⟨th2, t1 ++ t2, b1, ⟨by rw [← List.append_assoc]; exact sE_mono a2, b2⟩, b3⟩
noncomputable def sFm1 (N : sNm) (f : Nat) (ps th : List sLn) (k : List sLn → Bool) (fc : List sFc) : Bool := @List.rec sFc (fun _ => Bool) false (fun q _ ih => cond (cond (Nat.beq q.1 f) (sArg N ps q.2 th k) false) true ih) fc
theorem sFm1_ok {N : sNm} {f : Nat} {ps th : List sLn} {k : List sLn → Bool} : ∀ {fc : List sFc}, sFm1 N f ps th k fc = true → ∃ q ∈ fc, q.1 = f ∧ sArg N ps q.2 th k = true := by
  intro fc
  induction fc with
  | nil => intro h; cases h
  | cons w fc ih =>
    intro h
    rcases sCh (show cond (cond (Nat.beq w.1 f) (sArg N ps w.2 th k) false) true (sFm1 N f ps th k fc) = true from h) with ⟨h1, -⟩ | ⟨-, h1⟩
    · obtain ⟨a, b⟩ := eC_t h1
      exact ⟨w, List.mem_cons_self, Nat.eq_of_beq_eq_true a, b⟩
    · obtain ⟨q, a, b⟩ := ih h1
      exact ⟨q, List.mem_cons_of_mem _ a, b⟩
noncomputable def sMfc (N : sNm) (fs fc : List sFc) : List sLn → (List sLn → Bool) → Bool := @List.rec sFc (fun _ => List sLn → (List sLn → Bool) → Bool) (fun th k => k th) (fun q _ ih th k => sFm1 N q.1 q.2 th (fun th => ih th k) fc) fs
theorem sMfc_ok {FS : sFS} {hp : Lean.RArray Nat} {r : List Int} {N : sNm} {hs : sHs} (hN : sNOk tSg r N) (hH : hsOk FS r hp hs) : ∀ {fs : List sFc} {th : List sLn} {xs : List Int} {k : List sLn → Bool}, sEs r th xs → sMfc N fs hs.2 th k = true → ∃ th' t, sEs r th' (xs ++ t) ∧ (∀ q ∈ fs, fcOk FS (xs ++ t) hp q) ∧ k th' = true := by
  intro fs
  induction fs with
  | nil => intro th xs k hth h; exact ⟨th, [], by rw [sNil]; exact hth, fun q hq => (by cases hq), h⟩
  | cons f fs ih =>
    intro th xs k hth h
    obtain ⟨q, q1, q2, q3⟩ := sFm1_ok (show sFm1 N f.1 f.2 th (fun th => sMfc N fs hs.2 th k) hs.2 = true from h)
    obtain ⟨ys, y1, y2⟩ := hH.2 q q1
    obtain ⟨th1, t1, a1, a2, a3⟩ := sArg_ok hN hth y1 q3
    obtain ⟨th2, t2, b1, b2, b3⟩ := ih a1 a3
    rw [List.append_assoc] at b1 b2
    refine ⟨th2, t1 ++ t2, b1, fun w hw => ?_, b3⟩
    rcases List.mem_cons.mp hw with rfl | hw
    · rw [← List.append_assoc]
      exact ⟨ys, sEs_mono a2, by rw [← q2]; exact y2⟩
    · exact b2 w hw
noncomputable def sCiv (N : sNm) (th : List sLn) (iv : sIv) : Bool := @List.rec (Nat × Int × Int) (fun _ => Bool) true (fun q _ ih => cond (sGl th q.1 (fun e => sIn N e q.2.1 q.2.2)) ih false) iv
theorem sCiv_ok {r : List Int} {N : sNm} (hN : sNOk tSg r N) {th : List sLn} {xs : List Int} (hth : sEs r th xs) : ∀ {iv : sIv}, sCiv N th iv = true → ∀ q ∈ iv, ∃ x, xs[q.1]? = some x ∧ q.2.1 ≤ x ∧ x ≤ q.2.2 := by
  intro iv
  induction iv with
  | nil => intro _ q hq; cases hq
  | cons w iv ih =>
    intro h q hq
    obtain ⟨h1, h2⟩ := eC_t (show cond (sGl th w.1 (fun e => sIn N e w.2.1 w.2.2)) (sCiv N th iv) false = true from h)
    rcases List.mem_cons.mp hq with rfl | hq
    · obtain ⟨e, x, x1, x2, x3⟩ := sGl_ok hth h1
      exact ⟨x, x1, sIn_ok hN x2 x3⟩
    · exact ih h2 q hq
noncomputable def sCth (N : sNm) (th : List sLn) : Bool := @List.rec sLn (fun _ => Bool) true (fun e _ ih => cond (sIn N e wMn wMx) ih false) th
theorem sCth_ok {r : List Int} {N : sNm} (hN : sNOk tSg r N) : ∀ {th : List sLn} {xs : List Int}, sEs r th xs → sCth N th = true → ∀ x ∈ xs, wMn ≤ x ∧ x ≤ wMx := by
  intro th
  induction th with
  | nil =>
    intro xs h _ x hx
    cases xs with
    | nil => cases hx
    | cons y ys => exact h.elim
  | cons e th ih =>
    intro xs h hc x hx
    cases xs with
    | nil => cases hx
    | cons y ys =>
      obtain ⟨h1, h2⟩ := eC_t (show cond (sIn N e wMn wMx) (sCth N th) false = true from hc)
      rcases List.mem_cons.mp hx with rfl | hx
      · exact sIn_ok hN h.1 h1
      · exact ih h.2 h2 x hx
noncomputable def sCcs (N : sNm) (th cs : List sLn) : Bool := @List.rec sLn (fun _ => Bool) true (fun c _ ih => cond (sSbK th c (fun e => sLe N.2.1 N.2.2.1 8 e)) ih false) cs
theorem sCcs_ok {r : List Int} {N : sNm} (hN : sNOk tSg r N) {th : List sLn} {xs : List Int} (hth : sEs r th xs) : ∀ {cs : List sLn}, sCcs N th cs = true → sCsOk xs cs := by
  intro cs
  induction cs with
  | nil => intro _ q hq; cases hq
  | cons w cs ih =>
    intro h q hq
    obtain ⟨h1, h2⟩ := eC_t (show cond (sSbK th w (fun e => sLe N.2.1 N.2.2.1 8 e)) (sCcs N th cs) false = true from h)
    rcases List.mem_cons.mp hq with rfl | hq
    · obtain ⟨e', x, x1, x2, x3⟩ := sSbK_ok hth h1
      exact ⟨x, x1, sLe_ok hN.2.1 hN.2.2.1 x3 x2⟩
    · exact ih h2 q hq
noncomputable def sEmp (l : List (Nat × Nat × sLn)) : Bool := @List.rec (Nat × Nat × sLn) (fun _ => Bool) true (fun _ _ _ => false) l
theorem sEmp_ok {l : List (Nat × Nat × sLn)} (h : sEmp l = true) : l = [] := by
  cases l with
  | nil => rfl
  | cons a l => cases h
/-- THE MATCH: what is known against a template -/
noncomputable def sMch (N : sNm) (lo : List sVl) (hs : sHs) (th : List sLn) (T : sTm) (k : List sLn → sNm → sHs → Bool) : Bool :=
  sPls N T.2.1 lo th (fun th => sMrf lo T.2.2.1 N hs th (fun th N hs => sMfc N T.2.2.2 hs.2 th (fun th => cond (Nat.beq (sLen th) T.1.1) (cond (sCth N th) (cond (sCiv N th T.1.2.1) (cond (sCcs N th T.1.2.2.1) (cond (sEmp T.1.2.2.2) (k th N hs) false) false) false) false) false)))
theorem sMch_ok {FS : sFS} {hp : Lean.RArray Nat} {r : List Int} {N : sNm} {lo : List sVl} {W : Nat → Nat} {hs : sHs} {th : List sLn} {xs : List Int} {T : sTm} {k : List sLn → sNm → sHs → Bool} (hN : sNOk tSg r N) (hlo : loF r lo W) (hO : hOk hp) (hH : hsOk FS r hp hs) (hth : sEs r th xs) (h : sMch N lo hs th T k = true) :
    ∃ t N' hs' th' u, sNOk tSg (r ++ t) N' ∧ hsOk FS (r ++ t) hp hs' ∧ sEs (r ++ t) th' (xs ++ u) ∧ sNOk tSg (xs ++ u) T.1 ∧ loF (xs ++ u) T.2.1 W ∧ hsOk FS (xs ++ u) hp T.2.2 ∧ k th' N' hs' = true := by
  obtain ⟨th1, u1, a1, a2, h⟩ := sPls_ok hN hth hlo h
  obtain ⟨t, N', hs', th2, u2, b1, b2, b3, b4, h⟩ := sMrf_ok hO hN hlo hH a1 h
  obtain ⟨th3, u3, c1, c2, h⟩ := sMfc_ok b1 b2 b3 h
  obtain ⟨h1, h⟩ := eC_t h
  obtain ⟨h2, h⟩ := eC_t h
  obtain ⟨h3, h⟩ := eC_t h
  obtain ⟨h4, h⟩ := eC_t h
  obtain ⟨h5, h⟩ := eC_t h
  have e : xs ++ u1 ++ u2 ++ u3 = xs ++ (u1 ++ u2 ++ u3) := by rw [List.append_assoc, List.append_assoc, List.append_assoc]
  refine ⟨t, N', hs', th3, u1 ++ u2 ++ u3, b1, b2, by rw [← e]; exact c1, ?_, ?_, ⟨fun q hq => ?_, fun q hq => ?_⟩, h⟩
  · rw [← e]
    have hl := sEs_len c1
    have h1 := Nat.eq_of_beq_eq_true h1
    rw [sLen_eq] at h1
    exact ⟨hl.symm.trans h1, ⟨sCth_ok b1 c1 h2, sCiv_ok b1 c1 h3⟩, sCcs_ok b1 c1 h4, by rw [sEmp_ok h5]; intro q hq; cases hq⟩
  · rw [← e]
    exact loF_mono (loF_mono a2)
  · rw [← e]
    exact rfOk_mono (b4 q hq)
  · rw [← e]
    exact c2 q hq
end CkStep5
