section CkLaw2
noncomputable def lMj (pc : Nat) : Nat := @List.rec (Nat × Nat) (fun _ => Nat) 0 (fun q _ ih => cond (Nat.beq q.1 pc) q.2 ih) lMs
def lMok (q : Nat × Nat) : Prop := Lean.RArray.get eDL q.1 = (q.1, .aload_n 0, 1) ∧ Lean.RArray.get eDL (q.1 + 1) = (q.1 + 1, .iload 4, 2) ∧ Lean.RArray.get eDL (q.1 + 3) = (q.1 + 3, .iconst (q.2 : Int), 1) ∧ Lean.RArray.get eDL (q.1 + 4) = (q.1 + 4, .iadd, 1) ∧ Lean.RArray.get eDL (q.1 + 5) = (q.1 + 5, .iaload, 1) ∧ 1 ≤ q.2 ∧ q.2 ≤ 5
set_option maxRecDepth 100000 in
theorem lMs_ok : ∀ q ∈ lMs, lMok q := by
  unfold lMok
  decide +kernel
theorem lMj_ok {pc : Nat} (h : ¬ lMj pc = 0) : lMok (pc, lMj pc) := by
  have key : ∀ l : List (Nat × Nat), (∀ q ∈ l, lMok q) → ¬ (@List.rec (Nat × Nat) (fun _ => Nat) 0 (fun q _ ih => cond (Nat.beq q.1 pc) q.2 ih) l : Nat) = 0 → lMok (pc, @List.rec (Nat × Nat) (fun _ => Nat) 0 (fun q _ ih => cond (Nat.beq q.1 pc) q.2 ih) l) := by
    intro l
    induction l with
    | nil => intro _ h; exact absurd rfl h
    | cons q l ih =>
      intro hl h
      have e : (@List.rec (Nat × Nat) (fun _ => Nat) 0 (fun q _ ih => cond (Nat.beq q.1 pc) q.2 ih) (q :: l) : Nat) = cond (Nat.beq q.1 pc) q.2 (@List.rec (Nat × Nat) (fun _ => Nat) 0 (fun q _ ih => cond (Nat.beq q.1 pc) q.2 ih) l) := rfl
      rw [e] at h ⊢
      cases hb : Nat.beq q.1 pc
      · rw [hb, cond_false] at h
        rw [cond_false]
        exact ih (fun q hq => hl q (List.mem_cons_of_mem _ hq)) h
      · rw [cond_true]
        have e2 := Nat.eq_of_beq_eq_true hb
        rw [← e2]
        exact hl q List.mem_cons_self
  exact key lMs lMs_ok h
noncomputable def lLo (k : Int) (lo : List sVl) : Bool := sGt lo 0 (fun v => cond (Nat.beq v.1 8) (sGt lo 4 (fun w => cond (Nat.beq w.1 1) (decide (w.2 = (k, [(1, 5)]))) false)) false)
theorem lLo_ok {r : List Int} {lo : List sVl} {L : Nat} {i k : Int} (hl : loOk r lo L) (hi : r[5]? = some i) (h : lLo k lo = true) : eSl L 0 = 30 ∧ eSl L 4 = cI (k + i) := by
  obtain ⟨v, v1, h⟩ := sGt_ok h
  obtain ⟨v2, h⟩ := eC_t h
  obtain ⟨w, w1, h⟩ := sGt_ok h
  obtain ⟨w2, h⟩ := eC_t h
  have h := of_decide_eq_true h
  refine ⟨(hl 0 v v1).2.2.2.2.2.2.1 (Nat.eq_of_beq_eq_true v2), ?_⟩
  obtain ⟨x, x1, -, -, x4⟩ := (hl 4 w w1).2.1 (Nat.eq_of_beq_eq_true w2)
  rw [h] at x1
  obtain ⟨y, y1, y2⟩ := sE_iff.mp x1
  obtain ⟨a, b, a1, b1, b2⟩ := sEt_cons y1
  rw [hi] at a1
  cases a1
  cases b1
  rw [x4]
  congr 1
  have y2 : x = k + y := y2
  omega
noncomputable def lRun (md : sMd) (hl : List (Nat × List Nat)) (tm : List (Nat × sTm × sLn)) (f : Nat) : aR := @Nat.rec (fun _ => aR) (fun _ _ _ _ _ => false) (fun _ ih pc N lo st hs => eF pc (fun pc =>
  cond (Nat.beq pc 23) (cond (sNilV st) (cond (lLo 6 lo) (sTryT N lo hs (sIdn 6 0) 23 none tm) false) false)
    (cond (Nat.beq (lMj pc) 0) (cStep 1298 gCT 22 md [] 6 303 (sCal hl pc) ih pc N lo st hs)
      (cond (lLo 0 lo) (ih (Nat.add pc 6) N lo ((1, sV (Nat.sub (lMj pc) 1)) :: st) hs) false)))) f
theorem i32_b (x : Int32) : zMn ≤ x.toInt ∧ x.toInt ≤ zMx := by
  have h := eX_int x
  have h2 := eX_lt32 x
  rw [zMn_eq, zMx_eq]
  omega
def lRc (xs : Nat → Int32) (i : Nat) : List Int := [(xs (i + 1)).toInt, (xs (i + 2)).toInt, (xs (i + 3)).toInt, (xs (i + 4)).toInt, (xs (i + 5)).toInt, (i : Int)]
theorem lRc_get {xs : Nat → Int32} {i j : Nat} (h1 : 1 ≤ j) (h5 : j ≤ 5) : (lRc xs i)[j - 1]? = some (xs (i + j)).toInt := by
  rcases (show j = 1 ∨ j = 2 ∨ j = 3 ∨ j = 4 ∨ j = 5 by omega) with rfl | rfl | rfl | rfl | rfl <;> rfl
theorem lIc {j : Nat} (h5 : j ≤ 5) : Int32.ofInt (j : Int) = nI j := by
  rcases (show j = 0 ∨ j = 1 ∨ j = 2 ∨ j = 3 ∨ j = 4 ∨ j = 5 by omega) with rfl | rfl | rfl | rfl | rfl | rfl <;> decide
variable {p : Program} {l : Launch} {e : Env} {R : Room} {s : State} {m : MethodId} {args : Array Value} {below : List Frame} {meth : Method} {c : Code} {Q : State → Prop} {D : va_G} {A : Nat → Prop} {fo : evF}
theorem lRun_ok {b LL i d hn nc ns : Nat} {xs : Nat → Int32} {env : evEnv} {hp0 : Lean.RArray Nat} {md : sMd} {hl : List (Nat × List Nat)} {tm : List (Nat × sTm × sLn)} (hX : va_X b LL xs s s.heap) (hbl : b < s.heap.size) (hbA : ¬ A b) (f3 : fo.1 3 = .ref b) (hLL : LL < 2 ^ 31) (hi : i + 5 < LL) (hD : 22 ≤ d) (hhn : tNC ≤ hn)
    (hT : ∀ t ∈ tm, ∀ (rr : List Int) (L : Nat) (hp : Lean.RArray Nat), (∃ u, rr = lRc xs i ++ u) → sNOk tSg rr t.2.1.1 → loF rr t.2.1.2.1 (eSl L) → hOk hp → hsOk fFS rr hp t.2.1.2.2 → eSl L 0 = 30 → eSl L 4 = cI (6 + (i : Int)) → pLw p l e R s m args below meth c Q D A fo d 303 (fun _ _ => false) 23 L [] (hp, hn, env, nc, ns)) :
    ∀ (f pc : Nat) (N : sNm) (lo st : List sVl) (hs : sHs), lRun md hl tm f pc N lo st hs = true → ∀ (r : List Int) (L : Nat) (stc : List Nat) (hp : Lean.RArray Nat), Gs fFS (lRc xs i) none 0 md hp0 r N lo st hs L stc hp → pLw p l e R s m args below meth c Q D A fo d 303 (fun _ _ => false) pc L stc (hp, hn, env, nc, ns) := by
  intro f
  induction f with
  | zero => intro pc N lo st hs h; cases h
  | succ f ih =>
    intro pc N lo st hs h r L stc hp hG
    have h : eF pc (fun pc =>
      cond (Nat.beq pc 23) (cond (sNilV st) (cond (lLo 6 lo) (sTryT N lo hs (sIdn 6 0) 23 none tm) false) false)
        (cond (Nat.beq (lMj pc) 0) (cStep 1298 gCT 22 md [] 6 303 (sCal hl pc) (lRun md hl tm f) pc N lo st hs)
          (cond (lLo 0 lo) (lRun md hl tm f (Nat.add pc 6) N lo ((1, sV (Nat.sub (lMj pc) 1)) :: st) hs) false))) = true := h
    rw [eF_eq] at h
    have hr5 : r[5]? = some (i : Int) := by
      obtain ⟨t, e⟩ := hG.2.2.2.2.2.1
      rw [e]
      rfl
    rcases sCh h with ⟨h1, h⟩ | ⟨-, h⟩
    · have h1 := Nat.eq_of_beq_eq_true h1
      have hA : cond (sNilV st) (cond (lLo 6 lo) (sTryT N lo hs (sIdn 6 0) 23 none tm) false) false = true := h
      obtain ⟨h2, hB⟩ := eC_t hA
      obtain ⟨h3, hC⟩ := eC_t hB
      have e := sNilV_ok h2
      subst e
      have es := aSt_n hG.2.2.1
      subst es
      obtain ⟨l1, l2⟩ := lLo_ok hG.2.1 hr5 h3
      obtain ⟨t, t1, t2, t3⟩ := sTryT_ok hC
      obtain ⟨tt, N', hs', th', u, m1, m2, m3, m4, m5, m6, -⟩ := sMch_ok (W := eSl L) hG.1 hG.2.1 hG.2.2.2.1 hG.2.2.2.2.1 (hId hG) t3
      rw [h1]
      exact hT t t1 _ L hp ⟨u, rfl⟩ m4 m5 hG.2.2.2.1 m6 l1 l2
    · rcases sCh h with ⟨-, h⟩ | ⟨h1, h⟩
      · refine pLw_clo d 303 _ pc L stc (hp, hn, env, nc, ns) ?_
        exact cStep_ok fFS_fs fFS_eq fFS_op hhn (posts := []) (fun post hpo => (by cases hpo)) (ar := lRun md hl tm f) (fun pc N lo st hs hk r L stc hp hG => ih pc N lo st hs hk r L stc hp hG) hG hD (cB1298 pLw_clo) h
      · obtain ⟨h2, h⟩ := eC_t h
        obtain ⟨l1, l2⟩ := lLo_ok hG.2.1 hr5 h2
        rw [Int.zero_add] at l2
        obtain ⟨d0, d1, d3, d4, d5, j1, j5⟩ := lMj_ok (eB_f h1)
        generalize lMj pc = j at *
        have k0 := eOkB_get eDL_ok pc
        have k1 := eOkB_get eDL_ok (pc + 1)
        have k3 := eOkB_get eDL_ok (pc + 3)
        have k4 := eOkB_get eDL_ok (pc + 4)
        have k5 := eOkB_get eDL_ok (pc + 5)
        rw [d0] at k0
        rw [d1] at k1
        rw [d3] at k3
        rw [d4] at k4
        rw [d5] at k5
        have hj : r[j - 1]? = some (xs (i + j)).toInt := by
          obtain ⟨t, e⟩ := hG.2.2.2.2.2.1
          rw [e, List.getElem?_append_left (by show j - 1 < 6; omega)]
          exact lRc_get j1 j5
        have hb := i32_b (xs (i + j))
        have hq := ih (pc + 6) N lo _ hs h r L (cI (xs (i + j)).toInt :: stc) hp (Gs_st hG ⟨vOk_i (sE_V hj) hb.1 hb.2, hG.2.2.1⟩)
        refine ⟨fun _ hF hre => ?_, fun q => absurd rfl q⟩
        exact eMac hF hX hbl hbA f3 hLL l1 l2 (by omega) (lIc j5) k0 k1 k3 k4 k5 (hq.1 rfl hF hre)
end CkLaw2
