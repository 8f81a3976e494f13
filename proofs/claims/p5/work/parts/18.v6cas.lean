section CkLaw8
noncomputable def lRunS (stop : Nat) (K : sNm → List sVl → List sVl → sHs → Bool) (f : Nat) : aR := @Nat.rec (fun _ => aR) (fun _ _ _ _ _ => false) (fun _ ih pc N lo st hs => eF pc (fun pc =>
  cond (Nat.beq pc stop) (K N lo st hs)
    (cond (Nat.beq (lMj pc) 0) (cStep 1298 gCT 22 [] [] 6 303 [] ih pc N lo st hs)
      (cond (lLo 0 lo) (ih (Nat.add pc 6) N lo ((1, sV (Nat.sub (lMj pc) 1)) :: st) hs) false)))) f
variable {p : Program} {l : Launch} {e : Env} {R : Room} {s : State} {m : MethodId} {args : Array Value} {below : List Frame} {meth : Method} {c : Code} {Q : State → Prop} {D : va_G} {A : Nat → Prop} {fo : evF}
theorem lRunS_ok {b LL i d hn nc ns stop : Nat} {xs : Nat → Int32} {env : evEnv} {hp0 : Lean.RArray Nat} {K : sNm → List sVl → List sVl → sHs → Bool} (hX : va_X b LL xs s s.heap) (hbl : b < s.heap.size) (hbA : ¬ A b) (f3 : fo.1 3 = .ref b) (hLL : LL < 2 ^ 31) (hi : i + 5 < LL) (hD : 22 ≤ d) (hhn : tNC ≤ hn)
    (hK : ∀ N lo st hs, K N lo st hs = true → ∀ r L stc hp, Gs fFS (lRc xs i) none 0 [] hp0 r N lo st hs L stc hp → pLw p l e R s m args below meth c Q D A fo d 303 (fun _ _ => false) stop L stc (hp, hn, env, nc, ns)) :
    ∀ (f pc : Nat) (N : sNm) (lo st : List sVl) (hs : sHs), lRunS stop K f pc N lo st hs = true → ∀ (r : List Int) (L : Nat) (stc : List Nat) (hp : Lean.RArray Nat), Gs fFS (lRc xs i) none 0 [] hp0 r N lo st hs L stc hp → pLw p l e R s m args below meth c Q D A fo d 303 (fun _ _ => false) pc L stc (hp, hn, env, nc, ns) := by
  intro f
  induction f with
  | zero => intro pc N lo st hs h; cases h
  | succ f ih =>
    intro pc N lo st hs h r L stc hp hG
    have h : eF pc (fun pc =>
      cond (Nat.beq pc stop) (K N lo st hs)
        (cond (Nat.beq (lMj pc) 0) (cStep 1298 gCT 22 [] [] 6 303 [] (lRunS stop K f) pc N lo st hs)
          (cond (lLo 0 lo) (lRunS stop K f (Nat.add pc 6) N lo ((1, sV (Nat.sub (lMj pc) 1)) :: st) hs) false))) = true := h
    rw [eF_eq] at h
    have hr5 : r[5]? = some (i : Int) := by
      obtain ⟨t, e⟩ := hG.2.2.2.2.2.1
      rw [e]
      rfl
    rcases sCh h with ⟨h1, h⟩ | ⟨-, h⟩
    · rw [Nat.eq_of_beq_eq_true h1]
      exact hK N lo st hs h r L stc hp hG
    · rcases sCh h with ⟨-, h⟩ | ⟨h1, h⟩
      · refine pLw_clo d 303 _ pc L stc (hp, hn, env, nc, ns) ?_
        exact cStep_ok fFS_fs fFS_eq fFS_op hhn (posts := []) (fun post hpo => (by cases hpo)) (ar := lRunS stop K f) (fun pc N lo st hs hk r L stc hp hG => ih pc N lo st hs hk r L stc hp hG) hG hD (cB1298 pLw_clo) h
      · obtain ⟨h2, h⟩ := eC_t h
        obtain ⟨l1, l2⟩ := lLo_ok hG.2.1 hr5 h2
        rw [Int.zero_add] at l2
        obtain ⟨d0, d1, d3, d4, d5, j1, j5⟩ := lMj_ok (eB_f h1)
        generalize lMj pc = j at *
        have k0 := eOkB_get eDL_ok pc
        have k1 := eOkB_get eDL_ok (pc + 1)
        have k3 := eOkB_get eDL_ok (pc + 3)
        have k4 := eOkB_get eDL_ok (pc + 4)
        have k5 := eOkB_get eDL_ok (pc + 5)
        rw [d0] at k0
        rw [d1] at k1
        rw [d3] at k3
        rw [d4] at k4
        rw [d5] at k5
        have hj : r[j - 1]? = some (xs (i + j)).toInt := by
          obtain ⟨t, e⟩ := hG.2.2.2.2.2.1
          rw [e, List.getElem?_append_left (by show j - 1 < 6; omega)]
          exact lRc_get j1 j5
        have hb := i32_b (xs (i + j))
        have hq := ih (pc + 6) N lo _ hs h r L (cI (xs (i + j)).toInt :: stc) hp (Gs_st hG ⟨vOk_i (sE_V hj) hb.1 hb.2, hG.2.2.1⟩)
        refine ⟨fun _ hF hre => ?_, fun q => absurd rfl q⟩
        exact eMac hF hX hbl hbA f3 hLL l1 l2 (by omega) (lIc j5) k0 k1 k3 k4 k5 (hq.1 rfl hF hre)
/-- the law's locals at a case's begin -/
noncomputable def lLv : List sVl := [(8, .ofNat 0, []), (16, .ofNat 0, []), (94, .ofNat 273, []), (113, .ofNat 292, []), (1, .ofNat 0, [(.ofNat 1, 5)]), (9, .ofNat 0, []), (9, .ofNat 0, [])]
theorem lLv_ok {r : List Int} {L : Nat} {i : Int} (h : loOk r lLv L) (hi : r[5]? = some i) : lSl L i := by
  obtain ⟨x1, y1, -, -, z1⟩ := (h 1 _ rfl).2.2.2.2.2.1 (by decide)
  obtain ⟨x2, y2, -, -, z2⟩ := (h 2 _ rfl).2.2.2.2.2.1 (by decide)
  obtain ⟨x3, y3, -, -, z3⟩ := (h 3 _ rfl).2.2.2.2.2.1 (by decide)
  obtain ⟨x4, y4, -, -, z4⟩ := (h 4 _ rfl).2.1 rfl
  have y1 : (0 : Int) + 0 = (x1 : Int) := Option.some.inj y1
  have y2 : (273 : Int) + 0 = (x2 : Int) := Option.some.inj y2
  have y3 : (292 : Int) + 0 = (x3 : Int) := Option.some.inj y3
  have y4 : i = x4 := Option.some.inj ((sE_V hi).symm.trans y4)
  have w1 : x1 = 0 := by omega
  have w2 : x2 = 273 := by omega
  have w3 : x3 = 292 := by omega
  subst w1; subst w2; subst w3; subst y4
  exact ⟨(h 0 _ rfl).2.2.2.2.2.2.1 rfl, z1, z2, z3, z4⟩
/-- a case from a place with an int on the stack -/
theorem lCs {b LL i d hn nc ns L pc : Nat} {k : Int} {xs : Nat → Int32} {env : evEnv} {hp : Lean.RArray Nat} (hk : zMn ≤ k ∧ k ≤ zMx) (hWA : lRun gLm gLh gLt 200 pc gLA.1 gLA.2.1 [(1, k, [])] gLA.2.2 = true) (hWB : lRun gLm gLh gLt 200 pc gLB.1 gLB.2.1 [(1, k, [])] gLB.2.2 = true) (hWC : lRun gLm gLh gLt 200 pc gLC.1 gLC.2.1 [(1, k, [])] gLC.2.2 = true) (hWD : lRun gLm gLh gLt 200 pc gLD.1 gLD.2.1 [(1, k, [])] gLD.2.2 = true) (hX : va_X b LL xs s s.heap) (hbl : b < s.heap.size) (hbA : ¬ A b) (f3 : fo.1 3 = .ref b) (hLL : LL ≤ 3072) (hi : i + 5 < LL) (hD : 22 ≤ d) (hhn : tNC ≤ hn)
    (hC : ∀ (L : Nat) (hp : Lean.RArray Nat), lInv hp → lSl L (6 + (i : Int)) → pLw p l e R s m args below meth c Q D A fo d 303 (fun _ _ => false) 23 L [] (hp, hn, env, nc, ns)) (hI : lInv hp) (hL : lSl L (i : Int)) : pLw p l e R s m args below meth c Q D A fo d 303 (fun _ _ => false) pc L [cI k] (hp, hn, env, nc, ns) := by
  have hT := lEt (p := p) (l := l) (e := e) (R := R) (s := s) (m := m) (args := args) (below := below) (meth := meth) (c := c) (Q := Q) (D := D) (A := A) (fo := fo) (xs := xs) hC
  obtain ⟨l0, l1, l2, l3, l4⟩ := hL
  have hv : ∀ r : List Int, aSt r [(1, k, [])] [cI k] := fun r => ⟨vOk_i (show sE r (k, []) = some k from by show some (k + 0) = some k; rw [Int.add_zero]) hk.1 hk.2, trivial⟩
  rcases hI with hI | hI | hI | hI
  · obtain ⟨r, hG⟩ := toA (md := gLm) (L := L) (i := (i : Int)) (rc := lRc xs i) rfl (lRc_b xs i (by omega)) rfl ⟨by omega, by omega⟩ hI l0 l1 l2 l3 l4
    exact lRun_ok (hp0 := hp) hX hbl hbA f3 (by omega) hi hD hhn hT 200 pc _ _ _ _ hWA r L _ hp (Gs_st hG (hv r))
  · obtain ⟨r, hG⟩ := toB (md := gLm) (L := L) (i := (i : Int)) (rc := lRc xs i) rfl (lRc_b xs i (by omega)) rfl ⟨by omega, by omega⟩ hI l0 l1 l2 l3 l4
    exact lRun_ok (hp0 := hp) hX hbl hbA f3 (by omega) hi hD hhn hT 200 pc _ _ _ _ hWB r L _ hp (Gs_st hG (hv r))
  · obtain ⟨r, hG⟩ := toC (md := gLm) (L := L) (i := (i : Int)) (rc := lRc xs i) rfl (lRc_b xs i (by omega)) rfl ⟨by omega, by omega⟩ hI l0 l1 l2 l3 l4
    exact lRun_ok (hp0 := hp) hX hbl hbA f3 (by omega) hi hD hhn hT 200 pc _ _ _ _ hWC r L _ hp (Gs_st hG (hv r))
  · obtain ⟨r, hG⟩ := toD (md := gLm) (L := L) (i := (i : Int)) (rc := lRc xs i) rfl (lRc_b xs i (by omega)) rfl ⟨by omega, by omega⟩ hI l0 l1 l2 l3 l4
    exact lRun_ok (hp0 := hp) hX hbl hbA f3 (by omega) hi hD hhn hT 200 pc _ _ _ _ hWD r L _ hp (Gs_st hG (hv r))
end CkLaw8
