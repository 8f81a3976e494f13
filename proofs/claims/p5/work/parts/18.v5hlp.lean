section CkLaw7
variable {l : Launch}
theorem lInv_O {hp : Lean.RArray Nat} (h : lInv hp) : hOk hp := by
  rcases h with h | h | h | h
  · exact h.1
  · exact h.1
  · exact h.1
  · exact h.1
theorem lInv_P {hp : Lean.RArray Nat} (h : lInv hp) : (hv hp 0 6 = cR 2 ∧ hv hp 0 7 = cR 15) ∨ (hv hp 0 6 = cR 15 ∧ hv hp 0 7 = cR 2) := by
  rcases h with h | h | h | h
  · exact Or.inl h.2.1.2.2
  · exact Or.inl h.2.1.2.2
  · exact Or.inr h.2.1.2.2
  · exact Or.inr h.2.1.2.2
theorem cI_n7 (x : Int) : Nat.beq (cI x) 7 = false := by
  cases h : Nat.beq (cI x) 7
  · rfl
  · have e := Nat.eq_of_beq_eq_true h
    have t := cI_tg x
    rw [e] at t
    exact absurd t (by decide)
set_option maxRecDepth 100000 in
theorem hAT : hRun eQT 5 [] [] 2 (fun _ _ st _ => decide (st = [(1, sV 1), (1, sV 0), (16, .ofNat 0, []), (1, .ofNat 0, []), (113, .ofNat 292, [])])) 20 0 (2, [], [], []) (sPk 1 [(16, .ofNat 0, []), (1, sV 0), (1, sV 1), (113, .ofNat 292, [])]) [] ([], []) = true := by decide +kernel
set_option maxRecDepth 100000 in
theorem hBT : hRun eQT 1000 [(97, 0, 0)] [((3, [], [], []), [(1, .ofNat 0, [])], ([], []))] 3 (fun _ _ _ _ => false) 20 8 (3, [], [], []) [] [(1, sV 2), (1, .ofNat 0, []), (113, .ofNat 292, [])] ([], []) = true := by decide +kernel
set_option maxRecDepth 100000 in
theorem hCT : hRun eQT 1000 [] [((0, [], [], []), [(1, .ofNat 1, [])], ([], []))] 0 (fun _ _ _ _ => false) 20 15 (0, [], [], []) [] [] ([], []) = true := by decide +kernel
set_option maxRecDepth 100000 in
theorem hgT {d hn : Nat} {env : evEnv} {hp : Lean.RArray Nat} {kh : evK} {a0 a1 : Int} (b0 : zMn ≤ a0 ∧ a0 ≤ zMx) (b1 : zMn ≤ a1 ∧ a1 ≤ zMx) (hD : 5 ≤ d) (hhn : tNC ≤ hn) (hy : lInv hp) (hk0 : ∀ hp2, lInv hp2 → kh (cI 0) (hp2, hn, env, 0, 0) = true) (hk1 : ∀ hp2, lInv hp2 → kh (cI 1) (hp2, hn, env, 0, 0) = true)
    (p : Program) (e : Env) (R : Room) (s : State) (m : MethodId) (args : Array Value) (below : List Frame) (meth : Method) (c : Code) (Q : State → Prop) (D : va_G) (A : Nat → Prop) (fo : evF) (hF : eFix p R s m args meth c A fo eQT 0) (hre : eRe p l e R s m args below meth c Q D A fo eQT kh) (hcall : ∀ r : evR, (∀ pc L st g, r pc L st g = true → eGo p l e R s m args below meth c Q D A fo eQT pc L st g) → ∀ (L : Nat) (st : List Nat) (g : evG), eKT l r d 180 3 eQt.2.2.1 5 L st g = true → eGo p l e R s m args below meth c Q D A fo eQT 5 L st g) : eGo p l e R s m args below meth c Q D A fo eQT 0 (ePack [cR 0, cI a0, cI a1, cR 292] 0 0) [] (hp, hn, env, 1, 6) := by
  have hO := lInv_O hy
  have rng : ∀ x ∈ ([a0, a1] : List Int), wMn ≤ x ∧ x ≤ wMx := all_cons (wz b0.1 b0.2) (all_cons (wz b1.1 b1.2) (all_nil))
  have hps : loF [a0, a1] [(16, .ofNat 0, []), (1, sV 0), (1, sV 1), (113, .ofNat 292, [])] (fun i => ([cR 0, cI a0, cI a1, cR 292] : List Nat).getD i 0) := by
    intro j v hj
    match j, hj with
    | 0, hj => cases hj; exact vOk_r (ro := 0) (c := 0) rfl (by decide) rfl
    | 1, hj => cases hj; exact vOk_i (sE_V rfl) b0.1 b0.2
    | 2, hj => cases hj; exact vOk_i (sE_V rfl) b1.1 b1.2
    | 3, hj => cases hj; exact vOk_r (ro := 97) (c := 292) rfl (by decide) rfl
    | i + 4, hj => exact absurd hj (by simp)
  obtain ⟨-, hlo⟩ := sPk_ok (rc := [a0, a1]) (n := 1) [(16, .ofNat 0, []), (1, sV 0), (1, sV 1), (113, .ofNat 292, [])] [cR 0, cI a0, cI a1, cR 292] 0 0 rfl hps rfl (fun i _ => by rw [show eSl 0 i = 0 from by show (0 >>> (72 * i)) % 4722366482869645213696 = 0; rw [Nat.zero_shiftRight]]; decide)
  refine hRun_ok (rc := [a0, a1]) (md := []) (hp0 := hp) (posts := []) (K := fun _ _ st _ => decide (st = [(1, sV 1), (1, sV 0), (16, .ofNat 0, []), (1, .ofNat 0, []), (113, .ofNat 292, [])])) eD179_ok hF hre hhn (fun post hq => (by cases hq)) (fun N lo st hs hk r L stc hp1 hG => ?_) 20 0 _ _ _ _ hAT [a0, a1] _ [] hp ⟨⟨rfl, ⟨rng, all_nil⟩, all_nil, all_nil⟩, fun j v hj => (by have z := hlo j v hj; rw [Nat.zero_add] at z; exact z), trivial, hO, ⟨all_nil, all_nil⟩, ⟨[], rfl⟩, fun e he => (by cases he), hFr_refl _ hp⟩
  have hst := of_decide_eq_true hk
  subst hst
  have hO1 := hG.2.2.2.1
  have hy1 : lInv hp1 := lInv_md (fun q hq => (by cases hq)) hG.2.2.2.2.2.2.2 hO1 hy
  obtain ⟨t, ht⟩ := hG.2.2.2.2.2.1
  obtain ⟨w1, ws1, rfl, v1, g1⟩ := aSt_c hG.2.2.1
  obtain ⟨w0, ws0, rfl, v0, g0⟩ := aSt_c g1
  obtain ⟨wx, wsx, rfl, vx, gx⟩ := aSt_c g0
  obtain ⟨wz, wsz, rfl, vz, gz⟩ := aSt_c gx
  obtain ⟨wo, wso, rfl, vo, go⟩ := aSt_c gz
  have en := aSt_n go
  subst en
  obtain ⟨y0, e0, -, -, rfl⟩ := v0.2.1 rfl
  have q0 : y0 = a0 := Option.some.inj (e0.symm.trans (sE_V (show r[0]? = some a0 by rw [ht]; rfl)))
  subst q0
  obtain ⟨y1, e1, -, -, rfl⟩ := v1.2.1 rfl
  have q1 : y1 = a1 := Option.some.inj (e1.symm.trans (sE_V (show r[1]? = some a1 by rw [ht]; rfl)))
  subst q1
  obtain ⟨cx, ex, -, -, rfl⟩ := vx.2.2.2.2.2.1 (by decide)
  have qx : (0 : Int) + 0 = (cx : Int) := Option.some.inj ex
  have qx : cx = 0 := by omega
  subst qx
  obtain ⟨yz, ez, -, -, rfl⟩ := vz.2.1 rfl
  have qz : (0 : Int) + 0 = yz := Option.some.inj ez
  have qz : yz = 0 := by omega
  subst qz
  obtain ⟨co, eo, -, -, rfl⟩ := vo.2.2.2.2.2.1 (by decide)
  have qo : (292 : Int) + 0 = (co : Int) := Option.some.inj eo
  have qo : co = 292 := by omega
  subst qo
  refine hcall (fun pc L st g => pB (eGo p l e R s m args below meth c Q D A fo eQT pc L st g)) (fun pc L st g hk => pB_p hk) L _ (hp1, hn, env, 1, 6) ?_
  have s1 : eSum [cI 0, cR 292] ≤ 8 := sSm_ok (r := r) (st := [(1, .ofNat 0, []), (113, .ofNat 292, [])]) ⟨vz, vo, trivial⟩ rfl
  have s2 : eSum [cR 0, cI y0, cI y1] ≤ eQt.2.2.1 := sSm_ok (r := r) (st := [(16, .ofNat 0, []), (1, sV 0), (1, sV 1)]) ⟨vx, v0, v1, trivial⟩ rfl
  have s3 : eRcv (hp1, hn, env, 1, 6) 11 [cR 0, cI y0, cI y1] = true := by
    obtain ⟨k1, k2, k3⟩ := gKi hhn hG (show 0 < tNC by decide)
    show eAt (hp1, hn, env, 1, 6) (cR 0) 11 (fun _ _ => true) = true
    rw [eAt_cR (g := (hp1, hn, env, 1, 6)) k1 (by show eKi (Lean.RArray.get hp1 0) = 11; rw [k2]; rfl)]
  show cond (cond (Nat.ble (eSum [cI 0, cR 292]) 8) (Nat.ble (eSum [cR 0, cI y0, cI y1]) eQt.2.2.1) false) (cond (eRcv (hp1, hn, env, 1, 6) 11 [cR 0, cI y0, cI y1]) (cond (cond (Nat.beq 1 1) (Nat.beq 6 6) false) (pB (pGo l d 180 (eKx (fun pc L st g => pB (eGo p l e R s m args below meth c Q D A fo eQT pc L st g)) 5 L [cI 0, cR 292]) 0 (ePack [cR 0, cI y0, cI y1] 0 0) [] (hp1, hn, env, 1, 6))) false) false) false = true
  rw [Nat.ble_eq_true_of_le s1, Nat.ble_eq_true_of_le s2, s3]
  show pB (pGo l d 180 (eKx (fun pc L st g => pB (eGo p l e R s m args below meth c Q D A fo eQT pc L st g)) 5 L [cI 0, cR 292]) 0 (ePack [cR 0, cI y0, cI y1] 0 0) [] (hp1, hn, env, 1, 6)) = true
  refine pB_t ?_
  have hZZ := lInv_P hy1
  rcases hZZ with ⟨z6, z7⟩ | ⟨z6, z7⟩
  · have hc : cnOk (pGo l) fFS gC95 := cB1298 (pGo_clo l) 95 (by decide)
    refine hc d _ hn env 1 6 hp1 [y0, y1] [cR 0, cI y0, cI y1] (show 3 ≤ d by omega) hhn ⟨rfl, ⟨rng, all_cons (ivO (y := y0) rfl b0.1 b0.2) (all_cons (ivO (y := y1) rfl b1.1 b1.2) (all_nil))⟩, all_nil, all_nil⟩ rfl (fun j v hj => ?_) hO1 ⟨all_cons (lrC (c := 0) (j := 6) (k := 2) (rk := 2) rfl rfl (by decide) rfl (by decide) z6 (by decide) rfl rfl rfl) (all_cons (lrC (c := 0) (j := 7) (k := 15) (rk := 98) rfl rfl (by decide) rfl (by decide) z7 (by decide) rfl rfl rfl) all_nil), all_nil⟩ (fun post hpo u w hp2 hN hlo2 _ hO2 _ hf => ?_)
    · have hj : ([(16, .ofNat 0, []), (1, sV 0), (1, sV 1)] : List sVl)[j]? = some v := hj
      match j, hj with
      | 0, hj => cases hj; exact vOk_r (ro := 0) (c := 0) rfl (by decide) rfl
      | 1, hj => cases hj; exact vOk_i (sE_V rfl) b0.1 b0.2
      | 2, hj => cases hj; exact vOk_i (sE_V rfl) b1.1 b1.2
      | i + 3, hj => exact absurd hj (by simp)
    have hy2 : lInv hp2 := lInv_md (show ∀ q ∈ gC95.2.2.2.1, ¬ lRo q.1 by unfold lRo; decide) hf hO2 hy1
    rcases List.mem_cons.mp (show post ∈ _ :: _ from hpo) with rfl | hpo
    · obtain ⟨x, q1, q2, q3, rfl⟩ := (hlo2 0 _ rfl).2.1 rfl
      show cond (Nat.beq (cI x) 7) _ (cond (Nat.beq (eTg (cI x)) 7) false (pB (eGo p l e R s m args below meth c Q D A fo eQT 8 L (cI x :: [cI 0, cR 292]) (hp2, hn, env, 0, 0)))) = true
      rw [cI_n7, cI_tg]
      show pB (eGo p l e R s m args below meth c Q D A fo eQT 8 L (cI x :: [cI 0, cR 292]) (hp2, hn, env, 0, 0)) = true
      refine pB_t (hRun_ok (rc := [y0, y1, x]) (md := [(97, 0, 0)]) (hp0 := hp2) (K := fun _ _ _ _ => false) eD179_ok hF hre hhn (fun post hpo2 u w hp3 _ hl3 _ hO3 _ hf3 => ?_) (fun N lo st hs hk => (by cases hk)) 20 8 _ _ _ _ hBT [y0, y1, x] L _ hp2 ⟨⟨rfl, ⟨?_, all_nil⟩, all_nil, all_nil⟩, fun j v hj => (by simp at hj), ⟨vOk_i (sE_V rfl) q2 q3, vOk_i (e := (.ofNat 0, [])) (x := 0) rfl (by decide) (by decide), vOk_r (ro := 97) (c := 292) rfl (by decide) rfl, trivial⟩, hO2, ⟨all_nil, all_nil⟩, ⟨[], rfl⟩, fun e he => (by cases he), hFr_refl _ hp2⟩)
      · rcases List.mem_cons.mp hpo2 with rfl | hpo2
        · obtain ⟨y, y1, -, -, rfl⟩ := (hl3 0 _ rfl).2.1 rfl
          have y1 : (0 : Int) + 0 = y := Option.some.inj y1
          have y2 : y = 0 := by omega
          subst y2
          exact hk0 hp3 (lInv_md (show ∀ q ∈ [((97, 0, 0) : Nat × Nat × Nat)], ¬ lRo q.1 by unfold lRo; decide) hf3 hO3 hy2)
        · cases hpo2
      · exact all_cons (wz b0.1 b0.2) (all_cons (wz b1.1 b1.2) (all_cons (wz q2 q3) all_nil))
    · rcases List.mem_cons.mp hpo with rfl | hpo
      · have e7 : w = 7 := (hlo2 0 _ rfl).2.2.2.2.1 rfl
        subst e7
        show pB (eGo p l e R s m args below meth c Q D A fo eQT 15 0 [] (hp2, hn, env, 0, 0)) = true
        refine pB_t (hRun_ok (rc := []) (md := []) (hp0 := hp2) (K := fun _ _ _ _ => false) eD179_ok hF hre hhn (fun post hpo2 u w hp3 _ hl3 _ hO3 _ hf3 => ?_) (fun N lo st hs hk => (by cases hk)) 20 15 _ _ _ _ hCT [] 0 [] hp2 ⟨⟨rfl, ⟨all_nil, all_nil⟩, all_nil, all_nil⟩, fun j v hj => (by simp at hj), trivial, hO2, ⟨all_nil, all_nil⟩, ⟨[], rfl⟩, fun e he => (by cases he), hFr_refl _ hp2⟩)
        rcases List.mem_cons.mp hpo2 with rfl | hpo2
        · obtain ⟨y, y1, -, -, rfl⟩ := (hl3 0 _ rfl).2.1 rfl
          have y1 : (1 : Int) + 0 = y := Option.some.inj y1
          have y2 : y = 1 := by omega
          subst y2
          exact hk1 hp3 (lInv_md (fun q hq => (by cases hq)) hf3 hO3 hy2)
        · cases hpo2
      · cases hpo
  · have hc : cnOk (pGo l) fFS gC468 := cB1298 (pGo_clo l) 468 (by decide)
    refine hc d _ hn env 1 6 hp1 [y0, y1] [cR 0, cI y0, cI y1] (show 3 ≤ d by omega) hhn ⟨rfl, ⟨rng, all_cons (ivO (y := y0) rfl b0.1 b0.2) (all_cons (ivO (y := y1) rfl b1.1 b1.2) (all_nil))⟩, all_nil, all_nil⟩ rfl (fun j v hj => ?_) hO1 ⟨all_cons (lrC (c := 0) (j := 6) (k := 15) (rk := 98) rfl rfl (by decide) rfl (by decide) z6 (by decide) rfl rfl rfl) (all_cons (lrC (c := 0) (j := 7) (k := 2) (rk := 2) rfl rfl (by decide) rfl (by decide) z7 (by decide) rfl rfl rfl) all_nil), all_nil⟩ (fun post hpo u w hp2 hN hlo2 _ hO2 _ hf => ?_)
    · have hj : ([(16, .ofNat 0, []), (1, sV 0), (1, sV 1)] : List sVl)[j]? = some v := hj
      match j, hj with
      | 0, hj => cases hj; exact vOk_r (ro := 0) (c := 0) rfl (by decide) rfl
      | 1, hj => cases hj; exact vOk_i (sE_V rfl) b0.1 b0.2
      | 2, hj => cases hj; exact vOk_i (sE_V rfl) b1.1 b1.2
      | i + 3, hj => exact absurd hj (by simp)
    have hy2 : lInv hp2 := lInv_md (show ∀ q ∈ gC468.2.2.2.1, ¬ lRo q.1 by unfold lRo; decide) hf hO2 hy1
    rcases List.mem_cons.mp (show post ∈ _ :: _ from hpo) with rfl | hpo
    · obtain ⟨x, q1, q2, q3, rfl⟩ := (hlo2 0 _ rfl).2.1 rfl
      show cond (Nat.beq (cI x) 7) _ (cond (Nat.beq (eTg (cI x)) 7) false (pB (eGo p l e R s m args below meth c Q D A fo eQT 8 L (cI x :: [cI 0, cR 292]) (hp2, hn, env, 0, 0)))) = true
      rw [cI_n7, cI_tg]
      show pB (eGo p l e R s m args below meth c Q D A fo eQT 8 L (cI x :: [cI 0, cR 292]) (hp2, hn, env, 0, 0)) = true
      refine pB_t (hRun_ok (rc := [y0, y1, x]) (md := [(97, 0, 0)]) (hp0 := hp2) (K := fun _ _ _ _ => false) eD179_ok hF hre hhn (fun post hpo2 u w hp3 _ hl3 _ hO3 _ hf3 => ?_) (fun N lo st hs hk => (by cases hk)) 20 8 _ _ _ _ hBT [y0, y1, x] L _ hp2 ⟨⟨rfl, ⟨?_, all_nil⟩, all_nil, all_nil⟩, fun j v hj => (by simp at hj), ⟨vOk_i (sE_V rfl) q2 q3, vOk_i (e := (.ofNat 0, [])) (x := 0) rfl (by decide) (by decide), vOk_r (ro := 97) (c := 292) rfl (by decide) rfl, trivial⟩, hO2, ⟨all_nil, all_nil⟩, ⟨[], rfl⟩, fun e he => (by cases he), hFr_refl _ hp2⟩)
      · rcases List.mem_cons.mp hpo2 with rfl | hpo2
        · obtain ⟨y, y1, -, -, rfl⟩ := (hl3 0 _ rfl).2.1 rfl
          have y1 : (0 : Int) + 0 = y := Option.some.inj y1
          have y2 : y = 0 := by omega
          subst y2
          exact hk0 hp3 (lInv_md (show ∀ q ∈ [((97, 0, 0) : Nat × Nat × Nat)], ¬ lRo q.1 by unfold lRo; decide) hf3 hO3 hy2)
        · cases hpo2
      · exact all_cons (wz b0.1 b0.2) (all_cons (wz b1.1 b1.2) (all_cons (wz q2 q3) all_nil))
    · rcases List.mem_cons.mp hpo with rfl | hpo
      · have e7 : w = 7 := (hlo2 0 _ rfl).2.2.2.2.1 rfl
        subst e7
        show pB (eGo p l e R s m args below meth c Q D A fo eQT 15 0 [] (hp2, hn, env, 0, 0)) = true
        refine pB_t (hRun_ok (rc := []) (md := []) (hp0 := hp2) (K := fun _ _ _ _ => false) eD179_ok hF hre hhn (fun post hpo2 u w hp3 _ hl3 _ hO3 _ hf3 => ?_) (fun N lo st hs hk => (by cases hk)) 20 15 _ _ _ _ hCT [] 0 [] hp2 ⟨⟨rfl, ⟨all_nil, all_nil⟩, all_nil, all_nil⟩, fun j v hj => (by simp at hj), trivial, hO2, ⟨all_nil, all_nil⟩, ⟨[], rfl⟩, fun e he => (by cases he), hFr_refl _ hp2⟩)
        rcases List.mem_cons.mp hpo2 with rfl | hpo2
        · obtain ⟨y, y1, -, -, rfl⟩ := (hl3 0 _ rfl).2.1 rfl
          have y1 : (1 : Int) + 0 = y := Option.some.inj y1
          have y2 : y = 1 := by omega
          subst y2
          exact hk1 hp3 (lInv_md (fun q hq => (by cases hq)) hf3 hO3 hy2)
        · cases hpo2
      · cases hpo
set_option maxRecDepth 100000 in
theorem hAC : hRun eQC 7 [] [] 3 (fun _ _ st _ => decide (st = [(1, sV 2), (1, sV 1), (1, sV 0), (16, .ofNat 0, []), (1, .ofNat 0, []), (113, .ofNat 292, [])])) 20 0 (3, [], [], []) (sPk 1 [(16, .ofNat 0, []), (1, sV 0), (1, sV 1), (1, sV 2), (113, .ofNat 292, [])]) [] ([], []) = true := by decide +kernel
set_option maxRecDepth 100000 in
theorem hBC : hRun eQC 1000 [(97, 0, 0)] [((4, [], [], []), [(1, .ofNat 0, [])], ([], []))] 4 (fun _ _ _ _ => false) 20 10 (4, [], [], []) [] [(1, sV 3), (1, .ofNat 0, []), (113, .ofNat 292, [])] ([], []) = true := by decide +kernel
set_option maxRecDepth 100000 in
theorem hCC : hRun eQC 1000 [] [((0, [], [], []), [(1, .ofNat 1, [])], ([], []))] 0 (fun _ _ _ _ => false) 20 17 (0, [], [], []) [] [] ([], []) = true := by decide +kernel
set_option maxRecDepth 100000 in
theorem hgC {d hn : Nat} {env : evEnv} {hp : Lean.RArray Nat} {kh : evK} {a0 a1 a2 : Int} (b0 : zMn ≤ a0 ∧ a0 ≤ zMx) (b1 : zMn ≤ a1 ∧ a1 ≤ zMx) (b2 : zMn ≤ a2 ∧ a2 ≤ zMx) (hD : 5 ≤ d) (hhn : tNC ≤ hn) (hy : lInv hp) (hk0 : ∀ hp2, lInv hp2 → kh (cI 0) (hp2, hn, env, 0, 0) = true) (hk1 : ∀ hp2, lInv hp2 → kh (cI 1) (hp2, hn, env, 0, 0) = true)
    (p : Program) (e : Env) (R : Room) (s : State) (m : MethodId) (args : Array Value) (below : List Frame) (meth : Method) (c : Code) (Q : State → Prop) (D : va_G) (A : Nat → Prop) (fo : evF) (hF : eFix p R s m args meth c A fo eQC 0) (hre : eRe p l e R s m args below meth c Q D A fo eQC kh) (hcall : ∀ r : evR, (∀ pc L st g, r pc L st g = true → eGo p l e R s m args below meth c Q D A fo eQC pc L st g) → ∀ (L : Nat) (st : List Nat) (g : evG), eKT l r d 183 4 eQc'.2.2.1 7 L st g = true → eGo p l e R s m args below meth c Q D A fo eQC 7 L st g) : eGo p l e R s m args below meth c Q D A fo eQC 0 (ePack [cR 0, cI a0, cI a1, cI a2, cR 292] 0 0) [] (hp, hn, env, 1, 6) := by
  have hO := lInv_O hy
  have rng : ∀ x ∈ ([a0, a1, a2] : List Int), wMn ≤ x ∧ x ≤ wMx := all_cons (wz b0.1 b0.2) (all_cons (wz b1.1 b1.2) (all_cons (wz b2.1 b2.2) (all_nil)))
  have hps : loF [a0, a1, a2] [(16, .ofNat 0, []), (1, sV 0), (1, sV 1), (1, sV 2), (113, .ofNat 292, [])] (fun i => ([cR 0, cI a0, cI a1, cI a2, cR 292] : List Nat).getD i 0) := by
    intro j v hj
    match j, hj with
    | 0, hj => cases hj; exact vOk_r (ro := 0) (c := 0) rfl (by decide) rfl
    | 1, hj => cases hj; exact vOk_i (sE_V rfl) b0.1 b0.2
    | 2, hj => cases hj; exact vOk_i (sE_V rfl) b1.1 b1.2
    | 3, hj => cases hj; exact vOk_i (sE_V rfl) b2.1 b2.2
    | 4, hj => cases hj; exact vOk_r (ro := 97) (c := 292) rfl (by decide) rfl
    | i + 5, hj => exact absurd hj (by simp)
  obtain ⟨-, hlo⟩ := sPk_ok (rc := [a0, a1, a2]) (n := 1) [(16, .ofNat 0, []), (1, sV 0), (1, sV 1), (1, sV 2), (113, .ofNat 292, [])] [cR 0, cI a0, cI a1, cI a2, cR 292] 0 0 rfl hps rfl (fun i _ => by rw [show eSl 0 i = 0 from by show (0 >>> (72 * i)) % 4722366482869645213696 = 0; rw [Nat.zero_shiftRight]]; decide)
  refine hRun_ok (rc := [a0, a1, a2]) (md := []) (hp0 := hp) (posts := []) (K := fun _ _ st _ => decide (st = [(1, sV 2), (1, sV 1), (1, sV 0), (16, .ofNat 0, []), (1, .ofNat 0, []), (113, .ofNat 292, [])])) eD182_ok hF hre hhn (fun post hq => (by cases hq)) (fun N lo st hs hk r L stc hp1 hG => ?_) 20 0 _ _ _ _ hAC [a0, a1, a2] _ [] hp ⟨⟨rfl, ⟨rng, all_nil⟩, all_nil, all_nil⟩, fun j v hj => (by have z := hlo j v hj; rw [Nat.zero_add] at z; exact z), trivial, hO, ⟨all_nil, all_nil⟩, ⟨[], rfl⟩, fun e he => (by cases he), hFr_refl _ hp⟩
  have hst := of_decide_eq_true hk
  subst hst
  have hO1 := hG.2.2.2.1
  have hy1 : lInv hp1 := lInv_md (fun q hq => (by cases hq)) hG.2.2.2.2.2.2.2 hO1 hy
  obtain ⟨t, ht⟩ := hG.2.2.2.2.2.1
  obtain ⟨w2, ws2, rfl, v2, g2⟩ := aSt_c hG.2.2.1
  obtain ⟨w1, ws1, rfl, v1, g1⟩ := aSt_c g2
  obtain ⟨w0, ws0, rfl, v0, g0⟩ := aSt_c g1
  obtain ⟨wx, wsx, rfl, vx, gx⟩ := aSt_c g0
  obtain ⟨wz, wsz, rfl, vz, gz⟩ := aSt_c gx
  obtain ⟨wo, wso, rfl, vo, go⟩ := aSt_c gz
  have en := aSt_n go
  subst en
  obtain ⟨y0, e0, -, -, rfl⟩ := v0.2.1 rfl
  have q0 : y0 = a0 := Option.some.inj (e0.symm.trans (sE_V (show r[0]? = some a0 by rw [ht]; rfl)))
  subst q0
  obtain ⟨y1, e1, -, -, rfl⟩ := v1.2.1 rfl
  have q1 : y1 = a1 := Option.some.inj (e1.symm.trans (sE_V (show r[1]? = some a1 by rw [ht]; rfl)))
  subst q1
  obtain ⟨y2, e2, -, -, rfl⟩ := v2.2.1 rfl
  have q2 : y2 = a2 := Option.some.inj (e2.symm.trans (sE_V (show r[2]? = some a2 by rw [ht]; rfl)))
  subst q2
  obtain ⟨cx, ex, -, -, rfl⟩ := vx.2.2.2.2.2.1 (by decide)
  have qx : (0 : Int) + 0 = (cx : Int) := Option.some.inj ex
  have qx : cx = 0 := by omega
  subst qx
  obtain ⟨yz, ez, -, -, rfl⟩ := vz.2.1 rfl
  have qz : (0 : Int) + 0 = yz := Option.some.inj ez
  have qz : yz = 0 := by omega
  subst qz
  obtain ⟨co, eo, -, -, rfl⟩ := vo.2.2.2.2.2.1 (by decide)
  have qo : (292 : Int) + 0 = (co : Int) := Option.some.inj eo
  have qo : co = 292 := by omega
  subst qo
  refine hcall (fun pc L st g => pB (eGo p l e R s m args below meth c Q D A fo eQC pc L st g)) (fun pc L st g hk => pB_p hk) L _ (hp1, hn, env, 1, 6) ?_
  have s1 : eSum [cI 0, cR 292] ≤ 8 := sSm_ok (r := r) (st := [(1, .ofNat 0, []), (113, .ofNat 292, [])]) ⟨vz, vo, trivial⟩ rfl
  have s2 : eSum [cR 0, cI y0, cI y1, cI y2] ≤ eQc'.2.2.1 := sSm_ok (r := r) (st := [(16, .ofNat 0, []), (1, sV 0), (1, sV 1), (1, sV 2)]) ⟨vx, v0, v1, v2, trivial⟩ rfl
  have s3 : eRcv (hp1, hn, env, 1, 6) 11 [cR 0, cI y0, cI y1, cI y2] = true := by
    obtain ⟨k1, k2, k3⟩ := gKi hhn hG (show 0 < tNC by decide)
    show eAt (hp1, hn, env, 1, 6) (cR 0) 11 (fun _ _ => true) = true
    rw [eAt_cR (g := (hp1, hn, env, 1, 6)) k1 (by show eKi (Lean.RArray.get hp1 0) = 11; rw [k2]; rfl)]
  show cond (cond (Nat.ble (eSum [cI 0, cR 292]) 8) (Nat.ble (eSum [cR 0, cI y0, cI y1, cI y2]) eQc'.2.2.1) false) (cond (eRcv (hp1, hn, env, 1, 6) 11 [cR 0, cI y0, cI y1, cI y2]) (cond (cond (Nat.beq 1 1) (Nat.beq 6 6) false) (pB (pGo l d 183 (eKx (fun pc L st g => pB (eGo p l e R s m args below meth c Q D A fo eQC pc L st g)) 7 L [cI 0, cR 292]) 0 (ePack [cR 0, cI y0, cI y1, cI y2] 0 0) [] (hp1, hn, env, 1, 6))) false) false) false = true
  rw [Nat.ble_eq_true_of_le s1, Nat.ble_eq_true_of_le s2, s3]
  show pB (pGo l d 183 (eKx (fun pc L st g => pB (eGo p l e R s m args below meth c Q D A fo eQC pc L st g)) 7 L [cI 0, cR 292]) 0 (ePack [cR 0, cI y0, cI y1, cI y2] 0 0) [] (hp1, hn, env, 1, 6)) = true
  refine pB_t ?_
  have hZZ := lInv_P hy1
  rcases hZZ with ⟨z6, z7⟩ | ⟨z6, z7⟩
  · have hc : cnOk (pGo l) fFS gC101 := cB1298 (pGo_clo l) 101 (by decide)
    refine hc d _ hn env 1 6 hp1 [y0, y1, y2] [cR 0, cI y0, cI y1, cI y2] (show 2 ≤ d by omega) hhn ⟨rfl, ⟨rng, all_cons (ivO (y := y0) rfl b0.1 b0.2) (all_cons (ivO (y := y1) rfl b1.1 b1.2) (all_cons (ivO (y := y2) rfl b2.1 b2.2) (all_nil)))⟩, all_nil, all_nil⟩ rfl (fun j v hj => ?_) hO1 ⟨all_cons (lrC (c := 0) (j := 6) (k := 2) (rk := 2) rfl rfl (by decide) rfl (by decide) z6 (by decide) rfl rfl rfl) (all_cons (lrC (c := 0) (j := 7) (k := 15) (rk := 98) rfl rfl (by decide) rfl (by decide) z7 (by decide) rfl rfl rfl) all_nil), all_nil⟩ (fun post hpo u w hp2 hN hlo2 _ hO2 _ hf => ?_)
    · have hj : ([(16, .ofNat 0, []), (1, sV 0), (1, sV 1), (1, sV 2)] : List sVl)[j]? = some v := hj
      match j, hj with
      | 0, hj => cases hj; exact vOk_r (ro := 0) (c := 0) rfl (by decide) rfl
      | 1, hj => cases hj; exact vOk_i (sE_V rfl) b0.1 b0.2
      | 2, hj => cases hj; exact vOk_i (sE_V rfl) b1.1 b1.2
      | 3, hj => cases hj; exact vOk_i (sE_V rfl) b2.1 b2.2
      | i + 4, hj => exact absurd hj (by simp)
    have hy2 : lInv hp2 := lInv_md (show ∀ q ∈ gC101.2.2.2.1, ¬ lRo q.1 by unfold lRo; decide) hf hO2 hy1
    rcases List.mem_cons.mp (show post ∈ _ :: _ from hpo) with rfl | hpo
    · obtain ⟨x, q1, q2, q3, rfl⟩ := (hlo2 0 _ rfl).2.1 rfl
      show cond (Nat.beq (cI x) 7) _ (cond (Nat.beq (eTg (cI x)) 7) false (pB (eGo p l e R s m args below meth c Q D A fo eQC 10 L (cI x :: [cI 0, cR 292]) (hp2, hn, env, 0, 0)))) = true
      rw [cI_n7, cI_tg]
      show pB (eGo p l e R s m args below meth c Q D A fo eQC 10 L (cI x :: [cI 0, cR 292]) (hp2, hn, env, 0, 0)) = true
      refine pB_t (hRun_ok (rc := [y0, y1, y2, x]) (md := [(97, 0, 0)]) (hp0 := hp2) (K := fun _ _ _ _ => false) eD182_ok hF hre hhn (fun post hpo2 u w hp3 _ hl3 _ hO3 _ hf3 => ?_) (fun N lo st hs hk => (by cases hk)) 20 10 _ _ _ _ hBC [y0, y1, y2, x] L _ hp2 ⟨⟨rfl, ⟨?_, all_nil⟩, all_nil, all_nil⟩, fun j v hj => (by simp at hj), ⟨vOk_i (sE_V rfl) q2 q3, vOk_i (e := (.ofNat 0, [])) (x := 0) rfl (by decide) (by decide), vOk_r (ro := 97) (c := 292) rfl (by decide) rfl, trivial⟩, hO2, ⟨all_nil, all_nil⟩, ⟨[], rfl⟩, fun e he => (by cases he), hFr_refl _ hp2⟩)
      · rcases List.mem_cons.mp hpo2 with rfl | hpo2
        · obtain ⟨y, y1, -, -, rfl⟩ := (hl3 0 _ rfl).2.1 rfl
          have y1 : (0 : Int) + 0 = y := Option.some.inj y1
          have y2 : y = 0 := by omega
          subst y2
          exact hk0 hp3 (lInv_md (show ∀ q ∈ [((97, 0, 0) : Nat × Nat × Nat)], ¬ lRo q.1 by unfold lRo; decide) hf3 hO3 hy2)
        · cases hpo2
      · exact all_cons (wz b0.1 b0.2) (all_cons (wz b1.1 b1.2) (all_cons (wz b2.1 b2.2) (all_cons (wz q2 q3) all_nil)))
    · rcases List.mem_cons.mp hpo with rfl | hpo
      · have e7 : w = 7 := (hlo2 0 _ rfl).2.2.2.2.1 rfl
        subst e7
        show pB (eGo p l e R s m args below meth c Q D A fo eQC 17 0 [] (hp2, hn, env, 0, 0)) = true
        refine pB_t (hRun_ok (rc := []) (md := []) (hp0 := hp2) (K := fun _ _ _ _ => false) eD182_ok hF hre hhn (fun post hpo2 u w hp3 _ hl3 _ hO3 _ hf3 => ?_) (fun N lo st hs hk => (by cases hk)) 20 17 _ _ _ _ hCC [] 0 [] hp2 ⟨⟨rfl, ⟨all_nil, all_nil⟩, all_nil, all_nil⟩, fun j v hj => (by simp at hj), trivial, hO2, ⟨all_nil, all_nil⟩, ⟨[], rfl⟩, fun e he => (by cases he), hFr_refl _ hp2⟩)
        rcases List.mem_cons.mp hpo2 with rfl | hpo2
        · obtain ⟨y, y1, -, -, rfl⟩ := (hl3 0 _ rfl).2.1 rfl
          have y1 : (1 : Int) + 0 = y := Option.some.inj y1
          have y2 : y = 1 := by omega
          subst y2
          exact hk1 hp3 (lInv_md (fun q hq => (by cases hq)) hf3 hO3 hy2)
        · cases hpo2
      · cases hpo
  · have hc : cnOk (pGo l) fFS gC471 := cB1298 (pGo_clo l) 471 (by decide)
    refine hc d _ hn env 1 6 hp1 [y0, y1, y2] [cR 0, cI y0, cI y1, cI y2] (show 2 ≤ d by omega) hhn ⟨rfl, ⟨rng, all_cons (ivO (y := y0) rfl b0.1 b0.2) (all_cons (ivO (y := y1) rfl b1.1 b1.2) (all_cons (ivO (y := y2) rfl b2.1 b2.2) (all_nil)))⟩, all_nil, all_nil⟩ rfl (fun j v hj => ?_) hO1 ⟨all_cons (lrC (c := 0) (j := 6) (k := 15) (rk := 98) rfl rfl (by decide) rfl (by decide) z6 (by decide) rfl rfl rfl) (all_cons (lrC (c := 0) (j := 7) (k := 2) (rk := 2) rfl rfl (by decide) rfl (by decide) z7 (by decide) rfl rfl rfl) all_nil), all_nil⟩ (fun post hpo u w hp2 hN hlo2 _ hO2 _ hf => ?_)
    · have hj : ([(16, .ofNat 0, []), (1, sV 0), (1, sV 1), (1, sV 2)] : List sVl)[j]? = some v := hj
      match j, hj with
      | 0, hj => cases hj; exact vOk_r (ro := 0) (c := 0) rfl (by decide) rfl
      | 1, hj => cases hj; exact vOk_i (sE_V rfl) b0.1 b0.2
      | 2, hj => cases hj; exact vOk_i (sE_V rfl) b1.1 b1.2
      | 3, hj => cases hj; exact vOk_i (sE_V rfl) b2.1 b2.2
      | i + 4, hj => exact absurd hj (by simp)
    have hy2 : lInv hp2 := lInv_md (show ∀ q ∈ gC471.2.2.2.1, ¬ lRo q.1 by unfold lRo; decide) hf hO2 hy1
    rcases List.mem_cons.mp (show post ∈ _ :: _ from hpo) with rfl | hpo
    · obtain ⟨x, q1, q2, q3, rfl⟩ := (hlo2 0 _ rfl).2.1 rfl
      show cond (Nat.beq (cI x) 7) _ (cond (Nat.beq (eTg (cI x)) 7) false (pB (eGo p l e R s m args below meth c Q D A fo eQC 10 L (cI x :: [cI 0, cR 292]) (hp2, hn, env, 0, 0)))) = true
      rw [cI_n7, cI_tg]
      show pB (eGo p l e R s m args below meth c Q D A fo eQC 10 L (cI x :: [cI 0, cR 292]) (hp2, hn, env, 0, 0)) = true
      refine pB_t (hRun_ok (rc := [y0, y1, y2, x]) (md := [(97, 0, 0)]) (hp0 := hp2) (K := fun _ _ _ _ => false) eD182_ok hF hre hhn (fun post hpo2 u w hp3 _ hl3 _ hO3 _ hf3 => ?_) (fun N lo st hs hk => (by cases hk)) 20 10 _ _ _ _ hBC [y0, y1, y2, x] L _ hp2 ⟨⟨rfl, ⟨?_, all_nil⟩, all_nil, all_nil⟩, fun j v hj => (by simp at hj), ⟨vOk_i (sE_V rfl) q2 q3, vOk_i (e := (.ofNat 0, [])) (x := 0) rfl (by decide) (by decide), vOk_r (ro := 97) (c := 292) rfl (by decide) rfl, trivial⟩, hO2, ⟨all_nil, all_nil⟩, ⟨[], rfl⟩, fun e he => (by cases he), hFr_refl _ hp2⟩)
      · rcases List.mem_cons.mp hpo2 with rfl | hpo2
        · obtain ⟨y, y1, -, -, rfl⟩ := (hl3 0 _ rfl).2.1 rfl
          have y1 : (0 : Int) + 0 = y := Option.some.inj y1
          have y2 : y = 0 := by omega
          subst y2
          exact hk0 hp3 (lInv_md (show ∀ q ∈ [((97, 0, 0) : Nat × Nat × Nat)], ¬ lRo q.1 by unfold lRo; decide) hf3 hO3 hy2)
        · cases hpo2
      · exact all_cons (wz b0.1 b0.2) (all_cons (wz b1.1 b1.2) (all_cons (wz b2.1 b2.2) (all_cons (wz q2 q3) all_nil)))
    · rcases List.mem_cons.mp hpo with rfl | hpo
      · have e7 : w = 7 := (hlo2 0 _ rfl).2.2.2.2.1 rfl
        subst e7
        show pB (eGo p l e R s m args below meth c Q D A fo eQC 17 0 [] (hp2, hn, env, 0, 0)) = true
        refine pB_t (hRun_ok (rc := []) (md := []) (hp0 := hp2) (K := fun _ _ _ _ => false) eD182_ok hF hre hhn (fun post hpo2 u w hp3 _ hl3 _ hO3 _ hf3 => ?_) (fun N lo st hs hk => (by cases hk)) 20 17 _ _ _ _ hCC [] 0 [] hp2 ⟨⟨rfl, ⟨all_nil, all_nil⟩, all_nil, all_nil⟩, fun j v hj => (by simp at hj), trivial, hO2, ⟨all_nil, all_nil⟩, ⟨[], rfl⟩, fun e he => (by cases he), hFr_refl _ hp2⟩)
        rcases List.mem_cons.mp hpo2 with rfl | hpo2
        · obtain ⟨y, y1, -, -, rfl⟩ := (hl3 0 _ rfl).2.1 rfl
          have y1 : (1 : Int) + 0 = y := Option.some.inj y1
          have y2 : y = 1 := by omega
          subst y2
          exact hk1 hp3 (lInv_md (fun q hq => (by cases hq)) hf3 hO3 hy2)
        · cases hpo2
      · cases hpo
set_option maxRecDepth 100000 in
theorem hAK : hRun eQK 7 [] [] 3 (fun _ _ st _ => decide (st = [(1, sV 2), (1, sV 1), (1, sV 0), (16, .ofNat 0, []), (1, .ofNat 0, []), (113, .ofNat 292, [])])) 20 0 (3, [], [], []) (sPk 1 [(16, .ofNat 0, []), (1, sV 0), (1, sV 1), (1, sV 2), (113, .ofNat 292, [])]) [] ([], []) = true := by decide +kernel
set_option maxRecDepth 100000 in
theorem hBK : hRun eQK 1000 [(97, 0, 0)] [((4, [], [], []), [(1, .ofNat 0, [])], ([], []))] 4 (fun _ _ _ _ => false) 20 10 (4, [], [], []) [] [(1, sV 3), (1, .ofNat 0, []), (113, .ofNat 292, [])] ([], []) = true := by decide +kernel
set_option maxRecDepth 100000 in
theorem hCK : hRun eQK 1000 [] [((0, [], [], []), [(1, .ofNat 1, [])], ([], []))] 0 (fun _ _ _ _ => false) 20 17 (0, [], [], []) [] [] ([], []) = true := by decide +kernel
set_option maxRecDepth 100000 in
theorem hgK {d hn : Nat} {env : evEnv} {hp : Lean.RArray Nat} {kh : evK} {a0 a1 a2 : Int} (b0 : zMn ≤ a0 ∧ a0 ≤ zMx) (b1 : zMn ≤ a1 ∧ a1 ≤ zMx) (b2 : zMn ≤ a2 ∧ a2 ≤ zMx) (hD : 5 ≤ d) (hhn : tNC ≤ hn) (hy : lInv hp) (hk0 : ∀ hp2, lInv hp2 → kh (cI 0) (hp2, hn, env, 0, 0) = true) (hk1 : ∀ hp2, lInv hp2 → kh (cI 1) (hp2, hn, env, 0, 0) = true)
    (p : Program) (e : Env) (R : Room) (s : State) (m : MethodId) (args : Array Value) (below : List Frame) (meth : Method) (c : Code) (Q : State → Prop) (D : va_G) (A : Nat → Prop) (fo : evF) (hF : eFix p R s m args meth c A fo eQK 0) (hre : eRe p l e R s m args below meth c Q D A fo eQK kh) (hcall : ∀ r : evR, (∀ pc L st g, r pc L st g = true → eGo p l e R s m args below meth c Q D A fo eQK pc L st g) → ∀ (L : Nat) (st : List Nat) (g : evG), eKT l r d 185 4 eQk.2.2.1 7 L st g = true → eGo p l e R s m args below meth c Q D A fo eQK 7 L st g) : eGo p l e R s m args below meth c Q D A fo eQK 0 (ePack [cR 0, cI a0, cI a1, cI a2, cR 292] 0 0) [] (hp, hn, env, 1, 6) := by
  have hO := lInv_O hy
  have rng : ∀ x ∈ ([a0, a1, a2] : List Int), wMn ≤ x ∧ x ≤ wMx := all_cons (wz b0.1 b0.2) (all_cons (wz b1.1 b1.2) (all_cons (wz b2.1 b2.2) (all_nil)))
  have hps : loF [a0, a1, a2] [(16, .ofNat 0, []), (1, sV 0), (1, sV 1), (1, sV 2), (113, .ofNat 292, [])] (fun i => ([cR 0, cI a0, cI a1, cI a2, cR 292] : List Nat).getD i 0) := by
    intro j v hj
    match j, hj with
    | 0, hj => cases hj; exact vOk_r (ro := 0) (c := 0) rfl (by decide) rfl
    | 1, hj => cases hj; exact vOk_i (sE_V rfl) b0.1 b0.2
    | 2, hj => cases hj; exact vOk_i (sE_V rfl) b1.1 b1.2
    | 3, hj => cases hj; exact vOk_i (sE_V rfl) b2.1 b2.2
    | 4, hj => cases hj; exact vOk_r (ro := 97) (c := 292) rfl (by decide) rfl
    | i + 5, hj => exact absurd hj (by simp)
  obtain ⟨-, hlo⟩ := sPk_ok (rc := [a0, a1, a2]) (n := 1) [(16, .ofNat 0, []), (1, sV 0), (1, sV 1), (1, sV 2), (113, .ofNat 292, [])] [cR 0, cI a0, cI a1, cI a2, cR 292] 0 0 rfl hps rfl (fun i _ => by rw [show eSl 0 i = 0 from by show (0 >>> (72 * i)) % 4722366482869645213696 = 0; rw [Nat.zero_shiftRight]]; decide)
  refine hRun_ok (rc := [a0, a1, a2]) (md := []) (hp0 := hp) (posts := []) (K := fun _ _ st _ => decide (st = [(1, sV 2), (1, sV 1), (1, sV 0), (16, .ofNat 0, []), (1, .ofNat 0, []), (113, .ofNat 292, [])])) eD184_ok hF hre hhn (fun post hq => (by cases hq)) (fun N lo st hs hk r L stc hp1 hG => ?_) 20 0 _ _ _ _ hAK [a0, a1, a2] _ [] hp ⟨⟨rfl, ⟨rng, all_nil⟩, all_nil, all_nil⟩, fun j v hj => (by have z := hlo j v hj; rw [Nat.zero_add] at z; exact z), trivial, hO, ⟨all_nil, all_nil⟩, ⟨[], rfl⟩, fun e he => (by cases he), hFr_refl _ hp⟩
  have hst := of_decide_eq_true hk
  subst hst
  have hO1 := hG.2.2.2.1
  have hy1 : lInv hp1 := lInv_md (fun q hq => (by cases hq)) hG.2.2.2.2.2.2.2 hO1 hy
  obtain ⟨t, ht⟩ := hG.2.2.2.2.2.1
  obtain ⟨w2, ws2, rfl, v2, g2⟩ := aSt_c hG.2.2.1
  obtain ⟨w1, ws1, rfl, v1, g1⟩ := aSt_c g2
  obtain ⟨w0, ws0, rfl, v0, g0⟩ := aSt_c g1
  obtain ⟨wx, wsx, rfl, vx, gx⟩ := aSt_c g0
  obtain ⟨wz, wsz, rfl, vz, gz⟩ := aSt_c gx
  obtain ⟨wo, wso, rfl, vo, go⟩ := aSt_c gz
  have en := aSt_n go
  subst en
  obtain ⟨y0, e0, -, -, rfl⟩ := v0.2.1 rfl
  have q0 : y0 = a0 := Option.some.inj (e0.symm.trans (sE_V (show r[0]? = some a0 by rw [ht]; rfl)))
  subst q0
  obtain ⟨y1, e1, -, -, rfl⟩ := v1.2.1 rfl
  have q1 : y1 = a1 := Option.some.inj (e1.symm.trans (sE_V (show r[1]? = some a1 by rw [ht]; rfl)))
  subst q1
  obtain ⟨y2, e2, -, -, rfl⟩ := v2.2.1 rfl
  have q2 : y2 = a2 := Option.some.inj (e2.symm.trans (sE_V (show r[2]? = some a2 by rw [ht]; rfl)))
  subst q2
  obtain ⟨cx, ex, -, -, rfl⟩ := vx.2.2.2.2.2.1 (by decide)
  have qx : (0 : Int) + 0 = (cx : Int) := Option.some.inj ex
  have qx : cx = 0 := by omega
  subst qx
  obtain ⟨yz, ez, -, -, rfl⟩ := vz.2.1 rfl
  have qz : (0 : Int) + 0 = yz := Option.some.inj ez
  have qz : yz = 0 := by omega
  subst qz
  obtain ⟨co, eo, -, -, rfl⟩ := vo.2.2.2.2.2.1 (by decide)
  have qo : (292 : Int) + 0 = (co : Int) := Option.some.inj eo
  have qo : co = 292 := by omega
  subst qo
  refine hcall (fun pc L st g => pB (eGo p l e R s m args below meth c Q D A fo eQK pc L st g)) (fun pc L st g hk => pB_p hk) L _ (hp1, hn, env, 1, 6) ?_
  have s1 : eSum [cI 0, cR 292] ≤ 8 := sSm_ok (r := r) (st := [(1, .ofNat 0, []), (113, .ofNat 292, [])]) ⟨vz, vo, trivial⟩ rfl
  have s2 : eSum [cR 0, cI y0, cI y1, cI y2] ≤ eQk.2.2.1 := sSm_ok (r := r) (st := [(16, .ofNat 0, []), (1, sV 0), (1, sV 1), (1, sV 2)]) ⟨vx, v0, v1, v2, trivial⟩ rfl
  have s3 : eRcv (hp1, hn, env, 1, 6) 11 [cR 0, cI y0, cI y1, cI y2] = true := by
    obtain ⟨k1, k2, k3⟩ := gKi hhn hG (show 0 < tNC by decide)
    show eAt (hp1, hn, env, 1, 6) (cR 0) 11 (fun _ _ => true) = true
    rw [eAt_cR (g := (hp1, hn, env, 1, 6)) k1 (by show eKi (Lean.RArray.get hp1 0) = 11; rw [k2]; rfl)]
  show cond (cond (Nat.ble (eSum [cI 0, cR 292]) 8) (Nat.ble (eSum [cR 0, cI y0, cI y1, cI y2]) eQk.2.2.1) false) (cond (eRcv (hp1, hn, env, 1, 6) 11 [cR 0, cI y0, cI y1, cI y2]) (cond (cond (Nat.beq 1 1) (Nat.beq 6 6) false) (pB (pGo l d 185 (eKx (fun pc L st g => pB (eGo p l e R s m args below meth c Q D A fo eQK pc L st g)) 7 L [cI 0, cR 292]) 0 (ePack [cR 0, cI y0, cI y1, cI y2] 0 0) [] (hp1, hn, env, 1, 6))) false) false) false = true
  rw [Nat.ble_eq_true_of_le s1, Nat.ble_eq_true_of_le s2, s3]
  show pB (pGo l d 185 (eKx (fun pc L st g => pB (eGo p l e R s m args below meth c Q D A fo eQK pc L st g)) 7 L [cI 0, cR 292]) 0 (ePack [cR 0, cI y0, cI y1, cI y2] 0 0) [] (hp1, hn, env, 1, 6)) = true
  refine pB_t ?_
  have hZZ := lInv_P hy1
  rcases hZZ with ⟨z6, z7⟩ | ⟨z6, z7⟩
  · have hc : cnOk (pGo l) fFS gC157 := cB1298 (pGo_clo l) 157 (by decide)
    refine hc d _ hn env 1 6 hp1 [y0, y1, y2] [cR 0, cI y0, cI y1, cI y2] (show 4 ≤ d by omega) hhn ⟨rfl, ⟨rng, all_cons (ivO (y := y0) rfl b0.1 b0.2) (all_cons (ivO (y := y1) rfl b1.1 b1.2) (all_cons (ivO (y := y2) rfl b2.1 b2.2) (all_nil)))⟩, all_nil, all_nil⟩ rfl (fun j v hj => ?_) hO1 ⟨all_cons (lrC (c := 0) (j := 6) (k := 2) (rk := 2) rfl rfl (by decide) rfl (by decide) z6 (by decide) rfl rfl rfl) (all_cons (lrC (c := 0) (j := 7) (k := 15) (rk := 98) rfl rfl (by decide) rfl (by decide) z7 (by decide) rfl rfl rfl) all_nil), all_nil⟩ (fun post hpo u w hp2 hN hlo2 _ hO2 _ hf => ?_)
    · have hj : ([(16, .ofNat 0, []), (1, sV 0), (1, sV 1), (1, sV 2)] : List sVl)[j]? = some v := hj
      match j, hj with
      | 0, hj => cases hj; exact vOk_r (ro := 0) (c := 0) rfl (by decide) rfl
      | 1, hj => cases hj; exact vOk_i (sE_V rfl) b0.1 b0.2
      | 2, hj => cases hj; exact vOk_i (sE_V rfl) b1.1 b1.2
      | 3, hj => cases hj; exact vOk_i (sE_V rfl) b2.1 b2.2
      | i + 4, hj => exact absurd hj (by simp)
    have hy2 : lInv hp2 := lInv_md (show ∀ q ∈ gC157.2.2.2.1, ¬ lRo q.1 by unfold lRo; decide) hf hO2 hy1
    rcases List.mem_cons.mp (show post ∈ _ :: _ from hpo) with rfl | hpo
    · obtain ⟨x, q1, q2, q3, rfl⟩ := (hlo2 0 _ rfl).2.1 rfl
      show cond (Nat.beq (cI x) 7) _ (cond (Nat.beq (eTg (cI x)) 7) false (pB (eGo p l e R s m args below meth c Q D A fo eQK 10 L (cI x :: [cI 0, cR 292]) (hp2, hn, env, 0, 0)))) = true
      rw [cI_n7, cI_tg]
      show pB (eGo p l e R s m args below meth c Q D A fo eQK 10 L (cI x :: [cI 0, cR 292]) (hp2, hn, env, 0, 0)) = true
      refine pB_t (hRun_ok (rc := [y0, y1, y2, x]) (md := [(97, 0, 0)]) (hp0 := hp2) (K := fun _ _ _ _ => false) eD184_ok hF hre hhn (fun post hpo2 u w hp3 _ hl3 _ hO3 _ hf3 => ?_) (fun N lo st hs hk => (by cases hk)) 20 10 _ _ _ _ hBK [y0, y1, y2, x] L _ hp2 ⟨⟨rfl, ⟨?_, all_nil⟩, all_nil, all_nil⟩, fun j v hj => (by simp at hj), ⟨vOk_i (sE_V rfl) q2 q3, vOk_i (e := (.ofNat 0, [])) (x := 0) rfl (by decide) (by decide), vOk_r (ro := 97) (c := 292) rfl (by decide) rfl, trivial⟩, hO2, ⟨all_nil, all_nil⟩, ⟨[], rfl⟩, fun e he => (by cases he), hFr_refl _ hp2⟩)
      · rcases List.mem_cons.mp hpo2 with rfl | hpo2
        · obtain ⟨y, y1, -, -, rfl⟩ := (hl3 0 _ rfl).2.1 rfl
          have y1 : (0 : Int) + 0 = y := Option.some.inj y1
          have y2 : y = 0 := by omega
          subst y2
          exact hk0 hp3 (lInv_md (show ∀ q ∈ [((97, 0, 0) : Nat × Nat × Nat)], ¬ lRo q.1 by unfold lRo; decide) hf3 hO3 hy2)
        · cases hpo2
      · exact all_cons (wz b0.1 b0.2) (all_cons (wz b1.1 b1.2) (all_cons (wz b2.1 b2.2) (all_cons (wz q2 q3) all_nil)))
    · rcases List.mem_cons.mp hpo with rfl | hpo
      · have e7 : w = 7 := (hlo2 0 _ rfl).2.2.2.2.1 rfl
        subst e7
        show pB (eGo p l e R s m args below meth c Q D A fo eQK 17 0 [] (hp2, hn, env, 0, 0)) = true
        refine pB_t (hRun_ok (rc := []) (md := []) (hp0 := hp2) (K := fun _ _ _ _ => false) eD184_ok hF hre hhn (fun post hpo2 u w hp3 _ hl3 _ hO3 _ hf3 => ?_) (fun N lo st hs hk => (by cases hk)) 20 17 _ _ _ _ hCK [] 0 [] hp2 ⟨⟨rfl, ⟨all_nil, all_nil⟩, all_nil, all_nil⟩, fun j v hj => (by simp at hj), trivial, hO2, ⟨all_nil, all_nil⟩, ⟨[], rfl⟩, fun e he => (by cases he), hFr_refl _ hp2⟩)
        rcases List.mem_cons.mp hpo2 with rfl | hpo2
        · obtain ⟨y, y1, -, -, rfl⟩ := (hl3 0 _ rfl).2.1 rfl
          have y1 : (1 : Int) + 0 = y := Option.some.inj y1
          have y2 : y = 1 := by omega
          subst y2
          exact hk1 hp3 (lInv_md (fun q hq => (by cases hq)) hf3 hO3 hy2)
        · cases hpo2
      · cases hpo
  · have hc : cnOk (pGo l) fFS gC508 := cB1298 (pGo_clo l) 508 (by decide)
    refine hc d _ hn env 1 6 hp1 [y0, y1, y2] [cR 0, cI y0, cI y1, cI y2] (show 4 ≤ d by omega) hhn ⟨rfl, ⟨rng, all_cons (ivO (y := y0) rfl b0.1 b0.2) (all_cons (ivO (y := y1) rfl b1.1 b1.2) (all_cons (ivO (y := y2) rfl b2.1 b2.2) (all_nil)))⟩, all_nil, all_nil⟩ rfl (fun j v hj => ?_) hO1 ⟨all_cons (lrC (c := 0) (j := 6) (k := 15) (rk := 98) rfl rfl (by decide) rfl (by decide) z6 (by decide) rfl rfl rfl) (all_cons (lrC (c := 0) (j := 7) (k := 2) (rk := 2) rfl rfl (by decide) rfl (by decide) z7 (by decide) rfl rfl rfl) all_nil), all_nil⟩ (fun post hpo u w hp2 hN hlo2 _ hO2 _ hf => ?_)
    · have hj : ([(16, .ofNat 0, []), (1, sV 0), (1, sV 1), (1, sV 2)] : List sVl)[j]? = some v := hj
      match j, hj with
      | 0, hj => cases hj; exact vOk_r (ro := 0) (c := 0) rfl (by decide) rfl
      | 1, hj => cases hj; exact vOk_i (sE_V rfl) b0.1 b0.2
      | 2, hj => cases hj; exact vOk_i (sE_V rfl) b1.1 b1.2
      | 3, hj => cases hj; exact vOk_i (sE_V rfl) b2.1 b2.2
      | i + 4, hj => exact absurd hj (by simp)
    have hy2 : lInv hp2 := lInv_md (show ∀ q ∈ gC508.2.2.2.1, ¬ lRo q.1 by unfold lRo; decide) hf hO2 hy1
    rcases List.mem_cons.mp (show post ∈ _ :: _ from hpo) with rfl | hpo
    · obtain ⟨x, q1, q2, q3, rfl⟩ := (hlo2 0 _ rfl).2.1 rfl
      show cond (Nat.beq (cI x) 7) _ (cond (Nat.beq (eTg (cI x)) 7) false (pB (eGo p l e R s m args below meth c Q D A fo eQK 10 L (cI x :: [cI 0, cR 292]) (hp2, hn, env, 0, 0)))) = true
      rw [cI_n7, cI_tg]
      show pB (eGo p l e R s m args below meth c Q D A fo eQK 10 L (cI x :: [cI 0, cR 292]) (hp2, hn, env, 0, 0)) = true
      refine pB_t (hRun_ok (rc := [y0, y1, y2, x]) (md := [(97, 0, 0)]) (hp0 := hp2) (K := fun _ _ _ _ => false) eD184_ok hF hre hhn (fun post hpo2 u w hp3 _ hl3 _ hO3 _ hf3 => ?_) (fun N lo st hs hk => (by cases hk)) 20 10 _ _ _ _ hBK [y0, y1, y2, x] L _ hp2 ⟨⟨rfl, ⟨?_, all_nil⟩, all_nil, all_nil⟩, fun j v hj => (by simp at hj), ⟨vOk_i (sE_V rfl) q2 q3, vOk_i (e := (.ofNat 0, [])) (x := 0) rfl (by decide) (by decide), vOk_r (ro := 97) (c := 292) rfl (by decide) rfl, trivial⟩, hO2, ⟨all_nil, all_nil⟩, ⟨[], rfl⟩, fun e he => (by cases he), hFr_refl _ hp2⟩)
      · rcases List.mem_cons.mp hpo2 with rfl | hpo2
        · obtain ⟨y, y1, -, -, rfl⟩ := (hl3 0 _ rfl).2.1 rfl
          have y1 : (0 : Int) + 0 = y := Option.some.inj y1
          have y2 : y = 0 := by omega
          subst y2
          exact hk0 hp3 (lInv_md (show ∀ q ∈ [((97, 0, 0) : Nat × Nat × Nat)], ¬ lRo q.1 by unfold lRo; decide) hf3 hO3 hy2)
        · cases hpo2
      · exact all_cons (wz b0.1 b0.2) (all_cons (wz b1.1 b1.2) (all_cons (wz b2.1 b2.2) (all_cons (wz q2 q3) all_nil)))
    · rcases List.mem_cons.mp hpo with rfl | hpo
      · have e7 : w = 7 := (hlo2 0 _ rfl).2.2.2.2.1 rfl
        subst e7
        show pB (eGo p l e R s m args below meth c Q D A fo eQK 17 0 [] (hp2, hn, env, 0, 0)) = true
        refine pB_t (hRun_ok (rc := []) (md := []) (hp0 := hp2) (K := fun _ _ _ _ => false) eD184_ok hF hre hhn (fun post hpo2 u w hp3 _ hl3 _ hO3 _ hf3 => ?_) (fun N lo st hs hk => (by cases hk)) 20 17 _ _ _ _ hCK [] 0 [] hp2 ⟨⟨rfl, ⟨all_nil, all_nil⟩, all_nil, all_nil⟩, fun j v hj => (by simp at hj), trivial, hO2, ⟨all_nil, all_nil⟩, ⟨[], rfl⟩, fun e he => (by cases he), hFr_refl _ hp2⟩)
        rcases List.mem_cons.mp hpo2 with rfl | hpo2
        · obtain ⟨y, y1, -, -, rfl⟩ := (hl3 0 _ rfl).2.1 rfl
          have y1 : (1 : Int) + 0 = y := Option.some.inj y1
          have y2 : y = 1 := by omega
          subst y2
          exact hk1 hp3 (lInv_md (fun q hq => (by cases hq)) hf3 hO3 hy2)
        · cases hpo2
      · cases hpo
end CkLaw7
