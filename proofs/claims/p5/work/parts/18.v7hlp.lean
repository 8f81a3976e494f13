section CkLaw10
set_option maxRecDepth 100000 in
theorem lSTA : lRunS 350 (fun _ lo st _ => cond (decide (st = [(113, .ofNat 292, []), (1, sV 1), (1, sV 0), (16, .ofNat 0, [])])) (decide (lo = lLv)) false) 30 336 gLA.1 gLA.2.1 [] gLA.2.2 = true := by decide +kernel
set_option maxRecDepth 100000 in
theorem lTTA0 : lRun gLm gLh gLt 200 353 gLA.1 gLA.2.1 [(1, .ofNat 0, [])] gLA.2.2 = true := by decide +kernel
set_option maxRecDepth 100000 in
theorem lTTA1 : lRun gLm gLh gLt 200 353 gLA.1 gLA.2.1 [(1, .ofNat 1, [])] gLA.2.2 = true := by decide +kernel
set_option maxRecDepth 100000 in
theorem lSTB : lRunS 350 (fun _ lo st _ => cond (decide (st = [(113, .ofNat 292, []), (1, sV 1), (1, sV 0), (16, .ofNat 0, [])])) (decide (lo = lLv)) false) 30 336 gLB.1 gLB.2.1 [] gLB.2.2 = true := by decide +kernel
set_option maxRecDepth 100000 in
theorem lTTB0 : lRun gLm gLh gLt 200 353 gLB.1 gLB.2.1 [(1, .ofNat 0, [])] gLB.2.2 = true := by decide +kernel
set_option maxRecDepth 100000 in
theorem lTTB1 : lRun gLm gLh gLt 200 353 gLB.1 gLB.2.1 [(1, .ofNat 1, [])] gLB.2.2 = true := by decide +kernel
set_option maxRecDepth 100000 in
theorem lSTC : lRunS 350 (fun _ lo st _ => cond (decide (st = [(113, .ofNat 292, []), (1, sV 1), (1, sV 0), (16, .ofNat 0, [])])) (decide (lo = lLv)) false) 30 336 gLC.1 gLC.2.1 [] gLC.2.2 = true := by decide +kernel
set_option maxRecDepth 100000 in
theorem lTTC0 : lRun gLm gLh gLt 200 353 gLC.1 gLC.2.1 [(1, .ofNat 0, [])] gLC.2.2 = true := by decide +kernel
set_option maxRecDepth 100000 in
theorem lTTC1 : lRun gLm gLh gLt 200 353 gLC.1 gLC.2.1 [(1, .ofNat 1, [])] gLC.2.2 = true := by decide +kernel
set_option maxRecDepth 100000 in
theorem lSTD : lRunS 350 (fun _ lo st _ => cond (decide (st = [(113, .ofNat 292, []), (1, sV 1), (1, sV 0), (16, .ofNat 0, [])])) (decide (lo = lLv)) false) 30 336 gLD.1 gLD.2.1 [] gLD.2.2 = true := by decide +kernel
set_option maxRecDepth 100000 in
theorem lTTD0 : lRun gLm gLh gLt 200 353 gLD.1 gLD.2.1 [(1, .ofNat 0, [])] gLD.2.2 = true := by decide +kernel
set_option maxRecDepth 100000 in
theorem lTTD1 : lRun gLm gLh gLt 200 353 gLD.1 gLD.2.1 [(1, .ofNat 1, [])] gLD.2.2 = true := by decide +kernel
set_option maxRecDepth 100000 in
theorem lSCA : lRunS 396 (fun _ lo st _ => cond (decide (st = [(113, .ofNat 292, []), (1, sV 2), (1, sV 1), (1, sV 0), (16, .ofNat 0, [])])) (decide (lo = lLv)) false) 30 376 gLA.1 gLA.2.1 [] gLA.2.2 = true := by decide +kernel
set_option maxRecDepth 100000 in
theorem lTCA0 : lRun gLm gLh gLt 200 399 gLA.1 gLA.2.1 [(1, .ofNat 0, [])] gLA.2.2 = true := by decide +kernel
set_option maxRecDepth 100000 in
theorem lTCA1 : lRun gLm gLh gLt 200 399 gLA.1 gLA.2.1 [(1, .ofNat 1, [])] gLA.2.2 = true := by decide +kernel
set_option maxRecDepth 100000 in
theorem lSCB : lRunS 396 (fun _ lo st _ => cond (decide (st = [(113, .ofNat 292, []), (1, sV 2), (1, sV 1), (1, sV 0), (16, .ofNat 0, [])])) (decide (lo = lLv)) false) 30 376 gLB.1 gLB.2.1 [] gLB.2.2 = true := by decide +kernel
set_option maxRecDepth 100000 in
theorem lTCB0 : lRun gLm gLh gLt 200 399 gLB.1 gLB.2.1 [(1, .ofNat 0, [])] gLB.2.2 = true := by decide +kernel
set_option maxRecDepth 100000 in
theorem lTCB1 : lRun gLm gLh gLt 200 399 gLB.1 gLB.2.1 [(1, .ofNat 1, [])] gLB.2.2 = true := by decide +kernel
set_option maxRecDepth 100000 in
theorem lSCC : lRunS 396 (fun _ lo st _ => cond (decide (st = [(113, .ofNat 292, []), (1, sV 2), (1, sV 1), (1, sV 0), (16, .ofNat 0, [])])) (decide (lo = lLv)) false) 30 376 gLC.1 gLC.2.1 [] gLC.2.2 = true := by decide +kernel
set_option maxRecDepth 100000 in
theorem lTCC0 : lRun gLm gLh gLt 200 399 gLC.1 gLC.2.1 [(1, .ofNat 0, [])] gLC.2.2 = true := by decide +kernel
set_option maxRecDepth 100000 in
theorem lTCC1 : lRun gLm gLh gLt 200 399 gLC.1 gLC.2.1 [(1, .ofNat 1, [])] gLC.2.2 = true := by decide +kernel
set_option maxRecDepth 100000 in
theorem lSCD : lRunS 396 (fun _ lo st _ => cond (decide (st = [(113, .ofNat 292, []), (1, sV 2), (1, sV 1), (1, sV 0), (16, .ofNat 0, [])])) (decide (lo = lLv)) false) 30 376 gLD.1 gLD.2.1 [] gLD.2.2 = true := by decide +kernel
set_option maxRecDepth 100000 in
theorem lTCD0 : lRun gLm gLh gLt 200 399 gLD.1 gLD.2.1 [(1, .ofNat 0, [])] gLD.2.2 = true := by decide +kernel
set_option maxRecDepth 100000 in
theorem lTCD1 : lRun gLm gLh gLt 200 399 gLD.1 gLD.2.1 [(1, .ofNat 1, [])] gLD.2.2 = true := by decide +kernel
set_option maxRecDepth 100000 in
theorem lSKA : lRunS 1026 (fun _ lo st _ => cond (decide (st = [(113, .ofNat 292, []), (1, sV 2), (1, sV 1), (1, sV 0), (16, .ofNat 0, [])])) (decide (lo = lLv)) false) 30 1006 gLA.1 gLA.2.1 [] gLA.2.2 = true := by decide +kernel
set_option maxRecDepth 100000 in
theorem lTKA0 : lRun gLm gLh gLt 200 1029 gLA.1 gLA.2.1 [(1, .ofNat 0, [])] gLA.2.2 = true := by decide +kernel
set_option maxRecDepth 100000 in
theorem lTKA1 : lRun gLm gLh gLt 200 1029 gLA.1 gLA.2.1 [(1, .ofNat 1, [])] gLA.2.2 = true := by decide +kernel
set_option maxRecDepth 100000 in
theorem lSKB : lRunS 1026 (fun _ lo st _ => cond (decide (st = [(113, .ofNat 292, []), (1, sV 2), (1, sV 1), (1, sV 0), (16, .ofNat 0, [])])) (decide (lo = lLv)) false) 30 1006 gLB.1 gLB.2.1 [] gLB.2.2 = true := by decide +kernel
set_option maxRecDepth 100000 in
theorem lTKB0 : lRun gLm gLh gLt 200 1029 gLB.1 gLB.2.1 [(1, .ofNat 0, [])] gLB.2.2 = true := by decide +kernel
set_option maxRecDepth 100000 in
theorem lTKB1 : lRun gLm gLh gLt 200 1029 gLB.1 gLB.2.1 [(1, .ofNat 1, [])] gLB.2.2 = true := by decide +kernel
set_option maxRecDepth 100000 in
theorem lSKC : lRunS 1026 (fun _ lo st _ => cond (decide (st = [(113, .ofNat 292, []), (1, sV 2), (1, sV 1), (1, sV 0), (16, .ofNat 0, [])])) (decide (lo = lLv)) false) 30 1006 gLC.1 gLC.2.1 [] gLC.2.2 = true := by decide +kernel
set_option maxRecDepth 100000 in
theorem lTKC0 : lRun gLm gLh gLt 200 1029 gLC.1 gLC.2.1 [(1, .ofNat 0, [])] gLC.2.2 = true := by decide +kernel
set_option maxRecDepth 100000 in
theorem lTKC1 : lRun gLm gLh gLt 200 1029 gLC.1 gLC.2.1 [(1, .ofNat 1, [])] gLC.2.2 = true := by decide +kernel
set_option maxRecDepth 100000 in
theorem lSKD : lRunS 1026 (fun _ lo st _ => cond (decide (st = [(113, .ofNat 292, []), (1, sV 2), (1, sV 1), (1, sV 0), (16, .ofNat 0, [])])) (decide (lo = lLv)) false) 30 1006 gLD.1 gLD.2.1 [] gLD.2.2 = true := by decide +kernel
set_option maxRecDepth 100000 in
theorem lTKD0 : lRun gLm gLh gLt 200 1029 gLD.1 gLD.2.1 [(1, .ofNat 0, [])] gLD.2.2 = true := by decide +kernel
set_option maxRecDepth 100000 in
theorem lTKD1 : lRun gLm gLh gLt 200 1029 gLD.1 gLD.2.1 [(1, .ofNat 1, [])] gLD.2.2 = true := by decide +kernel
variable {p : Program} {l : Launch} {e : Env} {s : State} {m : MethodId} {args : Array Value} {below : List Frame} {meth : Method} {c : Code} {Q : State → Prop} {D : va_G} {A : Nat → Prop} {fo : evF}
theorem lHpT {b LL i nc ns L : Nat} {xs : Nat → Int32} {hp : Lean.RArray Nat} (hlt : l.stackTraces = false) (hF : eFix p room_1 s m args meth c A fo eQL 22) (hZ : eXz A s s.heap) (hX : va_X b LL xs s s.heap) (hbl : b < s.heap.size) (hbA : ¬ A b) (f3 : fo.1 3 = .ref b) (hLL : LL ≤ 3072) (hi : i + 5 < LL) (hC : ∀ (L : Nat) (hp : Lean.RArray Nat), lInv hp → lSl L (6 + (i : Int)) → eGo p l e room_1 s m args below meth c Q D A fo eQL 23 L [] (hp, 293, eEnv0, nc, ns)) (hI : lInv hp) (hL : lSl L (i : Int)) : eGo p l e room_1 s m args below meth c Q D A fo eQL 336 L [] (hp, 293, eEnv0, nc + 1, ns + 6) := by
  have hC2 : ∀ (L : Nat) (hp : Lean.RArray Nat), lInv hp → lSl L (6 + (i : Int)) → pLw p l e room_1 s m args below meth c Q D A fo 22 303 (fun _ _ => false) 23 L [] (hp, 293, eEnv0, nc, ns) := fun L hp h1 h2 => ⟨fun _ _ _ => hC L hp h1 h2, fun q => absurd rfl q⟩
  have hK : ∀ N lo st hs, (fun _ lo st _ => cond (decide (st = [(113, .ofNat 292, []), (1, sV 1), (1, sV 0), (16, .ofNat 0, [])])) (decide (lo = lLv)) false) N lo st hs = true → ∀ r L stc hp1, Gs fFS (lRc xs i) none 0 [] hp r N lo st hs L stc hp1 → pLw p l e room_1 s m args below meth c Q D A fo 22 303 (fun _ _ => false) 350 L stc (hp1, 293, eEnv0, nc + 1, ns + 6) := by
    intro N lo st hs hk r L stc hp1 hG
    obtain ⟨k1, k2⟩ := eC_t (show cond (decide (st = [(113, .ofNat 292, []), (1, sV 1), (1, sV 0), (16, .ofNat 0, [])])) (decide (lo = lLv)) false = true from hk)
    have k1 := of_decide_eq_true k1
    have k2 := of_decide_eq_true k2
    subst k1
    subst k2
    have hy1 : lInv hp1 := lInv_md (fun q hq => (by cases hq)) hG.2.2.2.2.2.2.2 hG.2.2.2.1 hI
    obtain ⟨t, ht⟩ := hG.2.2.2.2.2.1
    have hSl : lSl L (i : Int) := lLv_ok hG.2.1 (by rw [ht]; rfl)
    obtain ⟨wo, wso, rfl, vo, go⟩ := aSt_c hG.2.2.1
    obtain ⟨w1, ws1, rfl, v1, g1⟩ := aSt_c go
    obtain ⟨w0, ws0, rfl, v0, g0⟩ := aSt_c g1
    obtain ⟨wx, wsx, rfl, vx, gx⟩ := aSt_c g0
    have en := aSt_n gx
    subst en
    obtain ⟨y0, e0, c0, d0, rfl⟩ := v0.2.1 rfl
    obtain ⟨y1, e1, c1, d1, rfl⟩ := v1.2.1 rfl
    obtain ⟨cx, ex, -, -, rfl⟩ := vx.2.2.2.2.2.1 (by decide)
    have qx : (0 : Int) + 0 = (cx : Int) := Option.some.inj ex
    have qx : cx = 0 := by omega
    subst qx
    obtain ⟨co, eo, -, -, rfl⟩ := vo.2.2.2.2.2.1 (by decide)
    have qo : (292 : Int) + 0 = (co : Int) := Option.some.inj eo
    have qo : co = 292 := by omega
    subst qo
    refine ⟨fun _ _ _ => ?_, fun q => absurd rfl q⟩
    have hk01 : ∀ k : Int, (k = 0 ∨ k = 1) → ∀ hp2, lInv hp2 → eKh (fun pc L st g => pB (eGo p l e room_1 s m args below meth c Q D A fo eQL pc L st g)) 350 L [] nc ns (cI k) (hp2, 293, eEnv0, 0, 0) = true := by
      intro k hk hp2 hy2
      show cond (Nat.beq (eTg (cI k)) 7) false (pB (eGo p l e room_1 s m args below meth c Q D A fo eQL 353 L [cI k] (hp2, 293, eEnv0, nc, ns))) = true
      rw [cI_tg]
      show pB (eGo p l e room_1 s m args below meth c Q D A fo eQL 353 L [cI k] (hp2, 293, eEnv0, nc, ns)) = true
      refine pB_t ?_
      rcases hk with rfl | rfl
      · exact (lCs (b := b) (LL := LL) (xs := xs) ⟨by decide, by decide⟩ lTTA0 lTTB0 lTTC0 lTTD0 hX hbl hbA f3 hLL hi (by decide) (by decide) hC2 hy2 hSl).1 rfl hF eRe_no0
      · exact (lCs (b := b) (LL := LL) (xs := xs) ⟨by decide, by decide⟩ lTTA1 lTTB1 lTTC1 lTTD1 hX hbl hbA f3 hLL hi (by decide) (by decide) hC2 hy2 hSl).1 rfl hF eRe_no0
    exact s_callH (qm := eQL) (us := [cR 292, cI y1, cI y0, cR 0]) (rest := []) (r := fun pc L st g => pB (eGo p l e room_1 s m args below meth c Q D A fo eQL pc L st g)) (d := 5) (g := (hp1, 293, eEnv0, nc + 1, ns + 6)) hlt eHT (by decide) hF ⟨by decide, by decide⟩ hZ (fun pc L st g hk => pB_p hk) eLT.1 eLT.2.1 eLT.2.2.1 eLT.2.2.2.1 eLT.2.2.2.2.1 eLT.2.2.2.2.2 rfl (by decide) (sSm_ok (r := r) (st := [(16, .ofNat 0, []), (1, sV 0), (1, sV 1), (113, .ofNat 292, [])]) ⟨vx, v0, v1, vo, trivial⟩ rfl) (by show 1 ≤ nc + 1; omega) (by show 6 ≤ ns + 6; omega) (hgT ⟨c0, d0⟩ ⟨c1, d1⟩ (by decide) (show tNC ≤ 293 by decide) hy1 (hk01 0 (Or.inl rfl)) (hk01 1 (Or.inr rfl)))
  obtain ⟨l0, l1, l2, l3, l4⟩ := hL
  rcases id hI with hJ | hJ | hJ | hJ
  · obtain ⟨r, hG⟩ := toA (md := []) (L := L) (i := (i : Int)) (rc := lRc xs i) rfl (lRc_b xs i (by omega)) rfl ⟨by omega, by omega⟩ hJ l0 l1 l2 l3 l4
    exact (lRunS_ok (hp0 := hp) hX hbl hbA f3 (by omega) hi (by decide) (by decide) hK 30 336 _ _ _ _ lSTA r L [] hp hG).1 rfl hF eRe_no0
  · obtain ⟨r, hG⟩ := toB (md := []) (L := L) (i := (i : Int)) (rc := lRc xs i) rfl (lRc_b xs i (by omega)) rfl ⟨by omega, by omega⟩ hJ l0 l1 l2 l3 l4
    exact (lRunS_ok (hp0 := hp) hX hbl hbA f3 (by omega) hi (by decide) (by decide) hK 30 336 _ _ _ _ lSTB r L [] hp hG).1 rfl hF eRe_no0
  · obtain ⟨r, hG⟩ := toC (md := []) (L := L) (i := (i : Int)) (rc := lRc xs i) rfl (lRc_b xs i (by omega)) rfl ⟨by omega, by omega⟩ hJ l0 l1 l2 l3 l4
    exact (lRunS_ok (hp0 := hp) hX hbl hbA f3 (by omega) hi (by decide) (by decide) hK 30 336 _ _ _ _ lSTC r L [] hp hG).1 rfl hF eRe_no0
  · obtain ⟨r, hG⟩ := toD (md := []) (L := L) (i := (i : Int)) (rc := lRc xs i) rfl (lRc_b xs i (by omega)) rfl ⟨by omega, by omega⟩ hJ l0 l1 l2 l3 l4
    exact (lRunS_ok (hp0 := hp) hX hbl hbA f3 (by omega) hi (by decide) (by decide) hK 30 336 _ _ _ _ lSTD r L [] hp hG).1 rfl hF eRe_no0
theorem lHpC {b LL i nc ns L : Nat} {xs : Nat → Int32} {hp : Lean.RArray Nat} (hlt : l.stackTraces = false) (hF : eFix p room_1 s m args meth c A fo eQL 22) (hZ : eXz A s s.heap) (hX : va_X b LL xs s s.heap) (hbl : b < s.heap.size) (hbA : ¬ A b) (f3 : fo.1 3 = .ref b) (hLL : LL ≤ 3072) (hi : i + 5 < LL) (hC : ∀ (L : Nat) (hp : Lean.RArray Nat), lInv hp → lSl L (6 + (i : Int)) → eGo p l e room_1 s m args below meth c Q D A fo eQL 23 L [] (hp, 293, eEnv0, nc, ns)) (hI : lInv hp) (hL : lSl L (i : Int)) : eGo p l e room_1 s m args below meth c Q D A fo eQL 376 L [] (hp, 293, eEnv0, nc + 1, ns + 6) := by
  have hC2 : ∀ (L : Nat) (hp : Lean.RArray Nat), lInv hp → lSl L (6 + (i : Int)) → pLw p l e room_1 s m args below meth c Q D A fo 22 303 (fun _ _ => false) 23 L [] (hp, 293, eEnv0, nc, ns) := fun L hp h1 h2 => ⟨fun _ _ _ => hC L hp h1 h2, fun q => absurd rfl q⟩
  have hK : ∀ N lo st hs, (fun _ lo st _ => cond (decide (st = [(113, .ofNat 292, []), (1, sV 2), (1, sV 1), (1, sV 0), (16, .ofNat 0, [])])) (decide (lo = lLv)) false) N lo st hs = true → ∀ r L stc hp1, Gs fFS (lRc xs i) none 0 [] hp r N lo st hs L stc hp1 → pLw p l e room_1 s m args below meth c Q D A fo 22 303 (fun _ _ => false) 396 L stc (hp1, 293, eEnv0, nc + 1, ns + 6) := by
    intro N lo st hs hk r L stc hp1 hG
    obtain ⟨k1, k2⟩ := eC_t (show cond (decide (st = [(113, .ofNat 292, []), (1, sV 2), (1, sV 1), (1, sV 0), (16, .ofNat 0, [])])) (decide (lo = lLv)) false = true from hk)
    have k1 := of_decide_eq_true k1
    have k2 := of_decide_eq_true k2
    subst k1
    subst k2
    have hy1 : lInv hp1 := lInv_md (fun q hq => (by cases hq)) hG.2.2.2.2.2.2.2 hG.2.2.2.1 hI
    obtain ⟨t, ht⟩ := hG.2.2.2.2.2.1
    have hSl : lSl L (i : Int) := lLv_ok hG.2.1 (by rw [ht]; rfl)
    obtain ⟨wo, wso, rfl, vo, go⟩ := aSt_c hG.2.2.1
    obtain ⟨w2, ws2, rfl, v2, g2⟩ := aSt_c go
    obtain ⟨w1, ws1, rfl, v1, g1⟩ := aSt_c g2
    obtain ⟨w0, ws0, rfl, v0, g0⟩ := aSt_c g1
    obtain ⟨wx, wsx, rfl, vx, gx⟩ := aSt_c g0
    have en := aSt_n gx
    subst en
    obtain ⟨y0, e0, c0, d0, rfl⟩ := v0.2.1 rfl
    obtain ⟨y1, e1, c1, d1, rfl⟩ := v1.2.1 rfl
    obtain ⟨y2, e2, c2, d2, rfl⟩ := v2.2.1 rfl
    obtain ⟨cx, ex, -, -, rfl⟩ := vx.2.2.2.2.2.1 (by decide)
    have qx : (0 : Int) + 0 = (cx : Int) := Option.some.inj ex
    have qx : cx = 0 := by omega
    subst qx
    obtain ⟨co, eo, -, -, rfl⟩ := vo.2.2.2.2.2.1 (by decide)
    have qo : (292 : Int) + 0 = (co : Int) := Option.some.inj eo
    have qo : co = 292 := by omega
    subst qo
    refine ⟨fun _ _ _ => ?_, fun q => absurd rfl q⟩
    have hk01 : ∀ k : Int, (k = 0 ∨ k = 1) → ∀ hp2, lInv hp2 → eKh (fun pc L st g => pB (eGo p l e room_1 s m args below meth c Q D A fo eQL pc L st g)) 396 L [] nc ns (cI k) (hp2, 293, eEnv0, 0, 0) = true := by
      intro k hk hp2 hy2
      show cond (Nat.beq (eTg (cI k)) 7) false (pB (eGo p l e room_1 s m args below meth c Q D A fo eQL 399 L [cI k] (hp2, 293, eEnv0, nc, ns))) = true
      rw [cI_tg]
      show pB (eGo p l e room_1 s m args below meth c Q D A fo eQL 399 L [cI k] (hp2, 293, eEnv0, nc, ns)) = true
      refine pB_t ?_
      rcases hk with rfl | rfl
      · exact (lCs (b := b) (LL := LL) (xs := xs) ⟨by decide, by decide⟩ lTCA0 lTCB0 lTCC0 lTCD0 hX hbl hbA f3 hLL hi (by decide) (by decide) hC2 hy2 hSl).1 rfl hF eRe_no0
      · exact (lCs (b := b) (LL := LL) (xs := xs) ⟨by decide, by decide⟩ lTCA1 lTCB1 lTCC1 lTCD1 hX hbl hbA f3 hLL hi (by decide) (by decide) hC2 hy2 hSl).1 rfl hF eRe_no0
    exact s_callH (qm := eQL) (us := [cR 292, cI y2, cI y1, cI y0, cR 0]) (rest := []) (r := fun pc L st g => pB (eGo p l e room_1 s m args below meth c Q D A fo eQL pc L st g)) (d := 5) (g := (hp1, 293, eEnv0, nc + 1, ns + 6)) hlt eHC (by decide) hF ⟨by decide, by decide⟩ hZ (fun pc L st g hk => pB_p hk) eLC'.1 eLC'.2.1 eLC'.2.2.1 eLC'.2.2.2.1 eLC'.2.2.2.2.1 eLC'.2.2.2.2.2 rfl (by decide) (sSm_ok (r := r) (st := [(16, .ofNat 0, []), (1, sV 0), (1, sV 1), (1, sV 2), (113, .ofNat 292, [])]) ⟨vx, v0, v1, v2, vo, trivial⟩ rfl) (by show 1 ≤ nc + 1; omega) (by show 6 ≤ ns + 6; omega) (hgC ⟨c0, d0⟩ ⟨c1, d1⟩ ⟨c2, d2⟩ (by decide) (show tNC ≤ 293 by decide) hy1 (hk01 0 (Or.inl rfl)) (hk01 1 (Or.inr rfl)))
  obtain ⟨l0, l1, l2, l3, l4⟩ := hL
  rcases id hI with hJ | hJ | hJ | hJ
  · obtain ⟨r, hG⟩ := toA (md := []) (L := L) (i := (i : Int)) (rc := lRc xs i) rfl (lRc_b xs i (by omega)) rfl ⟨by omega, by omega⟩ hJ l0 l1 l2 l3 l4
    exact (lRunS_ok (hp0 := hp) hX hbl hbA f3 (by omega) hi (by decide) (by decide) hK 30 376 _ _ _ _ lSCA r L [] hp hG).1 rfl hF eRe_no0
  · obtain ⟨r, hG⟩ := toB (md := []) (L := L) (i := (i : Int)) (rc := lRc xs i) rfl (lRc_b xs i (by omega)) rfl ⟨by omega, by omega⟩ hJ l0 l1 l2 l3 l4
    exact (lRunS_ok (hp0 := hp) hX hbl hbA f3 (by omega) hi (by decide) (by decide) hK 30 376 _ _ _ _ lSCB r L [] hp hG).1 rfl hF eRe_no0
  · obtain ⟨r, hG⟩ := toC (md := []) (L := L) (i := (i : Int)) (rc := lRc xs i) rfl (lRc_b xs i (by omega)) rfl ⟨by omega, by omega⟩ hJ l0 l1 l2 l3 l4
    exact (lRunS_ok (hp0 := hp) hX hbl hbA f3 (by omega) hi (by decide) (by decide) hK 30 376 _ _ _ _ lSCC r L [] hp hG).1 rfl hF eRe_no0
  · obtain ⟨r, hG⟩ := toD (md := []) (L := L) (i := (i : Int)) (rc := lRc xs i) rfl (lRc_b xs i (by omega)) rfl ⟨by omega, by omega⟩ hJ l0 l1 l2 l3 l4
    exact (lRunS_ok (hp0 := hp) hX hbl hbA f3 (by omega) hi (by decide) (by decide) hK 30 376 _ _ _ _ lSCD r L [] hp hG).1 rfl hF eRe_no0
theorem lHpK {b LL i nc ns L : Nat} {xs : Nat → Int32} {hp : Lean.RArray Nat} (hlt : l.stackTraces = false) (hF : eFix p room_1 s m args meth c A fo eQL 22) (hZ : eXz A s s.heap) (hX : va_X b LL xs s s.heap) (hbl : b < s.heap.size) (hbA : ¬ A b) (f3 : fo.1 3 = .ref b) (hLL : LL ≤ 3072) (hi : i + 5 < LL) (hC : ∀ (L : Nat) (hp : Lean.RArray Nat), lInv hp → lSl L (6 + (i : Int)) → eGo p l e room_1 s m args below meth c Q D A fo eQL 23 L [] (hp, 293, eEnv0, nc, ns)) (hI : lInv hp) (hL : lSl L (i : Int)) : eGo p l e room_1 s m args below meth c Q D A fo eQL 1006 L [] (hp, 293, eEnv0, nc + 1, ns + 6) := by
  have hC2 : ∀ (L : Nat) (hp : Lean.RArray Nat), lInv hp → lSl L (6 + (i : Int)) → pLw p l e room_1 s m args below meth c Q D A fo 22 303 (fun _ _ => false) 23 L [] (hp, 293, eEnv0, nc, ns) := fun L hp h1 h2 => ⟨fun _ _ _ => hC L hp h1 h2, fun q => absurd rfl q⟩
  have hK : ∀ N lo st hs, (fun _ lo st _ => cond (decide (st = [(113, .ofNat 292, []), (1, sV 2), (1, sV 1), (1, sV 0), (16, .ofNat 0, [])])) (decide (lo = lLv)) false) N lo st hs = true → ∀ r L stc hp1, Gs fFS (lRc xs i) none 0 [] hp r N lo st hs L stc hp1 → pLw p l e room_1 s m args below meth c Q D A fo 22 303 (fun _ _ => false) 1026 L stc (hp1, 293, eEnv0, nc + 1, ns + 6) := by
    intro N lo st hs hk r L stc hp1 hG
    obtain ⟨k1, k2⟩ := eC_t (show cond (decide (st = [(113, .ofNat 292, []), (1, sV 2), (1, sV 1), (1, sV 0), (16, .ofNat 0, [])])) (decide (lo = lLv)) false = true from hk)
    have k1 := of_decide_eq_true k1
    have k2 := of_decide_eq_true k2
    subst k1
    subst k2
    have hy1 : lInv hp1 := lInv_md (fun q hq => (by cases hq)) hG.2.2.2.2.2.2.2 hG.2.2.2.1 hI
    obtain ⟨t, ht⟩ := hG.2.2.2.2.2.1
    have hSl : lSl L (i : Int) := lLv_ok hG.2.1 (by rw [ht]; rfl)
    obtain ⟨wo, wso, rfl, vo, go⟩ := aSt_c hG.2.2.1
    obtain ⟨w2, ws2, rfl, v2, g2⟩ := aSt_c go
    obtain ⟨w1, ws1, rfl, v1, g1⟩ := aSt_c g2
    obtain ⟨w0, ws0, rfl, v0, g0⟩ := aSt_c g1
    obtain ⟨wx, wsx, rfl, vx, gx⟩ := aSt_c g0
    have en := aSt_n gx
    subst en
    obtain ⟨y0, e0, c0, d0, rfl⟩ := v0.2.1 rfl
    obtain ⟨y1, e1, c1, d1, rfl⟩ := v1.2.1 rfl
    obtain ⟨y2, e2, c2, d2, rfl⟩ := v2.2.1 rfl
    obtain ⟨cx, ex, -, -, rfl⟩ := vx.2.2.2.2.2.1 (by decide)
    have qx : (0 : Int) + 0 = (cx : Int) := Option.some.inj ex
    have qx : cx = 0 := by omega
    subst qx
    obtain ⟨co, eo, -, -, rfl⟩ := vo.2.2.2.2.2.1 (by decide)
    have qo : (292 : Int) + 0 = (co : Int) := Option.some.inj eo
    have qo : co = 292 := by omega
    subst qo
    refine ⟨fun _ _ _ => ?_, fun q => absurd rfl q⟩
    have hk01 : ∀ k : Int, (k = 0 ∨ k = 1) → ∀ hp2, lInv hp2 → eKh (fun pc L st g => pB (eGo p l e room_1 s m args below meth c Q D A fo eQL pc L st g)) 1026 L [] nc ns (cI k) (hp2, 293, eEnv0, 0, 0) = true := by
      intro k hk hp2 hy2
      show cond (Nat.beq (eTg (cI k)) 7) false (pB (eGo p l e room_1 s m args below meth c Q D A fo eQL 1029 L [cI k] (hp2, 293, eEnv0, nc, ns))) = true
      rw [cI_tg]
      show pB (eGo p l e room_1 s m args below meth c Q D A fo eQL 1029 L [cI k] (hp2, 293, eEnv0, nc, ns)) = true
      refine pB_t ?_
      rcases hk with rfl | rfl
      · exact (lCs (b := b) (LL := LL) (xs := xs) ⟨by decide, by decide⟩ lTKA0 lTKB0 lTKC0 lTKD0 hX hbl hbA f3 hLL hi (by decide) (by decide) hC2 hy2 hSl).1 rfl hF eRe_no0
      · exact (lCs (b := b) (LL := LL) (xs := xs) ⟨by decide, by decide⟩ lTKA1 lTKB1 lTKC1 lTKD1 hX hbl hbA f3 hLL hi (by decide) (by decide) hC2 hy2 hSl).1 rfl hF eRe_no0
    exact s_callH (qm := eQL) (us := [cR 292, cI y2, cI y1, cI y0, cR 0]) (rest := []) (r := fun pc L st g => pB (eGo p l e room_1 s m args below meth c Q D A fo eQL pc L st g)) (d := 5) (g := (hp1, 293, eEnv0, nc + 1, ns + 6)) hlt eHK (by decide) hF ⟨by decide, by decide⟩ hZ (fun pc L st g hk => pB_p hk) eLK.1 eLK.2.1 eLK.2.2.1 eLK.2.2.2.1 eLK.2.2.2.2.1 eLK.2.2.2.2.2 rfl (by decide) (sSm_ok (r := r) (st := [(16, .ofNat 0, []), (1, sV 0), (1, sV 1), (1, sV 2), (113, .ofNat 292, [])]) ⟨vx, v0, v1, v2, vo, trivial⟩ rfl) (by show 1 ≤ nc + 1; omega) (by show 6 ≤ ns + 6; omega) (hgK ⟨c0, d0⟩ ⟨c1, d1⟩ ⟨c2, d2⟩ (by decide) (show tNC ≤ 293 by decide) hy1 (hk01 0 (Or.inl rfl)) (hk01 1 (Or.inr rfl)))
  obtain ⟨l0, l1, l2, l3, l4⟩ := hL
  rcases id hI with hJ | hJ | hJ | hJ
  · obtain ⟨r, hG⟩ := toA (md := []) (L := L) (i := (i : Int)) (rc := lRc xs i) rfl (lRc_b xs i (by omega)) rfl ⟨by omega, by omega⟩ hJ l0 l1 l2 l3 l4
    exact (lRunS_ok (hp0 := hp) hX hbl hbA f3 (by omega) hi (by decide) (by decide) hK 30 1006 _ _ _ _ lSKA r L [] hp hG).1 rfl hF eRe_no0
  · obtain ⟨r, hG⟩ := toB (md := []) (L := L) (i := (i : Int)) (rc := lRc xs i) rfl (lRc_b xs i (by omega)) rfl ⟨by omega, by omega⟩ hJ l0 l1 l2 l3 l4
    exact (lRunS_ok (hp0 := hp) hX hbl hbA f3 (by omega) hi (by decide) (by decide) hK 30 1006 _ _ _ _ lSKB r L [] hp hG).1 rfl hF eRe_no0
  · obtain ⟨r, hG⟩ := toC (md := []) (L := L) (i := (i : Int)) (rc := lRc xs i) rfl (lRc_b xs i (by omega)) rfl ⟨by omega, by omega⟩ hJ l0 l1 l2 l3 l4
    exact (lRunS_ok (hp0 := hp) hX hbl hbA f3 (by omega) hi (by decide) (by decide) hK 30 1006 _ _ _ _ lSKC r L [] hp hG).1 rfl hF eRe_no0
  · obtain ⟨r, hG⟩ := toD (md := []) (L := L) (i := (i : Int)) (rc := lRc xs i) rfl (lRc_b xs i (by omega)) rfl ⟨by omega, by omega⟩ hJ l0 l1 l2 l3 l4
    exact (lRunS_ok (hp0 := hp) hX hbl hbA f3 (by omega) hi (by decide) (by decide) hK 30 1006 _ _ _ _ lSKD r L [] hp hG).1 rfl hF eRe_no0
theorem lHelp {b LL : Nat} {xs : Nat → Int32} (hlt : l.stackTraces = false) (hF : eFix p room_1 s m args meth c A fo eQL 22) (hZ : eXz A s s.heap) (hX : va_X b LL xs s s.heap) (hbl : b < s.heap.size) (hbA : ¬ A b) (f3 : fo.1 3 = .ref b) (hLL : LL ≤ 3072) : ∀ (j i nc ns L : Nat) (hp : Lean.RArray Nat), lHl j → i + 5 < LL → (∀ (L : Nat) (hp : Lean.RArray Nat), lInv hp → lSl L (6 + (i : Int)) → eGo p l e room_1 s m args below meth c Q D A fo eQL 23 L [] (hp, 293, eEnv0, nc, ns)) → lInv hp → lSl L (i : Int) → eGo p l e room_1 s m args below meth c Q D A fo eQL (eTgt j) L [] (hp, 293, eEnv0, nc + 1, ns + 6) := by
  intro j i nc ns L hp hj hi hC hI hL
  rcases hj with rfl | rfl | rfl
  · exact lHpT hlt hF hZ hX hbl hbA f3 hLL hi hC hI hL
  · exact lHpC hlt hF hZ hX hbl hbA f3 hLL hi hC hI hL
  · exact lHpK hlt hF hZ hX hbl hbA f3 hLL hi hC hI hL
end CkLaw10
