section CkLaw5
def eTgs : List Nat := [212, 285, 310, 323, 336, 376, 428, 465, 502, 527, 564, 613, 638, 675, 712, 725, 786, 847, 908, 957, 1006, 1058, 1107, 1120, 1133, 1170, 1183, 1244, 1281, 1342, 1355, 1392, 1453, 1478, 1503, 1516, 1541, 1566, 1591, 1616]
def eTgt (j : Nat) : Nat := eTgs.getD j 0
theorem dL23 : decode code 23 = .ok (.iload 4, 2) := eOkB_get eDL_ok 23
theorem dL25 : decode code 25 = .ok (.aload_n 0, 1) := eOkB_get eDL_ok 25
theorem dL26 : decode code 26 = .ok (.arraylength, 1) := eOkB_get eDL_ok 26
theorem dL27 : decode code 27 = .ok (.bipush 6, 2) := eOkB_get eDL_ok 27
theorem dL29 : decode code 29 = .ok (.isub, 1) := eOkB_get eDL_ok 29
theorem dL30 : decode code 30 = .ok (.if_icmp .gt 1592, 3) := eOkB_get eDL_ok 30
theorem dL33 : decode code 33 = .ok (.aload_n 0, 1) := eOkB_get eDL_ok 33
theorem dL34 : decode code 34 = .ok (.iload 4, 2) := eOkB_get eDL_ok 34
theorem dL36 : decode code 36 = .ok (.iaload, 1) := eOkB_get eDL_ok 36
theorem dL37 : decode code 37 = .ok (.bipush 63, 2) := eOkB_get eDL_ok 37
theorem dL39 : decode code 39 = .ok (.iand, 1) := eOkB_get eDL_ok 39
def eOfs : Array Int := #[172, 245, 270, 283, 296, 336, 388, 425, 462, 487, 524, 573, 598, 635, 672, 685, 746, 807, 868, 917, 966, 1018, 1067, 1080, 1093, 1130, 1143, 1204, 1241, 1302, 1315, 1352, 1413, 1438, 1463, 1476, 1501, 1526, 1551]
theorem dL40 : decode code 40 = .ok (.tableswitch 1576 0 38 eOfs, 172) := eOkB_get eDL_ok 40
theorem eOfs_ok : ∀ j, j < 39 → eOfs[j]? = some ((eTgt j : Int) - 40) := by decide +kernel
theorem eI_nat {j : Nat} (h : j < 64) : (nI j).toInt = (j : Int) := nI_toInt (by omega)
variable {p : Program} {l : Launch} {e : Env} {R : Room} {s : State} {m : MethodId} {args : Array Value} {below : List Frame} {meth : Method} {c : Code} {Q : State → Prop} {D : va_G} {A : Nat → Prop} {fo : evF} {dp : Nat}
theorem eHead {b LL i L : Nat} {xs : Nat → Int32} {g : evG} (hF : eFix p R s m args meth c A fo eQL dp) (hX : va_X b LL xs s s.heap) (hbl : b < s.heap.size) (hbA : ¬ A b) (f3 : fo.1 3 = .ref b) (hLL : LL ≤ 3072) (hi : i ≤ 4000) (h0 : eSl L 0 = 30) (h4 : eSl L 4 = cI (i : Int))
    (kt : LL < i + 6 → eGo p l e R s m args below meth c Q D A fo eQL 1622 L [] g) (kc : i + 6 ≤ LL → ∀ j, j < 40 → eGo p l e R s m args below meth c Q D A fo eQL (eTgt j) L [] g) : eGo p l e R s m args below meth c Q D A fo eQL 23 L [] g := by
  intro sg tys ws H locs cells slots ls stv hN hLr hst hc hs
  have hx := hF.1
  have hb : c.code = code := hF.2.1
  have hst0 := eLs_n hst
  subst hst0
  obtain ⟨x4, r4, l4⟩ := eLr_get hLr 4 _ h4 (by rw [cI_tg]; decide)
  obtain ⟨x0, r0, l0⟩ := eLr_get hLr 0 _ h0 (by decide)
  obtain ⟨-, rfl⟩ := eR_1 r4 (cI_tg _)
  have hx0 : x0 = fo.1 3 := eR_6 r0 (by decide)
  rw [f3] at hx0
  subst hx0
  have ei : ePl (cI (i : Int)) = i := by rw [cI_pl]; omega
  rw [ei] at l4
  have e6 : (Int32.ofNat LL - 6).toInt = (LL : Int) - 6 := by
    rw [Int32.toInt_sub, show (Int32.ofNat LL).toInt = (LL : Int) from nI_toInt (by omega), show (6 : Int32).toInt = 6 from by decide]
    simp only [Int.bmod_def]
    split <;> omega
  have ei2 : (nI i).toInt = (i : Int) := nI_toInt (by omega)
  refine lv_iload hx hb dL23 l4 (lv_aload_n hx hb dL25 rfl l0 (va_slen hx hb hX hbl hbA hN.2.2.2.1 dL26 (lv_bipush hx hb dL27 (v := 6) (by decide) (lv_isub hx hb dL29 (lv_icmp_gt hx hb dL30 rfl (fun h => ?_) (fun h => ?_))))))
  · have h := Int32.lt_iff_toInt_lt.mp h
    rw [e6, ei2] at h
    exact kt (by omega) sg tys ws H locs cells slots ls [] hN hLr hst hc hs
  · have h : ¬ (Int32.ofNat LL - 6).toInt < (nI i).toInt := fun q => h (Int32.lt_iff_toInt_lt.mpr q)
    rw [e6, ei2] at h
    have kc := kc (by omega)
    refine lv_aload_n hx hb dL33 rfl l0 (lv_iload hx hb dL34 l4 (va_sld hx hb hX hbl hbA hN.2.2.2.1 (show vp_in (nI i) LL from vp_in_nI (by omega) (by omega)) dL36 (lv_bipush hx hb dL37 (v := 63) (by decide) (lv_iand hx hb dL39 ?_))))
    obtain ⟨j, hj, ej⟩ := pk_andE (xs (Int32.toNatClampNeg (nI i))) (m := 63) 6 (by decide)
    rw [ej]
    have hij := eI_nat (show j < 64 from hj)
    by_cases h39 : j < 39
    · exact lv_tableIn hx hb dL40 (by omega) (by omega) (by rw [hij, show ((j : Int) - 0).toNat = j from by omega]; exact eOfs_ok j h39) (by show (40 : Int) + ((eTgt j : Int) - 40) = _; omega) (kc j (by omega) sg tys ws H locs cells slots ls [] hN hLr hst hc hs)
    · exact lv_tableOut hx hb dL40 (by omega) rfl (kc 39 (by omega) sg tys ws H locs cells slots ls [] hN hLr hst hc hs)
theorem eRe_no0 {qm : evM} : eRe p l e R s m args below meth c Q D A fo qm (fun _ _ => false) := ⟨fun v g sg tys ws H locs cells slots pc ls x ty _ _ _ _ _ h => (by cases h), fun g sg tys ws H locs cells slots pc ls _ _ _ _ _ h => (by cases h), fun L g h => (by cases h), fun g sg tys ws H locs cells slots pc ls _ _ _ _ _ _ h => (by cases h)⟩
/-- between the rounds -/
def lInv (hp : Lean.RArray Nat) : Prop := lIn 52 57 53 55 2 15 3 hp ∨ lIn 57 52 58 60 2 15 3 hp ∨ lIn 52 57 53 55 15 2 16 hp ∨ lIn 57 52 58 60 15 2 16 hp
def lSl (L : Nat) (i : Int) : Prop := eSl L 0 = 30 ∧ eSl L 1 = cR 0 ∧ eSl L 2 = cR 273 ∧ eSl L 3 = cR 292 ∧ eSl L 4 = cI i
theorem lSl_of {rr : List Int} {L c1 c2 c3 : Nat} {v0 v4 : sVl} {t : List sVl} (h : loF rr (v0 :: (c1, .ofNat 0, []) :: (c2, .ofNat 273, []) :: (c3, .ofNat 292, []) :: v4 :: t) (eSl L)) (h1 : 16 ≤ c1) (h2 : 16 ≤ c2) (h3 : 16 ≤ c3) : eSl L 1 = cR 0 ∧ eSl L 2 = cR 273 ∧ eSl L 3 = cR 292 := by
  obtain ⟨x1, y1, -, -, z1⟩ := (h 1 _ rfl).2.2.2.2.2.1 h1
  obtain ⟨x2, y2, -, -, z2⟩ := (h 2 _ rfl).2.2.2.2.2.1 h2
  obtain ⟨x3, y3, -, -, z3⟩ := (h 3 _ rfl).2.2.2.2.2.1 h3
  have y1 : (0 : Int) + 0 = (x1 : Int) := Option.some.inj y1
  have y2 : (273 : Int) + 0 = (x2 : Int) := Option.some.inj y2
  have y3 : (292 : Int) + 0 = (x3 : Int) := Option.some.inj y3
  have w1 : x1 = 0 := by omega
  have w2 : x2 = 273 := by omega
  have w3 : x3 = 292 := by omega
  subst w1; subst w2; subst w3
  exact ⟨z1, z2, z3⟩
theorem lRc_b (xs : Nat → Int32) (i : Nat) (hi : i ≤ 3072) : ∀ x ∈ lRc xs i, zMn ≤ x ∧ x ≤ zMx := by
  intro x hx
  simp only [lRc, List.mem_cons, List.not_mem_nil, or_false] at hx
  rcases hx with rfl | rfl | rfl | rfl | rfl | rfl
  · exact i32_b _
  · exact i32_b _
  · exact i32_b _
  · exact i32_b _
  · exact i32_b _
  · rw [zMn_eq, zMx_eq]; omega
/-- the end templates -/
theorem lEt {i d hn nc ns : Nat} {xs : Nat → Int32} {env : evEnv} (hC : ∀ (L : Nat) (hp : Lean.RArray Nat), lInv hp → lSl L (6 + (i : Int)) → pLw p l e R s m args below meth c Q D A fo d 303 (fun _ _ => false) 23 L [] (hp, hn, env, nc, ns)) : ∀ t ∈ gLt, ∀ (rr : List Int) (L : Nat) (hp : Lean.RArray Nat), (∃ u, rr = lRc xs i ++ u) → sNOk tSg rr t.2.1.1 → loF rr t.2.1.2.1 (eSl L) → hOk hp → hsOk fFS rr hp t.2.1.2.2 → eSl L 0 = 30 → eSl L 4 = cI (6 + (i : Int)) → pLw p l e R s m args below meth c Q D A fo d 303 (fun _ _ => false) 23 L [] (hp, hn, env, nc, ns) := by
  intro t ht rr L hp _ hN hlo hO hH h0 h4
  have ht : t ∈ [(23, gEA, ((.ofNat 0, []) : sLn)), (23, gEB, ((.ofNat 0, []) : sLn)), (23, gEC, ((.ofNat 0, []) : sLn)), (23, gED, ((.ofNat 0, []) : sLn))] := ht
  rcases List.mem_cons.mp ht with rfl | ht
  · obtain ⟨a, b, c⟩ := lSl_of (c1 := 16) (c2 := 94) (c3 := 113) hlo (by decide) (by decide) (by decide)
    exact hC L hp (Or.inl (ofA hO hN hH)) ⟨h0, a, b, c, h4⟩
  · rcases List.mem_cons.mp ht with rfl | ht
    · obtain ⟨a, b, c⟩ := lSl_of (c1 := 16) (c2 := 94) (c3 := 113) hlo (by decide) (by decide) (by decide)
      exact hC L hp (Or.inr (Or.inl (ofB hO hN hH))) ⟨h0, a, b, c, h4⟩
    · rcases List.mem_cons.mp ht with rfl | ht
      · obtain ⟨a, b, c⟩ := lSl_of (c1 := 16) (c2 := 94) (c3 := 113) hlo (by decide) (by decide) (by decide)
        exact hC L hp (Or.inr (Or.inr (Or.inl (ofC hO hN hH)))) ⟨h0, a, b, c, h4⟩
      · rcases List.mem_cons.mp ht with rfl | ht
        · obtain ⟨a, b, c⟩ := lSl_of (c1 := 16) (c2 := 94) (c3 := 113) hlo (by decide) (by decide) (by decide)
          exact hC L hp (Or.inr (Or.inr (Or.inr (ofD hO hN hH)))) ⟨h0, a, b, c, h4⟩
        · cases ht
/-- one round of the law, from a case's begin -/
theorem lCg {b LL i d hn nc ns L pc : Nat} {xs : Nat → Int32} {env : evEnv} {hp : Lean.RArray Nat} (hWA : lRun gLm gLh gLt 200 pc gLA.1 gLA.2.1 [] gLA.2.2 = true) (hWB : lRun gLm gLh gLt 200 pc gLB.1 gLB.2.1 [] gLB.2.2 = true) (hWC : lRun gLm gLh gLt 200 pc gLC.1 gLC.2.1 [] gLC.2.2 = true) (hWD : lRun gLm gLh gLt 200 pc gLD.1 gLD.2.1 [] gLD.2.2 = true) (hX : va_X b LL xs s s.heap) (hbl : b < s.heap.size) (hbA : ¬ A b) (f3 : fo.1 3 = .ref b) (hLL : LL ≤ 3072) (hi : i + 5 < LL) (hD : 22 ≤ d) (hhn : tNC ≤ hn)
    (hC : ∀ (L : Nat) (hp : Lean.RArray Nat), lInv hp → lSl L (6 + (i : Int)) → pLw p l e R s m args below meth c Q D A fo d 303 (fun _ _ => false) 23 L [] (hp, hn, env, nc, ns)) (hI : lInv hp) (hL : lSl L (i : Int)) : pLw p l e R s m args below meth c Q D A fo d 303 (fun _ _ => false) pc L [] (hp, hn, env, nc, ns) := by
  have hT := lEt (p := p) (l := l) (e := e) (R := R) (s := s) (m := m) (args := args) (below := below) (meth := meth) (c := c) (Q := Q) (D := D) (A := A) (fo := fo) (xs := xs) hC
  obtain ⟨l0, l1, l2, l3, l4⟩ := hL
  rcases hI with hI | hI | hI | hI
  · obtain ⟨r, hG⟩ := toA (md := gLm) (L := L) (i := (i : Int)) (rc := lRc xs i) rfl (lRc_b xs i (by omega)) rfl ⟨by omega, by omega⟩ hI l0 l1 l2 l3 l4
    exact lRun_ok (hp0 := hp) hX hbl hbA f3 (by omega) hi hD hhn hT 200 pc _ _ _ _ hWA r L [] hp hG
  · obtain ⟨r, hG⟩ := toB (md := gLm) (L := L) (i := (i : Int)) (rc := lRc xs i) rfl (lRc_b xs i (by omega)) rfl ⟨by omega, by omega⟩ hI l0 l1 l2 l3 l4
    exact lRun_ok (hp0 := hp) hX hbl hbA f3 (by omega) hi hD hhn hT 200 pc _ _ _ _ hWB r L [] hp hG
  · obtain ⟨r, hG⟩ := toC (md := gLm) (L := L) (i := (i : Int)) (rc := lRc xs i) rfl (lRc_b xs i (by omega)) rfl ⟨by omega, by omega⟩ hI l0 l1 l2 l3 l4
    exact lRun_ok (hp0 := hp) hX hbl hbA f3 (by omega) hi hD hhn hT 200 pc _ _ _ _ hWC r L [] hp hG
  · obtain ⟨r, hG⟩ := toD (md := gLm) (L := L) (i := (i : Int)) (rc := lRc xs i) rfl (lRc_b xs i (by omega)) rfl ⟨by omega, by omega⟩ hI l0 l1 l2 l3 l4
    exact lRun_ok (hp0 := hp) hX hbl hbA f3 (by omega) hi hD hhn hT 200 pc _ _ _ _ hWD r L [] hp hG
def lHl (j : Nat) : Prop := j = 4 ∨ j = 5 ∨ j = 20
theorem gWA : ∀ j, j < 40 → ¬ lHl j → lRun gLm gLh gLt 200 (eTgt j) gLA.1 gLA.2.1 [] gLA.2.2 = true := fun j hj hh => match j, hj, hh with
  | 0, _, _ => gW0A
  | 1, _, _ => gW1A
  | 2, _, _ => gW2A
  | 3, _, _ => gW3A
  | 4, _, h => absurd (by unfold lHl; omega) h
  | 5, _, h => absurd (by unfold lHl; omega) h
  | 6, _, _ => gW6A
  | 7, _, _ => gW7A
  | 8, _, _ => gW8A
  | 9, _, _ => gW9A
  | 10, _, _ => gW10A
  | 11, _, _ => gW11A
  | 12, _, _ => gW12A
  | 13, _, _ => gW13A
  | 14, _, _ => gW14A
  | 15, _, _ => gW15A
  | 16, _, _ => gW16A
  | 17, _, _ => gW17A
  | 18, _, _ => gW18A
  | 19, _, _ => gW19A
  | 20, _, h => absurd (by unfold lHl; omega) h
  | 21, _, _ => gW21A
  | 22, _, _ => gW22A
  | 23, _, _ => gW23A
  | 24, _, _ => gW24A
  | 25, _, _ => gW25A
  | 26, _, _ => gW26A
  | 27, _, _ => gW27A
  | 28, _, _ => gW28A
  | 29, _, _ => gW29A
  | 30, _, _ => gW30A
  | 31, _, _ => gW31A
  | 32, _, _ => gW32A
  | 33, _, _ => gW33A
  | 34, _, _ => gW34A
  | 35, _, _ => gW35A
  | 36, _, _ => gW36A
  | 37, _, _ => gW37A
  | 38, _, _ => gW38A
  | 39, _, _ => gW39A
  | n + 40, h, _ => absurd h (by omega)
theorem gWB : ∀ j, j < 40 → ¬ lHl j → lRun gLm gLh gLt 200 (eTgt j) gLB.1 gLB.2.1 [] gLB.2.2 = true := fun j hj hh => match j, hj, hh with
  | 0, _, _ => gW0B
  | 1, _, _ => gW1B
  | 2, _, _ => gW2B
  | 3, _, _ => gW3B
  | 4, _, h => absurd (by unfold lHl; omega) h
  | 5, _, h => absurd (by unfold lHl; omega) h
  | 6, _, _ => gW6B
  | 7, _, _ => gW7B
  | 8, _, _ => gW8B
  | 9, _, _ => gW9B
  | 10, _, _ => gW10B
  | 11, _, _ => gW11B
  | 12, _, _ => gW12B
  | 13, _, _ => gW13B
  | 14, _, _ => gW14B
  | 15, _, _ => gW15B
  | 16, _, _ => gW16B
  | 17, _, _ => gW17B
  | 18, _, _ => gW18B
  | 19, _, _ => gW19B
  | 20, _, h => absurd (by unfold lHl; omega) h
  | 21, _, _ => gW21B
  | 22, _, _ => gW22B
  | 23, _, _ => gW23B
  | 24, _, _ => gW24B
  | 25, _, _ => gW25B
  | 26, _, _ => gW26B
  | 27, _, _ => gW27B
  | 28, _, _ => gW28B
  | 29, _, _ => gW29B
  | 30, _, _ => gW30B
  | 31, _, _ => gW31B
  | 32, _, _ => gW32B
  | 33, _, _ => gW33B
  | 34, _, _ => gW34B
  | 35, _, _ => gW35B
  | 36, _, _ => gW36B
  | 37, _, _ => gW37B
  | 38, _, _ => gW38B
  | 39, _, _ => gW39B
  | n + 40, h, _ => absurd h (by omega)
theorem gWC : ∀ j, j < 40 → ¬ lHl j → lRun gLm gLh gLt 200 (eTgt j) gLC.1 gLC.2.1 [] gLC.2.2 = true := fun j hj hh => match j, hj, hh with
  | 0, _, _ => gW0C
  | 1, _, _ => gW1C
  | 2, _, _ => gW2C
  | 3, _, _ => gW3C
  | 4, _, h => absurd (by unfold lHl; omega) h
  | 5, _, h => absurd (by unfold lHl; omega) h
  | 6, _, _ => gW6C
  | 7, _, _ => gW7C
  | 8, _, _ => gW8C
  | 9, _, _ => gW9C
  | 10, _, _ => gW10C
  | 11, _, _ => gW11C
  | 12, _, _ => gW12C
  | 13, _, _ => gW13C
  | 14, _, _ => gW14C
  | 15, _, _ => gW15C
  | 16, _, _ => gW16C
  | 17, _, _ => gW17C
  | 18, _, _ => gW18C
  | 19, _, _ => gW19C
  | 20, _, h => absurd (by unfold lHl; omega) h
  | 21, _, _ => gW21C
  | 22, _, _ => gW22C
  | 23, _, _ => gW23C
  | 24, _, _ => gW24C
  | 25, _, _ => gW25C
  | 26, _, _ => gW26C
  | 27, _, _ => gW27C
  | 28, _, _ => gW28C
  | 29, _, _ => gW29C
  | 30, _, _ => gW30C
  | 31, _, _ => gW31C
  | 32, _, _ => gW32C
  | 33, _, _ => gW33C
  | 34, _, _ => gW34C
  | 35, _, _ => gW35C
  | 36, _, _ => gW36C
  | 37, _, _ => gW37C
  | 38, _, _ => gW38C
  | 39, _, _ => gW39C
  | n + 40, h, _ => absurd h (by omega)
theorem gWD : ∀ j, j < 40 → ¬ lHl j → lRun gLm gLh gLt 200 (eTgt j) gLD.1 gLD.2.1 [] gLD.2.2 = true := fun j hj hh => match j, hj, hh with
  | 0, _, _ => gW0D
  | 1, _, _ => gW1D
  | 2, _, _ => gW2D
  | 3, _, _ => gW3D
  | 4, _, h => absurd (by unfold lHl; omega) h
  | 5, _, h => absurd (by unfold lHl; omega) h
  | 6, _, _ => gW6D
  | 7, _, _ => gW7D
  | 8, _, _ => gW8D
  | 9, _, _ => gW9D
  | 10, _, _ => gW10D
  | 11, _, _ => gW11D
  | 12, _, _ => gW12D
  | 13, _, _ => gW13D
  | 14, _, _ => gW14D
  | 15, _, _ => gW15D
  | 16, _, _ => gW16D
  | 17, _, _ => gW17D
  | 18, _, _ => gW18D
  | 19, _, _ => gW19D
  | 20, _, h => absurd (by unfold lHl; omega) h
  | 21, _, _ => gW21D
  | 22, _, _ => gW22D
  | 23, _, _ => gW23D
  | 24, _, _ => gW24D
  | 25, _, _ => gW25D
  | 26, _, _ => gW26D
  | 27, _, _ => gW27D
  | 28, _, _ => gW28D
  | 29, _, _ => gW29D
  | 30, _, _ => gW30D
  | 31, _, _ => gW31D
  | 32, _, _ => gW32D
  | 33, _, _ => gW33D
  | 34, _, _ => gW34D
  | 35, _, _ => gW35D
  | 36, _, _ => gW36D
  | 37, _, _ => gW37D
  | 38, _, _ => gW38D
  | 39, _, _ => gW39D
  | n + 40, h, _ => absurd h (by omega)
/-- the loop; the three cases that may throw come from elsewhere, as does the end -/
theorem lLoop {b LL d hn : Nat} {xs : Nat → Int32} {env : evEnv} (hF : eFix p R s m args meth c A fo eQL d) (hX : va_X b LL xs s s.heap) (hbl : b < s.heap.size) (hbA : ¬ A b) (f3 : fo.1 3 = .ref b) (hLL : LL ≤ 3072) (hD : 22 ≤ d) (hhn : tNC ≤ hn)
    (hE : ∀ (L : Nat) (g : evG), eGo p l e R s m args below meth c Q D A fo eQL 1622 L [] g)
    (hH : ∀ (j i nc ns L : Nat) (hp : Lean.RArray Nat), lHl j → i + 5 < LL → (∀ (L : Nat) (hp : Lean.RArray Nat), lInv hp → lSl L (6 + (i : Int)) → eGo p l e R s m args below meth c Q D A fo eQL 23 L [] (hp, hn, env, nc, ns)) → lInv hp → lSl L (i : Int) → eGo p l e R s m args below meth c Q D A fo eQL (eTgt j) L [] (hp, hn, env, nc + 1, ns + 6)) :
    ∀ (n i nc ns L : Nat) (hp : Lean.RArray Nat), LL ≤ i + n → i ≤ LL → LL ≤ i + 6 * nc → LL ≤ i + ns → lInv hp → lSl L (i : Int) → eGo p l e R s m args below meth c Q D A fo eQL 23 L [] (hp, hn, env, nc, ns) := by
  intro n
  induction n with
  | zero =>
    intro i nc ns L hp h1 h2 _ _ hI hL
    exact eHead hF hX hbl hbA f3 hLL (by omega) hL.1 hL.2.2.2.2 (fun _ => hE L _) (fun h => absurd h (by omega))
  | succ n ih =>
    intro i nc ns L hp h1 h2 h3 h4 hI hL
    refine eHead hF hX hbl hbA f3 hLL (by omega) hL.1 hL.2.2.2.2 (fun _ => hE L _) (fun h j hj => ?_)
    have e6 : (6 + (i : Int)) = ((i + 6 : Nat) : Int) := by omega
    by_cases hh : lHl j
    · obtain ⟨nc', rfl⟩ : ∃ nc', nc = nc' + 1 := ⟨nc - 1, by omega⟩
      obtain ⟨ns', rfl⟩ : ∃ ns', ns = ns' + 6 := ⟨ns - 6, by omega⟩
      refine hH j i nc' ns' L hp hh (by omega) (fun L hp hI hL => ?_) hI hL
      rw [e6] at hL
      exact ih (i + 6) nc' ns' L hp (by omega) (by omega) (by omega) (by omega) hI hL
    · refine (lCg (b := b) (LL := LL) (xs := xs) (gWA j hj hh) (gWB j hj hh) (gWC j hj hh) (gWD j hj hh) hX hbl hbA f3 hLL (by omega) hD hhn (fun L hp hI hL => ?_) hI hL).1 rfl hF eRe_no0
      refine ⟨fun _ _ _ => ?_, fun q => absurd rfl q⟩
      rw [e6] at hL
      exact ih (i + 6) nc ns L hp (by omega) (by omega) (by omega) (by omega) hI hL
end CkLaw5
