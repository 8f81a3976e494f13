section EvSt3
set_option maxRecDepth 100000 in
theorem eCs_d : eRun 100 20 304 eKe 1700 eL2 [] eG1 = true := by decide +kernel

set_option maxRecDepth 100000 in
theorem eCase {p : Program} {l : Launch} {e : Env} {s : State} {m : MethodId} {args : Array Value} {below : List Frame} {meth : Method} {c : Code} {Q : State → Prop} {D : va_G} {A : Nat → Prop} {fo : evF} (hlt : l.stackTraces = false) (hF : eFix p room_1 s m args meth c A fo eQL 20) (hZ : eXz A s s.heap) (hre : eRe p l e room_1 s m args below meth c Q D A fo eQL eKe) : ∀ j, j < 39 → eGo p l e room_1 s m args below meth c Q D A fo eQL (eTgt j) eL2 [] eG1 := fun j hj => match j, hj with
  | 0, _ => eRun_ok 60000 20 304 eQL eKe 212 eL2 [] eG1 eQL_m eCs_0 p e room_1 s m args below meth c Q D A fo hF hre
  | 1, _ => eRun_ok 60000 20 304 eQL eKe 285 eL2 [] eG1 eQL_m eCs_1 p e room_1 s m args below meth c Q D A fo hF hre
  | 2, _ => eRun_ok 60000 20 304 eQL eKe 310 eL2 [] eG1 eQL_m eCs_2 p e room_1 s m args below meth c Q D A fo hF hre
  | 3, _ => eRun_ok 60000 20 304 eQL eKe 323 eL2 [] eG1 eQL_m eCs_3 p e room_1 s m args below meth c Q D A fo hF hre
  | 4, _ => eRunS_ok (qm := eQL) (show eOkB eDL code = true from eDL_ok) (fun L st g h => s_callH hlt eHT (by decide) hF ⟨by decide, by decide⟩ hZ (fun pc L st g hk => eRun_ok 60000 20 304 eQL eKe pc L st g eQL_m hk p e room_1 s m args below meth c Q D A fo hF hre) eLT.1 eLT.2.1 eLT.2.2.1 eLT.2.2.2.1 eLT.2.2.2.2.1 eLT.2.2.2.2.2 h) hF eRe_no 40 336 eL2 [] eG1 eCs_4
  | 5, _ => eRunS_ok (qm := eQL) (show eOkB eDL code = true from eDL_ok) (fun L st g h => s_callH hlt eHC (by decide) hF ⟨by decide, by decide⟩ hZ (fun pc L st g hk => eRun_ok 60000 20 304 eQL eKe pc L st g eQL_m hk p e room_1 s m args below meth c Q D A fo hF hre) eLC'.1 eLC'.2.1 eLC'.2.2.1 eLC'.2.2.2.1 eLC'.2.2.2.2.1 eLC'.2.2.2.2.2 h) hF eRe_no 60 404 eL2 [] eG1 eCs_5
  | 6, _ => eRun_ok 60000 20 304 eQL eKe 484 eL2 [] eG1 eQL_m eCs_6 p e room_1 s m args below meth c Q D A fo hF hre
  | 7, _ => eRun_ok 60000 20 304 eQL eKe 521 eL2 [] eG1 eQL_m eCs_7 p e room_1 s m args below meth c Q D A fo hF hre
  | 8, _ => eRun_ok 60000 20 304 eQL eKe 558 eL2 [] eG1 eQL_m eCs_8 p e room_1 s m args below meth c Q D A fo hF hre
  | 9, _ => eRun_ok 60000 20 304 eQL eKe 583 eL2 [] eG1 eQL_m eCs_9 p e room_1 s m args below meth c Q D A fo hF hre
  | 10, _ => eRun_ok 60000 20 304 eQL eKe 620 eL2 [] eG1 eQL_m eCs_10 p e room_1 s m args below meth c Q D A fo hF hre
  | 11, _ => eRun_ok 60000 20 304 eQL eKe 669 eL2 [] eG1 eQL_m eCs_11 p e room_1 s m args below meth c Q D A fo hF hre
  | 12, _ => eRun_ok 60000 20 304 eQL eKe 694 eL2 [] eG1 eQL_m eCs_12 p e room_1 s m args below meth c Q D A fo hF hre
  | 13, _ => eRun_ok 60000 20 304 eQL eKe 731 eL2 [] eG1 eQL_m eCs_13 p e room_1 s m args below meth c Q D A fo hF hre
  | 14, _ => eRun_ok 60000 20 304 eQL eKe 768 eL2 [] eG1 eQL_m eCs_14 p e room_1 s m args below meth c Q D A fo hF hre
  | 15, _ => eRun_ok 60000 20 304 eQL eKe 781 eL2 [] eG1 eQL_m eCs_15 p e room_1 s m args below meth c Q D A fo hF hre
  | 16, _ => eRun_ok 60000 20 304 eQL eKe 842 eL2 [] eG1 eQL_m eCs_16 p e room_1 s m args below meth c Q D A fo hF hre
  | 17, _ => eRun_ok 60000 20 304 eQL eKe 903 eL2 [] eG1 eQL_m eCs_17 p e room_1 s m args below meth c Q D A fo hF hre
  | 18, _ => eRun_ok 60000 20 304 eQL eKe 964 eL2 [] eG1 eQL_m eCs_18 p e room_1 s m args below meth c Q D A fo hF hre
  | 19, _ => eRun_ok 60000 20 304 eQL eKe 1013 eL2 [] eG1 eQL_m eCs_19 p e room_1 s m args below meth c Q D A fo hF hre
  | 20, _ => eRunS_ok (qm := eQL) (show eOkB eDL code = true from eDL_ok) (fun L st g h => s_callH hlt eHK (by decide) hF ⟨by decide, by decide⟩ hZ (fun pc L st g hk => eRun_ok 60000 20 304 eQL eKe pc L st g eQL_m hk p e room_1 s m args below meth c Q D A fo hF hre) eLK.1 eLK.2.1 eLK.2.2.1 eLK.2.2.2.1 eLK.2.2.2.2.1 eLK.2.2.2.2.2 h) hF eRe_no 60 1062 eL2 [] eG1 eCs_20
  | 21, _ => eRun_ok 60000 20 304 eQL eKe 1142 eL2 [] eG1 eQL_m eCs_21 p e room_1 s m args below meth c Q D A fo hF hre
  | 22, _ => eRun_ok 60000 20 304 eQL eKe 1191 eL2 [] eG1 eQL_m eCs_22 p e room_1 s m args below meth c Q D A fo hF hre
  | 23, _ => eRun_ok 60000 20 304 eQL eKe 1204 eL2 [] eG1 eQL_m eCs_23 p e room_1 s m args below meth c Q D A fo hF hre
  | 24, _ => eRun_ok 60000 20 304 eQL eKe 1217 eL2 [] eG1 eQL_m eCs_24 p e room_1 s m args below meth c Q D A fo hF hre
  | 25, _ => eRun_ok 60000 20 304 eQL eKe 1254 eL2 [] eG1 eQL_m eCs_25 p e room_1 s m args below meth c Q D A fo hF hre
  | 26, _ => eRun_ok 60000 20 304 eQL eKe 1267 eL2 [] eG1 eQL_m eCs_26 p e room_1 s m args below meth c Q D A fo hF hre
  | 27, _ => eRun_ok 60000 20 304 eQL eKe 1328 eL2 [] eG1 eQL_m eCs_27 p e room_1 s m args below meth c Q D A fo hF hre
  | 28, _ => eRun_ok 60000 20 304 eQL eKe 1365 eL2 [] eG1 eQL_m eCs_28 p e room_1 s m args below meth c Q D A fo hF hre
  | 29, _ => eRun_ok 60000 20 304 eQL eKe 1426 eL2 [] eG1 eQL_m eCs_29 p e room_1 s m args below meth c Q D A fo hF hre
  | 30, _ => eRun_ok 60000 20 304 eQL eKe 1439 eL2 [] eG1 eQL_m eCs_30 p e room_1 s m args below meth c Q D A fo hF hre
  | 31, _ => eRun_ok 60000 20 304 eQL eKe 1476 eL2 [] eG1 eQL_m eCs_31 p e room_1 s m args below meth c Q D A fo hF hre
  | 32, _ => eRun_ok 60000 20 304 eQL eKe 1537 eL2 [] eG1 eQL_m eCs_32 p e room_1 s m args below meth c Q D A fo hF hre
  | 33, _ => eRun_ok 60000 20 304 eQL eKe 1562 eL2 [] eG1 eQL_m eCs_33 p e room_1 s m args below meth c Q D A fo hF hre
  | 34, _ => eRun_ok 60000 20 304 eQL eKe 1587 eL2 [] eG1 eQL_m eCs_34 p e room_1 s m args below meth c Q D A fo hF hre
  | 35, _ => eRun_ok 60000 20 304 eQL eKe 1600 eL2 [] eG1 eQL_m eCs_35 p e room_1 s m args below meth c Q D A fo hF hre
  | 36, _ => eRun_ok 60000 20 304 eQL eKe 1625 eL2 [] eG1 eQL_m eCs_36 p e room_1 s m args below meth c Q D A fo hF hre
  | 37, _ => eRun_ok 60000 20 304 eQL eKe 1650 eL2 [] eG1 eQL_m eCs_37 p e room_1 s m args below meth c Q D A fo hF hre
  | 38, _ => eRun_ok 60000 20 304 eQL eKe 1675 eL2 [] eG1 eQL_m eCs_38 p e room_1 s m args below meth c Q D A fo hF hre
  | n + 39, h => absurd h (by omega)

set_option maxRecDepth 100000 in
theorem whole_start {p : Program} {e : Env} {s : State} {m : MethodId} {below : List Frame} {meth : Method} {c : Code} (l : Launch) (hlt : l.stackTraces = false) {b L : Nat} {xs : Nat → Int32} (hL : L ≤ 6) (C0 : lw_At p s m meth c b L xs) : W p l e room_1 s m #[Value.ref b] below meth c s.heap [] 0 0 (lw_Z below #[Value.ref b] s) (entryFrame m ([Value.ref b] : List Value).toArray 7) := by
  obtain ⟨hx, hb, hr, hml, hown, hts, hX, hbl, hlk, hgv⟩ := C0
  have hs := flat_of_before _ hgv
  obtain ⟨A, hAd⟩ : ∃ A : Nat → Prop, A = fun q => s.heap.size ≤ q := ⟨_, rfl⟩
  have hA0 : ∀ a : Nat, a < s.heap.size → ¬ A a := fun a h h' => by rw [hAd] at h'; exact absurd h' (Nat.not_le.mpr h)
  have hA1 : ∀ q, A q → s.heap.size ≤ q := fun q h => by rw [hAd] at h; exact h
  have hA2 : ∀ q, s.heap.size ≤ q → A q := fun q h => by rw [hAd]; exact h
  have hbA : ¬ A b := hA0 b hbl
  have hGW : ∀ w ∈ eGW, w.before #[Value.ref b] s = true := fun w h => hts w (List.mem_filter.mp h).1
  obtain ⟨adK, adV, hT1, hT2⟩ := vk_Sof (args := #[Value.ref b]) (s := s) (N := 1) (tm := fun _ => eTk) (len := eTxL) (byt := eTxB) (A := A)
    (fun i hi => by have e0 : i = 0 := by omega
                    subst e0; decide)
    (fun i hi => hs _ (eNi 70 rfl)) (fun i hi => hs _ (eNi 71 rfl)) (fun i hi => hs _ (eNi 72 rfl))
    (fun i hi => by have e0 : i = 0 := by omega
                    subst e0; exact hs _ (eNi 73 rfl))
    (fun i hi j hj => by have e0 : i = 0 := by omega
                         subst e0; exact hs _ (eByt j hj))
    (fun i j hi hj hn => absurd (by omega) hn) hA0
  have hQ1 := va_Zqof (A := A) (hts _ (eTi 350 rfl)) (hts _ (eTi 10 rfl)) (hs _ (eNi 5 rfl)) hA0
  have hfm : ∃ fm : Value, (fm = .null ∨ ∃ t, fm = .ref t) ∧ va_Z "jdk/internal/util/Preconditions" "SIOOBE_FORMATTER" "Ljava/util/function/BiFunction;" fm A s s.heap := by
    rcases hQ1 with h | ⟨t, h⟩
    · exact ⟨_, Or.inl rfl, h⟩
    · exact ⟨_, Or.inr ⟨t, rfl⟩, h⟩
  obtain ⟨fm, hfm1, hfm2⟩ := hfm
  obtain ⟨t4, ht4⟩ : ∃ t4 : Value, t4 = if L = 6 then .ref b else .int 0 := ⟨_, rfl⟩
  have hK0 : ∀ ci : Nat, ∃ (cC : ClassId) (iS : Nat → Nat), ∀ q, vwCl[ci]? = some q → u_Kn s q.1 q.2.1 q.2.2 cC iS := by
    intro ci
    cases hci : vwCl[ci]? with
    | none => exact ⟨m.cls, fun i => i, fun q h => by cases h⟩
    | some q =>
      have hk := eCok_all ci q.1 q.2.1 q.2.2 hci
      obtain ⟨cC, iS, h⟩ := u_known (ws := eGW) (n := q.2.2) hGW hk.1 (hGW _ hk.2.2.2.2.1)
      exact ⟨cC, iS, fun q' h' => by cases h'; exact h⟩
  obtain ⟨D, hD⟩ : ∃ D : va_G, va_K D vwCl [] s := ⟨(fun ci => (hK0 ci).choose, fun ci => (hK0 ci).choose_spec.choose), fun ci q hq => (hK0 ci).choose_spec.choose_spec q hq, fun k q hk => by simp at hk⟩
  have hFX : eFX A (eFo (.ref (adK 0)) (.ref (adV 0)) fm t4 b xs) s s.heap := ⟨adK, adV, rfl, rfl, hfm1, hT1, vk_R.of (hts _ (eTi 324 rfl)) (hT2 0 (by decide)), va_Zof (hts _ (eTi 334 rfl)) (hts _ (eTi 8 rfl)) (va_eqi (hs _ (eNi 4 rfl))) hA0, hfm2, fun w hw => by
    simp only [eNw, List.mem_cons, List.not_mem_nil, or_false] at hw
    rcases hw with rfl | rfl | rfl | rfl
    · exact va_Nw.of rfl (hts _ (eTi 266 rfl))
    · exact va_Nw.of rfl (hts _ (eTi 443 rfl))
    · exact va_Nw.of rfl (hts _ (eTi 599 rfl))
    · exact va_Nw.of rfl (hts _ (eTi 608 rfl)), va_AO.of (hts _ (eTi 295 rfl)), va_AO.of (hts _ (eTi 303 rfl))⟩
  have hZ : eXz A s s.heap := ⟨vx_Zqof (hts _ (eTi 1409 rfl)) (hts _ (eTi 20 rfl)) (hs _ (eNi 25 rfl)) hA0, vx_Zqof (hts _ (eTi 1411 rfl)) (hts _ (eTi 20 rfl)) (hs _ (eNi 26 rfl)) hA0, fun w hw => by
    simp only [eXw, List.mem_cons, List.not_mem_nil, or_false] at hw
    rcases hw with rfl | rfl | rfl | rfl
    · exact va_Nw.of rfl (hts _ (eTi 1385 rfl))
    · exact va_Nw.of rfl (hts _ (eTi 1387 rfl))
    · exact va_Nw.of rfl (hts _ (eTi 1389 rfl))
    · exact va_Nw.of rfl (hts _ (eTi 1384 rfl))⟩
  generalize hfo : eFo (.ref (adK 0)) (.ref (adV 0)) fm t4 b xs = fo at hFX
  have f3 : fo.1 3 = .ref b := by rw [← hfo]; rfl
  have f4 : fo.1 4 = t4 := by rw [← hfo]; rfl
  have f21 : fo.2.1 = [] := by rw [← hfo]; rfl
  have f22 : fo.2.2 = eSg xs := by rw [← hfo]; rfl
  have hscr : eScr A fo s eQL := fun _ => by
    by_cases h6 : L = 6
    · right
      subst h6
      exact ⟨b, by rw [f4, ht4, if_pos rfl], hbl, hbA, by rw [f22]; exact eSg_X hX, by rw [f22]; exact Nat.le_refl 6⟩
    · left
      rw [f4, ht4, if_neg h6]
  have hF : eFix p room_1 s m #[Value.ref b] meth c A fo eQL 20 := ⟨hx, hb, hml, hr, hown, hGW, ⟨fun h => absurd h Bool.false_ne_true, hscr⟩, hlk, ⟨by decide, by decide⟩, hA2, hFX⟩
  have hloc : ∀ {ad : List Nat} {sg : List Int32} {LL : Nat} {ls : Array Slot}, eLr ad sg fo 7 LL ls → ∀ (j v : Nat), eSl LL j = v → ¬ eTg v = 0 → ∃ x, eR ad sg fo v x ∧ ls[j]? = some (.val x) := by
    intro ad sg LL ls h j v hv h0
    obtain ⟨lv, h1, h2⟩ := h
    obtain ⟨x, h3, h4⟩ := h2 j (by rw [hv]; exact h0)
    rw [hv] at h3
    exact ⟨x, h3, h1.2.2 (j, x) h4⟩
  -- the end of the loop
  have hend : ∀ (LL : Nat) (g : evG), eSl LL 4 = 49 → eSl LL 0 = 38 → eGo p l e room_1 s m #[Value.ref b] below meth c (lw_Z below #[Value.ref b] s) D A fo eQL 23 LL [] g := by
    intro LL g e4 e0 sg tys ws H locs cells slots ls stv hN hLr hst hc hs'
    have hst := eLs_n hst
    subst hst
    obtain ⟨x4, r4, l4⟩ := hloc hLr 4 49 e4 (by decide)
    obtain ⟨x0, r0, l0⟩ := hloc hLr 0 38 e0 (by decide)
    obtain ⟨-, rfl⟩ := eR_1 r4 (by decide)
    have hx0 : x0 = fo.1 4 := eR_6 r0 (by decide)
    have h6 : L = 6 := by
      by_cases h6 : L = 6
      · exact h6
      · rw [f4, ht4, if_neg h6] at hx0
        subst hx0
        rcases eR_A r0 (by decide) with h | ⟨z, h⟩ <;> cases h
    rw [f4, ht4, if_pos h6] at hx0
    subst hx0
    subst h6
    refine eHd23 hx hb l4 l0 hX hbl hbA hN.2.2.2.1 (fun _ => eOut hx hb hr hlk hA1 hN.2.2.2.1 (Nat.le_trans (Nat.le_add_right _ _) hc) (Nat.le_trans (Nat.le_add_right _ _) hs')) (fun h => absurd ?_ h)
    decide
  have hreE : eRe p l e room_1 s m #[Value.ref b] below meth c (lw_Z below #[Value.ref b] s) D A fo eQL eKe := by
    have h7 : ∀ v g, eKe v g = true → eTg v = 7 := fun v g h => Nat.eq_of_beq_eq_true (eC_t h).1
    refine ⟨fun v g sg tys ws H locs cells slots pc ls x ty _ _ _ _ _ hk hv => absurd hv (eR_7 (h7 v g hk)), fun g sg tys ws H locs cells slots pc ls _ _ _ _ _ hk => absurd (h7 0 g hk) (by decide), fun LL g hk _ _ => ?_, fun g sg tys ws H locs cells slots pc ls _ _ _ _ _ _ _ h11 => absurd h11 (by decide)⟩
    have hk : cond (Nat.beq (eTg (Nat.add (Nat.mul 8 LL) 7)) 7) (cond (Nat.beq (eSl (ePl (Nat.add (Nat.mul 8 LL) 7)) 4) 49) (Nat.beq (eSl (ePl (Nat.add (Nat.mul 8 LL) 7)) 0) 38) false) false = true := hk
    obtain ⟨-, hk⟩ := eC_t hk
    obtain ⟨h1, h2⟩ := eC_t hk
    rw [(e8 LL 7 (by decide)).2] at h1 h2
    exact hend LL g (Nat.eq_of_beq_eq_true h1) (Nat.eq_of_beq_eq_true h2)
  -- the head
  have hhead : eGo p l e room_1 s m #[Value.ref b] below meth c (lw_Z below #[Value.ref b] s) D A fo eQL 23 eL1 [] eG1 := by
    intro sg tys ws H locs cells slots ls stv hN hLr hst hc hs'
    have hst0 := eLs_n hst
    subst hst0
    obtain ⟨x4, r4, l4⟩ := hloc hLr 4 1 eL1_s.2 (by decide)
    obtain ⟨x0, r0, l0⟩ := hloc hLr 0 30 eL1_s.1 (by decide)
    obtain ⟨-, rfl⟩ := eR_1 r4 (by decide)
    have hx0 : x0 = fo.1 3 := eR_6 r0 (by decide)
    rw [f3] at hx0
    subst hx0
    refine eHd23 hx hb l4 l0 hX hbl hbA hN.2.2.2.1 (fun _ => eOut hx hb hr hlk hA1 hN.2.2.2.1 (Nat.le_trans (Nat.le_add_right _ _) hc) (Nat.le_trans (Nat.le_add_right _ _) hs')) (fun h => ?_)
    have h6 : L = 6 := by
      have hcases : L = 0 ∨ L = 1 ∨ L = 2 ∨ L = 3 ∨ L = 4 ∨ L = 5 ∨ L = 6 := by omega
      rcases hcases with rfl | rfl | rfl | rfl | rfl | rfl | rfl
      · exact absurd (by decide) h
      · exact absurd (by decide) h
      · exact absurd (by decide) h
      · exact absurd (by decide) h
      · exact absurd (by decide) h
      · exact absurd (by decide) h
      · rfl
    subst h6
    have hL2 : eLr (eAd ws) sg fo 7 eL2 ls := by
      obtain ⟨lv, g1, g2⟩ := hLr
      obtain ⟨x, g3, g4⟩ := g2 0 (by rw [eL1_s.1]; decide)
      rw [eL1_s.1] at g3
      have hx : x = fo.1 3 := eR_6 g3 (by decide)
      rw [f3] at hx
      subst hx
      refine ⟨lv, g1, fun j hj => ?_⟩
      rw [eL2_eq, eSl_set (by decide)] at hj ⊢
      by_cases e0 : j = 0
      · subst e0
        rw [if_pos rfl]
        exact ⟨.ref b, ⟨by decide, Or.inr (Or.inr (Or.inr (Or.inr (Or.inr ⟨by decide, by show _ = fo.1 4; rw [f4, ht4, if_pos rfl], Or.inr ⟨b, rfl⟩⟩))))⟩, g4⟩
      · rw [if_neg e0] at hj ⊢
        exact g2 j hj
    refine eHd33 hx hb l4 l0 hX hbl hbA hN.2.2.2.1 (fun j hj => ?_) ?_
    · exact eCase hlt hF hZ hreE j hj sg tys ws H locs cells slots ls [] hN hL2 hst hc hs'
    · exact eRun_ok 100 20 304 eQL eKe 1700 eL2 [] eG1 eQL_m eCs_d p e room_1 s m _ below meth c _ D A fo hF hreE sg tys ws H locs cells slots ls [] hN hL2 hst hc hs'
  have hre0 : eRe p l e room_1 s m #[Value.ref b] below meth c (lw_Z below #[Value.ref b] s) D A fo eQL eK0 := by
    have h7 : ∀ v g, eK0 v g = true → eTg v = 7 := fun v g h => by rw [(eK0_ok h).1]; exact (e8 eL1 7 (by decide)).1
    refine ⟨fun v g sg tys ws H locs cells slots pc ls x ty _ _ _ _ _ hk hv => absurd hv (eR_7 (h7 v g hk)), fun g sg tys ws H locs cells slots pc ls _ _ _ _ _ hk => absurd (h7 0 g hk) (by decide), fun LL g hk _ _ => ?_, fun g sg tys ws H locs cells slots pc ls _ _ _ _ _ _ _ h11 => absurd h11 (by decide)⟩
    obtain ⟨h1, rfl⟩ := eK0_ok hk
    have h2 : 8 * LL + 7 = 8 * eL1 + 7 := h1
    have h3 : LL = eL1 := by omega
    rw [h3]
    exact hhead
  have hl := lv_entry [Value.ref b] (n := 7) (by show (1 : Nat) ≤ 7; decide)
  rw [lg_entry_eq]
  generalize (lg_sl [Value.ref b] ++ List.replicate (7 - (lg_sl [Value.ref b]).length) Slot.unset).toArray = ls at hl ⊢
  refine eRun_ok 40000 20 304 eQL eK0 0 eL0 [] eG0 eQL_m eRun0 p e room_1 s m _ below meth c _ D A fo hF hre0 (eSg xs) [] [] s.heap [] 0 0 ls [] ⟨hD, fun k q hk => (by simp at hk), ⟨fun i j p q h => (by simp at h), fun k q hk => (by simp at hk)⟩, va_S.rf, ⟨eHp0, rfl, by decide, fun k a e hk => (by simp at hk)⟩, eSg_E xs⟩ ⟨_, hl, fun j hj => ?_⟩ ⟨⟨[], by rw [f21]; rfl⟩, ⟨[], by rw [f22]; simp⟩⟩ (by decide) (by decide)
  have h0 : eSl eL0 j = if j = 0 then 30 else 0 := by
    have e0 : eL0 = eBl 0 0 1 30 := by decide +kernel
    have e1 : eSl 0 j = 0 := by show (0 >>> (72 * j)) % 4722366482869645213696 = 0; rw [Nat.zero_shiftRight]
    rw [e0, eSl_set (by decide), e1]
  by_cases e0 : j = 0
  · subst e0
    rw [h0, if_pos rfl]
    exact ⟨.ref b, ⟨by decide, Or.inr (Or.inr (Or.inr (Or.inr (Or.inr ⟨by decide, by show _ = fo.1 3; rw [f3], Or.inr ⟨b, rfl⟩⟩))))⟩, List.mem_cons_self⟩
  · rw [h0, if_neg e0] at hj
    exact absurd rfl hj
end EvSt3
