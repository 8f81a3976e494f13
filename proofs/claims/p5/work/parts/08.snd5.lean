section EvS5
variable {p : Program} {l : Launch} {e : Env} {R : Room} {s : State} {m : MethodId} {args : Array Value} {below : List Frame} {meth : Method} {c : Code} {Q : State → Prop} {D : va_G} {A : Nat → Prop} {fo : evF} {qm : evM} {dp : Nat}
variable {r : evR} {cl : evC} {kk : evK} {pc L : Nat} {st : List Nat} {g : evG} {sg : List Int32} {tys : List (ClassId × FieldType)} {ws : va_W} {H : Heap} {locs : List Loc}
theorem s_ast {pp : Nat → Bool} (hF : eFix p R s m args meth c A fo qm dp) (hr : ∀ pc L st g, r pc L st g = true → eGo p l e R s m args below meth c Q D A fo qm pc L st g)
    (row : ∀ (sg : List Int32) (tys : List (ClassId × FieldType)) (ws : va_W) (H : Heap) (locs : List Loc) (cells slots : Nat) (ls : Array Slot) (rest : List Value) (q a c' z v : Nat) (e' : va_E) (y : Int32) (x : Value), eNow s D A fo g sg tys ws H locs → ws[q]? = some (a, e') → pp (eKi c') = true → eCe (eAd ws) sg fo tys c' e' → vp_in y (eLe c') → y.toNatClampNeg = z → z < eLe c' → eR (eAd ws) sg fo v x → ¬ eKeep g (eKi c') v = 0 →
      (∀ e1 : va_E, (∀ d', (∀ i, i < eLe c' → ¬ i = z → eSl d' i = eSl (eDa c') i ∨ (eKi c' = 64 ∧ eSl d' i = 3)) → (eSl d' z = eKeep g (eKi c') v ∨ (eKi c' = 64 ∧ eSl d' z = 3)) → eCe (eAd ws) sg fo tys (eSd c' d') e1) →
        ∀ (H1 : Heap) (locs1 : List Loc), va_P D vwCl (ws.set q (a, e1)) H1 → va_D A (ws.set q (a, e1)) → va_S A s.heap H1 locs1 → W p l e R s m args below meth c H1 locs1 cells slots Q (F0 m (pc + 1) ls rest)) → W p l e R s m args below meth c H locs cells slots Q (F0 m pc ls (x :: .int y :: .ref a :: rest)))
    (hlt' : ∀ (ad : List Nat) (sg : List Int32) (ki v : Nat) (x : Value), eR ad sg fo v x → eKeep g ki v < 2 ^ 72)
    (h : hAst pp r cl kk pc L st g = true) : eGo p l e R s m args below meth c Q D A fo qm pc L st g := by
  intro sg tys ws H locs cells slots ls stv hN hL hst hc hs
  cases st with
  | nil => cases h
  | cons v st =>
    cases st with
    | nil => cases h
    | cons i st =>
      cases st with
      | nil => cases h
      | cons o rest =>
        obtain ⟨x, zs, rfl, hv, ht2⟩ := eLs_c hst
        obtain ⟨y, ys, rfl, hi, ht1⟩ := eLs_c ht2
        obtain ⟨u, xs, rfl, ho, ht⟩ := eLs_c ht1
        obtain ⟨h1, h⟩ := eC_t h
        obtain ⟨y, rfl⟩ := eR_I hi h1
        obtain ⟨q, h5, hp, hq, hki, h⟩ := eAtP_ok h
        obtain ⟨a, e', rfl, hw, hce, hq2⟩ := eHp_at hN ho h5 hp
        obtain ⟨j, m0, z, h, b1, b2, b3, rfl, b4, b5⟩ := eInR_ok hN.2.2.2.2.2 hi (eLe_lt _) h
        obtain ⟨h2, h⟩ := eC_f h
        obtain ⟨h3, h⟩ := eC_t h
        rw [eF_eq, eSetK_eq] at h
        refine row sg tys ws H locs cells slots ls xs q a _ z v e' _ x hN hw hki hce b4 b5 (by omega) hv (eB_f h2) (fun e1 he1 H1 locs1 hP hD hS => ?_)
        refine hr _ _ _ _ h sg tys _ H1 locs1 cells slots ls xs (eNow_set (hp := g.1) hN hw (he1 _ (fun i' hi' hne => ?_) ?_) hP hD hS) (by rw [eAd_set hw]; exact hL) (by rw [eAd_set hw]; exact ht) hc hs
        · cases hm : Nat.beq m0 0
          · rw [hm] at h3
            have key := eFill_ok (v := 3) (by decide) (Nat.add m0 1) (eDa (Lean.RArray.get g.1 q)) j i'
            by_cases hb : j ≤ i' ∧ i' < j + Nat.add m0 1
            · rw [if_pos hb] at key
              exact Or.inr ⟨Nat.eq_of_beq_eq_true h3, key⟩
            · rw [if_neg hb] at key
              exact Or.inl key
          · have e := Nat.eq_of_beq_eq_true hm
            have ez : z = j := by omega
            left
            show eSl (eBl _ j 1 _) i' = _
            rw [eSl_bl, ← ez]
            by_cases q1 : i' < z
            · rw [if_pos q1]
            · rw [if_neg q1, if_neg (by omega)]
        · cases hm : Nat.beq m0 0
          · rw [hm] at h3
            have key := eFill_ok (v := 3) (by decide) (Nat.add m0 1) (eDa (Lean.RArray.get g.1 q)) j z
            rw [if_pos ⟨b1, by show z < j + (m0 + 1); omega⟩] at key
            exact Or.inr ⟨Nat.eq_of_beq_eq_true h3, key⟩
          · have e := Nat.eq_of_beq_eq_true hm
            have ez : z = j := by omega
            left
            show eSl (eBl _ j 1 _) z = _
            rw [eSl_bl, ← ez, if_neg (Nat.lt_irrefl z), if_pos (Nat.lt_succ_self z), Nat.sub_self]
            exact eSl_0 (hlt' _ _ _ _ _ hv)
theorem eBl_cases {b t f : Bool} {P : Prop} (h : cond b t f = true) (h1 : b = true → t = true → P) (h2 : b = false → f = true → P) : P := by
  cases b
  · exact h2 rfl h
  · exact h1 rfl h
theorem eByte_ok {ad : List Nat} {sg : List Int32} {v : Nat} {x : Int32} (h : eR ad sg fo v (.int x)) : eR ad sg fo (eByte v) (.int x.toInt8.toInt32) := by
  unfold eByte
  cases h1 : Nat.beq (eTg v) 1
  · exact eR_any _
  · obtain ⟨p1, e1⟩ := eR_1 h (Nat.eq_of_beq_eq_true h1)
    cases e1
    have hm : ePl v % 256 < 256 := Nat.mod_lt _ (by decide)
    have hb : ((nI (ePl v)).toInt8.toInt32).toBitVec.toNat = if 128 ≤ ePl v % 256 then ePl v % 256 + 4294967040 else ePl v % 256 := by
      show (((nI (ePl v)).toBitVec.signExtend 8).signExtend 32).toNat = _
      have e8 : ((nI (ePl v)).toBitVec.signExtend 8).toNat = ePl v % 256 := by
        rw [BitVec.signExtend_eq_setWidth_of_le _ (by decide), BitVec.toNat_setWidth, pk_tn p1]
      rw [BitVec.toNat_signExtend, BitVec.toNat_setWidth, e8, BitVec.msb_eq_decide, e8]
      by_cases hq : 128 ≤ ePl v % 256
      · rw [if_pos hq, if_pos (by simpa using hq)]
        omega
      · rw [if_neg hq, if_neg (by simpa using hq)]
        omega
    cases h2 : Nat.blt (Nat.mod (ePl v) 256) 128
    · have h2 : 128 ≤ ePl v % 256 := eB_nl h2
      have q := eR_c (ad := ad) (sg := sg) (fo := fo) (n := Nat.add (Nat.mod (ePl v) 256) 4294967040) (by show ePl v % 256 + 4294967040 < 4294967296; omega)
      rw [show nI (Nat.add (Nat.mod (ePl v) 256) 4294967040) = (nI (ePl v)).toInt8.toInt32 from by
        apply Int32.toBitVec_inj.mp
        apply BitVec.eq_of_toNat_eq
        rw [hb, if_pos h2, pk_tn (by show ePl v % 256 + 4294967040 < 4294967296; omega)]
        rfl] at q
      exact q
    · have h2 : ePl v % 256 < 128 := eB_l h2
      have q := eR_c (ad := ad) (sg := sg) (fo := fo) (n := Nat.mod (ePl v) 256) (by show ePl v % 256 < 4294967296; omega)
      rw [show nI (Nat.mod (ePl v) 256) = (nI (ePl v)).toInt8.toInt32 from by
        apply Int32.toBitVec_inj.mp
        apply BitVec.eq_of_toNat_eq
        rw [hb, if_neg (by omega), pk_tn (by show ePl v % 256 < 4294967296; omega)]
        rfl] at q
      exact q
theorem eByte_lt (v : Nat) : eByte v < 2 ^ 72 := by
  unfold eByte
  cases Nat.beq (eTg v) 1
  · show 3 < 2 ^ 72
    decide
  · have hm : ePl v % 256 < 256 := Nat.mod_lt _ (by decide)
    cases Nat.blt (Nat.mod (ePl v) 256) 128
    · show 8 * (ePl v % 256 + 4294967040) + 1 < 2 ^ 72
      omega
    · show 8 * (ePl v % 256) + 1 < 2 ^ 72
      omega
theorem eKeep_lt (ad : List Nat) (sg : List Int32) (ki v : Nat) (x : Value) (h : eR ad sg fo v x) : eKeep g ki v < 2 ^ 72 := by
  have hv := h.1
  have h0 : 0 < 2 ^ 72 := by decide
  have hb := eByte_lt v
  unfold eKeep
  cases Nat.beq ki 64
  · cases Nat.beq ki 65
    · cases Nat.beq ki 66
      · cases Nat.beq ki 67
        · cases Nat.ble 128 ki
          · exact h0
          · show cond (eAt g v (Nat.sub ki 128) (fun _ _ => true)) v 0 < _
            cases eAt g v (Nat.sub ki 128) (fun _ _ => true)
            · exact h0
            · exact hv
        · show cond (cond (Nat.beq v 1) true (Nat.beq v 9)) v 0 < _
          cases cond (Nat.beq v 1) true (Nat.beq v 9)
          · exact h0
          · exact hv
      · show cond (eIsI v) (eByte v) 0 < _
        cases eIsI v
        · exact h0
        · exact hb
    · show cond (Nat.beq (eTg v) 4) v 0 < _
      cases Nat.beq (eTg v) 4
      · exact h0
      · exact hv
  · show cond (eIsI v) v 0 < _
    cases eIsI v
    · exact h0
    · exact hv
theorem eKeep_64 {v : Nat} (h : ¬ eKeep g 64 v = 0) : eIsI v = true ∧ eKeep g 64 v = v := by
  have e : eKeep g 64 v = cond (eIsI v) v 0 := rfl
  rw [e] at h ⊢
  cases hi : eIsI v
  · rw [hi] at h; exact absurd rfl h
  · exact ⟨rfl, rfl⟩
theorem eKeep_65 {v : Nat} (h : ¬ eKeep g 65 v = 0) : eTg v = 4 ∧ eKeep g 65 v = v := by
  have e : eKeep g 65 v = cond (Nat.beq (eTg v) 4) v 0 := rfl
  rw [e] at h ⊢
  cases hi : Nat.beq (eTg v) 4
  · rw [hi] at h; exact absurd rfl h
  · exact ⟨Nat.eq_of_beq_eq_true hi, rfl⟩
theorem eKeep_66 {v : Nat} (h : ¬ eKeep g 66 v = 0) : eIsI v = true ∧ eKeep g 66 v = eByte v := by
  have e : eKeep g 66 v = cond (eIsI v) (eByte v) 0 := rfl
  rw [e] at h ⊢
  cases hi : eIsI v
  · rw [hi] at h; exact absurd rfl h
  · exact ⟨rfl, rfl⟩
theorem eKeep_67 {v : Nat} (h : ¬ eKeep g 67 v = 0) : (v = 1 ∨ v = 9) ∧ eKeep g 67 v = v := by
  have e : eKeep g 67 v = cond (cond (Nat.beq v 1) true (Nat.beq v 9)) v 0 := rfl
  rw [e] at h ⊢
  cases h1 : Nat.beq v 1
  · rw [h1] at h
    cases h2 : Nat.beq v 9
    · rw [h2] at h; exact absurd rfl h
    · exact ⟨Or.inr (Nat.eq_of_beq_eq_true h2), rfl⟩
  · exact ⟨Or.inl (Nat.eq_of_beq_eq_true h1), rfl⟩
theorem eKeep_q {ki v : Nat} (hk : 128 ≤ ki) (h : ¬ eKeep g ki v = 0) : eAt g v (Nat.sub ki 128) (fun _ _ => true) = true ∧ eKeep g ki v = v := by
  have b : ∀ n, n < 128 → Nat.beq ki n = false := fun n hn => by rw [← Bool.not_eq_true]; intro q; have := Nat.eq_of_beq_eq_true q; omega
  have e : eKeep g ki v = cond (eAt g v (Nat.sub ki 128) (fun _ _ => true)) v 0 := by
    unfold eKeep
    rw [b 64 (by decide), b 65 (by decide), b 66 (by decide), b 67 (by decide), Nat.ble_eq_true_of_le hk]
    rfl
  rw [e] at h ⊢
  cases hi : eAt g v (Nat.sub ki 128) (fun _ _ => true)
  · rw [hi] at h; exact absurd rfl h
  · exact ⟨rfl, rfl⟩
theorem eUpd (f : Nat → Int32) (k : Nat) (x : Int32) (j : Nat) : upd f k x j = if j = k then x else f j := by
  by_cases h : j = k
  · rw [if_pos h, h, pk_us]
  · rw [if_neg h, pk_un h]
theorem s_iast (hF : eFix p R s m args meth c A fo qm dp) (hr : ∀ pc L st g, r pc L st g = true → eGo p l e R s m args below meth c Q D A fo qm pc L st g) (hd : decode qm.2.1 pc = .ok (.iastore, 1)) (h : hAst (fun k => Nat.beq k 64) r cl kk pc L st g = true) : eGo p l e R s m args below meth c Q D A fo qm pc L st g := by
  refine s_ast hF hr (fun sg tys ws H locs cells slots ls rest q a c' z v e' y x hN hw hki hce hin hz hlt hv hk k => ?_) eKeep_lt h
  have hki := Nat.eq_of_beq_eq_true hki
  rw [hki] at hk
  obtain ⟨i1, i2⟩ := eKeep_64 hk
  obtain ⟨x, rfl⟩ := eR_I hv i1
  rcases hce with ⟨fs, r0, h1, h2, h3, h4⟩ | ⟨cA, f, t, ty, h1, h2, h3, h4⟩ | ⟨cA, f, t, h1, h2, h3, h4⟩ | ⟨cA, f, t, h1, h2, h3, h4, h5⟩
  · have : eKi c' < 13 := (List.getElem?_eq_some_iff.mp h2).1
    omega
  · rcases h3 with ⟨-, rfl⟩ | ⟨q1, -⟩ | ⟨q1, -⟩
    · subst h1
      refine va_iast hF.1 hF.2.1 hN.1 hN.2.1 hN.2.2.1 hN.2.2.2.1 q t hw h2 hin hd (k _ (fun d' hd1 hd2 => ?_))
      obtain ⟨e1, e2, e3⟩ := eSd_ki c' d'
      refine Or.inr (Or.inl ⟨cA, _, t, .int, by rw [e2], h2, Or.inl ⟨by rw [e1]; exact hki, rfl⟩, fun j hj => ?_⟩)
      rw [e2] at hj
      rw [e3, hz, eUpd]
      by_cases ej : j = z
      · subst ej
        rw [if_pos rfl]
        rcases hd2 with q1 | ⟨-, q1⟩
        · rw [q1, hki, i2]; exact hv
        · rw [q1]; exact eR_any _
      · rw [if_neg ej]
        rcases hd1 j hj ej with q1 | ⟨-, q1⟩
        · rw [q1]; exact h4 j hj
        · rw [q1]; exact eR_any _
    · omega
    · omega
  · omega
  · omega
theorem s_last (hF : eFix p R s m args meth c A fo qm dp) (hr : ∀ pc L st g, r pc L st g = true → eGo p l e R s m args below meth c Q D A fo qm pc L st g) (hd : decode qm.2.1 pc = .ok (.lastore, 1)) (h : hAst (fun k => Nat.beq k 65) r cl kk pc L st g = true) : eGo p l e R s m args below meth c Q D A fo qm pc L st g := by
  refine s_ast hF hr (fun sg tys ws H locs cells slots ls rest q a c' z v e' y x hN hw hki hce hin hz hlt hv hk k => ?_) eKeep_lt h
  have hki := Nat.eq_of_beq_eq_true hki
  rw [hki] at hk
  obtain ⟨i1, i2⟩ := eKeep_65 hk
  obtain ⟨-, rfl⟩ := eR_L hv i1
  rcases hce with ⟨fs, r0, h1, h2, h3, h4⟩ | ⟨cA, f, t, ty, h1, h2, h3, h4⟩ | ⟨cA, f, t, h1, h2, h3, h4⟩ | ⟨cA, f, t, h1, h2, h3, h4, h5⟩
  · have : eKi c' < 13 := (List.getElem?_eq_some_iff.mp h2).1
    omega
  · omega
  · subst h1
    refine va_last hF.1 hF.2.1 hN.1 hN.2.1 hN.2.2.1 hN.2.2.2.1 q t hw h2 hin hd (k _ (fun d' hd1 hd2 => ?_))
    obtain ⟨e1, e2, e3⟩ := eSd_ki c' d'
    refine Or.inr (Or.inr (Or.inl ⟨cA, _, t, by rw [e2], h2, by rw [e1]; exact hki, fun j hj => ?_⟩))
    rw [e2] at hj
    rw [e3, hz]
    unfold vp_updL
    by_cases ej : j = z
    · subst ej
      rw [if_pos rfl]
      rcases hd2 with q1 | ⟨q0, -⟩
      · rw [q1, hki, i2]; exact hv
      · omega
    · rw [if_neg ej]
      rcases hd1 j hj ej with q1 | ⟨q0, -⟩
      · rw [q1]; exact h4 j hj
      · omega
  · omega
theorem s_bast (hF : eFix p R s m args meth c A fo qm dp) (hr : ∀ pc L st g, r pc L st g = true → eGo p l e R s m args below meth c Q D A fo qm pc L st g) (hd : decode qm.2.1 pc = .ok (.bastore, 1)) (h : hAst (fun k => cond (Nat.beq k 66) true (Nat.beq k 67)) r cl kk pc L st g = true) : eGo p l e R s m args below meth c Q D A fo qm pc L st g := by
  refine s_ast hF hr (fun sg tys ws H locs cells slots ls rest q a c' z v e' y x hN hw hki hce hin hz hlt hv hk k => ?_) eKeep_lt h
  have hki : eKi c' = 66 ∨ eKi c' = 67 := by
    cases hb : Nat.beq (eKi c') 66
    · have hki : cond (Nat.beq (eKi c') 66) true (Nat.beq (eKi c') 67) = true := hki
      rw [hb] at hki
      exact Or.inr (Nat.eq_of_beq_eq_true hki)
    · exact Or.inl (Nat.eq_of_beq_eq_true hb)
  rcases hce with ⟨fs, r0, h1, h2, h3, h4⟩ | ⟨cA, f, t, ty, h1, h2, h3, h4⟩ | ⟨cA, f, t, h1, h2, h3, h4⟩ | ⟨cA, f, t, h1, h2, h3, h4, h5⟩
  · have : eKi c' < 13 := (List.getElem?_eq_some_iff.mp h2).1
    omega
  · subst h1
    rcases h3 with ⟨q1, -⟩ | ⟨hk6, rfl⟩ | ⟨hk6, rfl⟩
    · omega
    · rw [hk6] at hk
      obtain ⟨i1, i2⟩ := eKeep_66 hk
      obtain ⟨x, rfl⟩ := eR_I hv i1
      refine va_bast hF.1 hF.2.1 hN.1 hN.2.1 hN.2.2.1 hN.2.2.2.1 q t hw h2 hin hd (k _ (fun d' hd1 hd2 => ?_))
      obtain ⟨e1, e2, e3⟩ := eSd_ki c' d'
      refine Or.inr (Or.inl ⟨cA, _, t, .byte, by rw [e2], h2, Or.inr (Or.inl ⟨by rw [e1]; exact hk6, rfl⟩), fun j hj => ?_⟩)
      rw [e2] at hj
      rw [e3, hz, eUpd]
      by_cases ej : j = z
      · subst ej
        rw [if_pos rfl]
        rcases hd2 with q1 | ⟨q0, -⟩
        · rw [q1, hk6, i2, vp_nar_byte]; exact eByte_ok hv
        · omega
      · rw [if_neg ej]
        rcases hd1 j hj ej with q1 | ⟨q0, -⟩
        · rw [q1]; exact h4 j hj
        · omega
    · rw [hk6] at hk
      obtain ⟨i1, i2⟩ := eKeep_67 hk
      have hx : x = .int 0 ∨ x = .int 1 := by
        rcases i1 with rfl | rfl
        · exact Or.inl (eR_1 hv rfl).2
        · exact Or.inr (eR_1 hv rfl).2
      have hx2 : ∃ w : Int32, x = .int w ∧ vp_nar .boolean w = w := by
        rcases hx with rfl | rfl
        · exact ⟨0, rfl, by decide⟩
        · exact ⟨1, rfl, by decide⟩
      obtain ⟨w, rfl, hw2⟩ := hx2
      refine va_zast hF.1 hF.2.1 hN.1 hN.2.1 hN.2.2.1 hN.2.2.2.1 q t hw h2 hin hd (k _ (fun d' hd1 hd2 => ?_))
      obtain ⟨e1, e2, e3⟩ := eSd_ki c' d'
      refine Or.inr (Or.inl ⟨cA, _, t, .boolean, by rw [e2], h2, Or.inr (Or.inr ⟨by rw [e1]; exact hk6, rfl⟩), fun j hj => ?_⟩)
      rw [e2] at hj
      rw [e3, hz, eUpd, hw2]
      by_cases ej : j = z
      · subst ej
        rw [if_pos rfl]
        rcases hd2 with q1 | ⟨q0, -⟩
        · rw [q1, hk6, i2]; exact hv
        · omega
      · rw [if_neg ej]
        rcases hd1 j hj ej with q1 | ⟨q0, -⟩
        · rw [q1]; exact h4 j hj
        · omega
  · omega
  · omega
theorem eVw : ∀ (ci : Nat) (r0 : vw_C), vwCl[ci]? = some r0 → r0.1 = eCn ci := by
  intro ci r0 h
  have hl : ci < 13 := (List.getElem?_eq_some_iff.mp h).1
  rcases (show ci = 0 ∨ ci = 1 ∨ ci = 2 ∨ ci = 3 ∨ ci = 4 ∨ ci = 5 ∨ ci = 6 ∨ ci = 7 ∨ ci = 8 ∨ ci = 9 ∨ ci = 10 ∨ ci = 11 ∨ ci = 12 by omega) with rfl | rfl | rfl | rfl | rfl | rfl | rfl | rfl | rfl | rfl | rfl | rfl | rfl <;> (cases h; rfl)
theorem s_aast (hF : eFix p R s m args meth c A fo qm dp) (hr : ∀ pc L st g, r pc L st g = true → eGo p l e R s m args below meth c Q D A fo qm pc L st g) (hd : decode qm.2.1 pc = .ok (.aastore, 1)) (h : hAst (fun k => Nat.ble 128 k) r cl kk pc L st g = true) : eGo p l e R s m args below meth c Q D A fo qm pc L st g := by
  refine s_ast hF hr (fun sg tys ws H locs cells slots ls rest q a c' z v e' y x hN hw hki hce hin hz hlt hv hk k => ?_) eKeep_lt h
  have hki := Nat.le_of_ble_eq_true hki
  obtain ⟨i1, i2⟩ := eKeep_q hki hk
  obtain ⟨qv, v5, vp, vq, vki, -⟩ := eAt_ok i1
  obtain ⟨av, ev, rfl, hwv, hcv, -⟩ := eHp_at hN hv v5 vp
  rcases hce with ⟨fs, r0, h1, h2, h3, h4⟩ | ⟨cA, f, t, ty, h1, h2, h3, h4⟩ | ⟨cA, f, t, h1, h2, h3, h4⟩ | ⟨cA, f, t, h1, h2, h3, h4, h5⟩
  · have : eKi c' < 13 := (List.getElem?_eq_some_iff.mp h2).1
    omega
  · omega
  · omega
  · subst h1
    have hlv : eKi (Lean.RArray.get g.1 qv) < 13 := by rw [vki]; show eKi c' - 128 < 13; omega
    rcases hcv with ⟨fs, r0, g1, g2, g3, g4⟩ | ⟨cA', f', t', ty', g1, g2, g3, g4⟩ | ⟨cA', f', t', g1, g2, g3, g4⟩ | ⟨cA', f', t', g1, g2, g3, g4, g5⟩
    · subst g1
      have e0 : r0.1 = eCn (eKi c' - 128) := by rw [eVw _ _ g2, vki]; rfl
      refine va_astq hF.1 hF.2.1 hN.1 hN.2.1 hN.2.2.1 hN.2.2.2.1 q t qv _ hw (by rw [e0]; exact h2) hwv g2 hin hd (k _ (fun d' hd1 hd2 => ?_))
      obtain ⟨e1, e2, e3⟩ := eSd_ki c' d'
      refine Or.inr (Or.inr (Or.inr ⟨cA, _, t, by rw [e2], by rw [e1]; exact h2, by rw [e1]; exact h3, by rw [e1]; exact h4, fun j hj => ?_⟩))
      rw [e2] at hj
      rw [e3, hz]
      unfold va_up
      by_cases ej : j = z
      · subst ej
        rw [if_pos rfl]
        rcases hd2 with q1 | ⟨q0, -⟩
        · rw [q1, i2]; exact hv
        · omega
      · rw [if_neg ej]
        rcases hd1 j hj ej with q1 | ⟨q0, -⟩
        · rw [q1]; exact h5 j hj
        · omega
    · omega
    · omega
    · omega
end EvS5
