section EvS9
theorem eLook_mem (l : List (Nat × Nat)) (x : Nat) : eLook l x = 0 ∨ (x, eLook l x) ∈ l := by
  induction l with
  | nil => exact Or.inl rfl
  | cons q l ih =>
    have e : eLook (q :: l) x = cond (Nat.beq q.1 x) q.2 (eLook l x) := rfl
    rw [e]
    cases h : Nat.beq q.1 x
    · rcases ih with h1 | h1
      · exact Or.inl h1
      · exact Or.inr (List.mem_cons_of_mem _ h1)
    · have h1 := Nat.eq_of_beq_eq_true h
      right
      rw [← h1]
      exact List.mem_cons_self
theorem eKey {own idx : Nat} (h : idx < 65536) : Nat.add (Nat.mul 65536 own) idx / 65536 = own ∧ Nat.add (Nat.mul 65536 own) idx % 65536 = idx := by
  show (65536 * own + idx) / 65536 = own ∧ (65536 * own + idx) % 65536 = idx
  omega
theorem eOkB_get {t : Lean.RArray (Nat × Instr × Nat)} {b : ByteArray} (h : eOkB t b = true) (n : Nat) : decode b (Lean.RArray.get t n).1 = .ok (Lean.RArray.get t n).2 := by
  induction t with
  | leaf q => exact of_decide_eq_true h
  | branch p l r ihl ihr =>
    have h : cond (eOkB l b) (eOkB r b) false = true := h
    obtain ⟨h1, h2⟩ := eC_t h
    show decode b (@Bool.rec (fun _ => Nat × Instr × Nat) (Lean.RArray.get l n) (Lean.RArray.get r n) (Nat.ble p n)).1 = .ok (@Bool.rec (fun _ => Nat × Instr × Nat) (Lean.RArray.get l n) (Lean.RArray.get r n) (Nat.ble p n)).2
    cases Nat.ble p n
    · exact ihl h1
    · exact ihr h2
theorem eRtI_ok {ad : List Nat} {sg : List Int32} {fo : evF} {rt : Option FieldType} {v : Nat} {x : Value} (h : eRtI rt v = true) (hv : eR ad sg fo v x) : ∃ ty y, rt = some ty ∧ x = .int y ∧ narrow ty (.int y) = .int y := by
  unfold eRtI at h
  split at h
  · obtain ⟨y, rfl⟩ := eR_I hv h
    exact ⟨_, y, rfl, rfl, rfl⟩
  · cases h1 : Nat.beq v 1
    · rw [h1] at h
      have e := Nat.eq_of_beq_eq_true (show Nat.beq v 9 = true from h)
      subst e
      exact ⟨_, _, rfl, (eR_1 hv rfl).2, by decide⟩
    · have e := Nat.eq_of_beq_eq_true h1
      subst e
      exact ⟨_, _, rfl, (eR_1 hv rfl).2, by decide⟩
  · obtain ⟨h1, h2⟩ := eC_t h
    have h2 := eB_l h2
    refine ⟨_, _, rfl, (eR_1 hv (Nat.eq_of_beq_eq_true h1)).2, ?_⟩
    have key : ∀ n, n < 128 → (nI n).toInt8.toInt32 = nI n := by decide
    show Value.int ((nI (ePl v)).toInt8.toInt32) = _
    rw [key _ h2]
  · obtain ⟨h1, h2⟩ := eC_t h
    exact ⟨_, _, rfl, (eR_1 hv (Nat.eq_of_beq_eq_true h1)).2, (pk_charN (eB_l h2)).1⟩
  · cases h
variable {p : Program} {l : Launch} {e : Env} {R : Room} {s : State} {m : MethodId} {args : Array Value} {below : List Frame} {meth : Method} {c : Code} {Q : State → Prop} {D : va_G} {A : Nat → Prop} {fo : evF} {qm : evM} {dp : Nat}
variable {r : evR} {cl : evC} {kk : evK} {pc L : Nat} {st : List Nat} {g : evG}
theorem s_retI (hre : eRe p l e R s m args below meth c Q D A fo qm kk) (hd : decode qm.2.1 pc = .ok (.ireturn, 1)) (h : hRetI qm.2.2.2.1 r cl kk pc L st g = true) : eGo p l e R s m args below meth c Q D A fo qm pc L st g := by
  intro sg tys ws H locs cells slots ls stv hN hL hst hc hs
  cases st with
  | nil => cases h
  | cons v st =>
    cases st with
    | cons w st => cases h
    | nil =>
      obtain ⟨h1, h2⟩ := eC_t h
      obtain ⟨x, xs, rfl, hv, ht⟩ := eLs_c hst
      obtain ⟨ty, y, e1, rfl, e2⟩ := eRtI_ok h1 hv
      cases xs with
      | cons z zs => exact ht.elim
      | nil => exact hre.1 v g sg tys ws H locs cells slots pc ls y ty hN ht.1 ht.2 hc hs h2 hv e1 e2 hd
theorem s_retV (hre : eRe p l e R s m args below meth c Q D A fo qm kk) (hd : decode qm.2.1 pc = .ok (.return_, 1)) (h0 : Option.isNone qm.2.2.2.1 = true) (h : hRetV r cl kk pc L st g = true) : eGo p l e R s m args below meth c Q D A fo qm pc L st g := by
  intro sg tys ws H locs cells slots ls stv hN hL hst hc hs
  cases st with
  | cons w st => cases h
  | nil =>
    cases stv with
    | cons z zs => exact hst.elim
    | nil => exact hre.2.1 g sg tys ws H locs cells slots pc ls hN hst.1 hst.2 hc hs h (Option.isNone_iff_eq_none.mp h0) hd
theorem eLn_ok {len n : Nat} {hh : evH} (h : eLn len n hh r cl kk pc L st g = true) : len = n ∧ hh r cl kk pc L st g = true := by
  unfold eLn at h
  cases h1 : Nat.beq len n
  · rw [h1] at h; cases h
  · rw [h1] at h; exact ⟨Nat.eq_of_beq_eq_true h1, h⟩
theorem eCh {b : Bool} {h1 h2 : evH} (h : cond b h1 h2 r cl kk pc L st g = true) : (b = true ∧ h1 r cl kk pc L st g = true) ∨ (b = false ∧ h2 r cl kk pc L st g = true) := by
  cases b
  · exact Or.inr ⟨rfl, h⟩
  · exact Or.inl ⟨rfl, h⟩
theorem eIdx {idx : Nat} {P : Nat × Nat → Prop} {l0 : List (Nat × Nat)} (own : Nat) (hP : ∀ q ∈ l0, P q) (h0 : ¬ eLook l0 (Nat.add (Nat.mul 65536 own) idx) = 0) : P (Nat.add (Nat.mul 65536 own) idx, eLook l0 (Nat.add (Nat.mul 65536 own) idx)) := by
  rcases eLook_mem l0 (Nat.add (Nat.mul 65536 own) idx) with h | h
  · exact absurd h h0
  · exact hP _ h
theorem s_getX {idx : Nat} (hF : eFix p R s m args meth c A fo qm dp) (hi : idx < 65536) (hr : ∀ pc L st g, r pc L st g = true → eGo p l e R s m args below meth c Q D A fo qm pc L st g) (hd : decode qm.2.1 pc = .ok (.getfield idx, 3)) (h : hGetX qm.2.2.2.2.1 idx r cl kk pc L st g = true) : eGo p l e R s m args below meth c Q D A fo qm pc L st g := by
  have hx := eIdx (idx := idx) (l0 := eFL) qm.2.2.2.2.1 eFL_ok
  unfold hGetX at h
  revert h hx
  generalize eLook eFL (Nat.add (Nat.mul 65536 qm.2.2.2.2.1) idx) = z
  intro h hx
  cases z with
  | zero => cases h
  | succ z =>
    obtain ⟨C, T, N, h1, h2, h3, h4, -⟩ := hx (Nat.succ_ne_zero z)
    have e := eKey (own := qm.2.2.2.2.1) hi
    dsimp only at h1 h2 h3 h4
    rw [e.1, e.2] at h3
    rw [Nat.add_sub_cancel] at h1 h2 h3
    exact s_get hF hr h1 h2 h3 (eCok_all _ _ _ _ h1).1 hd h
theorem eFit_ok {tc : Nat} {ty : FieldType} (ht : eTyc tc ty = true) {ad : List Nat} {sg : List Int32} {v : Nat} {x : Value} (hv : eR ad sg fo v x) (hf : eFit tc v = true) : narrow ty x = x ∧ fits ty x = true := by
  unfold eTyc at ht
  split at ht
  · have e := Nat.eq_of_beq_eq_true ht
    subst e
    obtain ⟨y, rfl⟩ := eR_I hv hf
    exact ⟨rfl, rfl⟩
  · have e := Nat.eq_of_beq_eq_true ht
    subst e
    have hf : cond (Nat.beq v 1) true (Nat.beq v 9) = true := hf
    cases h1 : Nat.beq v 1
    · rw [h1] at hf
      have e := Nat.eq_of_beq_eq_true (show Nat.beq v 9 = true from hf)
      subst e
      rw [(eR_1 hv rfl).2]
      exact ⟨by decide, by decide⟩
    · have e := Nat.eq_of_beq_eq_true h1
      subst e
      rw [(eR_1 hv rfl).2]
      exact ⟨by decide, by decide⟩
  · have e := Nat.eq_of_beq_eq_true ht
    subst e
    have := eR_L hv (Nat.eq_of_beq_eq_true (show Nat.beq (eTg v) 4 = true from hf))
    rw [this.2]
    exact ⟨rfl, rfl⟩
  · have e := Nat.eq_of_beq_eq_true ht
    subst e
    rcases eR_A hv hf with rfl | ⟨a, rfl⟩
    · exact ⟨rfl, rfl⟩
    · exact ⟨rfl, rfl⟩
  · have e := Nat.eq_of_beq_eq_true ht
    subst e
    rcases eR_A hv hf with rfl | ⟨a, rfl⟩
    · exact ⟨rfl, rfl⟩
    · exact ⟨rfl, rfl⟩
  · cases ht
theorem s_putX {idx : Nat} {ini : Bool} (hini : ini = true → meth.name = "<init>") (hF : eFix p R s m args meth c A fo qm dp) (hi : idx < 65536) (hr : ∀ pc L st g, r pc L st g = true → eGo p l e R s m args below meth c Q D A fo qm pc L st g) (hd : decode qm.2.1 pc = .ok (.putfield idx, 3)) (h : hPutX ini qm.2.2.2.2.1 idx r cl kk pc L st g = true) : eGo p l e R s m args below meth c Q D A fo qm pc L st g := by
  have hx := eIdx (idx := idx) (l0 := eFL) qm.2.2.2.2.1 eFL_ok
  unfold hPutX at h
  revert h hx
  generalize eLook eFL (Nat.add (Nat.mul 65536 qm.2.2.2.2.1) idx) = z
  intro h hx
  cases z with
  | zero => cases h
  | succ z =>
    obtain ⟨C, T, N, h1, h2, h3, h4, h5⟩ := hx (Nat.succ_ne_zero z)
    have e := eKey (own := qm.2.2.2.2.1) hi
    dsimp only at h1 h2 h3 h4 h5
    rw [e.1, e.2] at h3
    rw [Nat.add_sub_cancel] at h1 h2 h3 h4 h5
    obtain ⟨k1, ⟨ty0, k2, -⟩, k3, k4, -⟩ := eCok_all _ _ _ _ h1
    rcases eCh h with ⟨hb, h⟩ | ⟨-, h⟩
    · refine s_put hF hr h1 h2 h3 k1 k2 k3 ?_ (fun ad sg v x hv hf => eFit_ok (h5 _ (k2 _ h2)) hv hf) hd h
      cases hz : Nat.beq (Nat.div z 16384) 0
      · rw [hz] at hb
        have hb : cond ini (Nat.beq (Nat.mod z 64) qm.2.2.2.2.1) false = true := hb
        obtain ⟨b1, b2⟩ := eC_t hb
        have b2 : z % 64 = qm.2.2.2.2.1 := Nat.eq_of_beq_eq_true b2
        right
        refine ⟨?_, hini b1, ?_⟩
        · rw [h4]
          have hz : z / 16384 ≠ 0 := eB_f hz
          exact Nat.ble_eq_true_of_le (by show 0 + 1 ≤ z / 16384; omega)
        · rw [k4 _ h2, ← b2]
          exact eVw _ _ h1
      · left
        have hz : z / 16384 = 0 := Nat.eq_of_beq_eq_true hz
        rw [h4, hz]
        rfl
    · cases h
theorem s_newX {idx : Nat} (hF : eFix p R s m args meth c A fo qm dp) (hi : idx < 65536) (hr : ∀ pc L st g, r pc L st g = true → eGo p l e R s m args below meth c Q D A fo qm pc L st g) (hd : decode qm.2.1 pc = .ok (.new idx, 3)) (h : hNewX qm.2.2.2.2.1 idx r cl kk pc L st g = true) : eGo p l e R s m args below meth c Q D A fo qm pc L st g := by
  have hx := eIdx (idx := idx) (l0 := eCL) qm.2.2.2.2.1 eCL_ok
  unfold hNewX at h
  revert h hx
  generalize eLook eCL (Nat.add (Nat.mul 65536 qm.2.2.2.2.1) idx) = z
  intro h hx
  cases z with
  | zero => cases h
  | succ z =>
    have hx := hx (Nat.succ_ne_zero z)
    have e := eKey (own := qm.2.2.2.2.1) hi
    unfold eCLok at hx
    dsimp only at hx
    rw [e.1, e.2, Nat.add_sub_cancel] at hx
    rcases eCh h with ⟨hb, h⟩ | ⟨-, h⟩
    · have hb : z < 13 := eB_l hb
      have hlen : vwCl.length = 13 := rfl
      obtain ⟨C, T, N, h1⟩ : ∃ C T N, vwCl[z]? = some (C, T, N) := ⟨_, _, _, List.getElem?_eq_getElem (by rw [hlen]; exact hb)⟩
      obtain ⟨k1, ⟨ty0, k2, k3⟩, k4, k5, k6, k7, k8, k9⟩ := eCok_all _ _ _ _ h1
      rw [k8] at h
      have hC : C = eCn z := eVw _ _ h1
      refine s_new (fs := (List.range N).map (fun j => defaultValue (ty0 j))) hF hr h1 k1 k2 (by rw [hC]; exact hx) k6 k7 k9 (by simp) (fun j hj => ?_) (fun ad sg k x hk => ?_) hd h
      · show _ = ((List.range N).map (fun j => defaultValue (ty0 j))).getD j .null
        rw [List.getD_eq_getElem?_getD, List.getElem?_map, List.getElem?_range hj]
        rfl
      · rw [List.getElem?_map] at hk
        by_cases hkN : k < N
        · rw [List.getElem?_range hkN] at hk
          cases hk
          rcases k3 k hkN with ⟨a1, a2⟩ | ⟨a1, a2⟩ | ⟨a1, a2⟩
          · show eR ad sg fo _ (defaultValue (ty0 k))
            rw [a1, a2]
            exact eR_0
          · show eR ad sg fo _ (defaultValue (ty0 k))
            rw [a1, a2]
            exact eR_l (n := 0) (by decide)
          · show eR ad sg fo _ (defaultValue (ty0 k))
            rw [a1, a2]
            exact eR_n
        · rw [List.getElem?_eq_none (by simp; omega)] at hk
          cases hk
    · cases h
theorem s_anewX {idx : Nat} (hF : eFix p R s m args meth c A fo qm dp) (hi : idx < 65536) (hr : ∀ pc L st g, r pc L st g = true → eGo p l e R s m args below meth c Q D A fo qm pc L st g) (hd : decode qm.2.1 pc = .ok (.anewarray idx, 3)) (h : hANewX qm.2.2.2.2.1 idx r cl kk pc L st g = true) : eGo p l e R s m args below meth c Q D A fo qm pc L st g := by
  have hx := eIdx (idx := idx) (l0 := eCL) qm.2.2.2.2.1 eCL_ok
  unfold hANewX at h
  revert h hx
  generalize eLook eCL (Nat.add (Nat.mul 65536 qm.2.2.2.2.1) idx) = z
  intro h hx
  cases z with
  | zero => cases h
  | succ z =>
    have hx := hx (Nat.succ_ne_zero z)
    have e := eKey (own := qm.2.2.2.2.1) hi
    unfold eCLok at hx
    dsimp only at hx
    rw [e.1, e.2, Nat.add_sub_cancel] at hx
    obtain ⟨adK, adV, f0, f1, f2, f3, f4, f5, f6, f7, f8, f9⟩ := id hF.2.2.2.2.2.2.2.2.2.2.1
    rcases eCh h with ⟨hb, h⟩ | ⟨-, h⟩
    · cases h3 : Nat.beq z 3
      · rw [h3] at hb
        have h4 : z = 4 := Nat.eq_of_beq_eq_true hb
        subst h4
        exact s_newq hF hr (by decide) hx f9 hd h
      · have h3 := Nat.eq_of_beq_eq_true h3
        subst h3
        exact s_newq hF hr (by decide) hx f8 hd h
    · cases h
theorem s_const {idx len : Nat} (hF : eFix p R s m args meth c A fo qm dp) (hi : idx < 65536) (hr : ∀ pc L st g, r pc L st g = true → eGo p l e R s m args below meth c Q D A fo qm pc L st g) (hd : (decode qm.2.1 pc = .ok (.ldc idx, 2) ∧ len = 2) ∨ (decode qm.2.1 pc = .ok (.ldc_w idx, 3) ∧ len = 3)) (h : hConst eLC qm.2.2.2.2.1 idx len r cl kk pc L st g = true) : eGo p l e R s m args below meth c Q D A fo qm pc L st g := by
  have hx := eIdx (idx := idx) (l0 := eLC) qm.2.2.2.2.1 eLC_ok
  unfold hConst at h
  revert h hx
  generalize eLook eLC (Nat.add (Nat.mul 65536 qm.2.2.2.2.1) idx) = z
  intro h hx
  cases z with
  | zero => cases h
  | succ z =>
    obtain ⟨n, n1, n2, n3⟩ := hx (Nat.succ_ne_zero z)
    have e := eKey (own := qm.2.2.2.2.1) hi
    dsimp only at n2 n3
    rw [e.1, e.2] at n3
    rw [n2] at h
    refine s_push (x := .int (nI n)) hr (fun ad sg => eR_c n1) (fun H locs cells slots ls rest k => ?_) h
    rcases hd with ⟨hd, rfl⟩ | ⟨hd, rfl⟩
    · exact lv_ldc hF.1 hF.2.1 hF.2.2.2.2.1 (hF.2.2.2.2.2.1 _ n3) hd k
    · exact lv_ldcw hF.1 hF.2.1 hF.2.2.2.2.1 (hF.2.2.2.2.2.1 _ n3) hd k
theorem s_const2 {idx : Nat} (hF : eFix p R s m args meth c A fo qm dp) (hi : idx < 65536) (hr : ∀ pc L st g, r pc L st g = true → eGo p l e R s m args below meth c Q D A fo qm pc L st g) (hd : decode qm.2.1 pc = .ok (.ldc2_w idx, 3)) (h : hConst eLL qm.2.2.2.2.1 idx 3 r cl kk pc L st g = true) : eGo p l e R s m args below meth c Q D A fo qm pc L st g := by
  have hx := eIdx (idx := idx) (l0 := eLL) qm.2.2.2.2.1 eLL_ok
  unfold hConst at h
  revert h hx
  generalize eLook eLL (Nat.add (Nat.mul 65536 qm.2.2.2.2.1) idx) = z
  intro h hx
  cases z with
  | zero => cases h
  | succ z =>
    obtain ⟨n, n1, n2, n3⟩ := hx (Nat.succ_ne_zero z)
    have e := eKey (own := qm.2.2.2.2.1) hi
    dsimp only at n2 n3
    rw [e.1, e.2] at n3
    rw [n2] at h
    exact s_push (x := .long (lN n)) hr (fun ad sg => eR_l n1) (fun H locs cells slots ls rest k => lv_ldc2 hF.1 hF.2.1 hF.2.2.2.2.1 (hF.2.2.2.2.2.1 _ n3) hd k) h
theorem s_min {idx : Nat} (hF : eFix p R s m args meth c A fo qm dp) (hr : ∀ pc L st g, r pc L st g = true → eGo p l e R s m args below meth c Q D A fo qm pc L st g) (hl : Jvm.Cond.methodLink (eCn qm.2.2.2.2.1) idx Lib.Math.min.name ∈ eGW) (w1 : Jvm.Cond.static Lib.Math.min.name ∈ eGW) (w2 : Jvm.Cond.initialized "java/lang/Math" ∈ eGW) (w3 : Jvm.Cond.code Lib.Math.min.name Lib.Math.min.code 2 (some .int) ∈ eGW)
    (hd : decode qm.2.1 pc = .ok (.invokestatic idx, 3)) (h : hMin r cl kk pc L st g = true) : eGo p l e R s m args below meth c Q D A fo qm pc L st g := by
  intro sg tys ws H locs cells slots ls stv hN hL hst hc hs
  cases st with
  | nil => cases h
  | cons b st =>
    cases st with
    | nil => cases h
    | cons a rest =>
      obtain ⟨y, ys, rfl, hb, ht1⟩ := eLs_c hst
      obtain ⟨x, xs, rfl, ha, ht⟩ := eLs_c ht1
      obtain ⟨h1, h⟩ := eC_t h
      obtain ⟨h1, h2⟩ := eC_t h1
      obtain ⟨h2, h3⟩ := eC_t h2
      have h3 := Nat.le_of_ble_eq_true h3
      obtain ⟨x, rfl⟩ := eR_I ha h1
      obtain ⟨y, rfl⟩ := eR_I hb h2
      obtain ⟨q1, q2⟩ := eLt_ok hN.2.2.2.2.2 hb ha h
      obtain ⟨lv, hlv, -⟩ := id hL
      have hsum := eSum_ok ht
      have hroom := hF.2.2.2.2.2.2.2.2.1
      refine va_mmin hF.1 hF.2.1 (by rw [hF.2.2.1]; exact hlv.1.symm) hF.2.2.2.2.1 (hF.2.2.2.2.2.1 _ hl) (hF.2.2.2.2.2.1 _ w1) (hF.2.2.2.2.2.1 _ w2) (hF.2.2.2.2.2.1 _ w3) (by omega) (by rw [hsum]; omega) (by omega) (by omega) hd ?_
      by_cases hlt : y < x
      · obtain ⟨env', e1, e2⟩ := q1 hlt
        rw [if_pos hlt]
        exact hr _ _ _ _ e2 sg tys ws H locs cells slots ls _ (eNow_env hN e1) hL ⟨hb, ht⟩ hc hs
      · obtain ⟨env', e1, e2⟩ := q2 hlt
        rw [if_neg hlt]
        exact hr _ _ _ _ e2 sg tys ws H locs cells slots ls _ (eNow_env hN e1) hL ⟨ha, ht⟩ hc hs
theorem eKm_ok {kind vk : Nat} (h : eKm kind vk = true) : vk = kind ∨ (kind = 2 ∧ vk = 3) := by
  unfold eKm at h
  cases h1 : Nat.beq kind vk
  · rw [h1] at h
    have h : cond (Nat.beq kind 2) (Nat.beq vk 3) false = true := h
    obtain ⟨a, b⟩ := eC_t h
    exact Or.inr ⟨Nat.eq_of_beq_eq_true a, Nat.eq_of_beq_eq_true b⟩
  · exact Or.inl (Nat.eq_of_beq_eq_true h1).symm
theorem s_callX {idx kind : Nat} (hF : eFix p R s m args meth c A fo qm dp) (hi : idx < 65536) (hr : ∀ pc L st g, r pc L st g = true → eGo p l e R s m args below meth c Q D A fo qm pc L st g) (hcl : eCo l dp cl) (wo : Jvm.Cond.instanceMethod objectInit ∈ eGW ∧ Jvm.Cond.code objectInit ⟨#[0xb1]⟩ 1 none ∈ eGW) (wc : Jvm.Cond.native arraycopyName ∈ eGW ∧ Jvm.Cond.static arraycopyName ∈ eGW ∧ Jvm.Cond.initialized "java/lang/System" ∈ eGW) (wm : Jvm.Cond.static Lib.Math.min.name ∈ eGW ∧ Jvm.Cond.initialized "java/lang/Math" ∈ eGW ∧ Jvm.Cond.code Lib.Math.min.name Lib.Math.min.code 2 (some .int) ∈ eGW)
    (hd : (kind = 0 ∧ decode qm.2.1 pc = .ok (.invokestatic idx, 3)) ∨ (kind = 1 ∧ decode qm.2.1 pc = .ok (.invokevirtual idx, 3)) ∨ (kind = 2 ∧ decode qm.2.1 pc = .ok (.invokespecial idx, 3))) (h : hCallX qm.2.2.2.2.1 idx kind r cl kk pc L st g = true) : eGo p l e R s m args below meth c Q D A fo qm pc L st g := by
  have hx := eIdx (idx := idx) (l0 := eML) qm.2.2.2.2.1 eML_ok
  unfold hCallX at h
  revert h hx
  generalize eLook eML (Nat.add (Nat.mul 65536 qm.2.2.2.2.1) idx) = z
  intro h hx
  have e := eKey (own := qm.2.2.2.2.1) hi
  unfold hCallV at h
  rcases eCh h with ⟨-, h'⟩ | ⟨h0, hA⟩
  · cases h'
  have hx := hx (eB_f h0)
  unfold eMLok at hx
  dsimp only at hx
  rw [e.1, e.2] at hx
  rcases eCh hA with ⟨h1, hB⟩ | ⟨h1, hB⟩
  · have h1 := Nat.eq_of_beq_eq_true h1
    subst h1
    rcases eCh hB with ⟨h2, hC⟩ | ⟨-, hC⟩
    · have h2 := Nat.eq_of_beq_eq_true h2
      subst h2
      rcases hd with ⟨k, -⟩ | ⟨k, -⟩ | ⟨-, hd⟩
      · cases k
      · cases k
      · rcases hx with ⟨-, hx⟩ | ⟨k, -⟩ | ⟨k, -⟩ | ⟨y, k, -⟩
        · exact s_obj hF hr hx wo.1 wo.2 hd hC
        · cases k
        · cases k
        · cases k
    · cases hC
  · rcases eCh hB with ⟨h2, hC⟩ | ⟨h2, hC⟩
    · have h2 := Nat.eq_of_beq_eq_true h2
      subst h2
      rcases eCh hC with ⟨h3, hD⟩ | ⟨-, hD⟩
      · have h3 := Nat.eq_of_beq_eq_true h3
        subst h3
        rcases hd with ⟨-, hd⟩ | ⟨k, -⟩ | ⟨k, -⟩
        · rcases hx with ⟨k, -⟩ | ⟨-, hx⟩ | ⟨k, -⟩ | ⟨y, k, -⟩
          · cases k
          · exact s_copy hF hr hx wc.1 wc.2.1 wc.2.2 hd hD
          · cases k
          · cases k
        · cases k
        · cases k
      · cases hD
    · rcases eCh hC with ⟨h4, hD⟩ | ⟨h4, hD⟩
      · have h4 := Nat.eq_of_beq_eq_true h4
        subst h4
        rcases eCh hD with ⟨h3, hE⟩ | ⟨-, hE⟩
        · have h3 := Nat.eq_of_beq_eq_true h3
          subst h3
          rcases hd with ⟨-, hd⟩ | ⟨k, -⟩ | ⟨k, -⟩
          · rcases hx with ⟨k, -⟩ | ⟨k, -⟩ | ⟨-, hx⟩ | ⟨y, k, -⟩
            · cases k
            · cases k
            · exact s_min hF hr hx wm.1 wm.2.1 wm.2.2 hd hE
            · cases k
          · cases k
          · cases k
        · cases hE
      rcases eCh hD with ⟨h3, hE⟩ | ⟨-, hE⟩
      · rcases hx with ⟨k, -⟩ | ⟨k, -⟩ | ⟨k, -⟩ | ⟨y, hy, h13, hx⟩
        · exact absurd k (eB_f h1)
        · exact absurd k (eB_f h2)
        · exact absurd k (eB_f h4)
        · have hk := eKm_ok h3
          have hk : z / 4096 = kind ∨ (kind = 2 ∧ z / 4096 = 3) := hk
          rcases hd with ⟨rfl, hd⟩ | ⟨rfl, hd⟩ | ⟨rfl, hd⟩
          · rcases hx with ⟨b0, b1, b2, b3⟩ | ⟨b0, -⟩ | ⟨b0, -⟩ | ⟨b0, -⟩
            · exact s_callS hy h13 hF hr hcl b1 b2 b3 hd hE
            · omega
            · omega
            · omega
          · rcases hx with ⟨b0, -⟩ | ⟨b0, b1, b2, b3, b4, b5⟩ | ⟨b0, -⟩ | ⟨b0, -⟩
            · omega
            · exact s_callV hy h13 hF hr hcl b1 b2 b3 b4 b5 hd hE
            · omega
            · omega
          · rcases hx with ⟨b0, -⟩ | ⟨b0, -⟩ | ⟨b0, b1, b2, b3, b4, b5, b6⟩ | ⟨b0, b1, b2, b3, b4, b5, b6⟩
            · omega
            · omega
            · exact s_callI hy h13 hF hr hcl (Or.inl b1) b2 b3 b4 b5 b6 hd hE
            · exact s_callI hy h13 hF hr hcl (Or.inr b1) b2 b3 b4 b5 b6 hd hE
      · cases hE
end EvS9
