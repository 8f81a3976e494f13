section CkLaw1
noncomputable def eQL : evM := (x, code, 7, some .boolean, 13, 1, 600002, 7302232, eDL)
theorem eQL_m : eM 303 = some eQL := rfl
variable {p : Program} {l : Launch} {e : Env} {R : Room} {s : State} {m : MethodId} {args : Array Value} {below : List Frame} {meth : Method} {c : Code} {Q : State → Prop} {D : va_G} {A : Nat → Prop} {fo : evF} {dp : Nat}
theorem clo_core {mi : Nat} {qm : evM} (hq : eM mi = some qm) (hF : eFix p R s m args meth c A fo qm dp) {k : evK} (hre : eRe p l e R s m args below meth c Q D A fo qm k) {r : evR} {cl : evC} (hr : ∀ pc L st g, r pc L st g = true → eGo p l e R s m args below meth c Q D A fo qm pc L st g) (hcl : eCo l dp cl) {pc L : Nat} {st : List Nat} {g : evG} (h : eH mi pc r cl k pc L st g = true) : eGo p l e R s m args below meth c Q D A fo qm pc L st g := by
  obtain ⟨m1, m2, m3, m4, m5, m6, m7, m8⟩ := eM_ok' mi qm hq
  unfold eH at h
  rw [hq] at h
  rcases eCh h with ⟨h1, hA⟩ | ⟨-, hA⟩
  · obtain ⟨h1, h2⟩ := eC_t h1
    obtain ⟨h2, h3⟩ := eC_t h2
    obtain ⟨h3, h4⟩ := eC_t h3
    obtain ⟨h4, h5⟩ := eC_t h4
    have d0 := eOkB_get m4 pc
    have d3 := eOkB_get m4 (pc + 3)
    have d4 := eOkB_get m4 (pc + 4)
    have d7 := eOkB_get m4 (pc + 7)
    rw [of_decide_eq_true h2] at d0
    rw [of_decide_eq_true h3] at d3
    rw [of_decide_eq_true h4] at d4
    rw [of_decide_eq_true h5] at d7
    intro sg tys ws H locs cells slots ls stv hN hL hst hc hs
    cases st with
    | cons w st => cases hA
    | nil =>
      cases stv with
      | cons z zs => exact hst.elim
      | nil =>
        obtain ⟨lv, hlv, -⟩ := id hL
        exact hre.2.2.2 g sg tys ws H locs cells slots pc ls hN hst.1 hst.2 (by rw [hF.2.2.1]; exact hlv.1) hc hs hA (Nat.eq_of_beq_eq_true h1) d0 d3 d4 d7
  · rcases eCh hA with ⟨h1, hB⟩ | ⟨-, hB⟩
    · obtain ⟨h9, h2⟩ := eC_t h1
      have h2 := Nat.eq_of_beq_eq_true h2
      subst h2
      cases st with
      | cons w st => cases hB
      | nil =>
        have hB : cond (Nat.beq L 0) false (k (Nat.add (Nat.mul 8 L) 7) g) = true := hB
        obtain ⟨h2, hC⟩ := eC_f hB
        exact hre.2.2.1 L g hC (eB_f h2) (Nat.eq_of_beq_eq_true h9)
    · rcases eCh hB with ⟨h1, hC⟩ | ⟨-, hC⟩
      · have h1 := Nat.eq_of_beq_eq_true h1
        have hd := eOkB_get m4 pc
        rw [h1] at hd
        exact s_I hF.2.2.2.2.2.2.1.1 hF hr hcl hre hd hC
      · cases hC
/-- what goes on in the law's own frame, and in every other's -/
def pLw (p : Program) (l : Launch) (e : Env) (R : Room) (s : State) (m : MethodId) (args : Array Value) (below : List Frame) (meth : Method) (c : Code) (Q : State → Prop) (D : va_G) (A : Nat → Prop) (fo : evF) : evP := fun d mi k pc L st g => (mi = 303 → eFix p R s m args meth c A fo eQL d → eRe p l e R s m args below meth c Q D A fo eQL k → eGo p l e R s m args below meth c Q D A fo eQL pc L st g) ∧ (¬ mi = 303 → pGo l d mi k pc L st g)
theorem pLw_co : eCo l dp (pC (pLw p l e R s m args below meth c Q D A fo) dp) := by
  intro mi' q' vs g' k' hq' h13 hk7 hk
  have hne : ¬ mi' = 303 := by
    intro e4
    subst e4
    rw [eQL_m] at hq'
    cases hq'
    exact h13 rfl
  cases dp with
  | zero => cases hk
  | succ d =>
    refine ⟨d, rfl, eMt_of hq' h13 hk7 (fun p' e' R' s' m' args' below' meth' c' Q' D' A' fo' hF hre => ?_)⟩
    have hk : pB (pLw p l e R s m args below meth c Q D A fo d mi' k' 0 (ePack vs 0 0) [] g') = true := hk
    exact (pB_p hk).2 hne q' hq' p' e' R' s' m' args' below' meth' c' Q' D' A' fo' hF hre
theorem pLw_clo : pClo (pLw p l e R s m args below meth c Q D A fo) := by
  intro d mi k pc L st g h
  constructor
  · intro e4 hF hre
    subst e4
    exact clo_core eQL_m hF hre (fun pc L st g hk => (pB_p hk).1 rfl hF hre) pLw_co h
  · intro ne qm hq p' e' R' s' m' args' below' meth' c' Q' D' A' fo' hF hre
    exact clo_core hq hF hre (fun pc L st g hk => (pB_p hk).2 ne qm hq p' e' R' s' m' args' below' meth' c' Q' D' A' fo' hF hre) pLw_co h
theorem cI_back (y : Int32) : nI (ePl (cI y.toInt)) = y := by
  rw [cI_pl]
  have h := eX_int y
  have hb : eX y = (y.toBitVec.toNat + 2147483648) % 4294967296 := rfl
  have hl : y.toBitVec.toNat < 4294967296 := y.toBitVec.isLt
  have e : Int.toNat (y.toInt % 4294967296) = y.toBitVec.toNat := by omega
  rw [e]
  exact nI_back y
theorem cI_eR (ad : List Nat) (sg : List Int32) (fo : evF) (y : Int32) : eR ad sg fo (cI y.toInt) (.int y) := ⟨cI_72 _, Or.inl ⟨cI_tg _, cI_lt _, by rw [cI_back]⟩⟩
theorem eLr_get {ad : List Nat} {sg : List Int32} {LL n : Nat} {ls : Array Slot} (h : eLr ad sg fo n LL ls) (j v : Nat) (hv : eSl LL j = v) (h0 : ¬ eTg v = 0) : ∃ x, eR ad sg fo v x ∧ ls[j]? = some (.val x) := by
  obtain ⟨lv, h1, h2⟩ := h
  obtain ⟨x, h3, h4⟩ := h2 j (by rw [hv]; exact h0)
  rw [hv] at h3
  exact ⟨x, h3, h1.2.2 (j, x) h4⟩
/-- script[i + j], five instructions -/
theorem eMac {b LL i j pc L : Nat} {xs : Nat → Int32} {st : List Nat} {g : evG} (hF : eFix p R s m args meth c A fo eQL dp) (hX : va_X b LL xs s s.heap) (hbl : b < s.heap.size) (hbA : ¬ A b) (f3 : fo.1 3 = .ref b) (hLL : LL < 2 ^ 31) (h0 : eSl L 0 = 30) (h4 : eSl L 4 = cI (i : Int)) (hj : i + j < LL) (hj5 : Int32.ofInt (j : Int) = nI j)
    (d0 : decode code pc = .ok (.aload_n 0, 1)) (d1 : decode code (pc + 1) = .ok (.iload 4, 2)) (d3 : decode code (pc + 3) = .ok (.iconst (j : Int), 1)) (d4 : decode code (pc + 4) = .ok (.iadd, 1)) (d5 : decode code (pc + 5) = .ok (.iaload, 1))
    (h : eGo p l e R s m args below meth c Q D A fo eQL (pc + 6) L (cI (xs (i + j)).toInt :: st) g) : eGo p l e R s m args below meth c Q D A fo eQL pc L st g := by
  intro sg tys ws H locs cells slots ls stv hN hLr hst hc hs
  have hx := hF.1
  have hb : c.code = code := hF.2.1
  obtain ⟨x4, r4, l4⟩ := eLr_get hLr 4 _ h4 (by rw [cI_tg]; decide)
  obtain ⟨x0, r0, l0⟩ := eLr_get hLr 0 _ h0 (by decide)
  obtain ⟨-, rfl⟩ := eR_1 r4 (cI_tg _)
  have hx0 : x0 = fo.1 3 := eR_6 r0 (by decide)
  rw [f3] at hx0
  subst hx0
  have ei : ePl (cI (i : Int)) = i := by rw [cI_pl]; omega
  rw [ei] at l4
  have es : nI i + nI j = nI (i + j) := nI_add i j
  refine lv_aload_n hx hb d0 rfl l0 (lv_iload hx hb d1 l4 (lv_iconst hx hb d3 (v := nI j) hj5 (lv_iadd hx hb d4 (va_sld hx hb hX hbl hbA hN.2.2.2.1 (i := nI i + nI j) (by rw [es]; exact vp_in_nI hj hLL) d5 ?_))))
  rw [es, nI_clamp (by omega)]
  exact h sg tys ws H locs cells slots ls _ hN hLr ⟨cI_eR _ _ _ _, hst⟩ hc hs
end CkLaw1
