section EvS8
theorem eFX0.same {A : Nat → Prop} {fo : evF} {u U : State} {H : Heap} (hv : U.vm = u.vm) (h : eFX0 A fo u H) : eFX0 A fo U H := by
  obtain ⟨adK, adV, h1, h2, h3, h4, h5, h6, h7, h8, h9, h10⟩ := h
  have ha : u.vm.Alike U.vm := by rw [hv]; exact Vm.Alike.refl u.vm
  exact ⟨adK, adV, h1, h2, h3, h4.moved ha, h5.same hv, h6.moved ha, h7.moved ha, fun w hw => va_Nw.same (by
    simp only [eNw, List.mem_cons, List.not_mem_nil, or_false] at hw
    rcases hw with rfl | rfl | rfl | rfl <;> rfl) hv.symm (h8 w hw), h9.moved ha, h10.moved ha⟩
theorem eSt.same {A : Nat → Prop} {fo : evF} {u U : State} {H : Heap} (hv : U.vm = u.vm) (h : eSt A fo u H) : eSt A fo U H := by
  have ha : u.vm.Alike U.vm := by rw [hv]; exact Vm.Alike.refl u.vm
  refine ⟨fun w hw => va_Nw.same (by
    simp only [eNg, List.mem_cons, List.not_mem_nil, or_false] at hw
    rcases hw with rfl | rfl | rfl | rfl <;> rfl) hv.symm (h.1 w hw), fun i hi => ?_⟩
  obtain ⟨b, xs, h1, h2, h3, h4, h5, h6⟩ := h.2 i hi
  exact ⟨b, xs, h1, h2.moved ha, h3.moved ha, h4, h5, h6⟩
theorem eFX.same {A : Nat → Prop} {fo : evF} {u U : State} {H : Heap} (hv : U.vm = u.vm) (h : eFX A fo u H) : eFX A fo U H := ⟨h.1.same hv, h.2.same hv⟩
theorem ePc_blind {D : va_G} {fo : evF} {tys : List (ClassId × FieldType)} {ws : va_W} {sz : Nat} {avs : List Value} : FrameBlind (ePc D fo tys ws sz avs) := by
  intro a U g mk h
  obtain ⟨h1, h2, h3, h4, h5, h6⟩ := h
  exact ⟨h1, h2, h3, va_K.moved (u := U) (U := U.calling g mk a) (Vm.Alike.refl U.vm) h4, h5, eFX.same (u := U) (U := U.calling g mk a) rfl h6⟩
theorem eGd {w : Jvm.Cond} (h : w ∈ eGW) : w ∈ eGW ∧ ((w.onTables && w.keeps) = true ∨ ∃ ty, w = .arrayClass ty) := ⟨h, good_of_word (List.mem_filter.mp h).2⟩
theorem eGoodS {own : String} {idx : Nat} {q : evM} (h0 : Jvm.Cond.code q.1 q.2.1 q.2.2.1 q.2.2.2.1 ∈ eGW) : GoodIn eGW (eWs q) := by
  intro w hw
  rcases List.mem_cons.mp hw with rfl | hw
  · exact eGd h0
  · exact eGd hw
theorem eTake_ok {k : List Nat → List Nat → Bool} : ∀ (n : Nat) (st acc : List Nat), eTake n st acc k = true → ∃ us rest, st = us ++ rest ∧ us.length = n ∧ k (us.reverse ++ acc) rest = true := by
  intro n
  induction n with
  | zero => intro st acc h; exact ⟨[], st, rfl, rfl, h⟩
  | succ n ih =>
    intro st acc h
    cases st with
    | nil => cases h
    | cons v st =>
      obtain ⟨us, rest, h1, h2, h3⟩ := ih st (v :: acc) h
      refine ⟨v :: us, rest, by rw [h1]; rfl, by rw [List.length_cons, h2], ?_⟩
      rw [List.reverse_cons, List.append_assoc]
      exact h3
theorem eLs_split {ad : List Nat} {sg : List Int32} {fo : evF} : ∀ (us rest : List Nat) (stv : List Value), eLs ad sg fo (us ++ rest) stv → ∃ xs ys, stv = xs ++ ys ∧ xs.length = us.length ∧ (∀ (i v : Nat) (x : Value), us[i]? = some v → xs[i]? = some x → eR ad sg fo v x) ∧ eLs ad sg fo rest ys := by
  intro us
  induction us with
  | nil => intro rest stv h; exact ⟨[], stv, rfl, rfl, fun i v x hi => by simp at hi, h⟩
  | cons u us ih =>
    intro rest stv h
    obtain ⟨x, xs, rfl, hx, ht⟩ := eLs_c (show eLs ad sg fo (u :: (us ++ rest)) stv from h)
    obtain ⟨xs1, ys, rfl, h2, h3, h4⟩ := ih rest xs ht
    refine ⟨x :: xs1, ys, rfl, by simp [h2], fun i v y hi hy => ?_, h4⟩
    cases i with
    | zero =>
      simp only [List.getElem?_cons_zero, Option.some.injEq] at hi hy
      subst hi; subst hy
      exact hx
    | succ i =>
      simp only [List.getElem?_cons_succ] at hi hy
      exact h3 i v y hi hy
theorem eLa_of {ad : List Nat} {sg : List Int32} {fo : evF} : ∀ (vs : List Nat) (xs : List Value), xs.length = vs.length → (∀ (i v : Nat) (x : Value), vs[i]? = some v → xs[i]? = some x → eR ad sg fo v x) → eLa ad sg fo vs xs := by
  intro vs
  induction vs with
  | nil =>
    intro xs h _
    cases xs with
    | nil => trivial
    | cons x xs => simp at h
  | cons v vs ih =>
    intro xs h hr
    cases xs with
    | nil => simp at h
    | cons x xs => exact ⟨hr 0 v x rfl rfl, ih xs (by simpa using h) (fun i v' x' hi hx => hr (i + 1) v' x' hi hx)⟩
theorem eLa_rev {ad : List Nat} {sg : List Int32} {fo : evF} {us : List Nat} {xs : List Value} (hl : xs.length = us.length) (h : ∀ (i v : Nat) (x : Value), us[i]? = some v → xs[i]? = some x → eR ad sg fo v x) : eLa ad sg fo us.reverse xs.reverse := by
  refine eLa_of _ _ (by simp [hl]) (fun i v x hi hx => ?_)
  have h1 := (List.getElem?_eq_some_iff.mp hi).1
  rw [List.length_reverse] at h1
  rw [List.getElem?_reverse h1] at hi
  rw [List.getElem?_reverse (by omega), hl] at hx
  exact h _ v x hi hx
theorem eLa_len {ad : List Nat} {sg : List Int32} {fo : evF} : ∀ {vs : List Nat} {xs : List Value}, eLa ad sg fo vs xs → xs.length = vs.length
  | [], [], _ => rfl
  | _ :: _, _ :: _, h => by rw [List.length_cons, List.length_cons, eLa_len h.2]
  | [], _ :: _, h => h.elim
  | _ :: _, [], h => h.elim
theorem eArity {y : MethodName} {n k : Nat} (h : (parseMethodDescriptor y.desc).map (fun d => d.parameters.length + 1) = some n) (hk : k + 1 = n) : (parseMethodDescriptor y.desc).map (fun d => d.parameters.length) = some k := by
  cases hz : parseMethodDescriptor y.desc with
  | none => rw [hz] at h; cases h
  | some z =>
    rw [hz] at h
    simp only [Option.map_some, Option.some.injEq] at h ⊢
    omega
variable {p : Program} {l : Launch} {e : Env} {R : Room} {s : State} {m : MethodId} {args : Array Value} {below : List Frame} {meth : Method} {c : Code} {Q : State → Prop} {D : va_G} {A : Nat → Prop} {fo : evF} {qm : evM} {dp : Nat}
variable {r : evR} {cl : evC} {kk : evK} {pc L : Nat} {st : List Nat} {g : evG}
theorem s_call {mi n ki nL mc ms : Nat} {vd : Bool} {q : evM} (hq : eM mi = some q) (h13 : ¬ q.2.2.2.2.1 = 13) (hF : eFix p R s m args meth c A fo qm dp) (hr : ∀ pc L st g, r pc L st g = true → eGo p l e R s m args below meth c Q D A fo qm pc L st g) (hcl : eCo l dp cl) (hnL : nL = q.2.2.1) (hvd : vd = (match q.2.2.2.1 with | none => true | some _ => false)) (hmc : mc = q.2.2.2.2.2.2.1) (hms : ms = q.2.2.2.2.2.2.2.1)
    (row : ∀ (d : Nat) (sg : List Int32) (tys : List (ClassId × FieldType)) (ws : va_W) (H : Heap) (locs : List Loc) (cells slots : Nat) (ls : Array Slot) (vs : List Nat) (avs rest : List Value) (k : evK), dp = d + 1 → eNow s D A fo g sg tys ws H locs → eLa (eAd ws) sg fo vs avs → vs.length = n → eRcv g ki vs = true → ls.size = qm.2.2.1 → (rest.map fun v => v.category).sum ≤ 8 → cells + mc ≤ R.cells ∧ slots + ms ≤ R.slots →
      Met l q.1 (eWs q) (eRm d q) (ePc D fo tys ws H.size avs) (eQc D fo q sg ws H.size k) mc ms (va_A ws H.size) → (∀ U : State, U.heap = H → s.WarmedH U.vm → ePc D fo tys ws H.size avs avs.toArray U) →
      va_Run p l e R s m args below meth c H locs cells slots mc ms (F0 m pc ls (avs.reverse ++ rest)) rest (eQc D fo q sg ws H.size k avs.toArray) (va_A ws H.size))
    (h : hCall mi n ki nL vd mc ms r cl kk pc L st g = true) : eGo p l e R s m args below meth c Q D A fo qm pc L st g := by
  intro sg tys ws H locs cells slots ls stv hN hL hst hc hs
  obtain ⟨us, rest, rfl, hu, h⟩ := eTake_ok _ _ _ h
  rw [List.append_nil] at h
  obtain ⟨h1, h⟩ := eC_t h
  obtain ⟨h1, h0⟩ := eC_t h1
  obtain ⟨h2, h⟩ := eC_t h
  obtain ⟨h3, h⟩ := eC_t h
  obtain ⟨h4, h⟩ := eC_t h
  have h0 := Nat.le_of_ble_eq_true h0
  have h1 := Nat.le_of_ble_eq_true h1
  have h3 := Nat.le_of_ble_eq_true h3
  have h4 := Nat.le_of_ble_eq_true h4
  obtain ⟨xs, ys, rfl, e1, e2, ht⟩ := eLs_split us rest stv hst
  have ha := eLa_rev e1 e2
  obtain ⟨d, hd, hM⟩ := hcl mi q _ _ _ hq h13 (fun v g' hv => by rw [hv]; rfl) h
  obtain ⟨lv, hlv, -⟩ := id hL
  have hD1 : va_D (fun _ => True) ws := hN.2.2.1.weaken (fun _ _ _ _ => trivial)
  have hfree : ∀ z, va_A ws H.size z → A z := by
    intro z hz
    rcases hz with ⟨k, e', hk⟩ | hz
    · exact hN.2.2.1.2 k (z, e') hk
    · exact hF.2.2.2.2.2.2.2.2.2.1 z (Nat.le_trans hN.2.2.2.1.1 hz)
  have hM := hM D fo sg tys ws H.size xs.reverse ha hN.2.2.2.2.1 hN.2.2.2.2.2 (by rw [hmc, hms]) (by rw [← hnL]; exact h0)
  rw [← hmc, ← hms] at hM
  have hFX : eFX (va_A ws H.size) fo s H := (hF.2.2.2.2.2.2.2.2.2.2.kept hN.2.2.2.1.2.1).narrow hfree
  have hrun := row d sg tys ws H locs cells slots ls us.reverse xs.reverse ys _ hd hN ha (by rw [List.length_reverse]; exact hu) h2 hlv.1 (by rw [eSum_ok ht]; exact h1) ⟨by omega, by omega⟩ hM (fun U hU hW => ⟨rfl, by rw [hU], by rw [hU]; exact hN.2.1, va_K.moved hW.alike hN.1, hD1, by rw [hU]; exact hFX.moved hW⟩)
  rw [List.reverse_reverse] at hrun
  intro T hT X
  obtain ⟨v, st₀, t, T', LL, q0, X', hLL, q1, q2, ⟨⟨v', g', sg', tys', ws', xo, ho, hk, hval, p1, p2, k1, k2, k3, k4, k5⟩, hz, hzk⟩, stp⟩ := hrun T hT X
  cases ho
  rw [q0] at hz hzk
  obtain ⟨-, hk⟩ := eC_f hk
  rw [eF_eq, eF_eq] at hk
  have hS' : va_S A s.heap T'.heap (locs ++ LL) := ⟨Nat.le_trans hN.2.2.2.1.1 (by rw [q1]; exact hz), fun z z1 z2 => by rw [q1, hzk z (Nat.lt_of_lt_of_le z1 hN.2.2.2.1.1) (fun w => z2 (hfree z w))]; exact hN.2.2.2.1.2.1 z z1 z2, fun z hz' => by
    rcases List.mem_append.mp hz' with w | w
    · exact hN.2.2.2.1.2.2 z w
    · exact hfree _ (hLL z w)⟩
  have hN' : eNow s D A fo (g'.1, g'.2.1, g'.2.2.1, Nat.sub g.2.2.2.1 mc, Nat.sub g.2.2.2.2 ms) sg' tys' ws' T'.heap (locs ++ LL) := ⟨va_K.moved (by rw [← q2]; exact X'.warmed.alike.symm) k1, by rw [q1]; exact k2, k3.weaken (fun _ z _ w => hfree z.1 w), hS', k4, k5⟩
  have hst' : eLs (eAd ws') sg' fo (cond vd rest (v' :: rest)) (v.toList ++ ys) := by
    have ht' := eLs_mono p1 p2 ht
    rcases hval with ⟨z1, rfl⟩ | ⟨ty, x, z1, rfl, z2⟩
    · rw [hvd, z1]
      exact ht'
    · rw [hvd, z1]
      exact ⟨z2, ht'⟩
  obtain ⟨t2, a1, b1⟩ := hr _ _ _ _ hk sg' tys' ws' T'.heap (locs ++ LL) (cells + mc) (slots + ms) ls _ hN' (eLr_mono hL p1 p2) hst' (by show cells + mc + (g.2.2.2.1 - mc) ≤ R.cells; omega) (by show slots + ms + (g.2.2.2.2 - ms) ≤ R.slots; omega) T' rfl X'
  exact ⟨t2, stp t2 a1, b1⟩
theorem eRoomy {d : Nat} {q : evM} (hdp : dp = d + 1) (hF : eFix p R s m args meth c A fo qm dp) (h80 : q.2.2.1 ≤ 80) : (eRm d q).frames + 1 ≤ R.frames ∧ 8 + (q.2.2.1 + 11) + (eRm d q).locals ≤ R.locals := by
  obtain ⟨a, b⟩ := hF.2.2.2.2.2.2.2.2.1
  constructor
  · show d + 1 + 1 ≤ _
    omega
  · show 8 + (q.2.2.1 + 11) + 100 * (d + 1) ≤ _
    omega
theorem s_callS {mi idx : Nat} {q : evM} (hq : eM mi = some q) (h13 : ¬ q.2.2.2.2.1 = 13) (hF : eFix p R s m args meth c A fo qm dp) (hr : ∀ pc L st g, r pc L st g = true → eGo p l e R s m args below meth c Q D A fo qm pc L st g) (hcl : eCo l dp cl) (w1 : Jvm.Cond.methodLink (eCn qm.2.2.2.2.1) idx q.1 ∈ eGW) (w2 : Jvm.Cond.static q.1 ∈ eGW) (w3 : (parseMethodDescriptor q.1.desc).map (fun d => d.parameters.length) = some q.2.2.2.2.2.1)
    (hd : decode qm.2.1 pc = .ok (.invokestatic idx, 3)) (h : hCallM mi 0 r cl kk pc L st g = true) : eGo p l e R s m args below meth c Q D A fo qm pc L st g := by
  obtain ⟨m1, m2, m3, m4, m5, m6, m7, m8⟩ := eM_ok' mi q hq
  have m1 := m1 h13
  unfold hCallM at h
  rw [hq] at h
  refine s_call hq h13 hF hr hcl rfl rfl rfl rfl (fun d sg tys ws H locs cells slots ls vs avs rest k hdp hN ha hn hrc hls hcat hroom hM hpre => ?_) h
  refine va_runS (cc := qm.2.1) (nL := qm.2.2.1) (Ts := eGW) (own := eCn qm.2.2.2.2.1) (As := avs) (index := idx) (bytes := q.2.1) (maxL := q.2.2.1) (ret := q.2.2.2.1) (n := q.2.2.2.2.2.1) ⟨hF.1, hF.2.1, hF.2.2.1, hF.2.2.2.2.1, hF.2.2.2.2.2.1⟩ hM ?_ ⟨ePc_blind, hpre⟩ rfl ?_ hls rfl (lv_room hcat) hd hroom
  · refine va_cwS q.2.2.2.2.2.1 hF.2.2.2.2.2.1 (fun w hw => ?_) rfl rfl rfl ⟨m7.1, m7.2, w3⟩ (eRoomy hdp hF m6)
    rcases List.mem_append.mp hw with hw | hw
    · simp only [List.mem_cons, List.not_mem_nil, or_false] at hw
      rcases hw with rfl | rfl | rfl
      · exact eGd w1
      · exact eGd w2
      · exact eGd m8
    · exact eGoodS (own := "") (idx := 0) m1 w hw
  · rw [eLa_len ha, hn]
theorem s_callV {mi idx : Nat} {q : evM} (hq : eM mi = some q) (h13 : ¬ q.2.2.2.2.1 = 13) (hF : eFix p R s m args meth c A fo qm dp) (hr : ∀ pc L st g, r pc L st g = true → eGo p l e R s m args below meth c Q D A fo qm pc L st g) (hcl : eCo l dp cl) (w1 : Jvm.Cond.methodLink (eCn qm.2.2.2.2.1) idx q.1 ∈ eGW) (w2 : Jvm.Cond.instanceMethod q.1 ∈ eGW) (w4 : Jvm.Cond.selects q.1.cls q.1 q.1 ∈ eGW) (w3 : (parseMethodDescriptor q.1.desc).map (fun d => d.parameters.length + 1) = some q.2.2.2.2.2.1) (w5 : q.2.2.2.2.1 < 13 ∨ q.2.2.2.2.1 = 17)
    (hd : decode qm.2.1 pc = .ok (.invokevirtual idx, 3)) (h : hCallM mi 1 r cl kk pc L st g = true) : eGo p l e R s m args below meth c Q D A fo qm pc L st g := by
  obtain ⟨m1, m2, m3, m4, m5, m6, m7, m8⟩ := eM_ok' mi q hq
  have m1 := m1 h13
  unfold hCallM at h
  rw [hq] at h
  refine s_call hq h13 hF hr hcl rfl rfl rfl rfl (fun d sg tys ws H locs cells slots ls vs avs rest k hdp hN ha hn hrc hls hcat hroom hM hpre => ?_) h
  obtain ⟨o, vs', rfl⟩ : ∃ o vs', vs = o :: vs' := by
    cases vs with
    | nil =>
      rw [← hn] at w3
      cases hz : parseMethodDescriptor q.1.desc with
      | none => rw [hz] at w3; cases w3
      | some z => rw [hz] at w3; simp at w3
    | cons o vs' => exact ⟨o, vs', rfl⟩
  cases avs with
  | nil => exact ha.elim
  | cons x As =>
    obtain ⟨ho, ha'⟩ := ha
    have hrcv : ∃ b, x = .ref b ∧ ∃ cellB : Cell, H[b]? = some cellB ∧ cellB.vm.isStatics = false ∧ s.vm.findClass q.1.cls = some cellB.cls := by
      rcases w5 with w5 | w5
      · have hrc : cond (Nat.blt q.2.2.2.2.1 13) (eAt g o q.2.2.2.2.1 (fun _ _ => true)) (cond (Nat.beq q.2.2.2.2.1 17) (Nat.beq o 6) (Nat.beq q.2.2.2.2.1 64)) = true := hrc
        rw [show Nat.blt q.2.2.2.2.1 13 = true from Nat.ble_eq_true_of_le w5] at hrc
        obtain ⟨qq, h5, hp, hqq, hki, -⟩ := eAt_ok hrc
        obtain ⟨a, e', rfl, hw, hce, -⟩ := eHp_at hN ho h5 hp
        rcases hce with ⟨fs, r0, h1, h2, h3, h4⟩ | ⟨cA, f, t, ty, h1, h2, h3, h4⟩ | ⟨cA, f, t, h1, h2, h3, h4⟩ | ⟨cA, f, t, h1, h2, h3, h4, h5⟩
        · subst h1
          obtain ⟨cell, c1, c2, c3⟩ := va_recv hN.1 hN.2.1 h2 hw
          refine ⟨a, rfl, cell, c1, c2, ?_⟩
          rw [eVw _ _ h2, hki, ← m3] at c3
          exact c3
        · omega
        · omega
        · omega
      · have hrc : cond (Nat.blt q.2.2.2.2.1 13) (eAt g o q.2.2.2.2.1 (fun _ _ => true)) (cond (Nat.beq q.2.2.2.2.1 17) (Nat.beq o 6) (Nat.beq q.2.2.2.2.1 64)) = true := hrc
        rw [w5] at hrc
        have e6 : o = 6 := Nat.eq_of_beq_eq_true hrc
        subst e6
        obtain ⟨adK, adV, f0, f1, f2, f3, f4, f5, f6, f7⟩ := id hF.2.2.2.2.2.2.2.2.2.2.1
        have hx : x = fo.1 0 := eR_6 ho rfl
        rw [f0] at hx
        obtain ⟨cell, c1, c2, c3⟩ := vk_recv f3 (by decide) hN.2.2.2.1 (i := 0)
        refine ⟨adK 0, hx, cell, c1, c2, ?_⟩
        rw [m3, w5]
        exact c3
    obtain ⟨b, rfl, hcell⟩ := hrcv
    have hlen : As.length + 1 = q.2.2.2.2.2.1 := by
      have := eLa_len (show eLa (eAd ws) sg fo (o :: vs') (.ref b :: As) from ⟨ho, ha'⟩)
      rw [List.length_cons] at this
      rw [this]; exact hn
    refine va_runV (cc := qm.2.1) (nL := qm.2.2.1) (Ts := eGW) (own := eCn qm.2.2.2.2.1) (C := q.1.cls) (b := b) (As := As) (rest := rest) (index := idx) (bytes := q.2.1) (maxL := q.2.2.1) (ret := q.2.2.2.1) (n := As.length) ⟨hF.1, hF.2.1, hF.2.2.1, hF.2.2.2.2.1, hF.2.2.2.2.2.1⟩ hM ?_ ⟨ePc_blind, hcell, hpre⟩ rfl rfl hls (by simp) (lv_room hcat) hd hroom
    refine cwV As.length hF.2.2.2.2.2.1 (fun w hw => ?_) rfl rfl rfl ⟨rfl, m7.1, m7.2, ?_⟩ (eRoomy hdp hF m6)
    · rcases List.mem_append.mp hw with hw | hw
      · simp only [List.mem_cons, List.not_mem_nil, or_false] at hw
        rcases hw with rfl | rfl | rfl | rfl
        · exact eGd w1
        · exact eGd w2
        · exact eGd w4
        · exact eGd m8
      · exact eGoodS (own := "") (idx := 0) m1 w hw
    · exact eArity w3 hlen
theorem s_callI {mi idx : Nat} {q : evM} (hq : eM mi = some q) (h13 : ¬ q.2.2.2.2.1 = 13) (hF : eFix p R s m args meth c A fo qm dp) (hr : ∀ pc L st g, r pc L st g = true → eGo p l e R s m args below meth c Q D A fo qm pc L st g) (hcl : eCo l dp cl) (w1 : Jvm.Cond.methodLink (eCn qm.2.2.2.2.1) idx q.1 ∈ eGW ∨ Jvm.Cond.methodLinkNest (eCn qm.2.2.2.2.1) idx q.1 "LeafVotes" ∈ eNw) (w2 : Jvm.Cond.instanceMethod q.1 ∈ eGW) (w4 : q.1.name = "<init>") (w6 : q.2.2.2.1 = none) (w3 : (parseMethodDescriptor q.1.desc).map (fun d => d.parameters.length + 1) = some q.2.2.2.2.2.1) (w5 : q.2.2.2.2.1 < 13)
    (hd : decode qm.2.1 pc = .ok (.invokespecial idx, 3)) (h : hCallM mi 2 r cl kk pc L st g = true) : eGo p l e R s m args below meth c Q D A fo qm pc L st g := by
  obtain ⟨m1, m2, m3, m4, m5, m6, m7, m8⟩ := eM_ok' mi q hq
  have m1 := m1 h13
  unfold hCallM at h
  rw [hq] at h
  refine s_call hq h13 hF hr hcl rfl rfl rfl rfl (fun d sg tys ws H locs cells slots ls vs avs rest k hdp hN ha hn hrc hls hcat hroom hM hpre => ?_) h
  obtain ⟨o, vs', rfl⟩ : ∃ o vs', vs = o :: vs' := by
    cases vs with
    | nil =>
      rw [← hn] at w3
      cases hz : parseMethodDescriptor q.1.desc with
      | none => rw [hz] at w3; cases w3
      | some z => rw [hz] at w3; simp at w3
    | cons o vs' => exact ⟨o, vs', rfl⟩
  cases avs with
  | nil => exact ha.elim
  | cons x As =>
    obtain ⟨ho, ha'⟩ := ha
    have hrc : cond (Nat.blt q.2.2.2.2.1 13) (eAt g o q.2.2.2.2.1 (fun _ _ => true)) (cond (Nat.beq q.2.2.2.2.1 17) (Nat.beq o 6) (Nat.beq q.2.2.2.2.1 64)) = true := hrc
    rw [show Nat.blt q.2.2.2.2.1 13 = true from Nat.ble_eq_true_of_le w5] at hrc
    obtain ⟨qq, h5, hp, hqq, hki, -⟩ := eAt_ok hrc
    obtain ⟨b, e', rfl, hw, hce, -⟩ := eHp_at hN ho h5 hp
    have hlen : As.length + 1 = q.2.2.2.2.2.1 := by
      have := eLa_len (show eLa (eAd ws) sg fo (o :: vs') (.ref b :: As) from ⟨ho, ha'⟩)
      rw [List.length_cons] at this
      rw [this]; exact hn
    have hws : eWs q = Jvm.Cond.code q.1 q.2.1 q.2.2.1 none :: eGW := by unfold eWs; rw [w6]
    rcases w1 with w1 | w1
    · refine va_runI (cc := qm.2.1) (nL := qm.2.2.1) (Ts := eGW) (own := eCn qm.2.2.2.2.1) (b := b) (As := As) (rest := rest) (index := idx) (bytes := q.2.1) (maxL := q.2.2.1) (n := As.length) ⟨hF.1, hF.2.1, hF.2.2.1, hF.2.2.2.2.1, hF.2.2.2.2.2.1⟩ hM ?_ ⟨ePc_blind, hpre⟩ rfl rfl hls (by simp) (lv_room hcat) hd hroom
      exact cwI As.length hF.2.2.2.2.2.1 (eGoodS (own := "") (idx := 0) m1) hws rfl rfl (hF.2.2.2.2.2.1 _ m8) (hF.2.2.2.2.2.1 _ w1) (hF.2.2.2.2.2.1 _ w2) w4 ⟨m7.1, m7.2, eArity w3 hlen⟩ (eRoomy hdp hF m6)
    · obtain ⟨adK, adV, f0, f1, f2, f3, f4, f5, f6, f7, -⟩ := id hF.2.2.2.2.2.2.2.2.2.2.1
      refine va_runIN (cc := qm.2.1) (nL := qm.2.2.1) (Ts := eGW) (own := eCn qm.2.2.2.2.1) (host := "LeafVotes") (b := b) (As := As) (rest := rest) (index := idx) (bytes := q.2.1) (maxL := q.2.2.1) (n := As.length) ⟨hF.1, hF.2.1, hF.2.2.1, hF.2.2.2.2.1, hF.2.2.2.2.2.1⟩ hM ?_ ⟨ePc_blind, hpre⟩ rfl rfl hls (by simp) (lv_room hcat) hd hroom
      exact ⟨va_cnB As.length hF.2.2.2.2.2.1 (eGoodS (own := "") (idx := 0) m1) hws rfl rfl (f7 _ w1) (hF.2.2.2.2.2.1 _ m8) ⟨m7.1, m7.2, eArity w3 hlen⟩ (eRoomy hdp hF m6), w4, hF.2.2.2.2.2.1 _ w2⟩
end EvS8
