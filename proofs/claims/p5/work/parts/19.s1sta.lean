-- draft, NOT BUILT YET: p1's 29.sk .. 40.fin turned for p38 (lHelp: the three cases that throw, owed)
section EvSk
def R_law : String := "LeafVotesLaw"
def lw_P (b : Addr) (xs : List Int32) (args : Array Value) (s : State) : Prop := args = #[.ref b] ∧ s.IntsAt b xs ∧ xs.length ≤ 3072 ∧ (Jvm.Cond.and given_1 narrow_1).before args s = true
def lw_Q (_ : Array Value) (s : State) (o : Outcome) (t : State) : Prop := o = .returned (some (.int 1)) ∧ Framed s o t [] 601024 7293034
def lw_Z (below : List Frame) (a : Array Value) (s : State) : State → Prop := fun t => ∃ o, t.status = .running ∧ Ended t below o ∧ lw_Q a s o t
/-- the law's own end, with 1 on the stack, nothing written that was there before, its room as the claim has it -/
theorem lw_ret {p : Program} {l : Launch} {e : Env} {s : State} {m : MethodId} {below : List Frame} {meth : Method} {c : Code} {b : Nat} (hx : p.tables.exec = Jvm.exec) (hb : c.code = code) (hr : meth.sig.returnType = ret) (hlocks : meth.locks = false) {pc : Nat} {H : Heap} {ls : Array Slot} (hdg : decode code pc = .ok (.ireturn, 1)) : W p l e room_1 s m #[Value.ref b] below meth c H [] 601024 7293034 (lw_Z below #[Value.ref b] s) (F0 m pc ls [.int 1]) := by
  intro T hT X
  obtain ⟨fs, hret, hrun, hended, hW, hframe⟩ := X.leave (v := some (.int 1)) (hlocks := hlocks) (fun h => by rw [hr] at h; cases h)
  have hmeth' : T.vm.method? m = some meth := X.method'
  refine ⟨T.setFrames fs, ?_, .returned (some (.int 1)), hrun, hended, rfl, ⟨_, rfl⟩, hW, hframe⟩
  jvm_step X.here [X.here.top, hx, hb, hdg, hmeth', hr, ret, narrow_b1]
  (try refine ⟨rfl, ?_⟩); (try refine ⟨rfl, ?_⟩)
  first | (intro acts; rw [hret _ acts rfl rfl rfl]) | rw [hret _ _ rfl rfl rfl]
  exact Steps.refl _
/-- what holds at the law's entry: the machine, the code, the tables' words (any of lw_tbl by 'hts w (by decide +kernel)'), the script of L ints xs at the cell b, what the Statement gives of the start (any of its parts by flat_of_before) -/
def lw_At (p : Program) (s : State) (m : MethodId) (meth : Method) (c : Code) (b L : Nat) (xs : Nat → Int32) : Prop :=
  p.tables.exec = Jvm.exec ∧ c.code = code ∧ meth.sig.returnType = ret ∧ c.maxLocals = 7 ∧ s.vm.findClass R_law = some m.cls ∧ (∀ w ∈ lw_tbl, w.before #[Value.ref b] s = true) ∧ va_X b L xs s s.heap ∧ b < s.heap.size ∧ meth.locks = false ∧ (Jvm.Cond.and given_1 narrow_1).before #[Value.ref b] s = true
end EvSk
section EvSt1
theorem eR_7 {ad : List Nat} {sg : List Int32} {fo : evF} {v : Nat} {x : Value} (h : eTg v = 7) : ¬ eR ad sg fo v x := by
  rintro ⟨-, ⟨h', -⟩ | ⟨h', -⟩ | ⟨h', -⟩ | ⟨h', -⟩ | ⟨h', -⟩ | ⟨h', -⟩⟩ <;> omega
theorem dL1622 : decode code 1622 = .ok (.iconst 1, 1) := eOkB_get eDL_ok 1622
theorem dL1623 : decode code 1623 = .ok (.ireturn, 1) := eOkB_get eDL_ok 1623
variable {p : Program} {l : Launch} {e : Env} {s : State} {m : MethodId} {below : List Frame} {meth : Method} {c : Code} {b L : Nat} {xs : Nat → Int32} {A : Nat → Prop} {H : Heap} {locs : List Loc} {cells slots : Nat} {ls : Array Slot} {Q : State → Prop}
theorem eOut (hx : p.tables.exec = Jvm.exec) (hb : c.code = code) (hr : meth.sig.returnType = ret) (hlk : meth.locks = false) (hA : ∀ q, A q → s.heap.size ≤ q) (hS : va_S A s.heap H locs) (hc : cells ≤ 601024) (hs : slots ≤ 7293034) : W p l e room_1 s m #[Value.ref b] below meth c H locs cells slots (lw_Z below #[Value.ref b] s) (F0 m 1622 ls []) :=
  va_forget (fun q hq => hA _ (hS.2.2 q hq)) (W.widen (k := 601024) (n := 7293034) hc hs (lv_iconst hx hb dL1622 (v := 1) (by decide) (lw_ret hx hb hr hlk dL1623)))
end EvSt1
section EvSt2
theorem eTi (i : Nat) {w : Jvm.Cond} (h : tables_1[i]? = some w) : w ∈ lw_tbl := List.mem_append_right _ (List.mem_of_getElem? h)
abbrev eTk : Term := .string "LeafVotes$Tokens" 19
def eBw (j : Nat) : Jvm.Cond := .eq (.elem (.field eTk "java/lang/String" "value" "[B") (.int (Int32.ofNat j))) (.int ((eTxB.getD 0 []).getD j 0))
set_option maxRecDepth 100000 in
theorem eBy0 : ((flatC (Jvm.Cond.and given_1 narrow_1)).drop 74).take 152 = (List.range 152).map eBw := by decide +kernel
theorem eByt : ∀ j, j < 152 → eBw j ∈ flatC (Jvm.Cond.and given_1 narrow_1) := by
  intro j hj
  have h : eBw j ∈ (List.range 152).map eBw := List.mem_map.mpr ⟨j, List.mem_range.mpr hj, rfl⟩
  rw [← eBy0] at h
  exact List.mem_of_mem_drop (List.mem_of_mem_take h)
theorem eNi (i : Nat) {w : Jvm.Cond} (h : (flatC (Jvm.Cond.and given_1 narrow_1))[i]? = some w) : w ∈ flatC (Jvm.Cond.and given_1 narrow_1) := List.mem_of_getElem? h
def eFo (k0 v0 fm : Value) (b r5 r6 : Nat) : evF := (fun i => match i with
  | 0 => k0
  | 1 => v0
  | 2 => fm
  | 3 => .ref b
  | 4 => .int 0
  | 5 => .ref r5
  | 6 => .ref r6
  | _ => .null, [], [])
theorem eHp0 : eWf (eT0 10 0) 0 1024 := eT0_wf 10 0
end EvSt2
section EvSt3
set_option maxRecDepth 100000 in
theorem whole_start {p : Program} {e : Env} {s : State} {m : MethodId} {below : List Frame} {meth : Method} {c : Code} (l : Launch) (hlt : l.stackTraces = false) {b L : Nat} {xs : Nat → Int32} (hL : L ≤ 3072) (C0 : lw_At p s m meth c b L xs) : W p l e room_1 s m #[Value.ref b] below meth c s.heap [] 0 0 (lw_Z below #[Value.ref b] s) (entryFrame m ([Value.ref b] : List Value).toArray 7) := by
  obtain ⟨hx, hb, hr, hml, hown, hts, hX, hbl, hlk, hgv⟩ := C0
  have hs := flat_of_before _ hgv
  obtain ⟨A, hAd⟩ : ∃ A : Nat → Prop, A = fun q => s.heap.size ≤ q := ⟨_, rfl⟩
  have hA0 : ∀ a : Nat, a < s.heap.size → ¬ A a := fun a h h' => by rw [hAd] at h'; exact absurd h' (Nat.not_le.mpr h)
  have hA1 : ∀ q, A q → s.heap.size ≤ q := fun q h => by rw [hAd] at h; exact h
  have hA2 : ∀ q, s.heap.size ≤ q → A q := fun q h => by rw [hAd]; exact h
  have hbA : ¬ A b := hA0 b hbl
  have hGW : ∀ w ∈ eGW, w.before #[Value.ref b] s = true := fun w h => hts w (List.mem_filter.mp h).1
  obtain ⟨adK, adV, hT1, hT2⟩ := vk_Sof (args := #[Value.ref b]) (s := s) (N := 1) (tm := fun _ => eTk) (len := eTxL) (byt := eTxB) (A := A)
    (fun i hi => by have e0 : i = 0 := by omega
                    subst e0; decide)
    (fun i hi => hs _ (eNi 70 rfl)) (fun i hi => hs _ (eNi 71 rfl)) (fun i hi => hs _ (eNi 72 rfl))
    (fun i hi => by have e0 : i = 0 := by omega
                    subst e0; exact hs _ (eNi 73 rfl))
    (fun i hi j hj => by have e0 : i = 0 := by omega
                         subst e0; exact hs _ (eByt j hj))
    (fun i j hi hj hn => absurd (by omega) hn) hA0
  have hQ1 := va_Zqof (A := A) (hts _ (eTi 350 rfl)) (hts _ (eTi 10 rfl)) (hs _ (eNi 5 rfl)) hA0
  have hfm : ∃ fm : Value, (fm = .null ∨ ∃ t, fm = .ref t) ∧ va_Z "jdk/internal/util/Preconditions" "SIOOBE_FORMATTER" "Ljava/util/function/BiFunction;" fm A s s.heap := by
    rcases hQ1 with h | ⟨t, h⟩
    · exact ⟨_, Or.inl rfl, h⟩
    · exact ⟨_, Or.inr ⟨t, rfl⟩, h⟩
  obtain ⟨fm, hfm1, hfm2⟩ := hfm
  have hK0 : ∀ ci : Nat, ∃ (cC : ClassId) (iS : Nat → Nat), ∀ q, vwCl[ci]? = some q → u_Kn s q.1 q.2.1 q.2.2 cC iS := by
    intro ci
    cases hci : vwCl[ci]? with
    | none => exact ⟨m.cls, fun i => i, fun q h => by cases h⟩
    | some q =>
      have hk := eCok_all ci q.1 q.2.1 q.2.2 hci
      obtain ⟨cC, iS, h⟩ := u_known (ws := eGW) (n := q.2.2) hGW hk.1 (hGW _ hk.2.2.2.2.1)
      exact ⟨cC, iS, fun q' h' => by cases h'; exact h⟩
  obtain ⟨D, hD⟩ : ∃ D : va_G, va_K D vwCl [] s := ⟨(fun ci => (hK0 ci).choose, fun ci => (hK0 ci).choose_spec.choose), fun ci q hq => (hK0 ci).choose_spec.choose_spec q hq, fun k q hk => by simp at hk⟩
  obtain ⟨r5, g5, X5⟩ := va_Tof (args := #[Value.ref b]) (s := s) (tm := .static "LeafVotes" "EAST_STEP" "[I") (ty := .int) (N := 5) (f := fun j => .int (([0, 0, 1, 0, -1] : List Int32).getD j 0)) (A := A) (by decide) (hs _ (eNi 10 rfl)) (va_eqt (hs _ (eNi 11 rfl))) (fun j hj => va_eqt (by
    rcases (by omega : j = 0 ∨ j = 1 ∨ j = 2 ∨ j = 3 ∨ j = 4) with rfl | rfl | rfl | rfl | rfl
    · exact hs _ (eNi 12 rfl)
    · exact hs _ (eNi 13 rfl)
    · exact hs _ (eNi 14 rfl)
    · exact hs _ (eNi 15 rfl)
    · exact hs _ (eNi 16 rfl))) hA0
  have l5 : r5 < s.heap.size := by
    obtain ⟨cell, h, -⟩ := X5
    exact (Array.getElem?_eq_some_iff.mp h).1
  obtain ⟨r6, g6, X6⟩ := va_Tof (args := #[Value.ref b]) (s := s) (tm := .static "LeafVotes" "SOUTH_STEP" "[I") (ty := .int) (N := 5) (f := fun j => .int (([0, -1, 0, 1, 0] : List Int32).getD j 0)) (A := A) (by decide) (hs _ (eNi 18 rfl)) (va_eqt (hs _ (eNi 19 rfl))) (fun j hj => va_eqt (by
    rcases (by omega : j = 0 ∨ j = 1 ∨ j = 2 ∨ j = 3 ∨ j = 4) with rfl | rfl | rfl | rfl | rfl
    · exact hs _ (eNi 20 rfl)
    · exact hs _ (eNi 21 rfl)
    · exact hs _ (eNi 22 rfl)
    · exact hs _ (eNi 23 rfl)
    · exact hs _ (eNi 24 rfl))) hA0
  have l6 : r6 < s.heap.size := by
    obtain ⟨cell, h, -⟩ := X6
    exact (Array.getElem?_eq_some_iff.mp h).1
  have hS5 : eSt A (eFo (.ref (adK 0)) (.ref (adV 0)) fm b r5 r6) s s.heap := by
    refine ⟨fun w hw => ?_, fun i hi => ?_⟩
    · simp only [eNg, List.mem_cons, List.not_mem_nil, or_false] at hw
      rcases hw with rfl | rfl | rfl | rfl
      · exact va_Nw.of rfl (hts _ (eTi 976 rfl))
      · exact va_Nw.of rfl (hts _ (eTi 978 rfl))
      · exact va_Nw.of rfl (hts _ (eTi 1195 rfl))
      · exact va_Nw.of rfl (hts _ (eTi 1196 rfl))
    · rcases (by omega : i = 0 ∨ i = 1) with rfl | rfl
      · refine ⟨r5, fun j => ([0, 0, 1, 0, -1] : List Int32).getD j 0, rfl, va_Zof (hts _ (eTi 977 rfl)) (hts _ (eTi 1 rfl)) g5 hA0, X5, l5, hA0 _ l5, fun j hj => ?_⟩
        rcases (by omega : j = 0 ∨ j = 1 ∨ j = 2 ∨ j = 3 ∨ j = 4) with rfl | rfl | rfl | rfl | rfl <;> decide
      · refine ⟨r6, fun j => ([0, -1, 0, 1, 0] : List Int32).getD j 0, rfl, va_Zof (hts _ (eTi 979 rfl)) (hts _ (eTi 1 rfl)) g6 hA0, X6, l6, hA0 _ l6, fun j hj => ?_⟩
        rcases (by omega : j = 0 ∨ j = 1 ∨ j = 2 ∨ j = 3 ∨ j = 4) with rfl | rfl | rfl | rfl | rfl <;> decide
  have hFX : eFX A (eFo (.ref (adK 0)) (.ref (adV 0)) fm b r5 r6) s s.heap := ⟨⟨adK, adV, rfl, rfl, hfm1, hT1, vk_R.of (hts _ (eTi 324 rfl)) (hT2 0 (by decide)), va_Zof (hts _ (eTi 334 rfl)) (hts _ (eTi 8 rfl)) (va_eqi (hs _ (eNi 4 rfl))) hA0, hfm2, fun w hw => by
    simp only [eNw, List.mem_cons, List.not_mem_nil, or_false] at hw
    rcases hw with rfl | rfl | rfl | rfl
    · exact va_Nw.of rfl (hts _ (eTi 266 rfl))
    · exact va_Nw.of rfl (hts _ (eTi 443 rfl))
    · exact va_Nw.of rfl (hts _ (eTi 599 rfl))
    · exact va_Nw.of rfl (hts _ (eTi 608 rfl)), va_AO.of (hts _ (eTi 295 rfl)), va_AO.of (hts _ (eTi 303 rfl))⟩, hS5⟩
  have hZ : eXz A s s.heap := ⟨vx_Zqof (hts _ (eTi 1409 rfl)) (hts _ (eTi 20 rfl)) (hs _ (eNi 25 rfl)) hA0, vx_Zqof (hts _ (eTi 1411 rfl)) (hts _ (eTi 20 rfl)) (hs _ (eNi 26 rfl)) hA0, fun w hw => by
    simp only [eXw, List.mem_cons, List.not_mem_nil, or_false] at hw
    rcases hw with rfl | rfl | rfl | rfl
    · exact va_Nw.of rfl (hts _ (eTi 1385 rfl))
    · exact va_Nw.of rfl (hts _ (eTi 1387 rfl))
    · exact va_Nw.of rfl (hts _ (eTi 1389 rfl))
    · exact va_Nw.of rfl (hts _ (eTi 1384 rfl))⟩
  generalize hfo : eFo (.ref (adK 0)) (.ref (adV 0)) fm b r5 r6 = fo at hFX
  have f3 : fo.1 3 = .ref b := by rw [← hfo]; rfl
  have f4 : fo.1 4 = .int 0 := by rw [← hfo]; rfl
  have f21 : fo.2.1 = [] := by rw [← hfo]; rfl
  have f22 : fo.2.2 = [] := by rw [← hfo]; rfl
  have hscr : eScr A fo s eQL := fun _ => Or.inl f4
  have hF : eFix p room_1 s m #[Value.ref b] meth c A fo eQL 22 := ⟨hx, hb, hml, hr, hown, hGW, ⟨fun h => absurd h Bool.false_ne_true, hscr⟩, hlk, ⟨by decide, by decide⟩, hA2, hFX⟩
  have hE : ∀ (LL : Nat) (g : evG), eGo p l e room_1 s m #[Value.ref b] below meth c (lw_Z below #[Value.ref b] s) D A fo eQL 1622 LL [] g := by
    intro LL g sg tys ws H locs cells slots ls stv hN hLr hst hc hs'
    have hst := eLs_n hst
    subst hst
    exact eOut hx hb hr hlk hA1 hN.2.2.2.1 (Nat.le_trans (Nat.le_add_right _ _) hc) (Nat.le_trans (Nat.le_add_right _ _) hs')
  have hloop := lLoop (b := b) (LL := L) (d := 22) (hn := 293) (xs := xs) (env := eEnv0) hF hX hbl hbA f3 hL (by decide) (by decide) hE (lHelp hlt hF hZ hX hbl hbA f3 hL)
  have hhead : eGo p l e room_1 s m #[Value.ref b] below meth c (lw_Z below #[Value.ref b] s) D A fo eQL 23 eL1 [] eG1 := hloop L 0 _ _ eL1 eHp1 (by omega) (by omega) (by omega) (by omega) eHp1_in eL1_sl
  have hre0 : eRe p l e room_1 s m #[Value.ref b] below meth c (lw_Z below #[Value.ref b] s) D A fo eQL eK0 := by
    have h7 : ∀ v g, eK0 v g = true → eTg v = 7 := fun v g h => by rw [(eK0_ok h).1]; exact (e8 eL1 7 (by decide)).1
    refine ⟨fun v g sg tys ws H locs cells slots pc ls x ty _ _ _ _ _ hk hv => absurd hv (eR_7 (h7 v g hk)), fun g sg tys ws H locs cells slots pc ls _ _ _ _ _ hk => absurd (h7 0 g hk) (by decide), fun LL g hk _ _ => ?_, fun g sg tys ws H locs cells slots pc ls _ _ _ _ _ _ _ h11 => absurd h11 (by decide)⟩
    obtain ⟨h1, rfl⟩ := eK0_ok hk
    have h2 : 8 * LL + 7 = 8 * eL1 + 7 := h1
    have h3 : LL = eL1 := by omega
    rw [h3]
    exact hhead
  have hl := lv_entry [Value.ref b] (n := 7) (by show (1 : Nat) ≤ 7; decide)
  rw [lg_entry_eq]
  generalize (lg_sl [Value.ref b] ++ List.replicate (7 - (lg_sl [Value.ref b]).length) Slot.unset).toArray = ls at hl ⊢
  refine eRun_ok 40000 22 303 eQL eK0 0 eL0 [] eG0 eQL_m eRun0 p e room_1 s m _ below meth c _ D A fo hF hre0 [] [] [] s.heap [] 0 0 ls [] ⟨hD, fun k q hk => (by simp at hk), ⟨fun i j p q h => (by simp at h), fun k q hk => (by simp at hk)⟩, va_S.rf, ⟨eHp0, rfl, by decide, fun k a e hk => (by simp at hk)⟩, ⟨rfl, fun i x h => (by simp at h)⟩⟩ ⟨_, hl, fun j hj => ?_⟩ ⟨⟨[], by rw [f21]; rfl⟩, ⟨[], by rw [f22]; rfl⟩⟩ (by decide) (by decide)
  have h0 : eSl eL0 j = if j = 0 then 30 else 0 := by
    have e0 : eL0 = eBl 0 0 1 30 := by decide +kernel
    have e1 : eSl 0 j = 0 := by show (0 >>> (72 * j)) % 4722366482869645213696 = 0; rw [Nat.zero_shiftRight]
    rw [e0, eSl_set (by decide), e1]
  by_cases e0 : j = 0
  · subst e0
    rw [h0, if_pos rfl]
    exact ⟨.ref b, ⟨by decide, Or.inr (Or.inr (Or.inr (Or.inr (Or.inr ⟨by decide, by show _ = fo.1 3; rw [f3], Or.inr ⟨b, rfl⟩⟩))))⟩, List.mem_cons_self⟩
  · rw [h0, if_neg e0] at hj
    exact absurd rfl hj
end EvSt3
section EvFin
set_option maxHeartbeats 4000000 in
theorem lw_walk (l : Launch) (hlt : l.stackTraces = false) (b : Addr) (xs : List Int32) : MetFree l x (headSpec (Jvm.Cond.code x code maxLocals ret :: tables_1) room_1) (lw_P b xs) (fun _ _ _ _ _ => True) lw_Q := by
  refine MetFree.of_bodyS (code := code) (maxLocals := maxLocals) (ret := ret) (by decide) ?_ ?_
  · intro args s m h hn
    obtain ⟨meth, c, h1, h2, h3, h4, h5, h6, -, -⟩ := Cond.code_spec hn (atoms_spec (ws := Jvm.Cond.code x code maxLocals ret :: tables_1) h _ List.mem_cons_self)
    exact ⟨meth, c, h1, h2, h3, h4, h5, h6⟩
  · intro p e s m args below meth c s₁ B hml0 hP _
    obtain ⟨rfl, hx, hbd, hgv⟩ := hP
    obtain ⟨scr, harrAt, hlist, hof, hsmall⟩ := hx
    obtain ⟨hcb, hkn, -, -⟩ := State.arrayAt?_spec harrAt
    have hown : s.vm.findClass R_law = some m.cls := findClass_of_methodNamed B.named
    have hts0 : ∀ c ∈ (Jvm.Cond.code x code maxLocals ret :: tables_1), c.before #[Value.ref b] s = true := atoms_spec (ws := Jvm.Cond.code x code maxLocals ret :: tables_1) B.pre
    have hts : ∀ w ∈ lw_tbl, w.before #[Value.ref b] s = true := k2_hts_sels lw_privs (fun w hw => hts0 w (List.mem_cons_of_mem _ hw)) lw_privs_ok
    have hml : c.maxLocals = 7 := B.maxLocals_eq (hts0 _ List.mem_cons_self)
    have X₀ : Stand p l e room_1 s m #[Value.ref b] below meth c s₁ [] 0 0 := Stand.of_body B
    have hh0 : s₁.heap = s.heap := by rw [B.state]; rfl
    have hsz : scr.slots.size = xs.length := by rw [← Array.length_toList, hlist, List.length_map]
    have hval : ∀ j : Nat, j < xs.length → scr.slots[j]? = some (.int (xs.getD j 0)) := fun j hj => by
      rw [← Array.getElem?_toList, hlist]
      simp [hj]
    have hbl : b < s.heap.size := (Array.getElem?_eq_some_iff.mp hcb).1
    have hX : va_X b xs.length (fun j => xs.getD j 0) s s.heap := ⟨scr, hcb, hof, hkn, hsz, hval⟩
    have K : W p l e room_1 s m #[Value.ref b] below meth c s₁.heap [] 0 0 (lw_Z below #[Value.ref b] s) (entryFrame m ([Value.ref b] : List Value).toArray 7) := by
      rw [hh0]
      exact whole_start l hlt hbd ⟨B.exec, B.bytes, B.returns, hml, hown, hts, hX, hbl, B.notSynchronized, hgv⟩
    obtain ⟨t, a1, o, b1, b2, b3⟩ := K s₁ rfl X₀
    exact ⟨t, o, a1, b1, b2, b3⟩
theorem lw_pre_spec {args : Array Value} {s : State} (h : (Jvm.Cond.and given_1 narrow_1).before args s = true) (hr : rest_1_c.before args s = true) : ∃ (b : Addr) (xs : List Int32), lw_P b xs args s := by
  have hs := flat_of_before _ h
  have hq := flat_of_before _ hr
  have hc : (Cond.count 1).before args s = true := hs _ (by decide +kernel)
  have harr : (Cond.arrayOf (.arg 0) .int).before args s = true := hs _ (by decide +kernel)
  have hle : (Cond.le (.length (.arg 0)) (.int 3072)).before args s = true := hs _ (by decide +kernel)
  have hlen : (Cond.isInt (.length (.arg 0))).before args s = true := hq _ (by decide +kernel)
  have hall : (Cond.all (.arg 0) (.isInt (.elem (.arg 0) (.index 0)))).before args s = true := hq _ (by decide +kernel)
  obtain ⟨b, xs, hb, hx⟩ := State.ints_of_pre rfl harr hlen hall
  have hsm : xs.length < 2 ^ 31 := hx.choose_spec.2.2.2
  have hev : (Term.length (.arg 0)).eval args s none [] s = some (.int xs.length.toInt32) := hx.length_eval hb
  have hv := Cond.le_ints hev (show (Term.int 3072).eval args s none [] s = some (.int 3072) from rfl)
  have hd : xs.length.toInt32 ≤ 3072 := by
    simpa [Cond.before, Cond.holds, hv] using hle
  have hN : xs.length ≤ 3072 := (Int32.ofNat_le_ofNat hsm (by decide)).mp (show Int32.ofNat xs.length ≤ Int32.ofNat 3072 from hd)
  exact ⟨b, xs, Cond.one_arg hc (show args[0]? = some (.ref b) from hb), hx, hN, h⟩
theorem lw_comes (l : Launch) (hlt : l.stackTraces = false) : Comes l x (Jvm.Cond.code x code maxLocals ret :: tables_1) room_1 (fun tb e args s => Calls_1 tb e args s ∧ rest_1 tb e args s ∧ Pre_1 tb e args s)
    (fun _ _ args s o t => lw_Q args s o t) := by
  intro p e ha hc hk s m args below hf hfit hheap happ hpre
  obtain ⟨b, xs, hP⟩ := lw_pre_spec hpre.2.2 hpre.2.1
  obtain ⟨k, o, h1, h2, h3, hQ⟩ := lw_walk l hlt b xs p e ha hc hk s m args below hf ((Spec.applies_iff_loose hf).mp happ).1 hP trivial
  exact ⟨k, o, h1, h2, h3, hQ⟩
theorem lw_frame {s t : State} {o : Outcome} {args : Array Value} (h : Framed s o t [] 601024 7293034) :
    Framed s o t (fieldLocs frame_1_writes args s ++ arrayLocs frame_1_arrays args s ++ staticLocs frame_1_statics s) 601024 7293034 := h
theorem lw_limb (L : Cond) (hL : ∀ (args : Array Value) (s t : State), L.after args s (.returned (some (.int 1))) t = true) :
    ArmFor flags0 classFile x code maxLocals ret World_1 tables_1 room_1 Calls_1 rest_1 Pre_1
      (fun tb e a s o t => postC L tb e a s o t ∧ Framed s o t (fieldLocs frame_1_writes a s ++ arrayLocs frame_1_arrays a s ++ staticLocs frame_1_statics s) 601024 7293034) := by
  intro l hfl _ _ p e ha hc hk s m args below hf hfit hheap happ hpre
  have hlt : l.stackTraces = false := by unfold Launch.stackTraces; rw [hfl]; decide +kernel
  obtain ⟨k, o, h1, h2, h3, rfl, hF⟩ := lw_comes l hlt p e ha hc hk s m args below hf hfit hheap happ hpre
  exact ⟨k, _, h1, h2, h3, hL args s _, lw_frame hF⟩
theorem i_vc : Claimed_1_1 ∧ Claimed_1_2 := ⟨lw_limb limb_1_1 (fun args s t => by simp [limb_1_1, Cond.after, Cond.holds, Cond.value]), lw_limb limb_1_2 (fun args s t => Cond.after_iff.mpr (by
  first | (rw [show limb_1_2 = Cond.eq .result (.int 1) from rfl, Cond.eq_ints (x := 1) (y := 1) rfl rfl]; simp; done) | (simp [limb_1_2, Cond.value, Term.eval]; done)))⟩
end EvFin
