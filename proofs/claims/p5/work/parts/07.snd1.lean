section EvCtx
/-- the words that every method may use -/
noncomputable def eGW : List Jvm.Cond := lw_tbl.filter goodWord
theorem eGW_in {w : Jvm.Cond} (h : w ∈ lw_tbl) (hg : goodWord w = true) : w ∈ eGW := List.mem_filter.mpr ⟨h, hg⟩
def eLs (ad : List Nat) (sg : List Int32) (fo : evF) : List Nat → List Value → Prop
  | [], [] => (∃ t, ad = fo.2.1 ++ t) ∧ ∃ t, sg = fo.2.2 ++ t
  | v :: st, x :: xs => eR ad sg fo v x ∧ eLs ad sg fo st xs
  | _, _ => False
theorem eLs_mono {ad ad' : List Nat} {sg sg' : List Int32} {fo : evF} (ha : ∃ t, ad' = ad ++ t) (hs : ∃ t, sg' = sg ++ t) : ∀ {st : List Nat} {xs : List Value}, eLs ad sg fo st xs → eLs ad' sg' fo st xs
  | [], [], h => ⟨by obtain ⟨t, rfl⟩ := ha; obtain ⟨u, hu⟩ := h.1; exact ⟨u ++ t, by rw [hu, List.append_assoc]⟩, by obtain ⟨t, rfl⟩ := hs; obtain ⟨u, hu⟩ := h.2; exact ⟨u ++ t, by rw [hu, List.append_assoc]⟩⟩
  | _ :: _, _ :: _, h => ⟨eR_mono h.1 ha hs, eLs_mono ha hs h.2⟩
  | [], _ :: _, h => h
  | _ :: _, [], h => h
theorem eLs_c {ad : List Nat} {sg : List Int32} {fo : evF} {v : Nat} {st : List Nat} {xs : List Value} (h : eLs ad sg fo (v :: st) xs) : ∃ x ys, xs = x :: ys ∧ eR ad sg fo v x ∧ eLs ad sg fo st ys := by
  cases xs with
  | nil => exact h.elim
  | cons x ys => exact ⟨x, ys, rfl, h⟩
theorem eLs_n {ad : List Nat} {sg : List Int32} {fo : evF} {xs : List Value} (h : eLs ad sg fo [] xs) : xs = [] := by
  cases xs with
  | nil => rfl
  | cons x ys => exact h.elim
/-- a cell -/
def eCe (ad : List Nat) (sg : List Int32) (fo : evF) (tys : List (ClassId × FieldType)) (c : Nat) (e : va_E) : Prop :=
  (∃ (fs : List Value) (r : vw_C), e = .inr (eKi c, fs) ∧ vwCl[eKi c]? = some r ∧ r.2.2 = fs.length ∧ ∀ k x, fs[k]? = some x → eR ad sg fo (eSl (eDa c) k) x)
  ∨ (∃ (cA : ClassId) (f : Nat → Int32) (t : Nat) (ty : FieldType), e = .inl (cA, eLe c, .inl f) ∧ tys[t]? = some (cA, ty) ∧ ((eKi c = 64 ∧ ty = .int) ∨ (eKi c = 66 ∧ ty = .byte) ∨ (eKi c = 67 ∧ ty = .boolean)) ∧ ∀ j, j < eLe c → eR ad sg fo (eSl (eDa c) j) (.int (f j)))
  ∨ (∃ (cA : ClassId) (f : Nat → Int64) (t : Nat), e = .inl (cA, eLe c, .inr (.inl f)) ∧ tys[t]? = some (cA, .long) ∧ eKi c = 65 ∧ ∀ j, j < eLe c → eR ad sg fo (eSl (eDa c) j) (.long (f j)))
  ∨ (∃ (cA : ClassId) (f : Nat → Option Nat) (t : Nat), e = .inl (cA, eLe c, .inr (.inr (.inr (.inr f)))) ∧ tys[t]? = some (cA, .object (eCn (eKi c - 128))) ∧ 128 ≤ eKi c ∧ eKi c < 141 ∧ ∀ j, j < eLe c → eR ad sg fo (eSl (eDa c) j) (va_rf (f j)))
theorem eCe_mono {ad ad' : List Nat} {sg sg' : List Int32} {fo : evF} {tys tys' : List (ClassId × FieldType)} {c : Nat} {e : va_E} (h : eCe ad sg fo tys c e) (ha : ∃ t, ad' = ad ++ t) (hs : ∃ t, sg' = sg ++ t) (ht : ∃ t, tys' = tys ++ t) : eCe ad' sg' fo tys' c e := by
  obtain ⟨tt, rfl⟩ := ht
  have up : ∀ {k : Nat} {q : ClassId × FieldType}, tys[k]? = some q → (tys ++ tt)[k]? = some q := fun h => by rw [List.getElem?_append_left (List.getElem?_eq_some_iff.mp h).1]; exact h
  rcases h with ⟨fs, r, h1, h2, h3, h4⟩ | ⟨cA, f, t, ty, h1, h2, h3, h4⟩ | ⟨cA, f, t, h1, h2, h3, h4⟩ | ⟨cA, f, t, h1, h2, h3, h4, h5⟩
  · exact Or.inl ⟨fs, r, h1, h2, h3, fun k x hk => eR_mono (h4 k x hk) ha hs⟩
  · exact Or.inr (Or.inl ⟨cA, f, t, ty, h1, up h2, h3, fun j hj => eR_mono (h4 j hj) ha hs⟩)
  · exact Or.inr (Or.inr (Or.inl ⟨cA, f, t, h1, up h2, h3, fun j hj => eR_mono (h4 j hj) ha hs⟩))
  · exact Or.inr (Or.inr (Or.inr ⟨cA, f, t, h1, up h2, h3, h4, fun j hj => eR_mono (h5 j hj) ha hs⟩))
abbrev eAd (ws : va_W) : List Nat := ws.map (fun q => q.1)
/-- the heap -/
def eHp (fo : evF) (sg : List Int32) (tys : List (ClassId × FieldType)) (hp : Lean.RArray Nat) (hn : Nat) (ws : va_W) : Prop :=
  eWf hp 0 1024 ∧ ws.length = hn ∧ hn ≤ 1024 ∧ ∀ k a e, ws[k]? = some (a, e) → eCe (eAd ws) sg fo tys (Lean.RArray.get hp k) e
/-- what was there before: the text of the words, two statics, the links among nest mates -/
def eFX0 (A : Nat → Prop) (fo : evF) (U : State) (H : Heap) : Prop :=
  ∃ adK adV : Nat → Nat, fo.1 0 = .ref (adK 0) ∧ fo.1 1 = .ref (adV 0) ∧ (fo.1 2 = .null ∨ ∃ t, fo.1 2 = .ref t) ∧ vk_S 1 eTxL eTxB adK adV A U H ∧ vk_R "LeafVotes$Tokens" 19 eTx (adK 0) U ∧ va_Z "java/lang/String" "COMPACT_STRINGS" "Z" (.int 1) A U H
    ∧ va_Z "jdk/internal/util/Preconditions" "SIOOBE_FORMATTER" "Ljava/util/function/BiFunction;" (fo.1 2) A U H ∧ (∀ w ∈ eNw, va_Nw w U) ∧ va_AO "LeafVotes$Image" U ∧ va_AO "LeafVotes$Land" U
theorem eFX0.kept {A : Nat → Prop} {fo : evF} {U : State} {H H1 : Heap} (h : eFX0 A fo U H) (hq : ∀ a : Nat, a < H.size → ¬ A a → H1[a]? = H[a]?) : eFX0 A fo U H1 := by
  obtain ⟨adK, adV, h1, h2, h3, h4, h5, h6, h7, h8⟩ := h
  exact ⟨adK, adV, h1, h2, h3, h4.kept hq, h5, h6.kept hq, h7.kept hq, h8⟩
theorem eFX0.narrow {A B : Nat → Prop} {fo : evF} {U : State} {H : Heap} (h : eFX0 A fo U H) (hq : ∀ q, B q → A q) : eFX0 B fo U H := by
  obtain ⟨adK, adV, h1, h2, h3, h4, h5, h6, h7, h8⟩ := h
  exact ⟨adK, adV, h1, h2, h3, h4.narrow hq, h5, h6.narrow hq, h7.narrow hq, h8⟩
theorem eNw_warm {s U : State} (hW : s.WarmedH U.vm) : ∀ w ∈ eNw, va_Nw w s → va_Nw w U := by
  intro w hw h
  simp only [eNw, List.mem_cons, List.not_mem_nil, or_false] at hw
  rcases hw with rfl | rfl | rfl | rfl <;> exact va_Nw.warmM hW h
theorem eFX0.moved {A : Nat → Prop} {fo : evF} {s U : State} {H : Heap} (hW : s.WarmedH U.vm) (h : eFX0 A fo s H) : eFX0 A fo U H := by
  obtain ⟨adK, adV, h1, h2, h3, h4, h5, h6, h7, h8⟩ := h
  exact ⟨adK, adV, h1, h2, h3, h4.moved hW.alike, h5.warm hW, h6.moved hW.alike, h7.moved hW.alike, fun w hw => eNw_warm hW w hw (h8.1 w hw), h8.2.1.moved hW.alike, h8.2.2.moved hW.alike⟩
/-- two static rows of the class, five ints each, of -1, 0, 1 -/
def eSn (i : Nat) : String := match i with
  | 0 => "EAST_STEP"
  | _ => "SOUTH_STEP"
def eSt (A : Nat → Prop) (fo : evF) (U : State) (H : Heap) : Prop :=
  (∀ w ∈ eNg, va_Nw w U) ∧ ∀ i : Nat, i < 2 → ∃ (b : Nat) (xs : Nat → Int32), fo.1 (5 + i) = .ref b ∧ va_Z "LeafVotes" (eSn i) "[I" (.ref b) A U H ∧ va_T .int b 5 (fun j => .int (xs j)) A U H ∧ b < H.size ∧ ¬ A b ∧ ∀ j : Nat, j < 5 → -1 ≤ (xs j).toInt ∧ (xs j).toInt ≤ 1
theorem eSt.kept {A : Nat → Prop} {fo : evF} {U : State} {H H1 : Heap} (h : eSt A fo U H) (hq : ∀ a : Nat, a < H.size → ¬ A a → H1[a]? = H[a]?) : eSt A fo U H1 := by
  refine ⟨h.1, fun i hi => ?_⟩
  obtain ⟨b, xs, h1, h2, h3, h4, h5, h6⟩ := h.2 i hi
  have e := hq b h4 h5
  refine ⟨b, xs, h1, h2.kept hq, h3.kept hq, ?_, h5, h6⟩
  obtain ⟨scr, q, -⟩ := h3
  rw [← e] at q
  exact (Array.getElem?_eq_some_iff.mp q).1
theorem eSt.narrow {A B : Nat → Prop} {fo : evF} {U : State} {H : Heap} (h : eSt A fo U H) (hq : ∀ q, B q → A q) : eSt B fo U H := by
  refine ⟨h.1, fun i hi => ?_⟩
  obtain ⟨b, xs, h1, h2, h3, h4, h5, h6⟩ := h.2 i hi
  exact ⟨b, xs, h1, h2.narrow hq, h3.narrow hq, h4, fun z => h5 (hq _ z), h6⟩
theorem eNg_warm {s U : State} (hW : s.WarmedH U.vm) : ∀ w ∈ eNg, va_Nw w s → va_Nw w U := by
  intro w hw h
  simp only [eNg, List.mem_cons, List.not_mem_nil, or_false] at hw
  rcases hw with rfl | rfl | rfl | rfl <;> exact va_Nw.warmF hW h
theorem eSt.moved {A : Nat → Prop} {fo : evF} {s U : State} {H : Heap} (hW : s.WarmedH U.vm) (h : eSt A fo s H) : eSt A fo U H := by
  refine ⟨fun w hw => eNg_warm hW w hw (h.1 w hw), fun i hi => ?_⟩
  obtain ⟨b, xs, h1, h2, h3, h4, h5, h6⟩ := h.2 i hi
  exact ⟨b, xs, h1, h2.moved hW.alike, h3.moved hW.alike, h4, h5, h6⟩
def eFX (A : Nat → Prop) (fo : evF) (U : State) (H : Heap) : Prop := eFX0 A fo U H ∧ eSt A fo U H
theorem eFX.kept {A : Nat → Prop} {fo : evF} {U : State} {H H1 : Heap} (h : eFX A fo U H) (hq : ∀ a : Nat, a < H.size → ¬ A a → H1[a]? = H[a]?) : eFX A fo U H1 := ⟨h.1.kept hq, h.2.kept hq⟩
theorem eFX.narrow {A B : Nat → Prop} {fo : evF} {U : State} {H : Heap} (h : eFX A fo U H) (hq : ∀ q, B q → A q) : eFX B fo U H := ⟨h.1.narrow hq, h.2.narrow hq⟩
theorem eFX.moved {A : Nat → Prop} {fo : evF} {s U : State} {H : Heap} (hW : s.WarmedH U.vm) (h : eFX A fo s H) : eFX A fo U H := ⟨h.1.moved hW, h.2.moved hW⟩
/-- the locals -/
def eLr (ad : List Nat) (sg : List Int32) (fo : evF) (nL L : Nat) (ls : Array Slot) : Prop :=
  ∃ lv, lv_has ls nL lv ∧ ∀ j, ¬ eTg (eSl L j) = 0 → ∃ x, eR ad sg fo (eSl L j) x ∧ (j, x) ∈ lv
theorem eLr_mono {ad ad' : List Nat} {sg sg' : List Int32} {fo : evF} {nL L : Nat} {ls : Array Slot} (h : eLr ad sg fo nL L ls) (ha : ∃ t, ad' = ad ++ t) (hs : ∃ t, sg' = sg ++ t) : eLr ad' sg' fo nL L ls := by
  obtain ⟨lv, h1, h2⟩ := h
  refine ⟨lv, h1, fun j hj => ?_⟩
  obtain ⟨x, q1, q2⟩ := h2 j hj
  exact ⟨x, eR_mono q1 ha hs, q2⟩
/-- the law's script: six ints, the first six names; or it isn't spoken of -/
def eScr (A : Nat → Prop) (fo : evF) (s : State) (qm : evM) : Prop := qm.2.2.2.2.1 = 13 → fo.1 4 = .int 0 ∨ ∃ b, fo.1 4 = .ref b ∧ b < s.heap.size ∧ ¬ A b ∧ va_X b 6 (fun j => (fo.2.2).getD j 0) s s.heap ∧ 6 ≤ fo.2.2.length
/-- what stands fixed in a frame -/
def eFix (p : Program) (R : Room) (s : State) (m : MethodId) (args : Array Value) (meth : Method) (c : Code) (A : Nat → Prop) (fo : evF) (qm : evM) (dp : Nat) : Prop :=
  p.tables.exec = Jvm.exec ∧ c.code = qm.2.1 ∧ c.maxLocals = qm.2.2.1 ∧ meth.sig.returnType = qm.2.2.2.1 ∧ s.vm.findClass (eCn qm.2.2.2.2.1) = some m.cls ∧ (∀ w ∈ eGW, w.before args s = true) ∧ ((eIni qm = true → meth.name = "<init>") ∧ eScr A fo s qm) ∧ meth.locks = false ∧ (dp + 1 ≤ R.frames ∧ 100 * (dp + 1) ≤ R.locals) ∧ (∀ q, s.heap.size ≤ q → A q) ∧ eFX A fo s s.heap
/-- what moves -/
def eNow (s : State) (D : va_G) (A : Nat → Prop) (fo : evF) (g : evG) (sg : List Int32) (tys : List (ClassId × FieldType)) (ws : va_W) (H : Heap) (locs : List Loc) : Prop :=
  va_K D vwCl tys s ∧ va_P D vwCl ws H ∧ va_D A ws ∧ va_S A s.heap H locs ∧ eHp fo sg tys g.1 g.2.1 ws ∧ eE g.2.2.1 sg
def eGo (p : Program) (l : Launch) (e : Env) (R : Room) (s : State) (m : MethodId) (args : Array Value) (below : List Frame) (meth : Method) (c : Code) (Q : State → Prop) (D : va_G) (A : Nat → Prop) (fo : evF) (qm : evM) (pc L : Nat) (st : List Nat) (g : evG) : Prop :=
  ∀ (sg : List Int32) (tys : List (ClassId × FieldType)) (ws : va_W) (H : Heap) (locs : List Loc) (cells slots : Nat) (ls : Array Slot) (stv : List Value), eNow s D A fo g sg tys ws H locs → eLr (eAd ws) sg fo qm.2.2.1 L ls → eLs (eAd ws) sg fo st stv → cells + g.2.2.2.1 ≤ R.cells → slots + g.2.2.2.2 ≤ R.slots →
    W p l e R s m args below meth c H locs cells slots Q (F0 m pc ls stv)
end EvCtx
