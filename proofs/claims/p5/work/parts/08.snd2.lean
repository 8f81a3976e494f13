section EvS2
variable {p : Program} {l : Launch} {e : Env} {R : Room} {s : State} {m : MethodId} {args : Array Value} {below : List Frame} {meth : Method} {c : Code} {Q : State → Prop} {D : va_G} {A : Nat → Prop} {fo : evF} {qm : evM} {dp : Nat}
variable {r : evR} {cl : evC} {kk : evK} {pc L : Nat} {st : List Nat} {g : evG}
theorem eNow_sg {sg sg' : List Int32} {tys : List (ClassId × FieldType)} {ws : va_W} {H : Heap} {locs : List Loc} {env' : evEnv} (h : eNow s D A fo g sg tys ws H locs) (hs : ∃ t, sg' = sg ++ t) (hE : eE env' sg') : eNow s D A fo (g.1, g.2.1, env', g.2.2.2) sg' tys ws H locs := by
  obtain ⟨h1, h2, h3, h4, ⟨h5, h6, h7, h8⟩, -⟩ := h
  exact ⟨h1, h2, h3, h4, ⟨h5, h6, h7, fun k a e hk => eCe_mono (h8 k a e hk) ⟨[], by simp⟩ hs ⟨[], by simp⟩⟩, hE⟩
theorem eSame (ad : List Nat) : ∃ t, ad = ad ++ t := ⟨[], by simp⟩
theorem s_push {v len : Nat} {x : Value} (hr : ∀ pc L st g, r pc L st g = true → eGo p l e R s m args below meth c Q D A fo qm pc L st g) (hx : ∀ ad sg, eR ad sg fo v x)
    (row : ∀ H locs cells slots ls rest, W p l e R s m args below meth c H locs cells slots Q (F0 m (pc + len) ls (x :: rest)) → W p l e R s m args below meth c H locs cells slots Q (F0 m pc ls rest)) (h : hPush v len r cl kk pc L st g = true) : eGo p l e R s m args below meth c Q D A fo qm pc L st g := by
  intro sg tys ws H locs cells slots ls stv hN hL hst hc hs
  exact row _ _ _ _ _ _ (hr _ _ _ _ h sg tys ws H locs cells slots ls (x :: stv) hN hL ⟨hx _ _, hst⟩ hc hs)
theorem s_load {pp : Nat → Bool} {PX : Value → Prop} {j len : Nat} (hr : ∀ pc L st g, r pc L st g = true → eGo p l e R s m args below meth c Q D A fo qm pc L st g) (hp : ∀ ad sg v x, eR ad sg fo v x → pp v = true → PX x) (hp0 : ∀ v, pp v = true → ¬ eTg v = 0)
    (row : ∀ H locs cells slots ls rest x, PX x → ls[j]? = some (.val x) → W p l e R s m args below meth c H locs cells slots Q (F0 m (pc + len) ls (x :: rest)) → W p l e R s m args below meth c H locs cells slots Q (F0 m pc ls rest)) (h : hLoad pp j len r cl kk pc L st g = true) : eGo p l e R s m args below meth c Q D A fo qm pc L st g := by
  intro sg tys ws H locs cells slots ls stv hN hL hst hc hs
  obtain ⟨h1, h2⟩ := eC_t h
  obtain ⟨lv, hl, hx⟩ := id hL
  obtain ⟨x, q1, q2⟩ := hx j (hp0 _ h1)
  exact row _ _ _ _ _ _ x (hp _ _ _ _ q1 h1) (hl.2.2 (j, x) q2) (hr _ _ _ _ h2 sg tys ws H locs cells slots ls (x :: stv) hN hL ⟨eNrm_ok hN.2.2.2.2.2 q1, hst⟩ hc hs)
theorem eCat_1 {v : Nat} (h : Nat.beq (eTg v) 4 = false) : eCat v = 1 := by
  unfold eCat
  rw [h]
  rfl
theorem s_store {pp : Nat → Bool} {PX : Value → Prop} {j len : Nat} (hr : ∀ pc L st g, r pc L st g = true → eGo p l e R s m args below meth c Q D A fo qm pc L st g) (hp : ∀ ad sg v x, eR ad sg fo v x → pp v = true → PX x)
    (row : ∀ H locs cells slots ls lv x rest, PX x → lv_has ls qm.2.2.1 lv → j < qm.2.2.1 → (∀ ls', lv_has ls' qm.2.2.1 ((j, x) :: lv.filter (fun q => !(q.1 == j) && !(q.1 + 1 == j && q.2.category == 2))) → W p l e R s m args below meth c H locs cells slots Q (F0 m (pc + len) ls' rest)) → W p l e R s m args below meth c H locs cells slots Q (F0 m pc ls (x :: rest)))
    (h : hStore pp qm.2.2.1 j len r cl kk pc L st g = true) : eGo p l e R s m args below meth c Q D A fo qm pc L st g := by
  intro sg tys ws H locs cells slots ls stv hN hL hst hc hs
  cases st with
  | nil => cases h
  | cons v rest =>
    obtain ⟨x, xs, rfl, hv, ht⟩ := eLs_c hst
    obtain ⟨h1, h2⟩ := eC_t h
    obtain ⟨h2, h3⟩ := eC_t h2
    obtain ⟨h3, h4⟩ := eC_f h3
    obtain ⟨lv, hl, hx⟩ := id hL
    refine row _ _ _ _ _ lv x xs (hp _ _ _ _ hv h1) hl (eB_l h2) (fun ls' hl' => ?_)
    refine hr _ _ _ _ h4 sg tys ws H locs cells slots ls' xs hN ⟨_, hl', fun i hi => ?_⟩ ht hc hs
    rw [eSl_set hv.1] at hi ⊢
    by_cases e : i = j
    · subst e
      rw [if_pos rfl]
      exact ⟨x, hv, List.mem_cons_self⟩
    · rw [if_neg e] at hi ⊢
      obtain ⟨y, q1, q2⟩ := hx i hi
      refine ⟨y, q1, List.mem_cons_of_mem _ (List.mem_filter.mpr ⟨q2, ?_⟩)⟩
      have hy := eR_cat q1
      simp only [Bool.and_eq_true, Bool.not_eq_true', beq_eq_false_iff_ne, ne_eq, Bool.and_eq_false_iff]
      refine ⟨e, ?_⟩
      by_cases e2 : i + 1 = j
      · refine Or.inr ?_
        have e3 : i = Nat.sub j 1 := by show i = j - 1; omega
        subst e3
        rw [hy, eCat_1 h3]
        decide
      · exact Or.inl e2
theorem s_store2 {j len : Nat} (hr : ∀ pc L st g, r pc L st g = true → eGo p l e R s m args below meth c Q D A fo qm pc L st g)
    (row : ∀ H locs cells slots ls lv x rest, lv_has ls qm.2.2.1 lv → j + 1 < qm.2.2.1 → (∀ ls', lv_has ls' qm.2.2.1 ((j, Value.long x) :: lv.filter (fun q => !(q.1 == j) && (!(q.1 == j + 1) && !(q.1 + 1 == j && q.2.category == 2)))) → W p l e R s m args below meth c H locs cells slots Q (F0 m (pc + len) ls' rest)) → W p l e R s m args below meth c H locs cells slots Q (F0 m pc ls (.long x :: rest)))
    (h : hStore2 qm.2.2.1 j len r cl kk pc L st g = true) : eGo p l e R s m args below meth c Q D A fo qm pc L st g := by
  intro sg tys ws H locs cells slots ls stv hN hL hst hc hs
  cases st with
  | nil => cases h
  | cons v rest =>
    obtain ⟨x, xs, rfl, hv, ht⟩ := eLs_c hst
    obtain ⟨h1, h2⟩ := eC_t h
    obtain ⟨h2, h3⟩ := eC_t h2
    obtain ⟨h3, h4⟩ := eC_f h3
    obtain ⟨lv, hl, hx⟩ := id hL
    obtain ⟨-, rfl⟩ := eR_L hv (Nat.eq_of_beq_eq_true h1)
    refine row _ _ _ _ _ lv _ xs hl (eB_l h2) (fun ls' hl' => ?_)
    refine hr _ _ _ _ h4 sg tys ws H locs cells slots ls' xs hN ⟨_, hl', fun i hi => ?_⟩ ht hc hs
    rw [eSl_set (by decide)] at hi ⊢
    by_cases e0 : i = Nat.add j 1
    · rw [if_pos e0] at hi
      exact absurd rfl hi
    · rw [if_neg e0, eSl_set hv.1] at hi ⊢
      by_cases e : i = j
      · subst e
        rw [if_pos rfl]
        exact ⟨_, hv, List.mem_cons_self⟩
      · rw [if_neg e] at hi ⊢
        obtain ⟨y, q1, q2⟩ := hx i hi
        refine ⟨y, q1, List.mem_cons_of_mem _ (List.mem_filter.mpr ⟨q2, ?_⟩)⟩
        have hy := eR_cat q1
        simp only [Bool.and_eq_true, Bool.not_eq_true', beq_eq_false_iff_ne, ne_eq, Bool.and_eq_false_iff]
        refine ⟨e, e0, ?_⟩
        by_cases e2 : i + 1 = j
        · refine Or.inr ?_
          have e3 : i = Nat.sub j 1 := by show i = j - 1; omega
          subst e3
          rw [hy, eCat_1 h3]
          decide
        · exact Or.inl e2
theorem s_op2 {f : evEnv → Nat → Nat → (Nat → evEnv → Bool) → Bool} {op : Int32 → Int32 → Int32} {P : Int32 → Prop} (hr : ∀ pc L st g, r pc L st g = true → eGo p l e R s m args below meth c Q D A fo qm pc L st g) (hop : eOpOk f op P)
    (row : ∀ H locs cells slots ls rest x y, P y → W p l e R s m args below meth c H locs cells slots Q (F0 m (pc + 1) ls (.int (op x y) :: rest)) → W p l e R s m args below meth c H locs cells slots Q (F0 m pc ls (.int y :: .int x :: rest))) (h : hOp2 f r cl kk pc L st g = true) : eGo p l e R s m args below meth c Q D A fo qm pc L st g := by
  intro sg tys ws H locs cells slots ls stv hN hL hst hc hs
  cases st with
  | nil => cases h
  | cons b st =>
    cases st with
    | nil => cases h
    | cons a rest =>
      obtain ⟨y, ys, rfl, hb, ht1⟩ := eLs_c hst
      obtain ⟨x, xs, rfl, ha, ht⟩ := eLs_c ht1
      obtain ⟨h1, h2⟩ := eC_t h
      obtain ⟨h2, h3⟩ := eC_t h2
      obtain ⟨x, rfl⟩ := eR_I ha h1
      obtain ⟨y, rfl⟩ := eR_I hb h2
      obtain ⟨hP, v, env', sg', hs', hE', hv, hk⟩ := hop _ _ _ _ _ _ _ _ _ hN.2.2.2.2.2 ha hb h3
      exact row _ _ _ _ _ _ _ _ hP (hr _ _ _ _ hk sg' tys ws H locs cells slots ls _ (eNow_sg hN hs' hE') (eLr_mono hL (eSame _) hs') ⟨hv, eLs_mono (eSame _) hs' ht⟩ hc hs)
theorem s_iinc {j : Nat} {n : Int} (hr : ∀ pc L st g, r pc L st g = true → eGo p l e R s m args below meth c Q D A fo qm pc L st g)
    (row : ∀ H locs cells slots ls lv rest x (k : Nat), lv_has ls qm.2.2.1 lv → lv[k]? = some (j, Value.int x) → j < qm.2.2.1 → (∀ ls', lv_has ls' qm.2.2.1 ((j, Value.int (x + Int32.ofInt n)) :: lv.filter (fun q => !(q.1 == j) && !(q.1 + 1 == j && q.2.category == 2))) → W p l e R s m args below meth c H locs cells slots Q (F0 m (pc + 3) ls' rest)) → W p l e R s m args below meth c H locs cells slots Q (F0 m pc ls rest))
    (h : hIinc qm.2.2.1 j n r cl kk pc L st g = true) : eGo p l e R s m args below meth c Q D A fo qm pc L st g := by
  intro sg tys ws H locs cells slots ls stv hN hL hst hc hs
  obtain ⟨h1, h2⟩ := eC_t h
  obtain ⟨h2, h3⟩ := eC_t h2
  obtain ⟨h2, h4⟩ := eC_t h2
  obtain ⟨h4, -⟩ := eC_f h4
  obtain ⟨lv, hl, hx⟩ := id hL
  have ht : ¬ eTg (eSl L j) = 0 := by
    intro q
    obtain ⟨a, -⟩ := eC_t h2
    rw [q] at a
    cases a
  obtain ⟨x, q1, q2⟩ := hx j ht
  obtain ⟨x, rfl⟩ := eR_I q1 h2
  obtain ⟨k, hk⟩ := List.getElem?_of_mem q2
  obtain ⟨-, v, env', sg', hs', hE', hv, hk'⟩ := eAdd_ok _ _ _ _ _ _ _ _ _ hN.2.2.2.2.2 (eNrm_ok hN.2.2.2.2.2 q1) (eR_c (ad := eAd ws) (sg := sg) (fo := fo) (eN32_lt n)) h3
  rw [eN32_ok] at hv
  refine row _ _ _ _ _ lv _ x k hl hk (eB_l h1) (fun ls' hl' => ?_)
  refine hr _ _ _ _ hk' sg' tys ws H locs cells slots ls' _ (eNow_sg hN hs' hE') ⟨_, hl', fun i hi => ?_⟩ (eLs_mono (eSame _) hs' hst) hc hs
  rw [eSl_set hv.1] at hi ⊢
  by_cases e : i = j
  · subst e
    rw [if_pos rfl]
    exact ⟨_, hv, List.mem_cons_self⟩
  · rw [if_neg e] at hi ⊢
    obtain ⟨y, q3, q4⟩ := hx i hi
    refine ⟨y, eR_mono q3 (eSame _) hs', List.mem_cons_of_mem _ (List.mem_filter.mpr ⟨q4, ?_⟩)⟩
    have hy := eR_cat q3
    simp only [Bool.and_eq_true, Bool.not_eq_true', beq_eq_false_iff_ne, ne_eq, Bool.and_eq_false_iff]
    refine ⟨e, ?_⟩
    by_cases e2 : i + 1 = j
    · refine Or.inr ?_
      have e3 : i = Nat.sub j 1 := by show i = j - 1; omega
      subst e3
      rw [hy, eCat_1 h4]
      decide
    · exact Or.inl e2
theorem eTo_ok {off : Int} {k : Nat → Bool} (h : eTo pc off k = true) : ∃ t : Nat, (pc : Int) + off = (t : Int) ∧ k t = true := by
  unfold eTo at h
  have e : Int.add (Int.ofNat pc) off = (pc : Int) + off := rfl
  rw [e] at h
  cases hz : (pc : Int) + off with
  | ofNat t => rw [hz] at h; exact ⟨t, rfl, h⟩
  | negSucc t => rw [hz] at h; cases h
theorem s_goto {off : Int} (hr : ∀ pc L st g, r pc L st g = true → eGo p l e R s m args below meth c Q D A fo qm pc L st g)
    (row : ∀ H locs cells slots ls rest (tgt : Nat), (pc : Int) + off = (tgt : Int) → W p l e R s m args below meth c H locs cells slots Q (F0 m tgt ls rest) → W p l e R s m args below meth c H locs cells slots Q (F0 m pc ls rest)) (h : hGoto off r cl kk pc L st g = true) : eGo p l e R s m args below meth c Q D A fo qm pc L st g := by
  intro sg tys ws H locs cells slots ls stv hN hL hst hc hs
  obtain ⟨t, h1, h2⟩ := eTo_ok h
  exact row _ _ _ _ _ _ t h1 (hr _ _ _ _ h2 sg tys ws H locs cells slots ls stv hN hL hst hc hs)
theorem eNow_env {sg : List Int32} {tys : List (ClassId × FieldType)} {ws : va_W} {H : Heap} {locs : List Loc} {env' : evEnv} (h : eNow s D A fo g sg tys ws H locs) (hE : eE env' sg) : eNow s D A fo (g.1, g.2.1, env', g.2.2.2) sg tys ws H locs := eNow_sg h (eStay sg) hE
theorem s_if {o : ClassFile.Cond} {off : Int} (hr : ∀ pc L st g, r pc L st g = true → eGo p l e R s m args below meth c Q D A fo qm pc L st g)
    (row : ∀ H locs cells slots ls rest x (tgt : Nat), (pc : Int) + off = (tgt : Int) → (eHolds o x 0 → W p l e R s m args below meth c H locs cells slots Q (F0 m tgt ls rest)) → (¬ eHolds o x 0 → W p l e R s m args below meth c H locs cells slots Q (F0 m (pc + 3) ls rest)) → W p l e R s m args below meth c H locs cells slots Q (F0 m pc ls (.int x :: rest))) (h : hIf o off r cl kk pc L st g = true) : eGo p l e R s m args below meth c Q D A fo qm pc L st g := by
  intro sg tys ws H locs cells slots ls stv hN hL hst hc hs
  cases st with
  | nil => cases h
  | cons a rest =>
    obtain ⟨x, xs, rfl, ha, ht⟩ := eLs_c hst
    obtain ⟨h1, h2⟩ := eC_t h
    obtain ⟨t, h2, h3⟩ := eTo_ok h2
    obtain ⟨x, rfl⟩ := eR_I ha h1
    obtain ⟨q1, q2⟩ := eCmp_ok hN.2.2.2.2.2 ha (eR_c (ad := eAd ws) (sg := sg) (fo := fo) (n := 0) (by decide)) o h3
    refine row _ _ _ _ _ _ x t h2 (fun z => ?_) (fun z => ?_)
    · obtain ⟨env', e1, e2⟩ := q1 z
      exact hr _ _ _ _ e2 sg tys ws H locs cells slots ls xs (eNow_env hN e1) hL ht hc hs
    · obtain ⟨env', e1, e2⟩ := q2 z
      exact hr _ _ _ _ e2 sg tys ws H locs cells slots ls xs (eNow_env hN e1) hL ht hc hs
theorem s_icmp {o : ClassFile.Cond} {off : Int} (hr : ∀ pc L st g, r pc L st g = true → eGo p l e R s m args below meth c Q D A fo qm pc L st g)
    (row : ∀ H locs cells slots ls rest x y (tgt : Nat), (pc : Int) + off = (tgt : Int) → (eHolds o x y → W p l e R s m args below meth c H locs cells slots Q (F0 m tgt ls rest)) → (¬ eHolds o x y → W p l e R s m args below meth c H locs cells slots Q (F0 m (pc + 3) ls rest)) → W p l e R s m args below meth c H locs cells slots Q (F0 m pc ls (.int y :: .int x :: rest))) (h : hIcmp o off r cl kk pc L st g = true) : eGo p l e R s m args below meth c Q D A fo qm pc L st g := by
  intro sg tys ws H locs cells slots ls stv hN hL hst hc hs
  cases st with
  | nil => cases h
  | cons b st =>
    cases st with
    | nil => cases h
    | cons a rest =>
      obtain ⟨y, ys, rfl, hb, ht1⟩ := eLs_c hst
      obtain ⟨x, xs, rfl, ha, ht⟩ := eLs_c ht1
      obtain ⟨h1, h2⟩ := eC_t h
      obtain ⟨h2, h3⟩ := eC_t h2
      obtain ⟨t, h3, h4⟩ := eTo_ok h3
      obtain ⟨x, rfl⟩ := eR_I ha h1
      obtain ⟨y, rfl⟩ := eR_I hb h2
      obtain ⟨q1, q2⟩ := eCmp_ok hN.2.2.2.2.2 ha hb o h4
      refine row _ _ _ _ _ _ x y t h3 (fun z => ?_) (fun z => ?_)
      · obtain ⟨env', e1, e2⟩ := q1 z
        exact hr _ _ _ _ e2 sg tys ws H locs cells slots ls xs (eNow_env hN e1) hL ht hc hs
      · obtain ⟨env', e1, e2⟩ := q2 z
        exact hr _ _ _ _ e2 sg tys ws H locs cells slots ls xs (eNow_env hN e1) hL ht hc hs
theorem s_dup (hr : ∀ pc L st g, r pc L st g = true → eGo p l e R s m args below meth c Q D A fo qm pc L st g) (row : ∀ H locs cells slots ls rest x, x.category = 1 → W p l e R s m args below meth c H locs cells slots Q (F0 m (pc + 1) ls (x :: x :: rest)) → W p l e R s m args below meth c H locs cells slots Q (F0 m pc ls (x :: rest))) (h : hDup r cl kk pc L st g = true) : eGo p l e R s m args below meth c Q D A fo qm pc L st g := by
  intro sg tys ws H locs cells slots ls stv hN hL hst hc hs
  cases st with
  | nil => cases h
  | cons a rest =>
    obtain ⟨x, xs, rfl, ha, ht⟩ := eLs_c hst
    obtain ⟨h1, h2⟩ := eC_f h
    exact row _ _ _ _ _ _ x (by rw [eR_cat ha, eCat_1 h1]) (hr _ _ _ _ h2 sg tys ws H locs cells slots ls _ hN hL ⟨ha, ha, ht⟩ hc hs)
theorem s_pop (hr : ∀ pc L st g, r pc L st g = true → eGo p l e R s m args below meth c Q D A fo qm pc L st g) (row : ∀ H locs cells slots ls rest x, x.category = 1 → W p l e R s m args below meth c H locs cells slots Q (F0 m (pc + 1) ls rest) → W p l e R s m args below meth c H locs cells slots Q (F0 m pc ls (x :: rest))) (h : hPop r cl kk pc L st g = true) : eGo p l e R s m args below meth c Q D A fo qm pc L st g := by
  intro sg tys ws H locs cells slots ls stv hN hL hst hc hs
  cases st with
  | nil => cases h
  | cons a rest =>
    obtain ⟨x, xs, rfl, ha, ht⟩ := eLs_c hst
    obtain ⟨h1, h2⟩ := eC_f h
    exact row _ _ _ _ _ _ x (by rw [eR_cat ha, eCat_1 h1]) (hr _ _ _ _ h2 sg tys ws H locs cells slots ls _ hN hL ht hc hs)
theorem s_dup2 (hr : ∀ pc L st g, r pc L st g = true → eGo p l e R s m args below meth c Q D A fo qm pc L st g) (row : ∀ H locs cells slots ls rest x y, x.category = 1 → y.category = 1 → W p l e R s m args below meth c H locs cells slots Q (F0 m (pc + 1) ls (x :: y :: x :: y :: rest)) → W p l e R s m args below meth c H locs cells slots Q (F0 m pc ls (x :: y :: rest))) (h : hDup2 r cl kk pc L st g = true) : eGo p l e R s m args below meth c Q D A fo qm pc L st g := by
  intro sg tys ws H locs cells slots ls stv hN hL hst hc hs
  cases st with
  | nil => cases h
  | cons a st =>
    cases st with
    | nil => cases h
    | cons b rest =>
      obtain ⟨x, ys, rfl, ha, ht1⟩ := eLs_c hst
      obtain ⟨y, xs, rfl, hb, ht⟩ := eLs_c ht1
      obtain ⟨h1, h2⟩ := eC_f h
      obtain ⟨h2, h3⟩ := eC_f h2
      exact row _ _ _ _ _ _ x y (by rw [eR_cat ha, eCat_1 h1]) (by rw [eR_cat hb, eCat_1 h2]) (hr _ _ _ _ h3 sg tys ws H locs cells slots ls _ hN hL ⟨ha, hb, ha, hb, ht⟩ hc hs)
end EvS2
