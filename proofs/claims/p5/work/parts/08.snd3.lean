section EvS3
variable {p : Program} {l : Launch} {e : Env} {R : Room} {s : State} {m : MethodId} {args : Array Value} {below : List Frame} {meth : Method} {c : Code} {Q : State → Prop} {D : va_G} {A : Nat → Prop} {fo : evF} {qm : evM} {dp : Nat}
variable {r : evR} {cl : evC} {kk : evK} {pc L : Nat} {st : List Nat} {g : evG} {sg : List Int32} {tys : List (ClassId × FieldType)} {ws : va_W} {H : Heap} {locs : List Loc}
theorem eAtP_ok {o : Nat} {pp : Nat → Bool} {k : Nat → Nat → Bool} (h : eAtP g o pp k = true) : ∃ q, eTg o = 5 ∧ ePl o = q + 1 ∧ q < g.2.1 ∧ pp (eKi (Lean.RArray.get g.1 q)) = true ∧ k q (Lean.RArray.get g.1 q) = true := by
  obtain ⟨h1, h2⟩ := eC_t h
  cases hp : ePl o with
  | zero => rw [hp] at h2; cases h2
  | succ q =>
    rw [hp] at h2
    have h2 : cond (Nat.blt q g.2.1) (eF (Lean.RArray.get g.1 q) (fun c => cond (pp (eKi c)) (k q c) false)) false = true := h2
    obtain ⟨h3, h4⟩ := eC_t h2
    rw [eF_eq] at h4
    obtain ⟨h4, h5⟩ := eC_t h4
    exact ⟨q, Nat.eq_of_beq_eq_true h1, rfl, eB_l h3, h4, h5⟩
theorem eAt_ok {o ki : Nat} {k : Nat → Nat → Bool} (h : eAt g o ki k = true) : ∃ q, eTg o = 5 ∧ ePl o = q + 1 ∧ q < g.2.1 ∧ eKi (Lean.RArray.get g.1 q) = ki ∧ k q (Lean.RArray.get g.1 q) = true := by
  obtain ⟨q, h1, h2, h3, h4, h5⟩ := eAtP_ok (pp := fun z => Nat.beq z ki) h
  exact ⟨q, h1, h2, h3, Nat.eq_of_beq_eq_true h4, h5⟩
theorem eHp_at (hN : eNow s D A fo g sg tys ws H locs) {o q : Nat} {x : Value} (ho : eR (eAd ws) sg fo o x) (h5 : eTg o = 5) (hp : ePl o = q + 1) : ∃ a e', x = .ref a ∧ ws[q]? = some (a, e') ∧ eCe (eAd ws) sg fo tys (Lean.RArray.get g.1 q) e' ∧ q < 1024 := by
  obtain ⟨a, h1, h2⟩ := eR_5 ho h5 hp
  obtain ⟨-, -, -, -, ⟨-, h6, h7, h8⟩, -⟩ := hN
  rw [List.getElem?_map] at h1
  cases hw : ws[q]? with
  | none => rw [hw] at h1; cases h1
  | some y =>
    rw [hw] at h1
    cases h1
    obtain ⟨a, e'⟩ := y
    have hl := (List.getElem?_eq_some_iff.mp hw).1
    exact ⟨a, e', h2, rfl, h8 q a e' hw, by omega⟩
theorem eAd_set {q a : Nat} {e0 e1 : va_E} (h : ws[q]? = some (a, e0)) : eAd (ws.set q (a, e1)) = eAd ws := by
  apply List.ext_getElem?
  intro i
  rw [List.getElem?_map, List.getElem?_map, List.getElem?_set]
  by_cases hi : q = i
  · subst hi
    have hl := (List.getElem?_eq_some_iff.mp h).1
    rw [if_pos rfl, if_pos hl, h]
    rfl
  · rw [if_neg hi]
theorem eHp_set {hp : Lean.RArray Nat} {hn q a c' : Nat} {e0 e1 : va_E} (h : eHp fo sg tys hp hn ws) (hw : ws[q]? = some (a, e0)) (hc : eCe (eAd ws) sg fo tys c' e1) : eHp fo sg tys (eSetA hp q c') hn (ws.set q (a, e1)) := by
  obtain ⟨h1, h2, h3, h4⟩ := h
  have hl := (List.getElem?_eq_some_iff.mp hw).1
  obtain ⟨w1, w2⟩ := eGet_set hp q c' 0 1024 h1
  refine ⟨w1, by rw [List.length_set]; exact h2, h3, fun k b e hk => ?_⟩
  rw [eAd_set hw]
  have hkl : k < ws.length := by
    have := (List.getElem?_eq_some_iff.mp hk).1
    rwa [List.length_set] at this
  rw [w2 (by omega) (by omega) k (by omega) (by omega)]
  rw [List.getElem?_set] at hk
  by_cases hi : q = k
  · subst hi
    rw [if_pos rfl, if_pos hl] at hk
    cases hk
    rw [if_pos rfl]
    exact hc
  · rw [if_neg hi] at hk
    rw [if_neg (fun z => hi z.symm)]
    exact h4 k b e hk
theorem eAd_push {a : Nat} {e1 : va_E} : eAd (ws ++ [(a, e1)]) = eAd ws ++ [a] := by simp
theorem eHp_push {hp : Lean.RArray Nat} {hn a c' : Nat} {e1 : va_E} {tt : List (ClassId × FieldType)} (h : eHp fo sg tys hp hn ws) (hlt : hn < 1024) (hc : eCe (eAd ws ++ [a]) sg fo (tys ++ tt) c' e1) : eHp fo sg (tys ++ tt) (eSetA hp hn c') (hn + 1) (ws ++ [(a, e1)]) := by
  obtain ⟨h1, h2, h3, h4⟩ := h
  obtain ⟨w1, w2⟩ := eGet_set hp hn c' 0 1024 h1
  refine ⟨w1, by simp [h2], hlt, fun k b e hk => ?_⟩
  rw [eAd_push]
  have hkl : k < ws.length + 1 := by
    have := (List.getElem?_eq_some_iff.mp hk).1
    simpa using this
  rw [w2 (by omega) hlt k (by omega) (by omega)]
  by_cases hi : k = hn
  · subst hi
    rw [if_pos rfl]
    rw [← h2, List.getElem?_concat_length] at hk
    cases hk
    exact hc
  · rw [if_neg hi]
    rw [List.getElem?_append_left (by omega)] at hk
    exact eCe_mono (h4 k b e hk) ⟨[a], rfl⟩ (eStay sg) ⟨tt, rfl⟩
/-- an object's cell, by its kind -/
theorem eCe_obj {c' : Nat} {e' : va_E} {C : String} {T : u_T} {N : Nat} (h : eCe (eAd ws) sg fo tys c' e') (hc : vwCl[eKi c']? = some (C, T, N)) : ∃ fs : List Value, e' = .inr (eKi c', fs) ∧ fs.length = N ∧ ∀ k x, fs[k]? = some x → eR (eAd ws) sg fo (eSl (eDa c') k) x := by
  have hl : eKi c' < 13 := (List.getElem?_eq_some_iff.mp hc).1
  rcases h with ⟨fs, r0, h1, h2, h3, h4⟩ | ⟨cA, f, t, ty, h1, h2, h3, h4⟩ | ⟨cA, f, t, h1, h2, h3, h4⟩ | ⟨cA, f, t, h1, h2, h3, h4, h5⟩
  · rw [hc] at h2
    cases h2
    exact ⟨fs, h1, h3.symm, h4⟩
  · omega
  · omega
  · omega
theorem s_get {ci k idx : Nat} {C : String} {T : u_T} {N : Nat} (hF : eFix p R s m args meth c A fo qm dp) (hr : ∀ pc L st g, r pc L st g = true → eGo p l e R s m args below meth c Q D A fo qm pc L st g) (hc0 : vwCl[ci]? = some (C, T, N)) (hk : k < N) (hl : Jvm.Cond.fieldLink (eCn qm.2.2.2.2.1) idx (T k).1 (T k).2.1 (T k).2.2.1 ∈ eGW) (hin : ∀ w ∈ u_ws C T N, w ∈ eGW)
    (hd : decode qm.2.1 pc = .ok (.getfield idx, 3)) (h : hGet ci k r cl kk pc L st g = true) : eGo p l e R s m args below meth c Q D A fo qm pc L st g := by
  intro sg tys ws H locs cells slots ls stv hN hL hst hc hs
  cases st with
  | nil => cases h
  | cons o rest =>
    obtain ⟨x, xs, rfl, ho, ht⟩ := eLs_c hst
    obtain ⟨q, h5, hp, hq, hki, h⟩ := eAt_ok h
    obtain ⟨a, e', rfl, hw, hce, hq2⟩ := eHp_at hN ho h5 hp
    rw [← hki] at hc0
    obtain ⟨fs, rfl, hfl, hfs⟩ := eCe_obj hce hc0
    have hv : fs[k]? = some fs[k] := List.getElem?_eq_getElem (by omega)
    exact va_get (D := D) hF.1 hF.2.1 hF.2.2.2.2.2.1 hin hF.2.2.2.2.1 hN.1 hN.2.1 q hw hc0 k hk (hF.2.2.2.2.2.1 _ hl) (fun _ h => h) hv hd (hr _ _ _ _ h sg tys ws H locs cells slots ls _ hN hL ⟨eNrm_ok hN.2.2.2.2.2 (hfs k _ hv), ht⟩ hc hs)
theorem eNow_set {hp : Lean.RArray Nat} {q a c' : Nat} {e0 e1 : va_E} {H1 : Heap} {locs1 : List Loc} (hN : eNow s D A fo g sg tys ws H locs) (hw : ws[q]? = some (a, e0)) (hc : eCe (eAd ws) sg fo tys c' e1) (hp : va_P D vwCl (ws.set q (a, e1)) H1) (hD : va_D A (ws.set q (a, e1))) (hS : va_S A s.heap H1 locs1) : eNow s D A fo (eSetA g.1 q c', g.2) sg tys (ws.set q (a, e1)) H1 locs1 := by
  obtain ⟨h1, h2, h3, h4, h5, h6⟩ := hN
  exact ⟨h1, hp, hD, hS, eHp_set h5 hw hc, h6⟩
theorem s_put {ci k idx tc : Nat} {C : String} {T : u_T} {N : Nat} {ty0 : Nat → FieldType} (hF : eFix p R s m args meth c A fo qm dp) (hr : ∀ pc L st g, r pc L st g = true → eGo p l e R s m args below meth c Q D A fo qm pc L st g) (hc0 : vwCl[ci]? = some (C, T, N)) (hk : k < N) (hl : Jvm.Cond.fieldLink (eCn qm.2.2.2.2.1) idx (T k).1 (T k).2.1 (T k).2.2.1 ∈ eGW) (hin : ∀ w ∈ u_ws C T N, w ∈ eGW)
    (hty : ∀ k, k < N → parseFieldDescriptor (T k).2.2.1 = some (ty0 k)) (hnm : ∀ a, a < N → ∀ b, b < N → a ≠ b → (T a).2.1 ≠ (T b).2.1) (hfin : (T k).2.2.2 = false ∨ ((T k).2.2.2 = true ∧ meth.name = "<init>" ∧ (T k).1 = eCn qm.2.2.2.2.1)) (hft : ∀ ad sg v x, eR ad sg fo v x → eFit tc v = true → narrow (ty0 k) x = x ∧ fits (ty0 k) x = true)
    (hd : decode qm.2.1 pc = .ok (.putfield idx, 3)) (h : hPut ci k tc r cl kk pc L st g = true) : eGo p l e R s m args below meth c Q D A fo qm pc L st g := by
  intro sg tys ws H locs cells slots ls stv hN hL hst hc hs
  cases st with
  | nil => cases h
  | cons v st =>
    cases st with
    | nil => cases h
    | cons o rest =>
      obtain ⟨x, ys, rfl, hv, ht1⟩ := eLs_c hst
      obtain ⟨y, xs, rfl, ho, ht⟩ := eLs_c ht1
      obtain ⟨hfit, h⟩ := eC_t h
      obtain ⟨q, h5, hp, hq, hki, h⟩ := eAt_ok h
      obtain ⟨a, e', rfl, hw, hce, hq2⟩ := eHp_at hN ho h5 hp
      rw [eF_eq, eSetK_eq] at h
      rw [← hki] at hc0
      obtain ⟨fs, rfl, hfl, hfs⟩ := eCe_obj hce hc0
      obtain ⟨f1, f2⟩ := hft _ _ _ _ hv hfit
      have key : ∀ (H1 : Heap) (locs1 : List Loc), va_P D vwCl (ws.set q (a, .inr (eKi (Lean.RArray.get g.1 q), fs.set k x))) H1 → va_D A (ws.set q (a, .inr (eKi (Lean.RArray.get g.1 q), fs.set k x))) → va_S A s.heap H1 locs1 → W p l e R s m args below meth c H1 locs1 cells slots Q (F0 m (pc + 3) ls xs) := by
        intro H1 locs1 hP hD hS
        refine hr _ _ _ _ h sg tys _ H1 locs1 cells slots ls xs (eNow_set (hp := g.1) hN hw ?_ hP hD hS) (by rw [eAd_set hw]; exact hL) (by rw [eAd_set hw]; exact ht) hc hs
        obtain ⟨e1, e2, e3⟩ := eSd_ki (Lean.RArray.get g.1 q) (eBl (eDa (Lean.RArray.get g.1 q)) k 1 v)
        refine Or.inl ⟨fs.set k x, _, by rw [e1], by rw [e1]; exact hc0, by rw [List.length_set]; exact hfl.symm, fun k' x' hk' => ?_⟩
        rw [e3, eSl_set hv.1]
        rw [List.getElem?_set] at hk'
        by_cases hi : k = k'
        · subst hi
          rw [if_pos rfl, if_pos (by omega)] at hk'
          cases hk'
          rw [if_pos rfl]
          exact hv
        · rw [if_neg hi] at hk'
          rw [if_neg (fun z => hi z.symm)]
          exact hfs k' x' hk'
      rcases hfin with hfin | ⟨hfin, hi1, hi2⟩
      · exact va_put (D := D) hF.1 hF.2.1 hF.2.2.2.2.2.1 hin ty0 hty hnm hF.2.2.2.2.1 hN.1 hN.2.1 hN.2.2.1 hN.2.2.2.1 q hw hc0 k hk (hF.2.2.2.2.2.1 _ hl) (fun _ h => h) hfin (hty k hk) f1 f2 (by omega) hd key
      · exact va_putF (D := D) hF.1 hF.2.1 hF.2.2.2.2.2.1 hin ty0 hty hnm hF.2.2.2.2.1 hN.1 hN.2.1 hN.2.2.1 hN.2.2.2.1 q hw hc0 k hk (hF.2.2.2.2.2.1 _ hl) (fun _ h => h) hfin hi1 hi2 (hty k hk) f1 f2 (by omega) hd key
theorem eNew_ok {c' n : Nat} {k : Nat → evG → Bool} (h : eNew g c' n k = true) : g.2.1 < 1024 ∧ 1 ≤ g.2.2.2.1 ∧ n ≤ g.2.2.2.2 ∧ k (Nat.add (Nat.mul 8 (g.2.1 + 1)) 5) (eSetA g.1 g.2.1 c', g.2.1 + 1, g.2.2.1, g.2.2.2.1 - 1, g.2.2.2.2 - n) = true := by
  obtain ⟨h1, h⟩ := eC_t h
  obtain ⟨h2, h⟩ := eC_t h
  obtain ⟨h3, h⟩ := eC_t h
  rw [eF_eq, eSetK_eq, eF_eq, eF_eq, eF_eq] at h
  exact ⟨eB_l h1, Nat.le_of_ble_eq_true h2, Nat.le_of_ble_eq_true h3, h⟩
theorem eNow_push {a c' : Nat} {e1 : va_E} {H1 : Heap} {tt : List (ClassId × FieldType)} {nc ns : Nat} (hN : eNow s D A fo g sg tys ws H locs) (hlt : g.2.1 < 1024) (hc : eCe (eAd ws ++ [a]) sg fo (tys ++ tt) c' e1) (hK : va_K D vwCl (tys ++ tt) s) (hP : va_P D vwCl (ws ++ [(a, e1)]) H1) (hD : va_D A (ws ++ [(a, e1)])) (hS : va_S A s.heap H1 locs) :
    eNow s D A fo (eSetA g.1 g.2.1 c', g.2.1 + 1, g.2.2.1, nc, ns) sg (tys ++ tt) (ws ++ [(a, e1)]) H1 locs ∧ eR (eAd (ws ++ [(a, e1)])) sg fo (Nat.add (Nat.mul 8 (g.2.1 + 1)) 5) (.ref a) := by
  obtain ⟨h1, h2, h3, h4, h5, h6⟩ := hN
  refine ⟨⟨hK, hP, hD, hS, eHp_push h5 hlt hc, h6⟩, eR_r hlt ?_⟩
  rw [eAd_push, ← h5.2.1]
  have e : ws.length = (eAd ws).length := by simp
  rw [e, List.getElem?_concat_length]
theorem s_new {ci idx N d : Nat} {C : String} {T : u_T} {ty0 : Nat → FieldType} (hF : eFix p R s m args meth c A fo qm dp) (hr : ∀ pc L st g, r pc L st g = true → eGo p l e R s m args below meth c Q D A fo qm pc L st g) (hc0 : vwCl[ci]? = some (C, T, N)) (hin : ∀ w ∈ u_ws C T N, w ∈ eGW) (hty : ∀ k, k < N → parseFieldDescriptor (T k).2.2.1 = some (ty0 k))
    (hw1 : Jvm.Cond.classLink (eCn qm.2.2.2.2.1) idx C ∈ eGW) (hw2 : Jvm.Cond.instantiable C N ∈ eGW) (hw3 : Jvm.Cond.initialized C ∈ eGW) (hN0 : N < 65536) {fs : List Value} (hfl : fs.length = N) (hfs : ∀ j, j < N → defaultValue (ty0 j) = vp_V fs j) (hdf : ∀ ad sg k x, fs[k]? = some x → eR ad sg fo (eSl d k) x)
    (hd : decode qm.2.1 pc = .ok (.new idx, 3)) (h : hNew ci N d r cl kk pc L st g = true) : eGo p l e R s m args below meth c Q D A fo qm pc L st g := by
  intro sg tys ws H locs cells slots ls stv hN hL hst hc hs
  obtain ⟨h1, h2, h3, h⟩ := eNew_ok h
  have hci : ci < 65536 := by
    have : ci < 13 := (List.getElem?_eq_some_iff.mp hc0).1
    omega
  obtain ⟨e1, e2, e3⟩ := eMk_ki (d := d) hci hN0
  refine va_new (D := D) (fs := fs) hF.1 hF.2.1 hF.2.2.2.2.2.1 hin ty0 hty hF.2.2.2.2.1 (hF.2.2.2.2.2.1 _ hw1) (hF.2.2.2.2.2.1 _ hw2) (hF.2.2.2.2.2.1 _ hw3) hN.1 hN.2.1 hN.2.2.1 hN.2.2.2.1 hF.2.2.2.2.2.2.2.2.2.1 hc0 hfs (by omega) (by omega) hd (fun q H1 hP hD hS => ?_)
  have hK : va_K D vwCl (tys ++ []) s := by rw [List.append_nil]; exact hN.1
  obtain ⟨n1, n2⟩ := eNow_push (c' := eMk ci N d) (tt := []) (nc := g.2.2.2.1 - 1) (ns := g.2.2.2.2 - N) hN h1 (Or.inl ⟨fs, (C, T, N), by rw [e1], by rw [e1]; exact hc0, hfl.symm, fun k x hk => by rw [e3]; exact hdf _ _ k x hk⟩) hK hP hD hS
  refine hr _ _ _ _ h sg _ _ H1 locs (cells + 1) (slots + N) ls _ n1 (eLr_mono hL ⟨[q], eAd_push⟩ (eStay sg)) ⟨n2, eLs_mono ⟨[q], eAd_push⟩ (eStay sg) hst⟩ (by show cells + 1 + (g.2.2.2.1 - 1) ≤ _; omega) (by show slots + N + (g.2.2.2.2 - N) ≤ _; omega)
end EvS3
