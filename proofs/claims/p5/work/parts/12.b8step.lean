section CkStep8
/-- hints: templates (place, what is known, measure); heads (place, whether it may be passed over); rules; places where the top is named; contracts of calls -/
abbrev sHt : Type := List (Nat × sTm × sLn) × List (Nat × Bool) × List (Nat × List (List Nat)) × List Nat × List (Nat × List Nat) × List (Nat × Nat × Nat)
noncomputable def sHd (l : List (Nat × Bool)) (pc : Nat) : Nat := @List.rec (Nat × Bool) (fun _ => Nat) 0 (fun q _ ih => cond (Nat.beq q.1 pc) (cond q.2 2 1) ih) l
noncomputable def sAct (l : List (Nat × List (List Nat))) (pc : Nat) : List (List Nat) := @List.rec (Nat × List (List Nat)) (fun _ => List (List Nat)) [] (fun q _ ih => cond (Nat.beq q.1 pc) q.2 ih) l
noncomputable def sCal (l : List (Nat × List Nat)) (pc : Nat) : List Nat := @List.rec (Nat × List Nat) (fun _ => List Nat) [] (fun q _ ih => cond (Nat.beq q.1 pc) q.2 ih) l
noncomputable def sTop (b : Bool) (N : sNm) (st : List sVl) (k : sNm → List sVl → Bool) : Bool := cond b (match st with
  | v :: rest => cond (cond (tI v) (sMany v.2.2) false) (sFr N (sLo N v.2) (sHi N v.2) (fun e N => k N ((1, e) :: rest))) (k N st)
  | [] => k N st) (k N st)
variable {FS : sFS} {rc : List Int} {mu : Option sLn} {M : Int} {md : sMd} {hp0 : Lean.RArray Nat} {P : evP} {d mi : Nat} {k : evK} {hn : Nat} {env : evEnv} {nc ns : Nat} {ar : aR} {r : List Int} {pc : Nat} {N : sNm} {lo st : List sVl} {hs : sHs} {L : Nat} {stc : List Nat} {hp : Lean.RArray Nat}
theorem sTop_ok (hG : Gs FS rc mu M md hp0 r N lo st hs L stc hp) {b : Bool} {k2 : sNm → List sVl → Bool} (h : sTop b N st k2 = true) : ∃ t N' st', Gs FS rc mu M md hp0 (r ++ t) N' lo st' hs L stc hp ∧ k2 N' st' = true := by
  have stay : k2 N st = true → ∃ t N' st', Gs FS rc mu M md hp0 (r ++ t) N' lo st' hs L stc hp ∧ k2 N' st' = true := fun h => ⟨[], N, st, by rw [sNil]; exact hG, h⟩
  rcases sCh h with ⟨-, h⟩ | ⟨-, h⟩
  · cases st with
    | nil => exact stay h
    | cons v rest =>
      rcases sCh (show cond (cond (tI v) (sMany v.2.2) false) (sFr N (sLo N v.2) (sHi N v.2) (fun e N => k2 N ((1, e) :: rest))) (k2 N (v :: rest)) = true from h) with ⟨h1, h⟩ | ⟨-, h⟩
      · obtain ⟨h1, -⟩ := eC_t h1
        obtain ⟨w, ws, rfl, hw, hst⟩ := aSt_c hG.2.2.1
        obtain ⟨x, x1, x2, x3, rfl⟩ := vOk_I hw h1
        obtain ⟨e, N', q1, q2, q3⟩ := sFr_ok hG.1 (sLo_ok hG.1 x1) (sHi_ok hG.1 x1) x2 x3 h
        exact ⟨[x], N', (1, e) :: rest, Gs_st (Gs_ext hG q1) (show aSt (r ++ [x]) ((1, e) :: rest) (cI x :: ws) from ⟨vOk_i q2 x2 x3, aSt_mono hst⟩), q3⟩
      · exact stay h
  · exact stay h
noncomputable def sD1 (a : Int) : Bool := Nat.beq (Nat.mod (Int.natAbs a) 1000) 0
noncomputable def sDvs (ts : List (Int × Nat)) : Bool := @List.rec (Int × Nat) (fun _ => Bool) true (fun q _ ih => cond (sD1 q.1) ih false) ts
theorem sD1_ok {a : Int} (h : sD1 a = true) : ∃ b : Int, a = 1000 * b := by
  have h : a.natAbs % 1000 = 0 := Nat.eq_of_beq_eq_true h
  exact ⟨a / 1000, by omega⟩
theorem sDvs_ok {r : List Int} : ∀ {ts : List (Int × Nat)} {y : Int}, sDvs ts = true → sEt r ts = some y → ∃ b : Int, y = 1000 * b := by
  intro ts
  induction ts with
  | nil => intro y _ h; cases h; exact ⟨0, by omega⟩
  | cons q ts ih =>
    intro y h hy
    obtain ⟨h1, h2⟩ := eC_t (show cond (sD1 q.1) (sDvs ts) false = true from h)
    obtain ⟨a, s⟩ := q
    obtain ⟨x, y1, e1, e2, rfl⟩ := sEt_cons hy
    obtain ⟨b1, e3⟩ := sD1_ok h1
    obtain ⟨b2, e4⟩ := ih h2 e2
    have e3 : a = 1000 * b1 := e3
    exact ⟨b1 * x + b2, by rw [e3, e4, Int.mul_add, Int.mul_assoc]⟩
noncomputable def sMd1 (N : sNm) (e c : sVl) (hs : sHs) (k : sHs → Bool) : Bool := sFl (sAdd e.2 (sAdk c.2 (Int.negSucc 998))) (fun d => cond (cond (tI e) (cond (tI c) (cond (sD1 d.1) (cond (sDvs d.2) (sIn N c.2 (Int.ofNat 0) (Int.ofNat 99)) false) false) false) false) (k (hs.1, (21, [e.2]) :: hs.2)) (k hs))
noncomputable def sMdA (l : List (Nat × Nat × Nat)) (pc : Nat) (N : sNm) (lo : List sVl) (hs : sHs) (k : sHs → Bool) : Bool := @List.rec (Nat × Nat × Nat) (fun _ => Bool) (k hs) (fun q _ ih => cond (Nat.beq q.1 pc) (sGt lo q.2.1 (fun e => sGt lo q.2.2 (fun c => sMd1 N e c hs k))) ih) l
theorem sMdA_ok (hEQ : eqOk FS) (hG : Gs FS rc mu M md hp0 r N lo st hs L stc hp) {k2 : sHs → Bool} : ∀ {l : List (Nat × Nat × Nat)}, sMdA l pc N lo hs k2 = true → ∃ hs', Gs FS rc mu M md hp0 r N lo st hs' L stc hp ∧ k2 hs' = true := by
  intro l
  induction l with
  | nil => intro h; exact ⟨hs, hG, h⟩
  | cons q l ih =>
    intro h
    rcases sCh (show cond (Nat.beq q.1 pc) (sGt lo q.2.1 (fun e => sGt lo q.2.2 (fun c => sMd1 N e c hs k2))) (sMdA l pc N lo hs k2) = true from h) with ⟨-, h⟩ | ⟨-, h⟩
    · obtain ⟨e, e1, h⟩ := sGt_ok h
      obtain ⟨c, c1, h⟩ := sGt_ok h
      unfold sMd1 at h
      rw [sFl_eq] at h
      rcases sCh h with ⟨h1, h⟩ | ⟨-, h⟩
      · obtain ⟨h1, h2⟩ := eC_t h1
        obtain ⟨h2, h3⟩ := eC_t h2
        obtain ⟨h3, h4⟩ := eC_t h3
        obtain ⟨h4, h5⟩ := eC_t h4
        obtain ⟨x, x1, -, -, -⟩ := vOk_I (hG.2.1 _ _ e1) h1
        obtain ⟨y, y1, -, -, -⟩ := vOk_I (hG.2.1 _ _ c1) h2
        obtain ⟨b1, b2⟩ := sIn_ok hG.1 y1 h5
        have hd := sAdd_ok x1 (sAdk_ok (c := Int.negSucc 998) y1)
        obtain ⟨z, z1, z2⟩ := sE_iff.mp hd
        obtain ⟨u1, u2⟩ := sD1_ok h3
        obtain ⟨u3, u4⟩ := sDvs_ok h4 z1
        have o0 : (Int.ofNat 0 : Int) = 0 := rfl
        have o1 : (Int.ofNat 99 : Int) = 99 := rfl
        have o2 : (Int.negSucc 998 : Int) = -999 := rfl
        refine ⟨(hs.1, (21, [e.2]) :: hs.2), Gs_hs hG ⟨hG.2.2.2.2.1.1, fun f hf => ?_⟩, h⟩
        rcases List.mem_cons.mp hf with rfl | hf
        · refine ⟨[x], ⟨x1, trivial⟩, hEQ.2.2 x y hp ?_ (by omega) (by omega)⟩
          omega
        · exact hG.2.2.2.2.1.2 f hf
      · exact ⟨hs, hG, h⟩
    · exact ih h
noncomputable def cStep (self : Nat) (CT : Nat → sCn) (D : Nat) (md : sMd) (posts : List sTm) (n0 mi : Nat) (cl : List Nat) : aH := fun ar pc N lo st hs => match eM mi with
  | some q => cond (cond (Nat.beq q.2.2.2.2.1 11) (eIsThr q.2.2.2.2.2.2.2.2 pc) false) (aThr posts n0 ar pc N lo st hs) (cond (cond (Nat.beq q.2.2.2.2.1 13) (Nat.beq pc 23) false) false (cond (Nat.beq (Lean.RArray.get q.2.2.2.2.2.2.2.2 pc).1 pc) (aI self CT D md posts n0 cl q.2.2.1 q.2.2.2.2.1 q.2.2.2.1 (Lean.RArray.get q.2.2.2.2.2.2.2.2 pc).2.1 (Lean.RArray.get q.2.2.2.2.2.2.2.2 pc).2.2 ar pc N lo st hs) false))
  | none => false
theorem cStep_ok (hFS : fsOk FS) (hEQ : eqOk FS) (hOP : opOk FS) (hhn : tNC ≤ hn) {posts : List sTm} (hret : (∀ post ∈ posts, ∀ u w hp2, sNOk tSg (rc ++ u) post.1 → loF (rc ++ u) post.2.1 (fun _ => w) → (post.2.1 = [] → w = 0) → hOk hp2 → hsOk FS (rc ++ u) hp2 post.2.2 → hFr md hp0 hp2 → k w (hp2, hn, env, nc, ns) = true)) (har : (∀ pc N lo st hs, ar pc N lo st hs = true → ∀ r L stc hp, Gs FS rc mu M md hp0 r N lo st hs L stc hp → P d mi k pc L stc (hp, hn, env, nc, ns))) (hG : Gs FS rc mu M md hp0 r N lo st hs L stc hp) {self D : Nat} {CT : Nat → sCn} {cl : List Nat} (hD : D ≤ d) (hCT : ∀ i, i < self → cnOk P FS (CT i)) (h : cStep self CT D md posts rc.length mi cl ar pc N lo st hs = true) : eH mi pc (pR P d mi k) (pC P d) k pc L stc (hp, hn, env, nc, ns) = true := by
  unfold cStep at h
  unfold eH
  cases hq : eM mi with
  | none => rw [hq] at h; cases h
  | some q =>
    rw [hq] at h
    have h : cond (cond (Nat.beq q.2.2.2.2.1 11) (eIsThr q.2.2.2.2.2.2.2.2 pc) false) (aThr posts rc.length ar pc N lo st hs) (cond (cond (Nat.beq q.2.2.2.2.1 13) (Nat.beq pc 23) false) false (cond (Nat.beq (Lean.RArray.get q.2.2.2.2.2.2.2.2 pc).1 pc) (aI self CT D md posts rc.length cl q.2.2.1 q.2.2.2.2.1 q.2.2.2.1 (Lean.RArray.get q.2.2.2.2.2.2.2.2 pc).2.1 (Lean.RArray.get q.2.2.2.2.2.2.2.2 pc).2.2 ar pc N lo st hs) false)) = true := h
    show (cond (cond (Nat.beq q.2.2.2.2.1 11) (eIsThr q.2.2.2.2.2.2.2.2 pc) false) hThr <| cond (cond (Nat.beq q.2.2.2.2.1 13) (Nat.beq pc 23) false) hStop <| cond (Nat.beq (Lean.RArray.get q.2.2.2.2.2.2.2.2 pc).1 pc) (eI q.2.2.1 q.2.2.2.2.1 q.2.2.2.1 (eIni q) (Lean.RArray.get q.2.2.2.2.2.2.2.2 pc).2.1 (Lean.RArray.get q.2.2.2.2.2.2.2.2 pc).2.2) hBad) (pR P d mi k) (pC P d) k pc L stc (hp, hn, env, nc, ns) = true
    cases h1 : cond (Nat.beq q.2.2.2.2.1 11) (eIsThr q.2.2.2.2.2.2.2.2 pc) false
    · rw [h1] at h
      rw [cond_false] at h
      rw [cond_false]
      cases h2 : cond (Nat.beq q.2.2.2.2.1 13) (Nat.beq pc 23) false
      · rw [h2] at h
        rw [cond_false] at h
        rw [cond_false]
        cases h3 : Nat.beq (Lean.RArray.get q.2.2.2.2.2.2.2.2 pc).1 pc
        · rw [h3] at h; cases h
        · rw [h3] at h
          rw [cond_true] at h
          rw [cond_true]
          exact i_I hFS hEQ hOP hhn hret har hG hD hCT h
      · rw [h2] at h; cases h
    · rw [h1] at h
      rw [cond_true] at h
      rw [cond_true]
      exact i_thr (P := P) (d := d) (mi := mi) hret hG h
noncomputable def cRun (self : Nat) (CT : Nat → sCn) (RU : Nat → sRu) (D : Nat) (md : sMd) (posts : List sTm) (n0 mi : Nat) (ht : sHt) (mu : Option sLn) (f : Nat) : Bool → aR := @Nat.rec (fun _ => Bool → aR) (fun _ _ _ _ _ _ => false)
  (fun _ ih first pc N lo st hs => eF pc (fun pc =>
    cond (cond first false (cond (Nat.ble 1 (sHd ht.2.1 pc)) (cond (sNilV st) (sTryT N lo hs (sIdn n0 0) pc mu ht.1) false) false)) true
      (cond (cond first false (Nat.beq (sHd ht.2.1 pc) 1)) false
        (sGps RU lo (sAct ht.2.2.1 pc) N hs (fun N hs => sMdA ht.2.2.2.2.2 pc N lo hs (fun hs => sTop (sIn1 ht.2.2.2.1 pc) N st (fun N st => cStep self CT D md posts n0 mi (sCal ht.2.2.2.2.1 pc) (ih false) pc N lo st hs))))))) f
def tmGo (P : evP) (FS : sFS) (rc : List Int) (md : sMd) (hp0 : Lean.RArray Nat) (d mi : Nat) (k : evK) (hn : Nat) (env : evEnv) (nc ns : Nat) (B : Int → Prop) (t : Nat × sTm × sLn) : Prop := ∀ (rr : List Int) (L : Nat) (hp : Lean.RArray Nat) (y : Int), (∃ u, rr = rc ++ u) → sNOk tSg rr t.2.1.1 → loF rr t.2.1.2.1 (eSl L) → hOk hp → hsOk FS rr hp t.2.1.2.2 → hFr md hp0 hp → sE rr t.2.2 = some y → 0 ≤ y → B y → P d mi k t.1 L [] (hp, hn, env, nc, ns)
theorem cRun_ok (hP : pClo P) (hFS : fsOk FS) (hEQ : eqOk FS) (hOP : opOk FS) (hhn : tNC ≤ hn) {posts : List sTm} (hret : (∀ post ∈ posts, ∀ u w hp2, sNOk tSg (rc ++ u) post.1 → loF (rc ++ u) post.2.1 (fun _ => w) → (post.2.1 = [] → w = 0) → hOk hp2 → hsOk FS (rc ++ u) hp2 post.2.2 → hFr md hp0 hp2 → k w (hp2, hn, env, nc, ns) = true)) {self D : Nat} {CT : Nat → sCn} {RU : Nat → sRu} (hRU : ∀ i, ruOk FS (RU i)) (hD : D ≤ d) (hCT : ∀ i, i < self → cnOk P FS (CT i)) {ht : sHt} (hT : ∀ t ∈ ht.1, tmGo P FS rc md hp0 d mi k hn env nc ns (fun y => ∀ e, mu = some e → y < M) t) :
    ∀ (f : Nat) (first : Bool) (pc : Nat) (N : sNm) (lo st : List sVl) (hs : sHs), cRun self CT RU D md posts rc.length mi ht mu f first pc N lo st hs = true → ∀ (r : List Int) (L : Nat) (stc : List Nat) (hp : Lean.RArray Nat), Gs FS rc mu M md hp0 r N lo st hs L stc hp → P d mi k pc L stc (hp, hn, env, nc, ns) := by
  intro f
  induction f with
  | zero => intro first pc N lo st hs h; cases h
  | succ f ih =>
    intro first pc N lo st hs h r L stc hp hG
    have h : eF pc (fun pc =>
      cond (cond first false (cond (Nat.ble 1 (sHd ht.2.1 pc)) (cond (sNilV st) (sTryT N lo hs (sIdn rc.length 0) pc mu ht.1) false) false)) true
        (cond (cond first false (Nat.beq (sHd ht.2.1 pc) 1)) false
          (sGps RU lo (sAct ht.2.2.1 pc) N hs (fun N hs => sMdA ht.2.2.2.2.2 pc N lo hs (fun hs => sTop (sIn1 ht.2.2.2.1 pc) N st (fun N st => cStep self CT D md posts rc.length mi (sCal ht.2.2.2.2.1 pc) (cRun self CT RU D md posts rc.length mi ht mu f false) pc N lo st hs)))))) = true := h
    rw [eF_eq] at h
    rcases sCh h with ⟨h1, -⟩ | ⟨-, h⟩
    · obtain ⟨-, h1⟩ := eC_f h1
      obtain ⟨-, h1⟩ := eC_t h1
      obtain ⟨h2, h1⟩ := eC_t h1
      have e := sNilV_ok h2
      subst e
      obtain ⟨t, t1, t2, t3⟩ := sTryT_ok h1
      obtain ⟨tt, N', hs', th', u, m1, m2, m3, m4, m5, m6, h3⟩ := sMch_ok (W := eSl L) hG.1 hG.2.1 hG.2.2.2.1 hG.2.2.2.2.1 (hId hG) t3
      obtain ⟨e, y, y1, y2, h3⟩ := sSbK_ok m3 h3
      obtain ⟨h4, h5⟩ := eC_t h3
      have h4 := zPs_iff.mp h4
      have b1 := sLo_ok m1 y2
      have es := aSt_n hG.2.2.1
      subst es
      rw [← t2]
      refine hT t t1 (rc ++ u) L hp y ⟨u, rfl⟩ m4 m5 hG.2.2.2.1 m6 hG.2.2.2.2.2.2.2 y1 (by omega) (fun m hm => ?_)
      rw [hm] at h5
      have h5 : sFl (sAdk (sSub e m) (Int.ofNat 1)) (fun dd => sLe N'.2.1 N'.2.2.1 8 dd) = true := h5
      rw [sFl_eq] at h5
      have hm2 := sE_mono (t := tt) (hG.2.2.2.2.2.2.1 m hm)
      have := sLe_ok m1.2.1 m1.2.2.1 h5 (sAdk_ok (c := Int.ofNat 1) (sSub_ok y2 hm2))
      have o1 : (Int.ofNat 1 : Int) = 1 := rfl
      omega
    · obtain ⟨-, h⟩ := eC_f h
      obtain ⟨t1, N1, hs1, g1, h⟩ := sGps_ok hFS hRU hG h
      obtain ⟨hs2, g1, h⟩ := sMdA_ok hEQ g1 h
      obtain ⟨t2, N2, st2, g2, h⟩ := sTop_ok g1 h
      refine hP d mi k pc L stc (hp, hn, env, nc, ns) ?_
      exact cStep_ok hFS hEQ hOP hhn hret (ar := cRun self CT RU D md posts rc.length mi ht mu f false) (fun pc N lo st hs hk r L stc hp hG => ih false pc N lo st hs hk r L stc hp hG) g2 hD hCT h
/-- the locals as a method begins -/
noncomputable def sPk (n : Nat) (ps : List sVl) : List sVl := @List.rec sVl (fun _ => List sVl) (@Nat.rec (fun _ => List sVl) [] (fun _ ih => (0, Int.ofNat 0, []) :: ih) n) (fun v _ ih => cond (tL v) (v :: (0, Int.ofNat 0, []) :: ih) (v :: ih)) ps
noncomputable def sPkO (ps : List sVl) : Bool := @List.rec sVl (fun _ => Bool) true (fun v _ ih => cond (cond (tL v) true (cond (tI v) true (tA v))) ih false) ps
theorem ePack_lt : ∀ (vs : List Nat) (j L i : Nat), (∀ w ∈ vs, w < 2 ^ 72) → i < j → eSl (ePack vs j L) i = eSl L i := by
  intro vs
  induction vs with
  | nil => intro j L i _ _; rfl
  | cons w vs ih =>
    intro j L i hw hi
    have e : ePack (w :: vs) j L = ePack vs (Nat.add j (eCat w)) (eBl L j 1 w) := rfl
    have hc : i < Nat.add j (eCat w) := Nat.lt_of_lt_of_le hi (Nat.le_add_right _ _)
    rw [e, ih _ _ _ (fun z hz => hw z (List.mem_cons_of_mem _ hz)) hc, eSl_set (hw w List.mem_cons_self), if_neg (by omega)]
theorem sPk_ok {rc : List Int} {n : Nat} : ∀ (ps : List sVl) (vs : List Nat) (j L : Nat), vs.length = ps.length → loF rc ps (fun i => vs.getD i 0) → sPkO ps = true → (∀ i, j ≤ i → ¬ eTg (eSl L i) = 4) → (∀ w ∈ vs, w < 2 ^ 72) ∧ ∀ i v, (sPk n ps)[i]? = some v → vOk rc v (eSl (ePack vs j L) (j + i)) := by
  intro ps
  induction ps with
  | nil =>
    intro vs j L hl _ _ hz
    cases vs with
    | cons w vs => cases hl
    | nil =>
      refine ⟨fun w hw => (by cases hw), fun i v hi => ?_⟩
      have key : ∀ (n i : Nat) (v : sVl), (@Nat.rec (fun _ => List sVl) [] (fun _ ih => (0, Int.ofNat 0, []) :: ih) n : List sVl)[i]? = some v → v = (0, Int.ofNat 0, []) := by
        intro n
        induction n with
        | zero =>
          intro i v h
          have h : ([] : List sVl)[i]? = some v := h
          simp at h
        | succ n ihn =>
          intro i v h
          cases i with
          | zero => cases h; rfl
          | succ i => exact ihn i v h
      rw [key n i v hi]
      exact vOk_u (hz (j + i) (Nat.le_add_right _ _))
  | cons p ps ih =>
    intro vs j L hl hv' ho hz
    cases vs with
    | nil => cases hl
    | cons w vs =>
      obtain ⟨o1, o2⟩ := eC_t (show cond (cond (tL p) true (cond (tI p) true (tA p))) (sPkO ps) false = true from ho)
      have hw0 : vOk rc p w := hv' 0 p rfl
      have hw72 : w < 2 ^ 72 := by
        rcases sCh o1 with ⟨a, -⟩ | ⟨-, a⟩
        · exact (tL_w hw0 a).2
        · rcases sCh a with ⟨a, -⟩ | ⟨-, a⟩
          · obtain ⟨x, -, -, -, rfl⟩ := vOk_I hw0 a
            exact cI_72 x
          · obtain ⟨c, -, c2, -, rfl⟩ := vOk_R hw0 a
            exact cR_72 (Nat.lt_of_lt_of_le c2 tNC_le)
      have hc : eCat w = 1 ∨ eCat w = 2 := by
        unfold eCat
        cases Nat.beq (eTg w) 4
        · exact Or.inl rfl
        · exact Or.inr rfl
      have hz' : ∀ i, Nat.add j (eCat w) ≤ i → ¬ eTg (eSl (eBl L j 1 w) i) = 4 := by
        intro i hi
        have hi : j + eCat w ≤ i := hi
        rw [eSl_set hw72, if_neg (by omega)]
        exact hz i (by omega)
      obtain ⟨k1, k2⟩ := ih vs (Nat.add j (eCat w)) (eBl L j 1 w) (by simpa using hl) (fun i v hi => hv' (i + 1) v hi) o2 hz'
      have hall : ∀ z ∈ w :: vs, z < 2 ^ 72 := fun z hzz => by
        rcases List.mem_cons.mp hzz with rfl | hzz
        · exact hw72
        · exact k1 z hzz
      refine ⟨hall, fun i v hi => ?_⟩
      have e : ePack (w :: vs) j L = ePack vs (Nat.add j (eCat w)) (eBl L j 1 w) := rfl
      rw [e]
      have h0 : vOk rc p (eSl (ePack vs (Nat.add j (eCat w)) (eBl L j 1 w)) j) := by
        rw [ePack_lt vs _ _ j k1 (by show j < j + eCat w; omega), eSl_set hw72, if_pos rfl]
        exact hw0
      have hi : (cond (tL p) (p :: (0, Int.ofNat 0, []) :: sPk n ps) (p :: sPk n ps))[i]? = some v := hi
      cases hL : tL p
      · rw [hL] at hi
        have h4 : ¬ eTg w = 4 := by
          rcases sCh o1 with ⟨a, -⟩ | ⟨-, a⟩
          · rw [hL] at a; cases a
          · rcases sCh a with ⟨a, -⟩ | ⟨-, a⟩
            · obtain ⟨x, -, -, -, rfl⟩ := vOk_I hw0 a
              rw [cI_tg]; decide
            · obtain ⟨c, -, c2, -, rfl⟩ := vOk_R hw0 a
              rw [cR_tg]; decide
        have hc1 : eCat w = 1 := eCat_1 (beqF h4)
        cases i with
        | zero => cases hi; exact h0
        | succ i =>
          have := k2 i v hi
          rw [show Nat.add j (eCat w) + i = j + (i + 1) from by rw [hc1]; show j + 1 + i = j + (i + 1); omega] at this
          exact this
      · rw [hL] at hi
        have h4 : eTg w = 4 := (tL_w hw0 hL).1
        have hc2 : eCat w = 2 := by unfold eCat; rw [h4]; rfl
        cases i with
        | zero => cases hi; exact h0
        | succ i =>
          cases i with
          | zero =>
            cases hi
            refine vOk_u ?_
            rw [ePack_lt vs _ _ _ k1 (by rw [hc2]; show j + (0 + 1) < j + 2; omega), eSl_set hw72, if_neg (by omega)]
            exact hz _ (by omega)
          | succ i =>
            have := k2 i v hi
            rw [show Nat.add j (eCat w) + i = j + (i + 1 + 1) from by rw [hc2]; show j + 2 + i = _; omega] at this
            exact this
/-- A CONTRACT IS CHECKED -/
noncomputable def cChk (self : Nat) (CT : Nat → sCn) (RU : Nat → sRu) (cn : sCn) (pad : Nat) (ht : sHt) (f : Nat) : Bool :=
  cond (sPkO cn.2.2.1.2.1) (cond (cRun self CT RU cn.2.1 cn.2.2.2.1 cn.2.2.2.2 cn.2.2.1.1.1 cn.1 ht none f true 0 cn.2.2.1.1 (sPk pad cn.2.2.1.2.1) [] cn.2.2.1.2.2)
    (@List.rec (Nat × sTm × sLn) (fun _ => Bool) true (fun t _ ih => cond (cRun self CT RU cn.2.1 cn.2.2.2.1 cn.2.2.2.2 cn.2.2.1.1.1 cn.1 ht (some t.2.2) f true t.1 t.2.1.1 t.2.1.2.1 [] t.2.1.2.2) ih false) ht.1) false) false
theorem cChk_ok {P : evP} {FS : sFS} (hP : pClo P) (hFS : fsOk FS) (hEQ : eqOk FS) (hOP : opOk FS) {self : Nat} {CT : Nat → sCn} {RU : Nat → sRu} (hRU : ∀ i, ruOk FS (RU i)) (hCT : ∀ i, i < self → cnOk P FS (CT i)) {cn : sCn} {pad : Nat} {ht : sHt} {f : Nat} (h : cChk self CT RU cn pad ht f = true) : cnOk P FS cn := by
  intro d k hn env nc ns hp rc vs hD hhn hN hl hv' hO hH hret
  obtain ⟨h0, h⟩ := eC_t h
  obtain ⟨h1, h2⟩ := eC_t h
  have hT0 : ∀ t ∈ ht.1, cRun self CT RU cn.2.1 cn.2.2.2.1 cn.2.2.2.2 cn.2.2.1.1.1 cn.1 ht (some t.2.2) f true t.1 t.2.1.1 t.2.1.2.1 [] t.2.1.2.2 = true := by
    generalize ht.1 = l at h2
    induction l with
    | nil => intro t hq; cases hq
    | cons w l ih =>
      intro t hq
      obtain ⟨a, b⟩ := eC_t (show cond (cRun self CT RU cn.2.1 cn.2.2.2.1 cn.2.2.2.2 cn.2.2.1.1.1 cn.1 ht (some w.2.2) f true w.1 w.2.1.1 w.2.1.2.1 [] w.2.1.2.2) (@List.rec (Nat × sTm × sLn) (fun _ => Bool) true (fun t _ ih => cond (cRun self CT RU cn.2.1 cn.2.2.2.1 cn.2.2.2.2 cn.2.2.1.1.1 cn.1 ht (some t.2.2) f true t.1 t.2.1.1 t.2.1.2.1 [] t.2.1.2.2) ih false) l) false = true from h2)
      rcases List.mem_cons.mp hq with rfl | hq
      · exact a
      · exact ih b t hq
  have hlen : cn.2.2.1.1.1 = rc.length := hN.1.symm
  rw [hlen] at h1 hT0
  have claim : ∀ n : Nat, ∀ t ∈ ht.1, tmGo P FS rc cn.2.2.2.1 hp d cn.1 k hn env nc ns (fun y => y < (n : Int)) t := by
    intro n
    induction n with
    | zero => intro t _ rr L hp2 y _ _ _ _ _ _ _ y0 y1; exact absurd y1 (by show ¬ y < ((0 : Nat) : Int); omega)
    | succ n ih =>
      intro t ht1 rr L hp2 y h3 h4 h5 h6 h7 h8 h9 y0 y1
      have y1 : y < ((n + 1 : Nat) : Int) := y1
      refine cRun_ok (mu := some t.2.2) (M := y) (hp0 := hp) hP hFS hEQ hOP hhn hret hRU hD hCT (ht := ht) (fun t2 ht2 => ?_) f true t.1 _ _ [] _ (hT0 t ht1) rr L [] hp2 ⟨h4, h5, trivial, h6, h7, h3, fun e he => (by cases he; exact h9), h8⟩
      intro rr2 L2 hp3 y2 a1 a2 a3 a4 a5 a6 a7 a8 a9
      have := a9 t.2.2 rfl
      exact ih t2 ht2 rr2 L2 hp3 y2 a1 a2 a3 a4 a5 a6 a7 a8 (by show y2 < (n : Int); omega)
  have hpk := (sPk_ok (n := pad) cn.2.2.1.2.1 vs 0 0 hl hv' h0 (fun i _ => by
    have : eSl 0 i = 0 := by
      show (0 >>> (72 * i)) % 4722366482869645213696 = 0
      rw [Nat.zero_shiftRight]
    rw [this]
    decide)).2
  refine cRun_ok (mu := none) (M := 0) (hp0 := hp) hP hFS hEQ hOP hhn hret hRU hD hCT (ht := ht) (fun t ht1 => ?_) f true 0 _ _ [] _ h1 rc (ePack vs 0 0) [] hp ⟨hN, fun j v hj => ?_, trivial, hO, hH, ⟨[], by rw [sNil]⟩, fun e he => (by cases he), hFr_refl _ hp⟩
  · intro rr L hp2 y a1 a2 a3 a4 a5 a6 a7 a8 _
    exact claim (y.toNat + 1) t ht1 rr L hp2 y a1 a2 a3 a4 a5 a6 a7 a8 (by show y < ((y.toNat + 1 : Nat) : Int); omega)
  · have := hpk j v hj
    rw [Nat.zero_add] at this
    exact this
end CkStep8
