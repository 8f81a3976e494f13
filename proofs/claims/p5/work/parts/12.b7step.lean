section CkStep7
abbrev sRu : Type := sTm × List sTm
def ruOk (FS : sFS) (ru : sRu) : Prop := ∀ (r : List Int) (hp : Lean.RArray Nat), hOk hp → sNOk tSg r ru.1.1 → hsOk FS r hp ru.1.2.2 → ∃ post ∈ ru.2, ∃ u, sNOk tSg (r ++ u) post.1 ∧ hsOk FS (r ++ u) hp post.2.2
noncomputable def sGrp (RU : Nat → sRu) (N : sNm) (lo : List sVl) (hs : sHs) (ids : List Nat) (next : sNm → sHs → Bool) : Bool := @List.rec Nat (fun _ => Bool) (next N hs) (fun i _ ih => cond (sMch N lo hs [] (RU i).1 (fun _ _ _ => true)) (sMch N lo hs [] (RU i).1 (fun th N hs => sAllP (RU i).2 (fun T => sPo N hs th [] (RU i).1.1.1 T (fun N hs _ => next N hs)))) ih) ids
noncomputable def sGps (RU : Nat → sRu) (lo : List sVl) (gs : List (List Nat)) : sNm → sHs → (sNm → sHs → Bool) → Bool := @List.rec (List Nat) (fun _ => sNm → sHs → (sNm → sHs → Bool) → Bool) (fun N hs k => k N hs) (fun g _ ih N hs k => sGrp RU N lo hs g (fun N hs => ih N hs k)) gs
noncomputable def sIdn (n : Nat) : Nat → List sLn := @Nat.rec (fun _ => Nat → List sLn) (fun _ => []) (fun _ ih i => sV i :: ih (Nat.add i 1)) n
theorem sIdn_ok {r : List Int} : ∀ (n i : Nat) (rc : List Int), rc.length = n → (∀ j x, rc[j]? = some x → r[i + j]? = some x) → sEs r (sIdn n i) rc := by
  intro n
  induction n with
  | zero =>
    intro i rc h _
    cases rc with
    | nil => trivial
    | cons x rc => cases h
  | succ n ih =>
    intro i rc h hx
    cases rc with
    | nil => cases h
    | cons x rc =>
      refine ⟨sE_V (hx 0 x rfl), ih (Nat.add i 1) rc (by simpa using h) (fun j y hj => ?_)⟩
      have := hx (j + 1) y hj
      rw [show i + (j + 1) = Nat.add i 1 + j from by show i + (j + 1) = i + 1 + j; omega] at this
      exact this
noncomputable def sNilV (l : List sVl) : Bool := @List.rec sVl (fun _ => Bool) true (fun _ _ _ => false) l
theorem sNilV_ok {l : List sVl} (h : sNilV l = true) : l = [] := by
  cases l with
  | nil => rfl
  | cons a l => cases h
noncomputable def sRet (posts : List sTm) (th0 : List sLn) (vd : Bool) (rv : List sVl) (N : sNm) (hs : sHs) : Bool := @List.rec sTm (fun _ => Bool) false (fun T _ ih => cond (cond (cond vd (sNilV T.2.1) (cond (sNilV T.2.1) false true)) (sMch N rv hs th0 T (fun _ _ _ => true)) false) true ih) posts
theorem sRet_ok {th0 : List sLn} {vd : Bool} {rv : List sVl} {N : sNm} {hs : sHs} : ∀ {posts : List sTm}, sRet posts th0 vd rv N hs = true → ∃ T ∈ posts, (vd = false → ¬ T.2.1 = []) ∧ sMch N rv hs th0 T (fun _ _ _ => true) = true := by
  intro posts
  induction posts with
  | nil => intro h; cases h
  | cons w posts ih =>
    intro h
    rcases sCh (show cond (cond (cond vd (sNilV w.2.1) (cond (sNilV w.2.1) false true)) (sMch N rv hs th0 w (fun _ _ _ => true)) false) true (sRet posts th0 vd rv N hs) = true from h) with ⟨h1, -⟩ | ⟨-, h1⟩
    · obtain ⟨a, b⟩ := eC_t h1
      refine ⟨w, List.mem_cons_self, fun q z => ?_, b⟩
      subst q
      rw [z] at a
      cases a
    · obtain ⟨T, a, b⟩ := ih h1
      exact ⟨T, List.mem_cons_of_mem _ a, b⟩
noncomputable def sMuC (mu : Option sLn) (N : sNm) (e : sLn) : Bool := match mu with
  | none => true
  | some m => sFl (sAdk (sSub e m) (Int.ofNat 1)) (fun dd => sLe N.2.1 N.2.2.1 8 dd)
noncomputable def sTryT (N : sNm) (lo : List sVl) (hs : sHs) (th0 : List sLn) (pc : Nat) (mu : Option sLn) (temps : List (Nat × sTm × sLn)) : Bool := @List.rec (Nat × sTm × sLn) (fun _ => Bool) false (fun t _ ih => cond (cond (Nat.beq t.1 pc) (sMch N lo hs th0 t.2.1 (fun th N _ => sSbK th t.2.2 (fun e => cond (zPs (sLo N e)) (sMuC mu N e) false))) false) true ih) temps
theorem sTryT_ok {N : sNm} {lo : List sVl} {hs : sHs} {th0 : List sLn} {pc : Nat} {mu : Option sLn} : ∀ {temps : List (Nat × sTm × sLn)}, sTryT N lo hs th0 pc mu temps = true → ∃ t ∈ temps, t.1 = pc ∧ sMch N lo hs th0 t.2.1 (fun th N _ => sSbK th t.2.2 (fun e => cond (zPs (sLo N e)) (sMuC mu N e) false)) = true := by
  intro temps
  induction temps with
  | nil => intro h; cases h
  | cons w temps ih =>
    intro h
    rcases sCh (show cond (cond (Nat.beq w.1 pc) (sMch N lo hs th0 w.2.1 (fun th N _ => sSbK th w.2.2 (fun e => cond (zPs (sLo N e)) (sMuC mu N e) false))) false) true (sTryT N lo hs th0 pc mu temps) = true from h) with ⟨h1, -⟩ | ⟨-, h1⟩
    · obtain ⟨a, b⟩ := eC_t h1
      exact ⟨w, List.mem_cons_self, Nat.eq_of_beq_eq_true a, b⟩
    · obtain ⟨T, a, b⟩ := ih h1
      exact ⟨T, List.mem_cons_of_mem _ a, b⟩
variable {FS : sFS} {rc : List Int} {mu : Option sLn} {M : Int} {md : sMd} {hp0 : Lean.RArray Nat} {P : evP} {d mi : Nat} {k : evK} {hn : Nat} {env : evEnv} {nc ns : Nat} {ar : aR} {r : List Int} {pc : Nat} {N : sNm} {lo st : List sVl} {hs : sHs} {L : Nat} {stc : List Nat} {hp : Lean.RArray Nat}
theorem sGrp_ok (hFS : fsOk FS) {RU : Nat → sRu} (hRU : ∀ i, ruOk FS (RU i)) (hG : Gs FS rc mu M md hp0 r N lo st hs L stc hp) {next : sNm → sHs → Bool} : ∀ {ids : List Nat}, sGrp RU N lo hs ids next = true → ∃ t N' hs', Gs FS rc mu M md hp0 (r ++ t) N' lo st hs' L stc hp ∧ next N' hs' = true := by
  intro ids
  induction ids with
  | nil => intro h; exact ⟨[], N, hs, by rw [sNil]; exact hG, h⟩
  | cons i ids ih =>
    intro h
    rcases sCh (show cond (sMch N lo hs [] (RU i).1 (fun _ _ _ => true)) (sMch N lo hs [] (RU i).1 (fun th N hs => sAllP (RU i).2 (fun T => sPo N hs th [] (RU i).1.1.1 T (fun N hs _ => next N hs)))) (sGrp RU N lo hs ids next) = true from h) with ⟨-, h1⟩ | ⟨-, h1⟩
    · obtain ⟨t, N1, hs1, th, u0, m1, m2, m3, m4, m5, m6, h1⟩ := sMch_ok (th := []) (xs := []) (W := eSl L) hG.1 hG.2.1 hG.2.2.2.1 hG.2.2.2.2.1 trivial h1
      rw [List.nil_append] at m3 m4 m5 m6
      obtain ⟨post, p1, u, p2, p3⟩ := hRU i u0 hp hG.2.2.2.1 m4 m6
      have h2 := sAllP_ok h1 post p1
      have hl : (RU i).1.1.1 = u0.length := m4.1.symm
      rw [hl] at h2
      -- the answer's places aren't asked for
      obtain ⟨hsA, a1, h2⟩ := sHv_ok hFS m1 hG.2.2.2.1 hG.2.2.2.1 m2 (hFr_refl [] hp) h2
      have hl2 : Nat.sub post.1.1 u0.length = u.length := by
        have e := p2.1
        rw [List.length_append] at e
        show post.1.1 - u0.length = u.length
        omega
      rw [hl2] at h2
      obtain ⟨N2, th1, b1, b2, h2⟩ := sFrs_ok m1 m3 (fun x hx => p2.2.1.1 x (List.mem_append.mpr (Or.inr hx))) h2
      obtain ⟨N3, c1, h2⟩ := sAiv_ok b2 p2.2.1.2 b1 h2
      obtain ⟨N4, d1, h2⟩ := sAcs_ok b2 p2.2.2.1 c1 h2
      obtain ⟨rf, e1, h2⟩ := sPrf_ok b2 p3.1 (fun q hq => rfOk_mono (a1.1 q hq)) h2
      obtain ⟨fc, f1, h2⟩ := sPfc_ok b2 p3.2 (fun q hq => fcOk_mono (a1.2 q hq)) h2
      have h3 : next N4 (rf, fc) = true := by
        generalize post.2.1 = vs at h2
        have key : ∀ (vs : List sVl) (k : List sVl → Bool), (∀ l, k l = next N4 (rf, fc)) → sSbVs th1 vs k = true → next N4 (rf, fc) = true := by
          intro vs
          induction vs with
          | nil => intro k hk h; rw [← hk []]; exact h
          | cons v vs ihv =>
            intro k hk h
            have h : sSbV th1 v (fun v => sSbVs th1 vs (fun l => k (v :: l))) = true := h
            rcases sCh h with ⟨-, h⟩ | ⟨-, h⟩
            · have sk : ∀ (ts : List (Int × Nat)) (acc : sLn) (kk : sLn → Bool), sSbT th1 ts acc kk = true → ∃ e, kk e = true := by
                intro ts
                induction ts with
                | nil => intro acc kk h; exact ⟨acc, h⟩
                | cons q ts ihs =>
                  intro acc kk h
                  obtain ⟨e, x, -, -, h⟩ := sGl_ok b2 (show sGl th1 q.2 (fun f => sFl (sAdd acc (sMul q.1 f)) (fun acc => sSbT th1 ts acc kk)) = true from h)
                  rw [sFl_eq] at h
                  exact ihs _ kk h
              obtain ⟨e, h⟩ := sk _ _ _ h
              exact ihv _ (fun l => hk _) h
            · exact ihv _ (fun l => hk _) h
        exact key vs _ (fun l => rfl) h2
      rw [List.append_assoc] at d1 e1 f1
      obtain ⟨-, g1, g2, g7, -, ⟨g3, g4⟩, g5, g6⟩ := hG
      exact ⟨t ++ u, N4, (rf, fc), ⟨d1, loOk_mono g1, aSt_mono g2, g7, ⟨e1, f1⟩, ⟨g3 ++ (t ++ u), by rw [g4, List.append_assoc]⟩, fun e he => sE_mono (g5 e he), g6⟩, h3⟩
    · exact ih h1
theorem sGps_ok (hFS : fsOk FS) {RU : Nat → sRu} (hRU : ∀ i, ruOk FS (RU i)) : ∀ {gs : List (List Nat)} {r : List Int} {N : sNm} {hs : sHs} {k2 : sNm → sHs → Bool}, Gs FS rc mu M md hp0 r N lo st hs L stc hp → sGps RU lo gs N hs k2 = true → ∃ t N' hs', Gs FS rc mu M md hp0 (r ++ t) N' lo st hs' L stc hp ∧ k2 N' hs' = true := by
  intro gs
  induction gs with
  | nil => intro r N hs k2 hG h; exact ⟨[], N, hs, by rw [sNil]; exact hG, h⟩
  | cons g gs ih =>
    intro r N hs k2 hG h
    obtain ⟨t1, N1, hs1, a1, a2⟩ := sGrp_ok hFS hRU hG (show sGrp RU N lo hs g (fun N hs => sGps RU lo gs N hs k2) = true from h)
    obtain ⟨t2, N2, hs2, b1, b2⟩ := ih a1 a2
    rw [List.append_assoc] at b1
    exact ⟨t1 ++ t2, N2, hs2, b1, b2⟩
theorem hId (hG : Gs FS rc mu M md hp0 r N lo st hs L stc hp) : sEs r (sIdn rc.length 0) rc := by
  obtain ⟨t, e⟩ := hG.2.2.2.2.2.1
  refine sIdn_ok rc.length 0 rc rfl (fun j x hj => ?_)
  rw [e, Nat.zero_add, List.getElem?_append_left (List.getElem?_eq_some_iff.mp hj).1]
  exact hj
/-- a return: the answer as a value (none: void) and as a word -/
theorem i_ret {posts : List sTm} (hret : (∀ post ∈ posts, ∀ u w hp2, sNOk tSg (rc ++ u) post.1 → loF (rc ++ u) post.2.1 (fun _ => w) → (post.2.1 = [] → w = 0) → hOk hp2 → hsOk FS (rc ++ u) hp2 post.2.2 → hFr md hp0 hp2 → k w (hp2, hn, env, nc, ns) = true)) (hG : Gs FS rc mu M md hp0 r N lo st hs L stc hp) {vd : Bool} {rv : List sVl} {w : Nat} (hv' : loF r rv (fun _ => w)) (hw : vd = true → w = 0) (h : sRet posts (sIdn rc.length 0) vd rv N hs = true) : k w (hp, hn, env, nc, ns) = true := by
  obtain ⟨T, t1, t2, t3⟩ := sRet_ok h
  obtain ⟨t, N', hs', th', u, m1, m2, m3, m4, m5, m6, -⟩ := sMch_ok hG.1 hv' hG.2.2.2.1 hG.2.2.2.2.1 (hId hG) t3
  refine hret T t1 u w hp m4 m5 (fun e => ?_) hG.2.2.2.1 m6 hG.2.2.2.2.2.2.2
  cases vd with
  | true => exact hw rfl
  | false => exact absurd e (t2 rfl)
noncomputable def sRtI (N : sNm) (rt : Option FieldType) (v : sVl) : Bool := match rt with
  | some .int => tI v
  | some .boolean => cond (tI v) (sIn N v.2 (Int.ofNat 0) (Int.ofNat 1)) false
  | _ => false
noncomputable def aRetI (posts : List sTm) (n0 : Nat) (rt : Option FieldType) : aH := fun _ _ N _ st hs => match st with
  | [v] => cond (sRtI N rt v) (sRet posts (sIdn n0 0) false [v] N hs) false
  | _ => false
theorem loF_1 {r : List Int} {v : sVl} {w : Nat} (h : vOk r v w) : loF r [v] (fun _ => w) := by
  intro j u hj
  cases j with
  | zero => cases hj; exact h
  | succ j => simp at hj
theorem i_retI {posts : List sTm} (hret : (∀ post ∈ posts, ∀ u w hp2, sNOk tSg (rc ++ u) post.1 → loF (rc ++ u) post.2.1 (fun _ => w) → (post.2.1 = [] → w = 0) → hOk hp2 → hsOk FS (rc ++ u) hp2 post.2.2 → hFr md hp0 hp2 → k w (hp2, hn, env, nc, ns) = true)) (hG : Gs FS rc mu M md hp0 r N lo st hs L stc hp) {rt : Option FieldType} (h : aRetI posts rc.length rt ar pc N lo st hs = true) : hRetI rt (pR P d mi k) (pC P d) k pc L stc (hp, hn, env, nc, ns) = true := by
  cases st with
  | nil => cases h
  | cons v st =>
    cases st with
    | cons v2 st => cases h
    | nil =>
      obtain ⟨w, ws, rfl, hw, hst⟩ := aSt_c hG.2.2.1
      have e := aSt_n hst
      subst e
      obtain ⟨h1, h⟩ := eC_t (show cond (sRtI N rt v) (sRet posts (sIdn rc.length 0) false [v] N hs) false = true from h)
      have h2 : eRtI rt w = true := by
        unfold sRtI at h1
        split at h1
        · exact (tI_ok (env := []) hw h1).1
        · exact sBool hG.1 hw h1
        · cases h1
      show cond (eRtI rt w) (k w (hp, hn, env, nc, ns)) false = true
      rw [h2]
      exact i_ret hret hG (loF_1 hw) (fun q => by cases q) h
noncomputable def aRetV (posts : List sTm) (n0 : Nat) : aH := fun _ _ N _ st hs => match st with
  | [] => sRet posts (sIdn n0 0) true [] N hs
  | _ => false
theorem i_retV {posts : List sTm} (hret : (∀ post ∈ posts, ∀ u w hp2, sNOk tSg (rc ++ u) post.1 → loF (rc ++ u) post.2.1 (fun _ => w) → (post.2.1 = [] → w = 0) → hOk hp2 → hsOk FS (rc ++ u) hp2 post.2.2 → hFr md hp0 hp2 → k w (hp2, hn, env, nc, ns) = true)) (hG : Gs FS rc mu M md hp0 r N lo st hs L stc hp) (h : aRetV posts rc.length ar pc N lo st hs = true) : hRetV (pR P d mi k) (pC P d) k pc L stc (hp, hn, env, nc, ns) = true := by
  cases st with
  | cons v st => cases h
  | nil =>
    have e := aSt_n hG.2.2.1
    subst e
    exact i_ret hret hG (rv := []) (fun j u hj => by simp at hj) (fun _ => rfl) h
noncomputable def aThr (posts : List sTm) (n0 : Nat) : aH := fun _ _ N _ st hs => match st with
  | [] => sRet posts (sIdn n0 0) false [(7, Int.ofNat 0, [])] N hs
  | _ => false
theorem i_thr {posts : List sTm} (hret : (∀ post ∈ posts, ∀ u w hp2, sNOk tSg (rc ++ u) post.1 → loF (rc ++ u) post.2.1 (fun _ => w) → (post.2.1 = [] → w = 0) → hOk hp2 → hsOk FS (rc ++ u) hp2 post.2.2 → hFr md hp0 hp2 → k w (hp2, hn, env, nc, ns) = true)) (hG : Gs FS rc mu M md hp0 r N lo st hs L stc hp) (h : aThr posts rc.length ar pc N lo st hs = true) : hThr (pR P d mi k) (pC P d) k pc L stc (hp, hn, env, nc, ns) = true := by
  cases st with
  | cons v st => cases h
  | nil =>
    have e := aSt_n hG.2.2.1
    subst e
    exact i_ret hret hG (loF_1 vOk_7) (fun q => by cases q) h
/-- a rest by 1000 of a number of which something is known -/
noncomputable def sHasM (N : sNm) (e : sLn) (fc : List sFc) : Bool := @List.rec sFc (fun _ => Bool) false (fun q _ ih => cond (cond (Nat.beq q.1 21) (match q.2 with | [p] => sEqz N p e | _ => false) false) true ih) fc
theorem sHasM_ok {N : sNm} {e : sLn} : ∀ {fc : List sFc}, sHasM N e fc = true → ∃ p, (21, [p]) ∈ fc ∧ sEqz N p e = true := by
  intro fc
  induction fc with
  | nil => intro h; cases h
  | cons w fc ih =>
    intro h
    rcases sCh (show cond (cond (Nat.beq w.1 21) (match w.2 with | [p] => sEqz N p e | _ => false) false) true (sHasM N e fc) = true from h) with ⟨h1, -⟩ | ⟨-, h1⟩
    · obtain ⟨a, b⟩ := eC_t h1
      have a := Nat.eq_of_beq_eq_true a
      obtain ⟨w1, w2⟩ := w
      have a : w1 = 21 := a
      subst a
      cases w2 with
      | nil => cases b
      | cons p l =>
        cases l with
        | cons p2 l => cases b
        | nil => exact ⟨p, List.mem_cons_self, b⟩
    · obtain ⟨p, a, b⟩ := ih h1
      exact ⟨p, List.mem_cons_of_mem _ a, b⟩
noncomputable def aRemH : aH := fun ar pc N lo st hs => match st with
  | b :: a :: rest => cond (cond (tI a) (cond (tI b) (cond (sLeq b.2 (Int.ofNat 1000, [])) (cond (zPs (sLo N a.2)) (sHasM N a.2 hs.2) false) false) false) false) (sFr N (Int.ofNat 900) (Int.ofNat 999) (fun e N => ar (Nat.add pc 1) N lo ((1, e) :: rest) hs)) (aOp2 aRem ar pc N lo (b :: a :: rest) hs)
  | _ => false
theorem i_remH (hEQ : eqOk FS) (har : (∀ pc N lo st hs, ar pc N lo st hs = true → ∀ r L stc hp, Gs FS rc mu M md hp0 r N lo st hs L stc hp → P d mi k pc L stc (hp, hn, env, nc, ns))) (hG : Gs FS rc mu M md hp0 r N lo st hs L stc hp) (h : aRemH ar pc N lo st hs = true) : hOp2 (ePos fRem (fI (fun x y => x - x / y * y))) (pR P d mi k) (pC P d) k pc L stc (hp, hn, env, nc, ns) = true := by
  cases st with
  | nil => cases h
  | cons b st =>
    cases st with
    | nil => cases h
    | cons a rest =>
      rcases sCh (show cond (cond (tI a) (cond (tI b) (cond (sLeq b.2 (Int.ofNat 1000, [])) (cond (zPs (sLo N a.2)) (sHasM N a.2 hs.2) false) false) false) false) (sFr N (Int.ofNat 900) (Int.ofNat 999) (fun e N => ar (Nat.add pc 1) N lo ((1, e) :: rest) hs)) (aOp2 aRem ar pc N lo (b :: a :: rest) hs) = true from h) with ⟨h1, h⟩ | ⟨-, h⟩
      · obtain ⟨h1, h2⟩ := eC_t h1
        obtain ⟨h2, h3⟩ := eC_t h2
        obtain ⟨h3, h4⟩ := eC_t h3
        obtain ⟨h4, h5⟩ := eC_t h4
        obtain ⟨wb, ws1, rfl, hb, hst1⟩ := aSt_c hG.2.2.1
        obtain ⟨wa, ws, rfl, ha, hst⟩ := aSt_c hst1
        obtain ⟨x, x1, x2, x3, rfl⟩ := vOk_I ha h1
        obtain ⟨y, y1, y2, y3, rfl⟩ := vOk_I hb h2
        rw [sLeq_ok h3, sE_k] at y1
        have ey : (Int.ofNat 1000 : Int) = y := Option.some.inj y1
        subst ey
        obtain ⟨p, p1, p2⟩ := sHasM_ok h5
        obtain ⟨xs, s1, s2⟩ := hG.2.2.2.2.1.2 _ p1
        have hx0 : 0 ≤ x := Int.le_trans (zPs_iff.mp h4) (sLo_ok hG.1 x1)
        have hxs : xs = [x] := by
          match xs, s1 with
          | [z], s1 => rw [sEqz_ok hG.1 s1.1 x1 p2]
          | [], s1 => exact s1.elim
          | _ :: _ :: _, s1 => exact s1.2.elim
        rw [hxs] at s2
        have hm := hEQ.2.1 x hp s2 hx0
        show cond (eIsI (cI x)) (cond (eIsI (cI (Int.ofNat 1000))) (ePos fRem (fI (fun x y => x - x / y * y)) env (cI x) (cI (Int.ofNat 1000)) (fun v env => pR P d mi k (Nat.add pc 1) L (v :: ws) (hp, hn, env, nc, ns))) false) false = true
        rw [cI_isI, cI_isI, ePos_cI fRem _ x3 (by decide) y3 hx0]
        have hr : x.toNat % 1000 < 1000 := Nat.mod_lt _ (by decide)
        have e1 : ((x.toNat % 1000 : Nat) : Int) = x % 1000 := by omega
        have e2 : eCi (fRem x.toNat (Int.ofNat 1000).toNat) = cI (x % 1000) := by
          rw [← e1]
          exact cI_nat _ (by show x.toNat % 1000 < 4294967296; omega)
        rw [e2]
        have o1 : (Int.ofNat 900 : Int) = 900 := rfl
        have o2 : (Int.ofNat 999 : Int) = 999 := rfl
        exact go1 har hG hst (by rw [o1]; exact hm) (by rw [o2]; omega) (by rw [zMn_eq]; omega) (by rw [zMx_eq]; omega) h
      · exact i_op2 har hG aRem_ok h
noncomputable def aBad : aH := fun _ _ _ _ _ _ => false
noncomputable def aLn (len n : Nat) (h : aH) : aH := cond (Nat.beq len n) h aBad
noncomputable def aIx (x : Nat) (h : aH) : aH := cond (Nat.blt x 65536) h aBad
noncomputable def aGetX (own idx : Nat) : aH := match eLook eFL (Nat.add (Nat.mul 65536 own) idx) with
  | 0 => aBad
  | c + 1 => aGet (Nat.mod c 64) (Nat.mod (Nat.div c 64) 64)
noncomputable def aPutX (md : sMd) (own idx : Nat) : aH := match eLook eFL (Nat.add (Nat.mul 65536 own) idx) with
  | 0 => aBad
  | c + 1 => cond (Nat.beq (Nat.div c 16384) 0) (aPut md (Nat.mod c 64) (Nat.mod (Nat.div c 64) 64) (Nat.mod (Nat.div c 4096) 4)) aBad
noncomputable def aPushS (b : Nat) (n : Int) (len : Nat) : aH := cond (decide (-(b : Int) ≤ n ∧ n < b)) (aPush (1, n, []) len) aBad
noncomputable def aCallV (self : Nat) (CT : Nat → sCn) (D : Nat) (md : sMd) (cl : List Nat) (v kind : Nat) : aH := cond (Nat.beq v 0) aBad (cond (Nat.beq v 9192) aBad (cond (Nat.beq v 1001) (cond (Nat.beq kind 0) (aCopy md) aBad) (cond (Nat.beq v 1002) (cond (Nat.beq kind 0) aMin aBad) (cond (eKm kind (Nat.div v 4096)) (aCallM self CT D md (Nat.sub (Nat.mod v 4096) 1) kind cl) aBad))))
noncomputable def aCallX (self : Nat) (CT : Nat → sCn) (D : Nat) (md : sMd) (cl : List Nat) (own idx kind : Nat) : aH := aCallV self CT D md cl (eLook eML (Nat.add (Nat.mul 65536 own) idx)) kind
noncomputable def aI (self : Nat) (CT : Nat → sCn) (D : Nat) (md : sMd) (posts : List sTm) (n0 : Nat) (cl : List Nat) (nL own : Nat) (rt : Option FieldType) (i : Instr) (len : Nat) : aH := match i with
  | .aload j => aLn len 2 (aLoad tA j 2)
  | .aload_n j => aLn len 1 (aLoad tA j.val 1)
  | .iload j => aLn len 2 (aLoad tI j 2)
  | .iload_n j => aLn len 1 (aLoad tI j.val 1)
  | .lload j => aLn len 2 (aLoad tL j 2)
  | .lload_n j => aLn len 1 (aLoad tL j.val 1)
  | .astore j => aLn len 2 (aStore tA nL j 2)
  | .astore_n j => aLn len 1 (aStore tA nL j.val 1)
  | .istore j => aLn len 2 (aStore tI nL j 2)
  | .istore_n j => aLn len 1 (aStore tI nL j.val 1)
  | .lstore j => aLn len 2 (aStore2 nL j 2)
  | .lstore_n j => aLn len 1 (aStore2 nL j.val 1)
  | .iconst n => aLn len 1 (aPushS 128 n 1)
  | .bipush n => aLn len 2 (aPushS 128 n 2)
  | .sipush n => aLn len 3 (aPushS 32768 n 3)
  | .lconst n => aLn len 1 (cond (Nat.blt n.val 9223372036854775808) (aPush (5, Int.ofNat n.val, []) 1) aBad)
  | .ldc x => aLn len 2 (aIx x (cond (cond (Nat.beq own 10) (Nat.beq x 19) false) aBad (aConst eLC own x 2)))
  | .ldc_w x => aLn len 3 (aIx x (aConst eLC own x 3))
  | .ldc2_w x => aLn len 3 (aIx x (aConst eLL own x 3))
  | .iadd => aLn len 1 (aOp2 aAdd)
  | .isub => aLn len 1 (aOp2 aSub)
  | .imul => aLn len 1 (aOp2 aMul)
  | .iand => aLn len 1 (aOp2F tOPa aAnd cl)
  | .ior => aLn len 1 (aOp2F tOPo aAny cl)
  | .ixor => aLn len 1 (aOp2 aAny)
  | .ishl => aLn len 1 (aOp2F tOPl aAny cl)
  | .ishr => aLn len 1 (aOp2F tOPr aAny cl)
  | .iushr => aLn len 1 (aOp2F tOPu aUsh cl)
  | .idiv => aLn len 1 (aOp2 aDiv)
  | .irem => aLn len 1 aRemH
  | .iinc j c => aLn len 3 (aIinc nL j c)
  | .goto off => aLn len 3 (aGoto off)
  | .ifCond o off => aLn len 3 (aIf o off)
  | .if_icmp o off => aLn len 3 (aIcmp o off)
  | .dup => aLn len 1 aDup
  | .pop => aLn len 1 aPop
  | .dup2 => aLn len 1 aDup2
  | .getfield x => aLn len 3 (aIx x (cond (Nat.beq own 17) aBad (aGetX own x)))
  | .getstatic x => aLn len 3 (cond (Nat.beq own 17) aBad (cond (Nat.beq own 1) (cond (Nat.beq x 90) (aPush (6, Int.ofNat 0, []) 3) (cond (Nat.beq x 93) (aPush (6, Int.ofNat 0, []) 3) aBad)) (cond (Nat.beq own 7) (cond (Nat.beq x 175) (aPush (6, Int.ofNat 0, []) 3) (cond (Nat.beq x 178) (aPush (6, Int.ofNat 0, []) 3) aBad)) aBad)))
  | .putfield x => aLn len 3 (aIx x (aPutX md own x))
  | .iaload => aLn len 1 aIald
  | .laload => aLn len 1 (aAld (fun k => Nat.beq k 65))
  | .baload => aLn len 1 (aAld (fun k => cond (Nat.beq k 66) true (Nat.beq k 67)))
  | .aaload => aLn len 1 (aAld (fun k => Nat.ble 128 k))
  | .iastore => aLn len 1 (aAst md (fun k => Nat.beq k 64))
  | .lastore => aLn len 1 (aAst md (fun k => Nat.beq k 65))
  | .bastore => aLn len 1 (aAst md (fun k => cond (Nat.beq k 66) true (Nat.beq k 67)))
  | .aastore => aLn len 1 (aAst md (fun k => Nat.ble 128 k))
  | .arraylength => aLn len 1 aLen
  | .invokevirtual x => aLn len 3 (aIx x (aCallX self CT D md cl own x 1))
  | .invokestatic x => aLn len 3 (aIx x (aCallX self CT D md cl own x 0))
  | .invokespecial x => aLn len 3 (aIx x (aCallX self CT D md cl own x 2))
  | .ireturn => aLn len 1 (aRetI posts n0 rt)
  | .return_ => aLn len 1 (cond (Option.isNone rt) (aRetV posts n0) aBad)
  | .i2l => aLn len 1 aI2l
  | .i2b => aLn len 1 (aI2b cl)
  | .ladd => aLn len 1 (aL2 sLadd)
  | .lmul => aLn len 1 (aL2 sLmul)
  | .lor => aLn len 1 (aL2 sLor)
  | .lshl => aLn len 1 aLsh
  | .lcmp => aLn len 1 aLcmp
  | .tableswitch dd lw hg offs => aSw dd lw hg offs
  | _ => aBad
theorem aLn_ok {len n : Nat} {h : aH} {hh : evH} (hk : h ar pc N lo st hs = true → hh (pR P d mi k) (pC P d) k pc L stc (hp, hn, env, nc, ns) = true) (h0 : aLn len n h ar pc N lo st hs = true) : eLn len n hh (pR P d mi k) (pC P d) k pc L stc (hp, hn, env, nc, ns) = true := by
  unfold aLn at h0
  unfold eLn
  cases hb : Nat.beq len n
  · rw [hb] at h0; cases h0
  · rw [hb] at h0; exact hk h0
theorem aIx_ok {x : Nat} {h : aH} {hh : evH} (hk : h ar pc N lo st hs = true → hh (pR P d mi k) (pC P d) k pc L stc (hp, hn, env, nc, ns) = true) (h0 : aIx x h ar pc N lo st hs = true) : hIx x hh (pR P d mi k) (pC P d) k pc L stc (hp, hn, env, nc, ns) = true := by
  unfold aIx at h0
  unfold hIx
  cases hb : Nat.blt x 65536
  · rw [hb] at h0; cases h0
  · rw [hb] at h0; exact hk h0
theorem vOk_K {r : List Int} {n : Int} (h1 : zMn ≤ n) (h2 : n ≤ zMx) : vOk r (1, n, []) (cI n) := vOk_i (sE_k r n) h1 h2
theorem aPushS_ok (har : (∀ pc N lo st hs, ar pc N lo st hs = true → ∀ r L stc hp, Gs FS rc mu M md hp0 r N lo st hs L stc hp → P d mi k pc L stc (hp, hn, env, nc, ns))) (hG : Gs FS rc mu M md hp0 r N lo st hs L stc hp) {b : Nat} (hb : b ≤ 32768) {n : Int} {len : Nat} (h : aPushS b n len ar pc N lo st hs = true) : hPush (eCi (eN32 n)) len (pR P d mi k) (pC P d) k pc L stc (hp, hn, env, nc, ns) = true ∧ decide (-(b : Int) ≤ n ∧ n < b) = true := by
  unfold aPushS at h
  cases hd : decide (-(b : Int) ≤ n ∧ n < b)
  · rw [hd] at h; cases h
  · rw [hd] at h
    obtain ⟨d1, d2⟩ := of_decide_eq_true hd
    rw [eN32_cI]
    exact ⟨i_push har hG (fun r => vOk_K (by rw [zMn_eq]; omega) (by rw [zMx_eq]; omega)) h, rfl⟩
theorem i_I (hFS : fsOk FS) (hEQ : eqOk FS) (hOP : opOk FS) (hhn : tNC ≤ hn) {posts : List sTm} (hret : (∀ post ∈ posts, ∀ u w hp2, sNOk tSg (rc ++ u) post.1 → loF (rc ++ u) post.2.1 (fun _ => w) → (post.2.1 = [] → w = 0) → hOk hp2 → hsOk FS (rc ++ u) hp2 post.2.2 → hFr md hp0 hp2 → k w (hp2, hn, env, nc, ns) = true)) (har : (∀ pc N lo st hs, ar pc N lo st hs = true → ∀ r L stc hp, Gs FS rc mu M md hp0 r N lo st hs L stc hp → P d mi k pc L stc (hp, hn, env, nc, ns))) (hG : Gs FS rc mu M md hp0 r N lo st hs L stc hp) {self D : Nat} {CT : Nat → sCn} {cl : List Nat} (hD : D ≤ d) (hCT : ∀ i, i < self → cnOk P FS (CT i)) {nL own : Nat} {rt : Option FieldType} {ini : Bool} {i : Instr} {len : Nat} (h : aI self CT D md posts rc.length cl nL own rt i len ar pc N lo st hs = true) : eI nL own rt ini i len (pR P d mi k) (pC P d) k pc L stc (hp, hn, env, nc, ns) = true := by
  have callX : ∀ x kind, aCallX self CT D md cl own x kind ar pc N lo st hs = true → hCallX own x kind (pR P d mi k) (pC P d) k pc L stc (hp, hn, env, nc, ns) = true := by
    intro x kind h
    unfold aCallX aCallV at h
    unfold hCallX hCallV
    generalize eLook eML (Nat.add (Nat.mul 65536 own) x) = v at h ⊢
    cases h1 : Nat.beq v 0
    · rw [h1] at h
      cases h2 : Nat.beq v 9192
      · rw [h2] at h
        cases h3 : Nat.beq v 1001
        · rw [h3] at h
          cases h4 : Nat.beq v 1002
          · rw [h4] at h
            cases h5 : eKm kind (Nat.div v 4096)
            · rw [h5] at h; cases h
            · rw [h5] at h
              exact i_callM hFS hhn har hG hD hCT h
          · rw [h4] at h
            cases h5 : Nat.beq kind 0
            · rw [h5] at h; cases h
            · rw [h5] at h
              exact i_min har hG h
        · rw [h3] at h
          cases h5 : Nat.beq kind 0
          · rw [h5] at h; cases h
          · rw [h5] at h
            exact i_copy hFS hEQ hhn har hG h
      · rw [h2] at h; cases h
    · rw [h1] at h; cases h
  cases i
  case aload j => exact aLn_ok (fun h => i_load har hG (fun v w a b => tA_ok a b) h) h
  case aload_n j => exact aLn_ok (fun h => i_load har hG (fun v w a b => tA_ok a b) h) h
  case iload j => exact aLn_ok (fun h => i_load har hG (fun v w a b => tI_ok a b) h) h
  case iload_n j => exact aLn_ok (fun h => i_load har hG (fun v w a b => tI_ok a b) h) h
  case lload j => exact aLn_ok (fun h => i_load (p := fun v => Nat.beq (eTg v) 4) har hG (fun v w a b => tL_ok a b) h) h
  case lload_n j => exact aLn_ok (fun h => i_load (p := fun v => Nat.beq (eTg v) 4) har hG (fun v w a b => tL_ok a b) h) h
  case astore j => exact aLn_ok (fun h => i_store har hG (fun v w a b => ⟨(tA_ok (env := []) a b).1, by obtain ⟨c, -, c2, -, rfl⟩ := vOk_R a b; exact cR_72 (Nat.lt_of_lt_of_le c2 tNC_le)⟩) h) h
  case astore_n j => exact aLn_ok (fun h => i_store har hG (fun v w a b => ⟨(tA_ok (env := []) a b).1, by obtain ⟨c, -, c2, -, rfl⟩ := vOk_R a b; exact cR_72 (Nat.lt_of_lt_of_le c2 tNC_le)⟩) h) h
  case istore j => exact aLn_ok (fun h => i_store har hG (fun v w a b => ⟨(tI_ok (env := []) a b).1, by obtain ⟨c, -, -, -, rfl⟩ := vOk_I a b; exact cI_72 c⟩) h) h
  case istore_n j => exact aLn_ok (fun h => i_store har hG (fun v w a b => ⟨(tI_ok (env := []) a b).1, by obtain ⟨c, -, -, -, rfl⟩ := vOk_I a b; exact cI_72 c⟩) h) h
  case lstore j => exact aLn_ok (fun h => i_store2 har hG h) h
  case lstore_n j => exact aLn_ok (fun h => i_store2 har hG h) h
  case iconst n => exact aLn_ok (fun h => (aPushS_ok har hG (by decide) h).1) h
  case bipush n =>
    refine aLn_ok (fun h => ?_) h
    obtain ⟨a, b⟩ := aPushS_ok har hG (by decide) h
    unfold hPushS
    rw [b]
    exact a
  case sipush n =>
    refine aLn_ok (fun h => ?_) h
    obtain ⟨a, b⟩ := aPushS_ok har hG (by decide) h
    unfold hPushS
    rw [b]
    exact a
  case lconst n =>
    refine aLn_ok (fun h => ?_) h
    cases hb : Nat.blt n.val 9223372036854775808
    · rw [hb] at h; cases h
    · rw [hb] at h
      have hl := eB_l hb
      refine i_push har hG (fun r => ?_) h
      have o : (Int.ofNat n.val : Int) = ((n.val : Nat) : Int) := rfl
      have q := vOk_w (sE_k r (Int.ofNat n.val)) (by rw [wMn_eq, o]; omega) (by rw [wMx_eq, o]; omega)
      have e : cL (Int.ofNat n.val) = Nat.add (Nat.mul 8 n.val) 4 := by
        show 8 * Int.toNat (((n.val : Nat) : Int) % 18446744073709551616) + 4 = 8 * n.val + 4
        omega
      rw [e] at q
      exact q
  case ldc x =>
    refine aLn_ok (aIx_ok (fun h => ?_)) h
    cases hb : cond (Nat.beq own 10) (Nat.beq x 19) false
    · rw [hb] at h
      exact i_const har hG h
    · rw [hb] at h; cases h
  case ldc_w x => exact aLn_ok (aIx_ok (fun h => i_const har hG h)) h
  case ldc2_w x => exact aLn_ok (aIx_ok (fun h => i_const har hG h)) h
  case iadd => exact aLn_ok (fun h => i_op2 har hG aAdd_ok h) h
  case isub => exact aLn_ok (fun h => i_op2 har hG aSub_ok h) h
  case imul => exact aLn_ok (fun h => i_op2 har hG aMul_ok h) h
  case iand => exact aLn_ok (fun h => i_op2F har hG aAnd_ok hOP.1.2.2.2.1 h) h
  case ior => exact aLn_ok (fun h => i_op2F har hG (aAny_ok eSome_or) hOP.1.2.2.1 h) h
  case ixor => exact aLn_ok (fun h => i_op2 har hG (aAny_ok eSome_xor) h) h
  case ishl => exact aLn_ok (fun h => i_op2F har hG (aAny_ok eSome_shl) hOP.1.2.1 h) h
  case ishr => exact aLn_ok (fun h => i_op2F har hG (aAny_ok eSome_shr) hOP.1.1 h) h
  case iushr => exact aLn_ok (fun h => i_op2F har hG aUsh_ok hOP.1.2.2.2.2 h) h
  case idiv => exact aLn_ok (fun h => i_op2 har hG aDiv_ok h) h
  case irem => exact aLn_ok (fun h => i_remH hEQ har hG h) h
  case iinc j n => exact aLn_ok (fun h => i_iinc har hG h) h
  case goto off => exact aLn_ok (fun h => i_goto har hG h) h
  case ifCond o off => exact aLn_ok (fun h => i_if har hG h) h
  case if_icmp o off => exact aLn_ok (fun h => i_icmp har hG h) h
  case dup => exact aLn_ok (fun h => i_dup har hG h) h
  case pop => exact aLn_ok (fun h => i_pop har hG h) h
  case dup2 => exact aLn_ok (fun h => i_dup2 har hG h) h
  case getfield x =>
    refine aLn_ok (aIx_ok (fun h => ?_)) h
    cases hb : Nat.beq own 17
    · rw [hb] at h
      have h : aGetX own x ar pc N lo st hs = true := h
      show hGetX own x (pR P d mi k) (pC P d) k pc L stc (hp, hn, env, nc, ns) = true
      unfold aGetX at h
      unfold hGetX
      cases hl : eLook eFL (Nat.add (Nat.mul 65536 own) x) with
      | zero => rw [hl] at h; cases h
      | succ c => rw [hl] at h; exact i_get hhn har hG h
    · rw [hb] at h; cases h
  case getstatic x =>
    refine aLn_ok (fun h => ?_) h
    cases hb : Nat.beq own 17
    · rw [hb] at h
      rw [cond_false] at h
      rw [cond_false]
      cases h1 : Nat.beq own 1
      · rw [h1] at h
        rw [cond_false] at h
        rw [cond_false]
        cases h2 : Nat.beq own 7
        · rw [h2] at h; cases h
        · rw [h2] at h
          rw [cond_true] at h
          rw [cond_true]
          cases h3 : Nat.beq x 175
          · rw [h3] at h
            rw [cond_false] at h
            rw [cond_false]
            cases h4 : Nat.beq x 178
            · rw [h4] at h; cases h
            · rw [h4] at h
              exact i_push har hG (fun r => vOk_x (Or.inr rfl)) h
          · rw [h3] at h
            exact i_push har hG (fun r => vOk_x (Or.inl rfl)) h
      · rw [h1] at h
        rw [cond_true] at h
        rw [cond_true]
        cases h3 : Nat.beq x 90
        · rw [h3] at h
          rw [cond_false] at h
          rw [cond_false]
          cases h4 : Nat.beq x 93
          · rw [h4] at h; cases h
          · rw [h4] at h
            exact i_push har hG (fun r => vOk_x (Or.inr rfl)) h
        · rw [h3] at h
          exact i_push har hG (fun r => vOk_x (Or.inl rfl)) h
    · rw [hb] at h; cases h
  case putfield x =>
    refine aLn_ok (aIx_ok (fun h => ?_)) h
    unfold aPutX at h
    unfold hPutX
    cases hl : eLook eFL (Nat.add (Nat.mul 65536 own) x) with
    | zero => rw [hl] at h; cases h
    | succ c =>
      rw [hl] at h
      have h : cond (Nat.beq (Nat.div c 16384) 0) (aPut md (Nat.mod c 64) (Nat.mod (Nat.div c 64) 64) (Nat.mod (Nat.div c 4096) 4)) aBad ar pc N lo st hs = true := h
      show cond (cond (Nat.beq (Nat.div c 16384) 0) true (cond ini (Nat.beq (Nat.mod c 64) own) false)) (hPut (Nat.mod c 64) (Nat.mod (Nat.div c 64) 64) (Nat.mod (Nat.div c 4096) 4)) hBad (pR P d mi k) (pC P d) k pc L stc (hp, hn, env, nc, ns) = true
      cases h1 : Nat.beq (Nat.div c 16384) 0
      · rw [h1] at h; cases h
      · rw [h1] at h
        exact i_put hFS hhn har hG h
  case iaload => exact aLn_ok (fun h => i_iald hhn har hG h) h
  case laload => exact aLn_ok (fun h => (i_ald0 hhn har hG h).1) h
  case baload => exact aLn_ok (fun h => i_bald hhn har hG h) h
  case aaload => exact aLn_ok (fun h => (i_ald0 hhn har hG h).1) h
  case iastore => exact aLn_ok (fun h => i_ast hFS hhn har hG h) h
  case lastore => exact aLn_ok (fun h => i_ast hFS hhn har hG h) h
  case bastore => exact aLn_ok (fun h => i_ast hFS hhn har hG h) h
  case aastore => exact aLn_ok (fun h => i_ast hFS hhn har hG h) h
  case arraylength => exact aLn_ok (fun h => i_len hhn har hG h) h
  case invokevirtual x => exact aLn_ok (aIx_ok (fun h => callX x 1 h)) h
  case invokestatic x => exact aLn_ok (aIx_ok (fun h => callX x 0 h)) h
  case invokespecial x => exact aLn_ok (aIx_ok (fun h => callX x 2 h)) h
  case ireturn => exact aLn_ok (fun h => i_retI hret hG h) h
  case return_ =>
    refine aLn_ok (fun h => ?_) h
    cases hb : Option.isNone rt
    · rw [hb] at h; cases h
    · rw [hb] at h
      exact i_retV (ar := ar) (pc := pc) (P := P) (d := d) (mi := mi) hret hG h
  case i2l => exact aLn_ok (fun h => i_i2l har hG h) h
  case i2b => exact aLn_ok (fun h => i_i2b hOP har hG h) h
  case ladd => exact aLn_ok (fun h => i_l2 har hG (fun a b => (eLadd a b).1) sLadd_ok h) h
  case lmul => exact aLn_ok (fun h => i_l2 har hG (fun a b => (eLmul a b).1) sLmul_ok h) h
  case lor => exact aLn_ok (fun h => i_l2 har hG (fun a b => (eLor a b).1) sLor_ok h) h
  case lshl => exact aLn_ok (fun h => i_lsh har hG h) h
  case lcmp => exact aLn_ok (fun h => i_lcmp har hG h) h
  case tableswitch dd lw hg offs => exact i_sw har hG h
  all_goals exact absurd h Bool.false_ne_true
end CkStep7
