section CkStep6
noncomputable def sFrs (n : Nat) : sNm → List sLn → (List sLn → sNm → Bool) → Bool := @Nat.rec (fun _ => sNm → List sLn → (List sLn → sNm → Bool) → Bool) (fun N th k => k th N) (fun _ ih N th k => sFr N wMn wMx (fun e N => sApp e th (fun th => ih N th k))) n
theorem sFrs_ok : ∀ {us : List Int} {r : List Int} {N : sNm} {th : List sLn} {ys : List Int} {k : List sLn → sNm → Bool}, sNOk tSg r N → sEs r th ys → (∀ x ∈ us, wMn ≤ x ∧ x ≤ wMx) → sFrs us.length N th k = true → ∃ N' th', sNOk tSg (r ++ us) N' ∧ sEs (r ++ us) th' (ys ++ us) ∧ k th' N' = true := by
  intro us
  induction us with
  | nil => intro r N th ys k hN hth _ h; exact ⟨N, th, by rw [sNil]; exact hN, by rw [sNil, sNil]; exact hth, h⟩
  | cons x us ih =>
    intro r N th ys k hN hth hx h
    obtain ⟨x1, x2⟩ := hx x List.mem_cons_self
    obtain ⟨e, N1, a1, a2, a3⟩ := sFrW_ok hN x1 x2 x1 x2 (show sFr N wMn wMx (fun e N => sApp e th (fun th => sFrs us.length N th k)) = true from h)
    rw [sApp_eq] at a3
    obtain ⟨N', th', b1, b2, b3⟩ := ih a1 (sEs_app a2 (sEs_mono hth)) (fun z hz => hx z (List.mem_cons_of_mem _ hz)) a3
    rw [List.append_assoc] at b1 b2
    rw [List.append_assoc] at b2
    exact ⟨N', th', b1, b2, b3⟩
noncomputable def sAiv (th : List sLn) (iv : sIv) : sNm → (sNm → Bool) → Bool := @List.rec (Nat × Int × Int) (fun _ => sNm → (sNm → Bool) → Bool) (fun N k => k N) (fun q _ ih N k => sGl th q.1 (fun e => sAsLe N e (q.2.2, []) (fun N => sAsLe N (q.2.1, []) e (fun N => ih N k)))) iv
theorem sAiv_ok {r : List Int} {th : List sLn} {xs : List Int} (hth : sEs r th xs) : ∀ {iv : sIv} {N : sNm} {k : sNm → Bool}, (∀ q ∈ iv, ∃ x, xs[q.1]? = some x ∧ q.2.1 ≤ x ∧ x ≤ q.2.2) → sNOk tSg r N → sAiv th iv N k = true → ∃ N', sNOk tSg r N' ∧ k N' = true := by
  intro iv
  induction iv with
  | nil => intro N k _ hN h; exact ⟨N, hN, h⟩
  | cons q iv ih =>
    intro N k hq hN h
    obtain ⟨e, x, x1, x2, h⟩ := sGl_ok hth (show sGl th q.1 (fun e => sAsLe N e (q.2.2, []) (fun N => sAsLe N (q.2.1, []) e (fun N => sAiv th iv N k))) = true from h)
    obtain ⟨y, y1, y2, y3⟩ := hq q List.mem_cons_self
    cases x1.symm.trans y1
    obtain ⟨N1, a1, a2⟩ := sAsLe_ok hN x2 (sE_k r q.2.2) y3 h
    obtain ⟨N2, b1, b2⟩ := sAsLe_ok a1 (sE_k r q.2.1) x2 y2 a2
    exact ih (fun w hw => hq w (List.mem_cons_of_mem _ hw)) b1 b2
noncomputable def sAcs (th cs : List sLn) : sNm → (sNm → Bool) → Bool := @List.rec sLn (fun _ => sNm → (sNm → Bool) → Bool) (fun N k => k N) (fun c _ ih N k => sSbK th c (fun e => sAs N e (fun N => ih N k))) cs
theorem sAcs_ok {r : List Int} {th : List sLn} {xs : List Int} (hth : sEs r th xs) : ∀ {cs : List sLn} {N : sNm} {k : sNm → Bool}, sCsOk xs cs → sNOk tSg r N → sAcs th cs N k = true → ∃ N', sNOk tSg r N' ∧ k N' = true := by
  intro cs
  induction cs with
  | nil => intro N k _ hN h; exact ⟨N, hN, h⟩
  | cons c cs ih =>
    intro N k hq hN h
    obtain ⟨e, x, x1, x2, h⟩ := sSbK_ok hth (show sSbK th c (fun e => sAs N e (fun N => sAcs th cs N k)) = true from h)
    obtain ⟨y, y1, y2⟩ := hq c List.mem_cons_self
    have := sE_inj x1 y1
    subst this
    obtain ⟨N1, a1, a2⟩ := sAs_ok hN x2 y2 h
    exact ih (fun w hw => hq w (List.mem_cons_of_mem _ hw)) a1 a2
noncomputable def sSbV (th : List sLn) (v : sVl) (k : sVl → Bool) : Bool := cond (cond (Nat.beq v.1 1) true (cond (Nat.beq v.1 5) true (Nat.ble 16 v.1))) (sSbK th v.2 (fun e => k (v.1, e))) (k v)
theorem sSbV_ok {r : List Int} {th : List sLn} {xs : List Int} (hth : sEs r th xs) {v : sVl} {w : Nat} (hv' : vOk xs v w) {k : sVl → Bool} (h : sSbV th v k = true) : ∃ v', v'.1 = v.1 ∧ vOk r v' w ∧ k v' = true := by
  rcases sCh h with ⟨h1, h⟩ | ⟨h1, h⟩
  · obtain ⟨e, x, x1, x2, h⟩ := sSbK_ok hth h
    refine ⟨(v.1, e), rfl, ⟨hv'.1, fun q => ?_, hv'.2.2.1, hv'.2.2.2.1, hv'.2.2.2.2.1, fun q => ?_, hv'.2.2.2.2.2.2.1, fun q => ?_⟩, h⟩
    · obtain ⟨y, y1, y2⟩ := hv'.2.1 q
      have := sE_inj x1 y1
      subst this
      exact ⟨x, x2, y2⟩
    · obtain ⟨c, y1, y2⟩ := hv'.2.2.2.2.2.1 q
      have := sE_inj x1 y1
      subst this
      exact ⟨c, x2, y2⟩
    · obtain ⟨y, y1, y2⟩ := hv'.2.2.2.2.2.2.2 q
      have := sE_inj x1 y1
      subst this
      exact ⟨x, x2, y2⟩
  · refine ⟨v, rfl, ⟨hv'.1, fun q => ?_, hv'.2.2.1, hv'.2.2.2.1, hv'.2.2.2.2.1, fun q => ?_, hv'.2.2.2.2.2.2.1, fun q => ?_⟩, h⟩
    · rw [q] at h1; cases h1
    · rw [Nat.ble_eq_true_of_le q] at h1
      cases hb : Nat.beq v.1 1 <;> cases hb5 : Nat.beq v.1 5 <;> rw [hb, hb5] at h1 <;> cases h1
    · rw [q] at h1; cases h1
noncomputable def sPrf (th : List sLn) (rf : List sRf) : List sRf → (List sRf → Bool) → Bool := @List.rec sRf (fun _ => List sRf → (List sRf → Bool) → Bool) (fun l k => k l) (fun q _ ih l k => sSbK th q.1.2 (fun ce => sSbK th q.2.1 (fun ix => sSbV th q.2.2 (fun v => ih (((q.1.1, ce), ix, v) :: l) k)))) rf
theorem sPrf_ok {r : List Int} {hp : Lean.RArray Nat} {th : List sLn} {xs : List Int} (hth : sEs r th xs) : ∀ {rf l : List sRf} {k : List sRf → Bool}, (∀ q ∈ rf, rfOk xs hp q) → (∀ q ∈ l, rfOk r hp q) → sPrf th rf l k = true → ∃ l', (∀ q ∈ l', rfOk r hp q) ∧ k l' = true := by
  intro rf
  induction rf with
  | nil => intro l k _ hl h; exact ⟨l, hl, h⟩
  | cons q rf ih =>
    intro l k hq hl h
    obtain ⟨ce, x, x1, x2, h⟩ := sSbK_ok hth (show sSbK th q.1.2 (fun ce => sSbK th q.2.1 (fun ix => sSbV th q.2.2 (fun v => sPrf th rf (((q.1.1, ce), ix, v) :: l) k))) = true from h)
    obtain ⟨ix, y, y1, y2, h⟩ := sSbK_ok hth h
    obtain ⟨c, i, a1, a2, a3, a4, a5, a6⟩ := hq q List.mem_cons_self
    obtain ⟨v, -, v1, h⟩ := sSbV_ok hth a6 h
    have e1 := sE_inj x1 a1
    have e2 := sE_inj y1 a4
    subst e1 e2
    refine ih (fun w hw => hq w (List.mem_cons_of_mem _ hw)) (fun w hw => ?_) h
    rcases List.mem_cons.mp hw with rfl | hw
    · exact ⟨c, i, x2, a2, a3, y2, a5, v1⟩
    · exact hl w hw
noncomputable def sSbL (th ps : List sLn) : (List sLn → Bool) → Bool := @List.rec sLn (fun _ => (List sLn → Bool) → Bool) (fun k => k []) (fun p _ ih k => sSbK th p (fun e => ih (fun l => k (e :: l)))) ps
theorem sSbL_ok {r : List Int} {th : List sLn} {xs : List Int} (hth : sEs r th xs) : ∀ {ps : List sLn} {ys : List Int} {k : List sLn → Bool}, sEs xs ps ys → sSbL th ps k = true → ∃ l, sEs r l ys ∧ k l = true := by
  intro ps
  induction ps with
  | nil =>
    intro ys k hy h
    cases ys with
    | nil => exact ⟨[], trivial, h⟩
    | cons y ys => exact hy.elim
  | cons p ps ih =>
    intro ys k hy h
    cases ys with
    | nil => exact hy.elim
    | cons y ys =>
      obtain ⟨e, x, x1, x2, h⟩ := sSbK_ok hth (show sSbK th p (fun e => sSbL th ps (fun l => k (e :: l))) = true from h)
      have := sE_inj x1 hy.1
      subst this
      obtain ⟨l, l1, l2⟩ := ih hy.2 h
      exact ⟨e :: l, ⟨x2, l1⟩, l2⟩
noncomputable def sPfc (th : List sLn) (fs : List sFc) : List sFc → (List sFc → Bool) → Bool := @List.rec sFc (fun _ => List sFc → (List sFc → Bool) → Bool) (fun l k => k l) (fun q _ ih l k => sSbL th q.2 (fun ps => ih ((q.1, ps) :: l) k)) fs
theorem sPfc_ok {FS : sFS} {r : List Int} {hp : Lean.RArray Nat} {th : List sLn} {xs : List Int} (hth : sEs r th xs) : ∀ {fs l : List sFc} {k : List sFc → Bool}, (∀ q ∈ fs, fcOk FS xs hp q) → (∀ q ∈ l, fcOk FS r hp q) → sPfc th fs l k = true → ∃ l', (∀ q ∈ l', fcOk FS r hp q) ∧ k l' = true := by
  intro fs
  induction fs with
  | nil => intro l k _ hl h; exact ⟨l, hl, h⟩
  | cons q fs ih =>
    intro l k hq hl h
    obtain ⟨ys, y1, y2⟩ := hq q List.mem_cons_self
    obtain ⟨ps, p1, h⟩ := sSbL_ok hth y1 (show sSbL th q.2 (fun ps => sPfc th fs ((q.1, ps) :: l) k) = true from h)
    refine ih (fun w hw => hq w (List.mem_cons_of_mem _ hw)) (fun w hw => ?_) h
    rcases List.mem_cons.mp hw with rfl | hw
    · exact ⟨ys, p1, y2⟩
    · exact hl w hw
noncomputable def sSbVs (th : List sLn) (vs : List sVl) : (List sVl → Bool) → Bool := @List.rec sVl (fun _ => (List sVl → Bool) → Bool) (fun k => k []) (fun v _ ih k => sSbV th v (fun v => ih (fun l => k (v :: l)))) vs
theorem sSbVs_ok {r : List Int} {th : List sLn} {xs : List Int} (hth : sEs r th xs) : ∀ {vs : List sVl} {W : Nat → Nat} {k : List sVl → Bool}, loF xs vs W → sSbVs th vs k = true → ∃ l, loF r l W ∧ (vs = [] ↔ l = []) ∧ k l = true := by
  intro vs
  induction vs with
  | nil => intro W k _ h; exact ⟨[], fun j v hj => (by simp at hj), ⟨fun _ => rfl, fun _ => rfl⟩, h⟩
  | cons v vs ih =>
    intro W k hv' h
    obtain ⟨v2, -, v3, h⟩ := sSbV_ok hth (hv' 0 v rfl) (show sSbV th v (fun v => sSbVs th vs (fun l => k (v :: l))) = true from h)
    obtain ⟨l, l1, -, l3⟩ := ih (W := fun j => W (j + 1)) (fun j u hj => hv' (j + 1) u hj) h
    refine ⟨v2 :: l, fun j u hj => ?_, ⟨fun q => (by cases q), fun q => (by cases q)⟩, l3⟩
    cases j with
    | zero => cases hj; exact v3
    | succ j => exact l1 j u hj
/-- what holds behind a call or a rule -/
noncomputable def sPo (N : sNm) (hs : sHs) (th : List sLn) (md : sMd) (n0 : Nat) (T : sTm) (k : sNm → sHs → List sVl → Bool) : Bool :=
  sHv md N hs (fun hs => sFrs (Nat.sub T.1.1 n0) N th (fun th N => sAiv th T.1.2.1 N (fun N => sAcs th T.1.2.2.1 N (fun N => sPrf th T.2.2.1 hs.1 (fun rf => sPfc th T.2.2.2 hs.2 (fun fc => sSbVs th T.2.1 (fun vs => k N (rf, fc) vs)))))))
theorem sPo_ok {FS : sFS} (hFS : fsOk FS) {r : List Int} {N : sNm} {hs : sHs} {hp hp' : Lean.RArray Nat} {th : List sLn} {xs u : List Int} {md : sMd} {T : sTm} {W : Nat → Nat} {k : sNm → sHs → List sVl → Bool} (hN : sNOk tSg r N) (hO : hOk hp) (hO' : hOk hp') (hH : hsOk FS r hp hs) (hF : hFr md hp hp') (hth : sEs r th xs) (hT : sNOk tSg (xs ++ u) T.1) (hTH : hsOk FS (xs ++ u) hp' T.2.2) (hTL : loF (xs ++ u) T.2.1 W) (h : sPo N hs th md xs.length T k = true) :
    ∃ N' hs' vs, sNOk tSg (r ++ u) N' ∧ hsOk FS (r ++ u) hp' hs' ∧ loF (r ++ u) vs W ∧ (T.2.1 = [] ↔ vs = []) ∧ k N' hs' vs = true := by
  obtain ⟨hs1, a1, h⟩ := sHv_ok hFS hN hO hO' hH hF h
  have hl : Nat.sub T.1.1 xs.length = u.length := by
    have e := hT.1
    rw [List.length_append] at e
    show T.1.1 - xs.length = u.length
    omega
  rw [hl] at h
  obtain ⟨N1, th1, b1, b2, h⟩ := sFrs_ok hN hth (fun x hx => hT.2.1.1 x (List.mem_append.mpr (Or.inr hx))) h
  obtain ⟨N2, c1, h⟩ := sAiv_ok b2 hT.2.1.2 b1 h
  obtain ⟨N3, d1, h⟩ := sAcs_ok b2 hT.2.2.1 c1 h
  obtain ⟨rf, e1, h⟩ := sPrf_ok b2 hTH.1 (fun q hq => rfOk_mono (a1.1 q hq)) h
  obtain ⟨fc, f1, h⟩ := sPfc_ok b2 hTH.2 (fun q hq => fcOk_mono (a1.2 q hq)) h
  obtain ⟨vs, g1, g2, h⟩ := sSbVs_ok b2 hTL h
  exact ⟨N3, (rf, fc), vs, d1, ⟨e1, f1⟩, g1, g2, h⟩
/-- contracts: method, depth, what is known, what it may write, what holds behind it (and the answer) -/
abbrev sCn : Type := Nat × Nat × sTm × sMd × List sTm
def cnOk (P : evP) (FS : sFS) (cn : sCn) : Prop := ∀ (d : Nat) (k : evK) (hn : Nat) (env : evEnv) (nc ns : Nat) (hp : Lean.RArray Nat) (r : List Int) (vs : List Nat), cn.2.1 ≤ d → tNC ≤ hn → sNOk tSg r cn.2.2.1.1 → vs.length = cn.2.2.1.2.1.length → loF r cn.2.2.1.2.1 (fun j => vs.getD j 0) → hOk hp → hsOk FS r hp cn.2.2.1.2.2 →
  (∀ post ∈ cn.2.2.2.2, ∀ u w hp', sNOk tSg (r ++ u) post.1 → loF (r ++ u) post.2.1 (fun _ => w) → (post.2.1 = [] → w = 0) → hOk hp' → hsOk FS (r ++ u) hp' post.2.2 → hFr cn.2.2.2.1 hp hp' → k w (hp', hn, env, nc, ns) = true) → P d cn.1 k 0 (ePack vs 0 0) [] (hp, hn, env, nc, ns)
noncomputable def sMdS (a b : sMd) : Bool := @List.rec (Nat × Nat × Nat) (fun _ => Bool) true (fun q _ ih => cond (sMdI b q.1 q.2.1 q.2.2) ih false) a
theorem sMdS_ok {b : sMd} : ∀ {a : sMd}, sMdS a b = true → ∀ q ∈ a, ∃ p ∈ b, p.1 = q.1 ∧ p.2.1 ≤ q.2.1 ∧ q.2.2 ≤ p.2.2 := by
  intro a
  induction a with
  | nil => intro _ q hq; cases hq
  | cons w a ih =>
    intro h q hq
    obtain ⟨h1, h2⟩ := eC_t (show cond (sMdI b w.1 w.2.1 w.2.2) (sMdS a b) false = true from h)
    rcases List.mem_cons.mp hq with rfl | hq
    · exact sMdI_ok h1
    · exact ih h2 q hq
theorem hFr_sub {a b : sMd} {x y : Lean.RArray Nat} (h : sMdS a b = true) (hF : hFr a x y) : hFr b x y := by
  intro c j hc hj
  refine hF c j hc (fun q hq => ?_)
  rintro ⟨e1, e2, e3⟩
  obtain ⟨p, p1, p2, p3, p4⟩ := sMdS_ok h q hq
  exact hj p p1 ⟨e1.trans p2.symm, Nat.le_trans p3 e2, Nat.le_trans e3 p4⟩
noncomputable def sAllP (ps : List sTm) (f : sTm → Bool) : Bool := @List.rec sTm (fun _ => Bool) true (fun p _ ih => cond (f p) ih false) ps
theorem sAllP_ok {f : sTm → Bool} : ∀ {ps : List sTm}, sAllP ps f = true → ∀ p ∈ ps, f p = true := by
  intro ps
  induction ps with
  | nil => intro _ q hq; cases hq
  | cons w ps ih =>
    intro h q hq
    obtain ⟨h1, h2⟩ := eC_t (show cond (f w) (sAllP ps f) false = true from h)
    rcases List.mem_cons.mp hq with rfl | hq
    · exact h1
    · exact ih h2 q hq
noncomputable def sTk (n : Nat) : List sVl → List sVl → (List sVl → List sVl → Bool) → Bool := @Nat.rec (fun _ => List sVl → List sVl → (List sVl → List sVl → Bool) → Bool) (fun st acc k => k acc st) (fun _ ih st acc k => @List.rec sVl (fun _ => Bool) false (fun v r _ => ih r (v :: acc) k) st) n
theorem sTk_ok {r : List Int} : ∀ {n : Nat} {st acc : List sVl} {ws acc' : List Nat} {k : List sVl → List sVl → Bool}, aSt r st ws → aSt r acc acc' → sTk n st acc k = true → ∃ vs rest vs' rest', aSt r vs vs' ∧ aSt r rest rest' ∧ k vs rest = true ∧ ∀ K : List Nat → List Nat → Bool, eTake n ws acc' K = K vs' rest' := by
  intro n
  induction n with
  | zero => intro st acc ws acc' k h1 h2 h; exact ⟨acc, st, acc', ws, h2, h1, h, fun K => rfl⟩
  | succ n ih =>
    intro st acc ws acc' k h1 h2 h
    cases st with
    | nil => cases h
    | cons v st =>
      obtain ⟨w, ws, rfl, hw, hst⟩ := aSt_c h1
      obtain ⟨vs, rest, vs', rest', a1, a2, a3, a4⟩ := ih hst (show aSt r (v :: acc) (w :: acc') from ⟨hw, h2⟩) (show sTk n st (v :: acc) k = true from h)
      exact ⟨vs, rest, vs', rest', a1, a2, a3, fun K => a4 K⟩
theorem aSt_F {r : List Int} : ∀ {vs : List sVl} {ws : List Nat}, aSt r vs ws → ws.length = vs.length ∧ loF r vs (fun j => ws.getD j 0)
  | [], [], _ => ⟨rfl, fun j v hj => by simp at hj⟩
  | v :: vs, w :: ws, h => by
    obtain ⟨h1, h2⟩ := aSt_F h.2
    refine ⟨by rw [List.length_cons, List.length_cons, h1], fun j u hj => ?_⟩
    cases j with
    | zero => cases hj; exact h.1
    | succ j => exact h2 j u hj
  | [], _ :: _, h => h.elim
  | _ :: _, [], h => h.elim
/-- the receiver -/
noncomputable def sRcv (ki : Nat) (vs : List sVl) : Bool := cond (Nat.blt ki 13) (@List.rec sVl (fun _ => Bool) false (fun o _ _ => cond (tA o) (Nat.beq (tKi (Nat.sub o.1 16)) ki) false) vs) (Nat.beq ki 64)
noncomputable def sRv (vd : Bool) (vs rest : List sVl) (k : List sVl → Bool) : Bool := cond vd (k rest) (match vs with
  | [v] => cond (tI v) (k (v :: rest)) false
  | _ => false)
variable {FS : sFS} {rc : List Int} {mu : Option sLn} {M : Int} {md : sMd} {hp0 : Lean.RArray Nat} {P : evP} {d mi : Nat} {k : evK} {hn : Nat} {env : evEnv} {nc ns : Nat} {ar : aR} {r : List Int} {pc : Nat} {N : sNm} {lo st : List sVl} {hs : sHs} {L : Nat} {stc : List Nat} {hp : Lean.RArray Nat}
noncomputable def aCon (D : Nat) (md : sMd) (c : Nat) (vd : Bool) (vs rest : List sVl) (cn : sCn) : aH := fun ar pc N lo _ hs => cond (Nat.beq cn.1 c) (cond (Nat.blt cn.2.1 D) (cond (sMdS cn.2.2.2.1 md) (cond (Nat.beq vs.length cn.2.2.1.2.1.length) (sMch N vs hs [] cn.2.2.1 (fun th N hs => sAllP cn.2.2.2.2 (fun T => cond (cond vd (match T.2.1 with | [] => true | _ => false) (match T.2.1 with | [] => false | _ => true)) (sPo N hs th cn.2.2.2.1 cn.2.2.1.1.1 T (fun N hs rv => sRv vd rv rest (fun st => ar (Nat.add pc 3) N lo st hs))) false))) false) false) false) false
theorem i_con (hFS : fsOk FS) (hhn : tNC ≤ hn) (har : (∀ pc N lo st hs, ar pc N lo st hs = true → ∀ r L stc hp, Gs FS rc mu M md hp0 r N lo st hs L stc hp → P d mi k pc L stc (hp, hn, env, nc, ns))) (hG : Gs FS rc mu M md hp0 r N lo st hs L stc hp) {D c : Nat} {vd : Bool} {vs rest : List sVl} {vs' rest' : List Nat} {cn : sCn} (hD : D ≤ d) (hcn : cnOk P FS cn) (hvs : aSt r vs vs') (hrs : aSt r rest rest') (h : aCon D md c vd vs rest cn ar pc N lo st hs = true) :
    pC P d c vs' (hp, hn, env, 0, 0) (fun v g' => cond (Nat.beq (eTg v) 7) false (eF (Nat.sub nc 0) (fun nc => eF (Nat.sub ns 0) (fun ns => pR P d mi k (Nat.add pc 3) L (cond vd rest' (v :: rest')) (g'.1, g'.2.1, g'.2.2.1, nc, ns))))) = true := by
  obtain ⟨h1, h⟩ := eC_t h
  obtain ⟨h2, h⟩ := eC_t h
  obtain ⟨h3, h⟩ := eC_t h
  obtain ⟨h4, h⟩ := eC_t h
  have h1 := Nat.eq_of_beq_eq_true h1
  have h2 := eB_l h2
  have h4 := Nat.eq_of_beq_eq_true h4
  obtain ⟨f1, f2⟩ := aSt_F hvs
  obtain ⟨t, N1, hs1, th, u0, m1, m2, m3, m4, m5, m6, h⟩ := sMch_ok (th := []) (xs := []) hG.1 f2 hG.2.2.2.1 hG.2.2.2.2.1 trivial h
  rw [List.nil_append] at m3 m4 m5 m6
  cases d with
  | zero => omega
  | succ d =>
    show pB (P d c _ 0 (ePack vs' 0 0) [] (hp, hn, env, 0, 0)) = true
    refine pB_t ?_
    rw [← h1]
    refine hcn d _ hn env 0 0 hp u0 vs' (by omega) hhn m4 (by omega) m5 hG.2.2.2.1 m6 (fun post hpost u w hp' p1 p2 p3 p4 p5 p6 => ?_)
    obtain ⟨k1, k2⟩ := eC_t (sAllP_ok h post hpost)
    have hl : cn.2.2.1.1.1 = u0.length := m4.1.symm
    rw [hl] at k2
    obtain ⟨N2, hs2, rv, q1, q2, q3, q4, q5⟩ := sPo_ok hFS m1 hG.2.2.2.1 p4 m2 p6 m3 p1 p5 p2 k2
    have hGe : Gs FS rc mu M md hp0 (r ++ (t ++ u)) N2 lo st hs2 L stc hp' := by
      rw [List.append_assoc] at q1 q2
      obtain ⟨-, g1, g2, -, -, ⟨g3, g4⟩, g5, g6⟩ := hG
      exact ⟨q1, loOk_mono g1, aSt_mono g2, p4, q2, ⟨g3 ++ (t ++ u), by rw [g4, List.append_assoc]⟩, fun e he => sE_mono (g5 e he), hFr_trans g6 (hFr_sub h3 p6)⟩
    rw [List.append_assoc] at q3
    have tg : ∀ x : Int, Nat.beq (eTg (cI x)) 7 = false := fun x => by rw [cI_tg]; rfl
    cases vd with
    | true =>
      have e0 : post.2.1 = [] := by
        cases hq : post.2.1 with
        | nil => rfl
        | cons a l => rw [hq] at k1; cases k1
      have hw := p3 e0
      subst hw
      rw [show Nat.beq (eTg 0) 7 = false from rfl, cond_false, eF_eq, eF_eq]
      exact pR_t (har _ _ _ _ _ (show ar (Nat.add pc 3) N2 lo rest hs2 = true from q5) (r ++ (t ++ u)) L _ hp' (Gs_st hGe (aSt_mono hrs)))
    | false =>
      cases rv with
      | nil => cases q5
      | cons v l =>
        cases l with
        | cons v2 l => cases q5
        | nil =>
          obtain ⟨q6, q7⟩ := eC_t (show cond (tI v) (ar (Nat.add pc 3) N2 lo (v :: rest) hs2) false = true from q5)
          have hv0 := q3 0 v rfl
          obtain ⟨x, x1, x2, x3, x4⟩ := vOk_I hv0 q6
          have x4 : w = cI x := x4
          subst x4
          rw [tg, cond_false, eF_eq, eF_eq]
          exact pR_t (har _ _ _ _ _ q7 (r ++ (t ++ u)) L _ hp' (Gs_st hGe (show aSt (r ++ (t ++ u)) (v :: rest) (cI x :: rest') from ⟨hv0, aSt_mono hrs⟩)))
noncomputable def sTryC (self : Nat) (CT : Nat → sCn) (cl : List Nat) (f : sCn → Bool) : Bool := @List.rec Nat (fun _ => Bool) false (fun i _ ih => cond (cond (Nat.blt i self) (f (CT i)) false) true ih) cl
theorem sTryC_ok {self : Nat} {CT : Nat → sCn} {f : sCn → Bool} : ∀ {cl : List Nat}, sTryC self CT cl f = true → ∃ i, i < self ∧ f (CT i) = true := by
  intro cl
  induction cl with
  | nil => intro h; cases h
  | cons w cl ih =>
    intro h
    rcases sCh (show cond (cond (Nat.blt w self) (f (CT w)) false) true (sTryC self CT cl f) = true from h) with ⟨h1, -⟩ | ⟨-, h1⟩
    · obtain ⟨a, b⟩ := eC_t h1
      exact ⟨w, eB_l a, b⟩
    · exact ih h1
noncomputable def sVd (q : evM) : Bool := match q.2.2.2.1 with | none => true | some _ => false
noncomputable def aCallM (self : Nat) (CT : Nat → sCn) (D : Nat) (md : sMd) (c kind : Nat) (cl : List Nat) : aH := fun ar pc N lo st hs => match eM c with
  | some q => cond (cond (Nat.beq q.2.2.2.2.2.2.1 0) (Nat.beq q.2.2.2.2.2.2.2.1 0) false) (sTk q.2.2.2.2.2.1 st [] (fun vs rest => cond (cond (sSm rest 8) (sSm vs q.2.2.1) false) (cond (sRcv (cond (Nat.beq kind 0) 64 q.2.2.2.2.1) vs) (sTryC self CT cl (fun cn => aCon D md c (sVd q) vs rest cn ar pc N lo st hs)) false) false)) false
  | none => false
theorem i_callM (hFS : fsOk FS) (hhn : tNC ≤ hn) (har : (∀ pc N lo st hs, ar pc N lo st hs = true → ∀ r L stc hp, Gs FS rc mu M md hp0 r N lo st hs L stc hp → P d mi k pc L stc (hp, hn, env, nc, ns))) (hG : Gs FS rc mu M md hp0 r N lo st hs L stc hp) {self D c kind : Nat} {CT : Nat → sCn} {cl : List Nat} (hD : D ≤ d) (hCT : ∀ i, i < self → cnOk P FS (CT i)) (h : aCallM self CT D md c kind cl ar pc N lo st hs = true) : hCallM c kind (pR P d mi k) (pC P d) k pc L stc (hp, hn, env, nc, ns) = true := by
  unfold aCallM at h
  unfold hCallM
  cases hq : eM c with
  | none => rw [hq] at h; cases h
  | some q =>
    rw [hq] at h
    obtain ⟨h1, h⟩ := eC_t h
    obtain ⟨h1, h2⟩ := eC_t h1
    have h1 := Nat.eq_of_beq_eq_true h1
    have h2 := Nat.eq_of_beq_eq_true h2
    obtain ⟨vs, rest, vs', rest', a1, a2, h, a4⟩ := sTk_ok hG.2.2.1 (show aSt r [] [] from trivial) h
    obtain ⟨h3, h⟩ := eC_t h
    obtain ⟨h3, h4⟩ := eC_t h3
    obtain ⟨h5, h⟩ := eC_t h
    obtain ⟨i, i1, i2⟩ := sTryC_ok h
    have fin := i_con hFS hhn har hG hD (hCT i i1) a1 a2 i2
    show hCall c q.2.2.2.2.2.1 (cond (Nat.beq kind 0) 64 q.2.2.2.2.1) q.2.2.1 (sVd q) q.2.2.2.2.2.2.1 q.2.2.2.2.2.2.2.1 (pR P d mi k) (pC P d) k pc L stc (hp, hn, env, nc, ns) = true
    rw [h1, h2]
    unfold hCall
    rw [a4]
    have e5 : eRcv (hp, hn, env, nc, ns) (cond (Nat.beq kind 0) 64 q.2.2.2.2.1) vs' = true := by
      generalize cond (Nat.beq kind 0) 64 q.2.2.2.2.1 = ki at h5 ⊢
      unfold eRcv
      rcases sCh h5 with ⟨h6, h5⟩ | ⟨h6, h5⟩
      · rw [h6, cond_true]
        cases vs with
        | nil => cases h5
        | cons o vs =>
          obtain ⟨w, ws, rfl, hw, -⟩ := aSt_c a1
          obtain ⟨h7, h8⟩ := eC_t h5
          obtain ⟨c', c1, c2, c3, rfl⟩ := vOk_R hw h7
          obtain ⟨g1, g2, g3⟩ := gKi hhn hG c2
          show eAt (hp, hn, env, nc, ns) (cR c') ki (fun _ _ => true) = true
          rw [eAt_cR (g := (hp, hn, env, nc, ns)) g1 (by show eKi (Lean.RArray.get hp c') = ki; rw [g2, c3]; exact Nat.eq_of_beq_eq_true h8)]
      · rw [h6, cond_false]
        have h5 := Nat.eq_of_beq_eq_true h5
        subst h5
        rfl
    rw [Nat.ble_eq_true_of_le (sSm_ok a2 h3), Nat.ble_eq_true_of_le (sSm_ok a1 h4), e5]
    simp only [cond_true]
    show cond (Nat.ble 0 nc) (cond (Nat.ble 0 ns) _ false) false = true
    rw [Nat.ble_eq_true_of_le (Nat.zero_le nc), Nat.ble_eq_true_of_le (Nat.zero_le ns)]
    exact fin
end CkStep6
