section CkStep4
theorem zOfN (n : Nat) : (Int.ofNat n : Int) = (n : Int) := rfl
/-- what is still known behind a write to any of md -/
noncomputable def sKm (md : sMd) (ro : Nat) (lo hi : Int) : Bool := @List.rec (Nat × Nat × Nat) (fun _ => Bool) true (fun m _ ih => cond (cond (Nat.beq m.1 ro) (cond (zLe (Int.add hi (Int.ofNat 1)) (Int.ofNat m.2.1)) true (zLe (Int.ofNat (Nat.add m.2.2 1)) lo)) true) ih false) md
theorem sKm_ok {ro : Nat} {lo hi : Int} {i : Nat} (h1 : lo ≤ (i : Int)) (h2 : (i : Int) ≤ hi) : ∀ {md : sMd}, sKm md ro lo hi = true → ∀ m ∈ md, ¬ (ro = m.1 ∧ m.2.1 ≤ i ∧ i ≤ m.2.2) := by
  intro md
  induction md with
  | nil => intro _ m hm; cases hm
  | cons w md ih =>
    intro h m hm
    obtain ⟨h3, h4⟩ := eC_t (show cond (cond (Nat.beq w.1 ro) (cond (zLe (Int.add hi (Int.ofNat 1)) (Int.ofNat w.2.1)) true (zLe (Int.ofNat (Nat.add w.2.2 1)) lo)) true) (sKm md ro lo hi) false = true from h)
    rcases List.mem_cons.mp hm with rfl | hm
    · rintro ⟨e1, e2, e3⟩
      rcases sCh h3 with ⟨-, h5⟩ | ⟨h5, -⟩
      · rcases sCh h5 with ⟨h6, -⟩ | ⟨-, h6⟩
        · have h6 : hi + 1 ≤ (m.2.1 : Int) := zLe_iff.mp h6
          omega
        · have h6 : ((m.2.2 + 1 : Nat) : Int) ≤ lo := zLe_iff.mp h6
          omega
      · exact eB_f h5 e1.symm
    · exact ih h4 m hm
noncomputable def sKlM (N : sNm) (md : sMd) (rf : List sRf) : (List sRf → Bool) → Bool := @List.rec sRf (fun _ => (List sRf → Bool) → Bool) (fun k => k []) (fun q _ ih k => cond (zF (sLo N q.2.1) (fun lo => zF (sHi N q.2.1) (fun hi => sKm md q.1.1 lo hi))) (ih (fun l => k (q :: l))) (ih k)) rf
theorem sKlM_ok {N : sNm} {md : sMd} : ∀ {rf : List sRf} {k : List sRf → Bool}, sKlM N md rf k = true → ∃ l, k l = true ∧ ∀ q ∈ l, q ∈ rf ∧ sKm md q.1.1 (sLo N q.2.1) (sHi N q.2.1) = true := by
  intro rf
  induction rf with
  | nil => intro k h; exact ⟨[], h, fun q hq => by cases hq⟩
  | cons w rf ih =>
    intro k h
    rcases sCh (show cond (zF (sLo N w.2.1) (fun lo => zF (sHi N w.2.1) (fun hi => sKm md w.1.1 lo hi))) (sKlM N md rf (fun l => k (w :: l))) (sKlM N md rf k) = true from h) with ⟨h1, h2⟩ | ⟨-, h2⟩
    · rw [zF_eq, zF_eq] at h1
      obtain ⟨l, l1, l2⟩ := ih h2
      refine ⟨w :: l, l1, fun q hq => ?_⟩
      rcases List.mem_cons.mp hq with rfl | hq
      · exact ⟨List.mem_cons_self, h1⟩
      · exact ⟨List.mem_cons_of_mem _ (l2 q hq).1, (l2 q hq).2⟩
    · obtain ⟨l, l1, l2⟩ := ih h2
      exact ⟨l, l1, fun q hq => ⟨List.mem_cons_of_mem _ (l2 q hq).1, (l2 q hq).2⟩⟩
noncomputable def fSafM (N : sNm) (f : sFc) (md : sMd) : Bool := @List.rec (Nat × Nat × Nat) (fun _ => Bool) true (fun m _ ih => cond (fSafe N f m.1 (Int.ofNat m.2.1) (Int.ofNat m.2.2) (Int.ofNat m.2.1, []) (Int.ofNat m.2.2, [])) ih false) md
theorem fSafM_ok {N : sNm} {f : sFc} : ∀ {md : sMd}, fSafM N f md = true → ∀ m ∈ md, fSafe N f m.1 (Int.ofNat m.2.1) (Int.ofNat m.2.2) (Int.ofNat m.2.1, []) (Int.ofNat m.2.2, []) = true := by
  intro md
  induction md with
  | nil => intro _ m hm; cases hm
  | cons w md ih =>
    intro h m hm
    obtain ⟨h3, h4⟩ := eC_t (show cond (fSafe N f w.1 (Int.ofNat w.2.1) (Int.ofNat w.2.2) (Int.ofNat w.2.1, []) (Int.ofNat w.2.2, [])) (fSafM N f md) false = true from h)
    rcases List.mem_cons.mp hm with rfl | hm
    · exact h3
    · exact ih h4 m hm
noncomputable def sKfM (N : sNm) (md : sMd) (fc : List sFc) : (List sFc → Bool) → Bool := @List.rec sFc (fun _ => (List sFc → Bool) → Bool) (fun k => k []) (fun q _ ih k => cond (fSafM N q md) (ih (fun l => k (q :: l))) (ih k)) fc
theorem sKfM_ok {N : sNm} {md : sMd} : ∀ {fc : List sFc} {k : List sFc → Bool}, sKfM N md fc k = true → ∃ l, k l = true ∧ ∀ q ∈ l, q ∈ fc ∧ fSafM N q md = true := by
  intro fc
  induction fc with
  | nil => intro k h; exact ⟨[], h, fun q hq => by cases hq⟩
  | cons w fc ih =>
    intro k h
    rcases sCh (show cond (fSafM N w md) (sKfM N md fc (fun l => k (w :: l))) (sKfM N md fc k) = true from h) with ⟨h1, h2⟩ | ⟨-, h2⟩
    · obtain ⟨l, l1, l2⟩ := ih h2
      refine ⟨w :: l, l1, fun q hq => ?_⟩
      rcases List.mem_cons.mp hq with rfl | hq
      · exact ⟨List.mem_cons_self, h1⟩
      · exact ⟨List.mem_cons_of_mem _ (l2 q hq).1, (l2 q hq).2⟩
    · obtain ⟨l, l1, l2⟩ := ih h2
      exact ⟨l, l1, fun q hq => ⟨List.mem_cons_of_mem _ (l2 q hq).1, (l2 q hq).2⟩⟩
noncomputable def sHv (md : sMd) (N : sNm) (hs : sHs) (k : sHs → Bool) : Bool := sKlM N md hs.1 (fun rf => sKfM N md hs.2 (fun fc => k (rf, fc)))
theorem sHv_ok {FS : sFS} (hFS : fsOk FS) {r : List Int} {N : sNm} {md : sMd} {hs : sHs} {hp hp' : Lean.RArray Nat} (hN : sNOk tSg r N) (hO : hOk hp) (hO' : hOk hp') (hH : hsOk FS r hp hs) (hF : hFr md hp hp') {k : sHs → Bool} (h : sHv md N hs k = true) : ∃ hs', hsOk FS r hp' hs' ∧ k hs' = true := by
  obtain ⟨rf, h1, h2⟩ := sKlM_ok h
  obtain ⟨fc, h3, h4⟩ := sKfM_ok h1
  refine ⟨(rf, fc), ⟨fun q hq => ?_, fun q hq => ?_⟩, h3⟩
  · obtain ⟨q1, q2⟩ := h2 q hq
    obtain ⟨c, i, a1, a2, a3, a4, a5, a6⟩ := hH.1 q q1
    refine ⟨c, i, a1, a2, a3, a4, a5, ?_⟩
    rw [hF c i a2 (by rw [a3]; exact sKm_ok (sLo_ok hN a4) (sHi_ok hN a4) q2)]
    exact a6
  · obtain ⟨q1, q2⟩ := h4 q hq
    obtain ⟨xs, x1, x2⟩ := hH.2 q q1
    refine ⟨xs, x1, hFS q.1 xs hp hp' hO hO' (fun c j hc hj => ?_) x2⟩
    refine hF c j hc (fun m hm => ?_)
    rintro ⟨e1, e2, e3⟩
    exact fSafe_ok hN x1 (sE_k r (Int.ofNat m.2.1)) (sE_k r (Int.ofNat m.2.2)) (fSafM_ok q2 m hm) e1 (Int.ofNat_le.mpr e2) (Int.ofNat_le.mpr e3) (Int.ofNat_le.mpr e2) (Int.ofNat_le.mpr e3) hj
/-- rows that are copied -/
noncomputable def hCp (hp : Lean.RArray Nat) (c2 dp n c1 sp : Nat) : Lean.RArray Nat := eSetA hp c2 (eSd (Lean.RArray.get hp c2) (eBl (eDa (Lean.RArray.get hp c2)) dp n (Nat.shiftRight (eDa (Lean.RArray.get hp c1)) (Nat.mul 72 sp))))
theorem hCp_get {hp : Lean.RArray Nat} (hO : hOk hp) {c2 dp n c1 sp : Nat} (hc : c2 < tNC) {c' : Nat} (hc' : c' < tNC) : Lean.RArray.get (hCp hp c2 dp n c1 sp) c' = if c' = c2 then eSd (Lean.RArray.get hp c2) (eBl (eDa (Lean.RArray.get hp c2)) dp n (Nat.shiftRight (eDa (Lean.RArray.get hp c1)) (Nat.mul 72 sp))) else Lean.RArray.get hp c' := by
  have b := tNC_le
  exact (eGet_set hp c2 _ 0 1024 hO.1).2 (Nat.zero_le _) (by omega) c' (Nat.zero_le _) (by omega)
theorem hCp_hv {hp : Lean.RArray Nat} (hO : hOk hp) {c2 dp n c1 sp : Nat} (hc : c2 < tNC) {c' : Nat} (hc' : c' < tNC) (j : Nat) : hv (hCp hp c2 dp n c1 sp) c' j = if c' = c2 ∧ dp ≤ j ∧ j < dp + n then hv hp c1 (sp + (j - dp)) else hv hp c' j := by
  unfold hv
  rw [hCp_get hO hc hc']
  by_cases e : c' = c2
  · subst e
    rw [if_pos rfl, (eSd_ki _ _).2.2, eSl_bl, eSl_sh]
    by_cases h1 : j < dp
    · rw [if_pos h1, if_neg (fun z => by omega)]
    · rw [if_neg h1]
      by_cases h2 : j < dp + n
      · rw [if_pos h2, if_pos ⟨rfl, by omega, h2⟩]
      · rw [if_neg h2, if_neg (fun z => h2 z.2.2)]
  · rw [if_neg e, if_neg (fun z => e z.1)]
theorem hCp_ok {hp : Lean.RArray Nat} (hO : hOk hp) {c2 dp n c1 sp : Nat} (hc : c2 < tNC) (ht : ∀ j t, dp ≤ j → j < dp + n → sSgAt (tSg (tRO c2)) j = some t → tyOk t (hv hp c1 (sp + (j - dp)))) : hOk (hCp hp c2 dp n c1 sp) := by
  refine ⟨(eGet_set hp c2 _ 0 1024 hO.1).1, fun c' hc' => ?_⟩
  obtain ⟨a1, a2, a3⟩ := hO.2 c' hc'
  have e := hCp_get hO (dp := dp) (n := n) (c1 := c1) (sp := sp) hc hc'
  refine ⟨?_, ?_, fun j t hj => ?_⟩
  · rw [e]
    by_cases e2 : c' = c2
    · subst e2
      rw [if_pos rfl, (eSd_ki _ _).1]; exact a1
    · rw [if_neg e2]; exact a1
  · rw [e]
    by_cases e2 : c' = c2
    · subst e2
      rw [if_pos rfl, (eSd_ki _ _).2.1]; exact a2
    · rw [if_neg e2]; exact a2
  · rw [hCp_hv hO hc hc']
    by_cases e2 : c' = c2 ∧ dp ≤ j ∧ j < dp + n
    · rw [if_pos e2]
      obtain ⟨e3, e4, e5⟩ := e2
      subst e3
      exact ht j t e4 e5 hj
    · rw [if_neg e2]
      exact a3 j t hj
def eqOk (FS : sFS) : Prop := (∀ n, ∀ q ∈ tEQf n, ∀ hp, (∀ j, j < n → hv hp q.1 j = hv hp q.2.1 j) → FS q.2.2 [] hp) ∧ (∀ (x : Int) hp, FS 21 [x] hp → 0 ≤ x → 900 ≤ x % 1000) ∧ ∀ (x c : Int) hp, (x + (c - 999)) % 1000 = 0 → 0 ≤ c → c ≤ 99 → FS 21 [x] hp
/-- the fact that says so, if there is one -/
noncomputable def sEqL (l : List (Nat × Nat × Nat)) (a b : Nat) (fc : List sFc) (k : List sFc → Bool) : Bool := @List.rec (Nat × Nat × Nat) (fun _ => Bool) (k fc) (fun q _ ih => cond (cond (Nat.beq q.1 a) (Nat.beq q.2.1 b) false) (k ((q.2.2, []) :: fc)) ih) l
theorem sEqL_ok {a b : Nat} {fc : List sFc} {k : List sFc → Bool} : ∀ {l : List (Nat × Nat × Nat)}, sEqL l a b fc k = true → k fc = true ∨ ∃ q ∈ l, q.1 = a ∧ q.2.1 = b ∧ k ((q.2.2, []) :: fc) = true := by
  intro l
  induction l with
  | nil => intro h; exact Or.inl h
  | cons w l ih =>
    intro h
    rcases sCh (show cond (cond (Nat.beq w.1 a) (Nat.beq w.2.1 b) false) (k ((w.2.2, []) :: fc)) (sEqL l a b fc k) = true from h) with ⟨h1, h2⟩ | ⟨-, h2⟩
    · obtain ⟨a1, a2⟩ := eC_t h1
      exact Or.inr ⟨w, List.mem_cons_self, Nat.eq_of_beq_eq_true a1, Nat.eq_of_beq_eq_true a2, h2⟩
    · rcases ih h2 with h3 | ⟨q, q1, q2⟩
      · exact Or.inl h3
      · exact Or.inr ⟨q, List.mem_cons_of_mem _ q1, q2⟩
noncomputable def sCpT (os1 os2 : sSg) : Bool := cond (cond (sAllL os1) (sAllL os2) false) true (zF (sMi os1) (fun a => zF (sMa os1) (fun b => cond (sAllI os1 a b) (sFitA os2 a b) false)))
theorem sCpT_ok {rs rd lo1 hi1 lo2 hi2 i j : Nat} {t1 t2 : sTp} {w : Nat} (h : sCpT (sOv (tSg rs) lo1 hi1) (sOv (tSg rd) lo2 hi2) = true) (h1 : sSgAt (tSg rs) i = some t1) (h2 : lo1 ≤ i) (h3 : i ≤ hi1) (h4 : sSgAt (tSg rd) j = some t2) (h5 : lo2 ≤ j) (h6 : j ≤ hi2) (hw : tyOk t1 w) : tyOk t2 w := by
  obtain ⟨q1, a1, -, -, a4⟩ := sOv_at h1 h2 h3
  obtain ⟨q2, b1, -, -, b4⟩ := sOv_at h4 h5 h6
  rcases sCh h with ⟨h, -⟩ | ⟨-, h⟩
  · obtain ⟨h7, h8⟩ := eC_t h
    have e1 := sAllL_ok h7 q1 a1
    have e2 := sAllL_ok h8 q2 b1
    rw [a4] at e1
    rw [b4] at e2
    subst e1 e2
    exact hw
  · rw [zF_eq, zF_eq] at h
    obtain ⟨h7, h8⟩ := eC_t h
    obtain ⟨p1, e1, e2, e3⟩ := sAllI_ok h7 q1 a1
    obtain ⟨p2, f1, f2, f3⟩ := sFitA_ok h8 q2 b1
    rw [a4] at e1
    rw [b4] at f1
    subst e1 f1
    obtain ⟨x, x1, x2, x3, x4, x5⟩ := hw
    exact ⟨x, by omega, by omega, x3, x4, x5⟩
variable {FS : sFS} {rc : List Int} {mu : Option sLn} {M : Int} {md : sMd} {hp0 : Lean.RArray Nat} {P : evP} {d mi : Nat} {k : evK} {hn : Nat} {env : evEnv} {nc ns : Nat} {ar : aR} {r : List Int} {pc : Nat} {N : sNm} {lo st : List sVl} {hs : sHs} {L : Nat} {stc : List Nat} {hp : Lean.RArray Nat}
noncomputable def aCopy (md : sMd) : aH := fun ar pc N lo st hs => match st with
  | n :: dp :: dd :: sp :: ss :: rest => cond (cond (tI n) (cond (tI dp) (cond (tI sp) (cond (tA dd) (cond (tA ss) (cond (sSm rest 8) (sIsK n.2) false) false) false) false) false) false)
      (eF (Int.toNat n.2.1) (fun nn => cond (cond (zEq n.2.1 (Int.ofNat nn)) (Nat.ble 1 nn) false) (eF (Nat.sub ss.1 16) (fun rs => eF (Nat.sub dd.1 16) (fun rd => cond (cond (cond (Nat.beq (tKi rs) 64) true (Nat.beq (tKi rs) 65)) (Nat.beq (tKi rd) (tKi rs)) false)
        (zF (sLo N sp.2) (fun a1 => zF (sHi N sp.2) (fun b1 => zF (sLo N dp.2) (fun a2 => zF (sHi N dp.2) (fun b2 => cond (cond (zPs a1) (cond (zPs a2) (cond (zLe (Int.add b1 (Int.ofNat nn)) (Int.ofNat (tLe rs))) (zLe (Int.add b2 (Int.ofNat nn)) (Int.ofNat (tLe rd))) false) false) false)
          (eF (Nat.sub (Nat.add (Int.toNat b2) nn) 1) (fun h2 => cond (sMdI md rd (Int.toNat a2) h2) (cond (sCpT (sOv (tSg rs) (Int.toNat a1) (Nat.sub (Nat.add (Int.toNat b1) nn) 1)) (sOv (tSg rd) (Int.toNat a2) h2))
            (sHv [(rd, Int.toNat a2, h2)] N hs (fun hs => cond (cond (sIsK dd.2) (cond (sIsK ss.2) (cond (sLeq sp.2 (Int.ofNat 0, [])) (sLeq dp.2 (Int.ofNat 0, [])) false) false) false) (sEqL (tEQf nn) (Int.toNat dd.2.1) (Int.toNat ss.2.1) hs.2 (fun fc => ar (Nat.add pc 3) N lo rest (hs.1, fc))) (ar (Nat.add pc 3) N lo rest hs))) false) false)) false)))))
        false))) false)) false
  | _ => false
theorem i_copy (hFS : fsOk FS) (hEQ : eqOk FS) (hhn : tNC ≤ hn) (har : (∀ pc N lo st hs, ar pc N lo st hs = true → ∀ r L stc hp, Gs FS rc mu M md hp0 r N lo st hs L stc hp → P d mi k pc L stc (hp, hn, env, nc, ns))) (hG : Gs FS rc mu M md hp0 r N lo st hs L stc hp) (h : aCopy md ar pc N lo st hs = true) : hCopy (pR P d mi k) (pC P d) k pc L stc (hp, hn, env, nc, ns) = true := by
  match st, hG, h with
  | n :: dp :: dd :: sp :: ss :: rest, hG, h =>
    obtain ⟨wn, s1, rfl, hn', hs1⟩ := aSt_c hG.2.2.1
    obtain ⟨wdp, s2, rfl, hdp, hs2⟩ := aSt_c hs1
    obtain ⟨wdd, s3, rfl, hdd, hs3⟩ := aSt_c hs2
    obtain ⟨wsp, s4, rfl, hsp, hs4⟩ := aSt_c hs3
    obtain ⟨wss, ws, rfl, hss, hst⟩ := aSt_c hs4
    obtain ⟨g0, h⟩ := eC_t h
    obtain ⟨g1, g0⟩ := eC_t g0
    obtain ⟨g2, g0⟩ := eC_t g0
    obtain ⟨g3, g0⟩ := eC_t g0
    obtain ⟨g4, g0⟩ := eC_t g0
    obtain ⟨g5, g0⟩ := eC_t g0
    obtain ⟨g6, g7⟩ := eC_t g0
    rw [eF_eq] at h
    obtain ⟨h1, h⟩ := eC_t h
    rw [eF_eq, eF_eq] at h
    obtain ⟨h2, h⟩ := eC_t h
    rw [zF_eq, zF_eq, zF_eq, zF_eq] at h
    obtain ⟨h3, h⟩ := eC_t h
    rw [eF_eq] at h
    obtain ⟨h4, h⟩ := eC_t h
    obtain ⟨h5, h⟩ := eC_t h
    obtain ⟨h1, h6⟩ := eC_t h1
    have h1 := zEq_ok h1
    have h6 := Nat.le_of_ble_eq_true h6
    obtain ⟨h2, h7⟩ := eC_t h2
    have h7 := Nat.eq_of_beq_eq_true h7
    obtain ⟨h8, h3⟩ := eC_t h3
    obtain ⟨h9, h3⟩ := eC_t h3
    obtain ⟨h10, h11⟩ := eC_t h3
    have h8 := zPs_iff.mp h8
    have h9 := zPs_iff.mp h9
    obtain ⟨xn, n1, n2, n3, rfl⟩ := vOk_I hn' g1
    obtain ⟨xd, d1, d2, d3, rfl⟩ := vOk_I hdp g2
    obtain ⟨xs, s1', s2', s3', rfl⟩ := vOk_I hsp g3
    obtain ⟨cd, cd1, cd2, cd3, rfl⟩ := vOk_R hdd g4
    obtain ⟨cs, cs1, cs2, cs3, rfl⟩ := vOk_R hss g5
    generalize hnn : Int.toNat n.2.1 = nn at *
    have en : xn = (nn : Int) := by rw [sIsK_ok g7 n1, h1]; rfl
    have h10 : sHi N sp.2 + (nn : Int) ≤ (tLe (Nat.sub ss.1 16) : Int) := zLe_iff.mp h10
    have h11 : sHi N dp.2 + (nn : Int) ≤ (tLe (Nat.sub dd.1 16) : Int) := zLe_iff.mp h11
    have b1 := sLo_ok hG.1 d1
    have b2 := sHi_ok hG.1 d1
    have b3 := sLo_ok hG.1 s1'
    have b4 := sHi_ok hG.1 s1'
    obtain ⟨id, rfl⟩ := Int.eq_ofNat_of_zero_le (a := xd) (by omega)
    obtain ⟨is, rfl⟩ := Int.eq_ofNat_of_zero_le (a := xs) (by omega)
    rw [zMx_eq] at n3 d3 s3'
    have pn : ePl (cI xn) = nn := by rw [cI_pl, en]; omega
    have pd : ePl (cI (id : Int)) = id := by rw [cI_pl]; omega
    have ps : ePl (cI (is : Int)) = is := by rw [cI_pl]; omega
    obtain ⟨kd1, kd2, kd3⟩ := gKi hhn hG cd2
    obtain ⟨ks1, ks2, ks3⟩ := gKi hhn hG cs2
    have hb : ∀ j, id ≤ j → j < id + nn → Int.toNat (sLo N dp.2) ≤ j ∧ j ≤ Nat.sub (Nat.add (Int.toNat (sHi N dp.2)) nn) 1 := fun j j1 j2 => by
      constructor
      · omega
      · show j ≤ Int.toNat (sHi N dp.2) + nn - 1; omega
    have hO' : hOk (hCp hp cd id nn cs is) := by
      refine hCp_ok hG.2.2.2.1 cd2 (fun j t j1 j2 hj => ?_)
      obtain ⟨q1, q2⟩ := hb j j1 j2
      obtain ⟨t1, ht1, hty⟩ := tTy hG.2.2.2.1 cs2 (i := is + (j - id)) (by rw [cs3]; omega)
      rw [cs3] at ht1
      rw [cd3] at hj
      exact sCpT_ok h5 ht1 (by omega) (by show is + (j - id) ≤ Int.toNat (sHi N sp.2) + nn - 1; omega) hj q1 q2 hty
    have hF' : hFr [(Nat.sub dd.1 16, Int.toNat (sLo N dp.2), Nat.sub (Nat.add (Int.toNat (sHi N dp.2)) nn) 1)] hp (hCp hp cd id nn cs is) := by
      intro c' j hc' hj
      rw [hCp_hv hG.2.2.2.1 cd2 hc', if_neg]
      rintro ⟨e1, e2, e3⟩
      subst e1
      obtain ⟨q1, q2⟩ := hb j e2 e3
      exact hj _ List.mem_cons_self ⟨cd3, q1, q2⟩
    have hF2 : hFr md hp (hCp hp cd id nn cs is) := by
      intro c' j hc' hj
      refine hF' c' j hc' (fun q hq => ?_)
      rw [List.mem_singleton.mp hq]
      rintro ⟨e1, e2, e3⟩
      obtain ⟨q, q1, q2, q3, q4⟩ := sMdI_ok h4
      exact hj q q1 ⟨e1.trans q2.symm, Nat.le_trans q3 e2, Nat.le_trans e3 q4⟩
    obtain ⟨hs', k1, k2⟩ := sHv_ok hFS hG.1 hG.2.2.2.1 hO' hG.2.2.2.2.1 hF' h
    have fin : ∀ hs2 : sHs, hsOk FS r (hCp hp cd id nn cs is) hs2 → ar (Nat.add pc 3) N lo rest hs2 = true → pR P d mi k (Nat.add pc 3) L ws (hCp hp cd id nn cs is, hn, env, nc, ns) = true := fun hs2 z1 z2 => pR_t (har _ _ _ _ _ z2 r L _ _ (Gs_wr (Gs_st hG hst) hO' hF2 z1))
    have last : pR P d mi k (Nat.add pc 3) L ws (hCp hp cd id nn cs is, hn, env, nc, ns) = true := by
      rcases sCh k2 with ⟨k3, k2⟩ | ⟨-, k2⟩
      · obtain ⟨k4, k3⟩ := eC_t k3
        obtain ⟨k5, k3⟩ := eC_t k3
        obtain ⟨k6, k7⟩ := eC_t k3
        rcases sEqL_ok k2 with k2 | ⟨q, q1, q2, q3, k2⟩
        · exact fin _ k1 k2
        · refine fin (hs'.1, (q.2.2, []) :: hs'.2) ⟨k1.1, fun f hf => ?_⟩ k2
          rcases List.mem_cons.mp hf with rfl | hf
          · refine ⟨[], trivial, hEQ.1 nn q q1 _ (fun j hj => ?_)⟩
            have e1 := sIsK_ok k4 cd1
            have e2 := sIsK_ok k5 cs1
            rw [sLeq_ok k6, sE_k] at s1'
            rw [sLeq_ok k7, sE_k] at d1
            have e3 : is = 0 := (Int.ofNat.inj (Option.some.inj s1')).symm
            have e4 : id = 0 := (Int.ofNat.inj (Option.some.inj d1)).symm
            have e6 : q.1 = cd := by rw [q2, ← e1]; exact Int.toNat_natCast cd
            have e7 : q.2.1 = cs := by rw [q3, ← e2]; exact Int.toNat_natCast cs
            rw [e6, e7, hCp_hv hG.2.2.2.1 cd2 cd2, hCp_hv hG.2.2.2.1 cd2 cs2, if_pos ⟨rfl, by omega, by omega⟩, e3, e4]
            by_cases e8 : cs = cd ∧ 0 ≤ j ∧ j < 0 + nn
            · rw [if_pos e8]
            · rw [if_neg e8, Nat.zero_add, Nat.sub_zero]
          · exact k1.2 f hf
      · exact fin _ k1 k2
    show cond (cond (Nat.beq (eTg (cI xn)) 1) (Nat.ble (eSum ws) 8) false) (cond (Nat.beq (eTg (cI (id : Int))) 1) (cond (Nat.beq (eTg (cI (is : Int))) 1) (eAtP (hp, hn, env, nc, ns) (cR cs) (fun k => cond (Nat.beq k 64) true (Nat.beq k 65)) (fun _ ccs => eAt (hp, hn, env, nc, ns) (cR cd) (eKi ccs) (fun q ccd =>
      cond (Nat.ble (Nat.add (ePl (cI (is : Int))) (ePl (cI xn))) (eLe ccs)) (cond (Nat.ble (Nat.add (ePl (cI (id : Int))) (ePl (cI xn))) (eLe ccd)) (eF (eSd ccd (eBl (eDa ccd) (ePl (cI (id : Int))) (ePl (cI xn)) (Nat.shiftRight (eDa ccs) (Nat.mul 72 (ePl (cI (is : Int))))))) (fun c' => eSetK hp q c' (fun hp => pR P d mi k (Nat.add pc 3) L ws (hp, hn, env, nc, ns)))) false) false))) false) false) false = true
    rw [cI_tg, cI_tg, cI_tg, Nat.ble_eq_true_of_le (sSm_ok hst g6), pn, pd, ps]
    simp only [Nat.beq_refl, cond_true]
    rw [eAtP_cR (g := (hp, hn, env, nc, ns)) ks1 (by show cond (Nat.beq (eKi (Lean.RArray.get hp cs)) 64) true (Nat.beq (eKi (Lean.RArray.get hp cs)) 65) = true; rw [ks2, cs3]; exact h2)]
    rw [eAt_cR (g := (hp, hn, env, nc, ns)) kd1 (by show eKi (Lean.RArray.get hp cd) = eKi (Lean.RArray.get hp cs); rw [kd2, ks2, cs3, cd3]; exact h7)]
    show cond (Nat.ble (is + nn) (eLe (Lean.RArray.get hp cs))) (cond (Nat.ble (id + nn) (eLe (Lean.RArray.get hp cd))) _ false) false = true
    rw [ks3, kd3, cs3, cd3, Nat.ble_eq_true_of_le (by omega : is + nn ≤ _), Nat.ble_eq_true_of_le (by omega : id + nn ≤ _), cond_true, cond_true, eF_eq, eSetK_eq]
    exact last
  | [], _, h => cases h
  | [_], _, h => cases h
  | [_, _], _, h => cases h
  | [_, _, _], _, h => cases h
  | [_, _, _, _], _, h => cases h
end CkStep4
