section CkHeap3
variable {FS : sFS} {r : List Int} {N : sNm} {hs : sHs} {hp : Lean.RArray Nat}
/-- what lies in sg1 at a place, delta further on, is taken by sg2 there -/
noncomputable def sTyLe (a b : sTp) : Bool := match a, b with
  | .inl p, .inl q => cond (zLe q.1 p.1) (zLe p.2 q.2) false
  | _, _ => false
noncomputable def sSh1 (q2 : Nat × Nat × sTp) (d : Int) (sg1 : sSg) : Bool := @List.rec (Nat × Nat × sTp) (fun _ => Bool) true (fun q _ ih => cond (cond (cond (zLe (Int.add (Int.add (Int.ofNat q.1) d) (Int.ofNat 1)) (Int.ofNat q2.2.1)) (zLe (Int.ofNat (Nat.add q2.1 1)) (Int.add (Int.ofNat q.2.1) d)) false) (sTyLe q.2.2 q2.2.2) true) ih false) sg1
theorem sSh1_ok {q2 : Nat × Nat × sTp} {d : Int} : ∀ {sg1 : sSg}, sSh1 q2 d sg1 = true → ∀ q ∈ sg1, (q.1 : Int) + d < q2.2.1 → (q2.1 : Int) < q.2.1 + d → sTyLe q.2.2 q2.2.2 = true := by
  intro sg1
  induction sg1 with
  | nil => intro _ q hq; cases hq
  | cons w sg1 ih =>
    intro h q hq h1 h2
    obtain ⟨h3, h4⟩ := eC_t (show cond (cond (cond (zLe (Int.add (Int.add (Int.ofNat w.1) d) (Int.ofNat 1)) (Int.ofNat q2.2.1)) (zLe (Int.ofNat (Nat.add q2.1 1)) (Int.add (Int.ofNat w.2.1) d)) false) (sTyLe w.2.2 q2.2.2) true) (sSh1 q2 d sg1) false = true from h)
    rcases List.mem_cons.mp hq with rfl | hq
    · have e1 : zLe (Int.add (Int.add (Int.ofNat q.1) d) (Int.ofNat 1)) (Int.ofNat q2.2.1) = true := zLe_iff.mpr (by show (q.1 : Int) + d + 1 ≤ (q2.2.1 : Int); omega)
      have e2 : zLe (Int.ofNat (Nat.add q2.1 1)) (Int.add (Int.ofNat q.2.1) d) = true := zLe_iff.mpr (by show ((q2.1 + 1 : Nat) : Int) ≤ (q.2.1 : Int) + d; omega)
      rw [e1, e2] at h3
      exact h3
    · exact ih h4 q hq h1 h2
noncomputable def sShf (os : sSg) (d : Int) (sg1 : sSg) : Bool := @List.rec (Nat × Nat × sTp) (fun _ => Bool) true (fun q _ ih => cond (sSh1 q d sg1) ih false) os
theorem sShf_ok {d : Int} {sg1 : sSg} : ∀ {os : sSg}, sShf os d sg1 = true → ∀ q ∈ os, sSh1 q d sg1 = true := by
  intro os
  induction os with
  | nil => intro _ q hq; cases hq
  | cons w os ih =>
    intro h q hq
    obtain ⟨h3, h4⟩ := eC_t (show cond (sSh1 w d sg1) (sShf os d sg1) false = true from h)
    rcases List.mem_cons.mp hq with rfl | hq
    · exact h3
    · exact ih h4 q hq
/-- for each of n numbers from u on -/
noncomputable def sShN (os sg1 : sSg) (d a : Int) (n : Nat) : Int → Bool := @Nat.rec (fun _ => Int → Bool) (fun _ => true) (fun _ ih u => zF u (fun u => cond (sShf os (Int.add d (Int.mul a u)) sg1) (ih (Int.add u (Int.ofNat 1))) false)) n
theorem sShN_ok {os sg1 : sSg} {d a : Int} : ∀ {n : Nat} {u : Int}, sShN os sg1 d a n u = true → ∀ y, u ≤ y → y < u + n → sShf os (d + a * y) sg1 = true := by
  intro n
  induction n with
  | zero => intro u _ y h1 h2; omega
  | succ n ih =>
    intro u h y h1 h2
    have h : zF u (fun u => cond (sShf os (Int.add d (Int.mul a u)) sg1) (sShN os sg1 d a n (Int.add u (Int.ofNat 1))) false) = true := h
    rw [zF_eq] at h
    obtain ⟨h3, h4⟩ := eC_t h
    by_cases e : y = u
    · subst e; exact h3
    · refine ih h4 y ?_ ?_
      · show u + 1 ≤ y; omega
      · show y < u + 1 + n; omega
noncomputable def sShD (N : sNm) (os sg1 : sSg) (d : sLn) : Bool := match d.2 with
  | [] => sShf os d.1 sg1
  | [q] => sShN os sg1 d.1 q.1 (Nat.add (Int.toNat (Int.add (sB N.2.1 q.2).2 (Int.neg (sB N.2.1 q.2).1))) 1) (sB N.2.1 q.2).1
  | _ => false
theorem sShD_ok (hN : sNOk tSg r N) {os sg1 : sSg} {d : sLn} {x : Int} (hd : sE r d = some x) (h : sShD N os sg1 d = true) : sShf os x sg1 = true := by
  obtain ⟨c, ts⟩ := d
  unfold sShD at h
  split at h
  · rename_i e
    have e : ts = [] := e
    subst e
    rw [sE_k] at hd
    cases hd
    exact h
  · rename_i q e
    have e : ts = [q] := e
    subst e
    obtain ⟨y, h1, rfl⟩ := sE_iff.mp hd
    obtain ⟨a, s⟩ := q
    obtain ⟨z, y1, h2, h3, rfl⟩ := sEt_cons h1
    cases h3
    obtain ⟨b1, b2⟩ := sB_ok hN.2.1 h2
    have := sShN_ok h z b1 (by
      show z < (sB N.2.1 s).1 + ((Int.toNat ((sB N.2.1 s).2 + -(sB N.2.1 s).1) + 1 : Nat) : Int)
      omega)
    rw [Int.add_zero]
    exact this
  · cases h
noncomputable def sAnE (els : List (Nat × Nat × sLn)) (s : Nat) (f : Nat → sLn → Bool) : Bool := @List.rec (Nat × Nat × sLn) (fun _ => Bool) false (fun q _ ih => cond (cond (Nat.beq q.1 s) (f q.2.1 q.2.2) false) true ih) els
theorem sAnE_ok {s : Nat} {f : Nat → sLn → Bool} : ∀ {els : List (Nat × Nat × sLn)}, sAnE els s f = true → ∃ q ∈ els, q.1 = s ∧ f q.2.1 q.2.2 = true := by
  intro els
  induction els with
  | nil => intro h; cases h
  | cons w els ih =>
    intro h
    rcases sCh (show cond (cond (Nat.beq w.1 s) (f w.2.1 w.2.2) false) true (sAnE els s f) = true from h) with ⟨h1, -⟩ | ⟨-, h1⟩
    · obtain ⟨a, b⟩ := eC_t h1
      exact ⟨w, List.mem_cons_self, Nat.eq_of_beq_eq_true a, b⟩
    · obtain ⟨q, a, b⟩ := ih h1
      exact ⟨q, List.mem_cons_of_mem _ a, b⟩
/-- a number that was read elsewhere -/
noncomputable def sEls (N : sNm) (os : sSg) (ix e : sLn) : Bool := match e.2 with
  | [q] => cond (cond (zEq e.1 (Int.ofNat 0)) (zEq q.1 (Int.ofNat 1)) false) (sAnE N.2.2.2 q.2 (fun r1 i1 => sFl (sSub ix i1) (fun d => eF (Int.toNat (sLo N i1)) (fun a => eF (Int.toNat (sHi N i1)) (fun b => sShD N os (sOv (tSg r1) a b) d))))) false
  | _ => false
noncomputable def sFits (N : sNm) (os : sSg) (ix : sLn) (v : sVl) : Bool := cond (Nat.beq v.1 1) (cond (sFitA os (sLo N v.2) (sHi N v.2)) true (sEls N os ix v.2)) (cond (Nat.beq v.1 4) (sAllL os) (cond (Nat.beq v.1 5) (sAllL os) (cond (Nat.ble 16 v.1) (sTakR os (Nat.sub v.1 16)) false)))
theorem sFits_ok (hN : sNOk tSg r N) {ro i lo hi : Nat} {ix : sLn} (hix : sE r ix = some (i : Int)) (h1 : lo ≤ i) (h2 : i ≤ hi) {v : sVl} {w : Nat} (hv' : vOk r v w) (h : sFits N (sOv (tSg ro) lo hi) ix v = true) {t : sTp} (ht : sSgAt (tSg ro) i = some t) : tyOk t w := by
  obtain ⟨q, hq, q1, q2, hqt⟩ := sOv_at ht h1 h2
  unfold sFits at h
  rcases sCh h with ⟨h3, h⟩ | ⟨-, h⟩
  · obtain ⟨x, x1, x2, x3, rfl⟩ := vOk_I hv' h3
    rcases sCh h with ⟨h, -⟩ | ⟨-, h⟩
    · obtain ⟨p, p1, p2, p3⟩ := sFitA_ok h q hq
      rw [hqt] at p1
      subst p1
      have b1 := sLo_ok hN x1
      have b2 := sHi_ok hN x1
      exact ⟨x, by omega, by omega, x2, x3, rfl⟩
    · unfold sEls at h
      split at h
      · rename_i qq e
        obtain ⟨h4, h⟩ := eC_t h
        obtain ⟨h4, h5⟩ := eC_t h4
        have h40 : v.2.1 = 0 := zEq_ok h4
        have h5 : qq.1 = 1 := zEq_ok h5
        obtain ⟨el, e1, e2, e3⟩ := sAnE_ok h
        rw [sFl_eq, eF_eq, eF_eq] at e3
        obtain ⟨y, i1, a, b, f1, f2, f3, f4, f5⟩ := hN.2.2.2 el e1
        have hxy : x = y := by
          obtain ⟨z, z1, z2⟩ := sE_iff.mp x1
          rw [e] at z1
          obtain ⟨qa, qs⟩ := qq
          obtain ⟨z3, z4, z5, z6, z7⟩ := sEt_cons z1
          cases z6
          have e2 : el.1 = qs := e2
          rw [e2] at f1
          cases f1.symm.trans z5
          have h5 : qa = 1 := h5
          rw [z2, z7, h40, h5]
          omega
        subst hxy
        have hs1 := sShD_ok hN (sSub_ok hix f2) e3
        have hs2 := sShf_ok hs1 q hq
        obtain ⟨q1', g1, g2, g3, g4⟩ := sOv_at (lo := Int.toNat (sLo N el.2.2)) (hi := Int.toNat (sHi N el.2.2)) f3 (by have := sLo_ok hN f2; omega) (by have := sHi_ok hN f2; omega)
        have hs3 := sSh1_ok hs2 q1' g1 (by omega) (by omega)
        rw [g4, hqt] at hs3
        match t, hs3 with
        | .inl p, hs3 =>
          obtain ⟨k1, k2⟩ := eC_t (show cond (zLe p.1 a) (zLe b p.2) false = true from hs3)
          have k1 := zLe_iff.mp k1
          have k2 := zLe_iff.mp k2
          exact ⟨x, by omega, by omega, x2, x3, rfl⟩
        | .inr z, hs3 => cases hs3
      · cases h
  · rcases sCh h with ⟨h3, h⟩ | ⟨-, h⟩
    · have e := sAllL_ok h q hq
      rw [hqt] at e
      subst e
      exact hv'.2.2.1 (Nat.eq_of_beq_eq_true h3)
    · rcases sCh h with ⟨h3, h⟩ | ⟨-, h⟩
      · have e := sAllL_ok h q hq
        rw [hqt] at e
        subst e
        obtain ⟨x, -, -, -, rfl⟩ := vOk_L hv' h3
        exact ⟨cL_tg x, cL_67 x⟩
      · obtain ⟨h3, h⟩ := eC_t h
        obtain ⟨c, c1, c2, c3, rfl⟩ := vOk_R hv' h3
        obtain ⟨l, l1, l2⟩ := sTakR_ok h q hq
        rw [hqt] at l1
        subst l1
        exact ⟨c, c2, by rw [c3]; exact l2, rfl⟩
/-- a cell's slot is written -/
noncomputable def hSt (hp : Lean.RArray Nat) (c i w : Nat) : Lean.RArray Nat := eSetA hp c (eSd (Lean.RArray.get hp c) (eBl (eDa (Lean.RArray.get hp c)) i 1 w))
theorem hSt_get (hO : hOk hp) {c i w : Nat} (hc : c < tNC) {c' : Nat} (hc' : c' < tNC) : Lean.RArray.get (hSt hp c i w) c' = if c' = c then eSd (Lean.RArray.get hp c) (eBl (eDa (Lean.RArray.get hp c)) i 1 w) else Lean.RArray.get hp c' := by
  have b := tNC_le
  exact (eGet_set hp c _ 0 1024 hO.1).2 (Nat.zero_le _) (by omega) c' (Nat.zero_le _) (by omega)
theorem hSt_hv (hO : hOk hp) {c i w : Nat} (hc : c < tNC) (hw : w < 2 ^ 72) {c' : Nat} (hc' : c' < tNC) (j : Nat) : hv (hSt hp c i w) c' j = if c' = c ∧ j = i then w else hv hp c' j := by
  unfold hv
  rw [hSt_get hO hc hc']
  by_cases e : c' = c
  · subst e
    rw [if_pos rfl, (eSd_ki _ _).2.2, eSl_set hw]
    by_cases e2 : j = i
    · rw [if_pos e2, if_pos ⟨rfl, e2⟩]
    · rw [if_neg e2, if_neg (fun z => e2 z.2)]
  · rw [if_neg e, if_neg (fun z => e z.1)]
theorem hSt_ok (hO : hOk hp) {c i w : Nat} (hc : c < tNC) (hw : w < 2 ^ 72) (ht : ∀ t, sSgAt (tSg (tRO c)) i = some t → tyOk t w) : hOk (hSt hp c i w) := by
  refine ⟨(eGet_set hp c _ 0 1024 hO.1).1, fun c' hc' => ?_⟩
  obtain ⟨a1, a2, a3⟩ := hO.2 c' hc'
  have e := hSt_get hO (i := i) (w := w) hc hc'
  refine ⟨?_, ?_, fun j t hj => ?_⟩
  · rw [e]
    by_cases e2 : c' = c
    · subst e2
      rw [if_pos rfl, (eSd_ki _ _).1]; exact a1
    · rw [if_neg e2]; exact a1
  · rw [e]
    by_cases e2 : c' = c
    · subst e2
      rw [if_pos rfl, (eSd_ki _ _).2.1]; exact a2
    · rw [if_neg e2]; exact a2
  · rw [hSt_hv hO hc hw hc']
    by_cases e2 : c' = c ∧ j = i
    · rw [if_pos e2]
      obtain ⟨e3, e4⟩ := e2
      subst e3 e4
      exact ht t hj
    · rw [if_neg e2]
      exact a3 j t hj
noncomputable def sMdI (md : sMd) (ro lo hi : Nat) : Bool := @List.rec (Nat × Nat × Nat) (fun _ => Bool) false (fun q _ ih => cond (cond (Nat.beq q.1 ro) (cond (Nat.ble q.2.1 lo) (Nat.ble hi q.2.2) false) false) true ih) md
theorem sMdI_ok {ro lo hi : Nat} : ∀ {md : sMd}, sMdI md ro lo hi = true → ∃ q ∈ md, q.1 = ro ∧ q.2.1 ≤ lo ∧ hi ≤ q.2.2 := by
  intro md
  induction md with
  | nil => intro h; cases h
  | cons w md ih =>
    intro h
    rcases sCh (show cond (cond (Nat.beq w.1 ro) (cond (Nat.ble w.2.1 lo) (Nat.ble hi w.2.2) false) false) true (sMdI md ro lo hi) = true from h) with ⟨h1, -⟩ | ⟨-, h1⟩
    · obtain ⟨a, b⟩ := eC_t h1
      obtain ⟨b, c⟩ := eC_t b
      exact ⟨w, List.mem_cons_self, Nat.eq_of_beq_eq_true a, Nat.le_of_ble_eq_true b, Nat.le_of_ble_eq_true c⟩
    · obtain ⟨q, a, b⟩ := ih h1
      exact ⟨q, List.mem_cons_of_mem _ a, b⟩
noncomputable def aWr (md : sMd) (N : sNm) (hs : sHs) (ro : Nat) (ce ix : sLn) (v : sVl) (k : sHs → Bool) : Bool :=
  zF (sLo N ix) (fun lo => zF (sHi N ix) (fun hi => cond (zPs lo) (cond (zLe (Int.add hi (Int.ofNat 1)) (Int.ofNat (tLe ro))) (cond (sMdI md ro (Int.toNat lo) (Int.toNat hi)) (cond (sFits N (sOv (tSg ro) (Int.toNat lo) (Int.toNat hi)) ix v)
    (sKl N ro ce ix hs.1 (fun rf => sKf N ro lo hi ix hs.2 (fun fc => k (((ro, ce), ix, v) :: rf, fc)))) false) false) false) false))
theorem aWr_ok (hFS : fsOk FS) (hN : sNOk tSg r N) (hO : hOk hp) (hH : hsOk FS r hp hs) {md : sMd} {ro c : Nat} {ce ix : sLn} {x : Int} (hc : c < tNC) (hro : tRO c = ro) (hce : sE r ce = some (c : Int)) (hix : sE r ix = some x) {v : sVl} {w : Nat} (hv' : vOk r v w) (hw : w < 2 ^ 72) {k : sHs → Bool} (h : aWr md N hs ro ce ix v k = true) :
    ∃ i : Nat, x = (i : Int) ∧ i < tLe ro ∧ hOk (hSt hp c i w) ∧ hFr md hp (hSt hp c i w) ∧ ∃ hs', hsOk FS r (hSt hp c i w) hs' ∧ k hs' = true := by
  unfold aWr at h
  rw [zF_eq, zF_eq] at h
  obtain ⟨h1, h⟩ := eC_t h
  obtain ⟨h2, h⟩ := eC_t h
  obtain ⟨h3, h⟩ := eC_t h
  obtain ⟨h4, h⟩ := eC_t h
  have h1 := zPs_iff.mp h1
  have h2 : sHi N ix + 1 ≤ (tLe ro : Int) := zLe_iff.mp h2
  have b1 := sLo_ok hN hix
  have b2 := sHi_ok hN hix
  obtain ⟨i, rfl⟩ := Int.eq_ofNat_of_zero_le (a := x) (by omega)
  have hO' : hOk (hSt hp c i w) := hSt_ok hO hc hw (fun t ht => sFits_ok hN hix (lo := Int.toNat (sLo N ix)) (hi := Int.toNat (sHi N ix)) (by omega) (by omega) hv' h4 (by rw [← hro]; exact ht))
  refine ⟨i, rfl, by omega, hO', fun c' j hc' hj => ?_, ?_⟩
  · rw [hSt_hv hO hc hw hc']
    by_cases e : c' = c ∧ j = i
    · exfalso
      obtain ⟨e1, e2⟩ := e
      subst e1 e2
      obtain ⟨q, q1, q2, q3, q4⟩ := sMdI_ok h3
      exact hj q q1 ⟨by rw [hro, q2], by omega, by omega⟩
    · rw [if_neg e]
  · obtain ⟨rf, h5, h6⟩ := sKl_ok h
    obtain ⟨fc, h7, h8⟩ := sKf_ok h5
    refine ⟨_, ⟨fun q hq => ?_, fun q hq => ?_⟩, h7⟩
    · rcases List.mem_cons.mp hq with rfl | hq
      · refine ⟨c, i, hce, hc, hro, hix, by show i < tLe ro; omega, ?_⟩
        rw [hSt_hv hO hc hw hc, if_pos ⟨rfl, rfl⟩]
        exact hv'
      · obtain ⟨q1, q2⟩ := h6 q hq
        obtain ⟨c', i', a1, a2, a3, a4, a5, a6⟩ := hH.1 q q1
        refine ⟨c', i', a1, a2, a3, a4, a5, ?_⟩
        rw [hSt_hv hO hc hw a2, if_neg]
        · exact a6
        · rintro ⟨e1, e2⟩
          subst e1 e2
          rcases q2 with q2 | q2 | q2
          · exact eB_f q2 (a3.symm.trans hro)
          · exact sApart_ok hN a1 hce q2 rfl
          · exact sApart_ok hN a4 hix q2 rfl
    · obtain ⟨q1, q2⟩ := h8 q hq
      obtain ⟨xs, x1, x2⟩ := hH.2 q q1
      refine ⟨xs, x1, hFS q.1 xs hp _ hO hO' (fun c' j hc' hj => ?_) x2⟩
      rw [hSt_hv hO hc hw hc', if_neg]
      rintro ⟨e1, e2⟩
      subst e1 e2
      exact fSafe_ok hN x1 hix hix q2 hro b1 b2 (Int.le_refl _) (Int.le_refl _) hj
end CkHeap3
