section CkFact2
variable {hp hp' : Lean.RArray Nat} {f : Nat} {n t : Int} {xs : List Int}
theorem fv1 (h : ∀ c j, c < tNC → fpIn f (n :: xs) c j → hv hp' c j = hv hp c j) {ro lo hi k : Nat} (hq : (ro, lo, hi, k) ∈ tFP f) {c j : Nat} (hc : c < tNC) (hr : tRO c = ro) (h1 : lo ≤ j) (h2 : j < hi) (h3 : (j : Int) < (lo : Int) + (k : Int) * n) (hk : k < 1000 := by decide) : hv hp' c j = hv hp c j :=
  h c j hc (fp1 _ hq hr h1 h2 (fun _ x hx => by cases hx; exact ⟨fun _ => h3, fun w => absurd w (by show ¬ 1000 ≤ k; omega)⟩))
theorem fvS (h : ∀ c j, c < tNC → fpIn f (n :: xs) c j → hv hp' c j = hv hp c j) {ro lo hi : Nat} (hq : (ro, lo, hi, 1001) ∈ tFP f) {c j : Nat} (hc : c < tNC) (hr : tRO c = ro) (h1 : lo ≤ j) (h2 : j < hi) (h3 : (lo : Int) + n ≤ (j : Int)) : hv hp' c j = hv hp c j :=
  h c j hc (fp1 _ hq hr h1 h2 (fun _ x hx => by cases hx; exact ⟨fun w => absurd w (by show ¬ 1001 < 1000; decide), fun _ => by show (lo : Int) + ((1001 - 1000 : Nat) : Int) * n ≤ (j : Int); omega⟩))
theorem fr1 (h : ∀ c j, c < tNC → fpIn f (n :: xs) c j → hv hp' c j = hv hp c j) {ro lo hi k : Nat} (hq : (ro, lo, hi, k) ∈ tFP f) {c j : Nat} (hc : c < tNC) (hr : tRO c = ro) (h1 : lo ≤ j) (h2 : j < hi) (h3 : (j : Int) < (lo : Int) + (k : Int) * n) (hk : k < 1000 := by decide) : hI hp' c j = hI hp c j :=
  hI_of (fv1 h hq hc hr h1 h2 h3 hk)
theorem fv0 (h : ∀ c j, c < tNC → fpIn f xs c j → hv hp' c j = hv hp c j) {ro lo hi : Nat} (hq : (ro, lo, hi, 0) ∈ tFP f) {c j : Nat} (hc : c < tNC) (hr : tRO c = ro) (h1 : lo ≤ j) (h2 : j < hi) : hv hp' c j = hv hp c j :=
  h c j hc (fp1 _ hq hr h1 h2 (fun q => absurd rfl q))
theorem fr0 (h : ∀ c j, c < tNC → fpIn f xs c j → hv hp' c j = hv hp c j) {ro lo hi : Nat} (hq : (ro, lo, hi, 0) ∈ tFP f) {c j : Nat} (hc : c < tNC) (hr : tRO c = ro) (h1 : lo ≤ j) (h2 : j < hi) : hI hp' c j = hI hp c j :=
  hI_of (fv0 h hq hc hr h1 h2)
theorem fr_spot (h : ∀ c j, c < tNC → fpIn 0 [n] c j → hv hp' c j = hv hp c j) (hF : fSpot n hp) : fSpot n hp' := by
  intro j hj hn
  rw [fr1 h (.head _) (c := 187) (by decide) rfl (by omega) hj (by omega), fr1 h (.tail _ (.head _)) (c := 189) (by decide) rfl (by omega) hj (by omega)]
  exact hF j hj hn
theorem fr_sen {a b ra rb : Nat} (h : ∀ c j, c < tNC → fpIn f [n] c j → hv hp' c j = hv hp c j) (ha : (ra, 0, 40, 1) ∈ tFP f) (hb : (rb, 0, 40, 1) ∈ tFP f) (a1 : a < tNC) (a2 : tRO a = ra) (b1 : b < tNC) (b2 : tRO b = rb) (hF : fSen a b n hp) : fSen a b n hp' := by
  intro j hj hn
  rw [fr1 h ha a1 a2 (by omega) hj (by omega), fr1 h hb b1 b2 (by omega) hj (by omega)]
  exact hF j hj hn
theorem fr_roll (h : ∀ c j, c < tNC → fpIn 5 [n] c j → hv hp' c j = hv hp c j) (hF : fRoll n hp) : fRoll n hp' := by
  intro j hj hn
  rw [fr1 h (.head _) (c := 178) (by decide) rfl (by omega) hj (by omega), fr1 h (.tail _ (.head _)) (c := 179) (by decide) rfl (by omega) hj (by omega), fr1 h (.tail _ (.tail _ (.head _))) (c := 180) (by decide) rfl (by omega) hj (by omega), fr1 h (.tail _ (.tail _ (.tail _ (.head _)))) (c := 181) (by decide) rfl (by omega) hj (by omega)]
  exact hF j hj hn
theorem fr_rollm (h : ∀ c j, c < tNC → fpIn 11 [n] c j → hv hp' c j = hv hp c j) (hF : fRollm n hp) : fRollm n hp' := by
  intro j hj hn
  rw [fr1 h (.head _) (c := 277) (j := 4 * j) (by decide) rfl (by omega) (by omega) (by omega), fr1 h (.head _) (c := 277) (j := 4 * j + 1) (by decide) rfl (by omega) (by omega) (by omega), fr1 h (.head _) (c := 277) (j := 4 * j + 2) (by decide) rfl (by omega) (by omega) (by omega), fr1 h (.head _) (c := 277) (j := 4 * j + 3) (by decide) rfl (by omega) (by omega) (by omega)]
  exact hF j hj hn
theorem fr_ch {c ro : Nat} (h : ∀ c j, c < tNC → fpIn f [n] c j → hv hp' c j = hv hp c j) (ha : (ro, 250, 258, 1) ∈ tFP f) (a1 : c < tNC) (a2 : tRO c = ro) (hF : fCh c 250 n hp) : fCh c 250 n hp' := by
  intro j hj hn
  rw [fr1 h ha a1 a2 (by omega) (by omega) (by omega)]
  exact hF j hj hn
theorem fr_eqs {c b c' b' len ra ha rb hb : Nat} (h : ∀ c j, c < tNC → fpIn f [n] c j → hv hp' c j = hv hp c j) (qa : (ra, b, ha, 1) ∈ tFP f) (qb : (rb, b', hb, 1) ∈ tFP f) (a1 : c < tNC) (a2 : tRO c = ra) (b1 : c' < tNC) (b2 : tRO c' = rb) (l1 : b + len ≤ ha) (l2 : b' + len ≤ hb) (hF : fEq c b c' b' len n hp) : fEq c b c' b' len n hp' := by
  intro j hj hn
  rw [fr1 h qa a1 a2 (by omega) (by omega) (by omega), fr1 h qb b1 b2 (by omega) (by omega) (by omega)]
  exact hF j hj hn
theorem sumC_of : ∀ {k : Nat}, (∀ j, j < k → hI hp' 275 (250 + j) = hI hp 275 (250 + j)) → sumC hp' k = sumC hp k := by
  intro k
  induction k with
  | zero => intro _; rfl
  | succ k ih =>
    intro h
    show sumC hp' k + hI hp' 275 (250 + k) = sumC hp k + hI hp 275 (250 + k)
    rw [ih (fun j hj => h j (by omega)), h k (by omega)]
theorem fr_psum (h : ∀ c j, c < tNC → fpIn 9 [n, t] c j → hv hp' c j = hv hp c j) (hF : fPsum n t hp) : fPsum n t hp' := by
  obtain ⟨k, k1, k3⟩ := hF
  refine ⟨k, k1, fun k2 => ?_⟩
  rw [sumC_of (fun j hj => fr1 h (.head _) (c := 275) (by decide) rfl (by omega) (by omega) (by omega)), k3 k2]
theorem fr_sum (h : ∀ c j, c < tNC → fpIn 10 [n, t] c j → hv hp' c j = hv hp c j) (hF : fSum n t hp) : fSum n t hp' := by
  obtain ⟨k, z, k1, k2, k3, k4, k5⟩ := hF
  have hs : ∀ j, j < 8 → hI hp' 275 (250 + j) = hI hp 275 (250 + j) := fun j hj => fr0 h (.head _) (c := 275) (by decide) rfl (by omega) (by omega)
  refine ⟨k, z, k1, ?_, k3, k4, ?_⟩
  · rw [fr0 h (.tail _ (.head _)) (c := 275) (j := 6) (by decide) rfl (by omega) (by omega)]; exact k2
  · rw [sumC_of (fun j hj => hs j (by omega)), sumC_of (fun j hj => hs j (by omega))]; exact k5
theorem fr_pfs {c b : Nat} (h : ∀ j, b ≤ j → j < b + 181 → hI hp' c j = hI hp c j) (hF : fPfs c b hp) : fPfs c b hp' := by
  obtain ⟨k, k1, k2, v, k3⟩ := hF
  exact ⟨k, by rw [h b (by omega) (by omega)]; exact k1, k2, v, cdF_of (fun j hj => h _ (by omega) (by omega)) k3⟩
theorem fr_dep (h : ∀ c j, c < tNC → fpIn 13 [n, t] c j → hv hp' c j = hv hp c j) (hF : fDep n t hp) : fDep n t hp' := by
  have hs : ∀ j, 690 ≤ j → j < 690 + 181 → hI hp' 275 j = hI hp 275 j := fun j h1 h2 => fr0 h (.head _) (by decide) rfl h1 h2
  obtain ⟨h1, k, k1, k2, k3⟩ := hF
  exact ⟨fr_pfs hs h1, k, k1, k2, cdF_of (fun j hj => hs _ (by omega) (by omega)) k3⟩
theorem fr_code (h : ∀ c j, c < tNC → fpIn 14 [n, t] c j → hv hp' c j = hv hp c j) (hF : fCode n t hp) : fCode n t hp' := by
  obtain ⟨k, k1, k2, k3⟩ := hF
  exact ⟨k, k1, k2, cdF_of (fun j hj => fr1 h (.head _) (by decide) rfl (by omega) (by omega) (by omega)) k3⟩
theorem fr_stk (h : ∀ c j, c < tNC → fpIn 15 [n, t] c j → hv hp' c j = hv hp c j) (hF : fStk n t hp) : fStk n t hp' := by
  obtain ⟨k, k1, k2, k3⟩ := hF
  exact ⟨k, k1, k2, skF_of (fun j hj => fr1 h (.head _) (by decide) rfl (by omega) (by omega) (by omega)) k3⟩
theorem fr_nj (h : ∀ c j, c < tNC → fpIn 23 [n] c j → hv hp' c j = hv hp c j) (hF : fNj n hp) : fNj n hp' := by
  obtain ⟨k, k1, k2, k3⟩ := hF
  refine ⟨k, k1, k2, fun j hj => ?_⟩
  rw [fr1 h (.head _) (c := 287) (j := j) (by decide) rfl (by omega) (by omega) (by omega)]
  exact k3 j hj
theorem fr_kept {o k : Nat} (h1 : ∀ j, o ≤ j → j < o + 871 → hI hp' 289 j = hI hp 289 j) (h2 : hI hp' 291 k = hI hp 291 k) (hF : fKept o k hp) : fKept o k hp' := by
  intro hk
  rw [h2] at hk
  obtain ⟨a1, a2, a3, a4⟩ := hF hk
  refine ⟨?_, ?_, ?_, ?_⟩
  · rw [h1 o (by omega) (by omega)]; exact a1
  · rw [h1 (o + 1) (by omega) (by omega)]; exact a2
  · rw [h1 (o + 6) (by omega) (by omega)]
    intro j hj hn
    rw [h1 _ (by omega) (by omega)]
    exact a3 j hj hn
  · exact fr_pfs (fun j q1 q2 => h1 j (by omega) (by omega)) a4
theorem fr_eqa {d s rd rs : Nat} (h : ∀ c j, c < tNC → fpIn f xs c j → hv hp' c j = hv hp c j) (ha : (rd, 0, 40, 0) ∈ tFP f) (hb : (rs, 0, 40, 0) ∈ tFP f) (a1 : d < tNC) (a2 : tRO d = rd) (b1 : s < tNC) (b2 : tRO s = rs) (hF : fEqa d s hp) : fEqa d s hp' := by
  intro j hj
  rw [fv0 h ha a1 a2 (by omega) hj, fv0 h hb b1 b2 (by omega) hj]
  exact hF j hj
/-- the tapes stay -/
theorem fXB (h : ∀ c j, c < tNC → fpIn f xs c j → hv hp' c j = hv hp c j) (m1 : (1, 0, 940, 0) ∈ tFP f) : XB hp' = XB hp := by
  funext i
  unfold XB
  by_cases r : 0 ≤ i ∧ i < 940
  · rw [if_pos r, if_pos r]
    exact fr0 h m1 (by decide) rfl (by omega) (by omega)
  · rw [if_neg r, if_neg r]
theorem fXa (h : ∀ c j, c < tNC → fpIn f xs c j → hv hp' c j = hv hp c j) (m1 : (1, 0, 940, 0) ∈ tFP f) (m2 : (40, 2, 3, 0) ∈ tFP f) : (XT hp').1 = (XT hp).1 ∧ (XT hp').2.1 = (XT hp).2.1 := by
  have e : hI hp' 173 2 = hI hp 173 2 := fr0 h m2 (by decide) rfl (by decide) (by decide)
  refine ⟨?_, e⟩
  funext i
  show (if 0 ≤ i ∧ i < hI hp' 173 2 then XB hp' i else 0) = (if 0 ≤ i ∧ i < hI hp 173 2 then XB hp i else 0)
  rw [e, fXB h m1]
theorem fX3 (h : ∀ c j, c < tNC → fpIn f xs c j → hv hp' c j = hv hp c j) (m1 : (1, 0, 940, 0) ∈ tFP f) (m2 : (40, 2, 3, 0) ∈ tFP f) (m3 : (40, 3, 4, 0) ∈ tFP f) : XT hp' = XT hp := by
  obtain ⟨e1, e2⟩ := fXa h m1 m2
  have e : hI hp' 173 3 = hI hp 173 3 := fr0 h m3 (by decide) rfl (by decide) (by decide)
  exact Prod.ext e1 (Prod.ext e2 e)
theorem fM3 (h : ∀ c j, c < tNC → fpIn f xs c j → hv hp' c j = hv hp c j) (m1 : (79, 0, 940, 0) ∈ tFP f) (m2 : (78, 3, 4, 0) ∈ tFP f) (m3 : (78, 5, 6, 0) ∈ tFP f) : MT hp' = MT hp ∧ MB hp' = MB hp := by
  have e : hI hp' 273 3 = hI hp 273 3 := fr0 h m2 (by decide) rfl (by decide) (by decide)
  have e' : hI hp' 273 5 = hI hp 273 5 := fr0 h m3 (by decide) rfl (by decide) (by decide)
  have e2 : MB hp' = MB hp := by
    funext i
    unfold MB
    by_cases r : 0 ≤ i ∧ i < 940
    · rw [if_pos r, if_pos r, fr0 h m1 (by decide) rfl (by omega) (by omega)]
    · rw [if_neg r, if_neg r]
  refine ⟨Prod.ext ?_ (Prod.ext e e'), e2⟩
  funext i
  show (if 0 ≤ i ∧ i < hI hp' 273 3 then MB hp' i else 0) = (if 0 ≤ i ∧ i < hI hp 273 3 then MB hp i else 0)
  rw [e, e2]
/-- what the reader's slots name -/
theorem rC_ok (hO : hOk hp) {k r1 : Nat} (t1 : sSgAt (tSg (tRO 176)) k = some (.inr (.inr [r1]))) : hC hp 176 k < tNC ∧ tRO (hC hp 176 k) = r1 ∧ hv hp 176 k = cR (hC hp 176 k) := by
  obtain ⟨c, c1, c2, c3⟩ := (hO.2 176 (by decide)).2.2 k _ t1
  rw [hC_eq c3]
  exact ⟨c1, List.mem_singleton.1 c2, c3⟩
theorem rr_ok (hO : hOk hp) {k j r1 r2 : Nat} (t1 : sSgAt (tSg (tRO 176)) k = some (.inr (.inr [r1]))) (t2 : sSgAt (tSg r1) j = some (.inr (.inr [r2]))) : rr hp k j < tNC ∧ tRO (rr hp k j) = r2 ∧ hv hp (hC hp 176 k) j = cR (rr hp k j) := by
  obtain ⟨a1, a2, a3⟩ := rC_ok hO t1
  obtain ⟨c, c1, c2, c3⟩ := (hO.2 (hC hp 176 k) a1).2.2 j _ (by rw [a2]; exact t2)
  have e : rr hp k j = c := hC_eq c3
  rw [e]
  exact ⟨c1, List.mem_singleton.1 c2, c3⟩
theorem rC_fr (hO : hOk hp) (h : ∀ c j, c < tNC → fpIn f xs c j → hv hp' c j = hv hp c j) {k k' : Nat} (m1 : (43, k, k', 0) ∈ tFP f) (hk : k < k') : hC hp' 176 k = hC hp 176 k := hC_of (fv0 h m1 (by decide) rfl (Nat.le_refl k) hk)
theorem rr_fr (hO : hOk hp) (h : ∀ c j, c < tNC → fpIn f xs c j → hv hp' c j = hv hp c j) {k k' j j' r1 r2 : Nat} (m1 : (43, k, k', 0) ∈ tFP f) (hk : k < k') (m2 : (r1, j, j', 0) ∈ tFP f) (hj : j < j') (t1 : sSgAt (tSg (tRO 176)) k = some (.inr (.inr [r1]))) (t2 : sSgAt (tSg r1) j = some (.inr (.inr [r2]))) : rr hp' k j = rr hp k j ∧ rr hp k j < tNC ∧ tRO (rr hp k j) = r2 := by
  obtain ⟨a1, a2, a3⟩ := rC_ok hO t1
  obtain ⟨b1, b2, -⟩ := rr_ok hO t1 t2
  refine ⟨?_, b1, b2⟩
  unfold rr
  rw [rC_fr hO h m1 hk]
  exact hC_of (fv0 h m2 a1 a2 (Nat.le_refl j) hj)
theorem cP_ok (hO : hOk hp) {c0 k : Nat} (hc0 : c0 < tNC) (t1 : sSgAt (tSg (tRO c0)) k = some (.inr (.inr [2, 98]))) : hC hp c0 k < tNC ∧ (tRO (hC hp c0 k) = 2 ∨ tRO (hC hp c0 k) = 98) := by
  obtain ⟨c, c1, c2, c3⟩ := (hO.2 c0 hc0).2.2 k _ t1
  rw [hC_eq c3]
  refine ⟨c1, ?_⟩
  rcases List.mem_cons.1 c2 with h | h
  · exact Or.inl h
  · exact Or.inr (List.mem_singleton.1 h)
theorem pp_ok (hO : hOk hp) {c0 k j r2 r3 : Nat} (hc0 : c0 < tNC) (t1 : sSgAt (tSg (tRO c0)) k = some (.inr (.inr [2, 98]))) (t2 : sSgAt (tSg 2) j = some (.inr (.inr [r2]))) (t3 : sSgAt (tSg 98) j = some (.inr (.inr [r3]))) : hC hp (hC hp c0 k) j < tNC ∧ (tRO (hC hp (hC hp c0 k) j) = r2 ∨ tRO (hC hp (hC hp c0 k) j) = r3) := by
  obtain ⟨a1, a2⟩ := cP_ok hO hc0 t1
  rcases a2 with a2 | a2
  · obtain ⟨c, c1, c2, c3⟩ := (hO.2 (hC hp c0 k) a1).2.2 j _ (by rw [a2]; exact t2)
    rw [hC_eq c3]
    exact ⟨c1, Or.inl (List.mem_singleton.1 c2)⟩
  · obtain ⟨c, c1, c2, c3⟩ := (hO.2 (hC hp c0 k) a1).2.2 j _ (by rw [a2]; exact t3)
    rw [hC_eq c3]
    exact ⟨c1, Or.inr (List.mem_singleton.1 c2)⟩
theorem pp_fr (hO : hOk hp) (h : ∀ c j, c < tNC → fpIn f xs c j → hv hp' c j = hv hp c j) {c0 r0 k j r2 r3 : Nat} (hc0 : c0 < tNC) (hr0 : tRO c0 = r0) (m1 : (r0, k, k + 1, 0) ∈ tFP f) (m2 : (2, j, j + 1, 0) ∈ tFP f) (m3 : (98, j, j + 1, 0) ∈ tFP f) (t1 : sSgAt (tSg (tRO c0)) k = some (.inr (.inr [2, 98]))) (t2 : sSgAt (tSg 2) j = some (.inr (.inr [r2]))) (t3 : sSgAt (tSg 98) j = some (.inr (.inr [r3]))) : hC hp' (hC hp' c0 k) j = hC hp (hC hp c0 k) j ∧ hC hp (hC hp c0 k) j < tNC ∧ (tRO (hC hp (hC hp c0 k) j) = r2 ∨ tRO (hC hp (hC hp c0 k) j) = r3) := by
  obtain ⟨a1, a2⟩ := cP_ok hO hc0 t1
  refine ⟨?_, pp_ok hO hc0 t1 t2 t3⟩
  rw [hC_of (fv0 h m1 hc0 hr0 (Nat.le_refl k) (Nat.lt_succ_self k))]
  rcases a2 with a2 | a2
  · exact hC_of (fv0 h m2 a1 a2 (Nat.le_refl j) (Nat.lt_succ_self j))
  · exact hC_of (fv0 h m3 a1 a2 (Nat.le_refl j) (Nat.lt_succ_self j))
theorem rrP_fr (hO : hOk hp) (h : ∀ c j, c < tNC → fpIn f xs c j → hv hp' c j = hv hp c j) {j r2 r3 : Nat} (m1 : (43, 1, 2, 0) ∈ tFP f) (m2 : (2, j, j + 1, 0) ∈ tFP f) (m3 : (98, j, j + 1, 0) ∈ tFP f) (t2 : sSgAt (tSg 2) j = some (.inr (.inr [r2]))) (t3 : sSgAt (tSg 98) j = some (.inr (.inr [r3]))) : rr hp' 1 j = rr hp 1 j ∧ rr hp 1 j < tNC ∧ (tRO (rr hp 1 j) = r2 ∨ tRO (rr hp 1 j) = r3) :=
  pp_fr hO h (c0 := 176) (by decide) rfl m1 m2 m3 rfl t2 t3
theorem xn_fr (hO : hOk hp) (h : ∀ c j, c < tNC → fpIn f xs c j → hv hp' c j = hv hp c j) (m1 : (0, 6, 7, 0) ∈ tFP f) (m2 : (2, 7, 8, 0) ∈ tFP f) (m3 : (98, 7, 8, 0) ∈ tFP f) : xnm hp' = xnm hp ∧ xnm hp < tNC ∧ (tRO (xnm hp) = 3 ∨ tRO (xnm hp) = 99) :=
  pp_fr hO h (c0 := 0) (by decide) rfl m1 m2 m3 rfl rfl rfl
theorem fvD0 (h : ∀ c j, c < tNC → fpIn f xs c j → hv hp' c j = hv hp c j) {r2 r3 lo hi : Nat} (hq : (r2, lo, hi, 0) ∈ tFP f) (hq' : (r3, lo, hi, 0) ∈ tFP f) {c j : Nat} (hc : c < tNC) (hr : tRO c = r2 ∨ tRO c = r3) (h1 : lo ≤ j) (h2 : j < hi) : hv hp' c j = hv hp c j :=
  hr.elim (fun e => fv0 h hq hc e h1 h2) (fun e => fv0 h hq' hc e h1 h2)
theorem fvD1 (h : ∀ c j, c < tNC → fpIn f (n :: xs) c j → hv hp' c j = hv hp c j) {r2 r3 lo hi k : Nat} (hq : (r2, lo, hi, k) ∈ tFP f) (hq' : (r3, lo, hi, k) ∈ tFP f) {c j : Nat} (hc : c < tNC) (hr : tRO c = r2 ∨ tRO c = r3) (h1 : lo ≤ j) (h2 : j < hi) (h3 : (j : Int) < (lo : Int) + (k : Int) * n) (hk : k < 1000 := by decide) : hv hp' c j = hv hp c j :=
  hr.elim (fun e => fv1 h hq hc e h1 h2 h3 hk) (fun e => fv1 h hq' hc e h1 h2 h3 hk)
theorem fvDS (h : ∀ c j, c < tNC → fpIn f (n :: xs) c j → hv hp' c j = hv hp c j) {r2 r3 lo hi : Nat} (hq : (r2, lo, hi, 1001) ∈ tFP f) (hq' : (r3, lo, hi, 1001) ∈ tFP f) {c j : Nat} (hc : c < tNC) (hr : tRO c = r2 ∨ tRO c = r3) (h1 : lo ≤ j) (h2 : j < hi) (h3 : (lo : Int) + n ≤ (j : Int)) : hv hp' c j = hv hp c j :=
  hr.elim (fun e => fvS h hq hc e h1 h2 h3) (fun e => fvS h hq' hc e h1 h2 h3)
theorem scW_cg {X X' : Nat → Int} {w i : Int} (he : ∀ j : Nat, j < 12 → X j = X' j) (h : scW X w i) : scW X' w i := by
  rcases h with ⟨e, h⟩ | ⟨j, j1, j2, j3, j4⟩
  · exact Or.inl ⟨e, fun j hj => by rw [← he j hj]; exact h j hj⟩
  · exact Or.inr ⟨j, j1, j2, by rw [← he j j1]; exact j3, fun j' hj' => by rw [← he j' (by omega)]; exact j4 j' hj'⟩
theorem nmX_cg {X X' : Nat → Int} (he : ∀ j : Nat, j < 12 → X j = X' j) : nmX X = nmX X' := by
  funext c L
  apply propext
  constructor
  · rintro ⟨i, h1, h2⟩
    exact ⟨i, h1, scW_cg he h2⟩
  · rintro ⟨i, h1, h2⟩
    exact ⟨i, h1, scW_cg (fun j hj => (he j hj).symm) h2⟩
theorem nmG_h {S S' X X' : Nat → Int} (hs : ∀ i : Nat, 2 ≤ i → i < 5 → S i = S' i) (he : ∀ j : Nat, j < 12 → X j = X' j) {c : Int} {L : List Int} (h : nmG S X c L) : nmG S' X' c L := by
  obtain ⟨b, n, r, hb, j, j1, j2, j3⟩ := h
  exact ⟨b, n, r, hb, j, j1, by rw [← hs r (by omega) (by omega)]; exact j2, by rw [← he (b + j) (by omega)]; exact j3⟩
theorem nmG_cg {S S' X X' : Nat → Int} (hs : ∀ i : Nat, 2 ≤ i → i < 5 → S i = S' i) (he : ∀ j : Nat, j < 12 → X j = X' j) : nmG S X = nmG S' X' := by
  funext c L
  apply propext
  exact ⟨nmG_h hs he, nmG_h (fun i h1 h2 => (hs i h1 h2).symm) (fun j hj => (he j hj).symm)⟩
theorem sFo_cg {S S' : Nat → Int} : ∀ {n : Nat} {t : Int}, (∀ j : Nat, j < n → S j = S' j) → sFo S n t → sFo S' n t := by
  intro n
  induction n with
  | zero => intro t _ h; exact h
  | succ n ih =>
    intro t he h
    have e := he n (Nat.lt_succ_self n)
    have h : (S n = 20 ∧ ∃ u, sFo S n u ∧ t = 3 * u + 1) ∨ (S n = 23 ∧ ∃ u, sFo S n u ∧ t = 3 * u + 2) ∨ ((S n = 21 ∨ S n = 22) ∧ sFo S n t ∧ t % 3 ≠ 1) := h
    show (S' n = 20 ∧ ∃ u, sFo S' n u ∧ t = 3 * u + 1) ∨ (S' n = 23 ∧ ∃ u, sFo S' n u ∧ t = 3 * u + 2) ∨ ((S' n = 21 ∨ S' n = 22) ∧ sFo S' n t ∧ t % 3 ≠ 1)
    rw [← e]
    have k : ∀ u, sFo S n u → sFo S' n u := fun u hu => ih (fun j hj => he j (by omega)) hu
    rcases h with ⟨h1, u, h2, h3⟩ | ⟨h1, u, h2, h3⟩ | ⟨h1, h2, h3⟩
    · exact Or.inl ⟨h1, u, k u h2, h3⟩
    · exact Or.inr (Or.inl ⟨h1, u, k u h2, h3⟩)
    · exact Or.inr (Or.inr ⟨h1, k t h2, h3⟩)
theorem xnj_fr (hO : hOk hp) (h : ∀ c j, c < tNC → fpIn f xs c j → hv hp' c j = hv hp c j) (m1 : (0, 6, 7, 0) ∈ tFP f) (m2 : (2, 7, 8, 0) ∈ tFP f) (m3 : (98, 7, 8, 0) ∈ tFP f) (m4 : (3, 0, 12, 0) ∈ tFP f) (m5 : (99, 0, 12, 0) ∈ tFP f) (j : Nat) (hj : j < 12) : hL hp' (xnm hp') j = hL hp (xnm hp) j := by
  obtain ⟨e, a, q⟩ := xn_fr hO h m1 m2 m3
  rw [e]
  exact hL_of (fvD0 h m4 m5 a q (Nat.zero_le j) hj)
theorem nmx_fr (hO : hOk hp) (h : ∀ c j, c < tNC → fpIn f xs c j → hv hp' c j = hv hp c j) (m1 : (0, 6, 7, 0) ∈ tFP f) (m2 : (2, 7, 8, 0) ∈ tFP f) (m3 : (98, 7, 8, 0) ∈ tFP f) (m4 : (3, 0, 12, 0) ∈ tFP f) (m5 : (99, 0, 12, 0) ∈ tFP f) : nmR hp' (xnm hp') = nmR hp (xnm hp) := nmX_cg (fun j hj => xnj_fr hO h m1 m2 m3 m4 m5 j hj)
theorem nmr_fr (h : ∀ c j, c < tNC → fpIn f xs c j → hv hp' c j = hv hp c j) {c r : Nat} (hc : c < tNC) (hr : tRO c = r) (m : (r, 0, 12, 0) ∈ tFP f) : nmR hp' c = nmR hp c := nmX_cg (fun j hj => hL_of (fv0 h m hc hr (Nat.zero_le j) hj))
theorem nmm_fr (h : ∀ c j, c < tNC → fpIn f xs c j → hv hp' c j = hv hp c j) (m1 : (83, 0, 12, 0) ∈ tFP f) (m2 : (80, 2, 5, 0) ∈ tFP f) : nmM hp' = nmM hp := nmG_cg (fun i h1 h2 => hI_of (fv0 h m2 (c := 275) (j := i) (by decide) rfl h1 h2)) (fun j hj => hL_of (fv0 h m1 (c := 278) (j := j) (by decide) rfl (Nat.zero_le j) hj))
theorem nmk_fr (h : ∀ c j, c < tNC → fpIn f xs c j → hv hp' c j = hv hp c j) {k a b lo hi : Nat} (m1 : (95, a, b, 0) ∈ tFP f) (m2 : (94, lo, hi, 0) ∈ tFP f) (e1 : a = 12 * k ∧ b = 12 * k + 12) (e2 : lo = 871 * k + 2 ∧ hi = 871 * k + 5) : nmK hp' k = nmK hp k := nmG_cg (fun i h1 h2 => hI_of (fv0 h m2 (c := 289) (j := 871 * k + i) (by decide) rfl (by omega) (by omega))) (fun j hj => hL_of (fv0 h m1 (c := 290) (j := 12 * k + j) (by decide) rfl (by omega) (by omega)))
theorem xsz_fr (hO : hOk hp) (h : ∀ c j, c < tNC → fpIn f xs c j → hv hp' c j = hv hp c j) (m1 : (0, 6, 7, 0) ∈ tFP f) (m2 : (2, 0, 2, 0) ∈ tFP f) (m3 : (98, 0, 2, 0) ∈ tFP f) (j : Nat) (hj : j < 2) : hI hp' (hC hp' 0 6) j = hI hp (hC hp 0 6) j := by
  obtain ⟨a, q⟩ := cP_ok hO (c0 := 0) (k := 6) (by decide) rfl
  rw [hC_of (fv0 h m1 (c := 0) (j := 6) (by decide) rfl (by decide) (by decide))]
  exact hI_of (fvD0 h m2 m3 a q (Nat.zero_le j) hj)
theorem frm40 (hO : hOk hp) (h : ∀ c j, c < tNC → fpIn 40 xs c j → hv hp' c j = hv hp c j) (hF : fB40 xs hp) : fB40 xs hp' := by
  rcases xs with _ | ⟨q, xs⟩
  · exact hF.elim
  rcases xs with _ | ⟨p, xs⟩
  · exact hF.elim
  rcases xs with _ | ⟨x_, xs⟩
  rotate_left
  · exact hF.elim
  have hF : kSKX q p hp := hF
  show kSKX q p hp'
  unfold kSKX at hF ⊢
  obtain ⟨e1, e2⟩ := fXa h (.head _) (.tail _ (.head _))
  rw [e1, e2]
  exact hF
theorem frm41 (hO : hOk hp) (h : ∀ c j, c < tNC → fpIn 41 xs c j → hv hp' c j = hv hp c j) (hF : fB41 xs hp) : fB41 xs hp' := by
  rcases xs with _ | ⟨q, xs⟩
  · exact hF.elim
  rcases xs with _ | ⟨p, xs⟩
  · exact hF.elim
  rcases xs with _ | ⟨x_, xs⟩
  rotate_left
  · exact hF.elim
  have hF : kP1X q p hp := hF
  show kP1X q p hp'
  unfold kP1X at hF ⊢
  obtain ⟨e1, e2⟩ := fXa h (.head _) (.tail _ (.head _))
  rw [e1, e2]
  exact hF
theorem frm42 (hO : hOk hp) (h : ∀ c j, c < tNC → fpIn 42 xs c j → hv hp' c j = hv hp c j) (hF : fB42 xs hp) : fB42 xs hp' := by
  rcases xs with _ | ⟨q, xs⟩
  · exact hF.elim
  rcases xs with _ | ⟨p, xs⟩
  · exact hF.elim
  rcases xs with _ | ⟨x_, xs⟩
  rotate_left
  · exact hF.elim
  have hF : kP2X q p hp := hF
  show kP2X q p hp'
  unfold kP2X at hF ⊢
  rw [fX3 h (.head _) (.tail _ (.head _)) (.tail _ (.tail _ (.head _)))]
  exact hF
theorem frm43 (hO : hOk hp) (h : ∀ c j, c < tNC → fpIn 43 xs c j → hv hp' c j = hv hp c j) (hF : fB43 xs hp) : fB43 xs hp' := by
  rcases xs with _ | ⟨p, xs⟩
  · exact hF.elim
  rcases xs with _ | ⟨x_, xs⟩
  rotate_left
  · exact hF.elim
  have hF : kNMK p hp := hF
  show kNMK p hp'
  unfold kNMK at hF ⊢
  rw [fXB h (.head _)]
  exact hF
theorem frm44 (hO : hOk hp) (h : ∀ c j, c < tNC → fpIn 44 xs c j → hv hp' c j = hv hp c j) (hF : fB44 xs hp) : fB44 xs hp' := by
  rcases xs with _ | ⟨a, xs⟩
  · exact hF.elim
  rcases xs with _ | ⟨p, xs⟩
  · exact hF.elim
  rcases xs with _ | ⟨l, xs⟩
  · exact hF.elim
  rcases xs with _ | ⟨d, xs⟩
  · exact hF.elim
  rcases xs with _ | ⟨x, xs⟩
  · exact hF.elim
  rcases xs with _ | ⟨w, xs⟩
  · exact hF.elim
  rcases xs with _ | ⟨x_, xs⟩
  rotate_left
  · exact hF.elim
  have hF : kRNX a p l d x w hp := hF
  show kRNX a p l d x w hp'
  unfold kRNX at hF ⊢
  obtain ⟨e1, e2⟩ := fXa h (.head _) (.tail _ (.head _))
  rw [e1, e2]
  exact hF
theorem frm45 (hO : hOk hp) (h : ∀ c j, c < tNC → fpIn 45 xs c j → hv hp' c j = hv hp c j) (hF : fB45 xs hp) : fB45 xs hp' := by
  rcases xs with _ | ⟨a, xs⟩
  · exact hF.elim
  rcases xs with _ | ⟨p, xs⟩
  · exact hF.elim
  rcases xs with _ | ⟨l, xs⟩
  · exact hF.elim
  rcases xs with _ | ⟨d, xs⟩
  · exact hF.elim
  rcases xs with _ | ⟨x, xs⟩
  · exact hF.elim
  rcases xs with _ | ⟨w, xs⟩
  · exact hF.elim
  rcases xs with _ | ⟨x_, xs⟩
  rotate_left
  · exact hF.elim
  have hF : kREX a p l d x w hp := hF
  show kREX a p l d x w hp'
  unfold kREX at hF ⊢
  obtain ⟨e1, e2⟩ := fXa h (.head _) (.tail _ (.head _))
  rw [e1, e2]
  exact hF
theorem frm46 (hO : hOk hp) (h : ∀ c j, c < tNC → fpIn 46 xs c j → hv hp' c j = hv hp c j) (hF : fB46 xs hp) : fB46 xs hp' := by
  rcases xs with _ | ⟨q, xs⟩
  · exact hF.elim
  rcases xs with _ | ⟨k, xs⟩
  · exact hF.elim
  rcases xs with _ | ⟨a, xs⟩
  · exact hF.elim
  rcases xs with _ | ⟨z, xs⟩
  · exact hF.elim
  rcases xs with _ | ⟨v, xs⟩
  · exact hF.elim
  rcases xs with _ | ⟨x_, xs⟩
  rotate_left
  · exact hF.elim
  have hF : kTKX q k a z v hp := hF
  show kTKX q k a z v hp'
  unfold kTKX at hF ⊢
  rw [fX3 h (.head _) (.tail _ (.head _)) (.tail _ (.tail _ (.head _)))]
  exact hF
theorem frm47 (hO : hOk hp) (h : ∀ c j, c < tNC → fpIn 47 xs c j → hv hp' c j = hv hp c j) (hF : fB47 xs hp) : fB47 xs hp' := by
  rcases xs with _ | ⟨q, xs⟩
  · exact hF.elim
  rcases xs with _ | ⟨a, xs⟩
  · exact hF.elim
  rcases xs with _ | ⟨z, xs⟩
  · exact hF.elim
  rcases xs with _ | ⟨x_, xs⟩
  rotate_left
  · exact hF.elim
  have hF : kTWX q a z hp := hF
  show kTWX q a z hp'
  unfold kTWX at hF ⊢
  rw [fX3 h (.head _) (.tail _ (.head _)) (.tail _ (.tail _ (.head _)))]
  exact hF
theorem frm48 (hO : hOk hp) (h : ∀ c j, c < tNC → fpIn 48 xs c j → hv hp' c j = hv hp c j) (hF : fB48 xs hp) : fB48 xs hp' := by
  rcases xs with _ | ⟨a, xs⟩
  · exact hF.elim
  rcases xs with _ | ⟨z, xs⟩
  · exact hF.elim
  rcases xs with _ | ⟨x_, xs⟩
  rotate_left
  · exact hF.elim
  have hF : kNMX a z hp := hF
  show kNMX a z hp'
  unfold kNMX at hF ⊢
  rw [fXB h (.head _), hL_of (fv0 h (.tail _ (.head _)) (c := 173) (j := 8) (by decide) rfl (by decide) (by decide))]
  exact hF
theorem frm49 (hO : hOk hp) (h : ∀ c j, c < tNC → fpIn 49 xs c j → hv hp' c j = hv hp c j) (hF : fB49 xs hp) : fB49 xs hp' := by
  rcases xs with _ | ⟨j, xs⟩
  · exact hF.elim
  rcases xs with _ | ⟨w, xs⟩
  · exact hF.elim
  rcases xs with _ | ⟨x_, xs⟩
  rotate_left
  · exact hF.elim
  have hF : kWOX j w hp := hF
  show kWOX j w hp'
  unfold kWOX at hF ⊢
  intro i hi hs
  rw [hL_of (fv1 h (.head _) (c := 174) (j := i) (by decide) rfl (by omega) (by omega) (by omega))]
  exact hF i hi hs
theorem frm50 (hO : hOk hp) (h : ∀ c j, c < tNC → fpIn 50 xs c j → hv hp' c j = hv hp c j) (hF : fB50 xs hp) : fB50 xs hp' := by
  rcases xs with _ | ⟨x, xs⟩
  · exact hF.elim
  rcases xs with _ | ⟨v, xs⟩
  · exact hF.elim
  rcases xs with _ | ⟨x_, xs⟩
  rotate_left
  · exact hF.elim
  have hF : kWIX x v hp := hF
  show kWIX x v hp'
  unfold kWIX at hF ⊢
  exact hF
theorem frm51 (hO : hOk hp) (h : ∀ c j, c < tNC → fpIn 51 xs c j → hv hp' c j = hv hp c j) (hF : fB51 xs hp) : fB51 xs hp' := by
  rcases xs with _ | ⟨x_, xs⟩
  rotate_left
  · exact hF.elim
  have hF : kCODX hp := hF
  show kCODX hp'
  unfold kCODX at hF ⊢
  intro i hi
  rw [hL_of (fv0 h (.head _) (c := 174) (j := i) (by decide) rfl (by omega) (by omega))]
  exact hF i hi
theorem frm52 (hO : hOk hp) (h : ∀ c j, c < tNC → fpIn 52 xs c j → hv hp' c j = hv hp c j) (hF : fB52 xs hp) : fB52 xs hp' := by
  rcases xs with _ | ⟨q, xs⟩
  · exact hF.elim
  rcases xs with _ | ⟨c, xs⟩
  · exact hF.elim
  rcases xs with _ | ⟨l, xs⟩
  · exact hF.elim
  rcases xs with _ | ⟨e, xs⟩
  · exact hF.elim
  rcases xs with _ | ⟨f, xs⟩
  · exact hF.elim
  rcases xs with _ | ⟨g, xs⟩
  · exact hF.elim
  rcases xs with _ | ⟨h0, xs⟩
  · exact hF.elim
  rcases xs with _ | ⟨m, xs⟩
  · exact hF.elim
  rcases xs with _ | ⟨n, xs⟩
  · exact hF.elim
  rcases xs with _ | ⟨x_, xs⟩
  rotate_left
  · exact hF.elim
  have hF : kGX q c l e f g h0 m n hp := hF
  show kGX q c l e f g h0 m n hp'
  unfold kGX at hF ⊢
  rw [fX3 h (.head _) (.tail _ (.head _)) (.tail _ (.tail _ (.head _)))]
  exact hF
theorem frm53 (hO : hOk hp) (h : ∀ c j, c < tNC → fpIn 53 xs c j → hv hp' c j = hv hp c j) (hF : fB53 xs hp) : fB53 xs hp' := by
  rcases xs with _ | ⟨q, xs⟩
  · exact hF.elim
  rcases xs with _ | ⟨c, xs⟩
  · exact hF.elim
  rcases xs with _ | ⟨l, xs⟩
  · exact hF.elim
  rcases xs with _ | ⟨e, xs⟩
  · exact hF.elim
  rcases xs with _ | ⟨f, xs⟩
  · exact hF.elim
  rcases xs with _ | ⟨g, xs⟩
  · exact hF.elim
  rcases xs with _ | ⟨h0, xs⟩
  · exact hF.elim
  rcases xs with _ | ⟨m, xs⟩
  · exact hF.elim
  rcases xs with _ | ⟨n, xs⟩
  · exact hF.elim
  rcases xs with _ | ⟨k, xs⟩
  · exact hF.elim
  rcases xs with _ | ⟨a, xs⟩
  · exact hF.elim
  rcases xs with _ | ⟨z, xs⟩
  · exact hF.elim
  rcases xs with _ | ⟨v, xs⟩
  · exact hF.elim
  rcases xs with _ | ⟨x_, xs⟩
  rotate_left
  · exact hF.elim
  have hF : kHX q c l e f g h0 m n k a z v hp := hF
  show kHX q c l e f g h0 m n k a z v hp'
  unfold kHX at hF ⊢
  rw [fX3 h (.head _) (.tail _ (.head _)) (.tail _ (.tail _ (.head _)))]
  exact hF
theorem frm54 (hO : hOk hp) (h : ∀ c j, c < tNC → fpIn 54 xs c j → hv hp' c j = hv hp c j) (hF : fB54 xs hp) : fB54 xs hp' := by
  rcases xs with _ | ⟨k, xs⟩
  · exact hF.elim
  rcases xs with _ | ⟨p, xs⟩
  · exact hF.elim
  rcases xs with _ | ⟨x_, xs⟩
  rotate_left
  · exact hF.elim
  have hF : kRSX k p hp := hF
  show kRSX k p hp'
  unfold kRSX at hF ⊢
  rw [fX3 h (.head _) (.tail _ (.head _)) (.tail _ (.tail _ (.head _)))]
  exact hF
theorem frm55 (hO : hOk hp) (h : ∀ c j, c < tNC → fpIn 55 xs c j → hv hp' c j = hv hp c j) (hF : fB55 xs hp) : fB55 xs hp' := by
  rcases xs with _ | ⟨q, xs⟩
  · exact hF.elim
  rcases xs with _ | ⟨x, xs⟩
  · exact hF.elim
  rcases xs with _ | ⟨y, xs⟩
  · exact hF.elim
  rcases xs with _ | ⟨x_, xs⟩
  rotate_left
  · exact hF.elim
  have hF : kENX q x y hp := hF
  show kENX q x y hp'
  unfold kENX at hF ⊢
  rw [fX3 h (.head _) (.tail _ (.head _)) (.tail _ (.tail _ (.head _)))]
  exact hF
theorem frm56 (hO : hOk hp) (h : ∀ c j, c < tNC → fpIn 56 xs c j → hv hp' c j = hv hp c j) (hF : fB56 xs hp) : fB56 xs hp' := by
  rcases xs with _ | ⟨q, xs⟩
  · exact hF.elim
  rcases xs with _ | ⟨x_, xs⟩
  rotate_left
  · exact hF.elim
  have hF : kEWX q hp := hF
  show kEWX q hp'
  unfold kEWX at hF ⊢
  rw [fX3 h (.head _) (.tail _ (.head _)) (.tail _ (.tail _ (.head _)))]
  exact hF
theorem frm57 (hO : hOk hp) (h : ∀ c j, c < tNC → fpIn 57 xs c j → hv hp' c j = hv hp c j) (hF : fB57 xs hp) : fB57 xs hp' := by
  rcases xs with _ | ⟨q, xs⟩
  · exact hF.elim
  rcases xs with _ | ⟨x, xs⟩
  · exact hF.elim
  rcases xs with _ | ⟨y, xs⟩
  · exact hF.elim
  rcases xs with _ | ⟨x_, xs⟩
  rotate_left
  · exact hF.elim
  have hF : kEOX q x y hp := hF
  show kEOX q x y hp'
  unfold kEOX at hF ⊢
  rw [fX3 h (.head _) (.tail _ (.head _)) (.tail _ (.tail _ (.head _)))]
  exact hF
theorem frm58 (hO : hOk hp) (h : ∀ c j, c < tNC → fpIn 58 xs c j → hv hp' c j = hv hp c j) (hF : fB58 xs hp) : fB58 xs hp' := by
  rcases xs with _ | ⟨q, xs⟩
  · exact hF.elim
  rcases xs with _ | ⟨x_, xs⟩
  rotate_left
  · exact hF.elim
  have hF : kEFX q hp := hF
  show kEFX q hp'
  unfold kEFX at hF ⊢
  rw [fX3 h (.head _) (.tail _ (.head _)) (.tail _ (.tail _ (.head _)))]
  exact hF
theorem frm59 (hO : hOk hp) (h : ∀ c j, c < tNC → fpIn 59 xs c j → hv hp' c j = hv hp c j) (hF : fB59 xs hp) : fB59 xs hp' := by
  rcases xs with _ | ⟨l, xs⟩
  · exact hF.elim
  rcases xs with _ | ⟨co, xs⟩
  · exact hF.elim
  rcases xs with _ | ⟨cs, xs⟩
  · exact hF.elim
  rcases xs with _ | ⟨ck, xs⟩
  · exact hF.elim
  rcases xs with _ | ⟨cw, xs⟩
  · exact hF.elim
  rcases xs with _ | ⟨ct, xs⟩
  · exact hF.elim
  rcases xs with _ | ⟨cu, xs⟩
  · exact hF.elim
  rcases xs with _ | ⟨cf, xs⟩
  · exact hF.elim
  rcases xs with _ | ⟨cz, xs⟩
  · exact hF.elim
  rcases xs with _ | ⟨cx, xs⟩
  · exact hF.elim
  rcases xs with _ | ⟨cy, xs⟩
  · exact hF.elim
  rcases xs with _ | ⟨x_, xs⟩
  rotate_left
  · exact hF.elim
  have hF : kCTX l co cs ck cw ct cu cf cz cx cy hp := hF
  show kCTX l co cs ck cw ct cu cf cz cx cy hp'
  unfold kCTX at hF ⊢
  rw [fX3 h (.head _) (.tail _ (.head _)) (.tail _ (.tail _ (.head _)))]
  exact hF
theorem frm60 (hO : hOk hp) (h : ∀ c j, c < tNC → fpIn 60 xs c j → hv hp' c j = hv hp c j) (hF : fB60 xs hp) : fB60 xs hp' := by
  rcases xs with _ | ⟨q, xs⟩
  · exact hF.elim
  rcases xs with _ | ⟨x_, xs⟩
  rotate_left
  · exact hF.elim
  have hF : kNOX q hp := hF
  show kNOX q hp'
  unfold kNOX at hF ⊢
  rw [fX3 h (.head _) (.tail _ (.head _)) (.tail _ (.tail _ (.head _)))]
  exact hF
theorem frm61 (hO : hOk hp) (h : ∀ c j, c < tNC → fpIn 61 xs c j → hv hp' c j = hv hp c j) (hF : fB61 xs hp) : fB61 xs hp' := by
  rcases xs with _ | ⟨l, xs⟩
  · exact hF.elim
  rcases xs with _ | ⟨x_, xs⟩
  rotate_left
  · exact hF.elim
  have hF : kNAX l hp := hF
  show kNAX l hp'
  unfold kNAX at hF ⊢
  obtain ⟨en, an, qn⟩ := rrP_fr (hp' := hp') (j := 7) (r2 := 3) (r3 := 99) hO h (.tail _ (.tail _ (.head _))) (.tail _ (.tail _ (.tail _ (.head _)))) (.tail _ (.tail _ (.tail _ (.tail _ (.head _))))) rfl rfl
  rw [fX3 h (.tail _ (.tail _ (.tail _ (.tail _ (.tail _ (.head _)))))) (.tail _ (.tail _ (.tail _ (.tail _ (.tail _ (.tail _ (.head _))))))) (.tail _ (.tail _ (.tail _ (.tail _ (.tail _ (.tail _ (.tail _ (.head _))))))))]
  rw [en]
  refine dF_mp hF (fun D hD j hj => ?_)
  rw [hL_of (fvD0 h (.head _) (.tail _ (.head _)) (c := rr hp 1 7) (j := j) an qn (by omega) (by omega))]
  exact hD j hj
theorem frm62 (hO : hOk hp) (h : ∀ c j, c < tNC → fpIn 62 xs c j → hv hp' c j = hv hp c j) (hF : fB62 xs hp) : fB62 xs hp' := by
  rcases xs with _ | ⟨s, xs⟩
  · exact hF.elim
  rcases xs with _ | ⟨l, xs⟩
  · exact hF.elim
  rcases xs with _ | ⟨x_, xs⟩
  rotate_left
  · exact hF.elim
  have hF : kNLX s l hp := hF
  show kNLX s l hp'
  unfold kNLX at hF ⊢
  obtain ⟨en, an, qn⟩ := rrP_fr (hp' := hp') (j := 7) (r2 := 3) (r3 := 99) hO h (.tail _ (.tail _ (.head _))) (.tail _ (.tail _ (.tail _ (.head _)))) (.tail _ (.tail _ (.tail _ (.tail _ (.head _))))) rfl rfl
  rw [fX3 h (.tail _ (.tail _ (.tail _ (.tail _ (.tail _ (.head _)))))) (.tail _ (.tail _ (.tail _ (.tail _ (.tail _ (.tail _ (.head _))))))) (.tail _ (.tail _ (.tail _ (.tail _ (.tail _ (.tail _ (.tail _ (.head _))))))))]
  rw [en]
  refine dF_mp hF (fun D hD j hj hs => ?_)
  rw [hL_of (fvD1 h (.head _) (.tail _ (.head _)) (c := rr hp 1 7) (j := j) an qn (by omega) (by omega) (by omega))]
  exact hD j hj hs
theorem frm63 (hO : hOk hp) (h : ∀ c j, c < tNC → fpIn 63 xs c j → hv hp' c j = hv hp c j) (hF : fB63 xs hp) : fB63 xs hp' := by
  rcases xs with _ | ⟨s, xs⟩
  · exact hF.elim
  rcases xs with _ | ⟨l, xs⟩
  · exact hF.elim
  rcases xs with _ | ⟨x_, xs⟩
  rotate_left
  · exact hF.elim
  have hF : kNHX s l hp := hF
  show kNHX s l hp'
  unfold kNHX at hF ⊢
  obtain ⟨en, an, qn⟩ := rrP_fr (hp' := hp') (j := 7) (r2 := 3) (r3 := 99) hO h (.tail _ (.tail _ (.head _))) (.tail _ (.tail _ (.tail _ (.head _)))) (.tail _ (.tail _ (.tail _ (.tail _ (.head _))))) rfl rfl
  rw [fX3 h (.tail _ (.tail _ (.tail _ (.tail _ (.tail _ (.head _)))))) (.tail _ (.tail _ (.tail _ (.tail _ (.tail _ (.tail _ (.head _))))))) (.tail _ (.tail _ (.tail _ (.tail _ (.tail _ (.tail _ (.tail _ (.head _))))))))]
  rw [en]
  refine dF_mp hF (fun D hD j hj hs => ?_)
  rw [hL_of (fvDS h (.head _) (.tail _ (.head _)) (c := rr hp 1 7) (j := j) an qn (by omega) (by omega) (by omega))]
  exact hD j hj hs
theorem frm64 (hO : hOk hp) (h : ∀ c j, c < tNC → fpIn 64 xs c j → hv hp' c j = hv hp c j) (hF : fB64 xs hp) : fB64 xs hp' := by
  rcases xs with _ | ⟨s, xs⟩
  · exact hF.elim
  rcases xs with _ | ⟨l, xs⟩
  · exact hF.elim
  rcases xs with _ | ⟨a, xs⟩
  · exact hF.elim
  rcases xs with _ | ⟨z, xs⟩
  · exact hF.elim
  rcases xs with _ | ⟨x_, xs⟩
  rotate_left
  · exact hF.elim
  have hF : kNBX s l a z hp := hF
  show kNBX s l a z hp'
  unfold kNBX at hF ⊢
  obtain ⟨en, an, qn⟩ := rrP_fr (hp' := hp') (j := 7) (r2 := 3) (r3 := 99) hO h (.tail _ (.tail _ (.head _))) (.tail _ (.tail _ (.tail _ (.head _)))) (.tail _ (.tail _ (.tail _ (.tail _ (.head _))))) rfl rfl
  rw [fX3 h (.tail _ (.tail _ (.tail _ (.tail _ (.tail _ (.head _)))))) (.tail _ (.tail _ (.tail _ (.tail _ (.tail _ (.tail _ (.head _))))))) (.tail _ (.tail _ (.tail _ (.tail _ (.tail _ (.tail _ (.tail _ (.head _))))))))]
  rw [en]
  refine dF_mp hF (fun D hD j hj => ?_)
  rw [hL_of (fvD0 h (.head _) (.tail _ (.head _)) (c := rr hp 1 7) (j := j) an qn (by omega) (by omega))]
  exact hD j hj
theorem frm65 (hO : hOk hp) (h : ∀ c j, c < tNC → fpIn 65 xs c j → hv hp' c j = hv hp c j) (hF : fB65 xs hp) : fB65 xs hp' := by
  rcases xs with _ | ⟨s, xs⟩
  · exact hF.elim
  rcases xs with _ | ⟨w, xs⟩
  · exact hF.elim
  rcases xs with _ | ⟨x_, xs⟩
  rotate_left
  · exact hF.elim
  have hF : kSWX s w hp := hF
  show kSWX s w hp'
  unfold kSWX at hF ⊢
  obtain ⟨en, an, qn⟩ := rrP_fr (hp' := hp') (j := 7) (r2 := 3) (r3 := 99) hO h (.tail _ (.tail _ (.head _))) (.tail _ (.tail _ (.tail _ (.head _)))) (.tail _ (.tail _ (.tail _ (.tail _ (.head _))))) rfl rfl
  rw [en]
  intro j hj hs
  rw [hL_of (fvD1 h (.head _) (.tail _ (.head _)) (c := rr hp 1 7) (j := j) an qn (by omega) (by omega) (by omega))]
  exact hF j hj hs
theorem frm66 (hO : hOk hp) (h : ∀ c j, c < tNC → fpIn 66 xs c j → hv hp' c j = hv hp c j) (hF : fB66 xs hp) : fB66 xs hp' := by
  rcases xs with _ | ⟨l, xs⟩
  · exact hF.elim
  rcases xs with _ | ⟨w, xs⟩
  · exact hF.elim
  rcases xs with _ | ⟨i, xs⟩
  · exact hF.elim
  rcases xs with _ | ⟨x_, xs⟩
  rotate_left
  · exact hF.elim
  have hF : kSCX l w i hp := hF
  show kSCX l w i hp'
  unfold kSCX at hF ⊢
  rw [fX3 h (.head _) (.tail _ (.head _)) (.tail _ (.tail _ (.head _)))]
  exact hF
theorem frm67 (hO : hOk hp) (h : ∀ c j, c < tNC → fpIn 67 xs c j → hv hp' c j = hv hp c j) (hF : fB67 xs hp) : fB67 xs hp' := by
  rcases xs with _ | ⟨l, xs⟩
  · exact hF.elim
  rcases xs with _ | ⟨a, xs⟩
  · exact hF.elim
  rcases xs with _ | ⟨z, xs⟩
  · exact hF.elim
  rcases xs with _ | ⟨i, xs⟩
  · exact hF.elim
  rcases xs with _ | ⟨x_, xs⟩
  rotate_left
  · exact hF.elim
  have hF : kSLX l a z i hp := hF
  show kSLX l a z i hp'
  unfold kSLX at hF ⊢
  rw [fX3 h (.head _) (.tail _ (.head _)) (.tail _ (.tail _ (.head _)))]
  exact hF
theorem frm68 (hO : hOk hp) (h : ∀ c j, c < tNC → fpIn 68 xs c j → hv hp' c j = hv hp c j) (hF : fB68 xs hp) : fB68 xs hp' := by
  rcases xs with _ | ⟨l, xs⟩
  · exact hF.elim
  rcases xs with _ | ⟨x_, xs⟩
  rotate_left
  · exact hF.elim
  have hF : kTAX l hp := hF
  show kTAX l hp'
  unfold kTAX at hF ⊢
  obtain ⟨eo, ao, qo⟩ := rrP_fr (hp' := hp') (j := 8) (r2 := 4) (r3 := 4) hO h (.tail _ (.tail _ (.head _))) (.tail _ (.tail _ (.tail _ (.head _)))) (.tail _ (.tail _ (.tail _ (.tail _ (.head _))))) rfl rfl
  have qo := qo.elim id id
  obtain ⟨es, as, qs⟩ := rrP_fr (hp' := hp') (j := 9) (r2 := 5) (r3 := 5) hO h (.tail _ (.tail _ (.head _))) (.tail _ (.tail _ (.tail _ (.tail _ (.tail _ (.head _)))))) (.tail _ (.tail _ (.tail _ (.tail _ (.tail _ (.tail _ (.head _))))))) rfl rfl
  have qs := qs.elim id id
  rw [fX3 h (.tail _ (.tail _ (.tail _ (.tail _ (.tail _ (.tail _ (.tail _ (.head _)))))))) (.tail _ (.tail _ (.tail _ (.tail _ (.tail _ (.tail _ (.tail _ (.tail _ (.head _))))))))) (.tail _ (.tail _ (.tail _ (.tail _ (.tail _ (.tail _ (.tail _ (.tail _ (.tail _ (.head _))))))))))]
  refine dF_mp hF (fun D hD p hp_ => ?_)
  have u := hD p hp_
  unfold fX at u ⊢
  rw [eo, es, hI_of (fv0 h (.head _) (c := rr hp 1 8) (j := p) ao qo (by omega) (by omega)), hI_of (fv0 h (.tail _ (.head _)) (c := rr hp 1 9) (j := p) as qs (by omega) (by omega))]
  exact u
theorem frm69 (hO : hOk hp) (h : ∀ c j, c < tNC → fpIn 69 xs c j → hv hp' c j = hv hp c j) (hF : fB69 xs hp) : fB69 xs hp' := by
  rcases xs with _ | ⟨s, xs⟩
  · exact hF.elim
  rcases xs with _ | ⟨l, xs⟩
  · exact hF.elim
  rcases xs with _ | ⟨x, xs⟩
  · exact hF.elim
  rcases xs with _ | ⟨y, xs⟩
  · exact hF.elim
  rcases xs with _ | ⟨w, xs⟩
  · exact hF.elim
  rcases xs with _ | ⟨h0, xs⟩
  · exact hF.elim
  rcases xs with _ | ⟨x_, xs⟩
  rotate_left
  · exact hF.elim
  have hF : kTLX s l x y w h0 hp := hF
  show kTLX s l x y w h0 hp'
  unfold kTLX at hF ⊢
  obtain ⟨eo, ao, qo⟩ := rrP_fr (hp' := hp') (j := 8) (r2 := 4) (r3 := 4) hO h (.tail _ (.tail _ (.head _))) (.tail _ (.tail _ (.tail _ (.head _)))) (.tail _ (.tail _ (.tail _ (.tail _ (.head _))))) rfl rfl
  have qo := qo.elim id id
  obtain ⟨es, as, qs⟩ := rrP_fr (hp' := hp') (j := 9) (r2 := 5) (r3 := 5) hO h (.tail _ (.tail _ (.head _))) (.tail _ (.tail _ (.tail _ (.tail _ (.tail _ (.head _)))))) (.tail _ (.tail _ (.tail _ (.tail _ (.tail _ (.tail _ (.head _))))))) rfl rfl
  have qs := qs.elim id id
  rw [fX3 h (.tail _ (.tail _ (.tail _ (.tail _ (.tail _ (.tail _ (.tail _ (.head _)))))))) (.tail _ (.tail _ (.tail _ (.tail _ (.tail _ (.tail _ (.tail _ (.tail _ (.head _))))))))) (.tail _ (.tail _ (.tail _ (.tail _ (.tail _ (.tail _ (.tail _ (.tail _ (.tail _ (.head _))))))))))]
  refine dF_mp hF (fun D hD p hp_ hs => ?_)
  have u := hD p hp_ hs
  unfold fX at u ⊢
  rw [eo, es, hI_of (fv1 h (.head _) (c := rr hp 1 8) (j := p) ao qo (by omega) (by omega) (by omega)), hI_of (fv1 h (.tail _ (.head _)) (c := rr hp 1 9) (j := p) as qs (by omega) (by omega) (by omega))]
  exact u
theorem frm70 (hO : hOk hp) (h : ∀ c j, c < tNC → fpIn 70 xs c j → hv hp' c j = hv hp c j) (hF : fB70 xs hp) : fB70 xs hp' := by
  rcases xs with _ | ⟨s, xs⟩
  · exact hF.elim
  rcases xs with _ | ⟨l, xs⟩
  · exact hF.elim
  rcases xs with _ | ⟨x_, xs⟩
  rotate_left
  · exact hF.elim
  have hF : kTHX s l hp := hF
  show kTHX s l hp'
  unfold kTHX at hF ⊢
  obtain ⟨eo, ao, qo⟩ := rrP_fr (hp' := hp') (j := 8) (r2 := 4) (r3 := 4) hO h (.tail _ (.tail _ (.head _))) (.tail _ (.tail _ (.tail _ (.head _)))) (.tail _ (.tail _ (.tail _ (.tail _ (.head _))))) rfl rfl
  have qo := qo.elim id id
  obtain ⟨es, as, qs⟩ := rrP_fr (hp' := hp') (j := 9) (r2 := 5) (r3 := 5) hO h (.tail _ (.tail _ (.head _))) (.tail _ (.tail _ (.tail _ (.tail _ (.tail _ (.head _)))))) (.tail _ (.tail _ (.tail _ (.tail _ (.tail _ (.tail _ (.head _))))))) rfl rfl
  have qs := qs.elim id id
  rw [fX3 h (.tail _ (.tail _ (.tail _ (.tail _ (.tail _ (.tail _ (.tail _ (.head _)))))))) (.tail _ (.tail _ (.tail _ (.tail _ (.tail _ (.tail _ (.tail _ (.tail _ (.head _))))))))) (.tail _ (.tail _ (.tail _ (.tail _ (.tail _ (.tail _ (.tail _ (.tail _ (.tail _ (.head _))))))))))]
  refine dF_mp hF (fun D hD p hp_ hs => ?_)
  have u := hD p hp_ hs
  unfold fX at u ⊢
  rw [eo, es, hI_of (fvS h (.head _) (c := rr hp 1 8) (j := p) ao qo (by omega) (by omega) (by omega)), hI_of (fvS h (.tail _ (.head _)) (c := rr hp 1 9) (j := p) as qs (by omega) (by omega) (by omega))]
  exact u
theorem frm71 (hO : hOk hp) (h : ∀ c j, c < tNC → fpIn 71 xs c j → hv hp' c j = hv hp c j) (hF : fB71 xs hp) : fB71 xs hp' := by
  rcases xs with _ | ⟨l, xs⟩
  · exact hF.elim
  rcases xs with _ | ⟨x, xs⟩
  · exact hF.elim
  rcases xs with _ | ⟨y, xs⟩
  · exact hF.elim
  rcases xs with _ | ⟨w, xs⟩
  · exact hF.elim
  rcases xs with _ | ⟨h0, xs⟩
  · exact hF.elim
  rcases xs with _ | ⟨x_, xs⟩
  rotate_left
  · exact hF.elim
  have hF : kTBX l x y w h0 hp := hF
  show kTBX l x y w h0 hp'
  unfold kTBX at hF ⊢
  obtain ⟨eo, ao, qo⟩ := rrP_fr (hp' := hp') (j := 8) (r2 := 4) (r3 := 4) hO h (.tail _ (.tail _ (.head _))) (.tail _ (.tail _ (.tail _ (.head _)))) (.tail _ (.tail _ (.tail _ (.tail _ (.head _))))) rfl rfl
  have qo := qo.elim id id
  obtain ⟨es, as, qs⟩ := rrP_fr (hp' := hp') (j := 9) (r2 := 5) (r3 := 5) hO h (.tail _ (.tail _ (.head _))) (.tail _ (.tail _ (.tail _ (.tail _ (.tail _ (.head _)))))) (.tail _ (.tail _ (.tail _ (.tail _ (.tail _ (.tail _ (.head _))))))) rfl rfl
  have qs := qs.elim id id
  rw [fX3 h (.tail _ (.tail _ (.tail _ (.tail _ (.tail _ (.tail _ (.tail _ (.head _)))))))) (.tail _ (.tail _ (.tail _ (.tail _ (.tail _ (.tail _ (.tail _ (.tail _ (.head _))))))))) (.tail _ (.tail _ (.tail _ (.tail _ (.tail _ (.tail _ (.tail _ (.tail _ (.tail _ (.head _))))))))))]
  refine dF_mp hF (fun D hD p hp_ => ?_)
  have u := hD p hp_
  unfold fX at u ⊢
  rw [eo, es, hI_of (fv0 h (.head _) (c := rr hp 1 8) (j := p) ao qo (by omega) (by omega)), hI_of (fv0 h (.tail _ (.head _)) (c := rr hp 1 9) (j := p) as qs (by omega) (by omega))]
  exact u
theorem frm72 (hO : hOk hp) (h : ∀ c j, c < tNC → fpIn 72 xs c j → hv hp' c j = hv hp c j) (hF : fB72 xs hp) : fB72 xs hp' := by
  rcases xs with _ | ⟨t, xs⟩
  · exact hF.elim
  rcases xs with _ | ⟨l, xs⟩
  · exact hF.elim
  rcases xs with _ | ⟨x_, xs⟩
  rotate_left
  · exact hF.elim
  have hF : kTRX t l hp := hF
  show kTRX t l hp'
  unfold kTRX at hF ⊢
  obtain ⟨ex, ax, qx⟩ := rr_fr (hp' := hp') hO h (.tail _ (.tail _ (.head _))) (by decide) (.tail _ (.tail _ (.tail _ (.head _)))) (by decide) rfl rfl
  obtain ⟨ey, ay, qy⟩ := rr_fr (hp' := hp') hO h (.tail _ (.tail _ (.head _))) (by decide) (.tail _ (.tail _ (.tail _ (.tail _ (.head _))))) (by decide) rfl rfl
  rw [fX3 h (.tail _ (.tail _ (.tail _ (.tail _ (.tail _ (.head _)))))) (.tail _ (.tail _ (.tail _ (.tail _ (.tail _ (.tail _ (.head _))))))) (.tail _ (.tail _ (.tail _ (.tail _ (.tail _ (.tail _ (.tail _ (.head _))))))))]
  rw [ex, ey]
  refine dF_mp hF (fun D hD => ⟨hD.1, fun i hi hs => ?_⟩)
  rw [hI_of (fv1 h (.head _) (c := rr hp 2 6) (j := i) ax qx (by omega) (by omega) (by omega)), hI_of (fv1 h (.tail _ (.head _)) (c := rr hp 2 7) (j := i) ay qy (by omega) (by omega) (by omega))]
  exact hD.2 i hi hs
theorem frm73 (hO : hOk hp) (h : ∀ c j, c < tNC → fpIn 73 xs c j → hv hp' c j = hv hp c j) (hF : fB73 xs hp) : fB73 xs hp' := by
  rcases xs with _ | ⟨t, xs⟩
  · exact hF.elim
  rcases xs with _ | ⟨x_, xs⟩
  rotate_left
  · exact hF.elim
  have hF : kALX t hp := hF
  show kALX t hp'
  unfold kALX at hF ⊢
  obtain ⟨a1, a2, -⟩ := rC_ok (k := 2) hO rfl
  rw [rC_fr (hp' := hp') (k := 2) hO h (.tail _ (.head _)) (by decide)]
  intro i hi hs
  rw [hI_of (fv0 h (.head _) (j := 2) a1 a2 (by decide) (by decide))]
  exact hF i hi hs
theorem frm74 (hO : hOk hp) (h : ∀ c j, c < tNC → fpIn 74 xs c j → hv hp' c j = hv hp c j) (hF : fB74 xs hp) : fB74 xs hp' := by
  rcases xs with _ | ⟨l, xs⟩
  · exact hF.elim
  rcases xs with _ | ⟨x_, xs⟩
  rotate_left
  · exact hF.elim
  have hF : kWLX l hp := hF
  show kWLX l hp'
  unfold kWLX at hF ⊢
  obtain ⟨ewr, awr, qwr⟩ := rr_fr (hp' := hp') hO h (.tail _ (.head _)) (by decide) (.tail _ (.tail _ (.head _))) (by decide) rfl rfl
  rw [fX3 h (.tail _ (.tail _ (.tail _ (.head _)))) (.tail _ (.tail _ (.tail _ (.tail _ (.head _))))) (.tail _ (.tail _ (.tail _ (.tail _ (.tail _ (.head _))))))]
  rw [ewr]
  refine dF_mp hF (fun D hD j hj => ?_)
  rw [hI_of (fv0 h (.head _) (c := rr hp 2 10) (j := j) awr qwr (by omega) (by omega))]
  exact hD j hj
theorem frm75 (hO : hOk hp) (h : ∀ c j, c < tNC → fpIn 75 xs c j → hv hp' c j = hv hp c j) (hF : fB75 xs hp) : fB75 xs hp' := by
  rcases xs with _ | ⟨t, xs⟩
  · exact hF.elim
  rcases xs with _ | ⟨l, xs⟩
  · exact hF.elim
  rcases xs with _ | ⟨x_, xs⟩
  rotate_left
  · exact hF.elim
  have hF : kWDX t l hp := hF
  show kWDX t l hp'
  unfold kWDX at hF ⊢
  obtain ⟨eww, aww, qww⟩ := rrP_fr (hp' := hp') (j := 16) (r2 := 12) (r3 := 12) hO h (.tail _ (.tail _ (.head _))) (.tail _ (.tail _ (.tail _ (.head _)))) (.tail _ (.tail _ (.tail _ (.tail _ (.head _))))) rfl rfl
  have qww := qww.elim id id
  obtain ⟨ewf, awf, qwf⟩ := rrP_fr (hp' := hp') (j := 17) (r2 := 13) (r3 := 13) hO h (.tail _ (.tail _ (.head _))) (.tail _ (.tail _ (.tail _ (.tail _ (.tail _ (.head _)))))) (.tail _ (.tail _ (.tail _ (.tail _ (.tail _ (.tail _ (.head _))))))) rfl rfl
  have qwf := qwf.elim id id
  rw [fX3 h (.tail _ (.tail _ (.tail _ (.tail _ (.tail _ (.tail _ (.tail _ (.head _)))))))) (.tail _ (.tail _ (.tail _ (.tail _ (.tail _ (.tail _ (.tail _ (.tail _ (.head _))))))))) (.tail _ (.tail _ (.tail _ (.tail _ (.tail _ (.tail _ (.tail _ (.tail _ (.tail _ (.head _))))))))))]
  rw [eww, ewf]
  refine dF_mp hF (fun D hD => ⟨hD.1, fun i hi hs => ?_⟩)
  rw [hI_of (fv1 h (.head _) (c := rr hp 1 16) (j := i) aww qww (by omega) (by omega) (by omega)), hI_of (fv1 h (.tail _ (.head _)) (c := rr hp 1 17) (j := i) awf qwf (by omega) (by omega) (by omega))]
  exact hD.2 i hi hs
theorem frm76 (hO : hOk hp) (h : ∀ c j, c < tNC → fpIn 76 xs c j → hv hp' c j = hv hp c j) (hF : fB76 xs hp) : fB76 xs hp' := by
  rcases xs with _ | ⟨l, xs⟩
  · exact hF.elim
  rcases xs with _ | ⟨x, xs⟩
  · exact hF.elim
  rcases xs with _ | ⟨y, xs⟩
  · exact hF.elim
  rcases xs with _ | ⟨w, xs⟩
  · exact hF.elim
  rcases xs with _ | ⟨h0, xs⟩
  · exact hF.elim
  rcases xs with _ | ⟨x_, xs⟩
  rotate_left
  · exact hF.elim
  have hF : kATX l x y w h0 hp := hF
  show kATX l x y w h0 hp'
  unfold kATX at hF ⊢
  rw [fX3 h (.head _) (.tail _ (.head _)) (.tail _ (.tail _ (.head _)))]
  exact hF
theorem frm77 (hO : hOk hp) (h : ∀ c j, c < tNC → fpIn 77 xs c j → hv hp' c j = hv hp c j) (hF : fB77 xs hp) : fB77 xs hp' := by
  rcases xs with _ | ⟨l, xs⟩
  · exact hF.elim
  rcases xs with _ | ⟨x, xs⟩
  · exact hF.elim
  rcases xs with _ | ⟨y, xs⟩
  · exact hF.elim
  rcases xs with _ | ⟨w, xs⟩
  · exact hF.elim
  rcases xs with _ | ⟨h0, xs⟩
  · exact hF.elim
  rcases xs with _ | ⟨x_, xs⟩
  rotate_left
  · exact hF.elim
  have hF : kAFX l x y w h0 hp := hF
  show kAFX l x y w h0 hp'
  unfold kAFX at hF ⊢
  rw [fX3 h (.head _) (.tail _ (.head _)) (.tail _ (.tail _ (.head _)))]
  exact hF
theorem frm78 (hO : hOk hp) (h : ∀ c j, c < tNC → fpIn 78 xs c j → hv hp' c j = hv hp c j) (hF : fB78 xs hp) : fB78 xs hp' := by
  rcases xs with _ | ⟨s, xs⟩
  · exact hF.elim
  rcases xs with _ | ⟨l, xs⟩
  · exact hF.elim
  rcases xs with _ | ⟨x, xs⟩
  · exact hF.elim
  rcases xs with _ | ⟨y, xs⟩
  · exact hF.elim
  rcases xs with _ | ⟨w, xs⟩
  · exact hF.elim
  rcases xs with _ | ⟨h0, xs⟩
  · exact hF.elim
  rcases xs with _ | ⟨x_, xs⟩
  rotate_left
  · exact hF.elim
  have hF : kSCN s l x y w h0 hp := hF
  show kSCN s l x y w h0 hp'
  unfold kSCN at hF ⊢
  rw [fX3 h (.tail _ (.tail _ (.tail _ (.tail _ (.tail _ (.tail _ (.tail _ (.head _)))))))) (.tail _ (.tail _ (.tail _ (.tail _ (.tail _ (.tail _ (.tail _ (.tail _ (.head _))))))))) (.tail _ (.tail _ (.tail _ (.tail _ (.tail _ (.tail _ (.tail _ (.tail _ (.tail _ (.head _))))))))))]
  exact hF
theorem frm79 (hO : hOk hp) (h : ∀ c j, c < tNC → fpIn 79 xs c j → hv hp' c j = hv hp c j) (hF : fB79 xs hp) : fB79 xs hp' := by
  rcases xs with _ | ⟨l, xs⟩
  · exact hF.elim
  rcases xs with _ | ⟨x, xs⟩
  · exact hF.elim
  rcases xs with _ | ⟨y, xs⟩
  · exact hF.elim
  rcases xs with _ | ⟨b, xs⟩
  · exact hF.elim
  rcases xs with _ | ⟨x_, xs⟩
  rotate_left
  · exact hF.elim
  have hF : kFRX l x y b hp := hF
  show kFRX l x y b hp'
  unfold kFRX at hF ⊢
  rw [fX3 h (.head _) (.tail _ (.head _)) (.tail _ (.tail _ (.head _)))]
  exact hF
theorem frm80 (hO : hOk hp) (h : ∀ c j, c < tNC → fpIn 80 xs c j → hv hp' c j = hv hp c j) (hF : fB80 xs hp) : fB80 xs hp' := by
  rcases xs with _ | ⟨l, xs⟩
  · exact hF.elim
  rcases xs with _ | ⟨x, xs⟩
  · exact hF.elim
  rcases xs with _ | ⟨y, xs⟩
  · exact hF.elim
  rcases xs with _ | ⟨b, xs⟩
  · exact hF.elim
  rcases xs with _ | ⟨x_, xs⟩
  rotate_left
  · exact hF.elim
  have hF : kHWX l x y b hp := hF
  show kHWX l x y b hp'
  unfold kHWX at hF ⊢
  rw [fX3 h (.head _) (.tail _ (.head _)) (.tail _ (.tail _ (.head _)))]
  exact hF
theorem frm81 (hO : hOk hp) (h : ∀ c j, c < tNC → fpIn 81 xs c j → hv hp' c j = hv hp c j) (hF : fB81 xs hp) : fB81 xs hp' := by
  rcases xs with _ | ⟨l, xs⟩
  · exact hF.elim
  rcases xs with _ | ⟨x_, xs⟩
  rotate_left
  · exact hF.elim
  have hF : kDNX l hp := hF
  show kDNX l hp'
  unfold kDNX at hF ⊢
  rw [fX3 h (.head _) (.tail _ (.head _)) (.tail _ (.tail _ (.head _)))]
  exact hF
theorem frm82 (hO : hOk hp) (h : ∀ c j, c < tNC → fpIn 82 xs c j → hv hp' c j = hv hp c j) (hF : fB82 xs hp) : fB82 xs hp' := by
  rcases xs with _ | ⟨x, xs⟩
  · exact hF.elim
  rcases xs with _ | ⟨k, xs⟩
  · exact hF.elim
  rcases xs with _ | ⟨x_, xs⟩
  rotate_left
  · exact hF.elim
  have hF : kANX x k hp := hF
  show kANX x k hp'
  unfold kANX at hF ⊢
  rw [fX3 h (.head _) (.tail _ (.head _)) (.tail _ (.tail _ (.head _)))]
  exact hF
theorem frm83 (hO : hOk hp) (h : ∀ c j, c < tNC → fpIn 83 xs c j → hv hp' c j = hv hp c j) (hF : fB83 xs hp) : fB83 xs hp' := by
  rcases xs with _ | ⟨l, xs⟩
  · exact hF.elim
  rcases xs with _ | ⟨p, xs⟩
  · exact hF.elim
  rcases xs with _ | ⟨b, xs⟩
  · exact hF.elim
  rcases xs with _ | ⟨x_, xs⟩
  rotate_left
  · exact hF.elim
  have hF : kCEX l p b hp := hF
  show kCEX l p b hp'
  unfold kCEX at hF ⊢
  rw [fX3 h (.head _) (.tail _ (.head _)) (.tail _ (.tail _ (.head _)))]
  exact hF
theorem frm84 (hO : hOk hp) (h : ∀ c j, c < tNC → fpIn 84 xs c j → hv hp' c j = hv hp c j) (hF : fB84 xs hp) : fB84 xs hp' := by
  rcases xs with _ | ⟨x, xs⟩
  · exact hF.elim
  rcases xs with _ | ⟨y, xs⟩
  · exact hF.elim
  rcases xs with _ | ⟨z, xs⟩
  · exact hF.elim
  rcases xs with _ | ⟨x_, xs⟩
  rotate_left
  · exact hF.elim
  have hF : kSHR x y z hp := hF
  show kSHR x y z hp'
  unfold kSHR at hF ⊢
  exact hF
theorem frm85 (hO : hOk hp) (h : ∀ c j, c < tNC → fpIn 85 xs c j → hv hp' c j = hv hp c j) (hF : fB85 xs hp) : fB85 xs hp' := by
  rcases xs with _ | ⟨x, xs⟩
  · exact hF.elim
  rcases xs with _ | ⟨y, xs⟩
  · exact hF.elim
  rcases xs with _ | ⟨z, xs⟩
  · exact hF.elim
  rcases xs with _ | ⟨x_, xs⟩
  rotate_left
  · exact hF.elim
  have hF : kSHL x y z hp := hF
  show kSHL x y z hp'
  unfold kSHL at hF ⊢
  exact hF
theorem frm86 (hO : hOk hp) (h : ∀ c j, c < tNC → fpIn 86 xs c j → hv hp' c j = hv hp c j) (hF : fB86 xs hp) : fB86 xs hp' := by
  rcases xs with _ | ⟨x, xs⟩
  · exact hF.elim
  rcases xs with _ | ⟨y, xs⟩
  · exact hF.elim
  rcases xs with _ | ⟨z, xs⟩
  · exact hF.elim
  rcases xs with _ | ⟨x_, xs⟩
  rotate_left
  · exact hF.elim
  have hF : kIOR x y z hp := hF
  show kIOR x y z hp'
  unfold kIOR at hF ⊢
  exact hF
theorem frm87 (hO : hOk hp) (h : ∀ c j, c < tNC → fpIn 87 xs c j → hv hp' c j = hv hp c j) (hF : fB87 xs hp) : fB87 xs hp' := by
  rcases xs with _ | ⟨x, xs⟩
  · exact hF.elim
  rcases xs with _ | ⟨y, xs⟩
  · exact hF.elim
  rcases xs with _ | ⟨z, xs⟩
  · exact hF.elim
  rcases xs with _ | ⟨x_, xs⟩
  rotate_left
  · exact hF.elim
  have hF : kIAN x y z hp := hF
  show kIAN x y z hp'
  unfold kIAN at hF ⊢
  exact hF
theorem frm88 (hO : hOk hp) (h : ∀ c j, c < tNC → fpIn 88 xs c j → hv hp' c j = hv hp c j) (hF : fB88 xs hp) : fB88 xs hp' := by
  rcases xs with _ | ⟨x, xs⟩
  · exact hF.elim
  rcases xs with _ | ⟨y, xs⟩
  · exact hF.elim
  rcases xs with _ | ⟨z, xs⟩
  · exact hF.elim
  rcases xs with _ | ⟨x_, xs⟩
  rotate_left
  · exact hF.elim
  have hF : kUSH x y z hp := hF
  show kUSH x y z hp'
  unfold kUSH at hF ⊢
  exact hF
theorem frm89 (hO : hOk hp) (h : ∀ c j, c < tNC → fpIn 89 xs c j → hv hp' c j = hv hp c j) (hF : fB89 xs hp) : fB89 xs hp' := by
  rcases xs with _ | ⟨x, xs⟩
  · exact hF.elim
  rcases xs with _ | ⟨z, xs⟩
  · exact hF.elim
  rcases xs with _ | ⟨x_, xs⟩
  rotate_left
  · exact hF.elim
  have hF : kI2B x z hp := hF
  show kI2B x z hp'
  unfold kI2B at hF ⊢
  exact hF
theorem frm90 (hO : hOk hp) (h : ∀ c j, c < tNC → fpIn 90 xs c j → hv hp' c j = hv hp c j) (hF : fB90 xs hp) : fB90 xs hp' := by
  rcases xs with _ | ⟨w, xs⟩
  · exact hF.elim
  rcases xs with _ | ⟨t, xs⟩
  · exact hF.elim
  rcases xs with _ | ⟨x_, xs⟩
  rotate_left
  · exact hF.elim
  have hF : kALV w t hp := hF
  show kALV w t hp'
  unfold kALV at hF ⊢
  exact hF
theorem frm91 (hO : hOk hp) (h : ∀ c j, c < tNC → fpIn 91 xs c j → hv hp' c j = hv hp c j) (hF : fB91 xs hp) : fB91 xs hp' := by
  rcases xs with _ | ⟨w, xs⟩
  · exact hF.elim
  rcases xs with _ | ⟨y, xs⟩
  · exact hF.elim
  rcases xs with _ | ⟨l, xs⟩
  · exact hF.elim
  rcases xs with _ | ⟨x_, xs⟩
  rotate_left
  · exact hF.elim
  have hF : kWLV w y l hp := hF
  show kWLV w y l hp'
  unfold kWLV at hF ⊢
  rw [fX3 h (.head _) (.tail _ (.head _)) (.tail _ (.tail _ (.head _)))]
  exact hF
theorem frm92 (hO : hOk hp) (h : ∀ c j, c < tNC → fpIn 92 xs c j → hv hp' c j = hv hp c j) (hF : fB92 xs hp) : fB92 xs hp' := by
  rcases xs with _ | ⟨l, xs⟩
  · exact hF.elim
  rcases xs with _ | ⟨x, xs⟩
  · exact hF.elim
  rcases xs with _ | ⟨y, xs⟩
  · exact hF.elim
  rcases xs with _ | ⟨b, xs⟩
  · exact hF.elim
  rcases xs with _ | ⟨x_, xs⟩
  rotate_left
  · exact hF.elim
  have hF : kWCX l x y b hp := hF
  show kWCX l x y b hp'
  unfold kWCX at hF ⊢
  rw [fX3 h (.head _) (.tail _ (.head _)) (.tail _ (.tail _ (.head _)))]
  exact hF
theorem frm93 (hO : hOk hp) (h : ∀ c j, c < tNC → fpIn 93 xs c j → hv hp' c j = hv hp c j) (hF : fB93 xs hp) : fB93 xs hp' := by
  rcases xs with _ | ⟨l, xs⟩
  · exact hF.elim
  rcases xs with _ | ⟨x, xs⟩
  · exact hF.elim
  rcases xs with _ | ⟨y, xs⟩
  · exact hF.elim
  rcases xs with _ | ⟨b, xs⟩
  · exact hF.elim
  rcases xs with _ | ⟨x_, xs⟩
  rotate_left
  · exact hF.elim
  have hF : kTCX l x y b hp := hF
  show kTCX l x y b hp'
  unfold kTCX at hF ⊢
  rw [fX3 h (.head _) (.tail _ (.head _)) (.tail _ (.tail _ (.head _)))]
  exact hF
theorem frm94 (hO : hOk hp) (h : ∀ c j, c < tNC → fpIn 94 xs c j → hv hp' c j = hv hp c j) (hF : fB94 xs hp) : fB94 xs hp' := by
  rcases xs with _ | ⟨s, xs⟩
  · exact hF.elim
  rcases xs with _ | ⟨l, xs⟩
  · exact hF.elim
  rcases xs with _ | ⟨x, xs⟩
  · exact hF.elim
  rcases xs with _ | ⟨y, xs⟩
  · exact hF.elim
  rcases xs with _ | ⟨x_, xs⟩
  rotate_left
  · exact hF.elim
  have hF : kTNX s l x y hp := hF
  show kTNX s l x y hp'
  unfold kTNX at hF ⊢
  obtain ⟨ex, ax, qx⟩ := rr_fr (hp' := hp') hO h (.tail _ (.tail _ (.head _))) (by decide) (.tail _ (.tail _ (.tail _ (.head _)))) (by decide) rfl rfl
  obtain ⟨ey, ay, qy⟩ := rr_fr (hp' := hp') hO h (.tail _ (.tail _ (.head _))) (by decide) (.tail _ (.tail _ (.tail _ (.tail _ (.head _))))) (by decide) rfl rfl
  rw [ex, ey]
  intro i hi hs
  rw [hI_of (fv1 h (.head _) (c := rr hp 2 6) (j := i) ax qx (by omega) (by omega) (by omega)), hI_of (fv1 h (.tail _ (.head _)) (c := rr hp 2 7) (j := i) ay qy (by omega) (by omega) (by omega))]
  exact hF i hi hs
theorem frm95 (hO : hOk hp) (h : ∀ c j, c < tNC → fpIn 95 xs c j → hv hp' c j = hv hp c j) (hF : fB95 xs hp) : fB95 xs hp' := by
  rcases xs with _ | ⟨s, xs⟩
  · exact hF.elim
  rcases xs with _ | ⟨l, xs⟩
  · exact hF.elim
  rcases xs with _ | ⟨x, xs⟩
  · exact hF.elim
  rcases xs with _ | ⟨y, xs⟩
  · exact hF.elim
  rcases xs with _ | ⟨x_, xs⟩
  rotate_left
  · exact hF.elim
  have hF : kWNX s l x y hp := hF
  show kWNX s l x y hp'
  unfold kWNX at hF ⊢
  obtain ⟨eww, aww, qww⟩ := rrP_fr (hp' := hp') (j := 16) (r2 := 12) (r3 := 12) hO h (.tail _ (.tail _ (.head _))) (.tail _ (.tail _ (.tail _ (.head _)))) (.tail _ (.tail _ (.tail _ (.tail _ (.head _))))) rfl rfl
  have qww := qww.elim id id
  obtain ⟨ewf, awf, qwf⟩ := rrP_fr (hp' := hp') (j := 17) (r2 := 13) (r3 := 13) hO h (.tail _ (.tail _ (.head _))) (.tail _ (.tail _ (.tail _ (.tail _ (.tail _ (.head _)))))) (.tail _ (.tail _ (.tail _ (.tail _ (.tail _ (.tail _ (.head _))))))) rfl rfl
  have qwf := qwf.elim id id
  rw [eww, ewf]
  intro i hi hs
  rw [hI_of (fv1 h (.head _) (c := rr hp 1 16) (j := i) aww qww (by omega) (by omega) (by omega)), hI_of (fv1 h (.tail _ (.head _)) (c := rr hp 1 17) (j := i) awf qwf (by omega) (by omega) (by omega))]
  exact hF i hi hs
theorem frm96 (hO : hOk hp) (h : ∀ c j, c < tNC → fpIn 96 xs c j → hv hp' c j = hv hp c j) (hF : fB96 xs hp) : fB96 xs hp' := by
  rcases xs with _ | ⟨t, xs⟩
  · exact hF.elim
  rcases xs with _ | ⟨x, xs⟩
  · exact hF.elim
  rcases xs with _ | ⟨y, xs⟩
  · exact hF.elim
  rcases xs with _ | ⟨x_, xs⟩
  rotate_left
  · exact hF.elim
  have hF : kTRB t x y hp := hF
  show kTRB t x y hp'
  unfold kTRB at hF ⊢
  obtain ⟨ex, ax, qx⟩ := rr_fr (hp' := hp') hO h (.tail _ (.tail _ (.head _))) (by decide) (.tail _ (.tail _ (.tail _ (.head _)))) (by decide) rfl rfl
  obtain ⟨ey, ay, qy⟩ := rr_fr (hp' := hp') hO h (.tail _ (.tail _ (.head _))) (by decide) (.tail _ (.tail _ (.tail _ (.tail _ (.head _))))) (by decide) rfl rfl
  rw [ex, ey]
  obtain ⟨i, i1, i2, i3, i4⟩ := hF
  refine ⟨i, i1, i2, ?_, ?_⟩
  · rw [hI_of (fv0 h (.head _) (c := rr hp 2 6) (j := i) ax qx (by omega) (by omega))]; exact i3
  · rw [hI_of (fv0 h (.tail _ (.head _)) (c := rr hp 2 7) (j := i) ay qy (by omega) (by omega))]; exact i4
theorem frm97 (hO : hOk hp) (h : ∀ c j, c < tNC → fpIn 97 xs c j → hv hp' c j = hv hp c j) (hF : fB97 xs hp) : fB97 xs hp' := by
  rcases xs with _ | ⟨l, xs⟩
  · exact hF.elim
  rcases xs with _ | ⟨x, xs⟩
  · exact hF.elim
  rcases xs with _ | ⟨y, xs⟩
  · exact hF.elim
  rcases xs with _ | ⟨x_, xs⟩
  rotate_left
  · exact hF.elim
  have hF : kWLB l x y hp := hF
  show kWLB l x y hp'
  unfold kWLB at hF ⊢
  obtain ⟨ewr, awr, qwr⟩ := rr_fr (hp' := hp') hO h (.tail _ (.head _)) (by decide) (.tail _ (.tail _ (.head _))) (by decide) rfl rfl
  rw [fX3 h (.tail _ (.tail _ (.tail _ (.head _)))) (.tail _ (.tail _ (.tail _ (.tail _ (.head _))))) (.tail _ (.tail _ (.tail _ (.tail _ (.tail _ (.head _))))))]
  rw [ewr]
  refine dF_mp hF (fun D hD j hj => ?_)
  rw [hI_of (fv0 h (.head _) (c := rr hp 2 10) (j := j) awr qwr (by omega) (by omega))]
  exact hD j hj
theorem frm98 (hO : hOk hp) (h : ∀ c j, c < tNC → fpIn 98 xs c j → hv hp' c j = hv hp c j) (hF : fB98 xs hp) : fB98 xs hp' := by
  rcases xs with _ | ⟨s, xs⟩
  · exact hF.elim
  rcases xs with _ | ⟨l, xs⟩
  · exact hF.elim
  rcases xs with _ | ⟨x_, xs⟩
  rotate_left
  · exact hF.elim
  have hF : kWLL s l hp := hF
  show kWLL s l hp'
  unfold kWLL at hF ⊢
  obtain ⟨ewr, awr, qwr⟩ := rr_fr (hp' := hp') hO h (.tail _ (.head _)) (by decide) (.tail _ (.tail _ (.head _))) (by decide) rfl rfl
  rw [fX3 h (.tail _ (.tail _ (.tail _ (.head _)))) (.tail _ (.tail _ (.tail _ (.tail _ (.head _))))) (.tail _ (.tail _ (.tail _ (.tail _ (.tail _ (.head _))))))]
  rw [ewr]
  refine dF_mp hF (fun D hD j hj hs => ?_)
  rw [hI_of (fv1 h (.head _) (c := rr hp 2 10) (j := j) awr qwr (by omega) (by omega) (by omega))]
  exact hD j hj hs
theorem frm99 (hO : hOk hp) (h : ∀ c j, c < tNC → fpIn 99 xs c j → hv hp' c j = hv hp c j) (hF : fB99 xs hp) : fB99 xs hp' := by
  rcases xs with _ | ⟨s, xs⟩
  · exact hF.elim
  rcases xs with _ | ⟨l, xs⟩
  · exact hF.elim
  rcases xs with _ | ⟨x_, xs⟩
  rotate_left
  · exact hF.elim
  have hF : kWLH s l hp := hF
  show kWLH s l hp'
  unfold kWLH at hF ⊢
  obtain ⟨ewr, awr, qwr⟩ := rr_fr (hp' := hp') hO h (.tail _ (.head _)) (by decide) (.tail _ (.tail _ (.head _))) (by decide) rfl rfl
  rw [fX3 h (.tail _ (.tail _ (.tail _ (.head _)))) (.tail _ (.tail _ (.tail _ (.tail _ (.head _))))) (.tail _ (.tail _ (.tail _ (.tail _ (.tail _ (.head _))))))]
  rw [ewr]
  refine dF_mp hF (fun D hD j hj hs => ?_)
  rw [hI_of (fvS h (.head _) (c := rr hp 2 10) (j := j) awr qwr (by omega) (by omega) (by omega))]
  exact hD j hj hs
theorem frm100 (hO : hOk hp) (h : ∀ c j, c < tNC → fpIn 100 xs c j → hv hp' c j = hv hp c j) (hF : fB100 xs hp) : fB100 xs hp' := by
  rcases xs with _ | ⟨x_, xs⟩
  rotate_left
  · exact hF.elim
  have hF : kCLR hp := hF
  show kCLR hp'
  unfold kCLR at hF ⊢
  exact hF
theorem frm101 (hO : hOk hp) (h : ∀ c j, c < tNC → fpIn 101 xs c j → hv hp' c j = hv hp c j) (hF : fB101 xs hp) : fB101 xs hp' := by
  rcases xs with _ | ⟨s, xs⟩
  · exact hF.elim
  rcases xs with _ | ⟨x_, xs⟩
  rotate_left
  · exact hF.elim
  have hF : kFLN s hp := hF
  show kFLN s hp'
  unfold kFLN at hF ⊢
  obtain ⟨en, an, qn⟩ := rrP_fr (hp' := hp') (j := 7) (r2 := 3) (r3 := 99) hO h (.tail _ (.tail _ (.head _))) (.tail _ (.tail _ (.tail _ (.head _)))) (.tail _ (.tail _ (.tail _ (.tail _ (.head _))))) rfl rfl
  rw [en]
  intro j hj hs
  rw [hL_of (fvD1 h (.head _) (.tail _ (.head _)) (c := rr hp 1 7) (j := j) an qn (by omega) (by omega) (by omega))]
  exact hF j hj hs
theorem frm102 (hO : hOk hp) (h : ∀ c j, c < tNC → fpIn 102 xs c j → hv hp' c j = hv hp c j) (hF : fB102 xs hp) : fB102 xs hp' := by
  rcases xs with _ | ⟨x_, xs⟩
  rotate_left
  · exact hF.elim
  have hF : kFNN hp := hF
  show kFNN hp'
  unfold kFNN at hF ⊢
  obtain ⟨en, an, qn⟩ := rrP_fr (hp' := hp') (j := 7) (r2 := 3) (r3 := 99) hO h (.tail _ (.tail _ (.head _))) (.tail _ (.tail _ (.tail _ (.head _)))) (.tail _ (.tail _ (.tail _ (.tail _ (.head _))))) rfl rfl
  rw [en]
  intro j hj
  rw [hL_of (fvD0 h (.head _) (.tail _ (.head _)) (c := rr hp 1 7) (j := j) an qn (by omega) (by omega))]
  exact hF j hj
theorem frm103 (hO : hOk hp) (h : ∀ c j, c < tNC → fpIn 103 xs c j → hv hp' c j = hv hp c j) (hF : fB103 xs hp) : fB103 xs hp' := by
  rcases xs with _ | ⟨s, xs⟩
  · exact hF.elim
  rcases xs with _ | ⟨x_, xs⟩
  rotate_left
  · exact hF.elim
  have hF : kFLO s hp := hF
  show kFLO s hp'
  unfold kFLO at hF ⊢
  obtain ⟨eo, ao, qo⟩ := rrP_fr (hp' := hp') (j := 8) (r2 := 4) (r3 := 4) hO h (.tail _ (.head _)) (.tail _ (.tail _ (.head _))) (.tail _ (.tail _ (.tail _ (.head _)))) rfl rfl
  have qo := qo.elim id id
  rw [eo]
  intro j hj hs
  rw [hI_of (fv1 h (.head _) (c := rr hp 1 8) (j := j) ao qo (by omega) (by omega) (by omega))]
  exact hF j hj hs
theorem frm104 (hO : hOk hp) (h : ∀ c j, c < tNC → fpIn 104 xs c j → hv hp' c j = hv hp c j) (hF : fB104 xs hp) : fB104 xs hp' := by
  rcases xs with _ | ⟨x_, xs⟩
  rotate_left
  · exact hF.elim
  have hF : kFNO hp := hF
  show kFNO hp'
  unfold kFNO at hF ⊢
  obtain ⟨eo, ao, qo⟩ := rrP_fr (hp' := hp') (j := 8) (r2 := 4) (r3 := 4) hO h (.tail _ (.head _)) (.tail _ (.tail _ (.head _))) (.tail _ (.tail _ (.tail _ (.head _)))) rfl rfl
  have qo := qo.elim id id
  rw [eo]
  intro j hj
  rw [hI_of (fv0 h (.head _) (c := rr hp 1 8) (j := j) ao qo (by omega) (by omega))]
  exact hF j hj
theorem frm105 (hO : hOk hp) (h : ∀ c j, c < tNC → fpIn 105 xs c j → hv hp' c j = hv hp c j) (hF : fB105 xs hp) : fB105 xs hp' := by
  rcases xs with _ | ⟨s, xs⟩
  · exact hF.elim
  rcases xs with _ | ⟨x_, xs⟩
  rotate_left
  · exact hF.elim
  have hF : kFLS s hp := hF
  show kFLS s hp'
  unfold kFLS at hF ⊢
  obtain ⟨es, as, qs⟩ := rrP_fr (hp' := hp') (j := 9) (r2 := 5) (r3 := 5) hO h (.tail _ (.head _)) (.tail _ (.tail _ (.head _))) (.tail _ (.tail _ (.tail _ (.head _)))) rfl rfl
  have qs := qs.elim id id
  rw [es]
  intro j hj hs
  rw [hI_of (fv1 h (.head _) (c := rr hp 1 9) (j := j) as qs (by omega) (by omega) (by omega))]
  exact hF j hj hs
theorem frm106 (hO : hOk hp) (h : ∀ c j, c < tNC → fpIn 106 xs c j → hv hp' c j = hv hp c j) (hF : fB106 xs hp) : fB106 xs hp' := by
  rcases xs with _ | ⟨x_, xs⟩
  rotate_left
  · exact hF.elim
  have hF : kFNS hp := hF
  show kFNS hp'
  unfold kFNS at hF ⊢
  obtain ⟨es, as, qs⟩ := rrP_fr (hp' := hp') (j := 9) (r2 := 5) (r3 := 5) hO h (.tail _ (.head _)) (.tail _ (.tail _ (.head _))) (.tail _ (.tail _ (.tail _ (.head _)))) rfl rfl
  have qs := qs.elim id id
  rw [es]
  intro j hj
  rw [hI_of (fv0 h (.head _) (c := rr hp 1 9) (j := j) as qs (by omega) (by omega))]
  exact hF j hj
theorem frm107 (hO : hOk hp) (h : ∀ c j, c < tNC → fpIn 107 xs c j → hv hp' c j = hv hp c j) (hF : fB107 xs hp) : fB107 xs hp' := by
  rcases xs with _ | ⟨s, xs⟩
  · exact hF.elim
  rcases xs with _ | ⟨x_, xs⟩
  rotate_left
  · exact hF.elim
  have hF : kFLW s hp := hF
  show kFLW s hp'
  unfold kFLW at hF ⊢
  obtain ⟨ewr, awr, qwr⟩ := rr_fr (hp' := hp') hO h (.tail _ (.head _)) (by decide) (.tail _ (.tail _ (.head _))) (by decide) rfl rfl
  rw [ewr]
  intro j hj hs
  rw [hI_of (fv1 h (.head _) (c := rr hp 2 10) (j := j) awr qwr (by omega) (by omega) (by omega))]
  exact hF j hj hs
theorem frm108 (hO : hOk hp) (h : ∀ c j, c < tNC → fpIn 108 xs c j → hv hp' c j = hv hp c j) (hF : fB108 xs hp) : fB108 xs hp' := by
  rcases xs with _ | ⟨x_, xs⟩
  rotate_left
  · exact hF.elim
  have hF : kFNW hp := hF
  show kFNW hp'
  unfold kFNW at hF ⊢
  obtain ⟨ewr, awr, qwr⟩ := rr_fr (hp' := hp') hO h (.tail _ (.head _)) (by decide) (.tail _ (.tail _ (.head _))) (by decide) rfl rfl
  rw [ewr]
  intro j hj
  rw [hI_of (fv0 h (.head _) (c := rr hp 2 10) (j := j) awr qwr (by omega) (by omega))]
  exact hF j hj
theorem frm109 (hO : hOk hp) (h : ∀ c j, c < tNC → fpIn 109 xs c j → hv hp' c j = hv hp c j) (hF : fB109 xs hp) : fB109 xs hp' := by
  rcases xs with _ | ⟨q, xs⟩
  · exact hF.elim
  rcases xs with _ | ⟨p, xs⟩
  · exact hF.elim
  rcases xs with _ | ⟨x_, xs⟩
  rotate_left
  · exact hF.elim
  have hF : kSKM q p hp := hF
  show kSKM q p hp'
  unfold kSKM at hF ⊢
  rw [(fM3 h (.head _) (.tail _ (.head _)) (.tail _ (.tail _ (.head _)))).1]
  exact hF
theorem frm110 (hO : hOk hp) (h : ∀ c j, c < tNC → fpIn 110 xs c j → hv hp' c j = hv hp c j) (hF : fB110 xs hp) : fB110 xs hp' := by
  rcases xs with _ | ⟨q, xs⟩
  · exact hF.elim
  rcases xs with _ | ⟨p, xs⟩
  · exact hF.elim
  rcases xs with _ | ⟨x_, xs⟩
  rotate_left
  · exact hF.elim
  have hF : kP1M q p hp := hF
  show kP1M q p hp'
  unfold kP1M at hF ⊢
  rw [(fM3 h (.head _) (.tail _ (.head _)) (.tail _ (.tail _ (.head _)))).1]
  exact hF
theorem frm111 (hO : hOk hp) (h : ∀ c j, c < tNC → fpIn 111 xs c j → hv hp' c j = hv hp c j) (hF : fB111 xs hp) : fB111 xs hp' := by
  rcases xs with _ | ⟨q, xs⟩
  · exact hF.elim
  rcases xs with _ | ⟨p, xs⟩
  · exact hF.elim
  rcases xs with _ | ⟨x_, xs⟩
  rotate_left
  · exact hF.elim
  have hF : kP2M q p hp := hF
  show kP2M q p hp'
  unfold kP2M at hF ⊢
  rw [(fM3 h (.head _) (.tail _ (.head _)) (.tail _ (.tail _ (.head _)))).1]
  exact hF
theorem frm112 (hO : hOk hp) (h : ∀ c j, c < tNC → fpIn 112 xs c j → hv hp' c j = hv hp c j) (hF : fB112 xs hp) : fB112 xs hp' := by
  rcases xs with _ | ⟨p, xs⟩
  · exact hF.elim
  rcases xs with _ | ⟨w, xs⟩
  · exact hF.elim
  rcases xs with _ | ⟨x_, xs⟩
  rotate_left
  · exact hF.elim
  have hF : kTPM p w hp := hF
  show kTPM p w hp'
  unfold kTPM at hF ⊢
  rw [(fM3 h (.head _) (.tail _ (.head _)) (.tail _ (.tail _ (.head _)))).2]
  exact hF
theorem frm113 (hO : hOk hp) (h : ∀ c j, c < tNC → fpIn 113 xs c j → hv hp' c j = hv hp c j) (hF : fB113 xs hp) : fB113 xs hp' := by
  rcases xs with _ | ⟨p, xs⟩
  · exact hF.elim
  rcases xs with _ | ⟨w, xs⟩
  · exact hF.elim
  rcases xs with _ | ⟨x_, xs⟩
  rotate_left
  · exact hF.elim
  have hF : kTP0 p w hp := hF
  show kTP0 p w hp'
  unfold kTP0 at hF ⊢
  rw [(fM3 h (.head _) (.tail _ (.head _)) (.tail _ (.tail _ (.head _)))).2]
  exact hF
theorem frm114 (hO : hOk hp) (h : ∀ c j, c < tNC → fpIn 114 xs c j → hv hp' c j = hv hp c j) (hF : fB114 xs hp) : fB114 xs hp' := by
  rcases xs with _ | ⟨a, xs⟩
  · exact hF.elim
  rcases xs with _ | ⟨p, xs⟩
  · exact hF.elim
  rcases xs with _ | ⟨t, xs⟩
  · exact hF.elim
  rcases xs with _ | ⟨o, xs⟩
  · exact hF.elim
  rcases xs with _ | ⟨y, xs⟩
  · exact hF.elim
  rcases xs with _ | ⟨x, xs⟩
  · exact hF.elim
  rcases xs with _ | ⟨w, xs⟩
  · exact hF.elim
  rcases xs with _ | ⟨x_, xs⟩
  rotate_left
  · exact hF.elim
  have hF : kRNM a p t o y x w hp := hF
  show kRNM a p t o y x w hp'
  unfold kRNM at hF ⊢
  rw [(fM3 h (.head _) (.tail _ (.head _)) (.tail _ (.tail _ (.head _)))).1]
  exact hF
theorem frm115 (hO : hOk hp) (h : ∀ c j, c < tNC → fpIn 115 xs c j → hv hp' c j = hv hp c j) (hF : fB115 xs hp) : fB115 xs hp' := by
  rcases xs with _ | ⟨a, xs⟩
  · exact hF.elim
  rcases xs with _ | ⟨p, xs⟩
  · exact hF.elim
  rcases xs with _ | ⟨t, xs⟩
  · exact hF.elim
  rcases xs with _ | ⟨o, xs⟩
  · exact hF.elim
  rcases xs with _ | ⟨y, xs⟩
  · exact hF.elim
  rcases xs with _ | ⟨x, xs⟩
  · exact hF.elim
  rcases xs with _ | ⟨w, xs⟩
  · exact hF.elim
  rcases xs with _ | ⟨x_, xs⟩
  rotate_left
  · exact hF.elim
  have hF : kRUM a p t o y x w hp := hF
  show kRUM a p t o y x w hp'
  unfold kRUM at hF ⊢
  rw [(fM3 h (.head _) (.tail _ (.head _)) (.tail _ (.tail _ (.head _)))).1]
  exact hF
theorem frm116 (hO : hOk hp) (h : ∀ c j, c < tNC → fpIn 116 xs c j → hv hp' c j = hv hp c j) (hF : fB116 xs hp) : fB116 xs hp' := by
  rcases xs with _ | ⟨q, xs⟩
  · exact hF.elim
  rcases xs with _ | ⟨k, xs⟩
  · exact hF.elim
  rcases xs with _ | ⟨a, xs⟩
  · exact hF.elim
  rcases xs with _ | ⟨z, xs⟩
  · exact hF.elim
  rcases xs with _ | ⟨v, xs⟩
  · exact hF.elim
  rcases xs with _ | ⟨x_, xs⟩
  rotate_left
  · exact hF.elim
  have hF : kTKM q k a z v hp := hF
  show kTKM q k a z v hp'
  unfold kTKM at hF ⊢
  rw [(fM3 h (.head _) (.tail _ (.head _)) (.tail _ (.tail _ (.head _)))).1]
  exact hF
theorem frm117 (hO : hOk hp) (h : ∀ c j, c < tNC → fpIn 117 xs c j → hv hp' c j = hv hp c j) (hF : fB117 xs hp) : fB117 xs hp' := by
  rcases xs with _ | ⟨q, xs⟩
  · exact hF.elim
  rcases xs with _ | ⟨a, xs⟩
  · exact hF.elim
  rcases xs with _ | ⟨z, xs⟩
  · exact hF.elim
  rcases xs with _ | ⟨x_, xs⟩
  rotate_left
  · exact hF.elim
  have hF : kTWM q a z hp := hF
  show kTWM q a z hp'
  unfold kTWM at hF ⊢
  rw [(fM3 h (.head _) (.tail _ (.head _)) (.tail _ (.tail _ (.head _)))).1]
  exact hF
theorem frm118 (hO : hOk hp) (h : ∀ c j, c < tNC → fpIn 118 xs c j → hv hp' c j = hv hp c j) (hF : fB118 xs hp) : fB118 xs hp' := by
  rcases xs with _ | ⟨q, xs⟩
  · exact hF.elim
  rcases xs with _ | ⟨c, xs⟩
  · exact hF.elim
  rcases xs with _ | ⟨l, xs⟩
  · exact hF.elim
  rcases xs with _ | ⟨e, xs⟩
  · exact hF.elim
  rcases xs with _ | ⟨f, xs⟩
  · exact hF.elim
  rcases xs with _ | ⟨g, xs⟩
  · exact hF.elim
  rcases xs with _ | ⟨h0, xs⟩
  · exact hF.elim
  rcases xs with _ | ⟨m, xs⟩
  · exact hF.elim
  rcases xs with _ | ⟨n, xs⟩
  · exact hF.elim
  rcases xs with _ | ⟨x_, xs⟩
  rotate_left
  · exact hF.elim
  have hF : kGM q c l e f g h0 m n hp := hF
  show kGM q c l e f g h0 m n hp'
  unfold kGM at hF ⊢
  rw [(fM3 h (.head _) (.tail _ (.head _)) (.tail _ (.tail _ (.head _)))).1]
  exact hF
theorem frm119 (hO : hOk hp) (h : ∀ c j, c < tNC → fpIn 119 xs c j → hv hp' c j = hv hp c j) (hF : fB119 xs hp) : fB119 xs hp' := by
  rcases xs with _ | ⟨q, xs⟩
  · exact hF.elim
  rcases xs with _ | ⟨c, xs⟩
  · exact hF.elim
  rcases xs with _ | ⟨l, xs⟩
  · exact hF.elim
  rcases xs with _ | ⟨e, xs⟩
  · exact hF.elim
  rcases xs with _ | ⟨f, xs⟩
  · exact hF.elim
  rcases xs with _ | ⟨g, xs⟩
  · exact hF.elim
  rcases xs with _ | ⟨h0, xs⟩
  · exact hF.elim
  rcases xs with _ | ⟨m, xs⟩
  · exact hF.elim
  rcases xs with _ | ⟨n, xs⟩
  · exact hF.elim
  rcases xs with _ | ⟨k, xs⟩
  · exact hF.elim
  rcases xs with _ | ⟨a, xs⟩
  · exact hF.elim
  rcases xs with _ | ⟨z, xs⟩
  · exact hF.elim
  rcases xs with _ | ⟨v, xs⟩
  · exact hF.elim
  rcases xs with _ | ⟨x_, xs⟩
  rotate_left
  · exact hF.elim
  have hF : kHM q c l e f g h0 m n k a z v hp := hF
  show kHM q c l e f g h0 m n k a z v hp'
  unfold kHM at hF ⊢
  rw [(fM3 h (.head _) (.tail _ (.head _)) (.tail _ (.tail _ (.head _)))).1]
  exact hF
theorem frm120 (hO : hOk hp) (h : ∀ c j, c < tNC → fpIn 120 xs c j → hv hp' c j = hv hp c j) (hF : fB120 xs hp) : fB120 xs hp' := by
  rcases xs with _ | ⟨k, xs⟩
  · exact hF.elim
  rcases xs with _ | ⟨p, xs⟩
  · exact hF.elim
  rcases xs with _ | ⟨x_, xs⟩
  rotate_left
  · exact hF.elim
  have hF : kRSM k p hp := hF
  show kRSM k p hp'
  unfold kRSM at hF ⊢
  rw [(fM3 h (.head _) (.tail _ (.head _)) (.tail _ (.tail _ (.head _)))).1]
  exact hF
theorem frm121 (hO : hOk hp) (h : ∀ c j, c < tNC → fpIn 121 xs c j → hv hp' c j = hv hp c j) (hF : fB121 xs hp) : fB121 xs hp' := by
  rcases xs with _ | ⟨q, xs⟩
  · exact hF.elim
  rcases xs with _ | ⟨x, xs⟩
  · exact hF.elim
  rcases xs with _ | ⟨y, xs⟩
  · exact hF.elim
  rcases xs with _ | ⟨x_, xs⟩
  rotate_left
  · exact hF.elim
  have hF : kENM q x y hp := hF
  show kENM q x y hp'
  unfold kENM at hF ⊢
  rw [(fM3 h (.head _) (.tail _ (.head _)) (.tail _ (.tail _ (.head _)))).1]
  exact hF
theorem frm122 (hO : hOk hp) (h : ∀ c j, c < tNC → fpIn 122 xs c j → hv hp' c j = hv hp c j) (hF : fB122 xs hp) : fB122 xs hp' := by
  rcases xs with _ | ⟨q, xs⟩
  · exact hF.elim
  rcases xs with _ | ⟨x_, xs⟩
  rotate_left
  · exact hF.elim
  have hF : kEWM q hp := hF
  show kEWM q hp'
  unfold kEWM at hF ⊢
  rw [(fM3 h (.head _) (.tail _ (.head _)) (.tail _ (.tail _ (.head _)))).1]
  exact hF
theorem frm123 (hO : hOk hp) (h : ∀ c j, c < tNC → fpIn 123 xs c j → hv hp' c j = hv hp c j) (hF : fB123 xs hp) : fB123 xs hp' := by
  rcases xs with _ | ⟨q, xs⟩
  · exact hF.elim
  rcases xs with _ | ⟨x, xs⟩
  · exact hF.elim
  rcases xs with _ | ⟨x_, xs⟩
  rotate_left
  · exact hF.elim
  have hF : kEOM q x hp := hF
  show kEOM q x hp'
  unfold kEOM at hF ⊢
  rw [(fM3 h (.head _) (.tail _ (.head _)) (.tail _ (.tail _ (.head _)))).1]
  exact hF
theorem frm124 (hO : hOk hp) (h : ∀ c j, c < tNC → fpIn 124 xs c j → hv hp' c j = hv hp c j) (hF : fB124 xs hp) : fB124 xs hp' := by
  rcases xs with _ | ⟨q, xs⟩
  · exact hF.elim
  rcases xs with _ | ⟨x_, xs⟩
  rotate_left
  · exact hF.elim
  have hF : kEFM q hp := hF
  show kEFM q hp'
  unfold kEFM at hF ⊢
  rw [(fM3 h (.head _) (.tail _ (.head _)) (.tail _ (.tail _ (.head _)))).1]
  exact hF
theorem frm125 (hO : hOk hp) (h : ∀ c j, c < tNC → fpIn 125 xs c j → hv hp' c j = hv hp c j) (hF : fB125 xs hp) : fB125 xs hp' := by
  rcases xs with _ | ⟨l, xs⟩
  · exact hF.elim
  rcases xs with _ | ⟨co, xs⟩
  · exact hF.elim
  rcases xs with _ | ⟨cs, xs⟩
  · exact hF.elim
  rcases xs with _ | ⟨ck, xs⟩
  · exact hF.elim
  rcases xs with _ | ⟨cw, xs⟩
  · exact hF.elim
  rcases xs with _ | ⟨ct, xs⟩
  · exact hF.elim
  rcases xs with _ | ⟨cu, xs⟩
  · exact hF.elim
  rcases xs with _ | ⟨cf, xs⟩
  · exact hF.elim
  rcases xs with _ | ⟨cz, xs⟩
  · exact hF.elim
  rcases xs with _ | ⟨cx, xs⟩
  · exact hF.elim
  rcases xs with _ | ⟨cy, xs⟩
  · exact hF.elim
  rcases xs with _ | ⟨x_, xs⟩
  rotate_left
  · exact hF.elim
  have hF : kCTM l co cs ck cw ct cu cf cz cx cy hp := hF
  show kCTM l co cs ck cw ct cu cf cz cx cy hp'
  unfold kCTM at hF ⊢
  rw [(fM3 h (.head _) (.tail _ (.head _)) (.tail _ (.tail _ (.head _)))).1]
  exact hF
theorem frm126 (hO : hOk hp) (h : ∀ c j, c < tNC → fpIn 126 xs c j → hv hp' c j = hv hp c j) (hF : fB126 xs hp) : fB126 xs hp' := by
  rcases xs with _ | ⟨x, xs⟩
  · exact hF.elim
  rcases xs with _ | ⟨l, xs⟩
  · exact hF.elim
  rcases xs with _ | ⟨a, xs⟩
  · exact hF.elim
  rcases xs with _ | ⟨z, xs⟩
  · exact hF.elim
  rcases xs with _ | ⟨i, xs⟩
  · exact hF.elim
  rcases xs with _ | ⟨x_, xs⟩
  rotate_left
  · exact hF.elim
  have hF : kFDM x l a z i hp := hF
  show kFDM x l a z i hp'
  unfold kFDM at hF ⊢
  rw [(fM3 h (.head _) (.tail _ (.head _)) (.tail _ (.tail _ (.head _)))).1]
  exact hF
theorem frm127 (hO : hOk hp) (h : ∀ c j, c < tNC → fpIn 127 xs c j → hv hp' c j = hv hp c j) (hF : fB127 xs hp) : fB127 xs hp' := by
  rcases xs with _ | ⟨l, xs⟩
  · exact hF.elim
  rcases xs with _ | ⟨a, xs⟩
  · exact hF.elim
  rcases xs with _ | ⟨z, xs⟩
  · exact hF.elim
  rcases xs with _ | ⟨i, xs⟩
  · exact hF.elim
  rcases xs with _ | ⟨x_, xs⟩
  rotate_left
  · exact hF.elim
  have hF : kSLM l a z i hp := hF
  show kSLM l a z i hp'
  unfold kSLM at hF ⊢
  rw [(fM3 h (.head _) (.tail _ (.head _)) (.tail _ (.tail _ (.head _)))).1]
  exact hF
theorem frm128 (hO : hOk hp) (h : ∀ c j, c < tNC → fpIn 128 xs c j → hv hp' c j = hv hp c j) (hF : fB128 xs hp) : fB128 xs hp' := by
  rcases xs with _ | ⟨x, xs⟩
  · exact hF.elim
  rcases xs with _ | ⟨k, xs⟩
  · exact hF.elim
  rcases xs with _ | ⟨x_, xs⟩
  rotate_left
  · exact hF.elim
  have hF : kANM x k hp := hF
  show kANM x k hp'
  unfold kANM at hF ⊢
  rw [(fM3 h (.head _) (.tail _ (.head _)) (.tail _ (.tail _ (.head _)))).1]
  exact hF
theorem frm129 (hO : hOk hp) (h : ∀ c j, c < tNC → fpIn 129 xs c j → hv hp' c j = hv hp c j) (hF : fB129 xs hp) : fB129 xs hp' := by
  rcases xs with _ | ⟨l, xs⟩
  · exact hF.elim
  rcases xs with _ | ⟨x_, xs⟩
  rotate_left
  · exact hF.elim
  have hF : kDNM l hp := hF
  show kDNM l hp'
  unfold kDNM at hF ⊢
  rw [(fM3 h (.head _) (.tail _ (.head _)) (.tail _ (.tail _ (.head _)))).1]
  exact hF
theorem frm130 (hO : hOk hp) (h : ∀ c j, c < tNC → fpIn 130 xs c j → hv hp' c j = hv hp c j) (hF : fB130 xs hp) : fB130 xs hp' := by
  rcases xs with _ | ⟨l, xs⟩
  · exact hF.elim
  rcases xs with _ | ⟨w, xs⟩
  · exact hF.elim
  rcases xs with _ | ⟨x_, xs⟩
  rotate_left
  · exact hF.elim
  have hF : kSZM l w hp := hF
  show kSZM l w hp'
  unfold kSZM at hF ⊢
  rw [(fM3 h (.head _) (.tail _ (.head _)) (.tail _ (.tail _ (.head _)))).1]
  exact hF
theorem frm131 (hO : hOk hp) (h : ∀ c j, c < tNC → fpIn 131 xs c j → hv hp' c j = hv hp c j) (hF : fB131 xs hp) : fB131 xs hp' := by
  rcases xs with _ | ⟨a, xs⟩
  · exact hF.elim
  rcases xs with _ | ⟨z, xs⟩
  · exact hF.elim
  rcases xs with _ | ⟨x_, xs⟩
  rotate_left
  · exact hF.elim
  have hF : kNMM a z hp := hF
  show kNMM a z hp'
  unfold kNMM at hF ⊢
  rw [(fM3 h (.head _) (.tail _ (.head _)) (.tail _ (.tail _ (.head _)))).1]
  rw [hL_of (fv0 h (.tail _ (.tail _ (.tail _ (.head _)))) (c := 273) (j := 17) (by decide) rfl (by decide) (by decide))]
  exact hF
theorem frm132 (hO : hOk hp) (h : ∀ c j, c < tNC → fpIn 132 xs c j → hv hp' c j = hv hp c j) (hF : fB132 xs hp) : fB132 xs hp' := by
  rcases xs with _ | ⟨x_, xs⟩
  rotate_left
  · exact hF.elim
  have hF : kRSV hp := hF
  show kRSV hp'
  unfold kRSV at hF ⊢
  intro i hi
  rw [hL_of (fv0 h (.head _) (c := 279) (j := i) (by decide) rfl (by omega) (by omega))]
  exact hF i hi
theorem frm133 (hO : hOk hp) (h : ∀ c j, c < tNC → fpIn 133 xs c j → hv hp' c j = hv hp c j) (hF : fB133 xs hp) : fB133 xs hp' := by
  rcases xs with _ | ⟨s, xs⟩
  · exact hF.elim
  rcases xs with _ | ⟨y, xs⟩
  · exact hF.elim
  rcases xs with _ | ⟨w, xs⟩
  · exact hF.elim
  rcases xs with _ | ⟨x_, xs⟩
  rotate_left
  · exact hF.elim
  have hF : kINM s y w hp := hF
  show kINM s y w hp'
  unfold kINM at hF ⊢
  rcases hF with ⟨y1, hF⟩ | ⟨y1, i, i1, i2, i3⟩
  · refine Or.inl ⟨y1, fun i hi hs => ?_⟩
    rw [hL_of (fv1 h (.head _) (c := 279) (j := i) (by decide) rfl (by omega) (by omega) (by omega))]
    exact hF i hi hs
  · refine Or.inr ⟨y1, i, i1, i2, ?_⟩
    rw [hL_of (fv1 h (.head _) (c := 279) (j := i) (by decide) rfl (by omega) (by omega) (by omega))]
    exact i3
theorem frm134 (hO : hOk hp) (h : ∀ c j, c < tNC → fpIn 134 xs c j → hv hp' c j = hv hp c j) (hF : fB134 xs hp) : fB134 xs hp' := by
  rcases xs with _ | ⟨x, xs⟩
  · exact hF.elim
  rcases xs with _ | ⟨y, xs⟩
  · exact hF.elim
  rcases xs with _ | ⟨x_, xs⟩
  rotate_left
  · exact hF.elim
  have hF : kRW x y hp := hF
  show kRW x y hp'
  unfold kRW at hF ⊢
  exact hF
theorem frm135 (hO : hOk hp) (h : ∀ c j, c < tNC → fpIn 135 xs c j → hv hp' c j = hv hp c j) (hF : fB135 xs hp) : fB135 xs hp' := by
  rcases xs with _ | ⟨l, xs⟩
  · exact hF.elim
  rcases xs with _ | ⟨a, xs⟩
  · exact hF.elim
  rcases xs with _ | ⟨z, xs⟩
  · exact hF.elim
  rcases xs with _ | ⟨x_, xs⟩
  rotate_left
  · exact hF.elim
  have hF : kOWN l a z hp := hF
  show kOWN l a z hp'
  unfold kOWN at hF ⊢
  rw [(fM3 h (.head _) (.tail _ (.head _)) (.tail _ (.tail _ (.head _)))).1]
  exact hF
theorem frm136 (hO : hOk hp) (h : ∀ c j, c < tNC → fpIn 136 xs c j → hv hp' c j = hv hp c j) (hF : fB136 xs hp) : fB136 xs hp' := by
  rcases xs with _ | ⟨l, xs⟩
  · exact hF.elim
  rcases xs with _ | ⟨x, xs⟩
  · exact hF.elim
  rcases xs with _ | ⟨y, xs⟩
  · exact hF.elim
  rcases xs with _ | ⟨w, xs⟩
  · exact hF.elim
  rcases xs with _ | ⟨h0, xs⟩
  · exact hF.elim
  rcases xs with _ | ⟨a, xs⟩
  · exact hF.elim
  rcases xs with _ | ⟨z, xs⟩
  · exact hF.elim
  rcases xs with _ | ⟨x_, xs⟩
  rotate_left
  · exact hF.elim
  have hF : kSTR l x y w h0 a z hp := hF
  show kSTR l x y w h0 a z hp'
  unfold kSTR at hF ⊢
  rw [(fM3 h (.head _) (.tail _ (.head _)) (.tail _ (.tail _ (.head _)))).1]
  exact hF
theorem frm137 (hO : hOk hp) (h : ∀ c j, c < tNC → fpIn 137 xs c j → hv hp' c j = hv hp c j) (hF : fB137 xs hp) : fB137 xs hp' := by
  rcases xs with _ | ⟨l, xs⟩
  · exact hF.elim
  rcases xs with _ | ⟨x, xs⟩
  · exact hF.elim
  rcases xs with _ | ⟨y, xs⟩
  · exact hF.elim
  rcases xs with _ | ⟨w, xs⟩
  · exact hF.elim
  rcases xs with _ | ⟨h0, xs⟩
  · exact hF.elim
  rcases xs with _ | ⟨x_, xs⟩
  rotate_left
  · exact hF.elim
  have hF : kFLD l x y w h0 hp := hF
  show kFLD l x y w h0 hp'
  unfold kFLD at hF ⊢
  rw [(fM3 h (.head _) (.tail _ (.head _)) (.tail _ (.tail _ (.head _)))).1]
  exact hF
theorem frm138 (hO : hOk hp) (h : ∀ c j, c < tNC → fpIn 138 xs c j → hv hp' c j = hv hp c j) (hF : fB138 xs hp) : fB138 xs hp' := by
  rcases xs with _ | ⟨l, xs⟩
  · exact hF.elim
  rcases xs with _ | ⟨a, xs⟩
  · exact hF.elim
  rcases xs with _ | ⟨z, xs⟩
  · exact hF.elim
  rcases xs with _ | ⟨x_, xs⟩
  rotate_left
  · exact hF.elim
  have hF : kKND l a z hp := hF
  show kKND l a z hp'
  unfold kKND at hF ⊢
  rw [(fM3 h (.head _) (.tail _ (.head _)) (.tail _ (.tail _ (.head _)))).1]
  exact hF
theorem frm139 (hO : hOk hp) (h : ∀ c j, c < tNC → fpIn 139 xs c j → hv hp' c j = hv hp c j) (hF : fB139 xs hp) : fB139 xs hp' := by
  rcases xs with _ | ⟨l, xs⟩
  · exact hF.elim
  rcases xs with _ | ⟨x, xs⟩
  · exact hF.elim
  rcases xs with _ | ⟨y, xs⟩
  · exact hF.elim
  rcases xs with _ | ⟨x_, xs⟩
  rotate_left
  · exact hF.elim
  have hF : kSIZ l x y hp := hF
  show kSIZ l x y hp'
  unfold kSIZ at hF ⊢
  rw [(fM3 h (.head _) (.tail _ (.head _)) (.tail _ (.tail _ (.head _)))).1]
  exact hF
theorem frm140 (hO : hOk hp) (h : ∀ c j, c < tNC → fpIn 140 xs c j → hv hp' c j = hv hp c j) (hF : fB140 xs hp) : fB140 xs hp' := by
  rcases xs with _ | ⟨l, xs⟩
  · exact hF.elim
  rcases xs with _ | ⟨x, xs⟩
  · exact hF.elim
  rcases xs with _ | ⟨y, xs⟩
  · exact hF.elim
  rcases xs with _ | ⟨x_, xs⟩
  rotate_left
  · exact hF.elim
  have hF : kWND l x y hp := hF
  show kWND l x y hp'
  unfold kWND at hF ⊢
  rw [(fM3 h (.head _) (.tail _ (.head _)) (.tail _ (.tail _ (.head _)))).1]
  exact hF
theorem frm141 (hO : hOk hp) (h : ∀ c j, c < tNC → fpIn 141 xs c j → hv hp' c j = hv hp c j) (hF : fB141 xs hp) : fB141 xs hp' := by
  rcases xs with _ | ⟨l, xs⟩
  · exact hF.elim
  rcases xs with _ | ⟨x, xs⟩
  · exact hF.elim
  rcases xs with _ | ⟨y, xs⟩
  · exact hF.elim
  rcases xs with _ | ⟨x_, xs⟩
  rotate_left
  · exact hF.elim
  have hF : kTRE l x y hp := hF
  show kTRE l x y hp'
  unfold kTRE at hF ⊢
  rw [(fM3 h (.head _) (.tail _ (.head _)) (.tail _ (.tail _ (.head _)))).1]
  exact hF
theorem frm142 (hO : hOk hp) (h : ∀ c j, c < tNC → fpIn 142 xs c j → hv hp' c j = hv hp c j) (hF : fB142 xs hp) : fB142 xs hp' := by
  rcases xs with _ | ⟨l, xs⟩
  · exact hF.elim
  rcases xs with _ | ⟨x, xs⟩
  · exact hF.elim
  rcases xs with _ | ⟨y, xs⟩
  · exact hF.elim
  rcases xs with _ | ⟨x_, xs⟩
  rotate_left
  · exact hF.elim
  have hF : kWAL l x y hp := hF
  show kWAL l x y hp'
  unfold kWAL at hF ⊢
  rw [(fM3 h (.head _) (.tail _ (.head _)) (.tail _ (.tail _ (.head _)))).1]
  exact hF
theorem frm143 (hO : hOk hp) (h : ∀ c j, c < tNC → fpIn 143 xs c j → hv hp' c j = hv hp c j) (hF : fB143 xs hp) : fB143 xs hp' := by
  rcases xs with _ | ⟨t, xs⟩
  · exact hF.elim
  rcases xs with _ | ⟨l, xs⟩
  · exact hF.elim
  rcases xs with _ | ⟨x_, xs⟩
  rotate_left
  · exact hF.elim
  have hF : kNA12 t l hp := hF
  show kNA12 t l hp'
  unfold kNA12 at hF ⊢
  rw [(fM3 h (.tail _ (.head _)) (.tail _ (.tail _ (.head _))) (.tail _ (.tail _ (.tail _ (.head _))))).1]
  refine dF_mp hF (fun D hD => ⟨hD.1, fun i hi hs => ?_⟩)
  rw [hL_of (fv1 h (.head _) (c := 278) (j := 12 + i) (by decide) rfl (by omega) (by omega) (by omega))]
  exact hD.2 i hi hs
theorem frm144 (hO : hOk hp) (h : ∀ c j, c < tNC → fpIn 144 xs c j → hv hp' c j = hv hp c j) (hF : fB144 xs hp) : fB144 xs hp' := by
  rcases xs with _ | ⟨s, xs⟩
  · exact hF.elim
  rcases xs with _ | ⟨w, xs⟩
  · exact hF.elim
  rcases xs with _ | ⟨x_, xs⟩
  rotate_left
  · exact hF.elim
  have hF : kFW12 s w hp := hF
  show kFW12 s w hp'
  unfold kFW12 at hF ⊢
  intro i hi hs
  rw [hL_of (fv1 h (.head _) (c := 278) (j := 12 + i) (by decide) rfl (by omega) (by omega) (by omega))]
  exact hF i hi hs
theorem frm145 (hO : hOk hp) (h : ∀ c j, c < tNC → fpIn 145 xs c j → hv hp' c j = hv hp c j) (hF : fB145 xs hp) : fB145 xs hp' := by
  rcases xs with _ | ⟨t, xs⟩
  · exact hF.elim
  rcases xs with _ | ⟨l, xs⟩
  · exact hF.elim
  rcases xs with _ | ⟨x_, xs⟩
  rotate_left
  · exact hF.elim
  have hF : kNA16 t l hp := hF
  show kNA16 t l hp'
  unfold kNA16 at hF ⊢
  rw [(fM3 h (.tail _ (.head _)) (.tail _ (.tail _ (.head _))) (.tail _ (.tail _ (.tail _ (.head _))))).1]
  refine dF_mp hF (fun D hD => ⟨hD.1, fun i hi hs => ?_⟩)
  rw [hL_of (fv1 h (.head _) (c := 278) (j := 16 + i) (by decide) rfl (by omega) (by omega) (by omega))]
  exact hD.2 i hi hs
theorem frm146 (hO : hOk hp) (h : ∀ c j, c < tNC → fpIn 146 xs c j → hv hp' c j = hv hp c j) (hF : fB146 xs hp) : fB146 xs hp' := by
  rcases xs with _ | ⟨s, xs⟩
  · exact hF.elim
  rcases xs with _ | ⟨w, xs⟩
  · exact hF.elim
  rcases xs with _ | ⟨x_, xs⟩
  rotate_left
  · exact hF.elim
  have hF : kFW16 s w hp := hF
  show kFW16 s w hp'
  unfold kFW16 at hF ⊢
  intro i hi hs
  rw [hL_of (fv1 h (.head _) (c := 278) (j := 16 + i) (by decide) rfl (by omega) (by omega) (by omega))]
  exact hF i hi hs
theorem frm147 (hO : hOk hp) (h : ∀ c j, c < tNC → fpIn 147 xs c j → hv hp' c j = hv hp c j) (hF : fB147 xs hp) : fB147 xs hp' := by
  rcases xs with _ | ⟨t, xs⟩
  · exact hF.elim
  rcases xs with _ | ⟨l, xs⟩
  · exact hF.elim
  rcases xs with _ | ⟨x_, xs⟩
  rotate_left
  · exact hF.elim
  have hF : kNA19 t l hp := hF
  show kNA19 t l hp'
  unfold kNA19 at hF ⊢
  rw [(fM3 h (.tail _ (.head _)) (.tail _ (.tail _ (.head _))) (.tail _ (.tail _ (.tail _ (.head _))))).1]
  refine dF_mp hF (fun D hD => ⟨hD.1, fun i hi hs => ?_⟩)
  rw [hL_of (fv1 h (.head _) (c := 278) (j := 19 + i) (by decide) rfl (by omega) (by omega) (by omega))]
  exact hD.2 i hi hs
theorem frm148 (hO : hOk hp) (h : ∀ c j, c < tNC → fpIn 148 xs c j → hv hp' c j = hv hp c j) (hF : fB148 xs hp) : fB148 xs hp' := by
  rcases xs with _ | ⟨s, xs⟩
  · exact hF.elim
  rcases xs with _ | ⟨w, xs⟩
  · exact hF.elim
  rcases xs with _ | ⟨x_, xs⟩
  rotate_left
  · exact hF.elim
  have hF : kFW19 s w hp := hF
  show kFW19 s w hp'
  unfold kFW19 at hF ⊢
  intro i hi hs
  rw [hL_of (fv1 h (.head _) (c := 278) (j := 19 + i) (by decide) rfl (by omega) (by omega) (by omega))]
  exact hF i hi hs
theorem frm149 (hO : hOk hp) (h : ∀ c j, c < tNC → fpIn 149 xs c j → hv hp' c j = hv hp c j) (hF : fB149 xs hp) : fB149 xs hp' := by
  rcases xs with _ | ⟨s, xs⟩
  · exact hF.elim
  rcases xs with _ | ⟨a, xs⟩
  · exact hF.elim
  rcases xs with _ | ⟨z, xs⟩
  · exact hF.elim
  rcases xs with _ | ⟨x_, xs⟩
  rotate_left
  · exact hF.elim
  have hF : kNBM s a z hp := hF
  show kNBM s a z hp'
  unfold kNBM at hF ⊢
  rw [(fM3 h (.tail _ (.head _)) (.tail _ (.tail _ (.head _))) (.tail _ (.tail _ (.tail _ (.head _))))).1]
  obtain ⟨i, i1, i2, i3, i4⟩ := hF
  refine ⟨i, i1, i2, i3, ?_⟩
  rw [hL_of (fv0 h (.head _) (c := 278) (j := i) (by decide) rfl (by omega) (by omega))]
  exact i4
theorem frm150 (hO : hOk hp) (h : ∀ c j, c < tNC → fpIn 150 xs c j → hv hp' c j = hv hp c j) (hF : fB150 xs hp) : fB150 xs hp' := by
  rcases xs with _ | ⟨q, xs⟩
  · exact hF.elim
  rcases xs with _ | ⟨x_, xs⟩
  rotate_left
  · exact hF.elim
  have hF : kNOM q hp := hF
  show kNOM q hp'
  unfold kNOM at hF ⊢
  rw [(fM3 h (.head _) (.tail _ (.head _)) (.tail _ (.tail _ (.head _)))).1]
  exact hF
theorem frm151 (hO : hOk hp) (h : ∀ c j, c < tNC → fpIn 151 xs c j → hv hp' c j = hv hp c j) (hF : fB151 xs hp) : fB151 xs hp' := by
  rcases xs with _ | ⟨l, xs⟩
  · exact hF.elim
  rcases xs with _ | ⟨a, xs⟩
  · exact hF.elim
  rcases xs with _ | ⟨z, xs⟩
  · exact hF.elim
  rcases xs with _ | ⟨i, xs⟩
  · exact hF.elim
  rcases xs with _ | ⟨x_, xs⟩
  rotate_left
  · exact hF.elim
  have hF : kFD12 l a z i hp := hF
  show kFD12 l a z i hp'
  unfold kFD12 at hF ⊢
  rw [(fM3 h (.head _) (.tail _ (.head _)) (.tail _ (.tail _ (.head _)))).1]
  exact hF
theorem frm152 (hO : hOk hp) (h : ∀ c j, c < tNC → fpIn 152 xs c j → hv hp' c j = hv hp c j) (hF : fB152 xs hp) : fB152 xs hp' := by
  rcases xs with _ | ⟨l, xs⟩
  · exact hF.elim
  rcases xs with _ | ⟨a, xs⟩
  · exact hF.elim
  rcases xs with _ | ⟨z, xs⟩
  · exact hF.elim
  rcases xs with _ | ⟨i, xs⟩
  · exact hF.elim
  rcases xs with _ | ⟨x_, xs⟩
  rotate_left
  · exact hF.elim
  have hF : kFD16 l a z i hp := hF
  show kFD16 l a z i hp'
  unfold kFD16 at hF ⊢
  rw [(fM3 h (.head _) (.tail _ (.head _)) (.tail _ (.tail _ (.head _)))).1]
  exact hF
theorem frm153 (hO : hOk hp) (h : ∀ c j, c < tNC → fpIn 153 xs c j → hv hp' c j = hv hp c j) (hF : fB153 xs hp) : fB153 xs hp' := by
  rcases xs with _ | ⟨l, xs⟩
  · exact hF.elim
  rcases xs with _ | ⟨a, xs⟩
  · exact hF.elim
  rcases xs with _ | ⟨z, xs⟩
  · exact hF.elim
  rcases xs with _ | ⟨i, xs⟩
  · exact hF.elim
  rcases xs with _ | ⟨x_, xs⟩
  rotate_left
  · exact hF.elim
  have hF : kFD19 l a z i hp := hF
  show kFD19 l a z i hp'
  unfold kFD19 at hF ⊢
  rw [(fM3 h (.head _) (.tail _ (.head _)) (.tail _ (.tail _ (.head _)))).1]
  exact hF
theorem frm154 (hO : hOk hp) (h : ∀ c j, c < tNC → fpIn 154 xs c j → hv hp' c j = hv hp c j) (hF : fB154 xs hp) : fB154 xs hp' := by
  rcases xs with _ | ⟨l, xs⟩
  · exact hF.elim
  rcases xs with _ | ⟨x_, xs⟩
  rotate_left
  · exact hF.elim
  have hF : kTAM l hp := hF
  show kTAM l hp'
  unfold kTAM at hF ⊢
  rw [(fM3 h (.tail _ (.head _)) (.tail _ (.tail _ (.head _))) (.tail _ (.tail _ (.tail _ (.head _))))).1]
  refine dF_mp hF (fun D hD p hp_ => ?_)
  have u := hD p hp_
  unfold fM at u ⊢
  rw [hI_of (fv0 h (.head _) (c := 276) (j := 7 + p) (by decide) rfl (by omega) (by omega)), hI_of (fv0 h (.head _) (c := 276) (j := 107 + p) (by decide) rfl (by omega) (by omega))]
  exact u
theorem frm155 (hO : hOk hp) (h : ∀ c j, c < tNC → fpIn 155 xs c j → hv hp' c j = hv hp c j) (hF : fB155 xs hp) : fB155 xs hp' := by
  rcases xs with _ | ⟨s, xs⟩
  · exact hF.elim
  rcases xs with _ | ⟨l, xs⟩
  · exact hF.elim
  rcases xs with _ | ⟨x, xs⟩
  · exact hF.elim
  rcases xs with _ | ⟨y, xs⟩
  · exact hF.elim
  rcases xs with _ | ⟨w, xs⟩
  · exact hF.elim
  rcases xs with _ | ⟨h0, xs⟩
  · exact hF.elim
  rcases xs with _ | ⟨x_, xs⟩
  rotate_left
  · exact hF.elim
  have hF : kTLM s l x y w h0 hp := hF
  show kTLM s l x y w h0 hp'
  unfold kTLM at hF ⊢
  rw [(fM3 h (.tail _ (.tail _ (.head _))) (.tail _ (.tail _ (.tail _ (.head _)))) (.tail _ (.tail _ (.tail _ (.tail _ (.head _)))))).1]
  refine dF_mp hF (fun D hD p hp_ hs => ?_)
  have u := hD p hp_ hs
  unfold fM at u ⊢
  rw [hI_of (fv1 h (.head _) (c := 276) (j := 7 + p) (by decide) rfl (by omega) (by omega) (by omega)), hI_of (fv1 h (.tail _ (.head _)) (c := 276) (j := 107 + p) (by decide) rfl (by omega) (by omega) (by omega))]
  exact u
theorem frm156 (hO : hOk hp) (h : ∀ c j, c < tNC → fpIn 156 xs c j → hv hp' c j = hv hp c j) (hF : fB156 xs hp) : fB156 xs hp' := by
  rcases xs with _ | ⟨s, xs⟩
  · exact hF.elim
  rcases xs with _ | ⟨l, xs⟩
  · exact hF.elim
  rcases xs with _ | ⟨x_, xs⟩
  rotate_left
  · exact hF.elim
  have hF : kTHM s l hp := hF
  show kTHM s l hp'
  unfold kTHM at hF ⊢
  rw [(fM3 h (.tail _ (.tail _ (.head _))) (.tail _ (.tail _ (.tail _ (.head _)))) (.tail _ (.tail _ (.tail _ (.tail _ (.head _)))))).1]
  refine dF_mp hF (fun D hD p hp_ hs => ?_)
  have u := hD p hp_ hs
  unfold fM at u ⊢
  rw [hI_of (fvS h (.head _) (c := 276) (j := 7 + p) (by decide) rfl (by omega) (by omega) (by omega)), hI_of (fvS h (.tail _ (.head _)) (c := 276) (j := 107 + p) (by decide) rfl (by omega) (by omega) (by omega))]
  exact u
theorem frm157 (hO : hOk hp) (h : ∀ c j, c < tNC → fpIn 157 xs c j → hv hp' c j = hv hp c j) (hF : fB157 xs hp) : fB157 xs hp' := by
  rcases xs with _ | ⟨l, xs⟩
  · exact hF.elim
  rcases xs with _ | ⟨x, xs⟩
  · exact hF.elim
  rcases xs with _ | ⟨y, xs⟩
  · exact hF.elim
  rcases xs with _ | ⟨w, xs⟩
  · exact hF.elim
  rcases xs with _ | ⟨h0, xs⟩
  · exact hF.elim
  rcases xs with _ | ⟨x_, xs⟩
  rotate_left
  · exact hF.elim
  have hF : kTBM l x y w h0 hp := hF
  show kTBM l x y w h0 hp'
  unfold kTBM at hF ⊢
  rw [(fM3 h (.tail _ (.head _)) (.tail _ (.tail _ (.head _))) (.tail _ (.tail _ (.tail _ (.head _))))).1]
  refine dF_mp hF (fun D hD p hp_ => ?_)
  have u := hD p hp_
  unfold fM at u ⊢
  rw [hI_of (fv0 h (.head _) (c := 276) (j := 7 + p) (by decide) rfl (by omega) (by omega)), hI_of (fv0 h (.head _) (c := 276) (j := 107 + p) (by decide) rfl (by omega) (by omega))]
  exact u
theorem frm158 (hO : hOk hp) (h : ∀ c j, c < tNC → fpIn 158 xs c j → hv hp' c j = hv hp c j) (hF : fB158 xs hp) : fB158 xs hp' := by
  rcases xs with _ | ⟨s, xs⟩
  · exact hF.elim
  rcases xs with _ | ⟨l, xs⟩
  · exact hF.elim
  rcases xs with _ | ⟨x, xs⟩
  · exact hF.elim
  rcases xs with _ | ⟨y, xs⟩
  · exact hF.elim
  rcases xs with _ | ⟨w, xs⟩
  · exact hF.elim
  rcases xs with _ | ⟨h0, xs⟩
  · exact hF.elim
  rcases xs with _ | ⟨x_, xs⟩
  rotate_left
  · exact hF.elim
  have hF : kSCM s l x y w h0 hp := hF
  show kSCM s l x y w h0 hp'
  unfold kSCM at hF ⊢
  rw [(fM3 h (.tail _ (.head _)) (.tail _ (.tail _ (.head _))) (.tail _ (.tail _ (.tail _ (.head _))))).1]
  exact hF
theorem frm159 (hO : hOk hp) (h : ∀ c j, c < tNC → fpIn 159 xs c j → hv hp' c j = hv hp c j) (hF : fB159 xs hp) : fB159 xs hp' := by
  rcases xs with _ | ⟨t, xs⟩
  · exact hF.elim
  rcases xs with _ | ⟨l, xs⟩
  · exact hF.elim
  rcases xs with _ | ⟨x_, xs⟩
  rotate_left
  · exact hF.elim
  have hF : kTRM t l hp := hF
  show kTRM t l hp'
  unfold kTRM at hF ⊢
  rw [(fM3 h (.tail _ (.tail _ (.head _))) (.tail _ (.tail _ (.tail _ (.head _)))) (.tail _ (.tail _ (.tail _ (.tail _ (.head _)))))).1]
  refine dF_mp hF (fun D hD => ⟨hD.1, fun i hi hs => ?_⟩)
  rw [hI_of (fv1 h (.head _) (c := 276) (j := 272 + i) (by decide) rfl (by omega) (by omega) (by omega)), hI_of (fv1 h (.tail _ (.head _)) (c := 276) (j := 286 + i) (by decide) rfl (by omega) (by omega) (by omega))]
  exact hD.2 i hi hs
theorem frm160 (hO : hOk hp) (h : ∀ c j, c < tNC → fpIn 160 xs c j → hv hp' c j = hv hp c j) (hF : fB160 xs hp) : fB160 xs hp' := by
  rcases xs with _ | ⟨t, xs⟩
  · exact hF.elim
  rcases xs with _ | ⟨x, xs⟩
  · exact hF.elim
  rcases xs with _ | ⟨y, xs⟩
  · exact hF.elim
  rcases xs with _ | ⟨x_, xs⟩
  rotate_left
  · exact hF.elim
  have hF : kTRBM t x y hp := hF
  show kTRBM t x y hp'
  unfold kTRBM at hF ⊢
  obtain ⟨i, i1, i2, i3, i4⟩ := hF
  refine ⟨i, i1, i2, ?_, ?_⟩
  · rw [hI_of (fv0 h (.head _) (c := 276) (j := 272 + i) (by decide) rfl (by omega) (by omega))]; exact i3
  · rw [hI_of (fv0 h (.head _) (c := 276) (j := 286 + i) (by decide) rfl (by omega) (by omega))]; exact i4
theorem frm161 (hO : hOk hp) (h : ∀ c j, c < tNC → fpIn 161 xs c j → hv hp' c j = hv hp c j) (hF : fB161 xs hp) : fB161 xs hp' := by
  rcases xs with _ | ⟨s, xs⟩
  · exact hF.elim
  rcases xs with _ | ⟨b, xs⟩
  · exact hF.elim
  rcases xs with _ | ⟨l, xs⟩
  · exact hF.elim
  rcases xs with _ | ⟨x, xs⟩
  · exact hF.elim
  rcases xs with _ | ⟨y, xs⟩
  · exact hF.elim
  rcases xs with _ | ⟨x_, xs⟩
  rotate_left
  · exact hF.elim
  have hF : kTHD s b l x y hp := hF
  show kTHD s b l x y hp'
  unfold kTHD at hF ⊢
  rw [(fM3 h (.tail _ (.tail _ (.head _))) (.tail _ (.tail _ (.tail _ (.head _)))) (.tail _ (.tail _ (.tail _ (.tail _ (.head _)))))).1]
  refine dF_mp hF (fun D hD => ?_)
  rcases hD with hD | ⟨b1, hD, hE⟩
  · exact Or.inl hD
  · refine Or.inr ⟨b1, hD, fun i hi hs => ?_⟩
    rw [hI_of (fv1 h (.head _) (c := 276) (j := 272 + i) (by decide) rfl (by omega) (by omega) (by omega)), hI_of (fv1 h (.tail _ (.head _)) (c := 276) (j := 286 + i) (by decide) rfl (by omega) (by omega) (by omega))]
    exact hE i hi hs
theorem frm162 (hO : hOk hp) (h : ∀ c j, c < tNC → fpIn 162 xs c j → hv hp' c j = hv hp c j) (hF : fB162 xs hp) : fB162 xs hp' := by
  rcases xs with _ | ⟨l, xs⟩
  · exact hF.elim
  rcases xs with _ | ⟨x_, xs⟩
  rotate_left
  · exact hF.elim
  have hF : kWLM l hp := hF
  show kWLM l hp'
  unfold kWLM at hF ⊢
  rw [(fM3 h (.tail _ (.head _)) (.tail _ (.tail _ (.head _))) (.tail _ (.tail _ (.tail _ (.head _))))).1]
  refine dF_mp hF (fun D hD p hp_ => ?_)
  rw [hI_of (fv0 h (.head _) (c := 276) (j := 300 + p) (by decide) rfl (by omega) (by omega))]
  exact hD p hp_
theorem frm163 (hO : hOk hp) (h : ∀ c j, c < tNC → fpIn 163 xs c j → hv hp' c j = hv hp c j) (hF : fB163 xs hp) : fB163 xs hp' := by
  rcases xs with _ | ⟨s, xs⟩
  · exact hF.elim
  rcases xs with _ | ⟨l, xs⟩
  · exact hF.elim
  rcases xs with _ | ⟨x_, xs⟩
  rotate_left
  · exact hF.elim
  have hF : kWPM s l hp := hF
  show kWPM s l hp'
  unfold kWPM at hF ⊢
  rw [(fM3 h (.tail _ (.head _)) (.tail _ (.tail _ (.head _))) (.tail _ (.tail _ (.tail _ (.head _))))).1]
  refine dF_mp hF (fun D hD p hp_ hs => ?_)
  rw [hI_of (fv1 h (.head _) (c := 276) (j := 300 + p) (by decide) rfl (by omega) (by omega) (by omega))]
  exact hD p hp_ hs
theorem frm164 (hO : hOk hp) (h : ∀ c j, c < tNC → fpIn 164 xs c j → hv hp' c j = hv hp c j) (hF : fB164 xs hp) : fB164 xs hp' := by
  rcases xs with _ | ⟨s, xs⟩
  · exact hF.elim
  rcases xs with _ | ⟨l, xs⟩
  · exact hF.elim
  rcases xs with _ | ⟨x_, xs⟩
  rotate_left
  · exact hF.elim
  have hF : kWQM s l hp := hF
  show kWQM s l hp'
  unfold kWQM at hF ⊢
  rw [(fM3 h (.tail _ (.head _)) (.tail _ (.tail _ (.head _))) (.tail _ (.tail _ (.tail _ (.head _))))).1]
  refine dF_mp hF (fun D hD p hp_ hs => ?_)
  rw [hI_of (fvS h (.head _) (c := 276) (j := 300 + p) (by decide) rfl (by omega) (by omega) (by omega))]
  exact hD p hp_ hs
theorem frm165 (hO : hOk hp) (h : ∀ c j, c < tNC → fpIn 165 xs c j → hv hp' c j = hv hp c j) (hF : fB165 xs hp) : fB165 xs hp' := by
  rcases xs with _ | ⟨l, xs⟩
  · exact hF.elim
  rcases xs with _ | ⟨x, xs⟩
  · exact hF.elim
  rcases xs with _ | ⟨y, xs⟩
  · exact hF.elim
  rcases xs with _ | ⟨x_, xs⟩
  rotate_left
  · exact hF.elim
  have hF : kWBM l x y hp := hF
  show kWBM l x y hp'
  unfold kWBM at hF ⊢
  rw [(fM3 h (.tail _ (.head _)) (.tail _ (.tail _ (.head _))) (.tail _ (.tail _ (.tail _ (.head _))))).1]
  refine dF_mp hF (fun D hD p hp_ => ?_)
  rw [hI_of (fv0 h (.head _) (c := 276) (j := 300 + p) (by decide) rfl (by omega) (by omega))]
  exact hD p hp_
theorem frm166 (hO : hOk hp) (h : ∀ c j, c < tNC → fpIn 166 xs c j → hv hp' c j = hv hp c j) (hF : fB166 xs hp) : fB166 xs hp' := by
  rcases xs with _ | ⟨t, xs⟩
  · exact hF.elim
  rcases xs with _ | ⟨l, xs⟩
  · exact hF.elim
  rcases xs with _ | ⟨x_, xs⟩
  rotate_left
  · exact hF.elim
  have hF : kWDM t l hp := hF
  show kWDM t l hp'
  unfold kWDM at hF ⊢
  rw [(fM3 h (.tail _ (.tail _ (.head _))) (.tail _ (.tail _ (.tail _ (.head _)))) (.tail _ (.tail _ (.tail _ (.tail _ (.head _)))))).1]
  refine dF_mp hF (fun D hD => ⟨hD.1, fun i hi hs => ?_⟩)
  rw [hI_of (fv1 h (.head _) (c := 276) (j := 234 + i) (by decide) rfl (by omega) (by omega) (by omega)), hI_of (fv1 h (.tail _ (.head _)) (c := 276) (j := 242 + i) (by decide) rfl (by omega) (by omega) (by omega))]
  exact hD.2 i hi hs
theorem frm167 (hO : hOk hp) (h : ∀ c j, c < tNC → fpIn 167 xs c j → hv hp' c j = hv hp c j) (hF : fB167 xs hp) : fB167 xs hp' := by
  rcases xs with _ | ⟨s, xs⟩
  · exact hF.elim
  rcases xs with _ | ⟨l, xs⟩
  · exact hF.elim
  rcases xs with _ | ⟨x, xs⟩
  · exact hF.elim
  rcases xs with _ | ⟨y, xs⟩
  · exact hF.elim
  rcases xs with _ | ⟨x_, xs⟩
  rotate_left
  · exact hF.elim
  have hF : kWNM s l x y hp := hF
  show kWNM s l x y hp'
  unfold kWNM at hF ⊢
  intro i hi hs
  rw [hI_of (fv1 h (.head _) (c := 276) (j := 234 + i) (by decide) rfl (by omega) (by omega) (by omega)), hI_of (fv1 h (.tail _ (.head _)) (c := 276) (j := 242 + i) (by decide) rfl (by omega) (by omega) (by omega))]
  exact hF i hi hs
theorem frm168 (hO : hOk hp) (h : ∀ c j, c < tNC → fpIn 168 xs c j → hv hp' c j = hv hp c j) (hF : fB168 xs hp) : fB168 xs hp' := by
  rcases xs with _ | ⟨l, xs⟩
  · exact hF.elim
  rcases xs with _ | ⟨x, xs⟩
  · exact hF.elim
  rcases xs with _ | ⟨y, xs⟩
  · exact hF.elim
  rcases xs with _ | ⟨w, xs⟩
  · exact hF.elim
  rcases xs with _ | ⟨h0, xs⟩
  · exact hF.elim
  rcases xs with _ | ⟨x_, xs⟩
  rotate_left
  · exact hF.elim
  have hF : kATM l x y w h0 hp := hF
  show kATM l x y w h0 hp'
  unfold kATM at hF ⊢
  rw [(fM3 h (.head _) (.tail _ (.head _)) (.tail _ (.tail _ (.head _)))).1]
  exact hF
theorem frm169 (hO : hOk hp) (h : ∀ c j, c < tNC → fpIn 169 xs c j → hv hp' c j = hv hp c j) (hF : fB169 xs hp) : fB169 xs hp' := by
  rcases xs with _ | ⟨l, xs⟩
  · exact hF.elim
  rcases xs with _ | ⟨x, xs⟩
  · exact hF.elim
  rcases xs with _ | ⟨y, xs⟩
  · exact hF.elim
  rcases xs with _ | ⟨w, xs⟩
  · exact hF.elim
  rcases xs with _ | ⟨h0, xs⟩
  · exact hF.elim
  rcases xs with _ | ⟨x_, xs⟩
  rotate_left
  · exact hF.elim
  have hF : kAFM l x y w h0 hp := hF
  show kAFM l x y w h0 hp'
  unfold kAFM at hF ⊢
  rw [(fM3 h (.head _) (.tail _ (.head _)) (.tail _ (.tail _ (.head _)))).1]
  exact hF
theorem frm170 (hO : hOk hp) (h : ∀ c j, c < tNC → fpIn 170 xs c j → hv hp' c j = hv hp c j) (hF : fB170 xs hp) : fB170 xs hp' := by
  rcases xs with _ | ⟨l, xs⟩
  · exact hF.elim
  rcases xs with _ | ⟨p, xs⟩
  · exact hF.elim
  rcases xs with _ | ⟨b, xs⟩
  · exact hF.elim
  rcases xs with _ | ⟨x_, xs⟩
  rotate_left
  · exact hF.elim
  have hF : kCEM l p b hp := hF
  show kCEM l p b hp'
  unfold kCEM at hF ⊢
  rw [(fM3 h (.head _) (.tail _ (.head _)) (.tail _ (.tail _ (.head _)))).1]
  exact hF
theorem frm171 (hO : hOk hp) (h : ∀ c j, c < tNC → fpIn 171 xs c j → hv hp' c j = hv hp c j) (hF : fB171 xs hp) : fB171 xs hp' := by
  rcases xs with _ | ⟨l, xs⟩
  · exact hF.elim
  rcases xs with _ | ⟨x, xs⟩
  · exact hF.elim
  rcases xs with _ | ⟨y, xs⟩
  · exact hF.elim
  rcases xs with _ | ⟨b, xs⟩
  · exact hF.elim
  rcases xs with _ | ⟨x_, xs⟩
  rotate_left
  · exact hF.elim
  have hF : kFRM l x y b hp := hF
  show kFRM l x y b hp'
  unfold kFRM at hF ⊢
  rw [(fM3 h (.head _) (.tail _ (.head _)) (.tail _ (.tail _ (.head _)))).1]
  exact hF
theorem frm172 (hO : hOk hp) (h : ∀ c j, c < tNC → fpIn 172 xs c j → hv hp' c j = hv hp c j) (hF : fB172 xs hp) : fB172 xs hp' := by
  rcases xs with _ | ⟨l, xs⟩
  · exact hF.elim
  rcases xs with _ | ⟨x, xs⟩
  · exact hF.elim
  rcases xs with _ | ⟨y, xs⟩
  · exact hF.elim
  rcases xs with _ | ⟨b, xs⟩
  · exact hF.elim
  rcases xs with _ | ⟨x_, xs⟩
  rotate_left
  · exact hF.elim
  have hF : kHWM l x y b hp := hF
  show kHWM l x y b hp'
  unfold kHWM at hF ⊢
  rw [(fM3 h (.head _) (.tail _ (.head _)) (.tail _ (.tail _ (.head _)))).1]
  exact hF
theorem frm173 (hO : hOk hp) (h : ∀ c j, c < tNC → fpIn 173 xs c j → hv hp' c j = hv hp c j) (hF : fB173 xs hp) : fB173 xs hp' := by
  rcases xs with _ | ⟨s, xs⟩
  · exact hF.elim
  rcases xs with _ | ⟨x_, xs⟩
  rotate_left
  · exact hF.elim
  have hF : kHZM s hp := hF
  show kHZM s hp'
  unfold kHZM at hF ⊢
  intro j hj hs
  rw [hI_of (fv1 h (.head _) (c := 276) (j := j) (by decide) rfl (by omega) (by omega) (by omega))]
  exact hF j hj hs
theorem frm174 (hO : hOk hp) (h : ∀ c j, c < tNC → fpIn 174 xs c j → hv hp' c j = hv hp c j) (hF : fB174 xs hp) : fB174 xs hp' := by
  rcases xs with _ | ⟨x_, xs⟩
  rotate_left
  · exact hF.elim
  have hF : kHZR hp := hF
  show kHZR hp'
  unfold kHZR at hF ⊢
  intro j h2 hj
  rw [hI_of (fv0 h (.head _) (c := 276) (j := j) (by decide) rfl (by omega) (by omega))]
  exact hF j h2 hj
theorem frm175 (hO : hOk hp) (h : ∀ c j, c < tNC → fpIn 175 xs c j → hv hp' c j = hv hp c j) (hF : fB175 xs hp) : fB175 xs hp' := by
  rcases xs with _ | ⟨l, xs⟩
  · exact hF.elim
  rcases xs with _ | ⟨x, xs⟩
  · exact hF.elim
  rcases xs with _ | ⟨y, xs⟩
  · exact hF.elim
  rcases xs with _ | ⟨x_, xs⟩
  rotate_left
  · exact hF.elim
  have hF : kCXM l x y hp := hF
  show kCXM l x y hp'
  unfold kCXM at hF ⊢
  rw [(fM3 h (.head _) (.tail _ (.head _)) (.tail _ (.tail _ (.head _)))).1]
  exact hF
theorem frm176 (hO : hOk hp) (h : ∀ c j, c < tNC → fpIn 176 xs c j → hv hp' c j = hv hp c j) (hF : fB176 xs hp) : fB176 xs hp' := by
  rcases xs with _ | ⟨t, xs⟩
  · exact hF.elim
  rcases xs with _ | ⟨x, xs⟩
  · exact hF.elim
  rcases xs with _ | ⟨y, xs⟩
  · exact hF.elim
  rcases xs with _ | ⟨x_, xs⟩
  rotate_left
  · exact hF.elim
  have hF : kWDBM t x y hp := hF
  show kWDBM t x y hp'
  unfold kWDBM at hF ⊢
  obtain ⟨i, i1, i2, i3, i4⟩ := hF
  refine ⟨i, i1, i2, ?_, ?_⟩
  · rw [hI_of (fv0 h (.head _) (c := 276) (j := 234 + i) (by decide) rfl (by omega) (by omega))]; exact i3
  · rw [hI_of (fv0 h (.head _) (c := 276) (j := 242 + i) (by decide) rfl (by omega) (by omega))]; exact i4
theorem frm177 (hO : hOk hp) (h : ∀ c j, c < tNC → fpIn 177 xs c j → hv hp' c j = hv hp c j) (hF : fB177 xs hp) : fB177 xs hp' := by
  rcases xs with _ | ⟨t, xs⟩
  · exact hF.elim
  rcases xs with _ | ⟨x_, xs⟩
  rotate_left
  · exact hF.elim
  have hF : kTEQ t hp := hF
  show kTEQ t hp'
  unfold kTEQ at hF ⊢
  intro i hi hs
  rw [hI_of (fv1 h (.head _) (c := 1) (j := i) (by decide) rfl (by omega) (by omega) (by omega)), hI_of (fv1 h (.tail _ (.head _)) (c := 274) (j := i) (by decide) rfl (by omega) (by omega) (by omega))]
  exact hF i hi hs
theorem frm178 (hO : hOk hp) (h : ∀ c j, c < tNC → fpIn 178 xs c j → hv hp' c j = hv hp c j) (hF : fB178 xs hp) : fB178 xs hp' := by
  rcases xs with _ | ⟨u, xs⟩
  · exact hF.elim
  rcases xs with _ | ⟨t, xs⟩
  · exact hF.elim
  rcases xs with _ | ⟨v, xs⟩
  · exact hF.elim
  rcases xs with _ | ⟨x_, xs⟩
  rotate_left
  · exact hF.elim
  have hF : kPX u t v hp := hF
  show kPX u t v hp'
  unfold kPX at hF ⊢
  obtain ⟨t1, t2, t3, hF⟩ := hF
  refine ⟨t1, t2, t3, fun k hk hs => ?_⟩
  have w := hF k hk hs
  show hI hp' 1 ((u - t).toNat + k) = b8 v k
  rw [hI_of (fv1 h (.head _) (c := 1) (j := (u - t).toNat + k) (by decide) rfl (by omega) (by omega) (by omega))]
  exact w
theorem frm179 (hO : hOk hp) (h : ∀ c j, c < tNC → fpIn 179 xs c j → hv hp' c j = hv hp c j) (hF : fB179 xs hp) : fB179 xs hp' := by
  rcases xs with _ | ⟨u, xs⟩
  · exact hF.elim
  rcases xs with _ | ⟨v, xs⟩
  · exact hF.elim
  rcases xs with _ | ⟨x_, xs⟩
  rotate_left
  · exact hF.elim
  have hF : kPB1 u v hp := hF
  show kPB1 u v hp'
  unfold kPB1 at hF ⊢
  obtain ⟨t1, t2, t3, hF⟩ := hF
  refine ⟨t1, t2, t3, fun k hk hs => ?_⟩
  have w := hF k hk hs
  show hI hp' 1 ((u - 4).toNat + k) = b8 v k
  rw [hI_of (fv1 h (.head _) (c := 1) (j := (u - 4).toNat + k) (by decide) rfl (by omega) (by omega) (by omega))]
  exact w
theorem frm180 (hO : hOk hp) (h : ∀ c j, c < tNC → fpIn 180 xs c j → hv hp' c j = hv hp c j) (hF : fB180 xs hp) : fB180 xs hp' := by
  rcases xs with _ | ⟨u, xs⟩
  · exact hF.elim
  rcases xs with _ | ⟨v, xs⟩
  · exact hF.elim
  rcases xs with _ | ⟨x_, xs⟩
  rotate_left
  · exact hF.elim
  have hF : kPB2 u v hp := hF
  show kPB2 u v hp'
  unfold kPB2 at hF ⊢
  obtain ⟨t1, t2, t3, hF⟩ := hF
  refine ⟨t1, t2, t3, fun k hk hs => ?_⟩
  have w := hF k hk hs
  show hI hp' 1 ((u - 4).toNat + k) = b8 v k
  rw [hI_of (fv1 h (.head _) (c := 1) (j := (u - 4).toNat + k) (by decide) rfl (by omega) (by omega) (by omega))]
  exact w
theorem frm181 (hO : hOk hp) (h : ∀ c j, c < tNC → fpIn 181 xs c j → hv hp' c j = hv hp c j) (hF : fB181 xs hp) : fB181 xs hp' := by
  rcases xs with _ | ⟨u, xs⟩
  · exact hF.elim
  rcases xs with _ | ⟨v, xs⟩
  · exact hF.elim
  rcases xs with _ | ⟨x_, xs⟩
  rotate_left
  · exact hF.elim
  have hF : kPB3 u v hp := hF
  show kPB3 u v hp'
  unfold kPB3 at hF ⊢
  obtain ⟨t1, t2, t3, hF⟩ := hF
  refine ⟨t1, t2, t3, fun k hk hs => ?_⟩
  have w := hF k hk hs
  show hI hp' 1 ((u - 4).toNat + k) = b8 v k
  rw [hI_of (fv1 h (.head _) (c := 1) (j := (u - 4).toNat + k) (by decide) rfl (by omega) (by omega) (by omega))]
  exact w
theorem frm182 (hO : hOk hp) (h : ∀ c j, c < tNC → fpIn 182 xs c j → hv hp' c j = hv hp c j) (hF : fB182 xs hp) : fB182 xs hp' := by
  rcases xs with _ | ⟨u, xs⟩
  · exact hF.elim
  rcases xs with _ | ⟨v, xs⟩
  · exact hF.elim
  rcases xs with _ | ⟨x_, xs⟩
  rotate_left
  · exact hF.elim
  have hF : kPB4 u v hp := hF
  show kPB4 u v hp'
  unfold kPB4 at hF ⊢
  obtain ⟨t1, t2, t3, hF⟩ := hF
  refine ⟨t1, t2, t3, fun k hk hs => ?_⟩
  have w := hF k hk hs
  show hI hp' 1 ((u - 4).toNat + k) = b8 v k
  rw [hI_of (fv1 h (.head _) (c := 1) (j := (u - 4).toNat + k) (by decide) rfl (by omega) (by omega) (by omega))]
  exact w
theorem frm183 (hO : hOk hp) (h : ∀ c j, c < tNC → fpIn 183 xs c j → hv hp' c j = hv hp c j) (hF : fB183 xs hp) : fB183 xs hp' := by
  rcases xs with _ | ⟨u, xs⟩
  · exact hF.elim
  rcases xs with _ | ⟨v, xs⟩
  · exact hF.elim
  rcases xs with _ | ⟨x_, xs⟩
  rotate_left
  · exact hF.elim
  have hF : kPB5 u v hp := hF
  show kPB5 u v hp'
  unfold kPB5 at hF ⊢
  obtain ⟨t1, t2, t3, hF⟩ := hF
  refine ⟨t1, t2, t3, fun k hk hs => ?_⟩
  have w := hF k hk hs
  show hI hp' 1 ((u - 4).toNat + k) = b8 v k
  rw [hI_of (fv1 h (.head _) (c := 1) (j := (u - 4).toNat + k) (by decide) rfl (by omega) (by omega) (by omega))]
  exact w
theorem frm184 (hO : hOk hp) (h : ∀ c j, c < tNC → fpIn 184 xs c j → hv hp' c j = hv hp c j) (hF : fB184 xs hp) : fB184 xs hp' := by
  rcases xs with _ | ⟨u, xs⟩
  · exact hF.elim
  rcases xs with _ | ⟨t, xs⟩
  · exact hF.elim
  rcases xs with _ | ⟨v, xs⟩
  · exact hF.elim
  rcases xs with _ | ⟨x_, xs⟩
  rotate_left
  · exact hF.elim
  have hF : kQX u t v hp := hF
  show kQX u t v hp'
  unfold kQX at hF ⊢
  obtain ⟨t1, t2, t3, hF⟩ := hF
  refine ⟨t1, t2, t3, fun k hk hs => ?_⟩
  have w := hF k hk hs
  show hI hp' 274 ((u - t).toNat + k) % 256 = b8 v k
  rw [hI_of (fv1 h (.head _) (c := 274) (j := (u - t).toNat + k) (by decide) rfl (by omega) (by omega) (by omega))]
  exact w
theorem frm185 (hO : hOk hp) (h : ∀ c j, c < tNC → fpIn 185 xs c j → hv hp' c j = hv hp c j) (hF : fB185 xs hp) : fB185 xs hp' := by
  rcases xs with _ | ⟨u, xs⟩
  · exact hF.elim
  rcases xs with _ | ⟨v, xs⟩
  · exact hF.elim
  rcases xs with _ | ⟨x_, xs⟩
  rotate_left
  · exact hF.elim
  have hF : kQB1 u v hp := hF
  show kQB1 u v hp'
  unfold kQB1 at hF ⊢
  obtain ⟨t1, t2, t3, hF⟩ := hF
  refine ⟨t1, t2, t3, fun k hk hs => ?_⟩
  have w := hF k hk hs
  show hI hp' 274 ((u - 4).toNat + k) % 256 = b8 v k
  rw [hI_of (fv1 h (.head _) (c := 274) (j := (u - 4).toNat + k) (by decide) rfl (by omega) (by omega) (by omega))]
  exact w
theorem frm186 (hO : hOk hp) (h : ∀ c j, c < tNC → fpIn 186 xs c j → hv hp' c j = hv hp c j) (hF : fB186 xs hp) : fB186 xs hp' := by
  rcases xs with _ | ⟨u, xs⟩
  · exact hF.elim
  rcases xs with _ | ⟨v, xs⟩
  · exact hF.elim
  rcases xs with _ | ⟨x_, xs⟩
  rotate_left
  · exact hF.elim
  have hF : kQB2 u v hp := hF
  show kQB2 u v hp'
  unfold kQB2 at hF ⊢
  obtain ⟨t1, t2, t3, hF⟩ := hF
  refine ⟨t1, t2, t3, fun k hk hs => ?_⟩
  have w := hF k hk hs
  show hI hp' 274 ((u - 4).toNat + k) % 256 = b8 v k
  rw [hI_of (fv1 h (.head _) (c := 274) (j := (u - 4).toNat + k) (by decide) rfl (by omega) (by omega) (by omega))]
  exact w
theorem frm187 (hO : hOk hp) (h : ∀ c j, c < tNC → fpIn 187 xs c j → hv hp' c j = hv hp c j) (hF : fB187 xs hp) : fB187 xs hp' := by
  rcases xs with _ | ⟨u, xs⟩
  · exact hF.elim
  rcases xs with _ | ⟨v, xs⟩
  · exact hF.elim
  rcases xs with _ | ⟨x_, xs⟩
  rotate_left
  · exact hF.elim
  have hF : kQB3 u v hp := hF
  show kQB3 u v hp'
  unfold kQB3 at hF ⊢
  obtain ⟨t1, t2, t3, hF⟩ := hF
  refine ⟨t1, t2, t3, fun k hk hs => ?_⟩
  have w := hF k hk hs
  show hI hp' 274 ((u - 4).toNat + k) % 256 = b8 v k
  rw [hI_of (fv1 h (.head _) (c := 274) (j := (u - 4).toNat + k) (by decide) rfl (by omega) (by omega) (by omega))]
  exact w
theorem frm188 (hO : hOk hp) (h : ∀ c j, c < tNC → fpIn 188 xs c j → hv hp' c j = hv hp c j) (hF : fB188 xs hp) : fB188 xs hp' := by
  rcases xs with _ | ⟨u, xs⟩
  · exact hF.elim
  rcases xs with _ | ⟨v, xs⟩
  · exact hF.elim
  rcases xs with _ | ⟨x_, xs⟩
  rotate_left
  · exact hF.elim
  have hF : kQB4 u v hp := hF
  show kQB4 u v hp'
  unfold kQB4 at hF ⊢
  obtain ⟨t1, t2, t3, hF⟩ := hF
  refine ⟨t1, t2, t3, fun k hk hs => ?_⟩
  have w := hF k hk hs
  show hI hp' 274 ((u - 4).toNat + k) % 256 = b8 v k
  rw [hI_of (fv1 h (.head _) (c := 274) (j := (u - 4).toNat + k) (by decide) rfl (by omega) (by omega) (by omega))]
  exact w
theorem frm189 (hO : hOk hp) (h : ∀ c j, c < tNC → fpIn 189 xs c j → hv hp' c j = hv hp c j) (hF : fB189 xs hp) : fB189 xs hp' := by
  rcases xs with _ | ⟨u, xs⟩
  · exact hF.elim
  rcases xs with _ | ⟨v, xs⟩
  · exact hF.elim
  rcases xs with _ | ⟨x_, xs⟩
  rotate_left
  · exact hF.elim
  have hF : kQB5 u v hp := hF
  show kQB5 u v hp'
  unfold kQB5 at hF ⊢
  obtain ⟨t1, t2, t3, hF⟩ := hF
  refine ⟨t1, t2, t3, fun k hk hs => ?_⟩
  have w := hF k hk hs
  show hI hp' 274 ((u - 4).toNat + k) % 256 = b8 v k
  rw [hI_of (fv1 h (.head _) (c := 274) (j := (u - 4).toNat + k) (by decide) rfl (by omega) (by omega) (by omega))]
  exact w
theorem frm190 (hO : hOk hp) (h : ∀ c j, c < tNC → fpIn 190 xs c j → hv hp' c j = hv hp c j) (hF : fB190 xs hp) : fB190 xs hp' := by
  rcases xs with _ | ⟨t, xs⟩
  · exact hF.elim
  rcases xs with _ | ⟨a, xs⟩
  · exact hF.elim
  rcases xs with _ | ⟨b, xs⟩
  · exact hF.elim
  rcases xs with _ | ⟨c, xs⟩
  · exact hF.elim
  rcases xs with _ | ⟨d, xs⟩
  · exact hF.elim
  rcases xs with _ | ⟨e, xs⟩
  · exact hF.elim
  rcases xs with _ | ⟨x_, xs⟩
  rotate_left
  · exact hF.elim
  have hF : kFBX t a b c d e hp := hF
  show kFBX t a b c d e hp'
  unfold kFBX at hF ⊢
  obtain ⟨t1, t2, hF⟩ := hF
  refine ⟨t1, t2, fun k hk => ?_⟩
  rw [hI_of (fv0 h (.head _) (c := 1) (j := t.toNat + k) (by decide) rfl (by omega) (by omega)), hI_of (fv0 h (.head _) (c := 1) (j := t.toNat + 4 + k) (by decide) rfl (by omega) (by omega)), hI_of (fv0 h (.head _) (c := 1) (j := t.toNat + 8 + k) (by decide) rfl (by omega) (by omega)), hI_of (fv0 h (.head _) (c := 1) (j := t.toNat + 12 + k) (by decide) rfl (by omega) (by omega)), hI_of (fv0 h (.head _) (c := 1) (j := t.toNat + 16 + k) (by decide) rfl (by omega) (by omega))]
  exact hF k hk
theorem frm191 (hO : hOk hp) (h : ∀ c j, c < tNC → fpIn 191 xs c j → hv hp' c j = hv hp c j) (hF : fB191 xs hp) : fB191 xs hp' := by
  rcases xs with _ | ⟨q, xs⟩
  · exact hF.elim
  rcases xs with _ | ⟨c, xs⟩
  · exact hF.elim
  rcases xs with _ | ⟨o, xs⟩
  · exact hF.elim
  rcases xs with _ | ⟨t, xs⟩
  · exact hF.elim
  rcases xs with _ | ⟨x_, xs⟩
  rotate_left
  · exact hF.elim
  have hF : kSGX q c o t hp := hF
  show kSGX q c o t hp'
  unfold kSGX at hF ⊢
  rw [fX3 h (.head _) (.tail _ (.head _)) (.tail _ (.tail _ (.head _)))]
  rw [nmx_fr hO h (.tail _ (.tail _ (.tail _ (.tail _ (.tail _ (.tail _ (.tail _ (.head _)))))))) (.tail _ (.tail _ (.tail _ (.tail _ (.tail _ (.head _)))))) (.tail _ (.tail _ (.tail _ (.tail _ (.tail _ (.tail _ (.head _))))))) (.tail _ (.tail _ (.tail _ (.head _)))) (.tail _ (.tail _ (.tail _ (.tail _ (.head _)))))]
  exact hF
theorem frm192 (hO : hOk hp) (h : ∀ c j, c < tNC → fpIn 192 xs c j → hv hp' c j = hv hp c j) (hF : fB192 xs hp) : fB192 xs hp' := by
  rcases xs with _ | ⟨q, xs⟩
  · exact hF.elim
  rcases xs with _ | ⟨c, xs⟩
  · exact hF.elim
  rcases xs with _ | ⟨o, xs⟩
  · exact hF.elim
  rcases xs with _ | ⟨t, xs⟩
  · exact hF.elim
  rcases xs with _ | ⟨k, xs⟩
  · exact hF.elim
  rcases xs with _ | ⟨a, xs⟩
  · exact hF.elim
  rcases xs with _ | ⟨z, xs⟩
  · exact hF.elim
  rcases xs with _ | ⟨v, xs⟩
  · exact hF.elim
  rcases xs with _ | ⟨x_, xs⟩
  rotate_left
  · exact hF.elim
  have hF : kSHX q c o t k a z v hp := hF
  show kSHX q c o t k a z v hp'
  unfold kSHX at hF ⊢
  rw [fX3 h (.head _) (.tail _ (.head _)) (.tail _ (.tail _ (.head _)))]
  rw [nmx_fr hO h (.tail _ (.tail _ (.tail _ (.tail _ (.tail _ (.tail _ (.tail _ (.head _)))))))) (.tail _ (.tail _ (.tail _ (.tail _ (.tail _ (.head _)))))) (.tail _ (.tail _ (.tail _ (.tail _ (.tail _ (.tail _ (.head _))))))) (.tail _ (.tail _ (.tail _ (.head _)))) (.tail _ (.tail _ (.tail _ (.tail _ (.head _)))))]
  exact hF
theorem frm193 (hO : hOk hp) (h : ∀ c j, c < tNC → fpIn 193 xs c j → hv hp' c j = hv hp c j) (hF : fB193 xs hp) : fB193 xs hp' := by
  rcases xs with _ | ⟨k, xs⟩
  · exact hF.elim
  rcases xs with _ | ⟨p, xs⟩
  · exact hF.elim
  rcases xs with _ | ⟨x_, xs⟩
  rotate_left
  · exact hF.elim
  have hF : kSRX k p hp := hF
  show kSRX k p hp'
  unfold kSRX at hF ⊢
  rw [fX3 h (.head _) (.tail _ (.head _)) (.tail _ (.tail _ (.head _)))]
  rw [nmx_fr hO h (.tail _ (.tail _ (.tail _ (.tail _ (.tail _ (.tail _ (.tail _ (.head _)))))))) (.tail _ (.tail _ (.tail _ (.tail _ (.tail _ (.head _)))))) (.tail _ (.tail _ (.tail _ (.tail _ (.tail _ (.tail _ (.head _))))))) (.tail _ (.tail _ (.tail _ (.head _)))) (.tail _ (.tail _ (.tail _ (.tail _ (.head _)))))]
  exact hF
theorem frm194 (hO : hOk hp) (h : ∀ c j, c < tNC → fpIn 194 xs c j → hv hp' c j = hv hp c j) (hF : fB194 xs hp) : fB194 xs hp' := by
  rcases xs with _ | ⟨a, xs⟩
  · exact hF.elim
  rcases xs with _ | ⟨z, xs⟩
  · exact hF.elim
  rcases xs with _ | ⟨i, xs⟩
  · exact hF.elim
  rcases xs with _ | ⟨x_, xs⟩
  rotate_left
  · exact hF.elim
  have hF : kSLV a z i hp := hF
  show kSLV a z i hp'
  unfold kSLV at hF ⊢
  rw [fX3 h (.head _) (.tail _ (.head _)) (.tail _ (.tail _ (.head _)))]
  exact scW_cg (fun j hj => (xnj_fr hO h (.tail _ (.tail _ (.tail _ (.tail _ (.tail _ (.tail _ (.tail _ (.head _)))))))) (.tail _ (.tail _ (.tail _ (.tail _ (.tail _ (.head _)))))) (.tail _ (.tail _ (.tail _ (.tail _ (.tail _ (.tail _ (.head _))))))) (.tail _ (.tail _ (.tail _ (.head _)))) (.tail _ (.tail _ (.tail _ (.tail _ (.head _))))) j hj).symm) hF
theorem frm195 (hO : hOk hp) (h : ∀ c j, c < tNC → fpIn 195 xs c j → hv hp' c j = hv hp c j) (hF : fB195 xs hp) : fB195 xs hp' := by
  rcases xs with _ | ⟨w, xs⟩
  · exact hF.elim
  rcases xs with _ | ⟨i, xs⟩
  · exact hF.elim
  rcases xs with _ | ⟨x_, xs⟩
  rotate_left
  · exact hF.elim
  have hF : kSCV w i hp := hF
  show kSCV w i hp'
  unfold kSCV at hF ⊢
  exact scW_cg (fun j hj => (xnj_fr hO h (.tail _ (.tail _ (.tail _ (.tail _ (.tail _ (.tail _ (.tail _ (.head _)))))))) (.tail _ (.tail _ (.tail _ (.tail _ (.tail _ (.head _)))))) (.tail _ (.tail _ (.tail _ (.tail _ (.tail _ (.tail _ (.head _))))))) (.tail _ (.tail _ (.tail _ (.head _)))) (.tail _ (.tail _ (.tail _ (.tail _ (.head _))))) j hj).symm) hF
theorem frm196 (hO : hOk hp) (h : ∀ c j, c < tNC → fpIn 196 xs c j → hv hp' c j = hv hp c j) (hF : fB196 xs hp) : fB196 xs hp' := by
  rcases xs with _ | ⟨o, xs⟩
  · exact hF.elim
  rcases xs with _ | ⟨x_, xs⟩
  rotate_left
  · exact hF.elim
  have hF : kSDX o hp := hF
  show kSDX o hp'
  unfold kSDX at hF ⊢
  rw [fX3 h (.head _) (.tail _ (.head _)) (.tail _ (.tail _ (.head _)))]
  rw [nmx_fr hO h (.tail _ (.tail _ (.tail _ (.tail _ (.tail _ (.tail _ (.tail _ (.head _)))))))) (.tail _ (.tail _ (.tail _ (.tail _ (.tail _ (.head _)))))) (.tail _ (.tail _ (.tail _ (.tail _ (.tail _ (.tail _ (.head _))))))) (.tail _ (.tail _ (.tail _ (.head _)))) (.tail _ (.tail _ (.tail _ (.tail _ (.head _)))))]
  exact hF
theorem frm197 (hO : hOk hp) (h : ∀ c j, c < tNC → fpIn 197 xs c j → hv hp' c j = hv hp c j) (hF : fB197 xs hp) : fB197 xs hp' := by
  rcases xs with _ | ⟨x, xs⟩
  · exact hF.elim
  rcases xs with _ | ⟨k, xs⟩
  · exact hF.elim
  rcases xs with _ | ⟨x_, xs⟩
  rotate_left
  · exact hF.elim
  have hF : kSAX x k hp := hF
  show kSAX x k hp'
  unfold kSAX at hF ⊢
  rw [fX3 h (.head _) (.tail _ (.head _)) (.tail _ (.tail _ (.head _)))]
  rw [nmx_fr hO h (.tail _ (.tail _ (.tail _ (.tail _ (.tail _ (.tail _ (.tail _ (.head _)))))))) (.tail _ (.tail _ (.tail _ (.tail _ (.tail _ (.head _)))))) (.tail _ (.tail _ (.tail _ (.tail _ (.tail _ (.tail _ (.head _))))))) (.tail _ (.tail _ (.tail _ (.head _)))) (.tail _ (.tail _ (.tail _ (.tail _ (.head _)))))]
  exact hF
theorem frm198 (hO : hOk hp) (h : ∀ c j, c < tNC → fpIn 198 xs c j → hv hp' c j = hv hp c j) (hF : fB198 xs hp) : fB198 xs hp' := by
  rcases xs with _ | ⟨s, xs⟩
  · exact hF.elim
  rcases xs with _ | ⟨w, xs⟩
  · exact hF.elim
  rcases xs with _ | ⟨x_, xs⟩
  rotate_left
  · exact hF.elim
  have hF : kSWV s w hp := hF
  show kSWV s w hp'
  unfold kSWV at hF ⊢
  obtain ⟨exn, axn, qxn⟩ := xn_fr (hp' := hp') hO h (.tail _ (.tail _ (.tail _ (.tail _ (.head _))))) (.tail _ (.tail _ (.head _))) (.tail _ (.tail _ (.tail _ (.head _))))
  intro j hj hs
  rw [exn, hL_of (fvD1 h (.head _) (.tail _ (.head _)) (c := xnm hp) (j := j) axn qxn (by omega) (by omega) (by omega))]
  exact hF j hj hs
theorem frm199 (hO : hOk hp) (h : ∀ c j, c < tNC → fpIn 199 xs c j → hv hp' c j = hv hp c j) (hF : fB199 xs hp) : fB199 xs hp' := by
  rcases xs with _ | ⟨t, xs⟩
  · exact hF.elim
  rcases xs with _ | ⟨d, xs⟩
  · exact hF.elim
  rcases xs with _ | ⟨x_, xs⟩
  rotate_left
  · exact hF.elim
  have hF : kDPX t d hp := hF
  show kDPX t d hp'
  unfold kDPX at hF ⊢
  exact hF
theorem frm200 (hO : hOk hp) (h : ∀ c j, c < tNC → fpIn 200 xs c j → hv hp' c j = hv hp c j) (hF : fB200 xs hp) : fB200 xs hp' := by
  rcases xs with _ | ⟨t, xs⟩
  · exact hF.elim
  rcases xs with _ | ⟨u, xs⟩
  · exact hF.elim
  rcases xs with _ | ⟨x_, xs⟩
  rotate_left
  · exact hF.elim
  have hF : kNRX t u hp := hF
  show kNRX t u hp'
  unfold kNRX at hF ⊢
  exact hF
theorem frm201 (hO : hOk hp) (h : ∀ c j, c < tNC → fpIn 201 xs c j → hv hp' c j = hv hp c j) (hF : fB201 xs hp) : fB201 xs hp' := by
  rcases xs with _ | ⟨t, xs⟩
  · exact hF.elim
  rcases xs with _ | ⟨x_, xs⟩
  rotate_left
  · exact hF.elim
  have hF : kNR0 t hp := hF
  show kNR0 t hp'
  unfold kNR0 at hF ⊢
  exact hF
theorem frm202 (hO : hOk hp) (h : ∀ c j, c < tNC → fpIn 202 xs c j → hv hp' c j = hv hp c j) (hF : fB202 xs hp) : fB202 xs hp' := by
  rcases xs with _ | ⟨x, xs⟩
  · exact hF.elim
  rcases xs with _ | ⟨y, xs⟩
  · exact hF.elim
  rcases xs with _ | ⟨x_, xs⟩
  rotate_left
  · exact hF.elim
  have hF : kSNX x y hp := hF
  show kSNX x y hp'
  unfold kSNX at hF ⊢
  exact hF
theorem frm203 (hO : hOk hp) (h : ∀ c j, c < tNC → fpIn 203 xs c j → hv hp' c j = hv hp c j) (hF : fB203 xs hp) : fB203 xs hp' := by
  rcases xs with _ | ⟨x_, xs⟩
  rotate_left
  · exact hF.elim
  have hF : kSGL hp := hF
  show kSGL hp'
  unfold kSGL at hF ⊢
  exact hF
theorem frm204 (hO : hOk hp) (h : ∀ c j, c < tNC → fpIn 204 xs c j → hv hp' c j = hv hp c j) (hF : fB204 xs hp) : fB204 xs hp' := by
  rcases xs with _ | ⟨x, xs⟩
  · exact hF.elim
  rcases xs with _ | ⟨k, xs⟩
  · exact hF.elim
  rcases xs with _ | ⟨x_, xs⟩
  rotate_left
  · exact hF.elim
  have hF : kSAA x k hp := hF
  show kSAA x k hp'
  unfold kSAA at hF ⊢
  rw [fX3 h (.head _) (.tail _ (.head _)) (.tail _ (.tail _ (.head _)))]
  rw [nmr_fr h (c := 3) (by decide) (show tRO 3 = 3 from rfl) (.tail _ (.tail _ (.tail _ (.head _))))]
  exact hF
theorem frm205 (hO : hOk hp) (h : ∀ c j, c < tNC → fpIn 205 xs c j → hv hp' c j = hv hp c j) (hF : fB205 xs hp) : fB205 xs hp' := by
  rcases xs with _ | ⟨x, xs⟩
  · exact hF.elim
  rcases xs with _ | ⟨k, xs⟩
  · exact hF.elim
  rcases xs with _ | ⟨x_, xs⟩
  rotate_left
  · exact hF.elim
  have hF : kSAB x k hp := hF
  show kSAB x k hp'
  unfold kSAB at hF ⊢
  rw [fX3 h (.head _) (.tail _ (.head _)) (.tail _ (.tail _ (.head _)))]
  rw [nmr_fr h (c := 16) (by decide) (show tRO 16 = 99 from rfl) (.tail _ (.tail _ (.tail _ (.head _))))]
  exact hF
theorem frm206 (hO : hOk hp) (h : ∀ c j, c < tNC → fpIn 206 xs c j → hv hp' c j = hv hp c j) (hF : fB206 xs hp) : fB206 xs hp' := by
  rcases xs with _ | ⟨q, xs⟩
  · exact hF.elim
  rcases xs with _ | ⟨c, xs⟩
  · exact hF.elim
  rcases xs with _ | ⟨o, xs⟩
  · exact hF.elim
  rcases xs with _ | ⟨t, xs⟩
  · exact hF.elim
  rcases xs with _ | ⟨x_, xs⟩
  rotate_left
  · exact hF.elim
  have hF : kSGM q c o t hp := hF
  show kSGM q c o t hp'
  unfold kSGM at hF ⊢
  rw [(fM3 h (.head _) (.tail _ (.head _)) (.tail _ (.tail _ (.head _)))).1]
  rw [nmm_fr h (.tail _ (.tail _ (.tail _ (.head _)))) (.tail _ (.tail _ (.tail _ (.tail _ (.head _)))))]
  exact hF
theorem frm207 (hO : hOk hp) (h : ∀ c j, c < tNC → fpIn 207 xs c j → hv hp' c j = hv hp c j) (hF : fB207 xs hp) : fB207 xs hp' := by
  rcases xs with _ | ⟨q, xs⟩
  · exact hF.elim
  rcases xs with _ | ⟨c, xs⟩
  · exact hF.elim
  rcases xs with _ | ⟨o, xs⟩
  · exact hF.elim
  rcases xs with _ | ⟨t, xs⟩
  · exact hF.elim
  rcases xs with _ | ⟨k, xs⟩
  · exact hF.elim
  rcases xs with _ | ⟨a, xs⟩
  · exact hF.elim
  rcases xs with _ | ⟨z, xs⟩
  · exact hF.elim
  rcases xs with _ | ⟨v, xs⟩
  · exact hF.elim
  rcases xs with _ | ⟨x_, xs⟩
  rotate_left
  · exact hF.elim
  have hF : kSHM q c o t k a z v hp := hF
  show kSHM q c o t k a z v hp'
  unfold kSHM at hF ⊢
  rw [(fM3 h (.head _) (.tail _ (.head _)) (.tail _ (.tail _ (.head _)))).1]
  rw [nmm_fr h (.tail _ (.tail _ (.tail _ (.head _)))) (.tail _ (.tail _ (.tail _ (.tail _ (.head _)))))]
  exact hF
theorem frm208 (hO : hOk hp) (h : ∀ c j, c < tNC → fpIn 208 xs c j → hv hp' c j = hv hp c j) (hF : fB208 xs hp) : fB208 xs hp' := by
  rcases xs with _ | ⟨k, xs⟩
  · exact hF.elim
  rcases xs with _ | ⟨p, xs⟩
  · exact hF.elim
  rcases xs with _ | ⟨x_, xs⟩
  rotate_left
  · exact hF.elim
  have hF : kSRM k p hp := hF
  show kSRM k p hp'
  unfold kSRM at hF ⊢
  rw [(fM3 h (.head _) (.tail _ (.head _)) (.tail _ (.tail _ (.head _)))).1]
  rw [nmm_fr h (.tail _ (.tail _ (.tail _ (.head _)))) (.tail _ (.tail _ (.tail _ (.tail _ (.head _)))))]
  exact hF
theorem frm209 (hO : hOk hp) (h : ∀ c j, c < tNC → fpIn 209 xs c j → hv hp' c j = hv hp c j) (hF : fB209 xs hp) : fB209 xs hp' := by
  rcases xs with _ | ⟨o, xs⟩
  · exact hF.elim
  rcases xs with _ | ⟨x_, xs⟩
  rotate_left
  · exact hF.elim
  have hF : kSDM o hp := hF
  show kSDM o hp'
  unfold kSDM at hF ⊢
  rw [(fM3 h (.head _) (.tail _ (.head _)) (.tail _ (.tail _ (.head _)))).1]
  rw [nmm_fr h (.tail _ (.tail _ (.tail _ (.head _)))) (.tail _ (.tail _ (.tail _ (.tail _ (.head _)))))]
  exact hF
theorem frm210 (hO : hOk hp) (h : ∀ c j, c < tNC → fpIn 210 xs c j → hv hp' c j = hv hp c j) (hF : fB210 xs hp) : fB210 xs hp' := by
  rcases xs with _ | ⟨x, xs⟩
  · exact hF.elim
  rcases xs with _ | ⟨k, xs⟩
  · exact hF.elim
  rcases xs with _ | ⟨x_, xs⟩
  rotate_left
  · exact hF.elim
  have hF : kSAM x k hp := hF
  show kSAM x k hp'
  unfold kSAM at hF ⊢
  rw [(fM3 h (.head _) (.tail _ (.head _)) (.tail _ (.tail _ (.head _)))).1]
  rw [nmm_fr h (.tail _ (.tail _ (.tail _ (.head _)))) (.tail _ (.tail _ (.tail _ (.tail _ (.head _)))))]
  exact hF
theorem frm211 (hO : hOk hp) (h : ∀ c j, c < tNC → fpIn 211 xs c j → hv hp' c j = hv hp c j) (hF : fB211 xs hp) : fB211 xs hp' := by
  rcases xs with _ | ⟨c, xs⟩
  · exact hF.elim
  rcases xs with _ | ⟨a, xs⟩
  · exact hF.elim
  rcases xs with _ | ⟨z, xs⟩
  · exact hF.elim
  rcases xs with _ | ⟨i, xs⟩
  · exact hF.elim
  rcases xs with _ | ⟨x_, xs⟩
  rotate_left
  · exact hF.elim
  have hF : kFDS c a z i hp := hF
  show kFDS c a z i hp'
  unfold kFDS at hF ⊢
  rw [(fM3 h (.head _) (.tail _ (.head _)) (.tail _ (.tail _ (.head _)))).1]
  rw [nmm_fr h (.tail _ (.tail _ (.tail _ (.head _)))) (.tail _ (.tail _ (.tail _ (.tail _ (.head _)))))]
  exact hF
theorem frm212 (hO : hOk hp) (h : ∀ c j, c < tNC → fpIn 212 xs c j → hv hp' c j = hv hp c j) (hF : fB212 xs hp) : fB212 xs hp' := by
  rcases xs with _ | ⟨p, xs⟩
  · exact hF.elim
  rcases xs with _ | ⟨t, xs⟩
  · exact hF.elim
  rcases xs with _ | ⟨x_, xs⟩
  rotate_left
  · exact hF.elim
  have hF : kSTM p t hp := hF
  show kSTM p t hp'
  unfold kSTM at hF ⊢
  obtain ⟨m, m1, m2, m3⟩ := hF
  refine ⟨m, m1, m2, sFo_cg (fun j hj => ?_) m3⟩
  exact (hI_of (fv1 h (.head _) (c := 287) (j := j) (by decide) rfl (by omega) (by omega) (by omega))).symm
theorem frm213 (hO : hOk hp) (h : ∀ c j, c < tNC → fpIn 213 xs c j → hv hp' c j = hv hp c j) (hF : fB213 xs hp) : fB213 xs hp' := by
  rcases xs with _ | ⟨s, xs⟩
  · exact hF.elim
  rcases xs with _ | ⟨w, xs⟩
  · exact hF.elim
  rcases xs with _ | ⟨x_, xs⟩
  rotate_left
  · exact hF.elim
  have hF : kFW7 s w hp := hF
  show kFW7 s w hp'
  unfold kFW7 at hF ⊢
  intro i hi hs
  rw [hL_of (fv1 h (.head _) (c := 278) (j := 7 + i) (by decide) rfl (by omega) (by omega) (by omega))]
  exact hF i hi hs
theorem frm214 (hO : hOk hp) (h : ∀ c j, c < tNC → fpIn 214 xs c j → hv hp' c j = hv hp c j) (hF : fB214 xs hp) : fB214 xs hp' := by
  rcases xs with _ | ⟨s, xs⟩
  · exact hF.elim
  rcases xs with _ | ⟨w, xs⟩
  · exact hF.elim
  rcases xs with _ | ⟨x_, xs⟩
  rotate_left
  · exact hF.elim
  have hF : kFW0 s w hp := hF
  show kFW0 s w hp'
  unfold kFW0 at hF ⊢
  intro i hi hs
  rw [hL_of (fv1 h (.head _) (c := 278) (j := 0 + i) (by decide) rfl (by omega) (by omega) (by omega))]
  exact hF i hi hs
theorem frm215 (hO : hOk hp) (h : ∀ c j, c < tNC → fpIn 215 xs c j → hv hp' c j = hv hp c j) (hF : fB215 xs hp) : fB215 xs hp' := by
  rcases xs with _ | ⟨s, xs⟩
  · exact hF.elim
  rcases xs with _ | ⟨w, xs⟩
  · exact hF.elim
  rcases xs with _ | ⟨x_, xs⟩
  rotate_left
  · exact hF.elim
  have hF : kFW4 s w hp := hF
  show kFW4 s w hp'
  unfold kFW4 at hF ⊢
  intro i hi hs
  rw [hL_of (fv1 h (.head _) (c := 278) (j := 4 + i) (by decide) rfl (by omega) (by omega) (by omega))]
  exact hF i hi hs
theorem frm216 (hO : hOk hp) (h : ∀ c j, c < tNC → fpIn 216 xs c j → hv hp' c j = hv hp c j) (hF : fB216 xs hp) : fB216 xs hp' := by
  rcases xs with _ | ⟨x_, xs⟩
  rotate_left
  · exact hF.elim
  have hF : kPEQA hp := hF
  show kPEQA hp'
  unfold kPEQA at hF ⊢
  rw [nmr_fr h (c := 3) (by decide) (show tRO 3 = 3 from rfl) (.head _)]
  rw [nmm_fr h (.tail _ (.head _)) (.tail _ (.tail _ (.head _)))]
  rw [hI_of (fv0 h (.tail _ (.tail _ (.tail _ (.head _)))) (c := 2) (j := 0) (by decide) rfl (by omega) (by omega)), hI_of (fv0 h (.tail _ (.tail _ (.tail _ (.head _)))) (c := 2) (j := 1) (by decide) rfl (by omega) (by omega))]
  rw [hI_of (fv0 h (.tail _ (.tail _ (.tail _ (.tail _ (.head _))))) (c := 275) (j := 0) (by decide) rfl (by omega) (by omega)), hI_of (fv0 h (.tail _ (.tail _ (.tail _ (.tail _ (.head _))))) (c := 275) (j := 1) (by decide) rfl (by omega) (by omega))]
  exact hF
theorem frm217 (hO : hOk hp) (h : ∀ c j, c < tNC → fpIn 217 xs c j → hv hp' c j = hv hp c j) (hF : fB217 xs hp) : fB217 xs hp' := by
  rcases xs with _ | ⟨x_, xs⟩
  rotate_left
  · exact hF.elim
  have hF : kPEQB hp := hF
  show kPEQB hp'
  unfold kPEQB at hF ⊢
  rw [nmr_fr h (c := 16) (by decide) (show tRO 16 = 99 from rfl) (.head _)]
  rw [nmm_fr h (.tail _ (.head _)) (.tail _ (.tail _ (.head _)))]
  rw [hI_of (fv0 h (.tail _ (.tail _ (.tail _ (.head _)))) (c := 15) (j := 0) (by decide) rfl (by omega) (by omega)), hI_of (fv0 h (.tail _ (.tail _ (.tail _ (.head _)))) (c := 15) (j := 1) (by decide) rfl (by omega) (by omega))]
  rw [hI_of (fv0 h (.tail _ (.tail _ (.tail _ (.tail _ (.head _))))) (c := 275) (j := 0) (by decide) rfl (by omega) (by omega)), hI_of (fv0 h (.tail _ (.tail _ (.tail _ (.tail _ (.head _))))) (c := 275) (j := 1) (by decide) rfl (by omega) (by omega))]
  exact hF
theorem frm218 (hO : hOk hp) (h : ∀ c j, c < tNC → fpIn 218 xs c j → hv hp' c j = hv hp c j) (hF : fB218 xs hp) : fB218 xs hp' := by
  rcases xs with _ | ⟨l, xs⟩
  · exact hF.elim
  rcases xs with _ | ⟨x_, xs⟩
  rotate_left
  · exact hF.elim
  have hF : kNPA l hp := hF
  show kNPA l hp'
  unfold kNPA at hF ⊢
  rw [fX3 h (.head _) (.tail _ (.head _)) (.tail _ (.tail _ (.head _)))]
  refine dF_mp hF (fun D hD => ⟨fun j hj => ?_, ?_, ?_⟩)
  · rw [hL_of (fv0 h (.tail _ (.tail _ (.tail _ (.head _)))) (c := 3) (j := j) (by decide) rfl (by omega) (by omega))]; exact hD.1 j hj
  · rw [hI_of (fv0 h (.tail _ (.tail _ (.tail _ (.tail _ (.head _))))) (c := 2) (j := 0) (by decide) rfl (by omega) (by omega))]; exact hD.2.1
  · rw [hI_of (fv0 h (.tail _ (.tail _ (.tail _ (.tail _ (.head _))))) (c := 2) (j := 1) (by decide) rfl (by omega) (by omega))]; exact hD.2.2
theorem frm219 (hO : hOk hp) (h : ∀ c j, c < tNC → fpIn 219 xs c j → hv hp' c j = hv hp c j) (hF : fB219 xs hp) : fB219 xs hp' := by
  rcases xs with _ | ⟨l, xs⟩
  · exact hF.elim
  rcases xs with _ | ⟨x_, xs⟩
  rotate_left
  · exact hF.elim
  have hF : kNPB l hp := hF
  show kNPB l hp'
  unfold kNPB at hF ⊢
  rw [fX3 h (.head _) (.tail _ (.head _)) (.tail _ (.tail _ (.head _)))]
  refine dF_mp hF (fun D hD => ⟨fun j hj => ?_, ?_, ?_⟩)
  · rw [hL_of (fv0 h (.tail _ (.tail _ (.tail _ (.head _)))) (c := 16) (j := j) (by decide) rfl (by omega) (by omega))]; exact hD.1 j hj
  · rw [hI_of (fv0 h (.tail _ (.tail _ (.tail _ (.tail _ (.head _))))) (c := 15) (j := 0) (by decide) rfl (by omega) (by omega))]; exact hD.2.1
  · rw [hI_of (fv0 h (.tail _ (.tail _ (.tail _ (.tail _ (.head _))))) (c := 15) (j := 1) (by decide) rfl (by omega) (by omega))]; exact hD.2.2
theorem frm220 (hO : hOk hp) (h : ∀ c j, c < tNC → fpIn 220 xs c j → hv hp' c j = hv hp c j) (hF : fB220 xs hp) : fB220 xs hp' := by
  rcases xs with _ | ⟨x_, xs⟩
  rotate_left
  · exact hF.elim
  have hF : kSHE hp := hF
  show kSHE hp'
  unfold kSHE at hF ⊢
  intro j hj
  rw [hI_of (fv0 h (.head _) (c := 275) (j := j) (by decide) rfl (by omega) (by omega)), hI_of (fv0 h (.tail _ (.head _)) (c := 276) (j := j) (by decide) rfl (by omega) (by omega))]
  exact hF j hj
theorem frm221 (hO : hOk hp) (h : ∀ c j, c < tNC → fpIn 221 xs c j → hv hp' c j = hv hp c j) (hF : fB221 xs hp) : fB221 xs hp' := by
  rcases xs with _ | ⟨s, xs⟩
  · exact hF.elim
  rcases xs with _ | ⟨x_, xs⟩
  rotate_left
  · exact hF.elim
  have hF : kNMC s hp := hF
  show kNMC s hp'
  unfold kNMC at hF ⊢
  intro j hj hs
  rw [hL_of (fv1 h (.head _) (c := 278) (j := j) (by decide) rfl (by omega) (by omega) (by omega)), hL_of (fv1 h (.tail _ (.head _)) (c := 278) (j := 12 + j) (by decide) rfl (by omega) (by omega) (by omega))]
  exact hF j hj hs
theorem frm222 (hO : hOk hp) (h : ∀ c j, c < tNC → fpIn 222 xs c j → hv hp' c j = hv hp c j) (hF : fB222 xs hp) : fB222 xs hp' := by
  rcases xs with _ | ⟨x_, xs⟩
  rotate_left
  · exact hF.elim
  have hF : kEQN3_213 hp := hF
  show kEQN3_213 hp'
  unfold kEQN3_213 at hF ⊢
  intro j hj
  rw [fv0 h (.head _) (c := 3) (j := j) (by decide) rfl (by omega) (by omega), fv0 h (.tail _ (.head _)) (c := 213) (j := j) (by decide) rfl (by omega) (by omega)]
  exact hF j hj
theorem frm223 (hO : hOk hp) (h : ∀ c j, c < tNC → fpIn 223 xs c j → hv hp' c j = hv hp c j) (hF : fB223 xs hp) : fB223 xs hp' := by
  rcases xs with _ | ⟨x_, xs⟩
  rotate_left
  · exact hF.elim
  have hF : kEQN213_3 hp := hF
  show kEQN213_3 hp'
  unfold kEQN213_3 at hF ⊢
  intro j hj
  rw [fv0 h (.head _) (c := 213) (j := j) (by decide) rfl (by omega) (by omega), fv0 h (.tail _ (.head _)) (c := 3) (j := j) (by decide) rfl (by omega) (by omega)]
  exact hF j hj
theorem frm224 (hO : hOk hp) (h : ∀ c j, c < tNC → fpIn 224 xs c j → hv hp' c j = hv hp c j) (hF : fB224 xs hp) : fB224 xs hp' := by
  rcases xs with _ | ⟨x_, xs⟩
  rotate_left
  · exact hF.elim
  have hF : kEQN3_244 hp := hF
  show kEQN3_244 hp'
  unfold kEQN3_244 at hF ⊢
  intro j hj
  rw [fv0 h (.head _) (c := 3) (j := j) (by decide) rfl (by omega) (by omega), fv0 h (.tail _ (.head _)) (c := 244) (j := j) (by decide) rfl (by omega) (by omega)]
  exact hF j hj
theorem frm225 (hO : hOk hp) (h : ∀ c j, c < tNC → fpIn 225 xs c j → hv hp' c j = hv hp c j) (hF : fB225 xs hp) : fB225 xs hp' := by
  rcases xs with _ | ⟨x_, xs⟩
  rotate_left
  · exact hF.elim
  have hF : kEQN244_3 hp := hF
  show kEQN244_3 hp'
  unfold kEQN244_3 at hF ⊢
  intro j hj
  rw [fv0 h (.head _) (c := 244) (j := j) (by decide) rfl (by omega) (by omega), fv0 h (.tail _ (.head _)) (c := 3) (j := j) (by decide) rfl (by omega) (by omega)]
  exact hF j hj
theorem frm226 (hO : hOk hp) (h : ∀ c j, c < tNC → fpIn 226 xs c j → hv hp' c j = hv hp c j) (hF : fB226 xs hp) : fB226 xs hp' := by
  rcases xs with _ | ⟨x_, xs⟩
  rotate_left
  · exact hF.elim
  have hF : kEQN16_213 hp := hF
  show kEQN16_213 hp'
  unfold kEQN16_213 at hF ⊢
  intro j hj
  rw [fv0 h (.head _) (c := 16) (j := j) (by decide) rfl (by omega) (by omega), fv0 h (.tail _ (.head _)) (c := 213) (j := j) (by decide) rfl (by omega) (by omega)]
  exact hF j hj
theorem frm227 (hO : hOk hp) (h : ∀ c j, c < tNC → fpIn 227 xs c j → hv hp' c j = hv hp c j) (hF : fB227 xs hp) : fB227 xs hp' := by
  rcases xs with _ | ⟨x_, xs⟩
  rotate_left
  · exact hF.elim
  have hF : kEQN213_16 hp := hF
  show kEQN213_16 hp'
  unfold kEQN213_16 at hF ⊢
  intro j hj
  rw [fv0 h (.head _) (c := 213) (j := j) (by decide) rfl (by omega) (by omega), fv0 h (.tail _ (.head _)) (c := 16) (j := j) (by decide) rfl (by omega) (by omega)]
  exact hF j hj
theorem frm228 (hO : hOk hp) (h : ∀ c j, c < tNC → fpIn 228 xs c j → hv hp' c j = hv hp c j) (hF : fB228 xs hp) : fB228 xs hp' := by
  rcases xs with _ | ⟨x_, xs⟩
  rotate_left
  · exact hF.elim
  have hF : kEQN16_244 hp := hF
  show kEQN16_244 hp'
  unfold kEQN16_244 at hF ⊢
  intro j hj
  rw [fv0 h (.head _) (c := 16) (j := j) (by decide) rfl (by omega) (by omega), fv0 h (.tail _ (.head _)) (c := 244) (j := j) (by decide) rfl (by omega) (by omega)]
  exact hF j hj
theorem frm229 (hO : hOk hp) (h : ∀ c j, c < tNC → fpIn 229 xs c j → hv hp' c j = hv hp c j) (hF : fB229 xs hp) : fB229 xs hp' := by
  rcases xs with _ | ⟨x_, xs⟩
  rotate_left
  · exact hF.elim
  have hF : kEQN244_16 hp := hF
  show kEQN244_16 hp'
  unfold kEQN244_16 at hF ⊢
  intro j hj
  rw [fv0 h (.head _) (c := 244) (j := j) (by decide) rfl (by omega) (by omega), fv0 h (.tail _ (.head _)) (c := 16) (j := j) (by decide) rfl (by omega) (by omega)]
  exact hF j hj
theorem frm230 (hO : hOk hp) (h : ∀ c j, c < tNC → fpIn 230 xs c j → hv hp' c j = hv hp c j) (hF : fB230 xs hp) : fB230 xs hp' := by
  rcases xs with _ | ⟨x_, xs⟩
  rotate_left
  · exact hF.elim
  have hF : kIP0 hp := hF
  show kIP0 hp'
  unfold kIP0 at hF ⊢
  rw [nmr_fr h (c := 213) (by decide) (show tRO 213 = 101 from rfl) (.head _)]
  rw [nmm_fr h (.tail _ (.head _)) (.tail _ (.tail _ (.head _)))]
  rw [hI_of (fv0 h (.tail _ (.tail _ (.tail _ (.head _)))) (c := 212) (j := 0) (by decide) rfl (by omega) (by omega)), hI_of (fv0 h (.tail _ (.tail _ (.tail _ (.head _)))) (c := 212) (j := 1) (by decide) rfl (by omega) (by omega))]
  rw [hI_of (fv0 h (.tail _ (.tail _ (.tail _ (.tail _ (.head _))))) (c := 275) (j := 0) (by decide) rfl (by omega) (by omega)), hI_of (fv0 h (.tail _ (.tail _ (.tail _ (.tail _ (.head _))))) (c := 275) (j := 1) (by decide) rfl (by omega) (by omega))]
  exact hF
theorem frm231 (hO : hOk hp) (h : ∀ c j, c < tNC → fpIn 231 xs c j → hv hp' c j = hv hp c j) (hF : fB231 xs hp) : fB231 xs hp' := by
  rcases xs with _ | ⟨x_, xs⟩
  rotate_left
  · exact hF.elim
  have hF : kIEQ0 hp := hF
  show kIEQ0 hp'
  unfold kIEQ0 at hF ⊢
  rw [nmr_fr h (c := 213) (by decide) (show tRO 213 = 101 from rfl) (.head _)]
  rw [nmk_fr (k := 0) h (.tail _ (.head _)) (.tail _ (.tail _ (.head _))) (by decide) (by decide)]
  rw [hI_of (fv0 h (.tail _ (.tail _ (.tail _ (.head _)))) (c := 212) (j := 0) (by decide) rfl (by omega) (by omega)), hI_of (fv0 h (.tail _ (.tail _ (.tail _ (.head _)))) (c := 212) (j := 1) (by decide) rfl (by omega) (by omega))]
  rw [hI_of (fv0 h (.tail _ (.tail _ (.tail _ (.tail _ (.head _))))) (c := 289) (j := 0) (by decide) rfl (by omega) (by omega)), hI_of (fv0 h (.tail _ (.tail _ (.tail _ (.tail _ (.head _))))) (c := 289) (j := 1) (by decide) rfl (by omega) (by omega))]
  exact hF
theorem frm232 (hO : hOk hp) (h : ∀ c j, c < tNC → fpIn 232 xs c j → hv hp' c j = hv hp c j) (hF : fB232 xs hp) : fB232 xs hp' := by
  rcases xs with _ | ⟨x_, xs⟩
  rotate_left
  · exact hF.elim
  have hF : kRPA0 hp := hF
  show kRPA0 hp'
  unfold kRPA0 at hF ⊢
  rw [nmr_fr h (c := 3) (by decide) (show tRO 3 = 3 from rfl) (.head _)]
  rw [nmk_fr (k := 0) h (.tail _ (.head _)) (.tail _ (.tail _ (.head _))) (by decide) (by decide)]
  rw [hI_of (fv0 h (.tail _ (.tail _ (.tail _ (.head _)))) (c := 2) (j := 0) (by decide) rfl (by omega) (by omega)), hI_of (fv0 h (.tail _ (.tail _ (.tail _ (.head _)))) (c := 2) (j := 1) (by decide) rfl (by omega) (by omega))]
  rw [hI_of (fv0 h (.tail _ (.tail _ (.tail _ (.tail _ (.head _))))) (c := 289) (j := 0) (by decide) rfl (by omega) (by omega)), hI_of (fv0 h (.tail _ (.tail _ (.tail _ (.tail _ (.head _))))) (c := 289) (j := 1) (by decide) rfl (by omega) (by omega))]
  exact hF
theorem frm233 (hO : hOk hp) (h : ∀ c j, c < tNC → fpIn 233 xs c j → hv hp' c j = hv hp c j) (hF : fB233 xs hp) : fB233 xs hp' := by
  rcases xs with _ | ⟨x_, xs⟩
  rotate_left
  · exact hF.elim
  have hF : kRPB0 hp := hF
  show kRPB0 hp'
  unfold kRPB0 at hF ⊢
  rw [nmr_fr h (c := 16) (by decide) (show tRO 16 = 99 from rfl) (.head _)]
  rw [nmk_fr (k := 0) h (.tail _ (.head _)) (.tail _ (.tail _ (.head _))) (by decide) (by decide)]
  rw [hI_of (fv0 h (.tail _ (.tail _ (.tail _ (.head _)))) (c := 15) (j := 0) (by decide) rfl (by omega) (by omega)), hI_of (fv0 h (.tail _ (.tail _ (.tail _ (.head _)))) (c := 15) (j := 1) (by decide) rfl (by omega) (by omega))]
  rw [hI_of (fv0 h (.tail _ (.tail _ (.tail _ (.tail _ (.head _))))) (c := 289) (j := 0) (by decide) rfl (by omega) (by omega)), hI_of (fv0 h (.tail _ (.tail _ (.tail _ (.tail _ (.head _))))) (c := 289) (j := 1) (by decide) rfl (by omega) (by omega))]
  exact hF
theorem frm234 (hO : hOk hp) (h : ∀ c j, c < tNC → fpIn 234 xs c j → hv hp' c j = hv hp c j) (hF : fB234 xs hp) : fB234 xs hp' := by
  rcases xs with _ | ⟨s, xs⟩
  · exact hF.elim
  rcases xs with _ | ⟨x_, xs⟩
  rotate_left
  · exact hF.elim
  have hF : kNQ0 s hp := hF
  show kNQ0 s hp'
  unfold kNQ0 at hF ⊢
  intro j hj hs
  rw [hL_of (fv1 h (.head _) (c := 290) (j := 0 + j) (by decide) rfl (by omega) (by omega) (by omega)), hL_of (fv1 h (.tail _ (.head _)) (c := 278) (j := j) (by decide) rfl (by omega) (by omega) (by omega))]
  exact hF j hj hs
theorem frm235 (hO : hOk hp) (h : ∀ c j, c < tNC → fpIn 235 xs c j → hv hp' c j = hv hp c j) (hF : fB235 xs hp) : fB235 xs hp' := by
  rcases xs with _ | ⟨x_, xs⟩
  rotate_left
  · exact hF.elim
  have hF : kIP1 hp := hF
  show kIP1 hp'
  unfold kIP1 at hF ⊢
  rw [nmr_fr h (c := 244) (by decide) (show tRO 244 = 103 from rfl) (.head _)]
  rw [nmm_fr h (.tail _ (.head _)) (.tail _ (.tail _ (.head _)))]
  rw [hI_of (fv0 h (.tail _ (.tail _ (.tail _ (.head _)))) (c := 243) (j := 0) (by decide) rfl (by omega) (by omega)), hI_of (fv0 h (.tail _ (.tail _ (.tail _ (.head _)))) (c := 243) (j := 1) (by decide) rfl (by omega) (by omega))]
  rw [hI_of (fv0 h (.tail _ (.tail _ (.tail _ (.tail _ (.head _))))) (c := 275) (j := 0) (by decide) rfl (by omega) (by omega)), hI_of (fv0 h (.tail _ (.tail _ (.tail _ (.tail _ (.head _))))) (c := 275) (j := 1) (by decide) rfl (by omega) (by omega))]
  exact hF
theorem frm236 (hO : hOk hp) (h : ∀ c j, c < tNC → fpIn 236 xs c j → hv hp' c j = hv hp c j) (hF : fB236 xs hp) : fB236 xs hp' := by
  rcases xs with _ | ⟨x_, xs⟩
  rotate_left
  · exact hF.elim
  have hF : kIEQ1 hp := hF
  show kIEQ1 hp'
  unfold kIEQ1 at hF ⊢
  rw [nmr_fr h (c := 244) (by decide) (show tRO 244 = 103 from rfl) (.head _)]
  rw [nmk_fr (k := 1) h (.tail _ (.head _)) (.tail _ (.tail _ (.head _))) (by decide) (by decide)]
  rw [hI_of (fv0 h (.tail _ (.tail _ (.tail _ (.head _)))) (c := 243) (j := 0) (by decide) rfl (by omega) (by omega)), hI_of (fv0 h (.tail _ (.tail _ (.tail _ (.head _)))) (c := 243) (j := 1) (by decide) rfl (by omega) (by omega))]
  rw [hI_of (fv0 h (.tail _ (.tail _ (.tail _ (.tail _ (.head _))))) (c := 289) (j := 871) (by decide) rfl (by omega) (by omega)), hI_of (fv0 h (.tail _ (.tail _ (.tail _ (.tail _ (.head _))))) (c := 289) (j := 872) (by decide) rfl (by omega) (by omega))]
  exact hF
theorem frm237 (hO : hOk hp) (h : ∀ c j, c < tNC → fpIn 237 xs c j → hv hp' c j = hv hp c j) (hF : fB237 xs hp) : fB237 xs hp' := by
  rcases xs with _ | ⟨x_, xs⟩
  rotate_left
  · exact hF.elim
  have hF : kRPA1 hp := hF
  show kRPA1 hp'
  unfold kRPA1 at hF ⊢
  rw [nmr_fr h (c := 3) (by decide) (show tRO 3 = 3 from rfl) (.head _)]
  rw [nmk_fr (k := 1) h (.tail _ (.head _)) (.tail _ (.tail _ (.head _))) (by decide) (by decide)]
  rw [hI_of (fv0 h (.tail _ (.tail _ (.tail _ (.head _)))) (c := 2) (j := 0) (by decide) rfl (by omega) (by omega)), hI_of (fv0 h (.tail _ (.tail _ (.tail _ (.head _)))) (c := 2) (j := 1) (by decide) rfl (by omega) (by omega))]
  rw [hI_of (fv0 h (.tail _ (.tail _ (.tail _ (.tail _ (.head _))))) (c := 289) (j := 871) (by decide) rfl (by omega) (by omega)), hI_of (fv0 h (.tail _ (.tail _ (.tail _ (.tail _ (.head _))))) (c := 289) (j := 872) (by decide) rfl (by omega) (by omega))]
  exact hF
theorem frm238 (hO : hOk hp) (h : ∀ c j, c < tNC → fpIn 238 xs c j → hv hp' c j = hv hp c j) (hF : fB238 xs hp) : fB238 xs hp' := by
  rcases xs with _ | ⟨x_, xs⟩
  rotate_left
  · exact hF.elim
  have hF : kRPB1 hp := hF
  show kRPB1 hp'
  unfold kRPB1 at hF ⊢
  rw [nmr_fr h (c := 16) (by decide) (show tRO 16 = 99 from rfl) (.head _)]
  rw [nmk_fr (k := 1) h (.tail _ (.head _)) (.tail _ (.tail _ (.head _))) (by decide) (by decide)]
  rw [hI_of (fv0 h (.tail _ (.tail _ (.tail _ (.head _)))) (c := 15) (j := 0) (by decide) rfl (by omega) (by omega)), hI_of (fv0 h (.tail _ (.tail _ (.tail _ (.head _)))) (c := 15) (j := 1) (by decide) rfl (by omega) (by omega))]
  rw [hI_of (fv0 h (.tail _ (.tail _ (.tail _ (.tail _ (.head _))))) (c := 289) (j := 871) (by decide) rfl (by omega) (by omega)), hI_of (fv0 h (.tail _ (.tail _ (.tail _ (.tail _ (.head _))))) (c := 289) (j := 872) (by decide) rfl (by omega) (by omega))]
  exact hF
theorem frm239 (hO : hOk hp) (h : ∀ c j, c < tNC → fpIn 239 xs c j → hv hp' c j = hv hp c j) (hF : fB239 xs hp) : fB239 xs hp' := by
  rcases xs with _ | ⟨s, xs⟩
  · exact hF.elim
  rcases xs with _ | ⟨x_, xs⟩
  rotate_left
  · exact hF.elim
  have hF : kNQ1 s hp := hF
  show kNQ1 s hp'
  unfold kNQ1 at hF ⊢
  intro j hj hs
  rw [hL_of (fv1 h (.head _) (c := 290) (j := 12 + j) (by decide) rfl (by omega) (by omega) (by omega)), hL_of (fv1 h (.tail _ (.head _)) (c := 278) (j := j) (by decide) rfl (by omega) (by omega) (by omega))]
  exact hF j hj hs
theorem frm240 (hO : hOk hp) (h : ∀ c j, c < tNC → fpIn 240 xs c j → hv hp' c j = hv hp c j) (hF : fB240 xs hp) : fB240 xs hp' := by
  rcases xs with _ | ⟨q, xs⟩
  · exact hF.elim
  rcases xs with _ | ⟨c, xs⟩
  · exact hF.elim
  rcases xs with _ | ⟨l, xs⟩
  · exact hF.elim
  rcases xs with _ | ⟨x_, xs⟩
  rotate_left
  · exact hF.elim
  have hF : kRGX q c l hp := hF
  show kRGX q c l hp'
  unfold kRGX at hF ⊢
  rw [fX3 h (.head _) (.tail _ (.head _)) (.tail _ (.tail _ (.head _)))]
  rw [nmx_fr hO h (.tail _ (.tail _ (.tail _ (.tail _ (.tail _ (.tail _ (.tail _ (.head _)))))))) (.tail _ (.tail _ (.tail _ (.tail _ (.tail _ (.head _)))))) (.tail _ (.tail _ (.tail _ (.tail _ (.tail _ (.tail _ (.head _))))))) (.tail _ (.tail _ (.tail _ (.head _)))) (.tail _ (.tail _ (.tail _ (.tail _ (.head _))))), xsz_fr hO h (.tail _ (.tail _ (.tail _ (.tail _ (.tail _ (.tail _ (.tail _ (.head _)))))))) (.tail _ (.tail _ (.tail _ (.tail _ (.tail _ (.tail _ (.tail _ (.tail _ (.head _))))))))) (.tail _ (.tail _ (.tail _ (.tail _ (.tail _ (.tail _ (.tail _ (.tail _ (.tail _ (.head _)))))))))) 0 (by decide), xsz_fr hO h (.tail _ (.tail _ (.tail _ (.tail _ (.tail _ (.tail _ (.tail _ (.head _)))))))) (.tail _ (.tail _ (.tail _ (.tail _ (.tail _ (.tail _ (.tail _ (.tail _ (.head _))))))))) (.tail _ (.tail _ (.tail _ (.tail _ (.tail _ (.tail _ (.tail _ (.tail _ (.tail _ (.head _)))))))))) 1 (by decide)]
  exact hF
theorem frm241 (hO : hOk hp) (h : ∀ c j, c < tNC → fpIn 241 xs c j → hv hp' c j = hv hp c j) (hF : fB241 xs hp) : fB241 xs hp' := by
  rcases xs with _ | ⟨q, xs⟩
  · exact hF.elim
  rcases xs with _ | ⟨c, xs⟩
  · exact hF.elim
  rcases xs with _ | ⟨l, xs⟩
  · exact hF.elim
  rcases xs with _ | ⟨k, xs⟩
  · exact hF.elim
  rcases xs with _ | ⟨a, xs⟩
  · exact hF.elim
  rcases xs with _ | ⟨z, xs⟩
  · exact hF.elim
  rcases xs with _ | ⟨v, xs⟩
  · exact hF.elim
  rcases xs with _ | ⟨x_, xs⟩
  rotate_left
  · exact hF.elim
  have hF : kRHX q c l k a z v hp := hF
  show kRHX q c l k a z v hp'
  unfold kRHX at hF ⊢
  rw [fX3 h (.head _) (.tail _ (.head _)) (.tail _ (.tail _ (.head _)))]
  rw [nmx_fr hO h (.tail _ (.tail _ (.tail _ (.tail _ (.tail _ (.tail _ (.tail _ (.head _)))))))) (.tail _ (.tail _ (.tail _ (.tail _ (.tail _ (.head _)))))) (.tail _ (.tail _ (.tail _ (.tail _ (.tail _ (.tail _ (.head _))))))) (.tail _ (.tail _ (.tail _ (.head _)))) (.tail _ (.tail _ (.tail _ (.tail _ (.head _))))), xsz_fr hO h (.tail _ (.tail _ (.tail _ (.tail _ (.tail _ (.tail _ (.tail _ (.head _)))))))) (.tail _ (.tail _ (.tail _ (.tail _ (.tail _ (.tail _ (.tail _ (.tail _ (.head _))))))))) (.tail _ (.tail _ (.tail _ (.tail _ (.tail _ (.tail _ (.tail _ (.tail _ (.tail _ (.head _)))))))))) 0 (by decide), xsz_fr hO h (.tail _ (.tail _ (.tail _ (.tail _ (.tail _ (.tail _ (.tail _ (.head _)))))))) (.tail _ (.tail _ (.tail _ (.tail _ (.tail _ (.tail _ (.tail _ (.tail _ (.head _))))))))) (.tail _ (.tail _ (.tail _ (.tail _ (.tail _ (.tail _ (.tail _ (.tail _ (.tail _ (.head _)))))))))) 1 (by decide)]
  exact hF
theorem frm242 (hO : hOk hp) (h : ∀ c j, c < tNC → fpIn 242 xs c j → hv hp' c j = hv hp c j) (hF : fB242 xs hp) : fB242 xs hp' := by
  rcases xs with _ | ⟨k, xs⟩
  · exact hF.elim
  rcases xs with _ | ⟨p, xs⟩
  · exact hF.elim
  rcases xs with _ | ⟨x_, xs⟩
  rotate_left
  · exact hF.elim
  have hF : kRRX k p hp := hF
  show kRRX k p hp'
  unfold kRRX at hF ⊢
  rw [fX3 h (.head _) (.tail _ (.head _)) (.tail _ (.tail _ (.head _)))]
  rw [nmx_fr hO h (.tail _ (.tail _ (.tail _ (.tail _ (.tail _ (.tail _ (.tail _ (.head _)))))))) (.tail _ (.tail _ (.tail _ (.tail _ (.tail _ (.head _)))))) (.tail _ (.tail _ (.tail _ (.tail _ (.tail _ (.tail _ (.head _))))))) (.tail _ (.tail _ (.tail _ (.head _)))) (.tail _ (.tail _ (.tail _ (.tail _ (.head _))))), xsz_fr hO h (.tail _ (.tail _ (.tail _ (.tail _ (.tail _ (.tail _ (.tail _ (.head _)))))))) (.tail _ (.tail _ (.tail _ (.tail _ (.tail _ (.tail _ (.tail _ (.tail _ (.head _))))))))) (.tail _ (.tail _ (.tail _ (.tail _ (.tail _ (.tail _ (.tail _ (.tail _ (.tail _ (.head _)))))))))) 0 (by decide), xsz_fr hO h (.tail _ (.tail _ (.tail _ (.tail _ (.tail _ (.tail _ (.tail _ (.head _)))))))) (.tail _ (.tail _ (.tail _ (.tail _ (.tail _ (.tail _ (.tail _ (.tail _ (.head _))))))))) (.tail _ (.tail _ (.tail _ (.tail _ (.tail _ (.tail _ (.tail _ (.tail _ (.tail _ (.head _)))))))))) 1 (by decide)]
  exact hF
theorem frm243 (hO : hOk hp) (h : ∀ c j, c < tNC → fpIn 243 xs c j → hv hp' c j = hv hp c j) (hF : fB243 xs hp) : fB243 xs hp' := by
  rcases xs with _ | ⟨l, xs⟩
  · exact hF.elim
  rcases xs with _ | ⟨x_, xs⟩
  rotate_left
  · exact hF.elim
  have hF : kRDX l hp := hF
  show kRDX l hp'
  unfold kRDX at hF ⊢
  rw [fX3 h (.head _) (.tail _ (.head _)) (.tail _ (.tail _ (.head _)))]
  rw [nmx_fr hO h (.tail _ (.tail _ (.tail _ (.tail _ (.tail _ (.tail _ (.tail _ (.head _)))))))) (.tail _ (.tail _ (.tail _ (.tail _ (.tail _ (.head _)))))) (.tail _ (.tail _ (.tail _ (.tail _ (.tail _ (.tail _ (.head _))))))) (.tail _ (.tail _ (.tail _ (.head _)))) (.tail _ (.tail _ (.tail _ (.tail _ (.head _))))), xsz_fr hO h (.tail _ (.tail _ (.tail _ (.tail _ (.tail _ (.tail _ (.tail _ (.head _)))))))) (.tail _ (.tail _ (.tail _ (.tail _ (.tail _ (.tail _ (.tail _ (.tail _ (.head _))))))))) (.tail _ (.tail _ (.tail _ (.tail _ (.tail _ (.tail _ (.tail _ (.tail _ (.tail _ (.head _)))))))))) 0 (by decide), xsz_fr hO h (.tail _ (.tail _ (.tail _ (.tail _ (.tail _ (.tail _ (.tail _ (.head _)))))))) (.tail _ (.tail _ (.tail _ (.tail _ (.tail _ (.tail _ (.tail _ (.tail _ (.head _))))))))) (.tail _ (.tail _ (.tail _ (.tail _ (.tail _ (.tail _ (.tail _ (.tail _ (.tail _ (.head _)))))))))) 1 (by decide)]
  exact hF
theorem frm244 (hO : hOk hp) (h : ∀ c j, c < tNC → fpIn 244 xs c j → hv hp' c j = hv hp c j) (hF : fB244 xs hp) : fB244 xs hp' := by
  rcases xs with _ | ⟨k, xs⟩
  · exact hF.elim
  rcases xs with _ | ⟨x_, xs⟩
  rotate_left
  · exact hF.elim
  have hF : kRAX k hp := hF
  show kRAX k hp'
  unfold kRAX at hF ⊢
  rw [fX3 h (.head _) (.tail _ (.head _)) (.tail _ (.tail _ (.head _)))]
  rw [nmx_fr hO h (.tail _ (.tail _ (.tail _ (.tail _ (.tail _ (.tail _ (.tail _ (.head _)))))))) (.tail _ (.tail _ (.tail _ (.tail _ (.tail _ (.head _)))))) (.tail _ (.tail _ (.tail _ (.tail _ (.tail _ (.tail _ (.head _))))))) (.tail _ (.tail _ (.tail _ (.head _)))) (.tail _ (.tail _ (.tail _ (.tail _ (.head _))))), xsz_fr hO h (.tail _ (.tail _ (.tail _ (.tail _ (.tail _ (.tail _ (.tail _ (.head _)))))))) (.tail _ (.tail _ (.tail _ (.tail _ (.tail _ (.tail _ (.tail _ (.tail _ (.head _))))))))) (.tail _ (.tail _ (.tail _ (.tail _ (.tail _ (.tail _ (.tail _ (.tail _ (.tail _ (.head _)))))))))) 0 (by decide), xsz_fr hO h (.tail _ (.tail _ (.tail _ (.tail _ (.tail _ (.tail _ (.tail _ (.head _)))))))) (.tail _ (.tail _ (.tail _ (.tail _ (.tail _ (.tail _ (.tail _ (.tail _ (.head _))))))))) (.tail _ (.tail _ (.tail _ (.tail _ (.tail _ (.tail _ (.tail _ (.tail _ (.tail _ (.head _)))))))))) 1 (by decide)]
  exact hF
theorem frm245 (hO : hOk hp) (h : ∀ c j, c < tNC → fpIn 245 xs c j → hv hp' c j = hv hp c j) (hF : fB245 xs hp) : fB245 xs hp' := by
  rcases xs with _ | ⟨q, xs⟩
  · exact hF.elim
  rcases xs with _ | ⟨x, xs⟩
  · exact hF.elim
  rcases xs with _ | ⟨y, xs⟩
  · exact hF.elim
  rcases xs with _ | ⟨x_, xs⟩
  rotate_left
  · exact hF.elim
  have hF : kRBX q x y hp := hF
  show kRBX q x y hp'
  unfold kRBX at hF ⊢
  rw [fX3 h (.head _) (.tail _ (.head _)) (.tail _ (.tail _ (.head _)))]
  rw [nmx_fr hO h (.tail _ (.tail _ (.tail _ (.tail _ (.tail _ (.tail _ (.tail _ (.head _)))))))) (.tail _ (.tail _ (.tail _ (.tail _ (.tail _ (.head _)))))) (.tail _ (.tail _ (.tail _ (.tail _ (.tail _ (.tail _ (.head _))))))) (.tail _ (.tail _ (.tail _ (.head _)))) (.tail _ (.tail _ (.tail _ (.tail _ (.head _))))), xsz_fr hO h (.tail _ (.tail _ (.tail _ (.tail _ (.tail _ (.tail _ (.tail _ (.head _)))))))) (.tail _ (.tail _ (.tail _ (.tail _ (.tail _ (.tail _ (.tail _ (.tail _ (.head _))))))))) (.tail _ (.tail _ (.tail _ (.tail _ (.tail _ (.tail _ (.tail _ (.tail _ (.tail _ (.head _)))))))))) 0 (by decide), xsz_fr hO h (.tail _ (.tail _ (.tail _ (.tail _ (.tail _ (.tail _ (.tail _ (.head _)))))))) (.tail _ (.tail _ (.tail _ (.tail _ (.tail _ (.tail _ (.tail _ (.tail _ (.head _))))))))) (.tail _ (.tail _ (.tail _ (.tail _ (.tail _ (.tail _ (.tail _ (.tail _ (.tail _ (.head _)))))))))) 1 (by decide)]
  exact hF
theorem frm246 (hO : hOk hp) (h : ∀ c j, c < tNC → fpIn 246 xs c j → hv hp' c j = hv hp c j) (hF : fB246 xs hp) : fB246 xs hp' := by
  rcases xs with _ | ⟨q, xs⟩
  · exact hF.elim
  rcases xs with _ | ⟨x_, xs⟩
  rotate_left
  · exact hF.elim
  have hF : kROX q hp := hF
  show kROX q hp'
  unfold kROX at hF ⊢
  rw [fX3 h (.head _) (.tail _ (.head _)) (.tail _ (.tail _ (.head _)))]
  rw [nmx_fr hO h (.tail _ (.tail _ (.tail _ (.tail _ (.tail _ (.tail _ (.tail _ (.head _)))))))) (.tail _ (.tail _ (.tail _ (.tail _ (.tail _ (.head _)))))) (.tail _ (.tail _ (.tail _ (.tail _ (.tail _ (.tail _ (.head _))))))) (.tail _ (.tail _ (.tail _ (.head _)))) (.tail _ (.tail _ (.tail _ (.tail _ (.head _))))), xsz_fr hO h (.tail _ (.tail _ (.tail _ (.tail _ (.tail _ (.tail _ (.tail _ (.head _)))))))) (.tail _ (.tail _ (.tail _ (.tail _ (.tail _ (.tail _ (.tail _ (.tail _ (.head _))))))))) (.tail _ (.tail _ (.tail _ (.tail _ (.tail _ (.tail _ (.tail _ (.tail _ (.tail _ (.head _)))))))))) 0 (by decide), xsz_fr hO h (.tail _ (.tail _ (.tail _ (.tail _ (.tail _ (.tail _ (.tail _ (.head _)))))))) (.tail _ (.tail _ (.tail _ (.tail _ (.tail _ (.tail _ (.tail _ (.tail _ (.head _))))))))) (.tail _ (.tail _ (.tail _ (.tail _ (.tail _ (.tail _ (.tail _ (.tail _ (.tail _ (.head _)))))))))) 1 (by decide)]
  exact hF
theorem frm247 (hO : hOk hp) (h : ∀ c j, c < tNC → fpIn 247 xs c j → hv hp' c j = hv hp c j) (hF : fB247 xs hp) : fB247 xs hp' := by
  rcases xs with _ | ⟨k, xs⟩
  · exact hF.elim
  rcases xs with _ | ⟨x_, xs⟩
  rotate_left
  · exact hF.elim
  have hF : kRAA k hp := hF
  show kRAA k hp'
  unfold kRAA at hF ⊢
  rw [fX3 h (.head _) (.tail _ (.head _)) (.tail _ (.tail _ (.head _)))]
  rw [nmr_fr h (c := 3) (by decide) (show tRO 3 = 3 from rfl) (.tail _ (.tail _ (.tail _ (.head _)))), hI_of (fv0 h (.tail _ (.tail _ (.tail _ (.tail _ (.head _))))) (c := 2) (j := 0) (by decide) rfl (by omega) (by omega)), hI_of (fv0 h (.tail _ (.tail _ (.tail _ (.tail _ (.head _))))) (c := 2) (j := 1) (by decide) rfl (by omega) (by omega))]
  exact hF
theorem frm248 (hO : hOk hp) (h : ∀ c j, c < tNC → fpIn 248 xs c j → hv hp' c j = hv hp c j) (hF : fB248 xs hp) : fB248 xs hp' := by
  rcases xs with _ | ⟨k, xs⟩
  · exact hF.elim
  rcases xs with _ | ⟨x_, xs⟩
  rotate_left
  · exact hF.elim
  have hF : kRAB k hp := hF
  show kRAB k hp'
  unfold kRAB at hF ⊢
  rw [fX3 h (.head _) (.tail _ (.head _)) (.tail _ (.tail _ (.head _)))]
  rw [nmr_fr h (c := 16) (by decide) (show tRO 16 = 99 from rfl) (.tail _ (.tail _ (.tail _ (.head _)))), hI_of (fv0 h (.tail _ (.tail _ (.tail _ (.tail _ (.head _))))) (c := 15) (j := 0) (by decide) rfl (by omega) (by omega)), hI_of (fv0 h (.tail _ (.tail _ (.tail _ (.tail _ (.head _))))) (c := 15) (j := 1) (by decide) rfl (by omega) (by omega))]
  exact hF
theorem frm249 (hO : hOk hp) (h : ∀ c j, c < tNC → fpIn 249 xs c j → hv hp' c j = hv hp c j) (hF : fB249 xs hp) : fB249 xs hp' := by
  rcases xs with _ | ⟨q, xs⟩
  · exact hF.elim
  rcases xs with _ | ⟨c, xs⟩
  · exact hF.elim
  rcases xs with _ | ⟨l, xs⟩
  · exact hF.elim
  rcases xs with _ | ⟨x_, xs⟩
  rotate_left
  · exact hF.elim
  have hF : kRGM q c l hp := hF
  show kRGM q c l hp'
  unfold kRGM at hF ⊢
  rw [(fM3 h (.head _) (.tail _ (.head _)) (.tail _ (.tail _ (.head _)))).1]
  rw [nmm_fr h (.tail _ (.tail _ (.tail _ (.head _)))) (.tail _ (.tail _ (.tail _ (.tail _ (.head _))))), hI_of (fv0 h (.tail _ (.tail _ (.tail _ (.tail _ (.tail _ (.head _)))))) (c := 275) (j := 0) (by decide) rfl (by omega) (by omega)), hI_of (fv0 h (.tail _ (.tail _ (.tail _ (.tail _ (.tail _ (.head _)))))) (c := 275) (j := 1) (by decide) rfl (by omega) (by omega))]
  exact hF
theorem frm250 (hO : hOk hp) (h : ∀ c j, c < tNC → fpIn 250 xs c j → hv hp' c j = hv hp c j) (hF : fB250 xs hp) : fB250 xs hp' := by
  rcases xs with _ | ⟨q, xs⟩
  · exact hF.elim
  rcases xs with _ | ⟨c, xs⟩
  · exact hF.elim
  rcases xs with _ | ⟨l, xs⟩
  · exact hF.elim
  rcases xs with _ | ⟨k, xs⟩
  · exact hF.elim
  rcases xs with _ | ⟨a, xs⟩
  · exact hF.elim
  rcases xs with _ | ⟨z, xs⟩
  · exact hF.elim
  rcases xs with _ | ⟨v, xs⟩
  · exact hF.elim
  rcases xs with _ | ⟨x_, xs⟩
  rotate_left
  · exact hF.elim
  have hF : kRHM q c l k a z v hp := hF
  show kRHM q c l k a z v hp'
  unfold kRHM at hF ⊢
  rw [(fM3 h (.head _) (.tail _ (.head _)) (.tail _ (.tail _ (.head _)))).1]
  rw [nmm_fr h (.tail _ (.tail _ (.tail _ (.head _)))) (.tail _ (.tail _ (.tail _ (.tail _ (.head _))))), hI_of (fv0 h (.tail _ (.tail _ (.tail _ (.tail _ (.tail _ (.head _)))))) (c := 275) (j := 0) (by decide) rfl (by omega) (by omega)), hI_of (fv0 h (.tail _ (.tail _ (.tail _ (.tail _ (.tail _ (.head _)))))) (c := 275) (j := 1) (by decide) rfl (by omega) (by omega))]
  exact hF
theorem frm251 (hO : hOk hp) (h : ∀ c j, c < tNC → fpIn 251 xs c j → hv hp' c j = hv hp c j) (hF : fB251 xs hp) : fB251 xs hp' := by
  rcases xs with _ | ⟨k, xs⟩
  · exact hF.elim
  rcases xs with _ | ⟨p, xs⟩
  · exact hF.elim
  rcases xs with _ | ⟨x_, xs⟩
  rotate_left
  · exact hF.elim
  have hF : kRRM k p hp := hF
  show kRRM k p hp'
  unfold kRRM at hF ⊢
  rw [(fM3 h (.head _) (.tail _ (.head _)) (.tail _ (.tail _ (.head _)))).1]
  rw [nmm_fr h (.tail _ (.tail _ (.tail _ (.head _)))) (.tail _ (.tail _ (.tail _ (.tail _ (.head _))))), hI_of (fv0 h (.tail _ (.tail _ (.tail _ (.tail _ (.tail _ (.head _)))))) (c := 275) (j := 0) (by decide) rfl (by omega) (by omega)), hI_of (fv0 h (.tail _ (.tail _ (.tail _ (.tail _ (.tail _ (.head _)))))) (c := 275) (j := 1) (by decide) rfl (by omega) (by omega))]
  exact hF
theorem frm252 (hO : hOk hp) (h : ∀ c j, c < tNC → fpIn 252 xs c j → hv hp' c j = hv hp c j) (hF : fB252 xs hp) : fB252 xs hp' := by
  rcases xs with _ | ⟨l, xs⟩
  · exact hF.elim
  rcases xs with _ | ⟨x_, xs⟩
  rotate_left
  · exact hF.elim
  have hF : kRDM l hp := hF
  show kRDM l hp'
  unfold kRDM at hF ⊢
  rw [(fM3 h (.head _) (.tail _ (.head _)) (.tail _ (.tail _ (.head _)))).1]
  rw [nmm_fr h (.tail _ (.tail _ (.tail _ (.head _)))) (.tail _ (.tail _ (.tail _ (.tail _ (.head _))))), hI_of (fv0 h (.tail _ (.tail _ (.tail _ (.tail _ (.tail _ (.head _)))))) (c := 275) (j := 0) (by decide) rfl (by omega) (by omega)), hI_of (fv0 h (.tail _ (.tail _ (.tail _ (.tail _ (.tail _ (.head _)))))) (c := 275) (j := 1) (by decide) rfl (by omega) (by omega))]
  exact hF
theorem frm253 (hO : hOk hp) (h : ∀ c j, c < tNC → fpIn 253 xs c j → hv hp' c j = hv hp c j) (hF : fB253 xs hp) : fB253 xs hp' := by
  rcases xs with _ | ⟨k, xs⟩
  · exact hF.elim
  rcases xs with _ | ⟨x_, xs⟩
  rotate_left
  · exact hF.elim
  have hF : kRAM k hp := hF
  show kRAM k hp'
  unfold kRAM at hF ⊢
  rw [(fM3 h (.head _) (.tail _ (.head _)) (.tail _ (.tail _ (.head _)))).1]
  rw [nmm_fr h (.tail _ (.tail _ (.tail _ (.head _)))) (.tail _ (.tail _ (.tail _ (.tail _ (.head _))))), hI_of (fv0 h (.tail _ (.tail _ (.tail _ (.tail _ (.tail _ (.head _)))))) (c := 275) (j := 0) (by decide) rfl (by omega) (by omega)), hI_of (fv0 h (.tail _ (.tail _ (.tail _ (.tail _ (.tail _ (.head _)))))) (c := 275) (j := 1) (by decide) rfl (by omega) (by omega))]
  exact hF
theorem frm254 (hO : hOk hp) (h : ∀ c j, c < tNC → fpIn 254 xs c j → hv hp' c j = hv hp c j) (hF : fB254 xs hp) : fB254 xs hp' := by
  rcases xs with _ | ⟨q, xs⟩
  · exact hF.elim
  rcases xs with _ | ⟨x, xs⟩
  · exact hF.elim
  rcases xs with _ | ⟨y, xs⟩
  · exact hF.elim
  rcases xs with _ | ⟨x_, xs⟩
  rotate_left
  · exact hF.elim
  have hF : kRBM q x y hp := hF
  show kRBM q x y hp'
  unfold kRBM at hF ⊢
  rw [(fM3 h (.head _) (.tail _ (.head _)) (.tail _ (.tail _ (.head _)))).1]
  rw [nmm_fr h (.tail _ (.tail _ (.tail _ (.head _)))) (.tail _ (.tail _ (.tail _ (.tail _ (.head _))))), hI_of (fv0 h (.tail _ (.tail _ (.tail _ (.tail _ (.tail _ (.head _)))))) (c := 275) (j := 0) (by decide) rfl (by omega) (by omega)), hI_of (fv0 h (.tail _ (.tail _ (.tail _ (.tail _ (.tail _ (.head _)))))) (c := 275) (j := 1) (by decide) rfl (by omega) (by omega))]
  exact hF
theorem frm0 (hO : hOk hp) (h : ∀ c j, c < tNC → fpIn 0 xs c j → hv hp' c j = hv hp c j) (hF : fB0 xs hp) : fB0 xs hp' := by
  rcases xs with _ | ⟨n, xs⟩
  · exact hF.elim
  rcases xs with _ | ⟨x_, xs⟩
  rotate_left
  · exact hF.elim
  have hF : fSpot n hp := hF
  show fSpot n hp'
  exact fr_spot h hF
theorem frm1 (hO : hOk hp) (h : ∀ c j, c < tNC → fpIn 1 xs c j → hv hp' c j = hv hp c j) (hF : fB1 xs hp) : fB1 xs hp' := by
  rcases xs with _ | ⟨n, xs⟩
  · exact hF.elim
  rcases xs with _ | ⟨x_, xs⟩
  rotate_left
  · exact hF.elim
  have hF : fSen 53 55 n hp := hF
  show fSen 53 55 n hp'
  exact fr_sen h (.head _) (.tail _ (.head _)) (by decide) rfl (by decide) rfl hF
theorem frm2 (hO : hOk hp) (h : ∀ c j, c < tNC → fpIn 2 xs c j → hv hp' c j = hv hp c j) (hF : fB2 xs hp) : fB2 xs hp' := by
  rcases xs with _ | ⟨n, xs⟩
  · exact hF.elim
  rcases xs with _ | ⟨x_, xs⟩
  rotate_left
  · exact hF.elim
  have hF : fSen 58 60 n hp := hF
  show fSen 58 60 n hp'
  exact fr_sen h (.head _) (.tail _ (.head _)) (by decide) rfl (by decide) rfl hF
theorem frm3 (hO : hOk hp) (h : ∀ c j, c < tNC → fpIn 3 xs c j → hv hp' c j = hv hp c j) (hF : fB3 xs hp) : fB3 xs hp' := by
  rcases xs with _ | ⟨n, xs⟩
  · exact hF.elim
  rcases xs with _ | ⟨x_, xs⟩
  rotate_left
  · exact hF.elim
  have hF : fSen 238 240 n hp := hF
  show fSen 238 240 n hp'
  exact fr_sen h (.head _) (.tail _ (.head _)) (by decide) rfl (by decide) rfl hF
theorem frm4 (hO : hOk hp) (h : ∀ c j, c < tNC → fpIn 4 xs c j → hv hp' c j = hv hp c j) (hF : fB4 xs hp) : fB4 xs hp' := by
  rcases xs with _ | ⟨n, xs⟩
  · exact hF.elim
  rcases xs with _ | ⟨x_, xs⟩
  rotate_left
  · exact hF.elim
  have hF : fSen 269 271 n hp := hF
  show fSen 269 271 n hp'
  exact fr_sen h (.head _) (.tail _ (.head _)) (by decide) rfl (by decide) rfl hF
theorem frm5 (hO : hOk hp) (h : ∀ c j, c < tNC → fpIn 5 xs c j → hv hp' c j = hv hp c j) (hF : fB5 xs hp) : fB5 xs hp' := by
  rcases xs with _ | ⟨n, xs⟩
  · exact hF.elim
  rcases xs with _ | ⟨x_, xs⟩
  rotate_left
  · exact hF.elim
  have hF : fRoll n hp := hF
  show fRoll n hp'
  exact fr_roll h hF
theorem frm6 (hO : hOk hp) (h : ∀ c j, c < tNC → fpIn 6 xs c j → hv hp' c j = hv hp c j) (hF : fB6 xs hp) : fB6 xs hp' := by
  rcases xs with _ | ⟨n, xs⟩
  · exact hF.elim
  rcases xs with _ | ⟨x_, xs⟩
  rotate_left
  · exact hF.elim
  have hF : fCh 276 250 n hp := hF
  show fCh 276 250 n hp'
  exact fr_ch h (.head _) (by decide) rfl hF
theorem frm7 (hO : hOk hp) (h : ∀ c j, c < tNC → fpIn 7 xs c j → hv hp' c j = hv hp c j) (hF : fB7 xs hp) : fB7 xs hp' := by
  rcases xs with _ | ⟨n, xs⟩
  · exact hF.elim
  rcases xs with _ | ⟨x_, xs⟩
  rotate_left
  · exact hF.elim
  have hF : fCh 275 250 n hp := hF
  show fCh 275 250 n hp'
  exact fr_ch h (.head _) (by decide) rfl hF
theorem frm8 (hO : hOk hp) (h : ∀ c j, c < tNC → fpIn 8 xs c j → hv hp' c j = hv hp c j) (hF : fB8 xs hp) : fB8 xs hp' := by
  rcases xs with _ | ⟨n, xs⟩
  · exact hF.elim
  rcases xs with _ | ⟨x_, xs⟩
  rotate_left
  · exact hF.elim
  have hF : fEq 275 0 276 0 401 n hp := hF
  show fEq 275 0 276 0 401 n hp'
  exact fr_eqs h (.head _) (.tail _ (.head _)) (by decide) rfl (by decide) rfl (by decide) (by decide) hF
theorem frm9 (hO : hOk hp) (h : ∀ c j, c < tNC → fpIn 9 xs c j → hv hp' c j = hv hp c j) (hF : fB9 xs hp) : fB9 xs hp' := by
  rcases xs with _ | ⟨n, xs⟩
  · exact hF.elim
  rcases xs with _ | ⟨t, xs⟩
  · exact hF.elim
  rcases xs with _ | ⟨x_, xs⟩
  rotate_left
  · exact hF.elim
  have hF : fPsum n t hp := hF
  show fPsum n t hp'
  exact fr_psum h hF
theorem frm10 (hO : hOk hp) (h : ∀ c j, c < tNC → fpIn 10 xs c j → hv hp' c j = hv hp c j) (hF : fB10 xs hp) : fB10 xs hp' := by
  rcases xs with _ | ⟨n, xs⟩
  · exact hF.elim
  rcases xs with _ | ⟨t, xs⟩
  · exact hF.elim
  rcases xs with _ | ⟨x_, xs⟩
  rotate_left
  · exact hF.elim
  have hF : fSum n t hp := hF
  show fSum n t hp'
  exact fr_sum h hF
theorem frm11 (hO : hOk hp) (h : ∀ c j, c < tNC → fpIn 11 xs c j → hv hp' c j = hv hp c j) (hF : fB11 xs hp) : fB11 xs hp' := by
  rcases xs with _ | ⟨n, xs⟩
  · exact hF.elim
  rcases xs with _ | ⟨x_, xs⟩
  rotate_left
  · exact hF.elim
  have hF : fRollm n hp := hF
  show fRollm n hp'
  exact fr_rollm h hF
theorem frm12 (hO : hOk hp) (h : ∀ c j, c < tNC → fpIn 12 xs c j → hv hp' c j = hv hp c j) (hF : fB12 xs hp) : fB12 xs hp' := by
  rcases xs with _ | ⟨x_, xs⟩
  rotate_left
  · exact hF.elim
  have hF : fPfs 275 690 hp := hF
  show fPfs 275 690 hp'
  exact fr_pfs (fun j h1 h2 => fr0 h (.head _) (by decide) rfl h1 h2) hF
theorem frm13 (hO : hOk hp) (h : ∀ c j, c < tNC → fpIn 13 xs c j → hv hp' c j = hv hp c j) (hF : fB13 xs hp) : fB13 xs hp' := by
  rcases xs with _ | ⟨n, xs⟩
  · exact hF.elim
  rcases xs with _ | ⟨t, xs⟩
  · exact hF.elim
  rcases xs with _ | ⟨x_, xs⟩
  rotate_left
  · exact hF.elim
  have hF : fDep n t hp := hF
  show fDep n t hp'
  exact fr_dep h hF
theorem frm14 (hO : hOk hp) (h : ∀ c j, c < tNC → fpIn 14 xs c j → hv hp' c j = hv hp c j) (hF : fB14 xs hp) : fB14 xs hp' := by
  rcases xs with _ | ⟨n, xs⟩
  · exact hF.elim
  rcases xs with _ | ⟨t, xs⟩
  · exact hF.elim
  rcases xs with _ | ⟨x_, xs⟩
  rotate_left
  · exact hF.elim
  have hF : fCode n t hp := hF
  show fCode n t hp'
  exact fr_code h hF
theorem frm15 (hO : hOk hp) (h : ∀ c j, c < tNC → fpIn 15 xs c j → hv hp' c j = hv hp c j) (hF : fB15 xs hp) : fB15 xs hp' := by
  rcases xs with _ | ⟨n, xs⟩
  · exact hF.elim
  rcases xs with _ | ⟨t, xs⟩
  · exact hF.elim
  rcases xs with _ | ⟨x_, xs⟩
  rotate_left
  · exact hF.elim
  have hF : fStk n t hp := hF
  show fStk n t hp'
  exact fr_stk h hF
theorem frm16 (hO : hOk hp) (h : ∀ c j, c < tNC → fpIn 16 xs c j → hv hp' c j = hv hp c j) (hF : fB16 xs hp) : fB16 xs hp' := by
  rcases xs with _ | ⟨n, xs⟩
  · exact hF.elim
  rcases xs with _ | ⟨x_, xs⟩
  rotate_left
  · exact hF.elim
  have hF : fEq 275 691 277 0 160 n hp := hF
  show fEq 275 691 277 0 160 n hp'
  exact fr_eqs h (.head _) (.tail _ (.head _)) (by decide) rfl (by decide) rfl (by decide) (by decide) hF
theorem frm17 (hO : hOk hp) (h : ∀ c j, c < tNC → fpIn 17 xs c j → hv hp' c j = hv hp c j) (hF : fB17 xs hp) : fB17 xs hp' := by
  rcases xs with _ | ⟨x_, xs⟩
  rotate_left
  · exact hF.elim
  have hF : fKept 0 0 hp := hF
  show fKept 0 0 hp'
  exact fr_kept (fun j h1 h2 => fr0 h (.head _) (by decide) rfl h1 (by omega)) (fr0 h (.tail _ (.head _)) (by decide) rfl (by decide) (by decide)) hF
theorem frm18 (hO : hOk hp) (h : ∀ c j, c < tNC → fpIn 18 xs c j → hv hp' c j = hv hp c j) (hF : fB18 xs hp) : fB18 xs hp' := by
  rcases xs with _ | ⟨n, xs⟩
  · exact hF.elim
  rcases xs with _ | ⟨x_, xs⟩
  rotate_left
  · exact hF.elim
  have hF : fEq 289 0 275 0 871 n hp := hF
  show fEq 289 0 275 0 871 n hp'
  exact fr_eqs h (.head _) (.tail _ (.head _)) (by decide) rfl (by decide) rfl (by decide) (by decide) hF
theorem frm19 (hO : hOk hp) (h : ∀ c j, c < tNC → fpIn 19 xs c j → hv hp' c j = hv hp c j) (hF : fB19 xs hp) : fB19 xs hp' := by
  rcases xs with _ | ⟨x_, xs⟩
  rotate_left
  · exact hF.elim
  have hF : fKept 871 1 hp := hF
  show fKept 871 1 hp'
  exact fr_kept (fun j h1 h2 => fr0 h (.head _) (by decide) rfl h1 (by omega)) (fr0 h (.tail _ (.head _)) (by decide) rfl (by decide) (by decide)) hF
theorem frm20 (hO : hOk hp) (h : ∀ c j, c < tNC → fpIn 20 xs c j → hv hp' c j = hv hp c j) (hF : fB20 xs hp) : fB20 xs hp' := by
  rcases xs with _ | ⟨n, xs⟩
  · exact hF.elim
  rcases xs with _ | ⟨x_, xs⟩
  rotate_left
  · exact hF.elim
  have hF : fEq 289 871 275 0 871 n hp := hF
  show fEq 289 871 275 0 871 n hp'
  exact fr_eqs h (.head _) (.tail _ (.head _)) (by decide) rfl (by decide) rfl (by decide) (by decide) hF
theorem frm21 (hO : hOk hp) (h : ∀ c j, c < tNC → fpIn 21 xs c j → hv hp' c j = hv hp c j) (hF : fB21 xs hp) : fB21 xs hp' := by
  rcases xs with _ | ⟨n, xs⟩
  · exact hF.elim
  rcases xs with _ | ⟨x_, xs⟩
  rotate_left
  · exact hF.elim
  have hF : fMod n := hF
  show fMod n
  exact hF
theorem frm22 (hO : hOk hp) (h : ∀ c j, c < tNC → fpIn 22 xs c j → hv hp' c j = hv hp c j) (hF : fB22 xs hp) : fB22 xs hp' := hF.elim
theorem frm23 (hO : hOk hp) (h : ∀ c j, c < tNC → fpIn 23 xs c j → hv hp' c j = hv hp c j) (hF : fB23 xs hp) : fB23 xs hp' := by
  rcases xs with _ | ⟨n, xs⟩
  · exact hF.elim
  rcases xs with _ | ⟨x_, xs⟩
  rotate_left
  · exact hF.elim
  have hF : fNj n hp := hF
  show fNj n hp'
  exact fr_nj h hF
theorem frm24 (hO : hOk hp) (h : ∀ c j, c < tNC → fpIn 24 xs c j → hv hp' c j = hv hp c j) (hF : fB24 xs hp) : fB24 xs hp' := by
  rcases xs with _ | ⟨x_, xs⟩
  rotate_left
  · exact hF.elim
  have hF : fEqa 53 238 hp := hF
  show fEqa 53 238 hp'
  exact fr_eqa h (.head _) (.tail _ (.head _)) (by decide) rfl (by decide) rfl hF
theorem frm25 (hO : hOk hp) (h : ∀ c j, c < tNC → fpIn 25 xs c j → hv hp' c j = hv hp c j) (hF : fB25 xs hp) : fB25 xs hp' := by
  rcases xs with _ | ⟨x_, xs⟩
  rotate_left
  · exact hF.elim
  have hF : fEqa 238 53 hp := hF
  show fEqa 238 53 hp'
  exact fr_eqa h (.head _) (.tail _ (.head _)) (by decide) rfl (by decide) rfl hF
theorem frm26 (hO : hOk hp) (h : ∀ c j, c < tNC → fpIn 26 xs c j → hv hp' c j = hv hp c j) (hF : fB26 xs hp) : fB26 xs hp' := by
  rcases xs with _ | ⟨x_, xs⟩
  rotate_left
  · exact hF.elim
  have hF : fEqa 55 240 hp := hF
  show fEqa 55 240 hp'
  exact fr_eqa h (.head _) (.tail _ (.head _)) (by decide) rfl (by decide) rfl hF
theorem frm27 (hO : hOk hp) (h : ∀ c j, c < tNC → fpIn 27 xs c j → hv hp' c j = hv hp c j) (hF : fB27 xs hp) : fB27 xs hp' := by
  rcases xs with _ | ⟨x_, xs⟩
  rotate_left
  · exact hF.elim
  have hF : fEqa 240 55 hp := hF
  show fEqa 240 55 hp'
  exact fr_eqa h (.head _) (.tail _ (.head _)) (by decide) rfl (by decide) rfl hF
theorem frm28 (hO : hOk hp) (h : ∀ c j, c < tNC → fpIn 28 xs c j → hv hp' c j = hv hp c j) (hF : fB28 xs hp) : fB28 xs hp' := by
  rcases xs with _ | ⟨x_, xs⟩
  rotate_left
  · exact hF.elim
  have hF : fEqa 53 269 hp := hF
  show fEqa 53 269 hp'
  exact fr_eqa h (.head _) (.tail _ (.head _)) (by decide) rfl (by decide) rfl hF
theorem frm29 (hO : hOk hp) (h : ∀ c j, c < tNC → fpIn 29 xs c j → hv hp' c j = hv hp c j) (hF : fB29 xs hp) : fB29 xs hp' := by
  rcases xs with _ | ⟨x_, xs⟩
  rotate_left
  · exact hF.elim
  have hF : fEqa 269 53 hp := hF
  show fEqa 269 53 hp'
  exact fr_eqa h (.head _) (.tail _ (.head _)) (by decide) rfl (by decide) rfl hF
theorem frm30 (hO : hOk hp) (h : ∀ c j, c < tNC → fpIn 30 xs c j → hv hp' c j = hv hp c j) (hF : fB30 xs hp) : fB30 xs hp' := by
  rcases xs with _ | ⟨x_, xs⟩
  rotate_left
  · exact hF.elim
  have hF : fEqa 55 271 hp := hF
  show fEqa 55 271 hp'
  exact fr_eqa h (.head _) (.tail _ (.head _)) (by decide) rfl (by decide) rfl hF
theorem frm31 (hO : hOk hp) (h : ∀ c j, c < tNC → fpIn 31 xs c j → hv hp' c j = hv hp c j) (hF : fB31 xs hp) : fB31 xs hp' := by
  rcases xs with _ | ⟨x_, xs⟩
  rotate_left
  · exact hF.elim
  have hF : fEqa 271 55 hp := hF
  show fEqa 271 55 hp'
  exact fr_eqa h (.head _) (.tail _ (.head _)) (by decide) rfl (by decide) rfl hF
theorem frm32 (hO : hOk hp) (h : ∀ c j, c < tNC → fpIn 32 xs c j → hv hp' c j = hv hp c j) (hF : fB32 xs hp) : fB32 xs hp' := by
  rcases xs with _ | ⟨x_, xs⟩
  rotate_left
  · exact hF.elim
  have hF : fEqa 58 238 hp := hF
  show fEqa 58 238 hp'
  exact fr_eqa h (.head _) (.tail _ (.head _)) (by decide) rfl (by decide) rfl hF
theorem frm33 (hO : hOk hp) (h : ∀ c j, c < tNC → fpIn 33 xs c j → hv hp' c j = hv hp c j) (hF : fB33 xs hp) : fB33 xs hp' := by
  rcases xs with _ | ⟨x_, xs⟩
  rotate_left
  · exact hF.elim
  have hF : fEqa 238 58 hp := hF
  show fEqa 238 58 hp'
  exact fr_eqa h (.head _) (.tail _ (.head _)) (by decide) rfl (by decide) rfl hF
theorem frm34 (hO : hOk hp) (h : ∀ c j, c < tNC → fpIn 34 xs c j → hv hp' c j = hv hp c j) (hF : fB34 xs hp) : fB34 xs hp' := by
  rcases xs with _ | ⟨x_, xs⟩
  rotate_left
  · exact hF.elim
  have hF : fEqa 60 240 hp := hF
  show fEqa 60 240 hp'
  exact fr_eqa h (.head _) (.tail _ (.head _)) (by decide) rfl (by decide) rfl hF
theorem frm35 (hO : hOk hp) (h : ∀ c j, c < tNC → fpIn 35 xs c j → hv hp' c j = hv hp c j) (hF : fB35 xs hp) : fB35 xs hp' := by
  rcases xs with _ | ⟨x_, xs⟩
  rotate_left
  · exact hF.elim
  have hF : fEqa 240 60 hp := hF
  show fEqa 240 60 hp'
  exact fr_eqa h (.head _) (.tail _ (.head _)) (by decide) rfl (by decide) rfl hF
theorem frm36 (hO : hOk hp) (h : ∀ c j, c < tNC → fpIn 36 xs c j → hv hp' c j = hv hp c j) (hF : fB36 xs hp) : fB36 xs hp' := by
  rcases xs with _ | ⟨x_, xs⟩
  rotate_left
  · exact hF.elim
  have hF : fEqa 58 269 hp := hF
  show fEqa 58 269 hp'
  exact fr_eqa h (.head _) (.tail _ (.head _)) (by decide) rfl (by decide) rfl hF
theorem frm37 (hO : hOk hp) (h : ∀ c j, c < tNC → fpIn 37 xs c j → hv hp' c j = hv hp c j) (hF : fB37 xs hp) : fB37 xs hp' := by
  rcases xs with _ | ⟨x_, xs⟩
  rotate_left
  · exact hF.elim
  have hF : fEqa 269 58 hp := hF
  show fEqa 269 58 hp'
  exact fr_eqa h (.head _) (.tail _ (.head _)) (by decide) rfl (by decide) rfl hF
theorem frm38 (hO : hOk hp) (h : ∀ c j, c < tNC → fpIn 38 xs c j → hv hp' c j = hv hp c j) (hF : fB38 xs hp) : fB38 xs hp' := by
  rcases xs with _ | ⟨x_, xs⟩
  rotate_left
  · exact hF.elim
  have hF : fEqa 60 271 hp := hF
  show fEqa 60 271 hp'
  exact fr_eqa h (.head _) (.tail _ (.head _)) (by decide) rfl (by decide) rfl hF
theorem frm39 (hO : hOk hp) (h : ∀ c j, c < tNC → fpIn 39 xs c j → hv hp' c j = hv hp c j) (hF : fB39 xs hp) : fB39 xs hp' := by
  rcases xs with _ | ⟨x_, xs⟩
  rotate_left
  · exact hF.elim
  have hF : fEqa 271 60 hp := hF
  show fEqa 271 60 hp'
  exact fr_eqa h (.head _) (.tail _ (.head _)) (by decide) rfl (by decide) rfl hF
theorem rg_br {α : Type} {p i : Nat} {l r : Lean.RArray α} (h : p ≤ i) : Lean.RArray.get (.branch p l r) i = Lean.RArray.get r i := by
  have e : Lean.RArray.get (.branch p l r) i = @Bool.rec (fun _ => α) (Lean.RArray.get l i) (Lean.RArray.get r i) (Nat.ble p i) := rfl
  rw [e, Nat.ble_eq_true_of_le h]
theorem fTab_hi {f : Nat} (h : 255 ≤ f) : Lean.RArray.get fTab f = fB255 := by
  unfold fTab
  rw [rg_br (p := 128) (by omega), rg_br (p := 192) (by omega), rg_br (p := 224) (by omega), rg_br (p := 240) (by omega), rg_br (p := 248) (by omega), rg_br (p := 252) (by omega), rg_br (p := 254) (by omega), rg_br (p := 255) (by omega)]
theorem fFS_fs : fsOk fFS := by
  intro f xs hp hp' hO hO' h hF
  unfold fFS at hF ⊢
  rcases Nat.lt_or_ge f 255 with g | hf
  rotate_left
  · rw [fTab_hi hf] at hF
    exact hF.elim
  rcases Nat.lt_or_ge f 127 with g127 | g127
  · rcases Nat.lt_or_ge f 63 with g63 | g63
    · rcases Nat.lt_or_ge f 31 with g31 | g31
      · rcases Nat.lt_or_ge f 15 with g15 | g15
        · rcases Nat.lt_or_ge f 7 with g7 | g7
          · rcases Nat.lt_or_ge f 3 with g3 | g3
            · rcases Nat.lt_or_ge f 1 with g1 | g1
              · have e : f = 0 := by omega
                subst e
                exact frm0 hO h hF
              · rcases Nat.lt_or_ge f 2 with g2 | g2
                · have e : f = 1 := by omega
                  subst e
                  exact frm1 hO h hF
                · have e : f = 2 := by omega
                  subst e
                  exact frm2 hO h hF
            · rcases Nat.lt_or_ge f 5 with g5 | g5
              · rcases Nat.lt_or_ge f 4 with g4 | g4
                · have e : f = 3 := by omega
                  subst e
                  exact frm3 hO h hF
                · have e : f = 4 := by omega
                  subst e
                  exact frm4 hO h hF
              · rcases Nat.lt_or_ge f 6 with g6 | g6
                · have e : f = 5 := by omega
                  subst e
                  exact frm5 hO h hF
                · have e : f = 6 := by omega
                  subst e
                  exact frm6 hO h hF
          · rcases Nat.lt_or_ge f 11 with g11 | g11
            · rcases Nat.lt_or_ge f 9 with g9 | g9
              · rcases Nat.lt_or_ge f 8 with g8 | g8
                · have e : f = 7 := by omega
                  subst e
                  exact frm7 hO h hF
                · have e : f = 8 := by omega
                  subst e
                  exact frm8 hO h hF
              · rcases Nat.lt_or_ge f 10 with g10 | g10
                · have e : f = 9 := by omega
                  subst e
                  exact frm9 hO h hF
                · have e : f = 10 := by omega
                  subst e
                  exact frm10 hO h hF
            · rcases Nat.lt_or_ge f 13 with g13 | g13
              · rcases Nat.lt_or_ge f 12 with g12 | g12
                · have e : f = 11 := by omega
                  subst e
                  exact frm11 hO h hF
                · have e : f = 12 := by omega
                  subst e
                  exact frm12 hO h hF
              · rcases Nat.lt_or_ge f 14 with g14 | g14
                · have e : f = 13 := by omega
                  subst e
                  exact frm13 hO h hF
                · have e : f = 14 := by omega
                  subst e
                  exact frm14 hO h hF
        · rcases Nat.lt_or_ge f 23 with g23 | g23
          · rcases Nat.lt_or_ge f 19 with g19 | g19
            · rcases Nat.lt_or_ge f 17 with g17 | g17
              · rcases Nat.lt_or_ge f 16 with g16 | g16
                · have e : f = 15 := by omega
                  subst e
                  exact frm15 hO h hF
                · have e : f = 16 := by omega
                  subst e
                  exact frm16 hO h hF
              · rcases Nat.lt_or_ge f 18 with g18 | g18
                · have e : f = 17 := by omega
                  subst e
                  exact frm17 hO h hF
                · have e : f = 18 := by omega
                  subst e
                  exact frm18 hO h hF
            · rcases Nat.lt_or_ge f 21 with g21 | g21
              · rcases Nat.lt_or_ge f 20 with g20 | g20
                · have e : f = 19 := by omega
                  subst e
                  exact frm19 hO h hF
                · have e : f = 20 := by omega
                  subst e
                  exact frm20 hO h hF
              · rcases Nat.lt_or_ge f 22 with g22 | g22
                · have e : f = 21 := by omega
                  subst e
                  exact frm21 hO h hF
                · have e : f = 22 := by omega
                  subst e
                  exact frm22 hO h hF
          · rcases Nat.lt_or_ge f 27 with g27 | g27
            · rcases Nat.lt_or_ge f 25 with g25 | g25
              · rcases Nat.lt_or_ge f 24 with g24 | g24
                · have e : f = 23 := by omega
                  subst e
                  exact frm23 hO h hF
                · have e : f = 24 := by omega
                  subst e
                  exact frm24 hO h hF
              · rcases Nat.lt_or_ge f 26 with g26 | g26
                · have e : f = 25 := by omega
                  subst e
                  exact frm25 hO h hF
                · have e : f = 26 := by omega
                  subst e
                  exact frm26 hO h hF
            · rcases Nat.lt_or_ge f 29 with g29 | g29
              · rcases Nat.lt_or_ge f 28 with g28 | g28
                · have e : f = 27 := by omega
                  subst e
                  exact frm27 hO h hF
                · have e : f = 28 := by omega
                  subst e
                  exact frm28 hO h hF
              · rcases Nat.lt_or_ge f 30 with g30 | g30
                · have e : f = 29 := by omega
                  subst e
                  exact frm29 hO h hF
                · have e : f = 30 := by omega
                  subst e
                  exact frm30 hO h hF
      · rcases Nat.lt_or_ge f 47 with g47 | g47
        · rcases Nat.lt_or_ge f 39 with g39 | g39
          · rcases Nat.lt_or_ge f 35 with g35 | g35
            · rcases Nat.lt_or_ge f 33 with g33 | g33
              · rcases Nat.lt_or_ge f 32 with g32 | g32
                · have e : f = 31 := by omega
                  subst e
                  exact frm31 hO h hF
                · have e : f = 32 := by omega
                  subst e
                  exact frm32 hO h hF
              · rcases Nat.lt_or_ge f 34 with g34 | g34
                · have e : f = 33 := by omega
                  subst e
                  exact frm33 hO h hF
                · have e : f = 34 := by omega
                  subst e
                  exact frm34 hO h hF
            · rcases Nat.lt_or_ge f 37 with g37 | g37
              · rcases Nat.lt_or_ge f 36 with g36 | g36
                · have e : f = 35 := by omega
                  subst e
                  exact frm35 hO h hF
                · have e : f = 36 := by omega
                  subst e
                  exact frm36 hO h hF
              · rcases Nat.lt_or_ge f 38 with g38 | g38
                · have e : f = 37 := by omega
                  subst e
                  exact frm37 hO h hF
                · have e : f = 38 := by omega
                  subst e
                  exact frm38 hO h hF
          · rcases Nat.lt_or_ge f 43 with g43 | g43
            · rcases Nat.lt_or_ge f 41 with g41 | g41
              · rcases Nat.lt_or_ge f 40 with g40 | g40
                · have e : f = 39 := by omega
                  subst e
                  exact frm39 hO h hF
                · have e : f = 40 := by omega
                  subst e
                  exact frm40 hO h hF
              · rcases Nat.lt_or_ge f 42 with g42 | g42
                · have e : f = 41 := by omega
                  subst e
                  exact frm41 hO h hF
                · have e : f = 42 := by omega
                  subst e
                  exact frm42 hO h hF
            · rcases Nat.lt_or_ge f 45 with g45 | g45
              · rcases Nat.lt_or_ge f 44 with g44 | g44
                · have e : f = 43 := by omega
                  subst e
                  exact frm43 hO h hF
                · have e : f = 44 := by omega
                  subst e
                  exact frm44 hO h hF
              · rcases Nat.lt_or_ge f 46 with g46 | g46
                · have e : f = 45 := by omega
                  subst e
                  exact frm45 hO h hF
                · have e : f = 46 := by omega
                  subst e
                  exact frm46 hO h hF
        · rcases Nat.lt_or_ge f 55 with g55 | g55
          · rcases Nat.lt_or_ge f 51 with g51 | g51
            · rcases Nat.lt_or_ge f 49 with g49 | g49
              · rcases Nat.lt_or_ge f 48 with g48 | g48
                · have e : f = 47 := by omega
                  subst e
                  exact frm47 hO h hF
                · have e : f = 48 := by omega
                  subst e
                  exact frm48 hO h hF
              · rcases Nat.lt_or_ge f 50 with g50 | g50
                · have e : f = 49 := by omega
                  subst e
                  exact frm49 hO h hF
                · have e : f = 50 := by omega
                  subst e
                  exact frm50 hO h hF
            · rcases Nat.lt_or_ge f 53 with g53 | g53
              · rcases Nat.lt_or_ge f 52 with g52 | g52
                · have e : f = 51 := by omega
                  subst e
                  exact frm51 hO h hF
                · have e : f = 52 := by omega
                  subst e
                  exact frm52 hO h hF
              · rcases Nat.lt_or_ge f 54 with g54 | g54
                · have e : f = 53 := by omega
                  subst e
                  exact frm53 hO h hF
                · have e : f = 54 := by omega
                  subst e
                  exact frm54 hO h hF
          · rcases Nat.lt_or_ge f 59 with g59 | g59
            · rcases Nat.lt_or_ge f 57 with g57 | g57
              · rcases Nat.lt_or_ge f 56 with g56 | g56
                · have e : f = 55 := by omega
                  subst e
                  exact frm55 hO h hF
                · have e : f = 56 := by omega
                  subst e
                  exact frm56 hO h hF
              · rcases Nat.lt_or_ge f 58 with g58 | g58
                · have e : f = 57 := by omega
                  subst e
                  exact frm57 hO h hF
                · have e : f = 58 := by omega
                  subst e
                  exact frm58 hO h hF
            · rcases Nat.lt_or_ge f 61 with g61 | g61
              · rcases Nat.lt_or_ge f 60 with g60 | g60
                · have e : f = 59 := by omega
                  subst e
                  exact frm59 hO h hF
                · have e : f = 60 := by omega
                  subst e
                  exact frm60 hO h hF
              · rcases Nat.lt_or_ge f 62 with g62 | g62
                · have e : f = 61 := by omega
                  subst e
                  exact frm61 hO h hF
                · have e : f = 62 := by omega
                  subst e
                  exact frm62 hO h hF
    · rcases Nat.lt_or_ge f 95 with g95 | g95
      · rcases Nat.lt_or_ge f 79 with g79 | g79
        · rcases Nat.lt_or_ge f 71 with g71 | g71
          · rcases Nat.lt_or_ge f 67 with g67 | g67
            · rcases Nat.lt_or_ge f 65 with g65 | g65
              · rcases Nat.lt_or_ge f 64 with g64 | g64
                · have e : f = 63 := by omega
                  subst e
                  exact frm63 hO h hF
                · have e : f = 64 := by omega
                  subst e
                  exact frm64 hO h hF
              · rcases Nat.lt_or_ge f 66 with g66 | g66
                · have e : f = 65 := by omega
                  subst e
                  exact frm65 hO h hF
                · have e : f = 66 := by omega
                  subst e
                  exact frm66 hO h hF
            · rcases Nat.lt_or_ge f 69 with g69 | g69
              · rcases Nat.lt_or_ge f 68 with g68 | g68
                · have e : f = 67 := by omega
                  subst e
                  exact frm67 hO h hF
                · have e : f = 68 := by omega
                  subst e
                  exact frm68 hO h hF
              · rcases Nat.lt_or_ge f 70 with g70 | g70
                · have e : f = 69 := by omega
                  subst e
                  exact frm69 hO h hF
                · have e : f = 70 := by omega
                  subst e
                  exact frm70 hO h hF
          · rcases Nat.lt_or_ge f 75 with g75 | g75
            · rcases Nat.lt_or_ge f 73 with g73 | g73
              · rcases Nat.lt_or_ge f 72 with g72 | g72
                · have e : f = 71 := by omega
                  subst e
                  exact frm71 hO h hF
                · have e : f = 72 := by omega
                  subst e
                  exact frm72 hO h hF
              · rcases Nat.lt_or_ge f 74 with g74 | g74
                · have e : f = 73 := by omega
                  subst e
                  exact frm73 hO h hF
                · have e : f = 74 := by omega
                  subst e
                  exact frm74 hO h hF
            · rcases Nat.lt_or_ge f 77 with g77 | g77
              · rcases Nat.lt_or_ge f 76 with g76 | g76
                · have e : f = 75 := by omega
                  subst e
                  exact frm75 hO h hF
                · have e : f = 76 := by omega
                  subst e
                  exact frm76 hO h hF
              · rcases Nat.lt_or_ge f 78 with g78 | g78
                · have e : f = 77 := by omega
                  subst e
                  exact frm77 hO h hF
                · have e : f = 78 := by omega
                  subst e
                  exact frm78 hO h hF
        · rcases Nat.lt_or_ge f 87 with g87 | g87
          · rcases Nat.lt_or_ge f 83 with g83 | g83
            · rcases Nat.lt_or_ge f 81 with g81 | g81
              · rcases Nat.lt_or_ge f 80 with g80 | g80
                · have e : f = 79 := by omega
                  subst e
                  exact frm79 hO h hF
                · have e : f = 80 := by omega
                  subst e
                  exact frm80 hO h hF
              · rcases Nat.lt_or_ge f 82 with g82 | g82
                · have e : f = 81 := by omega
                  subst e
                  exact frm81 hO h hF
                · have e : f = 82 := by omega
                  subst e
                  exact frm82 hO h hF
            · rcases Nat.lt_or_ge f 85 with g85 | g85
              · rcases Nat.lt_or_ge f 84 with g84 | g84
                · have e : f = 83 := by omega
                  subst e
                  exact frm83 hO h hF
                · have e : f = 84 := by omega
                  subst e
                  exact frm84 hO h hF
              · rcases Nat.lt_or_ge f 86 with g86 | g86
                · have e : f = 85 := by omega
                  subst e
                  exact frm85 hO h hF
                · have e : f = 86 := by omega
                  subst e
                  exact frm86 hO h hF
          · rcases Nat.lt_or_ge f 91 with g91 | g91
            · rcases Nat.lt_or_ge f 89 with g89 | g89
              · rcases Nat.lt_or_ge f 88 with g88 | g88
                · have e : f = 87 := by omega
                  subst e
                  exact frm87 hO h hF
                · have e : f = 88 := by omega
                  subst e
                  exact frm88 hO h hF
              · rcases Nat.lt_or_ge f 90 with g90 | g90
                · have e : f = 89 := by omega
                  subst e
                  exact frm89 hO h hF
                · have e : f = 90 := by omega
                  subst e
                  exact frm90 hO h hF
            · rcases Nat.lt_or_ge f 93 with g93 | g93
              · rcases Nat.lt_or_ge f 92 with g92 | g92
                · have e : f = 91 := by omega
                  subst e
                  exact frm91 hO h hF
                · have e : f = 92 := by omega
                  subst e
                  exact frm92 hO h hF
              · rcases Nat.lt_or_ge f 94 with g94 | g94
                · have e : f = 93 := by omega
                  subst e
                  exact frm93 hO h hF
                · have e : f = 94 := by omega
                  subst e
                  exact frm94 hO h hF
      · rcases Nat.lt_or_ge f 111 with g111 | g111
        · rcases Nat.lt_or_ge f 103 with g103 | g103
          · rcases Nat.lt_or_ge f 99 with g99 | g99
            · rcases Nat.lt_or_ge f 97 with g97 | g97
              · rcases Nat.lt_or_ge f 96 with g96 | g96
                · have e : f = 95 := by omega
                  subst e
                  exact frm95 hO h hF
                · have e : f = 96 := by omega
                  subst e
                  exact frm96 hO h hF
              · rcases Nat.lt_or_ge f 98 with g98 | g98
                · have e : f = 97 := by omega
                  subst e
                  exact frm97 hO h hF
                · have e : f = 98 := by omega
                  subst e
                  exact frm98 hO h hF
            · rcases Nat.lt_or_ge f 101 with g101 | g101
              · rcases Nat.lt_or_ge f 100 with g100 | g100
                · have e : f = 99 := by omega
                  subst e
                  exact frm99 hO h hF
                · have e : f = 100 := by omega
                  subst e
                  exact frm100 hO h hF
              · rcases Nat.lt_or_ge f 102 with g102 | g102
                · have e : f = 101 := by omega
                  subst e
                  exact frm101 hO h hF
                · have e : f = 102 := by omega
                  subst e
                  exact frm102 hO h hF
          · rcases Nat.lt_or_ge f 107 with g107 | g107
            · rcases Nat.lt_or_ge f 105 with g105 | g105
              · rcases Nat.lt_or_ge f 104 with g104 | g104
                · have e : f = 103 := by omega
                  subst e
                  exact frm103 hO h hF
                · have e : f = 104 := by omega
                  subst e
                  exact frm104 hO h hF
              · rcases Nat.lt_or_ge f 106 with g106 | g106
                · have e : f = 105 := by omega
                  subst e
                  exact frm105 hO h hF
                · have e : f = 106 := by omega
                  subst e
                  exact frm106 hO h hF
            · rcases Nat.lt_or_ge f 109 with g109 | g109
              · rcases Nat.lt_or_ge f 108 with g108 | g108
                · have e : f = 107 := by omega
                  subst e
                  exact frm107 hO h hF
                · have e : f = 108 := by omega
                  subst e
                  exact frm108 hO h hF
              · rcases Nat.lt_or_ge f 110 with g110 | g110
                · have e : f = 109 := by omega
                  subst e
                  exact frm109 hO h hF
                · have e : f = 110 := by omega
                  subst e
                  exact frm110 hO h hF
        · rcases Nat.lt_or_ge f 119 with g119 | g119
          · rcases Nat.lt_or_ge f 115 with g115 | g115
            · rcases Nat.lt_or_ge f 113 with g113 | g113
              · rcases Nat.lt_or_ge f 112 with g112 | g112
                · have e : f = 111 := by omega
                  subst e
                  exact frm111 hO h hF
                · have e : f = 112 := by omega
                  subst e
                  exact frm112 hO h hF
              · rcases Nat.lt_or_ge f 114 with g114 | g114
                · have e : f = 113 := by omega
                  subst e
                  exact frm113 hO h hF
                · have e : f = 114 := by omega
                  subst e
                  exact frm114 hO h hF
            · rcases Nat.lt_or_ge f 117 with g117 | g117
              · rcases Nat.lt_or_ge f 116 with g116 | g116
                · have e : f = 115 := by omega
                  subst e
                  exact frm115 hO h hF
                · have e : f = 116 := by omega
                  subst e
                  exact frm116 hO h hF
              · rcases Nat.lt_or_ge f 118 with g118 | g118
                · have e : f = 117 := by omega
                  subst e
                  exact frm117 hO h hF
                · have e : f = 118 := by omega
                  subst e
                  exact frm118 hO h hF
          · rcases Nat.lt_or_ge f 123 with g123 | g123
            · rcases Nat.lt_or_ge f 121 with g121 | g121
              · rcases Nat.lt_or_ge f 120 with g120 | g120
                · have e : f = 119 := by omega
                  subst e
                  exact frm119 hO h hF
                · have e : f = 120 := by omega
                  subst e
                  exact frm120 hO h hF
              · rcases Nat.lt_or_ge f 122 with g122 | g122
                · have e : f = 121 := by omega
                  subst e
                  exact frm121 hO h hF
                · have e : f = 122 := by omega
                  subst e
                  exact frm122 hO h hF
            · rcases Nat.lt_or_ge f 125 with g125 | g125
              · rcases Nat.lt_or_ge f 124 with g124 | g124
                · have e : f = 123 := by omega
                  subst e
                  exact frm123 hO h hF
                · have e : f = 124 := by omega
                  subst e
                  exact frm124 hO h hF
              · rcases Nat.lt_or_ge f 126 with g126 | g126
                · have e : f = 125 := by omega
                  subst e
                  exact frm125 hO h hF
                · have e : f = 126 := by omega
                  subst e
                  exact frm126 hO h hF
  · rcases Nat.lt_or_ge f 191 with g191 | g191
    · rcases Nat.lt_or_ge f 159 with g159 | g159
      · rcases Nat.lt_or_ge f 143 with g143 | g143
        · rcases Nat.lt_or_ge f 135 with g135 | g135
          · rcases Nat.lt_or_ge f 131 with g131 | g131
            · rcases Nat.lt_or_ge f 129 with g129 | g129
              · rcases Nat.lt_or_ge f 128 with g128 | g128
                · have e : f = 127 := by omega
                  subst e
                  exact frm127 hO h hF
                · have e : f = 128 := by omega
                  subst e
                  exact frm128 hO h hF
              · rcases Nat.lt_or_ge f 130 with g130 | g130
                · have e : f = 129 := by omega
                  subst e
                  exact frm129 hO h hF
                · have e : f = 130 := by omega
                  subst e
                  exact frm130 hO h hF
            · rcases Nat.lt_or_ge f 133 with g133 | g133
              · rcases Nat.lt_or_ge f 132 with g132 | g132
                · have e : f = 131 := by omega
                  subst e
                  exact frm131 hO h hF
                · have e : f = 132 := by omega
                  subst e
                  exact frm132 hO h hF
              · rcases Nat.lt_or_ge f 134 with g134 | g134
                · have e : f = 133 := by omega
                  subst e
                  exact frm133 hO h hF
                · have e : f = 134 := by omega
                  subst e
                  exact frm134 hO h hF
          · rcases Nat.lt_or_ge f 139 with g139 | g139
            · rcases Nat.lt_or_ge f 137 with g137 | g137
              · rcases Nat.lt_or_ge f 136 with g136 | g136
                · have e : f = 135 := by omega
                  subst e
                  exact frm135 hO h hF
                · have e : f = 136 := by omega
                  subst e
                  exact frm136 hO h hF
              · rcases Nat.lt_or_ge f 138 with g138 | g138
                · have e : f = 137 := by omega
                  subst e
                  exact frm137 hO h hF
                · have e : f = 138 := by omega
                  subst e
                  exact frm138 hO h hF
            · rcases Nat.lt_or_ge f 141 with g141 | g141
              · rcases Nat.lt_or_ge f 140 with g140 | g140
                · have e : f = 139 := by omega
                  subst e
                  exact frm139 hO h hF
                · have e : f = 140 := by omega
                  subst e
                  exact frm140 hO h hF
              · rcases Nat.lt_or_ge f 142 with g142 | g142
                · have e : f = 141 := by omega
                  subst e
                  exact frm141 hO h hF
                · have e : f = 142 := by omega
                  subst e
                  exact frm142 hO h hF
        · rcases Nat.lt_or_ge f 151 with g151 | g151
          · rcases Nat.lt_or_ge f 147 with g147 | g147
            · rcases Nat.lt_or_ge f 145 with g145 | g145
              · rcases Nat.lt_or_ge f 144 with g144 | g144
                · have e : f = 143 := by omega
                  subst e
                  exact frm143 hO h hF
                · have e : f = 144 := by omega
                  subst e
                  exact frm144 hO h hF
              · rcases Nat.lt_or_ge f 146 with g146 | g146
                · have e : f = 145 := by omega
                  subst e
                  exact frm145 hO h hF
                · have e : f = 146 := by omega
                  subst e
                  exact frm146 hO h hF
            · rcases Nat.lt_or_ge f 149 with g149 | g149
              · rcases Nat.lt_or_ge f 148 with g148 | g148
                · have e : f = 147 := by omega
                  subst e
                  exact frm147 hO h hF
                · have e : f = 148 := by omega
                  subst e
                  exact frm148 hO h hF
              · rcases Nat.lt_or_ge f 150 with g150 | g150
                · have e : f = 149 := by omega
                  subst e
                  exact frm149 hO h hF
                · have e : f = 150 := by omega
                  subst e
                  exact frm150 hO h hF
          · rcases Nat.lt_or_ge f 155 with g155 | g155
            · rcases Nat.lt_or_ge f 153 with g153 | g153
              · rcases Nat.lt_or_ge f 152 with g152 | g152
                · have e : f = 151 := by omega
                  subst e
                  exact frm151 hO h hF
                · have e : f = 152 := by omega
                  subst e
                  exact frm152 hO h hF
              · rcases Nat.lt_or_ge f 154 with g154 | g154
                · have e : f = 153 := by omega
                  subst e
                  exact frm153 hO h hF
                · have e : f = 154 := by omega
                  subst e
                  exact frm154 hO h hF
            · rcases Nat.lt_or_ge f 157 with g157 | g157
              · rcases Nat.lt_or_ge f 156 with g156 | g156
                · have e : f = 155 := by omega
                  subst e
                  exact frm155 hO h hF
                · have e : f = 156 := by omega
                  subst e
                  exact frm156 hO h hF
              · rcases Nat.lt_or_ge f 158 with g158 | g158
                · have e : f = 157 := by omega
                  subst e
                  exact frm157 hO h hF
                · have e : f = 158 := by omega
                  subst e
                  exact frm158 hO h hF
      · rcases Nat.lt_or_ge f 175 with g175 | g175
        · rcases Nat.lt_or_ge f 167 with g167 | g167
          · rcases Nat.lt_or_ge f 163 with g163 | g163
            · rcases Nat.lt_or_ge f 161 with g161 | g161
              · rcases Nat.lt_or_ge f 160 with g160 | g160
                · have e : f = 159 := by omega
                  subst e
                  exact frm159 hO h hF
                · have e : f = 160 := by omega
                  subst e
                  exact frm160 hO h hF
              · rcases Nat.lt_or_ge f 162 with g162 | g162
                · have e : f = 161 := by omega
                  subst e
                  exact frm161 hO h hF
                · have e : f = 162 := by omega
                  subst e
                  exact frm162 hO h hF
            · rcases Nat.lt_or_ge f 165 with g165 | g165
              · rcases Nat.lt_or_ge f 164 with g164 | g164
                · have e : f = 163 := by omega
                  subst e
                  exact frm163 hO h hF
                · have e : f = 164 := by omega
                  subst e
                  exact frm164 hO h hF
              · rcases Nat.lt_or_ge f 166 with g166 | g166
                · have e : f = 165 := by omega
                  subst e
                  exact frm165 hO h hF
                · have e : f = 166 := by omega
                  subst e
                  exact frm166 hO h hF
          · rcases Nat.lt_or_ge f 171 with g171 | g171
            · rcases Nat.lt_or_ge f 169 with g169 | g169
              · rcases Nat.lt_or_ge f 168 with g168 | g168
                · have e : f = 167 := by omega
                  subst e
                  exact frm167 hO h hF
                · have e : f = 168 := by omega
                  subst e
                  exact frm168 hO h hF
              · rcases Nat.lt_or_ge f 170 with g170 | g170
                · have e : f = 169 := by omega
                  subst e
                  exact frm169 hO h hF
                · have e : f = 170 := by omega
                  subst e
                  exact frm170 hO h hF
            · rcases Nat.lt_or_ge f 173 with g173 | g173
              · rcases Nat.lt_or_ge f 172 with g172 | g172
                · have e : f = 171 := by omega
                  subst e
                  exact frm171 hO h hF
                · have e : f = 172 := by omega
                  subst e
                  exact frm172 hO h hF
              · rcases Nat.lt_or_ge f 174 with g174 | g174
                · have e : f = 173 := by omega
                  subst e
                  exact frm173 hO h hF
                · have e : f = 174 := by omega
                  subst e
                  exact frm174 hO h hF
        · rcases Nat.lt_or_ge f 183 with g183 | g183
          · rcases Nat.lt_or_ge f 179 with g179 | g179
            · rcases Nat.lt_or_ge f 177 with g177 | g177
              · rcases Nat.lt_or_ge f 176 with g176 | g176
                · have e : f = 175 := by omega
                  subst e
                  exact frm175 hO h hF
                · have e : f = 176 := by omega
                  subst e
                  exact frm176 hO h hF
              · rcases Nat.lt_or_ge f 178 with g178 | g178
                · have e : f = 177 := by omega
                  subst e
                  exact frm177 hO h hF
                · have e : f = 178 := by omega
                  subst e
                  exact frm178 hO h hF
            · rcases Nat.lt_or_ge f 181 with g181 | g181
              · rcases Nat.lt_or_ge f 180 with g180 | g180
                · have e : f = 179 := by omega
                  subst e
                  exact frm179 hO h hF
                · have e : f = 180 := by omega
                  subst e
                  exact frm180 hO h hF
              · rcases Nat.lt_or_ge f 182 with g182 | g182
                · have e : f = 181 := by omega
                  subst e
                  exact frm181 hO h hF
                · have e : f = 182 := by omega
                  subst e
                  exact frm182 hO h hF
          · rcases Nat.lt_or_ge f 187 with g187 | g187
            · rcases Nat.lt_or_ge f 185 with g185 | g185
              · rcases Nat.lt_or_ge f 184 with g184 | g184
                · have e : f = 183 := by omega
                  subst e
                  exact frm183 hO h hF
                · have e : f = 184 := by omega
                  subst e
                  exact frm184 hO h hF
              · rcases Nat.lt_or_ge f 186 with g186 | g186
                · have e : f = 185 := by omega
                  subst e
                  exact frm185 hO h hF
                · have e : f = 186 := by omega
                  subst e
                  exact frm186 hO h hF
            · rcases Nat.lt_or_ge f 189 with g189 | g189
              · rcases Nat.lt_or_ge f 188 with g188 | g188
                · have e : f = 187 := by omega
                  subst e
                  exact frm187 hO h hF
                · have e : f = 188 := by omega
                  subst e
                  exact frm188 hO h hF
              · rcases Nat.lt_or_ge f 190 with g190 | g190
                · have e : f = 189 := by omega
                  subst e
                  exact frm189 hO h hF
                · have e : f = 190 := by omega
                  subst e
                  exact frm190 hO h hF
    · rcases Nat.lt_or_ge f 223 with g223 | g223
      · rcases Nat.lt_or_ge f 207 with g207 | g207
        · rcases Nat.lt_or_ge f 199 with g199 | g199
          · rcases Nat.lt_or_ge f 195 with g195 | g195
            · rcases Nat.lt_or_ge f 193 with g193 | g193
              · rcases Nat.lt_or_ge f 192 with g192 | g192
                · have e : f = 191 := by omega
                  subst e
                  exact frm191 hO h hF
                · have e : f = 192 := by omega
                  subst e
                  exact frm192 hO h hF
              · rcases Nat.lt_or_ge f 194 with g194 | g194
                · have e : f = 193 := by omega
                  subst e
                  exact frm193 hO h hF
                · have e : f = 194 := by omega
                  subst e
                  exact frm194 hO h hF
            · rcases Nat.lt_or_ge f 197 with g197 | g197
              · rcases Nat.lt_or_ge f 196 with g196 | g196
                · have e : f = 195 := by omega
                  subst e
                  exact frm195 hO h hF
                · have e : f = 196 := by omega
                  subst e
                  exact frm196 hO h hF
              · rcases Nat.lt_or_ge f 198 with g198 | g198
                · have e : f = 197 := by omega
                  subst e
                  exact frm197 hO h hF
                · have e : f = 198 := by omega
                  subst e
                  exact frm198 hO h hF
          · rcases Nat.lt_or_ge f 203 with g203 | g203
            · rcases Nat.lt_or_ge f 201 with g201 | g201
              · rcases Nat.lt_or_ge f 200 with g200 | g200
                · have e : f = 199 := by omega
                  subst e
                  exact frm199 hO h hF
                · have e : f = 200 := by omega
                  subst e
                  exact frm200 hO h hF
              · rcases Nat.lt_or_ge f 202 with g202 | g202
                · have e : f = 201 := by omega
                  subst e
                  exact frm201 hO h hF
                · have e : f = 202 := by omega
                  subst e
                  exact frm202 hO h hF
            · rcases Nat.lt_or_ge f 205 with g205 | g205
              · rcases Nat.lt_or_ge f 204 with g204 | g204
                · have e : f = 203 := by omega
                  subst e
                  exact frm203 hO h hF
                · have e : f = 204 := by omega
                  subst e
                  exact frm204 hO h hF
              · rcases Nat.lt_or_ge f 206 with g206 | g206
                · have e : f = 205 := by omega
                  subst e
                  exact frm205 hO h hF
                · have e : f = 206 := by omega
                  subst e
                  exact frm206 hO h hF
        · rcases Nat.lt_or_ge f 215 with g215 | g215
          · rcases Nat.lt_or_ge f 211 with g211 | g211
            · rcases Nat.lt_or_ge f 209 with g209 | g209
              · rcases Nat.lt_or_ge f 208 with g208 | g208
                · have e : f = 207 := by omega
                  subst e
                  exact frm207 hO h hF
                · have e : f = 208 := by omega
                  subst e
                  exact frm208 hO h hF
              · rcases Nat.lt_or_ge f 210 with g210 | g210
                · have e : f = 209 := by omega
                  subst e
                  exact frm209 hO h hF
                · have e : f = 210 := by omega
                  subst e
                  exact frm210 hO h hF
            · rcases Nat.lt_or_ge f 213 with g213 | g213
              · rcases Nat.lt_or_ge f 212 with g212 | g212
                · have e : f = 211 := by omega
                  subst e
                  exact frm211 hO h hF
                · have e : f = 212 := by omega
                  subst e
                  exact frm212 hO h hF
              · rcases Nat.lt_or_ge f 214 with g214 | g214
                · have e : f = 213 := by omega
                  subst e
                  exact frm213 hO h hF
                · have e : f = 214 := by omega
                  subst e
                  exact frm214 hO h hF
          · rcases Nat.lt_or_ge f 219 with g219 | g219
            · rcases Nat.lt_or_ge f 217 with g217 | g217
              · rcases Nat.lt_or_ge f 216 with g216 | g216
                · have e : f = 215 := by omega
                  subst e
                  exact frm215 hO h hF
                · have e : f = 216 := by omega
                  subst e
                  exact frm216 hO h hF
              · rcases Nat.lt_or_ge f 218 with g218 | g218
                · have e : f = 217 := by omega
                  subst e
                  exact frm217 hO h hF
                · have e : f = 218 := by omega
                  subst e
                  exact frm218 hO h hF
            · rcases Nat.lt_or_ge f 221 with g221 | g221
              · rcases Nat.lt_or_ge f 220 with g220 | g220
                · have e : f = 219 := by omega
                  subst e
                  exact frm219 hO h hF
                · have e : f = 220 := by omega
                  subst e
                  exact frm220 hO h hF
              · rcases Nat.lt_or_ge f 222 with g222 | g222
                · have e : f = 221 := by omega
                  subst e
                  exact frm221 hO h hF
                · have e : f = 222 := by omega
                  subst e
                  exact frm222 hO h hF
      · rcases Nat.lt_or_ge f 239 with g239 | g239
        · rcases Nat.lt_or_ge f 231 with g231 | g231
          · rcases Nat.lt_or_ge f 227 with g227 | g227
            · rcases Nat.lt_or_ge f 225 with g225 | g225
              · rcases Nat.lt_or_ge f 224 with g224 | g224
                · have e : f = 223 := by omega
                  subst e
                  exact frm223 hO h hF
                · have e : f = 224 := by omega
                  subst e
                  exact frm224 hO h hF
              · rcases Nat.lt_or_ge f 226 with g226 | g226
                · have e : f = 225 := by omega
                  subst e
                  exact frm225 hO h hF
                · have e : f = 226 := by omega
                  subst e
                  exact frm226 hO h hF
            · rcases Nat.lt_or_ge f 229 with g229 | g229
              · rcases Nat.lt_or_ge f 228 with g228 | g228
                · have e : f = 227 := by omega
                  subst e
                  exact frm227 hO h hF
                · have e : f = 228 := by omega
                  subst e
                  exact frm228 hO h hF
              · rcases Nat.lt_or_ge f 230 with g230 | g230
                · have e : f = 229 := by omega
                  subst e
                  exact frm229 hO h hF
                · have e : f = 230 := by omega
                  subst e
                  exact frm230 hO h hF
          · rcases Nat.lt_or_ge f 235 with g235 | g235
            · rcases Nat.lt_or_ge f 233 with g233 | g233
              · rcases Nat.lt_or_ge f 232 with g232 | g232
                · have e : f = 231 := by omega
                  subst e
                  exact frm231 hO h hF
                · have e : f = 232 := by omega
                  subst e
                  exact frm232 hO h hF
              · rcases Nat.lt_or_ge f 234 with g234 | g234
                · have e : f = 233 := by omega
                  subst e
                  exact frm233 hO h hF
                · have e : f = 234 := by omega
                  subst e
                  exact frm234 hO h hF
            · rcases Nat.lt_or_ge f 237 with g237 | g237
              · rcases Nat.lt_or_ge f 236 with g236 | g236
                · have e : f = 235 := by omega
                  subst e
                  exact frm235 hO h hF
                · have e : f = 236 := by omega
                  subst e
                  exact frm236 hO h hF
              · rcases Nat.lt_or_ge f 238 with g238 | g238
                · have e : f = 237 := by omega
                  subst e
                  exact frm237 hO h hF
                · have e : f = 238 := by omega
                  subst e
                  exact frm238 hO h hF
        · rcases Nat.lt_or_ge f 247 with g247 | g247
          · rcases Nat.lt_or_ge f 243 with g243 | g243
            · rcases Nat.lt_or_ge f 241 with g241 | g241
              · rcases Nat.lt_or_ge f 240 with g240 | g240
                · have e : f = 239 := by omega
                  subst e
                  exact frm239 hO h hF
                · have e : f = 240 := by omega
                  subst e
                  exact frm240 hO h hF
              · rcases Nat.lt_or_ge f 242 with g242 | g242
                · have e : f = 241 := by omega
                  subst e
                  exact frm241 hO h hF
                · have e : f = 242 := by omega
                  subst e
                  exact frm242 hO h hF
            · rcases Nat.lt_or_ge f 245 with g245 | g245
              · rcases Nat.lt_or_ge f 244 with g244 | g244
                · have e : f = 243 := by omega
                  subst e
                  exact frm243 hO h hF
                · have e : f = 244 := by omega
                  subst e
                  exact frm244 hO h hF
              · rcases Nat.lt_or_ge f 246 with g246 | g246
                · have e : f = 245 := by omega
                  subst e
                  exact frm245 hO h hF
                · have e : f = 246 := by omega
                  subst e
                  exact frm246 hO h hF
          · rcases Nat.lt_or_ge f 251 with g251 | g251
            · rcases Nat.lt_or_ge f 249 with g249 | g249
              · rcases Nat.lt_or_ge f 248 with g248 | g248
                · have e : f = 247 := by omega
                  subst e
                  exact frm247 hO h hF
                · have e : f = 248 := by omega
                  subst e
                  exact frm248 hO h hF
              · rcases Nat.lt_or_ge f 250 with g250 | g250
                · have e : f = 249 := by omega
                  subst e
                  exact frm249 hO h hF
                · have e : f = 250 := by omega
                  subst e
                  exact frm250 hO h hF
            · rcases Nat.lt_or_ge f 253 with g253 | g253
              · rcases Nat.lt_or_ge f 252 with g252 | g252
                · have e : f = 251 := by omega
                  subst e
                  exact frm251 hO h hF
                · have e : f = 252 := by omega
                  subst e
                  exact frm252 hO h hF
              · rcases Nat.lt_or_ge f 254 with g254 | g254
                · have e : f = 253 := by omega
                  subst e
                  exact frm253 hO h hF
                · have e : f = 254 := by omega
                  subst e
                  exact frm254 hO h hF
end CkFact2
