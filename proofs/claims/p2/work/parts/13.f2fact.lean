section CkFact2
variable {hp hp' : Lean.RArray Nat} {f : Nat} {n t : Int} {xs : List Int}
theorem fv1 (h : ∀ c j, c < tNC → fpIn f (n :: xs) c j → hv hp' c j = hv hp c j) {ro lo hi k : Nat} (hq : (ro, lo, hi, k) ∈ tFP f) {c j : Nat} (hc : c < tNC) (hr : tRO c = ro) (h1 : lo ≤ j) (h2 : j < hi) (h3 : (j : Int) < (lo : Int) + (k : Int) * n) : hv hp' c j = hv hp c j :=
  h c j hc (fp1 _ hq hr h1 h2 (fun _ x hx => by cases hx; exact h3))
theorem fr1 (h : ∀ c j, c < tNC → fpIn f (n :: xs) c j → hv hp' c j = hv hp c j) {ro lo hi k : Nat} (hq : (ro, lo, hi, k) ∈ tFP f) {c j : Nat} (hc : c < tNC) (hr : tRO c = ro) (h1 : lo ≤ j) (h2 : j < hi) (h3 : (j : Int) < (lo : Int) + (k : Int) * n) : hI hp' c j = hI hp c j :=
  hI_of (fv1 h hq hc hr h1 h2 h3)
theorem fv0 (h : ∀ c j, c < tNC → fpIn f xs c j → hv hp' c j = hv hp c j) {ro lo hi : Nat} (hq : (ro, lo, hi, 0) ∈ tFP f) {c j : Nat} (hc : c < tNC) (hr : tRO c = ro) (h1 : lo ≤ j) (h2 : j < hi) : hv hp' c j = hv hp c j :=
  h c j hc (fp1 _ hq hr h1 h2 (fun q => absurd rfl q))
theorem fr0 (h : ∀ c j, c < tNC → fpIn f xs c j → hv hp' c j = hv hp c j) {ro lo hi : Nat} (hq : (ro, lo, hi, 0) ∈ tFP f) {c j : Nat} (hc : c < tNC) (hr : tRO c = ro) (h1 : lo ≤ j) (h2 : j < hi) : hI hp' c j = hI hp c j :=
  hI_of (fv0 h hq hc hr h1 h2)
theorem fr_spot (h : ∀ c j, c < tNC → fpIn 0 [n] c j → hv hp' c j = hv hp c j) (hF : fSpot n hp) : fSpot n hp' := by
  intro j hj hn
  rw [fr1 h (.head _) (c := 187) (by decide) rfl (by omega) hj (by omega), fr1 h (.tail _ (.head _)) (c := 189) (by decide) rfl (by omega) hj (by omega)]
  exact hF j hj hn
theorem fr_sen {a b ra rb : Nat} (h : ∀ c j, c < tNC → fpIn f [n] c j → hv hp' c j = hv hp c j) (ha : (ra, 0, 40, 1) ∈ tFP f) (hb : (rb, 0, 40, 1) ∈ tFP f) (a1 : a < tNC) (a2 : tRO a = ra) (b1 : b < tNC) (b2 : tRO b = rb) (hF : fSen a b n hp) : fSen a b n hp' := by
  intro j hj hn
  rw [fr1 h ha a1 a2 (by omega) hj (by omega), fr1 h hb b1 b2 (by omega) hj (by omega)]
  exact hF j hj hn
theorem fr_roll (h : ∀ c j, c < tNC → fpIn 5 [n] c j → hv hp' c j = hv hp c j) (hF : fRoll n hp) : fRoll n hp' := by
  intro j hj hn
  rw [fr1 h (.head _) (c := 178) (by decide) rfl (by omega) hj (by omega), fr1 h (.tail _ (.head _)) (c := 179) (by decide) rfl (by omega) hj (by omega), fr1 h (.tail _ (.tail _ (.head _))) (c := 180) (by decide) rfl (by omega) hj (by omega), fr1 h (.tail _ (.tail _ (.tail _ (.head _)))) (c := 181) (by decide) rfl (by omega) hj (by omega)]
  exact hF j hj hn
theorem fr_rollm (h : ∀ c j, c < tNC → fpIn 11 [n] c j → hv hp' c j = hv hp c j) (hF : fRollm n hp) : fRollm n hp' := by
  intro j hj hn
  rw [fr1 h (.head _) (c := 277) (j := 4 * j) (by decide) rfl (by omega) (by omega) (by omega), fr1 h (.head _) (c := 277) (j := 4 * j + 1) (by decide) rfl (by omega) (by omega) (by omega), fr1 h (.head _) (c := 277) (j := 4 * j + 2) (by decide) rfl (by omega) (by omega) (by omega), fr1 h (.head _) (c := 277) (j := 4 * j + 3) (by decide) rfl (by omega) (by omega) (by omega)]
  exact hF j hj hn
theorem fr_ch {c ro : Nat} (h : ∀ c j, c < tNC → fpIn f [n] c j → hv hp' c j = hv hp c j) (ha : (ro, 250, 258, 1) ∈ tFP f) (a1 : c < tNC) (a2 : tRO c = ro) (hF : fCh c 250 n hp) : fCh c 250 n hp' := by
  intro j hj hn
  rw [fr1 h ha a1 a2 (by omega) (by omega) (by omega)]
  exact hF j hj hn
theorem fr_eqs {c b c' b' len ra ha rb hb : Nat} (h : ∀ c j, c < tNC → fpIn f [n] c j → hv hp' c j = hv hp c j) (qa : (ra, b, ha, 1) ∈ tFP f) (qb : (rb, b', hb, 1) ∈ tFP f) (a1 : c < tNC) (a2 : tRO c = ra) (b1 : c' < tNC) (b2 : tRO c' = rb) (l1 : b + len ≤ ha) (l2 : b' + len ≤ hb) (hF : fEq c b c' b' len n hp) : fEq c b c' b' len n hp' := by
  intro j hj hn
  rw [fr1 h qa a1 a2 (by omega) (by omega) (by omega), fr1 h qb b1 b2 (by omega) (by omega) (by omega)]
  exact hF j hj hn
theorem sumC_of : ∀ {k : Nat}, (∀ j, j < k → hI hp' 275 (250 + j) = hI hp 275 (250 + j)) → sumC hp' k = sumC hp k := by
  intro k
  induction k with
  | zero => intro _; rfl
  | succ k ih =>
    intro h
    show sumC hp' k + hI hp' 275 (250 + k) = sumC hp k + hI hp 275 (250 + k)
    rw [ih (fun j hj => h j (by omega)), h k (by omega)]
theorem fr_psum (h : ∀ c j, c < tNC → fpIn 9 [n, t] c j → hv hp' c j = hv hp c j) (hF : fPsum n t hp) : fPsum n t hp' := by
  obtain ⟨k, k1, k3⟩ := hF
  refine ⟨k, k1, fun k2 => ?_⟩
  rw [sumC_of (fun j hj => fr1 h (.head _) (c := 275) (by decide) rfl (by omega) (by omega) (by omega)), k3 k2]
theorem fr_sum (h : ∀ c j, c < tNC → fpIn 10 [n, t] c j → hv hp' c j = hv hp c j) (hF : fSum n t hp) : fSum n t hp' := by
  obtain ⟨k, z, k1, k2, k3, k4, k5⟩ := hF
  have hs : ∀ j, j < 8 → hI hp' 275 (250 + j) = hI hp 275 (250 + j) := fun j hj => fr0 h (.head _) (c := 275) (by decide) rfl (by omega) (by omega)
  refine ⟨k, z, k1, ?_, k3, k4, ?_⟩
  · rw [fr0 h (.tail _ (.head _)) (c := 275) (j := 6) (by decide) rfl (by omega) (by omega)]; exact k2
  · rw [sumC_of (fun j hj => hs j (by omega)), sumC_of (fun j hj => hs j (by omega))]; exact k5
theorem fr_pfs {c b : Nat} (h : ∀ j, b ≤ j → j < b + 181 → hI hp' c j = hI hp c j) (hF : fPfs c b hp) : fPfs c b hp' := by
  obtain ⟨k, k1, k2, v, k3⟩ := hF
  exact ⟨k, by rw [h b (by omega) (by omega)]; exact k1, k2, v, cdF_of (fun j hj => h _ (by omega) (by omega)) k3⟩
theorem fr_dep (h : ∀ c j, c < tNC → fpIn 13 [n, t] c j → hv hp' c j = hv hp c j) (hF : fDep n t hp) : fDep n t hp' := by
  have hs : ∀ j, 690 ≤ j → j < 690 + 181 → hI hp' 275 j = hI hp 275 j := fun j h1 h2 => fr0 h (.head _) (by decide) rfl h1 h2
  obtain ⟨h1, k, k1, k2, k3⟩ := hF
  exact ⟨fr_pfs hs h1, k, k1, k2, cdF_of (fun j hj => hs _ (by omega) (by omega)) k3⟩
theorem fr_code (h : ∀ c j, c < tNC → fpIn 14 [n, t] c j → hv hp' c j = hv hp c j) (hF : fCode n t hp) : fCode n t hp' := by
  obtain ⟨k, k1, k2, k3⟩ := hF
  exact ⟨k, k1, k2, cdF_of (fun j hj => fr1 h (.head _) (by decide) rfl (by omega) (by omega) (by omega)) k3⟩
theorem fr_stk (h : ∀ c j, c < tNC → fpIn 15 [n, t] c j → hv hp' c j = hv hp c j) (hF : fStk n t hp) : fStk n t hp' := by
  obtain ⟨k, k1, k2, k3⟩ := hF
  exact ⟨k, k1, k2, skF_of (fun j hj => fr1 h (.head _) (by decide) rfl (by omega) (by omega) (by omega)) k3⟩
theorem fr_nj (h : ∀ c j, c < tNC → fpIn 23 [n] c j → hv hp' c j = hv hp c j) (hF : fNj n hp) : fNj n hp' := by
  obtain ⟨k, k1, k2, k3⟩ := hF
  refine ⟨k, k1, k2, fun j hj => ?_⟩
  rw [fr1 h (.head _) (c := 287) (j := j) (by decide) rfl (by omega) (by omega) (by omega)]
  exact k3 j hj
theorem fr_kept {o k : Nat} (h1 : ∀ j, o ≤ j → j < o + 871 → hI hp' 289 j = hI hp 289 j) (h2 : hI hp' 291 k = hI hp 291 k) (hF : fKept o k hp) : fKept o k hp' := by
  intro hk
  rw [h2] at hk
  obtain ⟨a1, a2, a3, a4⟩ := hF hk
  refine ⟨?_, ?_, ?_, ?_⟩
  · rw [h1 o (by omega) (by omega)]; exact a1
  · rw [h1 (o + 1) (by omega) (by omega)]; exact a2
  · rw [h1 (o + 6) (by omega) (by omega)]
    intro j hj hn
    rw [h1 _ (by omega) (by omega)]
    exact a3 j hj hn
  · exact fr_pfs (fun j q1 q2 => h1 j (by omega) (by omega)) a4
theorem fr_eqa {d s rd rs : Nat} (h : ∀ c j, c < tNC → fpIn f xs c j → hv hp' c j = hv hp c j) (ha : (rd, 0, 40, 0) ∈ tFP f) (hb : (rs, 0, 40, 0) ∈ tFP f) (a1 : d < tNC) (a2 : tRO d = rd) (b1 : s < tNC) (b2 : tRO s = rs) (hF : fEqa d s hp) : fEqa d s hp' := by
  intro j hj
  rw [fv0 h ha a1 a2 (by omega) hj, fv0 h hb b1 b2 (by omega) hj]
  exact hF j hj
theorem fFS_fs : fsOk fFS := by
  intro f xs hp hp' hO hO' h hF
  unfold fFS at hF ⊢
  split at hF
  · exact fr_spot h hF
  · exact fr_sen h (.head _) (.tail _ (.head _)) (by decide) rfl (by decide) rfl hF
  · exact fr_sen h (.head _) (.tail _ (.head _)) (by decide) rfl (by decide) rfl hF
  · exact fr_sen h (.head _) (.tail _ (.head _)) (by decide) rfl (by decide) rfl hF
  · exact fr_sen h (.head _) (.tail _ (.head _)) (by decide) rfl (by decide) rfl hF
  · exact fr_roll h hF
  · exact fr_ch h (.head _) (by decide) rfl hF
  · exact fr_ch h (.head _) (by decide) rfl hF
  · exact fr_eqs h (.head _) (.tail _ (.head _)) (by decide) rfl (by decide) rfl (by decide) (by decide) hF
  · exact fr_psum h hF
  · exact fr_sum h hF
  · exact fr_rollm h hF
  · exact fr_pfs (fun j h1 h2 => fr0 h (.head _) (by decide) rfl h1 h2) hF
  · exact fr_dep h hF
  · exact fr_code h hF
  · exact fr_stk h hF
  · exact fr_eqs h (.head _) (.tail _ (.head _)) (by decide) rfl (by decide) rfl (by decide) (by decide) hF
  · exact fr_kept (fun j h1 h2 => fr0 h (.head _) (by decide) rfl h1 (by omega)) (fr0 h (.tail _ (.head _)) (by decide) rfl (by decide) (by decide)) hF
  · exact fr_eqs h (.head _) (.tail _ (.head _)) (by decide) rfl (by decide) rfl (by decide) (by decide) hF
  · exact fr_kept (fun j h1 h2 => fr0 h (.head _) (by decide) rfl h1 (by omega)) (fr0 h (.tail _ (.head _)) (by decide) rfl (by decide) (by decide)) hF
  · exact fr_eqs h (.head _) (.tail _ (.head _)) (by decide) rfl (by decide) rfl (by decide) (by decide) hF
  · exact hF
  · exact fr_nj h hF
  all_goals first
    | exact fr_eqa h (.head _) (.tail _ (.head _)) (by decide) rfl (by decide) rfl hF
    | exact hF.elim
end CkFact2
