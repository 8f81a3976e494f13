section CkFact3
variable {hp : Lean.RArray Nat} {a b a' b' : Nat} {n n' t x y d o w h3 : Int}
theorem sen0 (h : n ≤ 0) : fSen a b n hp := fun j _ hn => absurd hn (by omega)
theorem sen_add {i i' : Nat} (h : fSen a b n hp) (hx : hI hp a i = x) (hy : hI hp b i' = y) (e : (i : Int) = n) (e' : (i' : Int) = n) (hxy : ¬ x = 25 ∨ (0 ≤ y ∧ y ≤ 2)) (hn' : n' = n + 1) : fSen a b n' hp := by
  intro j hj hn
  by_cases q : (j : Int) < n
  · exact h j hj q
  · have e1 : j = i := by omega
    have e2 : i' = i := by omega
    rw [e1, hx]
    rw [e2] at hy
    rw [hy]
    exact hxy
theorem sen_use {i i' : Nat} (h : fSen a b n hp) (hx : hI hp a i = x) (hy : hI hp b i' = y) (e : i' = i) (hi : i < 40) (hn : (i : Int) < n) (hx5 : x = 25) : 0 ≤ y ∧ y ≤ 2 := by
  subst e
  have := h i' hi hn
  rw [hx, hy] at this
  omega
theorem sen_eq (h : fSen a b n hp) (h1 : fEqa a' a hp) (h2 : fEqa b' b hp) : fSen a' b' n hp := by
  intro j hj hn
  rw [hI_of (hp := hp) (hp' := hp) rfl, show hI hp a' j = hI hp a j from by unfold hI; rw [h1 j hj], show hI hp b' j = hI hp b j from by unfold hI; rw [h2 j hj]]
  exact h j hj hn
theorem spot0 (h : n ≤ 0) : fSpot n hp := fun j _ hn => absurd hn (by omega)
theorem spot_add {i i' : Nat} (h : fSpot n hp) (hx : hI hp 187 i = x) (hy : hI hp 189 i' = y) (e : (i : Int) = n) (e' : (i' : Int) = n) (hxy : (0 ≤ x ∧ x ≤ 99) ∨ y = -1) (hn' : n' = n + 1) : fSpot n' hp := by
  intro j hj hn
  by_cases q : (j : Int) < n
  · exact h j hj q
  · have e1 : j = i := by omega
    have e2 : i' = i := by omega
    rw [e1, hx]
    rw [e2] at hy
    rw [hy]
    exact hxy
theorem spot_use {i i' : Nat} (h : fSpot n hp) (hx : hI hp 187 i = x) (hy : hI hp 189 i' = y) (e : i' = i) (hi : i < 5) (hn : (i : Int) < n) (h0 : 0 ≤ y) : 0 ≤ x ∧ x ≤ 99 := by
  subst e
  have := h i' hi hn
  rw [hx, hy] at this
  omega
theorem roll0 (h : n ≤ 0) : fRoll n hp := fun j _ hn => absurd hn (by omega)
theorem roll_add {i i1 i2 i3 : Nat} (h : fRoll n hp) (q0 : hI hp 178 i = d) (q1 : hI hp 179 i1 = o) (q2 : hI hp 180 i2 = w) (q3 : hI hp 181 i3 = h3) (e : (i : Int) = n) (e1 : (i1 : Int) = n) (e2 : (i2 : Int) = n) (e3 : (i3 : Int) = n) (hb : bxR d o w h3) (hn' : n' = n + 1) : fRoll n' hp := by
  intro j hj hn
  by_cases q : (j : Int) < n
  · exact h j hj q
  · have w0 : i = j := by omega
    have w1 : i1 = j := by omega
    have w2 : i2 = j := by omega
    have w3 : i3 = j := by omega
    rw [w0] at q0; rw [w1] at q1; rw [w2] at q2; rw [w3] at q3
    rw [q0, q1, q2, q3]
    exact hb
theorem roll_use {i i1 i2 i3 : Nat} (h : fRoll n hp) (q0 : hI hp 178 i = d) (q1 : hI hp 179 i1 = o) (q2 : hI hp 180 i2 = w) (q3 : hI hp 181 i3 = h3) (w1 : i1 = i) (w2 : i2 = i) (w3 : i3 = i) (hi : i < 40) (hn : (i : Int) < n) : bxR d o w h3 := by
  rw [w1] at q1; rw [w2] at q2; rw [w3] at q3
  have := h i hi hn
  rw [q0, q1, q2, q3] at this
  exact this
theorem rollm0 (h : n ≤ 0) : fRollm n hp := fun j _ hn => absurd hn (by omega)
theorem rollm_add {i i1 i2 i3 : Nat} (h : fRollm n hp) (q0 : hI hp 277 i = d) (q1 : hI hp 277 i1 = o) (q2 : hI hp 277 i2 = w) (q3 : hI hp 277 i3 = h3) (e : (i : Int) = 4 * n) (e1 : (i1 : Int) = 4 * n + 1) (e2 : (i2 : Int) = 4 * n + 2) (e3 : (i3 : Int) = 4 * n + 3) (hb : bxM d o w h3) (hn' : n' = n + 1) : fRollm n' hp := by
  intro j hj hn
  by_cases q : (j : Int) < n
  · exact h j hj q
  · have w0 : i = 4 * j := by omega
    have w1 : i1 = 4 * j + 1 := by omega
    have w2 : i2 = 4 * j + 2 := by omega
    have w3 : i3 = 4 * j + 3 := by omega
    rw [w0] at q0; rw [w1] at q1; rw [w2] at q2; rw [w3] at q3
    rw [q0, q1, q2, q3]
    exact hb
theorem rollm_use {i i1 i2 i3 : Nat} (h : fRollm n hp) (q0 : hI hp 277 i = d) (q1 : hI hp 277 i1 = o) (q2 : hI hp 277 i2 = w) (q3 : hI hp 277 i3 = h3) (e : (i : Int) = 4 * x) (e1 : (i1 : Int) = 4 * x + 1) (e2 : (i2 : Int) = 4 * x + 2) (e3 : (i3 : Int) = 4 * x + 3) (hi : x < 40) (h0 : 0 ≤ x) (hn : x < n) : bxM d o w h3 := by
  obtain ⟨j, hj⟩ : ∃ j : Nat, x = (j : Int) := ⟨x.toNat, by omega⟩
  have w0 : i = 4 * j := by omega
  have w1 : i1 = 4 * j + 1 := by omega
  have w2 : i2 = 4 * j + 2 := by omega
  have w3 : i3 = 4 * j + 3 := by omega
  rw [w0] at q0; rw [w1] at q1; rw [w2] at q2; rw [w3] at q3
  have := h j (by omega) (by omega)
  rw [q0, q1, q2, q3] at this
  exact this
theorem ch0 (h : n ≤ 0) : fCh a b n hp := fun j _ hn => absurd hn (by omega)
theorem ch_add {i : Nat} (h : fCh a b n hp) (hx : hI hp a i = x) (e : (i : Int) = (b : Int) + n) (h1 : 1 ≤ x ∧ x ≤ 9) (hn' : n' = n + 1) : fCh a b n' hp := by
  intro j hj hn
  by_cases q : (j : Int) < n
  · exact h j hj q
  · have e1 : b + j = i := by omega
    rw [e1, hx]
    exact h1
theorem ch_use {i : Nat} (h : fCh a b n hp) (hx : hI hp a i = x) (e : (i : Int) = (b : Int) + y) (h0 : 0 ≤ y) (h1 : y < n) (h2 : y < 8) : 1 ≤ x ∧ x ≤ 9 := by
  obtain ⟨j, hj⟩ : ∃ j : Nat, y = (j : Int) := ⟨y.toNat, by omega⟩
  have e1 : i = b + j := by omega
  rw [← hx, e1]
  exact h j (by omega) (by omega)
theorem ch_eq {len : Nat} (h : fCh a' 250 n hp) (h2 : fEq a 0 a' 0 len t hp) (h3 : 258 ≤ t) (h4 : 258 ≤ len) : fCh a 250 n hp := by
  intro j hj hn
  have := h2 (250 + j) (by omega) (by omega)
  rw [Nat.zero_add] at this
  rw [this]
  exact h j hj hn
theorem eq0 {len : Nat} (h : n ≤ 0) : fEq a b a' b' len n hp := fun j _ hn => absurd hn (by omega)
theorem eq_add {len i i' : Nat} (h : fEq a b a' b' len n hp) (hx : hI hp a i = x) (hy : hI hp a' i' = x) (e : (i : Int) = (b : Int) + n) (e' : (i' : Int) = (b' : Int) + n) (hn' : n' = n + 1) : fEq a b a' b' len n' hp := by
  intro j hj hn
  by_cases q : (j : Int) < n
  · exact h j hj q
  · have e1 : b + j = i := by omega
    have e2 : b' + j = i' := by omega
    rw [e1, e2, hx, hy]
theorem psum0 : fPsum 0 0 hp := ⟨0, rfl, fun _ => rfl⟩
theorem psum_add {i : Nat} (h : fPsum n t hp) (hx : hI hp 275 i = x) (e : (i : Int) = 250 + n) (hn' : n' = n + 1) (ht : y = t + x) : fPsum n' y hp := by
  obtain ⟨k, k1, k3⟩ := h
  refine ⟨k + 1, by omega, fun k2 => ?_⟩
  have e1 : i = 250 + k := by omega
  show y = sumC hp k + hI hp 275 (250 + k)
  rw [← e1, hx, ht, k3 (by omega)]
theorem m6 (hO : hOk hp) : 0 ≤ hI hp 275 6 ∧ hI hp 275 6 ≤ 8 := hI_ty hO (by decide) rfl
theorem sum_of (hO : hOk hp) (h : fPsum n t hp) (hx : hI hp 275 6 = x) (e : n = x) : fSum 0 t hp := by
  obtain ⟨k, k1, k3⟩ := h
  have := m6 hO
  rw [hx] at this
  refine ⟨0, k, rfl, by omega, by omega, by omega, ?_⟩
  rw [k3 (by omega)]
  show _ = sumC hp k - 0
  omega
theorem sum_use (h : fSum n t hp) (hx : hI hp 275 6 = x) (ht : 0 < t) : (0 ≤ n ∧ n ≤ 7) ∧ n < x := by
  obtain ⟨k, z, k1, k2, k3, k4, k5⟩ := h
  have : k ≠ z := by
    intro e
    rw [e] at k5
    omega
  omega
theorem sum_nx {i : Nat} (h : fSum n t hp) (hi : hI hp 275 i = y) (e : (i : Int) = 250 + n) (hx : hI hp 275 6 = x) (hn : n < x) (hn' : n' = n + 1) (hd : d = t - y) : fSum n' d hp := by
  obtain ⟨k, z, k1, k2, k3, k4, k5⟩ := h
  refine ⟨k + 1, z, by omega, k2, by omega, k4, ?_⟩
  have e1 : i = 250 + k := by omega
  show d = sumC hp z - (sumC hp k + hI hp 275 (250 + k))
  rw [← e1, hi, hd, k5]
  omega
theorem stk0 : fStk 0 0 hp := ⟨0, rfl, by decide, rfl⟩
theorem stk_psh {i : Nat} (h : fStk n t hp) (hx : hI hp 287 i = x) (e : (i : Int) = n) (h4 : n ≤ 44) (hd : (((x = 21 ∨ x = 22) ∧ y = t + 1) ∨ (¬ x = 21 ∧ ¬ x = 22 ∧ y = t))) (hn' : n' = n + 1) : fStk n' y hp := by
  obtain ⟨k, k1, k2, k3⟩ := h
  have e1 : i = k := by omega
  subst e1
  refine ⟨i + 1, by omega, by omega, t, k3, ?_⟩
  rw [hx]
  exact hd
theorem stk_pop {i : Nat} (h : fStk n t hp) (hx : hI hp 287 i = x) (e : (i : Int) = n - 1) : ∃ v, fStk (n - 1) v hp ∧ 0 ≤ v ∧ v ≤ 44 ∧ (((x = 21 ∨ x = 22) ∧ t = v + 1) ∨ (¬ x = 21 ∧ ¬ x = 22 ∧ t = v)) := by
  obtain ⟨k, k1, k2, k3⟩ := h
  have e1 : k = i + 1 := by omega
  subst e1
  obtain ⟨v, v1, v2⟩ := k3
  rw [hx] at v2
  have := skF_bd v1
  exact ⟨v, ⟨i, by omega, by omega, v1⟩, by omega, by omega, v2⟩
theorem stk_nj (h : fStk n t hp) (h2 : fNj n hp) (h1 : 1 ≤ n) : fStk (n - 1) t hp := by
  obtain ⟨k, k1, k2, k3⟩ := h2
  have := k3 (k - 1) (by omega)
  obtain ⟨v, v1, v2, v3, v4⟩ := stk_pop (i := k - 1) h rfl (by omega)
  have e : t = v := by omega
  rw [e]
  exact v1
theorem stk_z (h : fStk 0 t hp) : t = 0 := by
  obtain ⟨k, k1, k2, k3⟩ := h
  have : k = 0 := by omega
  subst this
  exact k3
theorem nj0 (e : n = 0) : fNj n hp := ⟨0, by omega, by decide, fun j hj => absurd hj (by omega)⟩
theorem nj_of {i : Nat} (hx : hI hp 287 i = x) (e : (i : Int) = n - 1) (h4 : n ≤ 45) (h1 : ¬ x = 21 ∧ ¬ x = 22) : fNj n hp := by
  refine ⟨i + 1, by omega, by omega, fun j hj => ?_⟩
  have : j = i := by omega
  rw [this, hx]
  exact h1
theorem code0 : fCode 0 0 hp := ⟨0, rfl, by decide, rfl⟩
theorem code_add {i i2 : Nat} (h : fCode n t hp) (hx : hI hp 277 i = x) (hy : hI hp 277 i2 = y) (e : (i : Int) = 3 * n) (e2 : (i2 : Int) = 3 * n + 2) (h4 : n ≤ 52) (hs : stC x y t d) (hn' : n' = n + 1) : fCode n' d hp := by
  obtain ⟨k, k1, k2, k3⟩ := h
  have w1 : i = 0 + 3 * k := by omega
  have w2 : i2 = 0 + 3 * k + 2 := by omega
  refine ⟨k + 1, by omega, by omega, t, k3, ?_⟩
  rw [← w2, ← w1, hx, hy]
  exact hs
theorem pfs0 (e : hI hp a b = 0) : fPfs a b hp := ⟨0, e, by decide, 0, rfl⟩
theorem pfs_of (hx : hI hp 275 690 = x) (h0 : 0 ≤ x ∧ x ≤ 53) (h1 : fEq 275 691 277 0 160 n hp) (h2 : 3 * x ≤ n) (h3 : fCode x t hp) : fPfs 275 690 hp := by
  obtain ⟨k, k1, k2, k3⟩ := h3
  refine ⟨k, by omega, k2, t, cdF_of (c := 277) (b := 0) (fun j hj => ?_) k3⟩
  exact h1 j (by omega) (by omega)
theorem dep0 (h : fPfs 275 690 hp) : fDep 0 0 hp := ⟨h, 0, rfl, by decide, rfl⟩
theorem dep_use {i i2 : Nat} (h : fDep n t hp) (hz : hI hp 275 690 = o) (hn : n < o) (hx : hI hp 275 i = x) (hy : hI hp 275 i2 = y) (e : (i : Int) = 691 + 3 * n) (e2 : (i2 : Int) = 693 + 3 * n) : ∃ d, stC x y t d ∧ fDep (n + 1) d hp := by
  obtain ⟨p, k, k1, k2, k3⟩ := h
  obtain ⟨z, z1, z2, v, z3⟩ := p
  obtain ⟨c, d, c1, c2⟩ := cdF_pre z3 k (by omega)
  have w1 : i = 690 + 1 + 3 * k := by omega
  have w2 : i2 = 690 + 1 + 3 * k + 2 := by omega
  have ec := cdF_det k3 c1
  subst ec
  refine ⟨d, ?_, ⟨z, z1, z2, v, z3⟩, k + 1, by omega, by omega, t, k3, c2⟩
  rw [← w2, ← w1, hx, hy] at c2
  exact c2
theorem kept_of {k : Nat} (hO : hOk hp) (h : fEq 289 a 275 0 871 n hp) (hn : 871 ≤ n) (hx : hI hp 275 6 = x) (hc : fCh 275 250 x hp) (hf : fPfs 275 690 hp) : fKept a k hp := by
  intro _
  have e : ∀ j, j < 871 → hI hp 289 (a + j) = hI hp 275 j := by
    intro j hj
    rw [h j hj (by omega), Nat.zero_add]
  refine ⟨?_, ?_, ?_, ?_⟩
  · have := e 0 (by decide)
    rw [Nat.add_zero] at this
    rw [this]
    exact hI_ty hO (by decide) rfl
  · rw [e 1 (by decide)]
    exact hI_ty hO (by decide) rfl
  · rw [e 6 (by decide), hx]
    intro j hj hn
    rw [Nat.add_assoc, e (250 + j) (by omega)]
    exact hc j hj hn
  · obtain ⟨z, z1, z2, v, z3⟩ := hf
    refine ⟨z, by rw [e 690 (by decide)]; exact z1, z2, v, cdF_of (c := 275) (b := 690 + 1) (fun j hj => ?_) z3⟩
    have := e (690 + 1 + j) (by omega)
    rw [← this]
    congr 1
    omega
theorem kept_ch {k : Nat} (h : fKept a k hp) (hk : hI hp 291 k = 1) (hE : fEq 289 a 275 0 871 n hp) (hn : 871 ≤ n) (hx : hI hp 275 6 = x) : fCh 275 250 x hp ∧ fPfs 275 690 hp := by
  have e : ∀ j, j < 871 → hI hp 289 (a + j) = hI hp 275 j := by
    intro j hj
    rw [hE j hj (by omega), Nat.zero_add]
  obtain ⟨-, -, c, f⟩ := h hk
  rw [e 6 (by decide), hx] at c
  constructor
  · intro j hj hn
    rw [← e (250 + j) (by omega), ← Nat.add_assoc]
    exact c j hj hn
  · obtain ⟨z, z1, z2, v, z3⟩ := f
    rw [e 690 (by decide)] at z1
    refine ⟨z, z1, z2, v, cdF_of (c := 289) (b := a + 690 + 1) (fun j hj => ?_) z3⟩
    have := e (690 + 1 + j) (by omega)
    rw [← this]
    congr 1
    omega
end CkFact3
