section CkSen1
variable {T : pT} {look look' : Int → List Int → Prop} {hp : Lean.RArray Nat} {q c o t k a z v x y i p u d s w : Int}
/-- bounds of the sentence's places and tokens -/
theorem sh_bd (hT : tOk T) (hH : SHq T look q c o t k a z v) : (0 ≤ q ∧ q ≤ 940 ∧ 0 ≤ c ∧ c ≤ 6 ∧ 0 ≤ o ∧ o ≤ 20 ∧ 0 ≤ t ∧ t ≤ 6560) ∧ (0 ≤ k ∧ k ≤ 4 ∧ 0 ≤ a ∧ a ≤ 940 ∧ 0 ≤ z ∧ z ≤ 940 ∧ -1 ≤ v ∧ v ≤ 99) := by
  obtain ⟨hG, ht⟩ := hH
  obtain ⟨i1, i2, i3, i4, i5, i6, i7, i8, i9⟩ := SG_in hT hG
  obtain ⟨t1, t2, t3, t4, -⟩ := TK_bd ht.1 i1 hT.2.2.1 i2
  obtain ⟨-, u1, u2, u3, u4⟩ := ht
  have := hT.2.1
  exact ⟨⟨by omega, by omega, by omega, by omega, by omega, by omega, by omega, by omega⟩, by omega, by omega, by omega, by omega, by omega, by omega, by omega, by omega⟩
theorem sh_k1 (hT : tOk T) (hH : SHq T look q c o t k a z v) (hk : k = 1) : isW (bs T.1 a z) ∧ v = wix (bs T.1 a z) ∧ -1 ≤ v ∧ v ≤ 29 := by
  obtain ⟨hG, ht⟩ := hH
  obtain ⟨i1, i2, i3, i4, i5, i6, i7, i8, i9⟩ := SG_in hT hG
  obtain ⟨t1, t2, t3, t4, t5⟩ := TK_bd ht.1 i1 hT.2.2.1 i2
  obtain ⟨b1, b2, b3, b4, b5, b6, b7, b8⟩ := t5 (by omega)
  exact ⟨(b7 hk).2.1, (b7 hk).2.2, b4, (b7 hk).1⟩
theorem sh_v2 (hT : tOk T) (hH : SHq T look q c o t k a z v) (hk : k = 2) : 0 ≤ v ∧ v ≤ 99 := by
  obtain ⟨hG, ht⟩ := hH
  obtain ⟨i1, i2, i3, i4, i5, i6, i7, i8, i9⟩ := SG_in hT hG
  obtain ⟨t1, t2, t3, t4, t5⟩ := TK_bd ht.1 i1 hT.2.2.1 i2
  obtain ⟨b1, b2, b3, b4, b5, b6, b7, b8⟩ := t5 (by omega)
  exact ⟨b8 hk, b5⟩
theorem sh_in (hT : tOk T) (hH : SHq T look q c o t k a z v) (hk : k ≠ 4) : 0 ≤ a ∧ z ≤ T.2.1 := by
  obtain ⟨hG, ht⟩ := hH
  obtain ⟨i1, i2, i3, i4, i5, i6, i7, i8, i9⟩ := SG_in hT hG
  obtain ⟨t1, t2, t3, t4, t5⟩ := TK_bd ht.1 i1 hT.2.2.1 i2
  exact ⟨t3, (t5 hk).2.2.1⟩
theorem sg_u {m c' o' : Int} (h : u = nr t) (hG : SG T look m c' o' (nr t)) : SG T look m c' o' u := by rw [h]; exact hG
theorem sg_e {q' c' o' t' : Int} (hG : SG T look q' c' o' t') (e2 : c = c') (e3 : o = o') (e4 : t = t') : SG T look q' c o t := by
  subst e2; subst e3; subst e4
  exact hG
/-- how deep -/
theorem dpF_le : ∀ (n m : Nat) (t : Int), t < 3 ^ m → dpF n t ≤ m := by
  intro n
  induction n with
  | zero => intro m t _; exact Int.natCast_nonneg m
  | succ n ih =>
    intro m t h
    show (if t ≤ 0 then 0 else 1 + dpF n (t / 3)) ≤ (m : Int)
    by_cases r : t ≤ 0
    · rw [if_pos r]; exact Int.natCast_nonneg m
    · rw [if_neg r]
      cases m with
      | zero => rw [Int.pow_zero] at h; omega
      | succ m =>
        have := ih m (t / 3) (by rw [Int.pow_succ] at h; omega)
        omega
theorem dp_nn (t : Int) : 0 ≤ dp t := dpF_nn 12 t
theorem dp_8 (h : t ≤ 6560) : dp t ≤ 8 := by
  have : dpF 12 t ≤ ((8 : Nat) : Int) := dpF_le 12 8 t (by show t < 6561; omega)
  exact this
theorem dp_7 (h : t ≤ 2186) : dp t ≤ 7 := by
  have : dpF 12 t ≤ ((7 : Nat) : Int) := dpF_le 12 7 t (by show t < 2187; omega)
  exact this
theorem dp_l8 (h0 : 0 ≤ t) (h : dp t ≤ 8) : t ≤ 6560 := by
  have := dpF_lt 12 8 t h0 (by decide) h
  have : t < 6561 := this
  omega
theorem dp_lm (m : Nat) (hm : m < 12) (h0 : 0 ≤ t) (h : dp t ≤ (m : Int)) : t < 3 ^ m := dpF_lt 12 m t h0 hm h
theorem dp_31 (h0 : 0 ≤ t) (h1 : t ≤ 6560) (e : d = dp t + 1) (e2 : y = d + 1) (e3 : x = 3 * t + 1) : y = dp x + 1 := by
  subst e3
  have := dp_3 (t := t) (j := 1) h0 (by omega) (Or.inl rfl)
  omega
theorem dp_32 (h0 : 0 ≤ t) (h1 : t ≤ 6560) (e : d = dp t + 1) (e2 : y = d + 1) (e3 : x = 3 * t + 2) : y = dp x + 1 := by
  subst e3
  have := dp_3 (t := t) (j := 2) h0 (by omega) (Or.inr rfl)
  omega
theorem nr_31' (h0 : 0 ≤ t) (h1 : t ≤ 2186) (e : u = nr t) (e3 : x = 3 * t + 1) : u = nr x := by
  subst e3
  rw [nr_31 h0 h1]
  exact e
theorem nr_n1 (h : ¬ t % 3 = 1) : nr t = t := by
  show (if t % 3 = 1 then nrF 11 (t / 3) else t) = t
  rw [if_neg h]
/-- a slot with a code -/
theorem scW_det {X : Nat → Int} {i' : Int} (h : scW X w i) (h' : scW X w i') : i = i' := by
  rcases h with ⟨e, h⟩ | ⟨j, j1, j2, j3, j4⟩
  · rcases h' with ⟨e', h'⟩ | ⟨j', k1, k2, k3, k4⟩
    · omega
    · exact absurd k3 (h j' k1)
  · rcases h' with ⟨e', h'⟩ | ⟨j', k1, k2, k3, k4⟩
    · exact absurd j3 (h' j j1)
    · rcases Nat.lt_trichotomy j j' with e | e | e
      · exact absurd j3 (k4 j e)
      · omega
      · exact absurd k3 (j4 j' e)
theorem nmX_no {X : Nat → Int} {L : List Int} (h : scW X (cd 32 96 L) i) (hr : ¬ sRg c i) : ¬ nmX X c L := by
  rintro ⟨i', h1, h2⟩
  rw [scW_det h h2] at hr
  exact hr h1
theorem nmX_yes {X : Nat → Int} {L : List Int} (h : scW X (cd 32 96 L) i) (hr : sRg c i) : nmX X c L := ⟨i, hr, h⟩
theorem scv_s {j0 : Nat} (hw : ∀ j : Nat, j < 12 → (j : Int) < s → hL hp (xnm hp) j ≠ w) (hx : hL hp (xnm hp) j0 = x) (e1 : (j0 : Int) = s) (hn : x ≠ w) (e2 : t = s + 1) : ∀ j : Nat, j < 12 → (j : Int) < t → hL hp (xnm hp) j ≠ w := by
  intro i hi hs
  by_cases r : (i : Int) < s
  · exact hw i hi r
  · have e3 : i = j0 := by omega
    rw [e3, hx]
    exact hn
theorem scv_f {j0 : Nat} (hw : ∀ j : Nat, j < 12 → (j : Int) < s → hL hp (xnm hp) j ≠ w) (hx : hL hp (xnm hp) j0 = x) (hj : j0 < 12) (e1 : s = (j0 : Int)) (e2 : x = w) : scW (fun j => hL hp (xnm hp) j) w s := Or.inr ⟨j0, hj, e1, hx.trans e2, fun j' hj' => hw j' (by omega) (by omega)⟩
theorem scv_n (hw : ∀ j : Nat, j < 12 → (j : Int) < s → hL hp (xnm hp) j ≠ w) (e1 : 12 ≤ s) : scW (fun j => hL hp (xnm hp) j) w (-1) := Or.inl ⟨rfl, fun j hj => hw j hj (by omega)⟩
theorem slv_x (hO : hOk hp) (hH : SHq (XT hp) look q c o t k a z v ∧ k ≠ 4) (hS : scW (fun j => hL hp (xnm hp) j) w i) (hM : isW (bs (XB hp) a z) ∧ hL hp 173 8 = cd 32 96 (bs (XB hp) a z)) (hw : hL hp 173 8 = w) : scW (fun j => hL hp (xnm hp) j) (cd 32 96 (bs (XT hp).1 a z)) i := by
  obtain ⟨h0, hz⟩ := sh_in (XT_ok hO) hH.1 hH.2
  rw [xt_bs h0 hz, ← hM.2, hw]
  exact hS
set_option maxRecDepth 100000 in
theorem tRO_3 : ∀ c, c < 293 → tRO c = 3 → c = 3 := by decide +kernel
set_option maxRecDepth 100000 in
theorem tRO_99 : ∀ c, c < 293 → tRO c = 99 → c = 16 := by decide +kernel
theorem nm_A (hO : hOk hp) : hC hp 2 7 = 3 := by
  obtain ⟨c, c1, c2, c3⟩ := (hO.2 2 (by decide)).2.2 7 _ (show sSgAt (tSg (tRO 2)) 7 = some (.inr (.inr [3])) from rfl)
  rw [hC_eq c3]
  exact tRO_3 c c1 (List.mem_singleton.1 c2)
theorem nm_B (hO : hOk hp) : hC hp 15 7 = 16 := by
  obtain ⟨c, c1, c2, c3⟩ := (hO.2 15 (by decide)).2.2 7 _ (show sSgAt (tSg (tRO 15)) 7 = some (.inr (.inr [99])) from rfl)
  rw [hC_eq c3]
  exact tRO_99 c c1 (List.mem_singleton.1 c2)
theorem xn_A (hO : hOk hp) (h : hC hp 0 6 = 2) : xnm hp = 3 := by
  show hC hp (hC hp 0 6) 7 = 3
  rw [h]
  exact nm_A hO
theorem xn_B (hO : hOk hp) (h : hC hp 0 6 = 15) : xnm hp = 16 := by
  show hC hp (hC hp 0 6) 7 = 16
  rw [h]
  exact nm_B hO
theorem rr_A (hO : hOk hp) (h : hC hp 176 1 = 2) : rr hp 1 7 = 3 := by
  show hC hp (hC hp 176 1) 7 = 3
  rw [h]
  exact nm_A hO
theorem rr_B (hO : hOk hp) (h : hC hp 176 1 = 15) : rr hp 1 7 = 16 := by
  show hC hp (hC hp 176 1) 7 = 16
  rw [h]
  exact nm_B hO
/-- words and names of the reference -/
theorem isw_yS (hT : tOk T) (hR : ∃ j : Nat, j < 30 ∧ y = (j : Int) ∧ x = cd 256 0 (wrd j)) (hH : SHq T look q c o t k a z v) (hk : k = 1) (hM : isW (bs T.1 a z) ∧ w = cd 256 0 (bs T.1 a z)) (e1 : w = x) : v = y := by
  obtain ⟨j, h1, h2, h3⟩ := hR
  have h4 := (sh_k1 hT hH hk).2.1
  have e2 := cd256 (l := bs T.1 a z) (l' := wrd j) hM.1.2.2 (wrd_ltr j h1) (by rw [← hM.2, e1, h3])
  rw [h4, e2, wix_wrd j h1, h2]
theorem isw_nS (hT : tOk T) (hR : ∃ j : Nat, j < 30 ∧ y = (j : Int) ∧ x = cd 256 0 (wrd j)) (hH : SHq T look q c o t k a z v) (hk : k = 1) (hM : isW (bs T.1 a z) ∧ w = cd 256 0 (bs T.1 a z)) (e1 : w ≠ x) : v ≠ y := by
  obtain ⟨j, h1, h2, h3⟩ := hR
  have h4 := (sh_k1 hT hH hk).2.1
  intro e2
  obtain ⟨-, e3⟩ := wix_of (L := bs T.1 a z) (j := j) (by omega)
  exact e1 (by rw [hM.2, h3, e3])
theorem inm_eS {R : Nat → Int} (hT : tOk T) (hV : ∀ i : Nat, i < 30 → R i = cd 256 0 (wrd (rsv i))) (hI' : (y = 1 ∧ ∀ i : Nat, i < 30 → (i : Int) < s → R i ≠ w) ∨ (y = 0 ∧ ∃ i : Nat, i < 30 ∧ (i : Int) < s ∧ R i = w)) (hs : s = 30) (hH : SHq T look q c o t k a z v) (hk : k = 1) (hM : isW (bs T.1 a z) ∧ w = cd 256 0 (bs T.1 a z)) : (y = 1 → v = -1) ∧ (y = 0 → 0 ≤ v ∧ v ≤ 29) := by
  obtain ⟨h1, h2, h3, -⟩ := sh_k1 hT hH hk
  constructor
  · intro hy
    rcases hI' with ⟨-, h⟩ | ⟨h, -⟩
    · rw [h2]
      refine wix_no (fun j hj e => ?_)
      obtain ⟨i, i1, i2⟩ := rsv_on j hj
      exact h i i1 (by omega) (by rw [hV i i1, i2, e, ← hM.2])
    · omega
  · intro hy
    rcases hI' with ⟨h, -⟩ | ⟨-, i, i1, i2, i3⟩
    · omega
    · have e2 := cd256 (l := bs T.1 a z) (l' := wrd (rsv i)) hM.1.2.2 (wrd_ltr _ (rsv_lt i i1)) (by rw [← hM.2, ← i3, hV i i1])
      rw [h2, e2, wix_wrd _ (rsv_lt i i1)]
      have := rsv_lt i i1
      omega
/-- the reference's names -/
def mNx (c : Int) (b n r : Nat) : Prop := (c = 1 ∧ b = 7 ∧ n = 5 ∧ r = 4) ∨ (c = 2 ∧ b = 0 ∧ n = 4 ∧ r = 2) ∨ (c = 3 ∧ b = 4 ∧ n = 3 ∧ r = 3)
theorem fds_f {b n r j j0 : Nat} (hE : mNx c b n r) (hS : hI hp 275 r = u) (hM : isW (bs T.1 a z) ∧ hL hp 273 17 = cd 256 0 (bs T.1 a z)) (hw : hL hp 273 17 = w) (hx : hL hp 278 j = y) (e0 : j = b + j0) (h0 : j0 < n) (e1 : y = w) (h1 : (j0 : Int) < u) (e2 : i = (j0 : Int)) : (0 ≤ i ∧ nmM hp c (bs T.1 a z)) ∨ (i = -1 ∧ ¬ nmM hp c (bs T.1 a z)) := by
  refine Or.inl ⟨by omega, b, n, r, hE, j0, h0, by show (j0 : Int) < hI hp 275 r; rw [hS]; exact h1, ?_⟩
  show hL hp 278 (b + j0) = _
  rw [← e0, hx, e1, ← hw]
  exact hM.2
theorem mNx_det {b n r b' n' r' : Nat} (h : mNx c b n r) (h' : mNx c b' n' r') : b = b' ∧ n = n' ∧ r = r' := by
  unfold mNx at h h'
  omega
theorem fds_n {b n r : Nat} (hE : mNx c b n r) (hS : hI hp 275 r = u) (hM : isW (bs T.1 a z) ∧ hL hp 273 17 = cd 256 0 (bs T.1 a z)) (hw : hL hp 273 17 = w) (hN : ∀ i : Nat, i < n → (i : Int) < s → hL hp 278 (b + i) ≠ w) (h1 : u ≤ s) (e2 : i = -1) : (0 ≤ i ∧ nmM hp c (bs T.1 a z)) ∨ (i = -1 ∧ ¬ nmM hp c (bs T.1 a z)) := by
  refine Or.inr ⟨e2, ?_⟩
  rintro ⟨b', n', r', hE', j, j1, j2, j3⟩
  obtain ⟨rfl, rfl, rfl⟩ := mNx_det hE hE'
  have j2 : (j : Int) < hI hp 275 r := j2
  rw [hS] at j2
  have j3 : hL hp 278 (b + j) = cd 256 0 (bs T.1 a z) := j3
  exact hN j j1 (by omega) (by rw [j3, ← hM.2, hw])
theorem fds_y (h : (0 ≤ i ∧ nmM hp c (bs T.1 a z)) ∨ (i = -1 ∧ ¬ nmM hp c (bs T.1 a z))) (hi : 0 ≤ i) : nmM hp c (bs T.1 a z) := by
  rcases h with h | h
  · exact h.2
  · omega
theorem fds_0 (h : (0 ≤ i ∧ nmM hp c (bs T.1 a z)) ∨ (i = -1 ∧ ¬ nmM hp c (bs T.1 a z))) (hi : i = -1) : ¬ nmM hp c (bs T.1 a z) := by
  rcases h with h | h
  · omega
  · exact h.2
/-- the stack -/
def sStm (hp : Lean.RArray Nat) (p t : Int) : Prop := ∃ n : Nat, p = (n : Int) ∧ n ≤ 45 ∧ sFo (fun j => hI hp 287 j) n t
theorem sFo_nn {S : Nat → Int} : ∀ {n : Nat} {t : Int}, sFo S n t → 0 ≤ t := by
  intro n
  induction n with
  | zero => intro t h; have h : t = 0 := h; omega
  | succ n ih =>
    intro t h
    have h : (S n = 20 ∧ ∃ u, sFo S n u ∧ t = 3 * u + 1) ∨ (S n = 23 ∧ ∃ u, sFo S n u ∧ t = 3 * u + 2) ∨ ((S n = 21 ∨ S n = 22) ∧ sFo S n t ∧ t % 3 ≠ 1) := h
    rcases h with ⟨-, u, h2, h3⟩ | ⟨-, u, h2, h3⟩ | ⟨-, h2, -⟩
    · have := ih h2; omega
    · have := ih h2; omega
    · exact ih h2
theorem stm_0 (e1 : p = 0) (e2 : t = 0) : sStm hp p t := ⟨0, by omega, by omega, e2⟩
theorem stm_z (h : sStm hp p t) (e : p = 0) : t = 0 := by
  obtain ⟨n, n1, n2, n3⟩ := h
  have e2 : n = 0 := by omega
  subst e2
  exact n3
theorem stm_t {j : Nat} (h : sStm hp p t) (hx : hI hp 287 j = x) (e1 : (j : Int) = p - 1) : (x = 20 ∧ ∃ u, sStm hp (p - 1) u ∧ t = 3 * u + 1) ∨ (x = 23 ∧ ∃ u, sStm hp (p - 1) u ∧ t = 3 * u + 2) ∨ ((x = 21 ∨ x = 22) ∧ sStm hp (p - 1) t ∧ t % 3 ≠ 1) := by
  obtain ⟨n, n1, n2, n3⟩ := h
  have e2 : n = j + 1 := by omega
  subst e2
  have n3 : (hI hp 287 j = 20 ∧ ∃ u, sFo (fun j => hI hp 287 j) j u ∧ t = 3 * u + 1) ∨ (hI hp 287 j = 23 ∧ ∃ u, sFo (fun j => hI hp 287 j) j u ∧ t = 3 * u + 2) ∨ ((hI hp 287 j = 21 ∨ hI hp 287 j = 22) ∧ sFo (fun j => hI hp 287 j) j t ∧ t % 3 ≠ 1) := n3
  rw [hx] at n3
  have k : ∀ u, sFo (fun j => hI hp 287 j) j u → sStm hp (p - 1) u := fun u hu => ⟨j, by omega, by omega, hu⟩
  rcases n3 with ⟨h1, u, h2, h3⟩ | ⟨h1, u, h2, h3⟩ | ⟨h1, h2, h3⟩
  · exact Or.inl ⟨h1, u, k u h2, h3⟩
  · exact Or.inr (Or.inl ⟨h1, u, k u h2, h3⟩)
  · exact Or.inr (Or.inr ⟨h1, k t h2, h3⟩)
theorem stm_nn (h : sStm hp p t) : 0 ≤ t := by
  obtain ⟨n, -, -, n3⟩ := h
  exact sFo_nn n3
theorem stm_p20 {j : Nat} (h : sStm hp p t) (hx : hI hp 287 j = x) (e1 : (j : Int) = p - 1) (e2 : x = 20) : ∃ u, 0 ≤ u ∧ sStm hp (p - 1) u ∧ t = 3 * u + 1 := by
  rcases stm_t h hx e1 with ⟨-, u, u1, u2⟩ | ⟨h1, -⟩ | ⟨h1, -⟩
  · exact ⟨u, stm_nn u1, u1, u2⟩
  · omega
  · omega
theorem stm_pj {j : Nat} (h : sStm hp p t) (hx : hI hp 287 j = x) (e1 : (j : Int) = p - 1) (e2 : x = 21 ∨ x = 22) : sStm hp (p - 1) t := by
  rcases stm_t h hx e1 with ⟨h1, -⟩ | ⟨h1, -⟩ | ⟨-, h2, -⟩
  · omega
  · omega
  · exact h2
theorem stm_n1 {j : Nat} (h : sStm hp p t) (hx : hI hp 287 j = x) (e1 : (j : Int) = p - 1) (e2 : x ≠ 20) : ¬ t % 3 = 1 := by
  rcases stm_t h hx e1 with ⟨h1, -⟩ | ⟨-, u, u1, u2⟩ | ⟨-, -, h2⟩
  · exact absurd h1 e2
  · omega
  · exact h2
theorem stm_psh {j : Nat} (h : sStm hp p t) (hx : hI hp 287 j = x) (e1 : (j : Int) = p) (h4 : p ≤ 44) (e2 : (x = 20 ∧ u = 3 * t + 1) ∨ (x = 23 ∧ u = 3 * t + 2) ∨ ((x = 21 ∨ x = 22) ∧ u = t ∧ ¬ t % 3 = 1)) (e3 : y = p + 1) : sStm hp y u := by
  obtain ⟨n, n1, n2, n3⟩ := h
  have e4 : n = j := by omega
  subst e4
  refine ⟨n + 1, by omega, by omega, ?_⟩
  show (hI hp 287 n = 20 ∧ ∃ w, sFo (fun j => hI hp 287 j) n w ∧ u = 3 * w + 1) ∨ (hI hp 287 n = 23 ∧ ∃ w, sFo (fun j => hI hp 287 j) n w ∧ u = 3 * w + 2) ∨ ((hI hp 287 n = 21 ∨ hI hp 287 n = 22) ∧ sFo (fun j => hI hp 287 j) n u ∧ u % 3 ≠ 1)
  rw [hx]
  rcases e2 with ⟨a1, a2⟩ | ⟨a1, a2⟩ | ⟨a1, a2, a3⟩
  · exact Or.inl ⟨a1, t, n3, a2⟩
  · exact Or.inr (Or.inl ⟨a1, t, n3, a2⟩)
  · exact Or.inr (Or.inr ⟨a1, by rw [a2]; exact n3, by rw [a2]; exact a3⟩)
theorem stm_nj (h : sStm hp p t) (hn : fNj p hp) (hp1 : 1 ≤ p) (h3 : ¬ t % 3 = 1) : ∃ u, 0 ≤ u ∧ sStm hp (p - 1) u ∧ t = 3 * u + 2 := by
  obtain ⟨n, n1, n2, n3⟩ := h
  obtain ⟨m, m1, m2, m3⟩ := hn
  have e2 : n = m := by omega
  subst e2
  obtain ⟨j, rfl⟩ : ∃ j, n = j + 1 := ⟨n - 1, by omega⟩
  have hj := m3 j rfl
  have h : sStm hp p t := ⟨j + 1, n1, n2, n3⟩
  rcases stm_t (j := j) h rfl (by omega) with ⟨-, u, u1, u2⟩ | ⟨-, u, u1, u2⟩ | ⟨h1, -⟩
  · omega
  · exact ⟨u, stm_nn u1, u1, u2⟩
  · omega
/-- both answers -/
theorem san_eq {n m b f g : Int} {look0 look1 : Int → List Int → Prop} (hO : hOk hp) (hE : ∀ i : Nat, i < 940 → (i : Int) < t → hI hp 1 i = hI hp 274 i % 256) (h1 : hI hp 173 2 = n) (h2 : hI hp 273 3 = n) (h3 : hI hp 173 3 = m) (h4 : hI hp 273 5 = m) (hn : n ≤ t ∧ n ≤ 940) (hL : ∀ c L, isW L → (look0 c L ↔ look1 c L)) (h5 : SAN (XT hp) look0 a f) (h6 : SAN (MT hp) look1 b g) : a = b ∧ f = g := by
  rw [T_eq hE h1 h2 h3 h4 hn] at h5
  exact SAN_det (SAN_cg (MT_ok hO) hL h5) h6
/-- names alike behind a parish -/
theorem nmr_D {X : Nat → Int} {D : pD} {L : List Int} (hD : dI D) (hX : ∀ j : Nat, j < 12 → X j = cd 32 96 (nm D j)) (hL : isW L) : nmX X c L ↔ ∃ j : Nat, j < 12 ∧ sRg c (j : Int) ∧ nm D j = L := by
  have hk : ∀ j : Nat, j < 12 → X j = cd 32 96 L → nm D j = L := fun j hj e => cd32 (nm_ltr hD hj) hL.2.2 (by rw [← hX j hj, e])
  constructor
  · rintro ⟨i, h1, h2⟩
    rcases h2 with ⟨e, -⟩ | ⟨j, j1, j2, j3, -⟩
    · unfold sRg at h1; omega
    · exact ⟨j, j1, by rw [← j2]; exact h1, hk j j1 j3⟩
  · rintro ⟨j, j1, j2, j3⟩
    refine ⟨j, j2, Or.inr ⟨j, j1, rfl, by rw [hX j j1, j3], fun j' hj' e => ?_⟩⟩
    have e2 := hk j' (by omega) e
    have := hD.2.2.1 j' j (by omega) j1 (by rw [e2, j3]) (by rw [e2]; exact isW_ne hL)
    omega
theorem nmg_D {S X : Nat → Int} {D : pD} {L : List Int} (hD : dI D) (h1 : S 2 = (dOw D).length) (h2 : S 3 = (dSt D).length) (h3 : S 4 = (dKn D).length) (a1 : ∀ i : Nat, i < 4 → (i : Int) < S 2 → X i = cd 256 0 (nm D i)) (a2 : ∀ i : Nat, i < 3 → (i : Int) < S 3 → X (4 + i) = cd 256 0 (nm D (4 + i))) (a3 : ∀ i : Nat, i < 5 → (i : Int) < S 4 → X (7 + i) = cd 256 0 (nm D (7 + i))) (hL : isW L) : nmG S X c L ↔ ∃ j : Nat, j < 12 ∧ sRg c (j : Int) ∧ nm D j = L := by
  have hk : ∀ j : Nat, j < 12 → X j = cd 256 0 L → X j = cd 256 0 (nm D j) → nm D j = L := fun j hj e e' => cd256 (nm_ltr hD hj) hL.2.2 (by rw [← e', e])
  constructor
  · rintro ⟨b, n, r, hb, j, j1, j2, j3⟩
    rcases hb with ⟨c1, rfl, rfl, rfl⟩ | ⟨c1, rfl, rfl, rfl⟩ | ⟨c1, rfl, rfl, rfl⟩
    · exact ⟨7 + j, by omega, by unfold sRg; omega, hk _ (by omega) j3 (a3 j j1 j2)⟩
    · rw [Nat.zero_add] at j3
      exact ⟨j, by omega, by unfold sRg; omega, hk _ (by omega) j3 (a1 j j1 j2)⟩
    · exact ⟨4 + j, by omega, by unfold sRg; omega, hk _ (by omega) j3 (a2 j j1 j2)⟩
  · rintro ⟨j, j1, j2, j3⟩
    have hne : nm D j ≠ [] := by rw [j3]; exact isW_ne hL
    unfold sRg at j2
    rcases j2 with ⟨c1, c2, c3⟩ | ⟨c1, c2, c3⟩ | ⟨c1, c2, c3⟩
    · have e : j = 7 + (j - 7) := by omega
      have hl : ((j - 7 : Nat) : Int) < S 4 := by
        rw [h3]
        by_cases q : j - 7 < (dKn D).length
        · omega
        · rw [e] at hne
          exact absurd (nmE_nil nmE_19 (D := D) (j := j - 7) (by omega) (by show (dKn D).length ≤ j - 7; omega)) hne
      exact ⟨7, 5, 4, Or.inl ⟨c1, rfl, rfl, rfl⟩, j - 7, by omega, hl, by rw [a3 (j - 7) (by omega) hl, ← e, j3]⟩
    · have hl : (j : Int) < S 2 := by
        rw [h1]
        by_cases q : j < (dOw D).length
        · omega
        · have := nmE_nil nmE_12 (D := D) (j := j) (by omega) (by show (dOw D).length ≤ j; omega)
          rw [Nat.zero_add] at this
          exact absurd this hne
      exact ⟨0, 4, 2, Or.inr (Or.inl ⟨c1, rfl, rfl, rfl⟩), j, by omega, hl, by rw [Nat.zero_add, a1 j (by omega) hl, j3]⟩
    · have e : j = 4 + (j - 4) := by omega
      have hl : ((j - 4 : Nat) : Int) < S 3 := by
        rw [h2]
        by_cases q : j - 4 < (dSt D).length
        · omega
        · rw [e] at hne
          exact absurd (nmE_nil nmE_16 (D := D) (j := j - 4) (by omega) (by show (dSt D).length ≤ j - 4; omega)) hne
      exact ⟨4, 3, 3, Or.inr (Or.inr ⟨c1, rfl, rfl, rfl⟩), j - 4, by omega, hl, by rw [a2 (j - 4) (by omega) hl, ← e, j3]⟩
theorem DN_det {l j : Int} (h1 : DN T l) (h2 : DN T j) : l = j := by
  have := AN_det (T := T) (x := l) (y := j) (Or.inl h1) (Or.inl h2)
  exact this
theorem peq_of {n m l j p q r cx cy c1 c2 c3 c4 c5 c6 c7 c8 : Int} {row pc : Nat} (hO : hOk hp) (hE : ∀ i : Nat, i < 940 → (i : Int) < t → hI hp 1 i = hI hp 274 i % 256) (g1 : hI hp 173 2 = n) (g2 : hI hp 273 3 = n) (g3 : hI hp 173 3 = m) (g4 : hI hp 273 5 = m) (hn : n ≤ t ∧ n ≤ 940) (hX : DN (XT hp) l) (hN : dF (XT hp) l (fun D => (∀ j : Nat, j < 12 → hL hp row j = cd 32 96 (nm D j)) ∧ hI hp pc 0 = dCx D ∧ hI hp pc 1 = dCy D)) (hCT : CT (MT hp) j c1 c2 c3 c4 c5 c6 c7 c8 cx cy) (k4 : hI hp 276 0 = cx) (k5 : hI hp 276 1 = cy) (hM : DN (MT hp) j) (k1 : hI hp 276 2 = p) (k2 : hI hp 276 3 = q) (k3 : hI hp 276 4 = r) (n1 : dF (MT hp) j (fun D => p = (dOw D).length ∧ ∀ i : Nat, i < 4 → (i : Int) < p → hL hp 278 (12 + i) = cd 256 0 (nm D (0 + i)))) (n2 : dF (MT hp) j (fun D => q = (dSt D).length ∧ ∀ i : Nat, i < 3 → (i : Int) < q → hL hp 278 (16 + i) = cd 256 0 (nm D (4 + i)))) (n3 : dF (MT hp) j (fun D => r = (dKn D).length ∧ ∀ i : Nat, i < 5 → (i : Int) < r → hL hp 278 (19 + i) = cd 256 0 (nm D (7 + i)))) (hS' : ∀ j : Nat, j < 5 → hI hp 275 j = hI hp 276 j) (hC : ∀ j : Nat, j < 12 → (j : Int) < s → hL hp 278 j = hL hp 278 (12 + j)) (hs : s = 12) : (∀ c L, isW L → (nmR hp row c L ↔ nmM hp c L)) ∧ hI hp pc 0 = hI hp 275 0 ∧ hI hp pc 1 = hI hp 275 1 := by
  rw [T_eq hE g1 g2 g3 g4 hn] at hX hN
  have hT := MT_ok hO
  have e := DN_det hX hM
  subst e
  have hS : ∀ j : Nat, 2 ≤ j → j < 5 → hI hp 275 j = hI hp 276 j := fun j _ h => hS' j h
  refine ⟨?_, ?_⟩
  rotate_left
  · obtain ⟨D, d1, ⟨-, e1, e2⟩, d2⟩ := dF_2 hT hN hCT
    unfold ctP at d2
    have z0 := hS' 0 (by decide)
    have z1 := hS' 1 (by decide)
    omega
  have hN := dF_mp hN (fun D h => h.1)
  intro c L hLw
  obtain ⟨D, d1, ⟨d2, d3, d4⟩, d5, d6⟩ := dF_I hT (dF_2 hT hN (dF_2 hT n1 (dF_2 hT n2 n3))) |> fun ⟨D, d1, hI, h1, h2, h3, h4⟩ => (⟨D, hI, ⟨h1, h2.1, h2.2⟩, h3, h4⟩ : ∃ D, dI D ∧ ((∀ j : Nat, j < 12 → hL hp row j = cd 32 96 (nm D j)) ∧ p = (dOw D).length ∧ ∀ i : Nat, i < 4 → (i : Int) < p → hL hp 278 (12 + i) = cd 256 0 (nm D (0 + i))) ∧ (q = (dSt D).length ∧ ∀ i : Nat, i < 3 → (i : Int) < q → hL hp 278 (16 + i) = cd 256 0 (nm D (4 + i))) ∧ (r = (dKn D).length ∧ ∀ i : Nat, i < 5 → (i : Int) < r → hL hp 278 (19 + i) = cd 256 0 (nm D (7 + i))))
  have c2 : ∀ j : Nat, j < 12 → hL hp 278 j = hL hp 278 (12 + j) := fun j hj => hC j hj (by omega)
  have s2 := hS 2 (by decide) (by decide)
  have s3 := hS 3 (by decide) (by decide)
  have s4 := hS 4 (by decide) (by decide)
  rw [k1] at s2
  rw [k2] at s3
  rw [k3] at s4
  refine (nmr_D (X := fun j => hL hp row j) d1 d2 hLw).trans (Iff.symm (nmg_D (S := fun i => hI hp 275 i) (X := fun i => hL hp 278 i) d1 (by show hI hp 275 2 = _; rw [s2]; exact d3) (by show hI hp 275 3 = _; rw [s3]; exact d5.1) (by show hI hp 275 4 = _; rw [s4]; exact d6.1) (fun i hi hl => ?_) (fun i hi hl => ?_) (fun i hi hl => ?_) hLw))
  · have hl : (i : Int) < hI hp 275 2 := hl
    rw [s2] at hl
    have := d4 i hi hl
    rw [Nat.zero_add] at this
    show hL hp 278 i = _
    rw [c2 i (by omega)]
    exact this
  · have hl : (i : Int) < hI hp 275 3 := hl
    rw [s3] at hl
    show hL hp 278 (4 + i) = _
    rw [c2 (4 + i) (by omega), show 12 + (4 + i) = 16 + i by omega]
    exact d5.2 i hi hl
  · have hl : (i : Int) < hI hp 275 4 := hl
    rw [s4] at hl
    show hL hp 278 (7 + i) = _
    rw [c2 (7 + i) (by omega), show 12 + (7 + i) = 19 + i by omega]
    exact d6.2 i hi hl
theorem nmc_s {X Y : Nat → Int} {j0 : Nat} (hw : ∀ j : Nat, j < 12 → (j : Int) < s → X j = Y j) (hx : X j0 = x) (hy : Y j0 = x) (e1 : (j0 : Int) = s) (e2 : t = s + 1) : ∀ j : Nat, j < 12 → (j : Int) < t → X j = Y j := by
  intro i hi hs
  by_cases r : (i : Int) < s
  · exact hw i hi r
  · have e3 : i = j0 := by omega
    rw [e3, hx, hy]
/-- through images -/
theorem nmr_eqn {d s' : Nat} (h : ∀ j : Nat, j < 12 → hv hp d j = hv hp s' j) : nmR hp d = nmR hp s' := nmX_cg (fun j hj => by show lSg (ePl (hv hp d j)) = lSg (ePl (hv hp s' j)); rw [h j hj])
theorem nmm_k {k' : Nat} (hE : fEq 289 (871 * k') 275 0 871 x hp) (hx : x = 871) (hN : ∀ j : Nat, j < 12 → (j : Int) < y → hL hp 290 (12 * k' + j) = hL hp 278 j) (hy : y = 12) : nmM hp = nmK hp k' := by
  refine nmG_cg (fun i h1 h2 => ?_) (fun j hj => (hN j hj (by omega)).symm)
  have := hE i (by omega) (by omega)
  rw [Nat.zero_add] at this
  exact this.symm
theorem alike_l {A B C : Int → List Int → Prop} (h : ∀ c L, isW L → (A c L ↔ B c L)) (e : C = A) : ∀ c L, isW L → (C c L ↔ B c L) := by rw [e]; exact h
theorem alike_r {A B C : Int → List Int → Prop} (h : ∀ c L, isW L → (A c L ↔ B c L)) (e : B = C) : ∀ c L, isW L → (A c L ↔ C c L) := by rw [← e]; exact h
theorem poX1 {r : List Int} {hp : Lean.RArray Nat} {posts : List sTm} {m : Nat} {iv : sIv} {cs : List sLn} {lo : List sVl} {fc : List sFc} {v : Int} (hm : ((m, iv, cs, []), lo, ([], fc)) ∈ posts) (hl : (r ++ [v]).length = m) (hR : ∀ x ∈ r, wMn ≤ x ∧ x ≤ wMx) (hv : wMn ≤ v ∧ v ≤ wMx) (h1 : ∀ q ∈ iv, ∃ x, (r ++ [v])[q.1]? = some x ∧ q.2.1 ≤ x ∧ x ≤ q.2.2) (h2 : ∀ c ∈ cs, ∃ x, sE (r ++ [v]) c = some x ∧ x ≤ 0) (h3 : ∀ q ∈ fc, fcOk fFS (r ++ [v]) hp q) : ∃ post ∈ posts, ∃ u, sNOk tSg (r ++ u) post.1 ∧ hsOk fFS (r ++ u) hp post.2.2 := by
  refine ⟨_, hm, [v], ⟨hl, ⟨fun x hx => ?_, h1⟩, h2, fun _ q => by cases q⟩, fun _ q => (by cases q), h3⟩
  rcases List.mem_append.1 hx with hx | hx
  · exact hR x hx
  · rw [List.mem_singleton.1 hx]; exact hv
theorem poXu {r : List Int} {hp : Lean.RArray Nat} {posts : List sTm} {m : Nat} {iv : sIv} {cs : List sLn} {lo : List sVl} {fc : List sFc} {u : List Int} (hm : ((m, iv, cs, []), lo, ([], fc)) ∈ posts) (hl : (r ++ u).length = m) (hR : ∀ x ∈ r, wMn ≤ x ∧ x ≤ wMx) (hv : ∀ x ∈ u, wMn ≤ x ∧ x ≤ wMx) (h1 : ∀ q ∈ iv, ∃ x, (r ++ u)[q.1]? = some x ∧ q.2.1 ≤ x ∧ x ≤ q.2.2) (h2 : ∀ c ∈ cs, ∃ x, sE (r ++ u) c = some x ∧ x ≤ 0) (h3 : ∀ q ∈ fc, fcOk fFS (r ++ u) hp q) : ∃ post ∈ posts, ∃ u, sNOk tSg (r ++ u) post.1 ∧ hsOk fFS (r ++ u) hp post.2.2 := by
  refine ⟨_, hm, u, ⟨hl, ⟨fun x hx => ?_, h1⟩, h2, fun _ q => by cases q⟩, fun _ q => (by cases q), h3⟩
  rcases List.mem_append.1 hx with hx | hx
  · exact hR x hx
  · exact hv x hx
theorem cdW {L : List Int} (h : isW L) : (0 : Int) ≠ cd 32 96 L := fun e => isW_ne h (cd32 h.2.2 (fun c hc => by cases hc) (by rw [← e]; rfl))
theorem nmX_0 {X : Nat → Int} {L : List Int} (h : ∀ j : Nat, j < 12 → X j = 0) (hL : isW L) : ¬ nmX X c L := by
  rintro ⟨i, h1, h2⟩
  rcases h2 with ⟨e, -⟩ | ⟨j, j1, -, j3, -⟩
  · unfold sRg at h1; omega
  · rw [h j j1] at j3
    exact cdW hL j3
theorem nmG_0 {S X : Nat → Int} {L : List Int} (h : ∀ i : Nat, 2 ≤ i → i < 5 → S i = 0) : ¬ nmG S X c L := by
  rintro ⟨b, n, r, hb, j, j1, j2, j3⟩
  rw [h r (by omega) (by omega)] at j2
  omega
end CkSen1
section CkRol1
variable {T : pT} {look look' : Int → List Int → Prop} {hp : Lean.RArray Nat} {q c o t k a z v x y i p u d s w W H l : Int}
theorem isw_yR (hT : tOk T) (hR : ∃ j : Nat, j < 30 ∧ y = (j : Int) ∧ x = cd 256 0 (wrd j)) (hH : roH T look W H q c l k a z v) (hk : k = 1) (hM : isW (bs T.1 a z) ∧ w = cd 256 0 (bs T.1 a z)) (e1 : w = x) : v = y := by
  obtain ⟨j, h1, h2, h3⟩ := hR
  have h4 := (roH_k1 hT hH hk).2.1
  have e2 := cd256 (l := bs T.1 a z) (l' := wrd j) hM.1.2.2 (wrd_ltr j h1) (by rw [← hM.2, e1, h3])
  rw [h4, e2, wix_wrd j h1, h2]
theorem isw_nR (hT : tOk T) (hR : ∃ j : Nat, j < 30 ∧ y = (j : Int) ∧ x = cd 256 0 (wrd j)) (hH : roH T look W H q c l k a z v) (hk : k = 1) (hM : isW (bs T.1 a z) ∧ w = cd 256 0 (bs T.1 a z)) (e1 : w ≠ x) : v ≠ y := by
  obtain ⟨j, h1, h2, h3⟩ := hR
  have h4 := (roH_k1 hT hH hk).2.1
  intro e2
  obtain ⟨-, e3⟩ := wix_of (L := bs T.1 a z) (j := j) (by omega)
  exact e1 (by rw [hM.2, h3, e3])
theorem inm_eR {R : Nat → Int} (hT : tOk T) (hV : ∀ i : Nat, i < 30 → R i = cd 256 0 (wrd (rsv i))) (hI' : (y = 1 ∧ ∀ i : Nat, i < 30 → (i : Int) < s → R i ≠ w) ∨ (y = 0 ∧ ∃ i : Nat, i < 30 ∧ (i : Int) < s ∧ R i = w)) (hs : s = 30) (hH : roH T look W H q c l k a z v) (hk : k = 1) (hM : isW (bs T.1 a z) ∧ w = cd 256 0 (bs T.1 a z)) : (y = 1 → v = -1) ∧ (y = 0 → 0 ≤ v ∧ v ≤ 29) := by
  obtain ⟨h1, h2, h3, -⟩ := roH_k1 hT hH hk
  constructor
  · intro hy
    rcases hI' with ⟨-, h⟩ | ⟨h, -⟩
    · rw [h2]
      refine wix_no (fun j hj e => ?_)
      obtain ⟨i, i1, i2⟩ := rsv_on j hj
      exact h i i1 (by omega) (by rw [hV i i1, i2, e, ← hM.2])
    · omega
  · intro hy
    rcases hI' with ⟨h, -⟩ | ⟨-, i, i1, i2, i3⟩
    · omega
    · have e2 := cd256 (l := bs T.1 a z) (l' := wrd (rsv i)) hM.1.2.2 (wrd_ltr _ (rsv_lt i i1)) (by rw [← hM.2, ← i3, hV i i1])
      rw [h2, e2, wix_wrd _ (rsv_lt i i1)]
      have := rsv_lt i i1
      omega
theorem slv_xR (hO : hOk hp) (hH : roH (XT hp) look W H q c l k a z v ∧ k ≠ 4) (hS : scW (fun j => hL hp (xnm hp) j) w i) (hM : isW (bs (XB hp) a z) ∧ hL hp 173 8 = cd 32 96 (bs (XB hp) a z)) (hw : hL hp 173 8 = w) : scW (fun j => hL hp (xnm hp) j) (cd 32 96 (bs (XT hp).1 a z)) i := by
  obtain ⟨h0, hz⟩ := roH_in (XT_ok hO) hH.1 hH.2
  rw [xt_bs h0 hz, ← hM.2, hw]
  exact hS
theorem ro_eq {n m f g : Int} {look0 look1 : Int → List Int → Prop} {W0 H0 W1 H1 : Int} (hO : hOk hp) (hE : ∀ i : Nat, i < 940 → (i : Int) < t → hI hp 1 i = hI hp 274 i % 256) (h1 : hI hp 173 2 = n) (h2 : hI hp 273 3 = n) (h3 : hI hp 173 3 = m) (h4 : hI hp 273 5 = m) (hn : n ≤ t ∧ n ≤ 940) (hL : (∀ c L, isW L → (look0 c L ↔ look1 c L)) ∧ W0 = W1 ∧ H0 = H1) (h5 : roA (XT hp) look0 W0 H0 f) (h6 : roA (MT hp) look1 W1 H1 g) : f = g := by
  rw [T_eq hE h1 h2 h3 h4 hn, hL.2.1, hL.2.2] at h5
  exact roA_det (roA_cg (MT_ok hO) hL.1 h5) h6
theorem ank_eq {n m a b f g : Int} (hE : ∀ i : Nat, i < 940 → (i : Int) < t → hI hp 1 i = hI hp 274 i % 256) (h1 : hI hp 173 2 = n) (h2 : hI hp 273 3 = n) (h3 : hI hp 173 3 = m) (h4 : hI hp 273 5 = m) (hn : n ≤ t ∧ n ≤ 940) (h5 : ANk (XT hp) a f) (h6 : ANk (MT hp) b g) : a = b ∧ f = g := by
  rw [T_eq hE h1 h2 h3 h4 hn] at h5
  exact ANk_det h5 h6
theorem np_of {l cx cy c1 c2 c3 c4 c5 c6 c7 c8 : Int} {row pc : Nat} (hO : hOk hp) (hN : dF (XT hp) l (fun D => ∀ j : Nat, j < 12 → hL hp row j = cd 32 96 (nm D j))) (hC : CT (XT hp) l c1 c2 c3 c4 c5 c6 c7 c8 cx cy) (k4 : hI hp pc 0 = cx) (k5 : hI hp pc 1 = cy) : dF (XT hp) l (fun D => (∀ j : Nat, j < 12 → hL hp row j = cd 32 96 (nm D j)) ∧ hI hp pc 0 = dCx D ∧ hI hp pc 1 = dCy D) := by
  refine dF_mp (dF_2 (XT_ok hO) hN hC) (fun D h => ⟨h.1, ?_⟩)
  have h2 := h.2
  unfold ctP at h2
  omega
/-- alike through a copy: names and sizes -/
theorem al_l {A B C : Int → List Int → Prop} {w0 h0 w1 h1 w2 h2 : Int} (h : (∀ c L, isW L → (A c L ↔ B c L)) ∧ w0 = w1 ∧ h0 = h1) (e : C = A) (e1 : w2 = w0) (e2 : h2 = h0) : (∀ c L, isW L → (C c L ↔ B c L)) ∧ w2 = w1 ∧ h2 = h1 := ⟨alike_l h.1 e, e1.trans h.2.1, e2.trans h.2.2⟩
theorem al_r {A B C : Int → List Int → Prop} {w0 h0 w1 h1 w2 h2 : Int} (h : (∀ c L, isW L → (A c L ↔ B c L)) ∧ w0 = w1 ∧ h0 = h1) (e : B = C) (e1 : w1 = w2) (e2 : h1 = h2) : (∀ c L, isW L → (A c L ↔ C c L)) ∧ w0 = w2 ∧ h0 = h2 := ⟨alike_r h.1 e, h.2.1.trans e1, h.2.2.trans e2⟩
end CkRol1
