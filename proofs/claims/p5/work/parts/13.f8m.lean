section CkFact8
variable {T : pT} {hp : Lean.RArray Nat} {q c l e f g h m n k a z v x y w u i p s t d b lo hi : Int} {D : pD} {j j0 j1 : Nat} {P Q : pD → Prop}
theorem mt_at (hx : 0 ≤ p ∧ p < 940 ∧ x = MB hp p) (h1 : p < (MT hp).2.1) : (MT hp).1 p = x := by
  show (if 0 ≤ p ∧ p < hI hp 273 3 then MB hp p else 0) = x
  have h1 : p < hI hp 273 3 := h1
  rw [if_pos ⟨hx.1, h1⟩]
  exact hx.2.2.symm
theorem tpm (hO : hOk hp) (hx : hI hp 274 j = x) (hj : j < 940) (e1 : p = (j : Int)) (ha : (255 : Int) = 255 → w = x % 256) : 0 ≤ p ∧ p < 940 ∧ w = MB hp p := by
  refine ⟨by omega, by omega, ?_⟩
  unfold MB
  rw [if_pos (by omega), e1]
  show w = hI hp 274 j % 256
  rw [hx]
  exact ha rfl
theorem p1_m (hs : SK (MT hp).1 (MT hp).2.1 q p) (hx : 0 ≤ p ∧ p < 940 ∧ x = MB hp p) (hb : ¬ (x = 32 ∨ x = 10)) : P1q (MT hp).1 (MT hp).2.1 q p := ⟨hs, fun w => by rw [mt_at hx w]; exact hb⟩
theorem sk_m (hs : SK (MT hp).1 (MT hp).2.1 q p) (hx : 0 ≤ p ∧ p < 940 ∧ x = MB hp p) (hb : x = 32 ∨ x = 10) (h1 : p < (MT hp).2.1) (e2 : y = p + 1) : SK (MT hp).1 (MT hp).2.1 q y := sk_s hs h1 (by rw [mt_at hx h1]; exact hb) e2
theorem tks_m (hO : hOk hp) (h2 : P2 (MT hp) q p) (hx : 0 ≤ p ∧ p < 940 ∧ x = MB hp p) (hb : x = 40 ∨ x = 41 ∨ (59 ≤ x ∧ x ≤ 62)) (e2 : z = p + 1) : TKB (MT hp) q 3 p z x := tk_sgn (MT_ok hO) h2 (by rw [mt_at hx h2.2.1]; exact hb) (mt_at hx h2.2.1).symm e2
theorem tkn_m (hO : hOk hp) (h2 : P2 (MT hp) q p) (hx : 0 ≤ p ∧ p < 940 ∧ x = MB hp p) (hb : ¬ (x = 40 ∨ x = 41 ∨ (59 ≤ x ∧ x ≤ 62)) ∧ ¬ ((97 ≤ x ∧ x ≤ 122) ∨ (48 ≤ x ∧ x ≤ 57))) (e2 : z = p + 1) : TKB (MT hp) q 4 p z (-1) := by
  have := h2.2.1
  have h3 := (MT_ok hO).2.1
  exact tk_no (MT_ok hO) h2 (by rw [mt_at hx h2.2.1]; exact hb.1) (by rw [mt_at hx h2.2.1]; exact hb.2) ⟨by omega, by omega⟩
theorem rm0_m {o : Int} (h2 : P2 (MT hp) q p) (hx : 0 ≤ p ∧ p < 940 ∧ x = MB hp p) (hb : (o = 1 ∧ 97 ≤ x ∧ x ≤ 122) ∨ (o = 0 ∧ 48 ≤ x ∧ x ≤ 57)) : RNm (MT hp) p p 0 o 1 0 0 := by
  refine rm_0 (P2_0 h2) h2.2.1 ?_
  rw [mt_at hx h2.2.1]
  rcases hb with ⟨o1, h1⟩ | ⟨o1, h1⟩
  · exact Or.inr ⟨o1, h1⟩
  · exact Or.inl ⟨o1, h1⟩
theorem rms_m {o y' x' w' t' p' r : Int} (hr : RNm (MT hp) a p t o y x w) (hx : 0 ≤ p ∧ p < 940 ∧ r = MB hp p) (h1 : p < (MT hp).2.1) (e1 : t' = t + 1) (e2 : p' = p + 1) (hl : ((97 ≤ r ∧ r ≤ 122) ∨ (48 ≤ r ∧ r ≤ 57)) ∧ ((y = 0 ∧ y' = 0) ∨ (y = 1 ∧ y' = 1 ∧ ((o = 1 ∧ 97 ≤ r ∧ r ≤ 122) ∨ (o = 0 ∧ 48 ≤ r ∧ r ≤ 57))) ∨ (y = 1 ∧ y' = 0 ∧ ((o = 1 ∧ 48 ≤ r ∧ r ≤ 57) ∨ (o = 0 ∧ 97 ≤ r ∧ r ≤ 122))))) (hw : t' ≤ 7 → w' = 256 * w + r) (hn : t' ≤ 2 → x' = 10 * x + (r - 48)) : RNm (MT hp) a p' t' o y' x' w' := by
  have e := mt_at hx h1
  refine rm_s hr h1 (by rw [e]; exact hl.1) e1 e2 ?_ (by rw [e]; exact hw) (by rw [e]; exact hn)
  rw [e]
  exact hl.2
theorem rme_m {o : Int} {r : Int} (hr : RNm (MT hp) a p t o y x w) (hx : 0 ≤ p ∧ p < 940 ∧ r = MB hp p) (hb : ¬ ((97 ≤ r ∧ r ≤ 122) ∨ (48 ≤ r ∧ r ≤ 57))) : REm (MT hp) a p t o y x w := ⟨hr, fun h1 => by rw [mt_at hx h1]; exact hb⟩
/-- words and names -/
theorem rw_k (hj : j < 30) (e1 : y = (j : Int)) (e2 : x = cd 256 0 (wrd j)) : ∃ j : Nat, j < 30 ∧ y = (j : Int) ∧ x = cd 256 0 (wrd j) := ⟨j, hj, e1, e2⟩
theorem isw_y (hT : tOk T) (hR : ∃ j : Nat, j < 30 ∧ y = (j : Int) ∧ x = cd 256 0 (wrd j)) (hH : Hq T q c l e f g h m n k a z v) (hk : k = 1) (hM : isW (bs T.1 a z) ∧ w = cd 256 0 (bs T.1 a z)) (e1 : w = x) : v = y := by
  obtain ⟨j, h1, h2, h3⟩ := hR
  have h4 := (h_k1 hT hH hk).2.1
  have e2 := cd256 (l := bs T.1 a z) (l' := wrd j) hM.1.2.2 (wrd_ltr j h1) (by rw [← hM.2, e1, h3])
  rw [h4, e2, wix_wrd j h1, h2]
theorem isw_n (hT : tOk T) (hR : ∃ j : Nat, j < 30 ∧ y = (j : Int) ∧ x = cd 256 0 (wrd j)) (hH : Hq T q c l e f g h m n k a z v) (hk : k = 1) (hM : isW (bs T.1 a z) ∧ w = cd 256 0 (bs T.1 a z)) (e1 : w ≠ x) : v ≠ y := by
  obtain ⟨j, h1, h2, h3⟩ := hR
  have h4 := (h_k1 hT hH hk).2.1
  intro e2
  obtain ⟨-, e3⟩ := wix_of (L := bs T.1 a z) (j := j) (by omega)
  exact e1 (by rw [hM.2, h3, e3])
theorem inm_s {y' : Int} {R : Nat → Int} (hI' : (y = 1 ∧ ∀ i : Nat, i < 30 → (i : Int) < s → R i ≠ w) ∨ (y = 0 ∧ ∃ i : Nat, i < 30 ∧ (i : Int) < s ∧ R i = w)) (hx : R j = x) (hj : j < 30) (e1 : (j : Int) = s) (e2 : t = s + 1) (hy : (y = 1 ∧ y' = 1 ∧ x ≠ w) ∨ (y = 1 ∧ y' = 0 ∧ x = w)) : (y' = 1 ∧ ∀ i : Nat, i < 30 → (i : Int) < t → R i ≠ w) ∨ (y' = 0 ∧ ∃ i : Nat, i < 30 ∧ (i : Int) < t ∧ R i = w) := by
  rcases hy with ⟨y1, y2, y3⟩ | ⟨y1, y2, y3⟩
  · refine Or.inl ⟨y2, fun i hi hs => ?_⟩
    by_cases r : (i : Int) < s
    · rcases hI' with ⟨-, h⟩ | ⟨h, -⟩
      · exact h i hi r
      · omega
    · have : i = j := by omega
      rw [this, hx]
      exact y3
  · exact Or.inr ⟨y2, j, hj, by omega, by rw [hx, y3]⟩
theorem inm_0 {R : Nat → Int} (hI' : (y = 1 ∧ ∀ i : Nat, i < 30 → (i : Int) < s → R i ≠ w) ∨ (y = 0 ∧ ∃ i : Nat, i < 30 ∧ (i : Int) < s ∧ R i = w)) (hy : y = 0) (e2 : t = s + 1) (e3 : u = 0) : (u = 1 ∧ ∀ i : Nat, i < 30 → (i : Int) < t → R i ≠ w) ∨ (u = 0 ∧ ∃ i : Nat, i < 30 ∧ (i : Int) < t ∧ R i = w) := by
  rcases hI' with ⟨h, -⟩ | ⟨-, i, h1, h2, h3⟩
  · omega
  · exact Or.inr ⟨e3, i, h1, by omega, h3⟩
theorem rsv_lt : ∀ j, j < 30 → rsv j < 30 := by decide
theorem rsv_on : ∀ j, j < 30 → ∃ i, i < 30 ∧ rsv i = j := by decide
theorem inm_e {R : Nat → Int} (hT : tOk T) (hV : ∀ i : Nat, i < 30 → R i = cd 256 0 (wrd (rsv i))) (hI' : (y = 1 ∧ ∀ i : Nat, i < 30 → (i : Int) < s → R i ≠ w) ∨ (y = 0 ∧ ∃ i : Nat, i < 30 ∧ (i : Int) < s ∧ R i = w)) (hs : s = 30) (hH : Hq T q c l e f g h m n k a z v) (hk : k = 1) (hM : isW (bs T.1 a z) ∧ w = cd 256 0 (bs T.1 a z)) : (y = 1 → v = -1) ∧ (y = 0 → 0 ≤ v ∧ v ≤ 29) := by
  obtain ⟨h1, h2, h3, -⟩ := h_k1 hT hH hk
  constructor
  · intro hy
    rcases hI' with ⟨-, h⟩ | ⟨h, -⟩
    · rw [h2]
      refine wix_no (fun j hj e => ?_)
      obtain ⟨i, i1, i2⟩ := rsv_on j hj
      exact h i i1 (by omega) (by rw [hV i i1, i2, e, ← hM.2])
    · omega
  · intro hy
    rcases hI' with ⟨h, -⟩ | ⟨-, i, i1, i2, i3⟩
    · omega
    · have e2 := cd256 (l := bs T.1 a z) (l' := wrd (rsv i)) hM.1.2.2 (wrd_ltr _ (rsv_lt i i1)) (by rw [← hM.2, ← i3, hV i i1])
      rw [h2, e2, wix_wrd _ (rsv_lt i i1)]
      have := rsv_lt i i1
      omega
theorem fw_s {R : Nat → Int} {N : Nat} (hw : ∀ i : Nat, i < N → (i : Int) < s → R i ≠ w) (hx : R j = x) (e1 : (j : Int) = s) (hn : x ≠ w) (e2 : t = s + 1) : ∀ i : Nat, i < N → (i : Int) < t → R i ≠ w := by
  intro i hi hs
  by_cases r : (i : Int) < s
  · exact hw i hi r
  · have e3 : i = j := by omega
    rw [e3, hx]
    exact hn
/-- names of one sort: how many, and their codes -/
def naP (d : pD → Nat) (N k0 off : Nat) (hp : Lean.RArray Nat) (t : Int) (D : pD) : Prop := t = (d D : Int) ∧ ∀ i : Nat, i < N → (i : Int) < t → hL hp (278) (k0 + i) = cd 256 0 (nm D (off + i))
def nmE (x : Int) (d : pD → Nat) (N off : Nat) : Prop := (x = 12 ∧ off = 0 ∧ N = 4 ∧ d = fun D => (dOw D).length) ∨ (x = 16 ∧ off = 4 ∧ N = 3 ∧ d = fun D => (dSt D).length) ∨ (x = 19 ∧ off = 7 ∧ N = 5 ∧ d = fun D => (dKn D).length)
theorem nmE_12 : nmE 12 (fun D => (dOw D).length) 4 0 := Or.inl ⟨rfl, rfl, rfl, rfl⟩
theorem nmE_16 : nmE 16 (fun D => (dSt D).length) 3 4 := Or.inr (Or.inl ⟨rfl, rfl, rfl, rfl⟩)
theorem nmE_19 : nmE 19 (fun D => (dKn D).length) 5 7 := Or.inr (Or.inr ⟨rfl, rfl, rfl, rfl⟩)
theorem nmE_le {d : pD → Nat} {N off : Nat} (hE : nmE x d N off) (hD : dI D) : d D ≤ N ∧ off + N ≤ 12 := by
  rcases hE with ⟨-, rfl, rfl, rfl⟩ | ⟨-, rfl, rfl, rfl⟩ | ⟨-, rfl, rfl, rfl⟩
  · exact ⟨hD.1.1, by decide⟩
  · exact ⟨hD.1.2.1, by decide⟩
  · exact ⟨hD.1.2.2.1, by decide⟩
theorem nmE_nil {d : pD → Nat} {N off : Nat} (hE : nmE x d N off) (hi : j < N) (h2 : d D ≤ j) : nm D (off + j) = [] := by
  rcases hE with ⟨-, rfl, rfl, rfl⟩ | ⟨-, rfl, rfl, rfl⟩ | ⟨-, rfl, rfl, rfl⟩
  · unfold nm
    have h2 : (dOw D).length ≤ j := h2
    rw [if_pos (by omega), List.getD_eq_getElem?_getD, List.getElem?_eq_none (by omega)]
    rfl
  · unfold nm
    have h2 : (dSt D).length ≤ j := h2
    rw [if_neg (by omega), if_pos (by omega), List.getD_eq_getElem?_getD, List.getElem?_eq_none (by omega)]
    rfl
  · unfold nm
    have h2 : (dKn D).length ≤ j := h2
    rw [if_neg (by omega), if_neg (by omega), List.getD_eq_getElem?_getD, List.getElem?_eq_none (by omega)]
    rfl
theorem nmE_x {d : pD → Nat} {N off : Nat} (hE : nmE x d N off) : (x = 12 ∧ off = 0 ∧ N = 4) ∨ (x = 16 ∧ off = 4 ∧ N = 3) ∨ (x = 19 ∧ off = 7 ∧ N = 5) := by
  rcases hE with ⟨h1, h2, h3, -⟩ | ⟨h1, h2, h3, -⟩ | ⟨h1, h2, h3, -⟩
  · exact Or.inl ⟨h1, h2, h3⟩
  · exact Or.inr (Or.inl ⟨h1, h2, h3⟩)
  · exact Or.inr (Or.inr ⟨h1, h2, h3⟩)
theorem fd_f {d : pD → Nat} {N off k0 : Nat} (hE : nmE x d N off) (hT : tOk T) (hN : dF T l (naP d N k0 off hp t)) (hM : isW (bs T.1 a z) ∧ w = cd 256 0 (bs T.1 a z)) (hx : hL hp 278 j = y) (e0 : j = k0 + j0) (h0 : j0 < N) (e1 : y = w) (h1 : (j0 : Int) < t) (e2 : i = (j0 : Int)) : FD T x l a z i := by
  refine dF_mp (dF_I hT hN) (fun D hD => ⟨off, N, nmE_x hE, Or.inr ⟨j0, h0, e2, ?_⟩⟩)
  have h3 := hD.2.2 j0 h0 h1
  rw [← e0, hx, e1, hM.2] at h3
  exact (cd256 hM.1.2.2 (nm_ltr hD.1 (by have := (nmE_le hE hD.1).2; omega)) h3).symm
theorem fd_n {d : pD → Nat} {N off k0 : Nat} (hE : nmE x d N off) (hT : tOk T) (hN : dF T l (naP d N k0 off hp t)) (hM : isW (bs T.1 a z) ∧ w = cd 256 0 (bs T.1 a z)) (hw : ∀ i : Nat, i < N → (i : Int) < s → hL hp 278 (k0 + i) ≠ w) (h1 : t ≤ s) (e2 : i = -1) : FD T x l a z i := by
  refine dF_mp (dF_I hT hN) (fun D hD => ⟨off, N, nmE_x hE, Or.inl ⟨e2, fun j hj e3 => ?_⟩⟩)
  by_cases r : (j : Int) < t
  · exact hw j hj (by omega) (by rw [hD.2.2 j hj r, e3, hM.2])
  · have := hD.2.1
    rw [nmE_nil hE hj (by omega)] at e3
    exact isW_ne hM.1 e3.symm
theorem fd_12 (h : FD T 12 l a z i) : dF T l (fun D => (i = -1 ∧ ∀ j, j < 4 → nm D (0 + j) ≠ bs T.1 a z) ∨ ∃ j : Nat, j < 4 ∧ i = (j : Int) ∧ nm D (0 + j) = bs T.1 a z) := by
  refine dF_mp h (fun D hD => ?_)
  obtain ⟨b, n, h1, h2⟩ := hD
  obtain ⟨rfl, rfl⟩ : b = 0 ∧ n = 4 := by clear h2; omega
  exact h2
theorem fd_16 (h : FD T 16 l a z i) : dF T l (fun D => (i = -1 ∧ ∀ j, j < 3 → nm D (4 + j) ≠ bs T.1 a z) ∨ ∃ j : Nat, j < 3 ∧ i = (j : Int) ∧ nm D (4 + j) = bs T.1 a z) := by
  refine dF_mp h (fun D hD => ?_)
  obtain ⟨b, n, h1, h2⟩ := hD
  obtain ⟨rfl, rfl⟩ : b = 4 ∧ n = 3 := by clear h2; omega
  exact h2
theorem fd_19 (h : FD T 19 l a z i) : dF T l (fun D => (i = -1 ∧ ∀ j, j < 5 → nm D (7 + j) ≠ bs T.1 a z) ∨ ∃ j : Nat, j < 5 ∧ i = (j : Int) ∧ nm D (7 + j) = bs T.1 a z) := by
  refine dF_mp h (fun D hD => ?_)
  obtain ⟨b, n, h1, h2⟩ := hD
  obtain ⟨rfl, rfl⟩ : b = 7 ∧ n = 5 := by clear h2; omega
  exact h2
/-- which of all names it is, by one sort's -/
theorem fd_sl {N off : Nat} (hT : tOk T) (hW : isW (bs T.1 a z)) (hN : off + N ≤ 12) (hF : dF T l (fun D => (i = -1 ∧ ∀ j, j < N → nm D (off + j) ≠ bs T.1 a z) ∨ ∃ j : Nat, j < N ∧ i = (j : Int) ∧ nm D (off + j) = bs T.1 a z)) : ∃ r, SL T l a z r ∧ ((i = -1 ∧ (r < off ∨ off + N ≤ r)) ∨ (0 ≤ i ∧ i < N ∧ r = off + i)) := by
  obtain ⟨D, h1, h2⟩ := dF_I hT hF
  refine ⟨slF D (bs T.1 a z) 12, ⟨D, h1, rfl⟩, ?_⟩
  rcases h2 with ⟨hD, ⟨i1, h3⟩ | ⟨j, h3, h4, h5⟩⟩
  · refine Or.inl ⟨i1, ?_⟩
    rcases slF_r (D := D) (L := bs T.1 a z) (k := 12) with ⟨r1, -⟩ | ⟨j, r1, r2, r3⟩
    · omega
    · by_cases w : j < off ∨ off + N ≤ j
      · omega
      · have := h3 (j - off) (by omega)
        rw [show off + (j - off) = j by omega] at this
        exact absurd r3 this
  · refine Or.inr ⟨by omega, by omega, ?_⟩
    rw [slF_is hD.2.2.1 (r := off + j) (by omega) h5 (isW_ne hW)]
    omega
theorem sl_all (hT : tOk T) (h1 : FD T 12 l a z x) (h2 : FD T 16 l a z y) (h3 : FD T 19 l a z w) (e1 : x = -1) (e2 : y = -1) (e3 : w = -1) (e4 : u = -1) : SL T l a z u := by
  refine dF_mp (dF_2 hT (dF_2 hT (fd_12 h1) (fd_16 h2)) (fd_19 h3)) (fun D hD => ?_)
  obtain ⟨⟨a1, a2⟩, a3⟩ := hD
  have b1 : ∀ j, j < 4 → nm D (0 + j) ≠ bs T.1 a z := by
    rcases a1 with ⟨-, r⟩ | ⟨j, r1, r2, r3⟩
    · exact r
    · omega
  have b2 : ∀ j, j < 3 → nm D (4 + j) ≠ bs T.1 a z := by
    rcases a2 with ⟨-, r⟩ | ⟨j, r1, r2, r3⟩
    · exact r
    · omega
  have b3 : ∀ j, j < 5 → nm D (7 + j) ≠ bs T.1 a z := by
    rcases a3 with ⟨-, r⟩ | ⟨j, r1, r2, r3⟩
    · exact r
    · omega
  rw [slF_no (fun j hj => ?_)]
  · exact e4
  · by_cases q1 : j < 4
    · have := b1 j q1
      rw [Nat.zero_add] at this
      exact this
    · by_cases q2 : j < 7
      · have := b2 (j - 4) (by omega)
        rw [show 4 + (j - 4) = j by omega] at this
        exact this
      · have := b3 (j - 7) (by omega)
        rw [show 7 + (j - 7) = j by omega] at this
        exact this
theorem naP_own {L : List Int} (hN : naP (fun D => (dOw D).length) 4 12 0 hp t D) (hx : hL hp 278 j = cd 256 0 L) (e1 : (j : Int) = 12 + t) (h4 : t < 4) (e2 : s = t + 1) : naP (fun D => (dOw D).length) 4 12 0 hp s (aOw D L) := by
  obtain ⟨h1, h2⟩ := hN
  have h1 : t = (dOw D).length := h1
  refine ⟨?_, fun i hi hs => ?_⟩
  · show s = ((dOw D ++ [L]).length : Nat)
    rw [List.length_append]
    show s = (((dOw D).length + 1 : Nat) : Int)
    omega
  · rw [nm_aOw (by omega)]
    by_cases r : (i : Int) < t
    · rw [if_neg (by omega)]
      exact h2 i hi r
    · rw [if_pos (by omega), ← hx]
      congr 1
      omega
theorem naP_str {L : List Int} (hN : naP (fun D => (dSt D).length) 3 16 4 hp t D) (hx : hL hp 278 j = cd 256 0 L) (e1 : (j : Int) = 16 + t) (h4 : t < 3) (e2 : s = t + 1) : naP (fun D => (dSt D).length) 3 16 4 hp s (aSp D L x y w u) := by
  obtain ⟨h1, h2⟩ := hN
  have h1 : t = (dSt D).length := h1
  refine ⟨?_, fun i hi hs => ?_⟩
  · show s = ((dSt D ++ [L]).length : Nat)
    rw [List.length_append]
    show s = (((dSt D).length + 1 : Nat) : Int)
    omega
  · rw [nm_aSp (by omega)]
    by_cases r : (i : Int) < t
    · rw [if_neg (by omega)]
      exact h2 i hi r
    · rw [if_pos (by omega), ← hx]
      congr 1
      omega
theorem naP_knd {L : List Int} (hN : naP (fun D => (dKn D).length) 5 19 7 hp t D) (hx : hL hp 278 j = cd 256 0 L) (e1 : (j : Int) = 19 + t) (e2 : s = t + 1) : naP (fun D => (dKn D).length) 5 19 7 hp s (aKn D L) := by
  obtain ⟨h1, h2⟩ := hN
  have h1 : t = (dKn D).length := h1
  refine ⟨?_, fun i hi hs => ?_⟩
  · show s = ((dKn D ++ [L]).length : Nat)
    rw [List.length_append]
    show s = (((dKn D).length + 1 : Nat) : Int)
    omega
  · rw [nm_aKn]
    by_cases r : (i : Int) < t
    · rw [if_neg (by omega)]
      exact h2 i hi r
    · rw [if_pos (by omega), ← hx]
      congr 1
      omega
/-- other names stay -/
theorem naP_cg {dd : pD → Nat} {N k0 off : Nat} {D' : pD} (hN : naP dd N k0 off hp t D) (e1 : dd D' = dd D) (e2 : ∀ i, i < N → nm D' (off + i) = nm D (off + i)) : naP dd N k0 off hp t D' := ⟨by rw [e1]; exact hN.1, fun i hi hs => by rw [e2 i hi]; exact hN.2 i hi hs⟩
end CkFact8
