section Spec7
/-- a tape as it can be -/
def tOk (T : pT) : Prop := 0 ≤ T.2.1 ∧ T.2.1 ≤ 940 ∧ 0 ≤ T.2.2 ∧ T.2.2 ≤ 940
variable {T : pT} {q c l e f g h m n k a z v x y w u i p lo hi : Int} {D D' : pD} {s : pSt} {b : Int → Int} {nn : Int}
def SK (b : Int → Int) (nn q p : Int) : Prop := 0 ≤ q ∧ q ≤ p ∧ ∀ i, q ≤ i → i < p → i < nn ∧ blk (b i)
def P1q (b : Int → Int) (nn q p : Int) : Prop := SK b nn q p ∧ (p < nn → ¬ blk (b p))
def P2 (T : pT) (q p : Int) : Prop := P1q T.1 T.2.1 q p ∧ p < T.2.1 ∧ (T.2.1 ≤ T.2.2 ∨ p < T.2.2)
theorem sk_0 (hq : 0 ≤ q) : SK b nn q q := ⟨hq, Int.le_refl q, fun i h1 h2 => by omega⟩
theorem sk_s (hs : SK b nn q p) (hp : p < nn) (hb : blk (b p)) (e : x = p + 1) : SK b nn q x := by
  obtain ⟨h1, h2, h3⟩ := hs
  refine ⟨h1, by omega, fun i i1 i2 => ?_⟩
  by_cases r : i = p
  · rw [r]; exact ⟨hp, hb⟩
  · exact h3 i i1 (by omega)
theorem P1_of (hp : P1q T.1 T.2.1 q p) : P1 T q p := ⟨hp.1.2.1, hp.1.2.2, hp.2⟩
def TKB (T : pT) (q k a z v : Int) : Prop := TK T q k a z v ∧ 0 ≤ z ∧ z ≤ 940 ∧ -1 ≤ v ∧ v ≤ 99
theorem tk_lim (hp : P1q T.1 T.2.1 q p) (h1 : T.2.2 ≤ p) (h2 : T.2.2 < T.2.1) (h3 : p ≤ 940) (e1 : a = T.2.2) : TKB T q 4 a p (-1) := by
  have := hp.1.1
  have := hp.1.2.1
  exact ⟨⟨p, P1_of hp, Or.inl ⟨h1, h2, rfl, e1⟩⟩, by omega, h3, by omega, by omega⟩
theorem tk_end (hp : P1q T.1 T.2.1 q p) (h1 : T.2.1 ≤ p) (h2 : T.2.1 ≤ T.2.2) (h3 : p ≤ 940) : TKB T q 0 p p (-1) := by
  have := hp.1.1
  have := hp.1.2.1
  exact ⟨⟨p, P1_of hp, Or.inr (Or.inl ⟨h1, h2, rfl, rfl, rfl, rfl⟩)⟩, by omega, h3, by omega, by omega⟩
theorem tk_c (hp : P2 T q p) (ht : TKc T p k z v) (hz : 0 ≤ z ∧ z ≤ 940) (hv : -1 ≤ v ∧ v ≤ 99) : TKB T q k p z v := ⟨⟨p, P1_of hp.1, Or.inr (Or.inr ⟨hp.2.1, hp.2.2, rfl, ht⟩)⟩, hz.1, hz.2, hv.1, hv.2⟩
theorem P2_0 (hp : P2 T q p) : 0 ≤ p := by
  have := hp.1.1.1
  have := hp.1.1.2.1
  omega
theorem tk_sgn (hT : tOk T) (hp : P2 T q p) (hs : sgn (T.1 p)) (e1 : x = T.1 p) (e2 : z = p + 1) : TKB T q 3 p z x := by
  have h0 := P2_0 hp
  have h1 := hp.2.1
  have h2 := hT.2.1
  subst e1
  subst e2
  refine tk_c hp (Or.inl ⟨hs, rfl, rfl, rfl⟩) ⟨by omega, by omega⟩ ?_
  unfold sgn at hs
  omega
theorem tk_no (hT : tOk T) (hp : P2 T q p) (hs : ¬ sgn (T.1 p)) (ha : ¬ aln (T.1 p)) (hz : 0 ≤ z ∧ z ≤ 940) : TKB T q 4 p z (-1) := by
  refine tk_c hp (Or.inr ⟨hs, 0, ⟨fun i hi => by omega, fun _ => ?_⟩, Or.inr (Or.inr ⟨?_, ?_, rfl⟩)⟩) hz ⟨by omega, by omega⟩
  · rw [show p + ((0 : Nat) : Int) = p by omega]; exact ha
  · intro h; exact absurd h.1 (by show ¬ 1 ≤ 0; omega)
  · intro h; exact absurd h.1 (by show ¬ 1 ≤ 0; omega)
theorem aln_sgn {c : Int} (h : aln c) : ¬ sgn c := by unfold aln ltr dgt at h; unfold sgn; omega
/-- a row of letters and digits, as the class reads it -/
def RNb (b : Int → Int) (nn a p l d x w : Int) : Prop := ∃ j : Nat, 0 ≤ a ∧ p = a + j ∧ (∀ i : Nat, i < j → a + i < nn ∧ aln (b (a + i))) ∧ (0 ≤ l ∧ 0 ≤ d ∧ l + d = j) ∧ ((d = 0 → ∀ c ∈ bsF b a j, ltr c) ∧ (l = 0 → ∀ c ∈ bsF b a j, dgt c) ∧ (0 < d → ∃ c ∈ bsF b a j, dgt c) ∧ (0 < l → ∃ c ∈ bsF b a j, ltr c)) ∧ (d = 0 → l ≤ 7 → w = cd 32 96 (bsF b a j)) ∧ (l = 0 → d ≤ 2 → x = cd 10 48 (bsF b a j))
def REb (b : Int → Int) (nn a p l d x w : Int) : Prop := RNb b nn a p l d x w ∧ (p < nn → ¬ aln (b p))
theorem rn_0 (ha : 0 ≤ a) : RNb b nn a a 0 0 0 0 := ⟨0, ha, by omega, fun i hi => by omega, ⟨by omega, by omega, by omega⟩, ⟨(fun _ c hc => by cases hc), (fun _ c hc => by cases hc), fun h => by omega, fun h => by omega⟩, fun _ _ => rfl, fun _ _ => rfl⟩
theorem bsF_s (b : Int → Int) (e : Int) (k : Nat) : bsF b e (k + 1) = bsF b e k ++ [b (e + k)] := rfl
theorem mem_s {b : Int → Int} {e : Int} {k : Nat} {P : Int → Prop} (h : ∀ c ∈ bsF b e k, P c) (h2 : P (b (e + k))) : ∀ c ∈ bsF b e (k + 1), P c := by
  intro c hc
  rcases List.mem_append.1 hc with hc | hc
  · exact h c hc
  · rw [List.mem_singleton.1 hc]; exact h2
theorem mem_l {b : Int → Int} {e : Int} {k : Nat} {P : Int → Prop} (h : ∃ c ∈ bsF b e k, P c) : ∃ c ∈ bsF b e (k + 1), P c := by
  obtain ⟨c, h1, h2⟩ := h
  exact ⟨c, List.mem_append_left _ h1, h2⟩
theorem mem_r {b : Int → Int} {e : Int} {k : Nat} {P : Int → Prop} (h2 : P (b (e + k))) : ∃ c ∈ bsF b e (k + 1), P c := ⟨_, List.mem_append_right _ (List.mem_singleton.2 rfl), h2⟩
theorem lts {j : Nat} {b : Int → Int} {a p : Int} {P : Int → Prop} (h : ∀ i : Nat, i < j → P (a + i)) (h2 : P p) (e : p = a + j) : ∀ i : Nat, i < j + 1 → P (a + i) := by
  intro i hi
  by_cases r : i = j
  · rw [r, ← e]; exact h2
  · exact h i (by omega)
/-- a letter more -/
theorem rn_l {d x' w' l' p' : Int} (hr : RNb b nn a p l d x w) (hp : p < nn) (hc : ltr (b p)) (e1 : l' = l + 1) (e2 : p' = p + 1) (hw : d = 0 → l' ≤ 7 → w' = 32 * w + (b p - 96)) : RNb b nn a p' l' d x' w' := by
  obtain ⟨j, h0, h1, h2, ⟨h3, h4, h5⟩, ⟨h6, h7, h8, h9⟩, h10, h11⟩ := hr
  subst h1
  refine ⟨j + 1, h0, by omega, lts (b := b) (P := fun t => t < nn ∧ aln (b t)) h2 ⟨hp, Or.inl hc⟩ rfl, ⟨by omega, h4, by omega⟩, ⟨fun hd => mem_s (h6 hd) hc, fun hl => by omega, fun hd => mem_l (h8 hd), fun _ => mem_r hc⟩, ?_, fun hl => by omega⟩
  intro hd hl
  rw [bsF_s, cd_app, ← h10 hd (by omega)]
  exact hw hd hl
/-- a digit more -/
theorem rn_d {d x' w' d' p' : Int} (hr : RNb b nn a p l d x w) (hp : p < nn) (hc : dgt (b p)) (e1 : d' = d + 1) (e2 : p' = p + 1) (hw : l = 0 → d' ≤ 2 → x' = 10 * x + (b p - 48)) : RNb b nn a p' l d' x' w' := by
  obtain ⟨j, h0, h1, h2, ⟨h3, h4, h5⟩, ⟨h6, h7, h8, h9⟩, h10, h11⟩ := hr
  subst h1
  refine ⟨j + 1, h0, by omega, lts (b := b) (P := fun t => t < nn ∧ aln (b t)) h2 ⟨hp, Or.inr hc⟩ rfl, ⟨h3, by omega, by omega⟩, ⟨fun hd => by omega, fun hl => mem_s (h7 hl) hc, fun _ => mem_r hc, fun hl => mem_l (h9 hl)⟩, fun hd => by omega, ?_⟩
  intro hl hd
  rw [bsF_s, cd_app, ← h11 hl (by omega)]
  exact hw hl hd
theorem rn_b {d : Int} (hr : RNb b nn a p l d x w) (hp : p ≤ 940) : (0 ≤ l ∧ l ≤ 940) ∧ (0 ≤ d ∧ d ≤ 940) ∧ a ≤ p := by
  obtain ⟨j, h0, h1, h2, ⟨h3, h4, h5⟩, -⟩ := hr
  omega
theorem rn_w {d : Int} (hr : RNb b nn a p l d x w) (hd : d = 0) (hl : l ≤ 6) : 0 ≤ w ∧ w ≤ 1073741823 := by
  obtain ⟨j, h0, h1, h2, ⟨h3, h4, h5⟩, ⟨h6, -, -, -⟩, h10, -⟩ := hr
  have h7 := h10 hd (by omega)
  have hg : ∀ c ∈ bsF b a j, 0 ≤ c - 96 ∧ c - 96 < 32 := fun c hc => by have := h6 hd c hc; unfold ltr at this; omega
  have u1 := cd_pos (m := 32) (o := 96) (by decide) rfl (fun c hc => (hg c hc).1)
  have u2 := cd_lt (m := 32) (o := 96) (by decide) rfl hg
  rw [bsF_len] at u2
  have u3 : (32 : Int) ^ j ≤ 1073741824 := by
    rcases (show j = 0 ∨ j = 1 ∨ j = 2 ∨ j = 3 ∨ j = 4 ∨ j = 5 ∨ j = 6 by omega) with r | r | r | r | r | r | r <;> subst r <;> decide
  omega
theorem rn_n {d : Int} (hr : RNb b nn a p l d x w) (hl : l = 0) (hd : d ≤ 1) : 0 ≤ x ∧ x ≤ 9 := by
  obtain ⟨j, h0, h1, h2, ⟨h3, h4, h5⟩, ⟨-, h6, -, -⟩, -, h10⟩ := hr
  have h7 := h10 hl (by omega)
  have hg : ∀ c ∈ bsF b a j, 0 ≤ c - 48 ∧ c - 48 < 10 := fun c hc => by have := h6 hl c hc; unfold dgt at this; omega
  have u1 := cd_pos (m := 10) (o := 48) (by decide) rfl (fun c hc => (hg c hc).1)
  have u2 := cd_lt (m := 10) (o := 48) (by decide) rfl hg
  rw [bsF_len] at u2
  have u3 : (10 : Int) ^ j ≤ 10 := by
    rcases (show j = 0 ∨ j = 1 by omega) with r | r <;> subst r <;> decide
  omega
theorem rn_n2 {d : Int} (hr : RNb b nn a p l d x w) (hl : l = 0) (hd : d ≤ 2) : 0 ≤ x ∧ x ≤ 99 := by
  obtain ⟨j, h0, h1, h2, ⟨h3, h4, h5⟩, ⟨-, h6, -, -⟩, -, h10⟩ := hr
  have h7 := h10 hl (by omega)
  have hg : ∀ c ∈ bsF b a j, 0 ≤ c - 48 ∧ c - 48 < 10 := fun c hc => by have := h6 hl c hc; unfold dgt at this; omega
  have u1 := cd_pos (m := 10) (o := 48) (by decide) rfl (fun c hc => (hg c hc).1)
  have u2 := cd_lt (m := 10) (o := 48) (by decide) rfl hg
  rw [bsF_len] at u2
  have u3 : (10 : Int) ^ j ≤ 100 := by
    rcases (show j = 0 ∨ j = 1 ∨ j = 2 by omega) with r | r | r <;> subst r <;> decide
  omega
def TW (T : pT) (q a z : Int) : Prop := P2 T q a ∧ ∃ j : Nat, z = a + j ∧ z ≤ T.2.1 ∧ RE T a j ∧ isW (bsF T.1 a j)
theorem bs_j {a z : Int} {j : Nat} (e : z = a + j) : bs b a z = bsF b a j := by
  unfold bs
  rw [e, show (a + (j : Int) - a).toNat = j by omega]
theorem tw_tk (hT : tOk T) (hw : TW T q a z) (e : v = wix (bs T.1 a z)) : TKB T q 1 a z v := by
  obtain ⟨h1, j, h2, h3, h4, h5⟩ := hw
  have h0 := P2_0 h1
  have h6 := hT.2.1
  rw [bs_j h2] at e
  have h7 := wix_r (bsF T.1 a j)
  have h8 : aln (T.1 a) := by
    have lj : 1 ≤ j := by have := h5.1; rw [bsF_len] at this; exact this
    have := (h4.1 0 (by omega)).2
    rw [show a + ((0 : Nat) : Int) = a by omega] at this
    exact this
  refine tk_c h1 (Or.inr ⟨aln_sgn h8, j, h4, Or.inl ⟨h5, rfl, h2, e⟩⟩) ⟨by omega, by omega⟩ ⟨by omega, by omega⟩
theorem re_end {j : Nat} (h : ∀ i : Nat, i < j → a + i < T.2.1 ∧ aln (T.1 (a + i))) (e : p = a + j) (hp : p < T.2.1 → ¬ aln (T.1 p)) : RE T a j := ⟨h, by rw [← e]; exact hp⟩
theorem z_le {j : Nat} (h : ∀ i : Nat, i < j → a + i < nn ∧ aln (b (a + i))) (h0 : a < nn) (e : p = a + j) : p ≤ nn := by
  by_cases r : j = 0
  · omega
  · have := (h (j - 1) (by omega)).1
    omega
theorem tk_run {j : Nat} (hT : tOk T) (h2 : P2 T q a) (hj : RE T a j) (e : p = a + j) (hs : ¬ sgn (T.1 a)) (ht : (isN (bsF T.1 a j) ∧ k = 2 ∧ v = cd 10 48 (bsF T.1 a j)) ∨ (¬ isW (bsF T.1 a j) ∧ ¬ isN (bsF T.1 a j) ∧ k = 4 ∧ v = -1)) : TKB T q k a p v := by
  have h0 := P2_0 h2
  have h3 := z_le hj.1 h2.2.1 e
  have h6 := hT.2.1
  rcases ht with ⟨t1, t2, t3⟩ | ⟨t1, t2, t3, t4⟩
  · have hg : ∀ c ∈ bsF T.1 a j, 0 ≤ c - 48 ∧ c - 48 < 10 := fun c hc => by have := t1.2.2 c hc; unfold dgt at this; omega
    have u1 := cd_pos (m := 10) (o := 48) (by decide) rfl (fun c hc => (hg c hc).1)
    have u2 := cd_lt (m := 10) (o := 48) (by decide) rfl hg
    have u4 := t1.2.1
    rw [bsF_len] at u2 u4
    have u3 : (10 : Int) ^ j ≤ 100 := by
      rcases (show j = 0 ∨ j = 1 ∨ j = 2 by omega) with r | r | r <;> subst r <;> decide
    exact tk_c h2 (Or.inr ⟨hs, j, hj, Or.inr (Or.inl ⟨t1, t2, e, t3⟩)⟩) ⟨by omega, by omega⟩ ⟨by omega, by omega⟩
  · exact tk_c h2 (Or.inr ⟨hs, j, hj, Or.inr (Or.inr ⟨t1, t2, t3⟩)⟩) ⟨by omega, by omega⟩ ⟨by omega, by omega⟩
/-- what the class makes of a row -/
theorem re_tw {d : Int} (hT : tOk T) (hr : REb T.1 T.2.1 a p l d x w) (h2 : P2 T q a) (hd : d = 0) (hl : 1 ≤ l ∧ l ≤ 7) : TW T q a p := by
  obtain ⟨⟨j, h0, h1, h2', ⟨h3, h4, h5⟩, ⟨h6, -, -, -⟩, -, -⟩, hE⟩ := hr
  exact ⟨h2, j, h1, z_le h2' h2.2.1 h1, re_end h2' h1 hE, by rw [bsF_len]; omega, by rw [bsF_len]; omega, h6 hd⟩
theorem re_bs {d : Int} (hr : RNb b nn a p l d x w) (hd : d = 0) (hl : 1 ≤ l ∧ l ≤ 7) : 0 ≤ a ∧ isW (bs b a p) ∧ w = cd 32 96 (bs b a p) ∧ (∀ i, a ≤ i → i < p → i < nn) := by
  obtain ⟨j, h0, h1, h2', ⟨h3, h4, h5⟩, ⟨h6, -, -, -⟩, h7, -⟩ := hr
  rw [bs_j h1]
  refine ⟨h0, ⟨by rw [bsF_len]; omega, by rw [bsF_len]; omega, h6 hd⟩, h7 hd hl.2, fun i i1 i2 => ?_⟩
  have := (h2' (i - a).toNat (by omega)).1
  omega
theorem re_num {d : Int} (hT : tOk T) (hr : REb T.1 T.2.1 a p l d x w) (h2 : P2 T q a) (hl : l = 0) (hd : 1 ≤ d ∧ d ≤ 2) : TKB T q 2 a p x := by
  obtain ⟨⟨j, h0, h1, h2', ⟨h3, h4, h5⟩, ⟨-, h6, h7, -⟩, -, h8⟩, hE⟩ := hr
  have hs : ¬ sgn (T.1 a) := by
    have := (h2' 0 (by omega)).2
    rw [show a + ((0 : Nat) : Int) = a by omega] at this
    exact aln_sgn this
  exact tk_run hT h2 (re_end h2' h1 hE) h1 hs (Or.inl ⟨⟨by rw [bsF_len]; omega, by rw [bsF_len]; omega, h6 hl⟩, rfl, h8 hl hd.2⟩)
theorem re_bad {d : Int} (hT : tOk T) (hr : REb T.1 T.2.1 a p l d x w) (h2 : P2 T q a) (hb : (1 ≤ l ∧ 1 ≤ d) ∨ (l = 0 ∧ d = 0 ∧ ¬ sgn (T.1 a)) ∨ (8 ≤ l ∧ d = 0) ∨ (l = 0 ∧ 3 ≤ d)) : TKB T q 4 a p (-1) := by
  obtain ⟨⟨j, h0, h1, h2', ⟨h3, h4, h5⟩, ⟨h6, h7, h8, h9⟩, -, -⟩, hE⟩ := hr
  have hs : ¬ sgn (T.1 a) := by
    by_cases r : j = 0
    · rcases hb with ⟨b1, b2⟩ | ⟨b1, b2, b3⟩ | ⟨b1, b2⟩ | ⟨b1, b2⟩
      · omega
      · exact b3
      · omega
      · omega
    · have := (h2' 0 (by omega)).2
      rw [show a + ((0 : Nat) : Int) = a by omega] at this
      exact aln_sgn this
  refine tk_run hT h2 (re_end h2' h1 hE) h1 hs (Or.inr ⟨fun hW => ?_, fun hN => ?_, rfl, rfl⟩)
  · have w1 := hW.1
    have w2 := hW.2.1
    rw [bsF_len] at w1 w2
    by_cases r : 0 < d
    · obtain ⟨c, c1, c2⟩ := h8 r
      have := hW.2.2 c c1
      unfold ltr at this
      unfold dgt at c2
      omega
    · omega
  · have w1 := hN.1
    have w2 := hN.2.1
    rw [bsF_len] at w1 w2
    by_cases r : 0 < l
    · obtain ⟨c, c1, c2⟩ := h9 r
      have := hN.2.2 c c1
      unfold dgt at this
      unfold ltr at c2
      omega
    · omega
/-- a row of letters and digits, as the reference reads it -/
def RNm (T : pT) (a p t o y x w : Int) : Prop := ∃ j : Nat, (0 ≤ a ∧ p = a + j ∧ t = j ∧ a < T.2.1) ∧ (∀ i : Nat, i < j → a + i < T.2.1 ∧ aln (T.1 (a + i))) ∧ ((o = 0 ∧ dgt (T.1 a)) ∨ (o = 1 ∧ ltr (T.1 a))) ∧ ((y = 1 ∧ ((o = 1 ∧ ∀ c ∈ bsF T.1 a j, ltr c) ∨ (o = 0 ∧ ∀ c ∈ bsF T.1 a j, dgt c))) ∨ (y = 0 ∧ ((o = 1 ∧ ∃ c ∈ bsF T.1 a j, dgt c) ∨ (o = 0 ∧ ∃ c ∈ bsF T.1 a j, ltr c)))) ∧ (j ≤ 7 → w = cd 256 0 (bsF T.1 a j)) ∧ (j ≤ 2 → x = cd 10 48 (bsF T.1 a j))
def REm (T : pT) (a p t o y x w : Int) : Prop := RNm T a p t o y x w ∧ (p < T.2.1 → ¬ aln (T.1 p))
theorem rm_0 {o : Int} (h0 : 0 ≤ a) (h1 : a < T.2.1) (ho : (o = 0 ∧ dgt (T.1 a)) ∨ (o = 1 ∧ ltr (T.1 a))) : RNm T a a 0 o 1 0 0 := by
  refine ⟨0, ⟨h0, by omega, by omega, h1⟩, fun i hi => by omega, ho, Or.inl ⟨rfl, ?_⟩, fun _ => rfl, fun _ => rfl⟩
  rcases ho with ⟨o1, -⟩ | ⟨o1, -⟩
  · exact Or.inr ⟨o1, (fun c hc => by cases hc)⟩
  · exact Or.inl ⟨o1, (fun c hc => by cases hc)⟩
theorem rm_s {t o y y' x' w' t' p' : Int} (hr : RNm T a p t o y x w) (hp : p < T.2.1) (hc : aln (T.1 p)) (e1 : t' = t + 1) (e2 : p' = p + 1) (hy : (y = 0 ∧ y' = 0) ∨ (y = 1 ∧ y' = 1 ∧ ((o = 1 ∧ ltr (T.1 p)) ∨ (o = 0 ∧ dgt (T.1 p)))) ∨ (y = 1 ∧ y' = 0 ∧ ((o = 1 ∧ dgt (T.1 p)) ∨ (o = 0 ∧ ltr (T.1 p))))) (hw : t' ≤ 7 → w' = 256 * w + T.1 p) (hx : t' ≤ 2 → x' = 10 * x + (T.1 p - 48)) : RNm T a p' t' o y' x' w' := by
  obtain ⟨j, ⟨h0, h1, h2, h3⟩, h4, h5, h6, h7, h8⟩ := hr
  subst h1
  refine ⟨j + 1, ⟨h0, by omega, by omega, h3⟩, lts (b := T.1) (P := fun t => t < T.2.1 ∧ aln (T.1 t)) h4 ⟨hp, hc⟩ rfl, h5, ?_, ?_, ?_⟩
  · rcases hy with ⟨y1, y2⟩ | ⟨y1, y2, y3⟩ | ⟨y1, y2, y3⟩
    · rcases h6 with ⟨g1, -⟩ | ⟨-, g2⟩
      · omega
      · refine Or.inr ⟨y2, ?_⟩
        rcases g2 with ⟨g2, g3⟩ | ⟨g2, g3⟩
        · exact Or.inl ⟨g2, mem_l g3⟩
        · exact Or.inr ⟨g2, mem_l g3⟩
    · rcases h6 with ⟨-, g2⟩ | ⟨g1, -⟩
      · refine Or.inl ⟨y2, ?_⟩
        rcases g2 with ⟨g2, g3⟩ | ⟨g2, g3⟩
        · rcases y3 with ⟨-, y4⟩ | ⟨y4, -⟩
          · exact Or.inl ⟨g2, mem_s g3 y4⟩
          · omega
        · rcases y3 with ⟨y4, -⟩ | ⟨-, y4⟩
          · omega
          · exact Or.inr ⟨g2, mem_s g3 y4⟩
      · omega
    · refine Or.inr ⟨y2, ?_⟩
      rcases y3 with ⟨y4, y5⟩ | ⟨y4, y5⟩
      · exact Or.inl ⟨y4, mem_r y5⟩
      · exact Or.inr ⟨y4, mem_r y5⟩
  · intro hj
    rw [bsF_s, cd_app, ← h7 (by omega), hw (by omega)]
    omega
  · intro hj
    rw [bsF_s, cd_app, ← h8 (by omega), hx (by omega)]
theorem rm_b {t o y : Int} (hT : tOk T) (hr : RNm T a p t o y x w) (hp : p ≤ 940) : (0 ≤ o ∧ o ≤ 1) ∧ (0 ≤ y ∧ y ≤ 1) ∧ (0 ≤ t ∧ t ≤ 940) ∧ (0 ≤ a ∧ a ≤ 940) ∧ p = a + t := by
  obtain ⟨j, ⟨h0, h1, h2, h3⟩, h4, h5, h6, -, -⟩ := hr
  have := hT.2.1
  omega
theorem aln_r {c : Int} (h : aln c) : 48 ≤ c ∧ c ≤ 122 := by unfold aln ltr dgt at h; omega
theorem rm_w {t o y : Int} (hr : RNm T a p t o y x w) (ht : t ≤ 6) : 0 ≤ w ∧ w ≤ 281474976710655 := by
  obtain ⟨j, ⟨h0, h1, h2, h3⟩, h4, h5, h6, h7, -⟩ := hr
  have h8 := h7 (by omega)
  have hg : ∀ c ∈ bsF T.1 a j, 0 ≤ c - 0 ∧ c - 0 < 256 := fun c hc => by
    obtain ⟨i, i1, i2⟩ := bsF_mem hc
    have := aln_r (h4 i i1).2
    omega
  have u1 := cd_pos (m := 256) (o := 0) (by decide) rfl (fun c hc => (hg c hc).1)
  have u2 := cd_lt (m := 256) (o := 0) (by decide) rfl hg
  rw [bsF_len] at u2
  have u3 : (256 : Int) ^ j ≤ 281474976710656 := by
    rcases (show j = 0 ∨ j = 1 ∨ j = 2 ∨ j = 3 ∨ j = 4 ∨ j = 5 ∨ j = 6 by omega) with r | r | r | r | r | r | r <;> subst r <;> decide
  omega
theorem rm_n {t o y : Int} (hr : RNm T a p t o y x w) (ht : t ≤ 1) : 0 ≤ x ∧ x ≤ 74 := by
  obtain ⟨j, ⟨h0, h1, h2, h3⟩, h4, h5, h6, -, h7⟩ := hr
  have h8 := h7 (by omega)
  rcases (show j = 0 ∨ j = 1 by omega) with r | r
  · subst r
    have h8 : x = 0 := h8
    omega
  · subst r
    have := aln_r (h4 0 (by omega)).2
    have h8 : x = 10 * 0 + (T.1 (a + (0 : Nat)) - 48) := h8
    omega
theorem rm_j {t o y : Int} (hr : REm T a p t o y x w) : 1 ≤ t := by
  obtain ⟨⟨j, ⟨h0, h1, h2, h3⟩, h4, h5, h6, -, -⟩, hE⟩ := hr
  by_cases r : j = 0
  · subst r
    have e : p = a := by omega
    rw [e] at hE
    exfalso
    refine hE h3 ?_
    rcases h5 with ⟨-, u⟩ | ⟨-, u⟩
    · exact Or.inr u
    · exact Or.inl u
  · omega
theorem rm_tw {t o y : Int} (hr : REm T a p t o y x w) (h2 : P2 T q a) (hy : y = 1) (ho : o = 1) (ht : t ≤ 7) : TW T q a p ∧ isW (bs T.1 a p) ∧ w = cd 256 0 (bs T.1 a p) := by
  have h1t := rm_j hr
  obtain ⟨⟨j, ⟨h0, h1, h2', h3⟩, h4, h5, h6, h7, -⟩, hE⟩ := hr
  have hW : isW (bsF T.1 a j) := by
    refine ⟨by rw [bsF_len]; omega, by rw [bsF_len]; omega, ?_⟩
    rcases h6 with ⟨-, ⟨-, u⟩ | ⟨u, -⟩⟩ | ⟨u, -⟩
    · exact u
    · omega
    · omega
  rw [bs_j h1]
  exact ⟨⟨h2, j, h1, z_le h4 h3 h1, re_end h4 h1 hE, hW⟩, hW, h7 (by omega)⟩
theorem rm_num {t o y : Int} (hT : tOk T) (hr : REm T a p t o y x w) (h2 : P2 T q a) (hy : y = 1) (ho : o = 0) (ht : t ≤ 2) : TKB T q 2 a p x ∧ 0 ≤ x ∧ x ≤ 99 := by
  have h1t := rm_j hr
  obtain ⟨⟨j, ⟨h0, h1, h2', h3⟩, h4, h5, h6, -, h7⟩, hE⟩ := hr
  have hN : isN (bsF T.1 a j) := by
    refine ⟨by rw [bsF_len]; omega, by rw [bsF_len]; omega, ?_⟩
    rcases h6 with ⟨-, ⟨u, -⟩ | ⟨-, u⟩⟩ | ⟨u, -⟩
    · omega
    · exact u
    · omega
  have hs : ¬ sgn (T.1 a) := by
    rcases h5 with ⟨-, u⟩ | ⟨-, u⟩
    · exact aln_sgn (Or.inr u)
    · exact aln_sgn (Or.inl u)
  have r := tk_run hT h2 (re_end h4 h1 hE) h1 hs (k := 2) (Or.inl ⟨hN, rfl, h7 (by omega)⟩)
  refine ⟨r, ?_, r.2.2.2.2⟩
  have hg : ∀ c ∈ bsF T.1 a j, 0 ≤ c - 48 := fun c hc => by have := hN.2.2 c hc; unfold dgt at this; omega
  have u1 := cd_pos (m := 10) (o := 48) (by decide) rfl hg
  have := h7 (by omega)
  omega
theorem rm_bad {t o y : Int} (hT : tOk T) (hr : REm T a p t o y x w) (h2 : P2 T q a) (hb : y = 0 ∨ (y = 1 ∧ o = 1 ∧ 8 ≤ t) ∨ (y = 1 ∧ o = 0 ∧ 3 ≤ t)) : TKB T q 4 a p (-1) := by
  have h1t := rm_j hr
  obtain ⟨⟨j, ⟨h0, h1, h2', h3⟩, h4, h5, h6, -, -⟩, hE⟩ := hr
  have h0m : T.1 a ∈ bsF T.1 a j := by
    have : ∀ k : Nat, 1 ≤ k → T.1 a ∈ bsF T.1 a k := by
      intro k
      induction k with
      | zero => intro h; omega
      | succ k ih =>
        intro _
        by_cases r : k = 0
        · subst r
          rw [bsF_s, show a + ((0 : Nat) : Int) = a by omega]
          exact List.mem_append_right _ (List.mem_singleton.2 rfl)
        · exact List.mem_append_left _ (ih (by omega))
    exact this j (by omega)
  have hs : ¬ sgn (T.1 a) := by
    rcases h5 with ⟨-, u⟩ | ⟨-, u⟩
    · exact aln_sgn (Or.inr u)
    · exact aln_sgn (Or.inl u)
  refine tk_run hT h2 (re_end h4 h1 hE) h1 hs (Or.inr ⟨fun hW => ?_, fun hN => ?_, rfl, rfl⟩)
  · have w2 := hW.2.1
    rw [bsF_len] at w2
    have w3 := hW.2.2 _ h0m
    rcases h6 with ⟨y1, -⟩ | ⟨y1, ⟨o1, c, c1, c2⟩ | ⟨o1, -⟩⟩
    · rcases h5 with ⟨o1, u⟩ | ⟨o1, u⟩
      · unfold dgt at u; unfold ltr at w3; omega
      · omega
    · have := hW.2.2 c c1
      unfold ltr at this; unfold dgt at c2; omega
    · rcases h5 with ⟨o2, u⟩ | ⟨o2, u⟩
      · unfold dgt at u; unfold ltr at w3; omega
      · omega
  · have w2 := hN.2.1
    rw [bsF_len] at w2
    have w3 := hN.2.2 _ h0m
    rcases h6 with ⟨y1, -⟩ | ⟨y1, ⟨o1, -⟩ | ⟨o1, c, c1, c2⟩⟩
    · rcases h5 with ⟨o1, u⟩ | ⟨o1, u⟩
      · omega
      · unfold ltr at u; unfold dgt at w3; omega
    · rcases h5 with ⟨o2, u⟩ | ⟨o2, u⟩
      · omega
      · unfold ltr at u; unfold dgt at w3; omega
    · have := hN.2.2 c c1
      unfold dgt at this; unfold ltr at c2; omega
/-- a code's number among the words -/
def WI (x v : Int) : Prop := (∃ j : Nat, j < 30 ∧ v = j ∧ x = cd 32 96 (wrd j)) ∨ (v = -1 ∧ ∀ j : Nat, j < 30 → x ≠ cd 32 96 (wrd j))
theorem wi_wix {L : List Int} (hw : WI x v) (e : x = cd 32 96 L) (hL : ∀ c ∈ L, ltr c) : v = wix L := by
  rcases hw with ⟨j, h1, h2, h3⟩ | ⟨h1, h2⟩
  · have e2 := cd32 (l := L) (l' := wrd j) hL (wrd_ltr j h1) (by rw [← e, h3])
    rw [e2, wix_wrd j h1, h2]
  · rw [wix_no (L := L) (fun j hj e3 => h2 j hj (by rw [e, e3])), h1]
end Spec7
