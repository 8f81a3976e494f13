section CkFact6
variable {hp : Lean.RArray Nat} {q c l e f g h m n k a z v x y w u i p s t d lo hi : Int} {D : pD} {j j0 j1 : Nat} {P Q : pD → Prop}
def ctPo (n : Nat) (s : Int) : Prop := s = (n : Int)
theorem XT_ok (hO : hOk hp) : tOk (XT hp) := by
  have h1 : 0 ≤ hI hp 173 2 ∧ hI hp 173 2 ≤ 940 := hI_ty hO (by decide) rfl
  have h2 : 0 ≤ hI hp 173 3 ∧ hI hp 173 3 ≤ 940 := hI_ty hO (by decide) rfl
  exact ⟨h1.1, h1.2, h2.1, h2.2⟩
theorem MT_ok (hO : hOk hp) : tOk (MT hp) := by
  have h1 : 0 ≤ hI hp 273 3 ∧ hI hp 273 3 ≤ 940 := hI_ty hO (by decide) rfl
  have h2 : 0 ≤ hI hp 273 5 ∧ hI hp 273 5 ≤ 940 := hI_ty hO (by decide) rfl
  exact ⟨h1.1, h1.2, h2.1, h2.2⟩
theorem XB_at (hx : hI hp 1 j = x) (hj : j < 940) (e1 : p = (j : Int)) : XB hp p = x := by
  unfold XB
  rw [if_pos (by omega), e1]
  exact hx
theorem xt_at (hx : hI hp 1 j = x) (hj : j < 940) (e1 : p = (j : Int)) (h1 : p < (XT hp).2.1) : (XT hp).1 p = x := by
  show (if 0 ≤ p ∧ p < hI hp 173 2 then XB hp p else 0) = x
  have h1 : p < hI hp 173 2 := h1
  rw [if_pos (by omega)]
  exact XB_at hx hj e1
theorem xt_b (h0 : 0 ≤ p) (h1 : p < (XT hp).2.1) : (XT hp).1 p = XB hp p := by
  show (if 0 ≤ p ∧ p < hI hp 173 2 then XB hp p else 0) = _
  have h1 : p < hI hp 173 2 := h1
  rw [if_pos ⟨h0, h1⟩]
theorem bs_cg {b b' : Int → Int} (he : ∀ i, a ≤ i → i < z → b i = b' i) : bs b a z = bs b' a z := by
  unfold bs
  exact bsF_cg (fun i hi => he _ (by omega) (by omega))
theorem xt_bs (h0 : 0 ≤ a) (h1 : z ≤ (XT hp).2.1) : bs (XT hp).1 a z = bs (XB hp) a z := bs_cg (fun i h2 h3 => xt_b (by omega) (by omega))
theorem p1_x (hs : SK (XT hp).1 (XT hp).2.1 q p) (hx : hI hp 1 j = x) (hj : j < 940) (e1 : p = (j : Int)) (hb : ¬ (x = 32 ∨ x = 10)) : P1q (XT hp).1 (XT hp).2.1 q p := ⟨hs, fun w => by rw [xt_at hx hj e1 w]; exact hb⟩
theorem sk_x (hs : SK (XT hp).1 (XT hp).2.1 q p) (hx : hI hp 1 j = x) (hj : j < 940) (e1 : p = (j : Int)) (hb : x = 32 ∨ x = 10) (h1 : p < (XT hp).2.1) (e2 : y = p + 1) : SK (XT hp).1 (XT hp).2.1 q y := sk_s hs h1 (by rw [xt_at hx hj e1 h1]; exact hb) e2
theorem nmk_x (hx : hI hp 1 j = x) (hj : j < 940) (e1 : p = (j : Int)) (hb : ¬ (x = 40 ∨ x = 41 ∨ (59 ≤ x ∧ x ≤ 62))) : ¬ sgn (XB hp p) := by rw [XB_at hx hj e1]; exact hb
theorem tks_x (hO : hOk hp) (h2 : P2 (XT hp) q p) (hx : hI hp 1 j = x) (hj : j < 940) (e1 : p = (j : Int)) (hb : x = 40 ∨ x = 41 ∨ (59 ≤ x ∧ x ≤ 62)) (e2 : z = p + 1) : TKB (XT hp) q 3 p z x := tk_sgn (XT_ok hO) h2 (by rw [xt_at hx hj e1 h2.2.1]; exact hb) (xt_at hx hj e1 h2.2.1).symm e2
theorem re_x (hr : RNb (XT hp).1 (XT hp).2.1 a p l d y w) (hx : hI hp 1 j = x) (hj : j < 940) (e1 : p = (j : Int)) (hb : ¬ ((97 ≤ x ∧ x ≤ 122) ∨ (48 ≤ x ∧ x ≤ 57))) : REb (XT hp).1 (XT hp).2.1 a p l d y w := ⟨hr, fun h1 => by rw [xt_at hx hj e1 h1]; exact hb⟩
theorem rl_x {l' p' w' y' : Int} (hr : RNb (XT hp).1 (XT hp).2.1 a p l d y w) (hx : hI hp 1 j = x) (hj : j < 940) (e1 : p = (j : Int)) (hb : 97 ≤ x ∧ x ≤ 122) (h1 : p < (XT hp).2.1) (e2 : l' = l + 1) (e3 : p' = p + 1) (hw : d = 0 → l' ≤ 7 → w' = 32 * w + (x - 96)) : RNb (XT hp).1 (XT hp).2.1 a p' l' d y' w' := by
  have e := xt_at hx hj e1 h1
  exact rn_l hr h1 (by rw [e]; exact hb) e2 e3 (by rw [e]; exact hw)
theorem rd_x {d' p' w' y' : Int} (hr : RNb (XT hp).1 (XT hp).2.1 a p l d y w) (hx : hI hp 1 j = x) (hj : j < 940) (e1 : p = (j : Int)) (hb : 48 ≤ x ∧ x ≤ 57) (h1 : p < (XT hp).2.1) (e2 : d' = d + 1) (e3 : p' = p + 1) (hw : l = 0 → d' ≤ 2 → y' = 10 * y + (x - 48)) : RNb (XT hp).1 (XT hp).2.1 a p' l d' y' w' := by
  have e := xt_at hx hj e1 h1
  exact rn_d hr h1 (by rw [e]; exact hb) e2 e3 (by rw [e]; exact hw)
theorem bad0_x (hO : hOk hp) (hr : REb (XT hp).1 (XT hp).2.1 a p l d x w) (h2 : P2 (XT hp) q a) (hk : ¬ sgn (XB hp a)) (h3 : l = 0) (h4 : d = 0) : TKB (XT hp) q 4 a p (-1) := re_bad (XT_ok hO) hr h2 (Or.inr (Or.inl ⟨h3, h4, by rw [xt_b (P2_0 h2) h2.2.1]; exact hk⟩))
theorem nm_x (hr : REb (XT hp).1 (XT hp).2.1 a p l d x w) (hd : d = 0) (hl : 1 ≤ l ∧ l ≤ 7) (hw : hL hp 173 8 = w) : isW (bs (XB hp) a p) ∧ hL hp 173 8 = cd 32 96 (bs (XB hp) a p) := by
  obtain ⟨h0, h1, h2, h3⟩ := re_bs hr.1 hd hl
  have e : bs (XT hp).1 a p = bs (XB hp) a p := bs_cg (fun i i1 i2 => xt_b (by omega) (h3 i i1 i2))
  rw [e] at h1 h2
  exact ⟨h1, by rw [hw]; exact h2⟩
theorem wo_s (hw : ∀ i : Nat, i < 30 → (i : Int) < s → hL hp 174 i ≠ w) (hx : hL hp 174 j = x) (e1 : (j : Int) = s) (hn : x ≠ w) (e2 : t = s + 1) : ∀ i : Nat, i < 30 → (i : Int) < t → hL hp 174 i ≠ w := by
  intro i hi hs
  by_cases r : (i : Int) < s
  · exact hw i hi r
  · have e3 : i = j := by omega
    rw [e3, hx]
    exact hn
theorem wi_f (hC : ∀ i : Nat, i < 30 → hL hp 174 i = cd 32 96 (wrd i)) (hx : hL hp 174 j = x) (hj : j < 30) (e1 : v = (j : Int)) (e2 : x = w) : WI w v := Or.inl ⟨j, hj, e1, by rw [← hC j hj, hx, e2]⟩
theorem wi_n (hC : ∀ i : Nat, i < 30 → hL hp 174 i = cd 32 96 (wrd i)) (hw : ∀ i : Nat, i < 30 → (i : Int) < s → hL hp 174 i ≠ w) (e1 : 30 ≤ s) : WI w (-1) := Or.inr ⟨rfl, fun i hi e => hw i hi (by omega) (by rw [hC i hi, e])⟩
theorem tk1_x (hO : hOk hp) (h1 : TW (XT hp) q a z) (h2 : WI w v) (h3 : isW (bs (XB hp) a z) ∧ hL hp 173 8 = cd 32 96 (bs (XB hp) a z)) (hw : hL hp 173 8 = w) : TKB (XT hp) q 1 a z v := by
  have hz : z ≤ (XT hp).2.1 := by obtain ⟨-, j, -, h, -⟩ := h1; exact h
  have h0 := P2_0 h1.1
  have e := xt_bs (hp := hp) h0 hz
  refine tw_tk (XT_ok hO) h1 ?_
  rw [e]
  exact wi_wix h2 (by rw [← hw]; exact h3.2) h3.1.2.2
/-- names through the reader's parish -/
theorem sw_s (hw : ∀ j : Nat, j < 12 → (j : Int) < s → hL hp (rr hp 1 7) j ≠ w) (hx : hL hp (rr hp 1 7) j0 = x) (e1 : (j0 : Int) = s) (hn : x ≠ w) (e2 : t = s + 1) : ∀ j : Nat, j < 12 → (j : Int) < t → hL hp (rr hp 1 7) j ≠ w := by
  intro i hi hs
  by_cases r : (i : Int) < s
  · exact hw i hi r
  · have e3 : i = j0 := by omega
    rw [e3, hx]
    exact hn
theorem sc_f (hN : dF (XT hp) l (fun D => ∀ j : Nat, j < 12 → hL hp (rr hp 1 7) j = cd 32 96 (nm D j))) (hx : hL hp (rr hp 1 7) j0 = x) (hj : j0 < 12) (e1 : i = (j0 : Int)) (e2 : x = w) : dF (XT hp) l (fun D => scP D w i) := dF_mp hN (fun D hD => Or.inr ⟨j0, hj, e1, by rw [← hD j0 hj, hx, e2]⟩)
theorem sc_n (hN : dF (XT hp) l (fun D => ∀ j : Nat, j < 12 → hL hp (rr hp 1 7) j = cd 32 96 (nm D j))) (hw : ∀ j : Nat, j < 12 → (j : Int) < s → hL hp (rr hp 1 7) j ≠ w) (e1 : 12 ≤ s) : dF (XT hp) l (fun D => scP D w (-1)) := dF_mp hN (fun D hD => Or.inl ⟨rfl, fun j hj e => hw j hj (by omega) (by rw [hD j hj, e])⟩)
theorem sl_x (hO : hOk hp) (hH : Hq (XT hp) q c l e f g h m n k a z v ∧ k ≠ 4) (hS : dF (XT hp) l (fun D => scP D w i)) (hM : isW (bs (XB hp) a z) ∧ hL hp 173 8 = cd 32 96 (bs (XB hp) a z)) (hw : hL hp 173 8 = w) : SL (XT hp) l a z i := by
  have hT := XT_ok hO
  obtain ⟨h0, hz⟩ := h_in hT hH.1 hH.2
  have e := xt_bs (hp := hp) h0 hz
  refine dF_mp (dF_I hT hS) (fun D hD => ?_)
  rw [e]
  exact sc_sl hD.1 hM.1 (by rw [← hw]; exact hM.2) hD.2
theorem nb_x (hO : hOk hp) (h1 : dF (XT hp) l (fun D => ∀ j : Nat, j < 12 → (j : Int) < s → hL hp (rr hp 1 7) j = cd 32 96 (nm D j))) (h2 : dF (XT hp) l (fun D => ∀ j : Nat, j < 12 → t ≤ (j : Int) → hL hp (rr hp 1 7) j = cd 32 96 (nm D j))) (hx : hL hp (rr hp 1 7) j0 = w) (hw : hL hp 173 8 = w) (hH : Hq (XT hp) q c l e f g h m n k a z v ∧ k ≠ 4) (hM : isW (bs (XB hp) a z) ∧ hL hp 173 8 = cd 32 96 (bs (XB hp) a z)) (e1 : (j0 : Int) = s) (e2 : t = s + 1) : dF (XT hp) l (fun D => ∀ j : Nat, j < 12 → hL hp (rr hp 1 7) j = if (j : Int) = s then cd 32 96 (bs (XT hp).1 a z) else cd 32 96 (nm D j)) := by
  have hT := XT_ok hO
  obtain ⟨h0, hz⟩ := h_in hT hH.1 hH.2
  have e := xt_bs (hp := hp) h0 hz
  refine dF_mp (dF_2 hT h1 h2) (fun D hD j hj => ?_)
  by_cases r : (j : Int) = s
  · rw [if_pos r, e, ← hM.2, hw]
    have e3 : j = j0 := by omega
    rw [e3]
    exact hx
  · rw [if_neg r]
    by_cases r2 : (j : Int) < s
    · exact hD.1 j hj r2
    · exact hD.2 j hj (by omega)
theorem na_own {L : List Int} {X : Nat → Int} (hD : ctPo (dOw D).length s) (h4 : s < 4) (hN : ∀ j : Nat, j < 12 → X j = if (j : Int) = s then cd 32 96 L else cd 32 96 (nm D j)) : ∀ j : Nat, j < 12 → X j = cd 32 96 (nm (aOw D L) j) := by
  intro j hj
  have hD : s = (dOw D).length := hD
  rw [hN j hj, nm_aOw (by omega)]
  by_cases r : (j : Int) = s
  · rw [if_pos r, if_pos (by omega)]
  · rw [if_neg r, if_neg (by omega)]
theorem na_str {L : List Int} {X : Nat → Int} {o : Int} (hD : ctPo (dSt D).length o) (h4 : o < 3) (e1 : s = o + 4) (hN : ∀ j : Nat, j < 12 → X j = if (j : Int) = s then cd 32 96 L else cd 32 96 (nm D j)) : ∀ j : Nat, j < 12 → X j = cd 32 96 (nm (aSp D L x y w u) j) := by
  intro j hj
  have hD : o = (dSt D).length := hD
  rw [hN j hj, nm_aSp (by omega)]
  by_cases r : (j : Int) = s
  · rw [if_pos r, if_pos (by omega)]
  · rw [if_neg r, if_neg (by omega)]
theorem na_knd {L : List Int} {X : Nat → Int} {o : Int} (hD : ctPo (dKn D).length o) (e1 : s = o + 7) (hN : ∀ j : Nat, j < 12 → X j = if (j : Int) = s then cd 32 96 L else cd 32 96 (nm D j)) : ∀ j : Nat, j < 12 → X j = cd 32 96 (nm (aKn D L) j) := by
  intro j hj
  have hD : o = (dKn D).length := hD
  rw [hN j hj, nm_aKn]
  by_cases r : (j : Int) = s
  · rw [if_pos r, if_pos (by omega)]
  · rw [if_neg r, if_neg (by omega)]
end CkFact6
