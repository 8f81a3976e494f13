section SSpec2
variable {T : pT} {look look' : Int → List Int → Prop} {q c o t k a z v x y i p : Int}
def SHq (T : pT) (look : Int → List Int → Prop) (q c o t k a z v : Int) : Prop := SG T look q c o t ∧ TKB T q k a z v
def SRS (T : pT) (look : Int → List Int → Prop) (k p : Int) : Prop := 1 ≤ k ∧ SR T look (k, p)
def SDN (T : pT) (look : Int → List Int → Prop) (o : Int) : Prop := SR T look (0, o)
def SAN (T : pT) (look : Int → List Int → Prop) (x k : Int) : Prop := (SDN T look x ∧ k = 0) ∨ ∃ p, SRS T look k p ∧ x = -1 - p
theorem SAN_det {x' k' : Int} (h1 : SAN T look x k) (h2 : SAN T look x' k') : x = x' ∧ k = k' := by
  rcases h1 with ⟨h1, e1⟩ | ⟨p, ⟨k1, h1⟩, e1⟩
  · rcases h2 with ⟨h2, e2⟩ | ⟨p', ⟨k2, h2⟩, e2⟩
    · exact ⟨congrArg Prod.snd (SR_det h1 h2), by omega⟩
    · have := congrArg Prod.fst (SR_det h1 h2)
      have : (0 : Int) = k' := this
      omega
  · rcases h2 with ⟨h2, e2⟩ | ⟨p', ⟨k2, h2⟩, e2⟩
    · have := congrArg Prod.fst (SR_det h1 h2)
      have : k = (0 : Int) := this
      omega
    · have w := SR_det h1 h2
      have u1 : p = p' := congrArg Prod.snd w
      have u2 : k = k' := congrArg Prod.fst w
      exact ⟨by omega, u2⟩
theorem SAN_cg (hT : tOk T) (hL : ∀ c L, isW L → (look c L ↔ look' c L)) (h : SAN T look x k) : SAN T look' x k := by
  rcases h with ⟨h, e⟩ | ⟨p, ⟨k1, h⟩, e⟩
  · exact Or.inl ⟨SR_cg hT hL h, e⟩
  · exact Or.inr ⟨p, ⟨k1, SR_cg hT hL h⟩, e⟩
/-- the step at each control -/
theorem sx0 {b : Int → Int} (h4 : k ≠ 4) : sNx look b q 0 o t k a z v = pIf (qOp k v = 0) (sfl 1 a) (pIf (20 ≤ o ∨ 8 ≤ dp t) (sfl 4 a) (qOg z o t (qOp k v))) := by
  unfold sNx
  rw [pIf_f h4, pIf_t rfl]
theorem sx1 {b : Int → Int} (h4 : k ≠ 4) : sNx look b q 1 o t k a z v = qNm (look 1 (bs b a z)) k v a (sgo z 6 o (nr t)) := by
  unfold sNx
  rw [pIf_f h4, pIf_f (by decide), pIf_t rfl]
theorem sx2 {b : Int → Int} (h4 : k ≠ 4) : sNx look b q 2 o t k a z v = qNm (look 2 (bs b a z)) k v a (sgo z 6 o (nr t)) := by
  unfold sNx
  rw [pIf_f h4, pIf_f (by decide), pIf_f (by decide), pIf_t rfl]
theorem sx3 {b : Int → Int} (h4 : k ≠ 4) : sNx look b q 3 o t k a z v = qNm (look 3 (bs b a z)) k v a (sgo z 6 o (nr t)) := by
  unfold sNx
  rw [pIf_f h4, pIf_f (by decide), pIf_f (by decide), pIf_f (by decide), pIf_t rfl]
theorem sx4 {b : Int → Int} (h4 : k ≠ 4) : sNx look b q 4 o t k a z v = pIf (k = 3 ∧ 60 ≤ v ∧ v ≤ 62) (sgo z 5 o t) (sfl 1 a) := by
  unfold sNx
  rw [pIf_f h4, pIf_f (by decide), pIf_f (by decide), pIf_f (by decide), pIf_f (by decide), pIf_t rfl]
theorem sx5 {b : Int → Int} (h4 : k ≠ 4) : sNx look b q 5 o t k a z v = pIf (k = 2) (sgo z 6 o (nr t)) (sfl 1 a) := by
  unfold sNx
  rw [pIf_f h4, pIf_f (by decide), pIf_f (by decide), pIf_f (by decide), pIf_f (by decide), pIf_f (by decide), pIf_t rfl]
theorem sx6 {b : Int → Int} (h4 : k ≠ 4) : sNx look b q 6 o t k a z v = pIf (k = 0) (pIf (t = 0) (sfl 0 o) (sfl 1 a)) (pIf (k = 1 ∧ (v = 19 ∨ v = 20)) (sgo z 0 o t) (pIf (k = 3 ∧ v = 41 ∧ t % 3 = 2) (sgo z 6 o (nr (t / 3))) (sfl 1 a))) := by
  unfold sNx
  rw [pIf_f h4, pIf_f (by decide), pIf_f (by decide), pIf_f (by decide), pIf_f (by decide), pIf_f (by decide), pIf_f (by decide), pIf_t rfl]
theorem s_f4 (hG : SG T look q c o t) (ht : TKB T q 4 a z v) : SRS T look 1 a := ⟨by decide, SG_fl hG ht.1 sNx4⟩
theorem h_s4 (hH : SHq T look q c o t k a z v) (hk : k = 4) : SRS T look 1 a := by
  subst hk
  exact s_f4 hH.1 hH.2
theorem qOp_0 (h1 : ¬ (k = 1 ∧ (v = 13 ∨ (21 ≤ v ∧ v ≤ 29)))) (h2 : ¬ (k = 3 ∧ v = 40)) : qOp k v = 0 := by
  unfold qOp
  rw [pIf_f (by omega), pIf_f h2, pIf_f (by omega), pIf_f (by omega), pIf_f (by omega), pIf_f (by omega), pIf_f (by omega)]
theorem qOp_1 : qOp 1 21 = 1 := by unfold qOp; rw [pIf_t ⟨rfl, rfl⟩]
theorem qOp_2 : qOp 3 40 = 2 := by unfold qOp; rw [pIf_f (by decide), pIf_t ⟨rfl, rfl⟩]
theorem qOp_3 (h : v = 13 ∨ v = 22) : qOp 1 v = 3 := by unfold qOp; rw [pIf_f (by omega), pIf_f (by omega), pIf_t ⟨rfl, h⟩]
theorem qOp_4 : qOp 1 23 = 4 := by unfold qOp; rw [pIf_f (by decide), pIf_f (by decide), pIf_f (by decide), pIf_t ⟨rfl, rfl⟩]
theorem qOp_5 : qOp 1 24 = 5 := by unfold qOp; rw [pIf_f (by decide), pIf_f (by decide), pIf_f (by decide), pIf_f (by decide), pIf_t ⟨rfl, rfl⟩]
theorem qOp_6 : qOp 1 25 = 6 := by unfold qOp; rw [pIf_f (by decide), pIf_f (by decide), pIf_f (by decide), pIf_f (by decide), pIf_f (by decide), pIf_t ⟨rfl, rfl⟩]
theorem qOp_7 (h : 26 ≤ v ∧ v ≤ 29) : qOp 1 v = 7 := by unfold qOp; rw [pIf_f (by omega), pIf_f (by omega), pIf_f (by omega), pIf_f (by omega), pIf_f (by omega), pIf_f (by omega), pIf_t ⟨rfl, h⟩]
theorem s0_f1 (hH : SHq T look q c o t k a z v) (hc : c = 0) (h1 : ¬ (k = 1 ∧ (v = 13 ∨ (21 ≤ v ∧ v ≤ 29)))) (h2 : ¬ (k = 3 ∧ v = 40)) : SRS T look 1 a := by
  by_cases h4 : k = 4
  · exact h_s4 hH h4
  · subst hc
    exact ⟨by decide, SG_fl hH.1 hH.2.1 ((sx0 h4).trans (by rw [pIf_t (qOp_0 h1 h2)]; rfl))⟩
theorem qOp_n (h1 : (k = 1 ∧ (v = 13 ∨ (21 ≤ v ∧ v ≤ 29))) ∨ (k = 3 ∧ v = 40)) : ¬ qOp k v = 0 := by
  rcases h1 with ⟨rfl, h⟩ | ⟨rfl, rfl⟩
  · rcases (show v = 21 ∨ (v = 13 ∨ v = 22) ∨ v = 23 ∨ v = 24 ∨ v = 25 ∨ (26 ≤ v ∧ v ≤ 29) by omega) with rfl | h | rfl | rfl | rfl | h
    · rw [qOp_1]; decide
    · rw [qOp_3 h]; decide
    · rw [qOp_4]; decide
    · rw [qOp_5]; decide
    · rw [qOp_6]; decide
    · rw [qOp_7 h]; decide
  · rw [qOp_2]; decide
theorem s0_f4 (hH : SHq T look q c o t k a z v) (hc : c = 0) (h1 : (k = 1 ∧ (v = 13 ∨ (21 ≤ v ∧ v ≤ 29))) ∨ (k = 3 ∧ v = 40)) (h2 : 20 ≤ o ∨ 8 ≤ dp t) : SRS T look 4 a := by
  subst hc
  exact ⟨by decide, SG_fl hH.1 hH.2.1 ((sx0 (by omega)).trans (by rw [pIf_f (qOp_n h1), pIf_t h2]; rfl))⟩
theorem s0_go {j : Int} {r : sO} (hH : SHq T look q c o t k a z v) (hc : c = 0) (h4 : k ≠ 4) (hj : qOp k v = j) (h0 : j ≠ 0) (h1 : o ≤ 19) (h2 : dp t ≤ 7) (hr : qOg z o t j = r) : sNx look T.1 q c o t k a z v = r := by
  subst hc
  rw [sx0 h4, hj, pIf_f h0, pIf_f (by omega), hr]
theorem s0_not (hH : SHq T look q c o t k a z v) (hc : c = 0) (hk : k = 1) (hv : v = 21) (h1 : o ≤ 19) (h2 : dp t ≤ 7) : SG T look z 0 (o + 1) (3 * t + 1) := by
  subst hk
  subst hv
  exact SG_go hH.1 hH.2.1 (s0_go hH hc (by decide) qOp_1 (by decide) h1 h2 (by unfold qOg; rw [pIf_t rfl]))
theorem s0_open (hH : SHq T look q c o t k a z v) (hc : c = 0) (hk : k = 3) (hv : v = 40) (h1 : o ≤ 19) (h2 : dp t ≤ 7) : SG T look z 0 (o + 1) (3 * t + 2) := by
  subst hk
  subst hv
  exact SG_go hH.1 hH.2.1 (s0_go hH hc (by decide) qOp_2 (by decide) h1 h2 (by unfold qOg; rw [pIf_f (by decide), pIf_t rfl]))
theorem s0_leaf (hH : SHq T look q c o t k a z v) (hc : c = 0) (hk : k = 1) (hv : v = 13 ∨ v = 22) (h1 : o ≤ 19) (h2 : dp t ≤ 7) : SG T look z 6 (o + 1) (nr t) := by
  subst hk
  exact SG_go hH.1 hH.2.1 (s0_go hH hc (by decide) (qOp_3 hv) (by decide) h1 h2 (by unfold qOg; rw [pIf_f (by decide), pIf_f (by decide), pIf_t rfl]))
theorem s0_of (hH : SHq T look q c o t k a z v) (hc : c = 0) (hk : k = 1) (hv : v = 23) (h1 : o ≤ 19) (h2 : dp t ≤ 7) : SG T look z 1 (o + 1) t := by
  subst hk
  subst hv
  exact SG_go hH.1 hH.2.1 (s0_go hH hc (by decide) qOp_4 (by decide) h1 h2 (by unfold qOg; rw [pIf_f (by decide), pIf_f (by decide), pIf_f (by decide), pIf_t rfl]))
theorem s0_for (hH : SHq T look q c o t k a z v) (hc : c = 0) (hk : k = 1) (hv : v = 24) (h1 : o ≤ 19) (h2 : dp t ≤ 7) : SG T look z 2 (o + 1) t := by
  subst hk
  subst hv
  exact SG_go hH.1 hH.2.1 (s0_go hH hc (by decide) qOp_5 (by decide) h1 h2 (by unfold qOg; rw [pIf_f (by decide), pIf_f (by decide), pIf_f (by decide), pIf_f (by decide), pIf_t rfl]))
theorem s0_by (hH : SHq T look q c o t k a z v) (hc : c = 0) (hk : k = 1) (hv : v = 25) (h1 : o ≤ 19) (h2 : dp t ≤ 7) : SG T look z 3 (o + 1) t := by
  subst hk
  subst hv
  exact SG_go hH.1 hH.2.1 (s0_go hH hc (by decide) qOp_6 (by decide) h1 h2 (by unfold qOg; rw [pIf_f (by decide), pIf_f (by decide), pIf_f (by decide), pIf_f (by decide), pIf_f (by decide), pIf_t rfl]))
theorem s0_cmp (hH : SHq T look q c o t k a z v) (hc : c = 0) (hk : k = 1) (hv : 26 ≤ v ∧ v ≤ 29) (h1 : o ≤ 19) (h2 : dp t ≤ 7) : SG T look z 4 (o + 1) t := by
  subst hk
  exact SG_go hH.1 hH.2.1 (s0_go hH hc (by decide) (qOp_7 hv) (by decide) h1 h2 (by unfold qOg; rw [pIf_f (by decide), pIf_f (by decide), pIf_f (by decide), pIf_f (by decide), pIf_f (by decide), pIf_f (by decide)]))
/-- names: a sort at each of three controls -/
def sNc (c : Int) : Prop := c = 1 ∨ c = 2 ∨ c = 3
theorem sNc_x {b : Int → Int} (hc : sNc c) (h4 : k ≠ 4) : sNx look b q c o t k a z v = qNm (look c (bs b a z)) k v a (sgo z 6 o (nr t)) := by
  rcases hc with rfl | rfl | rfl
  · exact sx1 h4
  · exact sx2 h4
  · exact sx3 h4
theorem sn_f1 (hH : SHq T look q c o t k a z v) (hc : sNc c) (h1 : ¬ (k = 1 ∧ v = -1)) : SRS T look 1 a := by
  by_cases h4 : k = 4
  · exact h_s4 hH h4
  · exact ⟨by decide, SG_fl hH.1 hH.2.1 ((sNc_x hc h4).trans (by unfold qNm; rw [pIf_f h1]; rfl))⟩
theorem sn_f3 (hH : SHq T look q c o t k a z v) (hc : sNc c) (hk : k = 1) (hv : v = -1) (hl : ¬ look c (bs T.1 a z)) : SRS T look 3 a := by
  subst hk
  subst hv
  exact ⟨by decide, SG_fl hH.1 hH.2.1 ((sNc_x hc k14).trans (by unfold qNm; rw [pIf_t ⟨rfl, rfl⟩, pIf_f hl]; rfl))⟩
theorem sn_go (hH : SHq T look q c o t k a z v) (hc : sNc c) (hk : k = 1) (hv : v = -1) (hl : look c (bs T.1 a z)) : SG T look z 6 o (nr t) := by
  subst hk
  subst hv
  exact SG_go hH.1 hH.2.1 ((sNc_x hc k14).trans (by unfold qNm; rw [pIf_t ⟨rfl, rfl⟩, pIf_t hl]))
theorem s4_f1 (hH : SHq T look q c o t k a z v) (hc : c = 4) (h1 : ¬ (k = 3 ∧ 60 ≤ v ∧ v ≤ 62)) : SRS T look 1 a := by
  by_cases h4 : k = 4
  · exact h_s4 hH h4
  · subst hc
    exact ⟨by decide, SG_fl hH.1 hH.2.1 ((sx4 h4).trans (pIf_f h1))⟩
theorem s4_go (hH : SHq T look q c o t k a z v) (hc : c = 4) (h1 : k = 3 ∧ 60 ≤ v ∧ v ≤ 62) : SG T look z 5 o t := by
  subst hc
  exact SG_go hH.1 hH.2.1 ((sx4 (by omega)).trans (pIf_t h1))
theorem s5_f1 (hH : SHq T look q c o t k a z v) (hc : c = 5) (h1 : k ≠ 2) : SRS T look 1 a := by
  by_cases h4 : k = 4
  · exact h_s4 hH h4
  · subst hc
    exact ⟨by decide, SG_fl hH.1 hH.2.1 ((sx5 h4).trans (pIf_f h1))⟩
theorem s5_go (hH : SHq T look q c o t k a z v) (hc : c = 5) (h1 : k = 2) : SG T look z 6 o (nr t) := by
  subst hc
  exact SG_go hH.1 hH.2.1 ((sx5 (by omega)).trans (pIf_t h1))
theorem s6_end (hH : SHq T look q c o t k a z v) (hc : c = 6) (hk : k = 0) (h1 : t = 0) : SDN T look o := by
  subst hc
  exact SG_fl hH.1 hH.2.1 ((sx6 (by omega)).trans (by rw [pIf_t hk, pIf_t h1]; rfl))
theorem s6_join (hH : SHq T look q c o t k a z v) (hc : c = 6) (hk : k = 1) (hv : v = 19 ∨ v = 20) : SG T look z 0 o t := by
  subst hc
  exact SG_go hH.1 hH.2.1 ((sx6 (by omega)).trans (by rw [pIf_f (by omega), pIf_t ⟨hk, hv⟩]))
theorem s6_cl (hH : SHq T look q c o t k a z v) (hc : c = 6) (hk : k = 3) (hv : v = 41) (h1 : t % 3 = 2) : SG T look z 6 o (nr (t / 3)) := by
  subst hc
  exact SG_go hH.1 hH.2.1 ((sx6 (by omega)).trans (by rw [pIf_f (by omega), pIf_f (by omega), pIf_t ⟨hk, hv, h1⟩]))
theorem s6_f1 (hH : SHq T look q c o t k a z v) (hc : c = 6) (h1 : ¬ (k = 0 ∧ t = 0)) (h2 : ¬ (k = 1 ∧ (v = 19 ∨ v = 20))) (h3 : ¬ (k = 3 ∧ v = 41 ∧ t % 3 = 2)) : SRS T look 1 a := by
  by_cases h4 : k = 4
  · exact h_s4 hH h4
  · subst hc
    refine ⟨by decide, SG_fl hH.1 hH.2.1 ((sx6 h4).trans ?_)⟩
    by_cases r : k = 0
    · rw [pIf_t r, pIf_f (fun w => h1 ⟨r, w⟩)]; rfl
    · rw [pIf_f r, pIf_f h2, pIf_f h3]; rfl
end SSpec2
