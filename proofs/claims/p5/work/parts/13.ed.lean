section RSpec1
/-- a roll's machine: place, control, lines so far -/
abbrev roSt : Type := Int × Int × Int
abbrev roO : Type := roSt ⊕ (Int × Int)
def rogo (q c l : Int) : roO := .inl (q, c, l)
def rofl (k p : Int) : roO := .inr (k, p)
def roNum (c : Int) : Prop := c = 2 ∨ c = 3 ∨ c = 5 ∨ c = 6
noncomputable def roLo (c : Int) : Int := pIf (c = 2) 1 0
noncomputable def roHi (W H c : Int) : Int := pIf (c = 2) 4 (pIf (c = 3) 13 (pIf (c = 5) (W - 1) (H - 1)))
noncomputable def roNe (c : Int) : Int := pIf (c = 5) 6 7
noncomputable def roBg (v : Int) : Int := pIf (v = 14) 1 (pIf (v = 15) 4 (pIf (v = 16) 3 5))
noncomputable def roNx (look : Int → List Int → Prop) (W H : Int) (b : Int → Int) (q c l k a z v : Int) : roO :=
  pIf (k = 4) (rofl 1 a)
  (pIf (c = 0) (pIf (k = 0) (rofl 0 l) (pIf (k = 1 ∧ 14 ≤ v ∧ v ≤ 18) (pIf (40 ≤ l) (rofl 4 a) (rogo z (roBg v) l)) (rofl 1 a)))
  (pIf (c = 1) (pIf (k = 1 ∧ 8 ≤ v ∧ v ≤ 12) (rogo z 2 l) (rofl 1 a))
  (pIf (c = 4) (pIf (k = 1 ∧ v = -1) (pIf (look 1 (bs b a z)) (rogo z 5 l) (rofl 3 a)) (rofl 1 a))
  (pIf (c = 7) (pIf (k = 3 ∧ v = 59) (rogo z 0 (l + 1)) (rofl 1 a))
  (pIf (k = 2) (pIf (roLo c ≤ v ∧ v ≤ roHi W H c) (rogo z (roNe c) l) (rofl 2 a)) (rofl 1 a))))))
variable {T : pT} {look : Int → List Int → Prop} {W H q c l k a z v : Int} {s s' : roSt}
def roRun (T : pT) (look : Int → List Int → Prop) (W H : Int) : Nat → roO → Prop
  | 0, x => x = rogo 0 0 0
  | i + 1, x => ∃ q c l, roRun T look W H i (.inl (q, c, l)) ∧ ∃ k a z v, TK T q k a z v ∧ x = roNx look W H T.1 q c l k a z v
theorem roNx4 {b : Int → Int} : roNx look W H b q c l 4 a z v = rofl 1 a := by
  unfold roNx
  rw [pIf_t rfl]
theorem roRun_det : ∀ {i : Nat} {x x' : roO}, roRun T look W H i x → roRun T look W H i x' → x = x' := by
  intro i
  induction i with
  | zero => intro x x' h h'; exact Eq.trans (show x = _ from h) (Eq.symm (show x' = _ from h'))
  | succ i ih =>
    intro x x' h h'
    obtain ⟨q, c, l, h1, k, a, z, v, h2, rfl⟩ := h
    obtain ⟨q', c', l', g1, k', a', z', v', g2, rfl⟩ := h'
    have e := Sum.inl.inj (ih h1 g1)
    simp only [Prod.mk.injEq] at e
    obtain ⟨rfl, rfl, rfl⟩ := e
    obtain ⟨e1, e2, e3⟩ := TK_det h2 g2
    subst e1
    subst e2
    by_cases r : k = 4
    · subst r
      rw [roNx4, roNx4]
    · obtain ⟨e4, e5⟩ := e3 r
      rw [e4, e5]
theorem roRun_le {i : Nat} : ∀ {d : Nat} {x : roO}, roRun T look W H (i + d + 1) x → ∃ q c l, roRun T look W H i (.inl (q, c, l)) := by
  intro d
  induction d with
  | zero => intro x h; obtain ⟨q, c, l, h1, -⟩ := h; exact ⟨q, c, l, h1⟩
  | succ d ih => intro x h; obtain ⟨q, c, l, h1, -⟩ := h; exact ih h1
def roG (T : pT) (look : Int → List Int → Prop) (W H q c l : Int) : Prop := ∃ i, roRun T look W H i (.inl (q, c, l))
def roR (T : pT) (look : Int → List Int → Prop) (W H : Int) (r : Int × Int) : Prop := ∃ i, roRun T look W H i (.inr r)
theorem roR_det {r r' : Int × Int} (h : roR T look W H r) (h' : roR T look W H r') : r = r' := by
  obtain ⟨i, h⟩ := h
  obtain ⟨j, h'⟩ := h'
  rcases Nat.lt_trichotomy i j with e | e | e
  · obtain ⟨q, c, l, hs⟩ := roRun_le (i := i) (d := j - i - 1) (x := .inr r') (by rw [show i + (j - i - 1) + 1 = j by omega]; exact h')
    cases roRun_det h hs
  · subst e
    exact Sum.inr.inj (roRun_det h h')
  · obtain ⟨q, c, l, hs⟩ := roRun_le (i := j) (d := i - j - 1) (x := .inr r) (by rw [show j + (i - j - 1) + 1 = i by omega]; exact h)
    cases roRun_det h' hs
theorem roG_0 : roG T look W H 0 0 0 := ⟨0, rfl⟩
theorem roG_go {q' c' l' : Int} (h : roG T look W H q c l) (ht : TK T q k a z v) (e : roNx look W H T.1 q c l k a z v = rogo q' c' l') : roG T look W H q' c' l' := by
  obtain ⟨i, h⟩ := h
  exact ⟨i + 1, q, c, l, h, k, a, z, v, ht, e.symm⟩
theorem roG_fl {r : Int × Int} (h : roG T look W H q c l) (ht : TK T q k a z v) (e : roNx look W H T.1 q c l k a z v = .inr r) : roR T look W H r := by
  obtain ⟨i, h⟩ := h
  exact ⟨i + 1, q, c, l, h, k, a, z, v, ht, e.symm⟩
/-- what holds of the machine's places -/
def roIn (T : pT) (q c l : Int) : Prop := 0 ≤ q ∧ q ≤ T.2.1 ∧ 0 ≤ c ∧ c ≤ 7 ∧ 0 ≤ l ∧ l ≤ 40 ∧ (c ≠ 0 → l ≤ 39)
theorem rogo_i {q' c' l' : Int} (h : rogo q' c' l' = .inl s) : s = (q', c', l') := (Sum.inl.inj h).symm
theorem ropI {p : Prop} {x y : roO} (h : pIf p x y = .inl s) : (p ∧ x = .inl s) ∨ (¬ p ∧ y = .inl s) := by
  by_cases hp : p
  · rw [pIf_t hp] at h; exact Or.inl ⟨hp, h⟩
  · rw [pIf_f hp] at h; exact Or.inr ⟨hp, h⟩
theorem roflI {C : Prop} {p : Int} (h : rofl k p = .inl s) : C := by cases h
def roNw (T : pT) (q : Int) (s : roSt) : Prop := q < s.1 ∧ roIn T s.1 s.2.1 s.2.2
theorem roNw_i {q' c' l' : Int} (h : s = (q', c', l')) (h1 : q < q') (h2 : roIn T q' c' l') : roNw T q s := by
  subst h
  exact ⟨h1, h2⟩
theorem roNe_b (c : Int) : roNe c = 6 ∨ roNe c = 7 := by
  unfold roNe
  by_cases h : c = 5
  · rw [pIf_t h]; exact Or.inl rfl
  · rw [pIf_f h]; exact Or.inr rfl
theorem roBg_b (v : Int) : 1 ≤ roBg v ∧ roBg v ≤ 5 := by
  unfold roBg
  by_cases h : v = 14
  · rw [pIf_t h]; decide
  · rw [pIf_f h]
    by_cases h : v = 15
    · rw [pIf_t h]; decide
    · rw [pIf_f h]
      by_cases h : v = 16
      · rw [pIf_t h]; decide
      · rw [pIf_f h]; decide
theorem roNx_ok (hI : roIn T q c l) (ht : TK T q k a z v) (hl : 0 ≤ T.2.2) (hx : roNx look W H T.1 q c l k a z v = .inl s) : roNw T q s := by
  obtain ⟨i1, i2, i3, i4, i5, i6, i7⟩ := hI
  have bd := TK_bd ht i1 hl i2
  unfold roNx at hx
  rcases ropI hx with ⟨-, hx⟩ | ⟨h4, hx⟩
  · exact roflI hx
  obtain ⟨b1, b2, b3, b4, b5, b6, -, -⟩ := bd.2.2.2.2 h4
  have hb : q < z ∧ z ≤ T.2.1 ∨ k = 0 := by omega
  have e1 := roNe_b c
  have e2 := roBg_b v
  rcases ropI hx with ⟨h0, hx⟩ | ⟨h0, hx⟩
  · rcases ropI hx with ⟨-, hx⟩ | ⟨-, hx⟩
    · exact roflI hx
    rcases ropI hx with ⟨g1, hx⟩ | ⟨-, hx⟩
    · rcases ropI hx with ⟨-, hx⟩ | ⟨g2, hx⟩
      · exact roflI hx
      · exact roNw_i (rogo_i hx) (by omega) ⟨by omega, by omega, by omega, by omega, by omega, by omega, fun _ => by omega⟩
    · exact roflI hx
  have i8 := i7 h0
  rcases ropI hx with ⟨-, hx⟩ | ⟨-, hx⟩
  · rcases ropI hx with ⟨g1, hx⟩ | ⟨-, hx⟩
    · exact roNw_i (rogo_i hx) (by omega) ⟨by omega, by omega, by omega, by omega, by omega, by omega, fun _ => by omega⟩
    · exact roflI hx
  rcases ropI hx with ⟨-, hx⟩ | ⟨-, hx⟩
  · rcases ropI hx with ⟨g1, hx⟩ | ⟨-, hx⟩
    · rcases ropI hx with ⟨-, hx⟩ | ⟨-, hx⟩
      · exact roNw_i (rogo_i hx) (by omega) ⟨by omega, by omega, by omega, by omega, by omega, by omega, fun _ => by omega⟩
      · exact roflI hx
    · exact roflI hx
  rcases ropI hx with ⟨-, hx⟩ | ⟨-, hx⟩
  · rcases ropI hx with ⟨g1, hx⟩ | ⟨-, hx⟩
    · exact roNw_i (rogo_i hx) (by omega) ⟨by omega, by omega, by omega, by omega, by omega, by omega, fun w => by omega⟩
    · exact roflI hx
  rcases ropI hx with ⟨g1, hx⟩ | ⟨-, hx⟩
  · rcases ropI hx with ⟨-, hx⟩ | ⟨-, hx⟩
    · exact roNw_i (rogo_i hx) (by omega) ⟨by omega, by omega, by omega, by omega, by omega, by omega, fun _ => by omega⟩
    · exact roflI hx
  · exact roflI hx
theorem roRun_in (hn : 0 ≤ T.2.1) (hl : 0 ≤ T.2.2) : ∀ {i : Nat} {q c l : Int}, roRun T look W H i (.inl (q, c, l)) → roIn T q c l := by
  intro i
  induction i with
  | zero =>
    intro q c l hr
    have e := Sum.inl.inj (show (Sum.inl (q, c, l) : roO) = .inl (0, 0, 0) from hr)
    simp only [Prod.mk.injEq] at e
    obtain ⟨rfl, rfl, rfl⟩ := e
    exact ⟨by omega, hn, by omega, by omega, by omega, by omega, fun w => by omega⟩
  | succ i ih =>
    intro q c l hr
    obtain ⟨q0, c0, l0, h1, k, a, z, v, h2, h3⟩ := hr
    exact (roNx_ok (ih h1) h2 hl h3.symm).2
theorem roG_in (hT : tOk T) (h : roG T look W H q c l) : roIn T q c l := by
  obtain ⟨i, h⟩ := h
  exact roRun_in hT.1 hT.2.2.1 h
theorem roRun_lt (hn : 0 ≤ T.2.1) (hl : 0 ≤ T.2.2) {i : Nat} (h1 : roRun T look W H i (.inl (q, c, l))) : ∀ {d : Nat} {q' c' l' : Int}, roRun T look W H (i + d + 1) (.inl (q', c', l')) → q < q' := by
  intro d
  induction d with
  | zero =>
    intro q' c' l' h2
    obtain ⟨q0, c0, l0, g1, k, a, z, v, g2, g3⟩ := h2
    have e := Sum.inl.inj (roRun_det h1 g1)
    simp only [Prod.mk.injEq] at e
    obtain ⟨rfl, rfl, rfl⟩ := e
    exact (roNx_ok (roRun_in hn hl h1) g2 hl g3.symm).1
  | succ d ih =>
    intro q' c' l' h2
    obtain ⟨q0, c0, l0, g1, k, a, z, v, g2, g3⟩ := h2
    have h3 := ih g1
    have h4 := (roNx_ok (roRun_in hn hl g1) g2 hl g3.symm).1
    have h4 : q0 < q' := h4
    omega
/-- one state at a place -/
theorem roG_q (hT : tOk T) {c' l' : Int} (h : roG T look W H q c l) (h' : roG T look W H q c' l') : c = c' ∧ l = l' := by
  obtain ⟨i, h⟩ := h
  obtain ⟨j, h'⟩ := h'
  rcases Nat.lt_trichotomy i j with e | e | e
  · have := roRun_lt hT.1 hT.2.2.1 h (d := j - i - 1) (by rw [show i + (j - i - 1) + 1 = j by omega]; exact h')
    omega
  · subst e
    have e := Sum.inl.inj (roRun_det h h')
    simp only [Prod.mk.injEq] at e
    exact e.2
  · have := roRun_lt hT.1 hT.2.2.1 h' (d := i - j - 1) (by rw [show j + (i - j - 1) + 1 = i by omega]; exact h)
    omega
/-- machines with names alike go alike -/
theorem roRun_cg {look' : Int → List Int → Prop} (hT : tOk T) (hL : ∀ c L, isW L → (look c L ↔ look' c L)) : ∀ {i : Nat} {x : roO}, roRun T look W H i x → roRun T look' W H i x := by
  intro i
  induction i with
  | zero => intro x h; exact h
  | succ i ih =>
    intro x h
    obtain ⟨q, c, l, h1, k, a, z, v, h2, rfl⟩ := h
    refine ⟨q, c, l, ih h1, k, a, z, v, h2, ?_⟩
    have hI := roRun_in hT.1 hT.2.2.1 h1
    have bd := TK_bd h2 hI.1 hT.2.2.1 hI.2.1
    unfold roNx
    by_cases r : k = 1 ∧ v = -1
    · have hk : look 1 (bs T.1 a z) = look' 1 (bs T.1 a z) := propext (hL 1 _ ((bd.2.2.2.2 (by omega)).2.2.2.2.2.2.1 r.1).2.1)
      rw [hk]
    · rw [pIf_f (a := pIf (look 1 (bs T.1 a z)) (rogo z 5 l) (rofl 3 a)) r, pIf_f (a := pIf (look' 1 (bs T.1 a z)) (rogo z 5 l) (rofl 3 a)) r]
theorem roR_cg {look' : Int → List Int → Prop} {r : Int × Int} (hT : tOk T) (hL : ∀ c L, isW L → (look c L ↔ look' c L)) (h : roR T look W H r) : roR T look' W H r := by
  obtain ⟨i, h⟩ := h
  exact ⟨i, roRun_cg hT hL h⟩
end RSpec1
section RSpec2
variable {T : pT} {look look' : Int → List Int → Prop} {W H q c l k a z v x y i p : Int}
def roH (T : pT) (look : Int → List Int → Prop) (W H q c l k a z v : Int) : Prop := roG T look W H q c l ∧ TKB T q k a z v
def roS (T : pT) (look : Int → List Int → Prop) (W H k p : Int) : Prop := 1 ≤ k ∧ roR T look W H (k, p)
def roD (T : pT) (look : Int → List Int → Prop) (W H l : Int) : Prop := roR T look W H (0, l)
def roA (T : pT) (look : Int → List Int → Prop) (W H k : Int) : Prop := ∃ p, roR T look W H (k, p)
/-- the bounds of the number that stands next -/
def roB (T : pT) (look : Int → List Int → Prop) (W H q x y : Int) : Prop := ∃ c l, roG T look W H q c l ∧ roNum c ∧ x = roLo c ∧ y = roHi W H c
/-- the number that stands next is within its bounds -/
def roK (T : pT) (look : Int → List Int → Prop) (W H q : Int) : Prop := ∃ c l k a z v, roH T look W H q c l k a z v ∧ roNum c ∧ k = 2 ∧ roLo c ≤ v ∧ v ≤ roHi W H c
theorem roA_det {k' : Int} (h1 : roA T look W H k) (h2 : roA T look W H k') : k = k' := by
  obtain ⟨p, h1⟩ := h1
  obtain ⟨p', h2⟩ := h2
  exact congrArg Prod.fst (roR_det h1 h2)
theorem roA_cg (hT : tOk T) (hL : ∀ c L, isW L → (look c L ↔ look' c L)) (h : roA T look W H k) : roA T look' W H k := by
  obtain ⟨p, h⟩ := h
  exact ⟨p, roR_cg hT hL h⟩
theorem rox0 {b : Int → Int} (h4 : k ≠ 4) : roNx look W H b q 0 l k a z v = pIf (k = 0) (rofl 0 l) (pIf (k = 1 ∧ 14 ≤ v ∧ v ≤ 18) (pIf (40 ≤ l) (rofl 4 a) (rogo z (roBg v) l)) (rofl 1 a)) := by
  unfold roNx
  rw [pIf_f h4, pIf_t rfl]
theorem rox1 {b : Int → Int} (h4 : k ≠ 4) : roNx look W H b q 1 l k a z v = pIf (k = 1 ∧ 8 ≤ v ∧ v ≤ 12) (rogo z 2 l) (rofl 1 a) := by
  unfold roNx
  rw [pIf_f h4, pIf_f (by decide), pIf_t rfl]
theorem rox4 {b : Int → Int} (h4 : k ≠ 4) : roNx look W H b q 4 l k a z v = pIf (k = 1 ∧ v = -1) (pIf (look 1 (bs b a z)) (rogo z 5 l) (rofl 3 a)) (rofl 1 a) := by
  unfold roNx
  rw [pIf_f h4, pIf_f (by decide), pIf_f (by decide), pIf_t rfl]
theorem rox7 {b : Int → Int} (h4 : k ≠ 4) : roNx look W H b q 7 l k a z v = pIf (k = 3 ∧ v = 59) (rogo z 0 (l + 1)) (rofl 1 a) := by
  unfold roNx
  rw [pIf_f h4, pIf_f (by decide), pIf_f (by decide), pIf_f (by decide), pIf_t rfl]
theorem roxn {b : Int → Int} (h4 : k ≠ 4) (hc : roNum c) : roNx look W H b q c l k a z v = pIf (k = 2) (pIf (roLo c ≤ v ∧ v ≤ roHi W H c) (rogo z (roNe c) l) (rofl 2 a)) (rofl 1 a) := by
  unfold roNum at hc
  unfold roNx
  rw [pIf_f h4, pIf_f (by omega), pIf_f (by omega), pIf_f (by omega), pIf_f (by omega)]
theorem ro_f4 (hG : roG T look W H q c l) (ht : TKB T q 4 a z v) : roS T look W H 1 a := ⟨by decide, roG_fl hG ht.1 roNx4⟩
theorem ro_h4 (hH : roH T look W H q c l k a z v) (hk : k = 4) : roS T look W H 1 a := by
  subst hk
  exact ro_f4 hH.1 hH.2
theorem ro0_f1 (hH : roH T look W H q c l k a z v) (hc : c = 0) (h0 : k ≠ 0) (h1 : ¬ (k = 1 ∧ 14 ≤ v ∧ v ≤ 18)) : roS T look W H 1 a := by
  by_cases h4 : k = 4
  · exact ro_h4 hH h4
  · subst hc
    exact ⟨by decide, roG_fl hH.1 hH.2.1 ((rox0 h4).trans (by rw [pIf_f h0, pIf_f h1]; rfl))⟩
theorem ro0_f4 (hH : roH T look W H q c l k a z v) (hc : c = 0) (h1 : k = 1 ∧ 14 ≤ v ∧ v ≤ 18) (h2 : 40 ≤ l) : roS T look W H 4 a := by
  subst hc
  exact ⟨by decide, roG_fl hH.1 hH.2.1 ((rox0 (by omega)).trans (by rw [pIf_f (by omega), pIf_t h1, pIf_t h2]; rfl))⟩
theorem ro0_go {j : Int} (hH : roH T look W H q c l k a z v) (hc : c = 0) (h1 : k = 1 ∧ 14 ≤ v ∧ v ≤ 18) (h2 : l ≤ 39) (hj : roBg v = j) : roG T look W H z j l := by
  subst hc
  subst hj
  exact roG_go hH.1 hH.2.1 ((rox0 (by omega)).trans (by rw [pIf_f (by omega), pIf_t h1, pIf_f (by omega)]))
theorem roBg_1 (h : v = 14) : roBg v = 1 := by unfold roBg; rw [pIf_t h]
theorem roBg_4 (h : v = 15) : roBg v = 4 := by unfold roBg; rw [pIf_f (by omega), pIf_t h]
theorem roBg_3 (h : v = 16) : roBg v = 3 := by unfold roBg; rw [pIf_f (by omega), pIf_f (by omega), pIf_t h]
theorem roBg_5 (h : 17 ≤ v) : roBg v = 5 := by unfold roBg; rw [pIf_f (by omega), pIf_f (by omega), pIf_f (by omega)]
theorem ro0_end (hH : roH T look W H q c l k a z v) (hc : c = 0) (hk : k = 0) : roD T look W H l := by
  subst hc
  exact roG_fl hH.1 hH.2.1 ((rox0 (by omega)).trans (by rw [pIf_t hk]; rfl))
theorem ro1_f1 (hH : roH T look W H q c l k a z v) (hc : c = 1) (h1 : ¬ (k = 1 ∧ 8 ≤ v ∧ v ≤ 12)) : roS T look W H 1 a := by
  by_cases h4 : k = 4
  · exact ro_h4 hH h4
  · subst hc
    exact ⟨by decide, roG_fl hH.1 hH.2.1 ((rox1 h4).trans (pIf_f h1))⟩
theorem ro1_go (hH : roH T look W H q c l k a z v) (hc : c = 1) (h1 : k = 1 ∧ 8 ≤ v ∧ v ≤ 12) : roG T look W H z 2 l := by
  subst hc
  exact roG_go hH.1 hH.2.1 ((rox1 (by omega)).trans (pIf_t h1))
theorem ro4_f1 (hH : roH T look W H q c l k a z v) (hc : c = 4) (h1 : ¬ (k = 1 ∧ v = -1)) : roS T look W H 1 a := by
  by_cases h4 : k = 4
  · exact ro_h4 hH h4
  · subst hc
    exact ⟨by decide, roG_fl hH.1 hH.2.1 ((rox4 h4).trans (pIf_f h1))⟩
theorem ro4_f3 (hH : roH T look W H q c l k a z v) (hc : c = 4) (h1 : k = 1 ∧ v = -1) (hl : ¬ look 1 (bs T.1 a z)) : roS T look W H 3 a := by
  subst hc
  exact ⟨by decide, roG_fl hH.1 hH.2.1 ((rox4 (by omega)).trans (by rw [pIf_t h1, pIf_f hl]; rfl))⟩
theorem ro4_go (hH : roH T look W H q c l k a z v) (hc : c = 4) (h1 : k = 1 ∧ v = -1) (hl : look 1 (bs T.1 a z)) : roG T look W H z 5 l := by
  subst hc
  exact roG_go hH.1 hH.2.1 ((rox4 (by omega)).trans (by rw [pIf_t h1, pIf_t hl]))
theorem ro7_f1 (hH : roH T look W H q c l k a z v) (hc : c = 7) (h1 : ¬ (k = 3 ∧ v = 59)) : roS T look W H 1 a := by
  by_cases h4 : k = 4
  · exact ro_h4 hH h4
  · subst hc
    exact ⟨by decide, roG_fl hH.1 hH.2.1 ((rox7 h4).trans (pIf_f h1))⟩
theorem ro7_go (hH : roH T look W H q c l k a z v) (hc : c = 7) (h1 : k = 3 ∧ v = 59) : roG T look W H z 0 (l + 1) := by
  subst hc
  exact roG_go hH.1 hH.2.1 ((rox7 (by omega)).trans (pIf_t h1))
/-- numbers -/
theorem roB_c (hT : tOk T) (hG : roG T look W H q c l) (hB : roB T look W H q x y) : roNum c ∧ x = roLo c ∧ y = roHi W H c := by
  obtain ⟨c', l', h1, h2, h3, h4⟩ := hB
  obtain ⟨rfl, -⟩ := roG_q hT hG h1
  exact ⟨h2, h3, h4⟩
theorem ron_f1 (hT : tOk T) (hH : roH T look W H q c l k a z v) (hB : roB T look W H q x y) (h1 : k ≠ 2) : roS T look W H 1 a := by
  by_cases h4 : k = 4
  · exact ro_h4 hH h4
  · exact ⟨by decide, roG_fl hH.1 hH.2.1 ((roxn h4 (roB_c hT hH.1 hB).1).trans (pIf_f h1))⟩
theorem ron_f2 (hT : tOk T) (hH : roH T look W H q c l k a z v) (hB : roB T look W H q x y) (h1 : k = 2) (h2 : v < x ∨ y < v) : roS T look W H 2 a := by
  obtain ⟨n1, n2, n3⟩ := roB_c hT hH.1 hB
  exact ⟨by decide, roG_fl hH.1 hH.2.1 ((roxn (by omega) n1).trans (by rw [pIf_t h1, pIf_f (by rw [← n2, ← n3]; omega)]; rfl))⟩
theorem ron_k (hT : tOk T) (hH : roH T look W H q c l k a z v) (hB : roB T look W H q x y) (h1 : k = 2) (h2 : x ≤ v) (h3 : v ≤ y) : roK T look W H q := by
  obtain ⟨n1, n2, n3⟩ := roB_c hT hH.1 hB
  exact ⟨c, l, k, a, z, v, hH, n1, h1, by rw [← n2]; exact h2, by rw [← n3]; exact h3⟩
theorem ron_go {j : Int} (hT : tOk T) (hH : roH T look W H q c l k a z v) (hK : roK T look W H q) (h1 : k = 2) (hj : roNe c = j) : roG T look W H z j l := by
  obtain ⟨c', l', k', a', z', v', g1, g2, g3, g4⟩ := hK
  obtain ⟨rfl, rfl⟩ := roG_q hT hH.1 g1.1
  obtain ⟨e1, e2, e3⟩ := TK_det hH.2.1 g1.2.1
  obtain ⟨e4, e5⟩ := e3 (by omega)
  rw [← e5] at g4
  subst hj
  exact roG_go hH.1 hH.2.1 ((roxn (by omega) g2).trans (by rw [pIf_t h1, pIf_t g4]))
theorem roNe_6 (h : c = 5) : roNe c = 6 := by unfold roNe; rw [pIf_t h]
theorem roNe_7 (h : c ≠ 5) : roNe c = 7 := by unfold roNe; rw [pIf_f h]
theorem roB_2 (hG : roG T look W H q c l) (hc : c = 2) (h1 : x = 1) (h2 : y = 4) : roB T look W H q x y := by
  refine ⟨c, l, hG, by unfold roNum; omega, ?_, ?_⟩
  · unfold roLo; rw [pIf_t hc]; exact h1
  · unfold roHi; rw [pIf_t hc]; exact h2
theorem roB_3 (hG : roG T look W H q c l) (hc : c = 3) (h1 : x = 0) (h2 : y = 13) : roB T look W H q x y := by
  refine ⟨c, l, hG, by unfold roNum; omega, ?_, ?_⟩
  · unfold roLo; rw [pIf_f (by omega)]; exact h1
  · unfold roHi; rw [pIf_f (by omega), pIf_t hc]; exact h2
theorem roB_5 (hG : roG T look W H q c l) (hc : c = 5) (h1 : x = 0) (h2 : y = W - 1) : roB T look W H q x y := by
  refine ⟨c, l, hG, by unfold roNum; omega, ?_, ?_⟩
  · unfold roLo; rw [pIf_f (by omega)]; exact h1
  · unfold roHi; rw [pIf_f (by omega), pIf_f (by omega), pIf_t hc]; exact h2
theorem roB_6 (hG : roG T look W H q c l) (hc : c = 6) (h1 : x = 0) (h2 : y = H - 1) : roB T look W H q x y := by
  refine ⟨c, l, hG, by unfold roNum; omega, ?_, ?_⟩
  · unfold roLo; rw [pIf_f (by omega)]; exact h1
  · unfold roHi; rw [pIf_f (by omega), pIf_f (by omega), pIf_f (by omega)]; exact h2
theorem roH_bd (hT : tOk T) (hH : roH T look W H q c l k a z v) : (0 ≤ q ∧ q ≤ 940 ∧ 0 ≤ c ∧ c ≤ 7 ∧ 0 ≤ l ∧ l ≤ 40 ∧ (c ≠ 0 → l ≤ 39)) ∧ (0 ≤ k ∧ k ≤ 4 ∧ 0 ≤ a ∧ a ≤ 940 ∧ 0 ≤ z ∧ z ≤ 940 ∧ -1 ≤ v ∧ v ≤ 99) := by
  obtain ⟨hG, ht⟩ := hH
  obtain ⟨i1, i2, i3, i4, i5, i6, i7⟩ := roG_in hT hG
  obtain ⟨t1, t2, t3, t4, -⟩ := TK_bd ht.1 i1 hT.2.2.1 i2
  obtain ⟨-, u1, u2, u3, u4⟩ := ht
  have := hT.2.1
  exact ⟨⟨by omega, by omega, by omega, by omega, by omega, by omega, i7⟩, by omega, by omega, by omega, by omega, by omega, by omega, by omega, by omega⟩
theorem roH_k1 (hT : tOk T) (hH : roH T look W H q c l k a z v) (hk : k = 1) : isW (bs T.1 a z) ∧ v = wix (bs T.1 a z) ∧ -1 ≤ v ∧ v ≤ 29 := by
  obtain ⟨hG, ht⟩ := hH
  obtain ⟨i1, i2, i3, i4, i5, i6, i7⟩ := roG_in hT hG
  obtain ⟨t1, t2, t3, t4, t5⟩ := TK_bd ht.1 i1 hT.2.2.1 i2
  obtain ⟨b1, b2, b3, b4, b5, b6, b7, b8⟩ := t5 (by omega)
  exact ⟨(b7 hk).2.1, (b7 hk).2.2, b4, (b7 hk).1⟩
theorem roH_v2 (hT : tOk T) (hH : roH T look W H q c l k a z v) (hk : k = 2) : 0 ≤ v ∧ v ≤ 99 := by
  obtain ⟨hG, ht⟩ := hH
  obtain ⟨i1, i2, i3, i4, i5, i6, i7⟩ := roG_in hT hG
  obtain ⟨t1, t2, t3, t4, t5⟩ := TK_bd ht.1 i1 hT.2.2.1 i2
  obtain ⟨b1, b2, b3, b4, b5, b6, b7, b8⟩ := t5 (by omega)
  exact ⟨b8 hk, b5⟩
theorem roH_in (hT : tOk T) (hH : roH T look W H q c l k a z v) (hk : k ≠ 4) : 0 ≤ a ∧ z ≤ T.2.1 := by
  obtain ⟨hG, ht⟩ := hH
  obtain ⟨i1, i2, i3, i4, i5, i6, i7⟩ := roG_in hT hG
  obtain ⟨t1, t2, t3, t4, t5⟩ := TK_bd ht.1 i1 hT.2.2.1 i2
  exact ⟨t3, (t5 hk).2.2.1⟩
/-- the answer of a parish with its kind of fault -/
def ANk (T : pT) (x k : Int) : Prop := (DN T x ∧ k = 0) ∨ ∃ p, RS T k p ∧ x = -1 - p
theorem ANk_det {x' k' : Int} (h1 : ANk T x k) (h2 : ANk T x' k') : x = x' ∧ k = k' := by
  rcases h1 with ⟨h1, e1⟩ | ⟨p, ⟨k1, h1⟩, e1⟩
  · rcases h2 with ⟨h2, e2⟩ | ⟨p', ⟨k2, h2⟩, e2⟩
    · exact ⟨congrArg Prod.snd (R_det h1 h2), by omega⟩
    · have := congrArg Prod.fst (R_det h1 h2)
      have : (0 : Int) = k' := this
      omega
  · rcases h2 with ⟨h2, e2⟩ | ⟨p', ⟨k2, h2⟩, e2⟩
    · have := congrArg Prod.fst (R_det h1 h2)
      have : k = (0 : Int) := this
      omega
    · have w := R_det h1 h2
      have u1 : p = p' := congrArg Prod.snd w
      have u2 : k = k' := congrArg Prod.fst w
      exact ⟨by omega, u2⟩
end RSpec2
