section SSpec1
/-- a sentence's machine: place, control, ones so far, what it is within (base 3: 1 a 'not', 2 a bracket) -/
abbrev sSt : Type := Int × Int × Int × Int
abbrev sO : Type := sSt ⊕ (Int × Int)
def sgo (q c o t : Int) : sO := .inl (q, c, o, t)
def sfl (k p : Int) : sO := .inr (k, p)
/-- how deep: how many digits -/
def dpF : Nat → Int → Int
  | 0, _ => 0
  | n + 1, t => if t ≤ 0 then 0 else 1 + dpF n (t / 3)
def dp (t : Int) : Int := dpF 12 t
/-- without the nots on top -/
def nrF : Nat → Int → Int
  | 0, t => t
  | n + 1, t => if t % 3 = 1 then nrF n (t / 3) else t
def nr (t : Int) : Int := nrF 12 t
noncomputable def qNm (P : Prop) (k v a : Int) (o : sO) : sO := pIf (k = 1 ∧ v = -1) (pIf P o (sfl 3 a)) (sfl 1 a)
/-- which operand begins: 0 none, 1 not, 2 a bracket, 3 a whole one, 4 a kind's, 5 an owner's, 6 a strip's, 7 one with a sign -/
noncomputable def qOp (k v : Int) : Int := pIf (k = 1 ∧ v = 21) 1 (pIf (k = 3 ∧ v = 40) 2 (pIf (k = 1 ∧ (v = 13 ∨ v = 22)) 3 (pIf (k = 1 ∧ v = 23) 4 (pIf (k = 1 ∧ v = 24) 5 (pIf (k = 1 ∧ v = 25) 6 (pIf (k = 1 ∧ 26 ≤ v ∧ v ≤ 29) 7 0))))))
noncomputable def qOg (z o t j : Int) : sO := pIf (j = 1) (sgo z 0 (o + 1) (3 * t + 1)) (pIf (j = 2) (sgo z 0 (o + 1) (3 * t + 2)) (pIf (j = 3) (sgo z 6 (o + 1) (nr t)) (pIf (j = 4) (sgo z 1 (o + 1) t) (pIf (j = 5) (sgo z 2 (o + 1) t) (pIf (j = 6) (sgo z 3 (o + 1) t) (sgo z 4 (o + 1) t))))))
noncomputable def sNx (look : Int → List Int → Prop) (b : Int → Int) (q c o t k a z v : Int) : sO :=
  pIf (k = 4) (sfl 1 a)
  (pIf (c = 0) (pIf (qOp k v = 0) (sfl 1 a) (pIf (20 ≤ o ∨ 8 ≤ dp t) (sfl 4 a) (qOg z o t (qOp k v))))
  (pIf (c = 1) (qNm (look 1 (bs b a z)) k v a (sgo z 6 o (nr t)))
  (pIf (c = 2) (qNm (look 2 (bs b a z)) k v a (sgo z 6 o (nr t)))
  (pIf (c = 3) (qNm (look 3 (bs b a z)) k v a (sgo z 6 o (nr t)))
  (pIf (c = 4) (pIf (k = 3 ∧ 60 ≤ v ∧ v ≤ 62) (sgo z 5 o t) (sfl 1 a))
  (pIf (c = 5) (pIf (k = 2) (sgo z 6 o (nr t)) (sfl 1 a))
  (pIf (c = 6) (pIf (k = 0) (pIf (t = 0) (sfl 0 o) (sfl 1 a)) (pIf (k = 1 ∧ (v = 19 ∨ v = 20)) (sgo z 0 o t) (pIf (k = 3 ∧ v = 41 ∧ t % 3 = 2) (sgo z 6 o (nr (t / 3))) (sfl 1 a)))) (sfl 9 a))))))))
variable {T : pT} {look : Int → List Int → Prop} {q c o t k a z v : Int} {s s' : sSt}
def SRun (T : pT) (look : Int → List Int → Prop) : Nat → sO → Prop
  | 0, x => x = sgo 0 0 0 0
  | i + 1, x => ∃ q c o t, SRun T look i (.inl (q, c, o, t)) ∧ ∃ k a z v, TK T q k a z v ∧ x = sNx look T.1 q c o t k a z v
theorem sNx4 {b : Int → Int} : sNx look b q c o t 4 a z v = sfl 1 a := by
  unfold sNx
  rw [pIf_t rfl]
theorem SRun_det : ∀ {i : Nat} {x x' : sO}, SRun T look i x → SRun T look i x' → x = x' := by
  intro i
  induction i with
  | zero => intro x x' h h'; exact Eq.trans (show x = _ from h) (Eq.symm (show x' = _ from h'))
  | succ i ih =>
    intro x x' h h'
    obtain ⟨q, c, o, t, h1, k, a, z, v, h2, rfl⟩ := h
    obtain ⟨q', c', o', t', g1, k', a', z', v', g2, rfl⟩ := h'
    have e := Sum.inl.inj (ih h1 g1)
    simp only [Prod.mk.injEq] at e
    obtain ⟨rfl, rfl, rfl, rfl⟩ := e
    obtain ⟨e1, e2, e3⟩ := TK_det h2 g2
    subst e1
    subst e2
    by_cases r : k = 4
    · subst r
      rw [sNx4, sNx4]
    · obtain ⟨e4, e5⟩ := e3 r
      rw [e4, e5]
theorem SRun_le {i : Nat} : ∀ {d : Nat} {x : sO}, SRun T look (i + d + 1) x → ∃ q c o t, SRun T look i (.inl (q, c, o, t)) := by
  intro d
  induction d with
  | zero => intro x h; obtain ⟨q, c, o, t, h1, -⟩ := h; exact ⟨q, c, o, t, h1⟩
  | succ d ih => intro x h; obtain ⟨q, c, o, t, h1, -⟩ := h; exact ih h1
def SG (T : pT) (look : Int → List Int → Prop) (q c o t : Int) : Prop := ∃ i, SRun T look i (.inl (q, c, o, t))
def SR (T : pT) (look : Int → List Int → Prop) (r : Int × Int) : Prop := ∃ i, SRun T look i (.inr r)
theorem SR_det {r r' : Int × Int} (h : SR T look r) (h' : SR T look r') : r = r' := by
  obtain ⟨i, h⟩ := h
  obtain ⟨j, h'⟩ := h'
  rcases Nat.lt_trichotomy i j with e | e | e
  · obtain ⟨q, c, o, t, hs⟩ := SRun_le (i := i) (d := j - i - 1) (x := .inr r') (by rw [show i + (j - i - 1) + 1 = j by omega]; exact h')
    cases SRun_det h hs
  · subst e
    exact Sum.inr.inj (SRun_det h h')
  · obtain ⟨q, c, o, t, hs⟩ := SRun_le (i := j) (d := i - j - 1) (x := .inr r) (by rw [show j + (i - j - 1) + 1 = i by omega]; exact h)
    cases SRun_det h' hs
theorem SG_0 : SG T look 0 0 0 0 := ⟨0, rfl⟩
theorem SG_go {q' c' o' t' : Int} (h : SG T look q c o t) (ht : TK T q k a z v) (e : sNx look T.1 q c o t k a z v = sgo q' c' o' t') : SG T look q' c' o' t' := by
  obtain ⟨i, h⟩ := h
  exact ⟨i + 1, q, c, o, t, h, k, a, z, v, ht, e.symm⟩
theorem SG_fl {r : Int × Int} (h : SG T look q c o t) (ht : TK T q k a z v) (e : sNx look T.1 q c o t k a z v = .inr r) : SR T look r := by
  obtain ⟨i, h⟩ := h
  exact ⟨i + 1, q, c, o, t, h, k, a, z, v, ht, e.symm⟩
/-- only what the names are among words matters -/
theorem qNm_cg {P P' : Prop} {x : sO} (h : k = 1 → P = P') : qNm P k v a x = qNm P' k v a x := by
  unfold qNm
  by_cases r : k = 1 ∧ v = -1
  · rw [pIf_t r, pIf_t r, h r.1]
  · rw [pIf_f r, pIf_f r]
theorem dpF_lt : ∀ (n m : Nat) (t : Int), 0 ≤ t → m < n → dpF n t ≤ m → t < 3 ^ m := by
  intro n
  induction n with
  | zero => intro m t _ h; omega
  | succ n ih =>
    intro m t h0 h1 h2
    have h2 : (if t ≤ 0 then 0 else 1 + dpF n (t / 3)) ≤ (m : Int) := h2
    by_cases r : t ≤ 0
    · have : (0 : Int) < 3 ^ m := Int.pow_pos (by decide)
      omega
    · rw [if_neg r] at h2
      cases m with
      | zero =>
        have : 0 ≤ dpF n (t / 3) := by
          have key : ∀ (n : Nat) (t : Int), 0 ≤ dpF n t := by
            intro n
            induction n with
            | zero => intro t; exact Int.le_refl 0
            | succ n ih =>
              intro t
              show 0 ≤ (if t ≤ 0 then 0 else 1 + dpF n (t / 3))
              by_cases r : t ≤ 0
              · rw [if_pos r]; exact Int.le_refl 0
              · rw [if_neg r]; have := ih (t / 3); omega
          exact key n _
        omega
      | succ m =>
        have h3 := ih m (t / 3) (by omega) (by omega) (by omega)
        rw [Int.pow_succ]
        omega
theorem dpF_nn : ∀ (n : Nat) (t : Int), 0 ≤ dpF n t := by
  intro n
  induction n with
  | zero => intro t; exact Int.le_refl 0
  | succ n ih =>
    intro t
    show 0 ≤ (if t ≤ 0 then 0 else 1 + dpF n (t / 3))
    by_cases r : t ≤ 0
    · rw [if_pos r]; exact Int.le_refl 0
    · rw [if_neg r]; have := ih (t / 3); omega
/-- a fuel more makes no difference where it is enough -/
theorem dpF_s : ∀ (n m : Nat) (t : Int), 0 ≤ t → m < n → t < 3 ^ m → dpF (n + 1) t = dpF n t := by
  intro n
  induction n with
  | zero => intro m t _ h; omega
  | succ n ih =>
    intro m t h0 h1 h2
    show (if t ≤ 0 then 0 else 1 + dpF (n + 1) (t / 3)) = (if t ≤ 0 then 0 else 1 + dpF n (t / 3))
    by_cases r : t ≤ 0
    · rw [if_pos r, if_pos r]
    · rw [if_neg r, if_neg r]
      cases m with
      | zero => rw [Int.pow_zero] at h2; omega
      | succ m => rw [ih m (t / 3) (by omega) (by omega) (by rw [Int.pow_succ] at h2; omega)]
theorem dp_3 {j : Int} (h0 : 0 ≤ t) (h1 : t < 59049) (hj : j = 1 ∨ j = 2) : dp (3 * t + j) = 1 + dp t := by
  have e : dpF 12 (3 * t + j) = 1 + dpF 11 ((3 * t + j) / 3) := by
    show (if 3 * t + j ≤ 0 then 0 else 1 + dpF 11 ((3 * t + j) / 3)) = _
    rw [if_neg (by omega)]
  unfold dp
  rw [e, show (3 * t + j) / 3 = t by omega]
  have e2 : dpF 12 t = dpF 11 t := dpF_s 11 10 t h0 (by decide) (by show t < 59049; exact h1)
  rw [e2]
theorem nrF_b : ∀ (n : Nat) (t : Int), 0 ≤ t → 0 ≤ nrF n t ∧ nrF n t ≤ t := by
  intro n
  induction n with
  | zero => intro t h; exact ⟨h, Int.le_refl t⟩
  | succ n ih =>
    intro t h
    show 0 ≤ (if t % 3 = 1 then nrF n (t / 3) else t) ∧ (if t % 3 = 1 then nrF n (t / 3) else t) ≤ t
    by_cases r : t % 3 = 1
    · rw [if_pos r]
      have := ih (t / 3) (by omega)
      omega
    · rw [if_neg r]
      exact ⟨h, Int.le_refl t⟩
theorem nrF_3 : ∀ (n : Nat) (t : Int), 0 ≤ t → t < 3 ^ n → ¬ nrF n t % 3 = 1 := by
  intro n
  induction n with
  | zero =>
    intro t h0 h1
    rw [Int.pow_zero] at h1
    show ¬ t % 3 = 1
    omega
  | succ n ih =>
    intro t h0 h1
    show ¬ (if t % 3 = 1 then nrF n (t / 3) else t) % 3 = 1
    by_cases r : t % 3 = 1
    · rw [if_pos r]
      exact ih (t / 3) (by omega) (by rw [Int.pow_succ] at h1; omega)
    · rw [if_neg r]
      exact r
theorem nr_b (h0 : 0 ≤ t) : 0 ≤ nr t ∧ nr t ≤ t := nrF_b 12 t h0
theorem nr_3 (h0 : 0 ≤ t) (h1 : t ≤ 6560) : ¬ nr t % 3 = 1 := nrF_3 12 t h0 (by show t < 531441; omega)
theorem dp_lt (h0 : 0 ≤ t) (h1 : dp t ≤ 7) : t ≤ 2186 := by
  have := dpF_lt 12 7 t h0 (by decide) h1
  have : t < 2187 := this
  omega
/-- what holds of the machine's places -/
def qIn (T : pT) (q c o t : Int) : Prop := 0 ≤ q ∧ q ≤ T.2.1 ∧ 0 ≤ c ∧ c ≤ 6 ∧ 0 ≤ o ∧ o ≤ 20 ∧ 0 ≤ t ∧ t ≤ 6560 ∧ (c = 6 → ¬ t % 3 = 1)
theorem sgo_i {q' c' o' t' : Int} (h : sgo q' c' o' t' = .inl s) : s = (q', c', o', t') := (Sum.inl.inj h).symm
theorem spI {p : Prop} {x y : sO} (h : pIf p x y = .inl s) : (p ∧ x = .inl s) ∨ (¬ p ∧ y = .inl s) := by
  by_cases hp : p
  · rw [pIf_t hp] at h; exact Or.inl ⟨hp, h⟩
  · rw [pIf_f hp] at h; exact Or.inr ⟨hp, h⟩
theorem sflI {C : Prop} {p : Int} (h : sfl k p = .inl s) : C := by cases h
def sNw (T : pT) (q : Int) (s : sSt) : Prop := q < s.1 ∧ qIn T s.1 s.2.1 s.2.2.1 s.2.2.2
theorem sNw_i {q' c' o' t' : Int} (h : s = (q', c', o', t')) (h1 : q < q') (h2 : qIn T q' c' o' t') : sNw T q s := by
  subst h
  exact ⟨h1, h2⟩
theorem s_nm {P : Prop} (hI : qIn T q c o t) (hb : q < z ∧ z ≤ T.2.1 ∨ k = 0) (hx : qNm P k v a (sgo z 6 o (nr t)) = .inl s) : sNw T q s := by
  obtain ⟨i1, i2, i3, i4, i5, i6, i7, i8, i9⟩ := hI
  rcases spI hx with ⟨⟨h1, -⟩, hx⟩ | ⟨-, hx⟩
  · rcases spI hx with ⟨-, hx⟩ | ⟨-, hx⟩
    · have n1 := nr_b i7
      have n2 := nr_3 i7 i8
      exact sNw_i (sgo_i hx) (by omega) ⟨by omega, by omega, by omega, by omega, i5, i6, by omega, by omega, fun _ => n2⟩
    · exact sflI hx
  · exact sflI hx
theorem qOp_r (k v : Int) : qOp k v = 0 ∨ (k = 1 ∨ k = 3) := by
  by_cases h : k = 1 ∨ k = 3
  · exact Or.inr h
  · left
    unfold qOp
    rw [pIf_f (fun w => h (Or.inl w.1)), pIf_f (fun w => h (Or.inr w.1)), pIf_f (fun w => h (Or.inl w.1)), pIf_f (fun w => h (Or.inl w.1)), pIf_f (fun w => h (Or.inl w.1)), pIf_f (fun w => h (Or.inl w.1)), pIf_f (fun w => h (Or.inl w.1))]
theorem sNx_ok (hI : qIn T q c o t) (ht : TK T q k a z v) (hl : 0 ≤ T.2.2) (hx : sNx look T.1 q c o t k a z v = .inl s) : sNw T q s := by
  have hJ := hI
  obtain ⟨i1, i2, i3, i4, i5, i6, i7, i8, i9⟩ := hI
  have bd := TK_bd ht i1 hl i2
  unfold sNx at hx
  rcases spI hx with ⟨-, hx⟩ | ⟨h4, hx⟩
  · exact sflI hx
  obtain ⟨b1, b2, b3, b4, b5, b6, -, -⟩ := bd.2.2.2.2 h4
  have hb : q < z ∧ z ≤ T.2.1 ∨ k = 0 := by omega
  have n1 := nr_b i7
  have n2 := nr_3 i7 i8
  rcases spI hx with ⟨h0, hx⟩ | ⟨-, hx⟩
  · rcases spI hx with ⟨-, hx⟩ | ⟨g1, hx⟩
    · exact sflI hx
    rcases spI hx with ⟨-, hx⟩ | ⟨g2, hx⟩
    · exact sflI hx
    have hk : k = 1 ∨ k = 3 := by
      rcases qOp_r k v with r | r
      · exact absurd r g1
      · exact r
    have t1 := dp_lt (t := t) i7 (by omega)
    unfold qOg at hx
    rcases spI hx with ⟨-, hx⟩ | ⟨-, hx⟩
    · exact sNw_i (sgo_i hx) (by omega) ⟨by omega, by omega, by omega, by omega, by omega, by omega, by omega, by omega, fun w => by omega⟩
    rcases spI hx with ⟨-, hx⟩ | ⟨-, hx⟩
    · exact sNw_i (sgo_i hx) (by omega) ⟨by omega, by omega, by omega, by omega, by omega, by omega, by omega, by omega, fun w => by omega⟩
    rcases spI hx with ⟨-, hx⟩ | ⟨-, hx⟩
    · exact sNw_i (sgo_i hx) (by omega) ⟨by omega, by omega, by omega, by omega, by omega, by omega, by omega, by omega, fun _ => n2⟩
    rcases spI hx with ⟨-, hx⟩ | ⟨-, hx⟩
    · exact sNw_i (sgo_i hx) (by omega) ⟨by omega, by omega, by omega, by omega, by omega, by omega, by omega, by omega, fun w => by omega⟩
    rcases spI hx with ⟨-, hx⟩ | ⟨-, hx⟩
    · exact sNw_i (sgo_i hx) (by omega) ⟨by omega, by omega, by omega, by omega, by omega, by omega, by omega, by omega, fun w => by omega⟩
    rcases spI hx with ⟨-, hx⟩ | ⟨-, hx⟩
    · exact sNw_i (sgo_i hx) (by omega) ⟨by omega, by omega, by omega, by omega, by omega, by omega, by omega, by omega, fun w => by omega⟩
    · exact sNw_i (sgo_i hx) (by omega) ⟨by omega, by omega, by omega, by omega, by omega, by omega, by omega, by omega, fun w => by omega⟩
  rcases spI hx with ⟨-, hx⟩ | ⟨-, hx⟩
  · exact s_nm hJ hb hx
  rcases spI hx with ⟨-, hx⟩ | ⟨-, hx⟩
  · exact s_nm hJ hb hx
  rcases spI hx with ⟨-, hx⟩ | ⟨-, hx⟩
  · exact s_nm hJ hb hx
  rcases spI hx with ⟨-, hx⟩ | ⟨-, hx⟩
  · rcases spI hx with ⟨⟨h3, -⟩, hx⟩ | ⟨-, hx⟩
    · exact sNw_i (sgo_i hx) (by omega) ⟨by omega, by omega, by omega, by omega, i5, i6, i7, i8, fun w => by omega⟩
    · exact sflI hx
  rcases spI hx with ⟨-, hx⟩ | ⟨-, hx⟩
  · rcases spI hx with ⟨h3, hx⟩ | ⟨-, hx⟩
    · exact sNw_i (sgo_i hx) (by omega) ⟨by omega, by omega, by omega, by omega, i5, i6, by omega, by omega, fun _ => n2⟩
    · exact sflI hx
  rcases spI hx with ⟨-, hx⟩ | ⟨-, hx⟩
  · rcases spI hx with ⟨-, hx⟩ | ⟨hk, hx⟩
    · rcases spI hx with ⟨-, hx⟩ | ⟨-, hx⟩
      · exact sflI hx
      · exact sflI hx
    rcases spI hx with ⟨⟨h3, -⟩, hx⟩ | ⟨-, hx⟩
    · exact sNw_i (sgo_i hx) (by omega) ⟨by omega, by omega, by omega, by omega, i5, i6, i7, i8, fun w => by omega⟩
    rcases spI hx with ⟨⟨h3, -, h5⟩, hx⟩ | ⟨-, hx⟩
    · have m1 := nr_b (t := t / 3) (by omega)
      have m2 := nr_3 (t := t / 3) (by omega) (by omega)
      exact sNw_i (sgo_i hx) (by omega) ⟨by omega, by omega, by omega, by omega, i5, i6, by omega, by omega, fun _ => m2⟩
    · exact sflI hx
  · exact sflI hx
theorem SRun_in (hn : 0 ≤ T.2.1) (hl : 0 ≤ T.2.2) : ∀ {i : Nat} {q c o t : Int}, SRun T look i (.inl (q, c, o, t)) → qIn T q c o t := by
  intro i
  induction i with
  | zero =>
    intro q c o t hr
    have e := Sum.inl.inj (show (Sum.inl (q, c, o, t) : sO) = .inl (0, 0, 0, 0) from hr)
    simp only [Prod.mk.injEq] at e
    obtain ⟨rfl, rfl, rfl, rfl⟩ := e
    exact ⟨by omega, hn, by omega, by omega, by omega, by omega, by omega, by omega, fun w => by omega⟩
  | succ i ih =>
    intro q c o t hr
    obtain ⟨q0, c0, o0, t0, h1, k, a, z, v, h2, h3⟩ := hr
    exact (sNx_ok (ih h1) h2 hl h3.symm).2
theorem SG_in (hT : tOk T) (h : SG T look q c o t) : qIn T q c o t := by
  obtain ⟨i, h⟩ := h
  exact SRun_in hT.1 hT.2.2.1 h
theorem SRun_lt (hn : 0 ≤ T.2.1) (hl : 0 ≤ T.2.2) {i : Nat} (h1 : SRun T look i (.inl (q, c, o, t))) : ∀ {d : Nat} {q' c' o' t' : Int}, SRun T look (i + d + 1) (.inl (q', c', o', t')) → q < q' := by
  intro d
  induction d with
  | zero =>
    intro q' c' o' t' h2
    obtain ⟨q0, c0, o0, t0, g1, k, a, z, v, g2, g3⟩ := h2
    have e := Sum.inl.inj (SRun_det h1 g1)
    simp only [Prod.mk.injEq] at e
    obtain ⟨rfl, rfl, rfl, rfl⟩ := e
    exact (sNx_ok (SRun_in hn hl h1) g2 hl g3.symm).1
  | succ d ih =>
    intro q' c' o' t' h2
    obtain ⟨q0, c0, o0, t0, g1, k, a, z, v, g2, g3⟩ := h2
    have h3 := ih g1
    have h4 := (sNx_ok (SRun_in hn hl g1) g2 hl g3.symm).1
    have h4 : q0 < q' := h4
    omega
/-- one state at a place -/
theorem SG_q (hT : tOk T) {c' o' t' : Int} (h : SG T look q c o t) (h' : SG T look q c' o' t') : c = c' ∧ o = o' ∧ t = t' := by
  obtain ⟨i, h⟩ := h
  obtain ⟨j, h'⟩ := h'
  rcases Nat.lt_trichotomy i j with e | e | e
  · have := SRun_lt hT.1 hT.2.2.1 h (d := j - i - 1) (by rw [show i + (j - i - 1) + 1 = j by omega]; exact h')
    omega
  · subst e
    have e := Sum.inl.inj (SRun_det h h')
    simp only [Prod.mk.injEq] at e
    exact e.2
  · have := SRun_lt hT.1 hT.2.2.1 h' (d := i - j - 1) (by rw [show j + (i - j - 1) + 1 = i by omega]; exact h)
    omega
/-- machines with names alike go alike -/
theorem SRun_cg {look' : Int → List Int → Prop} (hT : tOk T) (hL : ∀ c L, isW L → (look c L ↔ look' c L)) : ∀ {i : Nat} {x : sO}, SRun T look i x → SRun T look' i x := by
  intro i
  induction i with
  | zero => intro x h; exact h
  | succ i ih =>
    intro x h
    obtain ⟨q, c, o, t, h1, k, a, z, v, h2, rfl⟩ := h
    refine ⟨q, c, o, t, ih h1, k, a, z, v, h2, ?_⟩
    have hI := SRun_in hT.1 hT.2.2.1 h1
    have bd := TK_bd h2 hI.1 hT.2.2.1 hI.2.1
    have hk : ∀ c, k = 1 → look c (bs T.1 a z) = look' c (bs T.1 a z) := fun c e => propext (hL c _ ((bd.2.2.2.2 (by omega)).2.2.2.2.2.2.1 e).2.1)
    unfold sNx
    rw [qNm_cg (hk 1), qNm_cg (hk 2), qNm_cg (hk 3)]
theorem SR_cg {look' : Int → List Int → Prop} {r : Int × Int} (hT : tOk T) (hL : ∀ c L, isW L → (look c L ↔ look' c L)) (h : SR T look r) : SR T look' r := by
  obtain ⟨i, h⟩ := h
  exact ⟨i, SRun_cg hT hL h⟩
end SSpec1
