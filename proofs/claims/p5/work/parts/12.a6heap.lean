section CkHeap
theorem sSgAt_mem {i : Nat} {t : sTp} : ∀ {sg : sSg}, sSgAt sg i = some t → ∃ q ∈ sg, q.1 ≤ i ∧ i < q.2.1 ∧ q.2.2 = t := by
  intro sg
  induction sg with
  | nil => intro h; cases h
  | cons q sg ih =>
    intro h
    have h : cond (cond (Nat.ble q.1 i) (Nat.blt i q.2.1) false) (some q.2.2) (sSgAt sg i) = some t := h
    cases hb : cond (Nat.ble q.1 i) (Nat.blt i q.2.1) false
    · rw [hb] at h
      obtain ⟨w, h1, h2⟩ := ih h
      exact ⟨w, List.mem_cons_of_mem _ h1, h2⟩
    · rw [hb] at h
      obtain ⟨h1, h2⟩ := eC_t hb
      exact ⟨q, List.mem_cons_self, Nat.le_of_ble_eq_true h1, eB_l h2, Option.some.inj h⟩
noncomputable def sOv (sg : sSg) (lo hi : Nat) : sSg := @List.rec (Nat × Nat × sTp) (fun _ => sSg) [] (fun q _ ih => cond (cond (Nat.ble q.1 hi) (Nat.blt lo q.2.1) false) (q :: ih) ih) sg
theorem sOv_mem {lo hi : Nat} {q : Nat × Nat × sTp} (h1 : q.1 ≤ hi) (h2 : lo < q.2.1) : ∀ {sg : sSg}, q ∈ sg → q ∈ sOv sg lo hi := by
  intro sg
  induction sg with
  | nil => intro h; cases h
  | cons w sg ih =>
    intro h
    have e : sOv (w :: sg) lo hi = cond (cond (Nat.ble w.1 hi) (Nat.blt lo w.2.1) false) (w :: sOv sg lo hi) (sOv sg lo hi) := rfl
    rw [e]
    rcases List.mem_cons.mp h with rfl | h
    · rw [Nat.ble_eq_true_of_le h1, show Nat.blt lo q.2.1 = true from Nat.ble_eq_true_of_le h2]
      exact List.mem_cons_self
    · cases cond (Nat.ble w.1 hi) (Nat.blt lo w.2.1) false
      · exact ih h
      · exact List.mem_cons_of_mem _ (ih h)
theorem sOv_at {sg : sSg} {i : Nat} {t : sTp} {lo hi : Nat} (h : sSgAt sg i = some t) (h1 : lo ≤ i) (h2 : i ≤ hi) : ∃ q ∈ sOv sg lo hi, q.1 ≤ i ∧ i < q.2.1 ∧ q.2.2 = t := by
  obtain ⟨q, a, b, c, d⟩ := sSgAt_mem h
  exact ⟨q, sOv_mem (by omega) (by omega) a, b, c, d⟩
noncomputable def sCov (sg : sSg) (n : Nat) : Nat → Bool := @List.rec (Nat × Nat × sTp) (fun _ => Nat → Bool) (fun a => Nat.beq a n) (fun q _ ih a => cond (Nat.beq q.1 a) (ih q.2.1) false) sg
theorem sCov_ok {n i : Nat} (hi : i < n) : ∀ {sg : sSg} {a : Nat}, sCov sg n a = true → a ≤ i → ∃ t, sSgAt sg i = some t := by
  intro sg
  induction sg with
  | nil =>
    intro a h ha
    have := Nat.eq_of_beq_eq_true (show Nat.beq a n = true from h)
    omega
  | cons q sg ih =>
    intro a h ha
    obtain ⟨h1, h2⟩ := eC_t (show cond (Nat.beq q.1 a) (sCov sg n q.2.1) false = true from h)
    have h1 := Nat.eq_of_beq_eq_true h1
    have e : sSgAt (q :: sg) i = cond (cond (Nat.ble q.1 i) (Nat.blt i q.2.1) false) (some q.2.2) (sSgAt sg i) := rfl
    rw [e, Nat.ble_eq_true_of_le (by omega : q.1 ≤ i)]
    by_cases hq : i < q.2.1
    · rw [show Nat.blt i q.2.1 = true from Nat.ble_eq_true_of_le hq]
      exact ⟨_, rfl⟩
    · rw [show Nat.blt i q.2.1 = false from by rw [← Bool.not_eq_true]; exact fun z => hq (eB_l z)]
      exact ih h2 (by omega)
theorem tAll : (List.range tNC).all (fun c => cond (sCov (tSg (tRO c)) (tLe (tRO c)) 0) ((tCe (tRO c)).contains c) false) = true := by decide +kernel
theorem tAll_at {c : Nat} (h : c < tNC) : sCov (tSg (tRO c)) (tLe (tRO c)) 0 = true ∧ c ∈ tCe (tRO c) := by
  have := List.all_eq_true.mp tAll c (List.mem_range.mpr h)
  obtain ⟨a, b⟩ := eC_t this
  exact ⟨a, List.contains_iff_mem.mp b⟩
theorem tTy {hp : Lean.RArray Nat} (hO : hOk hp) {c i : Nat} (hc : c < tNC) (hi : i < tLe (tRO c)) : ∃ t, sSgAt (tSg (tRO c)) i = some t ∧ tyOk t (hv hp c i) := by
  obtain ⟨t, ht⟩ := sCov_ok hi (tAll_at hc).1 (Nat.zero_le i)
  exact ⟨t, ht, (hO.2 c hc).2.2 i t ht⟩
theorem tNrm {hp : Lean.RArray Nat} (hO : hOk hp) {c i : Nat} (hc : c < tNC) (hi : i < tLe (tRO c)) (env : evEnv) : eNrm env (hv hp c i) = hv hp c i := by
  obtain ⟨t, -, h⟩ := tTy hO hc hi
  match t, h with
  | .inl q, h => obtain ⟨x, -, -, -, -, e⟩ := h; rw [e]; exact cI_nrm env x
  | .inr (.inl _), h => exact eNrm_4 env h.1
  | .inr (.inr ros), h => obtain ⟨x, -, -, e⟩ := h; rw [e]; exact cR_nrm env x
/-- known: a number that has one value only -/
noncomputable def sNrm (N : sNm) (v : sVl) (k : sVl → Bool) : Bool := cond (cond (Nat.beq v.1 1) (cond (sIsK v.2) false true) false) (zF (sLo N v.2) (fun a => cond (zEq a (sHi N v.2)) (k (1, a, [])) (k v))) (k v)
theorem sNrm_ok {r : List Int} {N : sNm} (hN : sNOk tSg r N) {v : sVl} {w : Nat} (h : vOk r v w) {k : sVl → Bool} (hk : sNrm N v k = true) : ∃ v', vOk r v' w ∧ k v' = true := by
  unfold sNrm at hk
  rcases sCh hk with ⟨h1, hk⟩ | ⟨-, hk⟩
  · obtain ⟨h1, -⟩ := eC_t h1
    obtain ⟨x, q1, q2, q3, rfl⟩ := vOk_I h h1
    rw [zF_eq] at hk
    rcases sCh hk with ⟨h2, hk⟩ | ⟨-, hk⟩
    · have e := zEq_ok h2
      have b1 := sLo_ok hN q1
      have b2 := sHi_ok hN q1
      have ex : sLo N v.2 = x := by omega
      rw [ex] at hk
      exact ⟨_, vOk_i (sE_k r x) q2 q3, hk⟩
    · exact ⟨v, h, hk⟩
  · exact ⟨v, h, hk⟩
/-- a slot of which something is known -/
noncomputable def sLk (rf : List sRf) (ro : Nat) (ce ix : sLn) (k : sVl → Bool) (no : Bool) : Bool := @List.rec sRf (fun _ => Bool) no (fun q _ ih => cond (cond (Nat.beq q.1.1 ro) (cond (sLeq q.1.2 ce) (sLeq q.2.1 ix) false) false) (k q.2.2) ih) rf
theorem sLk_ok {ro : Nat} {ce ix : sLn} {k : sVl → Bool} {no : Bool} : ∀ {rf : List sRf}, sLk rf ro ce ix k no = true → no = true ∨ ∃ v, ((ro, ce), ix, v) ∈ rf ∧ k v = true := by
  intro rf
  induction rf with
  | nil => intro h; exact Or.inl h
  | cons q rf ih =>
    intro h
    rcases sCh (show cond (cond (Nat.beq q.1.1 ro) (cond (sLeq q.1.2 ce) (sLeq q.2.1 ix) false) false) (k q.2.2) (sLk rf ro ce ix k no) = true from h) with ⟨a, b⟩ | ⟨-, b⟩
    · obtain ⟨a1, a2⟩ := eC_t a
      obtain ⟨a2, a3⟩ := eC_t a2
      obtain ⟨⟨q1, q2⟩, q3, q4⟩ := q
      have e1 : q1 = ro := Nat.eq_of_beq_eq_true a1
      have e2 : q2 = ce := sLeq_ok a2
      have e3 : q3 = ix := sLeq_ok a3
      subst e1 e2 e3
      exact Or.inr ⟨q4, List.mem_cons_self, b⟩
    · rcases ih b with c | ⟨v, c, d⟩
      · exact Or.inl c
      · exact Or.inr ⟨v, List.mem_cons_of_mem _ c, d⟩
noncomputable def sAllI (os : sSg) (lo hi : Int) : Bool := @List.rec (Nat × Nat × sTp) (fun _ => Bool) true (fun q _ ih => match q.2.2 with | .inl p => cond (zLe lo p.1) (cond (zLe p.2 hi) ih false) false | .inr _ => false) os
theorem sAllI_ok {lo hi : Int} : ∀ {os : sSg}, sAllI os lo hi = true → ∀ q ∈ os, ∃ p, q.2.2 = .inl p ∧ lo ≤ p.1 ∧ p.2 ≤ hi := by
  intro os
  induction os with
  | nil => intro _ q hq; cases hq
  | cons w os ih =>
    intro h q hq
    have h : (match w.2.2 with | .inl p => cond (zLe lo p.1) (cond (zLe p.2 hi) (sAllI os lo hi) false) false | .inr _ => false) = true := h
    cases ht : w.2.2 with
    | inr z => rw [ht] at h; cases h
    | inl p =>
      rw [ht] at h
      obtain ⟨h1, h⟩ := eC_t h
      obtain ⟨h2, h⟩ := eC_t h
      rcases List.mem_cons.mp hq with rfl | hq
      · exact ⟨p, ht, zLe_iff.mp h1, zLe_iff.mp h2⟩
      · exact ih h q hq
/-- all of them hold what lies from lo to hi -/
noncomputable def sFitA (os : sSg) (lo hi : Int) : Bool := @List.rec (Nat × Nat × sTp) (fun _ => Bool) true (fun q _ ih => match q.2.2 with | .inl p => cond (zLe p.1 lo) (cond (zLe hi p.2) ih false) false | .inr _ => false) os
theorem sFitA_ok {lo hi : Int} : ∀ {os : sSg}, sFitA os lo hi = true → ∀ q ∈ os, ∃ p, q.2.2 = .inl p ∧ p.1 ≤ lo ∧ hi ≤ p.2 := by
  intro os
  induction os with
  | nil => intro _ q hq; cases hq
  | cons w os ih =>
    intro h q hq
    have h : (match w.2.2 with | .inl p => cond (zLe p.1 lo) (cond (zLe hi p.2) (sFitA os lo hi) false) false | .inr _ => false) = true := h
    cases ht : w.2.2 with
    | inr z => rw [ht] at h; cases h
    | inl p =>
      rw [ht] at h
      obtain ⟨h1, h⟩ := eC_t h
      obtain ⟨h2, h⟩ := eC_t h
      rcases List.mem_cons.mp hq with rfl | hq
      · exact ⟨p, ht, zLe_iff.mp h1, zLe_iff.mp h2⟩
      · exact ih h q hq
noncomputable def sAllL (os : sSg) : Bool := @List.rec (Nat × Nat × sTp) (fun _ => Bool) true (fun q _ ih => match q.2.2 with | .inr (.inl _) => ih | _ => false) os
theorem sAllL_ok : ∀ {os : sSg}, sAllL os = true → ∀ q ∈ os, q.2.2 = .inr (.inl ()) := by
  intro os
  induction os with
  | nil => intro _ q hq; cases hq
  | cons w os ih =>
    intro h q hq
    have h : (match w.2.2 with | .inr (.inl _) => sAllL os | _ => false) = true := h
    cases ht : w.2.2 with
    | inl z => rw [ht] at h; cases h
    | inr z =>
      cases z with
      | inr y => rw [ht] at h; cases h
      | inl y =>
        rw [ht] at h
        rcases List.mem_cons.mp hq with rfl | hq
        · exact ht
        · exact ih h q hq
noncomputable def sIn1 (l : List Nat) (n : Nat) : Bool := @List.rec Nat (fun _ => Bool) false (fun m _ ih => cond (Nat.beq m n) true ih) l
theorem sIn1_ok {n : Nat} : ∀ {l : List Nat}, sIn1 l n = true → n ∈ l := by
  intro l
  induction l with
  | nil => intro h; cases h
  | cons m l ih =>
    intro h
    rcases sCh (show cond (Nat.beq m n) true (sIn1 l n) = true from h) with ⟨a, -⟩ | ⟨-, b⟩
    · rw [Nat.eq_of_beq_eq_true a]; exact List.mem_cons_self
    · exact List.mem_cons_of_mem _ (ih b)
/-- all of l are in m -/
noncomputable def sSubl (l m : List Nat) : Bool := @List.rec Nat (fun _ => Bool) true (fun n _ ih => cond (sIn1 m n) ih false) l
theorem sSubl_ok {m : List Nat} : ∀ {l : List Nat}, sSubl l m = true → ∀ n ∈ l, n ∈ m := by
  intro l
  induction l with
  | nil => intro _ n h; cases h
  | cons a l ih =>
    intro h n hn
    obtain ⟨h1, h2⟩ := eC_t (show cond (sIn1 m a) (sSubl l m) false = true from h)
    rcases List.mem_cons.mp hn with rfl | hn
    · exact sIn1_ok h1
    · exact ih h2 n hn
/-- all of them are references to roles of ros at most -/
noncomputable def sAllR (os : sSg) (ros : List Nat) : Bool := @List.rec (Nat × Nat × sTp) (fun _ => Bool) true (fun q _ ih => match q.2.2 with | .inr (.inr l) => cond (sSubl l ros) ih false | _ => false) os
theorem sAllR_ok {ros : List Nat} : ∀ {os : sSg}, sAllR os ros = true → ∀ q ∈ os, ∃ l, q.2.2 = .inr (.inr l) ∧ ∀ n ∈ l, n ∈ ros := by
  intro os
  induction os with
  | nil => intro _ q hq; cases hq
  | cons w os ih =>
    intro h q hq
    have h : (match w.2.2 with | .inr (.inr l) => cond (sSubl l ros) (sAllR os ros) false | _ => false) = true := h
    cases ht : w.2.2 with
    | inl z => rw [ht] at h; cases h
    | inr z =>
      cases z with
      | inl y => rw [ht] at h; cases h
      | inr y =>
        rw [ht] at h
        obtain ⟨h1, h⟩ := eC_t h
        rcases List.mem_cons.mp hq with rfl | hq
        · exact ⟨y, ht, sSubl_ok h1⟩
        · exact ih h q hq
/-- all of them take references to role ro -/
noncomputable def sTakR (os : sSg) (ro : Nat) : Bool := @List.rec (Nat × Nat × sTp) (fun _ => Bool) true (fun q _ ih => match q.2.2 with | .inr (.inr l) => cond (sIn1 l ro) ih false | _ => false) os
theorem sTakR_ok {ro : Nat} : ∀ {os : sSg}, sTakR os ro = true → ∀ q ∈ os, ∃ l, q.2.2 = .inr (.inr l) ∧ ro ∈ l := by
  intro os
  induction os with
  | nil => intro _ q hq; cases hq
  | cons w os ih =>
    intro h q hq
    have h : (match w.2.2 with | .inr (.inr l) => cond (sIn1 l ro) (sTakR os ro) false | _ => false) = true := h
    cases ht : w.2.2 with
    | inl z => rw [ht] at h; cases h
    | inr z =>
      cases z with
      | inl y => rw [ht] at h; cases h
      | inr y =>
        rw [ht] at h
        obtain ⟨h1, h⟩ := eC_t h
        rcases List.mem_cons.mp hq with rfl | hq
        · exact ⟨y, ht, sIn1_ok h1⟩
        · exact ih h q hq
noncomputable def sMi (os : sSg) : Int := @List.rec (Nat × Nat × sTp) (fun _ => Int) zMx (fun q _ ih => match q.2.2 with | .inl p => zMin p.1 ih | .inr _ => ih) os
noncomputable def sMa (os : sSg) : Int := @List.rec (Nat × Nat × sTp) (fun _ => Int) zMn (fun q _ ih => match q.2.2 with | .inl p => zMax p.2 ih | .inr _ => ih) os
abbrev sK3 : Type := sVl → sNm → sHs → Bool
/-- a reference that is read: one way for each role -/
noncomputable def sRoF (N : sNm) (hs : sHs) (ro : Nat) (ce ix : sLn) (ros : List Nat) (k : sK3) : Bool := @List.rec Nat (fun _ => Bool) true (fun r2 _ ih => cond (match tCe r2 with
  | [c0] => k (Nat.add r2 16, Int.ofNat c0, []) N (((ro, ce), ix, (Nat.add r2 16, Int.ofNat c0, [])) :: hs.1, hs.2)
  | _ => sFr N (Int.ofNat 0) (Int.ofNat tNC) (fun e N => k (Nat.add r2 16, e) N (((ro, ce), ix, (Nat.add r2 16, e)) :: hs.1, hs.2))) ih false) ros
/-- .. where each place has its own: place by place -/
noncomputable def sRoS (N : sNm) (hs : sHs) (ro : Nat) (ce ix : sLn) (k : sK3) (n : Nat) : Nat → Bool := @Nat.rec (fun _ => Nat → Bool) (fun _ => true) (fun _ ih j => cond (sAsEq N ix (Int.ofNat j, []) (fun N => match sSgAt (tSg ro) j with
  | some (.inr (.inr ros)) => sRoF N hs ro ce (Int.ofNat j, []) ros k
  | _ => false)) (ih (Nat.add j 1)) false) n
noncomputable def sRdT (N : sNm) (hs : sHs) (ro : Nat) (ce ix : sLn) (lo hi : Nat) (os : sSg) (k : sK3) : Bool := match os with
  | [] => false
  | q :: _ => match q.2.2 with
    | .inl _ => zF (sMi os) (fun a => zF (sMa os) (fun b => cond (sAllI os a b) (cond (zEq a b) (k (1, a, []) N hs) (sFr N a b (fun e N => k (1, e) (N.1, N.2.1, N.2.2.1, cond (Nat.beq (tKi ro) 64) ((Nat.sub N.1 1, ro, ix) :: N.2.2.2) N.2.2.2) (((ro, ce), ix, (1, e)) :: hs.1, hs.2)))) false))
    | .inr (.inl _) => cond (sAllL os) (sFr N wMn wMx (fun e N => k (5, e) N (((ro, ce), ix, (5, e)) :: hs.1, hs.2))) false
    | .inr (.inr ros) => cond (sAllR os ros) (sRoF N hs ro ce ix ros k) (sRoS N hs ro ce ix k (Nat.sub (Nat.add hi 1) lo) lo)
noncomputable def aRd (N : sNm) (hs : sHs) (ro : Nat) (ce ix : sLn) (k : sK3) : Bool := sLk hs.1 ro ce ix (fun v => sNrm N v (fun v => k v N hs)) (zF (sLo N ix) (fun lo => zF (sHi N ix) (fun hi => cond (zPs lo) (cond (zLe (Int.add hi (Int.ofNat 1)) (Int.ofNat (tLe ro))) (sRdT N hs ro ce ix (Int.toNat lo) (Int.toNat hi) (sOv (tSg ro) (Int.toNat lo) (Int.toNat hi)) k) false) false)))
end CkHeap
