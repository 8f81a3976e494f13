section CkFact1
/-- a slot's int -/
noncomputable def hI (hp : Lean.RArray Nat) (c j : Nat) : Int := sSgn (ePl (hv hp c j))
theorem sSgn_cI {x : Int} (h1 : zMn ≤ x) (h2 : x ≤ zMx) : sSgn (ePl (cI x)) = x := by
  obtain ⟨a, b, c⟩ := sSgn_ok (cI_lt x)
  have e : eCi (ePl (cI x)) = cI x := by rw [cI_pl]; rfl
  rw [e] at c
  exact (cI_inj h1 h2 a b c).symm
theorem hI_eq {hp : Lean.RArray Nat} {c j : Nat} {x : Int} (h1 : zMn ≤ x) (h2 : x ≤ zMx) (h : hv hp c j = cI x) : hI hp c j = x := by
  unfold hI
  rw [h]
  exact sSgn_cI h1 h2
theorem hI_of {hp hp' : Lean.RArray Nat} {c j : Nat} (h : hv hp' c j = hv hp c j) : hI hp' c j = hI hp c j := by unfold hI; rw [h]
theorem hI_ty {hp : Lean.RArray Nat} (hO : hOk hp) {c j : Nat} {a b : Int} (hc : c < tNC) (ht : sSgAt (tSg (tRO c)) j = some (.inl (a, b))) : a ≤ hI hp c j ∧ hI hp c j ≤ b := by
  obtain ⟨x, x1, x2, x3, x4, x5⟩ := (hO.2 c hc).2.2 j _ ht
  rw [hI_eq x3 x4 x5]
  exact ⟨x1, x2⟩
def fSpot (n : Int) (hp : Lean.RArray Nat) : Prop := ∀ f : Nat, f < 5 → (f : Int) < n → (0 ≤ hI hp 187 f ∧ hI hp 187 f ≤ 99) ∨ hI hp 189 f = -1
def fSen (a b : Nat) (n : Int) (hp : Lean.RArray Nat) : Prop := ∀ j : Nat, j < 40 → (j : Int) < n → hI hp a j ≠ 25 ∨ (0 ≤ hI hp b j ∧ hI hp b j ≤ 2)
def bxR (d o w h : Int) : Prop := (d = 14 ∧ 0 ≤ o ∧ o ≤ 4 ∧ 0 ≤ w ∧ w ≤ 4) ∨ d = 16 ∨ (d = 15 ∧ 0 ≤ o ∧ o ≤ 9 ∧ 0 ≤ w ∧ w ≤ 9 ∧ 0 ≤ h ∧ h ≤ 4) ∨ (16 ≤ d ∧ d ≤ 18 ∧ 0 ≤ o ∧ o ≤ 9 ∧ 0 ≤ w ∧ w ≤ 9)
def fRoll (n : Int) (hp : Lean.RArray Nat) : Prop := ∀ j : Nat, j < 40 → (j : Int) < n → bxR (hI hp 178 j) (hI hp 179 j) (hI hp 180 j) (hI hp 181 j)
def bxM (d o w h : Int) : Prop := (d = 0 ∧ 0 ≤ o ∧ o ≤ 4 ∧ 0 ≤ w ∧ w ≤ 4) ∨ d = 2 ∨ (d = 1 ∧ 0 ≤ o ∧ o ≤ 9 ∧ 0 ≤ w ∧ w ≤ 9 ∧ 0 ≤ h ∧ h ≤ 4) ∨ (2 ≤ d ∧ d ≤ 4 ∧ 0 ≤ o ∧ o ≤ 9 ∧ 0 ≤ w ∧ w ≤ 9)
def fRollm (n : Int) (hp : Lean.RArray Nat) : Prop := ∀ j : Nat, j < 40 → (j : Int) < n → bxM (hI hp 277 (4 * j)) (hI hp 277 (4 * j + 1)) (hI hp 277 (4 * j + 2)) (hI hp 277 (4 * j + 3))
def fCh (c b : Nat) (n : Int) (hp : Lean.RArray Nat) : Prop := ∀ j : Nat, j < 8 → (j : Int) < n → 1 ≤ hI hp c (b + j) ∧ hI hp c (b + j) ≤ 9
def fEq (c b c' b' len : Nat) (n : Int) (hp : Lean.RArray Nat) : Prop := ∀ j : Nat, j < len → (j : Int) < n → hI hp c (b + j) = hI hp c' (b' + j)
/-- sums of chances -/
noncomputable def sumC (hp : Lean.RArray Nat) : Nat → Int
  | 0 => 0
  | k + 1 => sumC hp k + hI hp 275 (250 + k)
def fPsum (n t : Int) (hp : Lean.RArray Nat) : Prop := ∃ k : Nat, n = (k : Int) ∧ (k ≤ 8 → t = sumC hp k)
def fSum (i t : Int) (hp : Lean.RArray Nat) : Prop := ∃ k z : Nat, i = (k : Int) ∧ hI hp 275 6 = (z : Int) ∧ k ≤ z ∧ z ≤ 8 ∧ t = sumC hp z - sumC hp k
/-- a step of a sentence's code: how many truths lie there -/
def stC (w q v v' : Int) : Prop := (w = 20 ∧ 1 ≤ v ∧ v ≤ 20 ∧ v' = v) ∨ ((w = 21 ∨ w = 22) ∧ 2 ≤ v ∧ v ≤ 20 ∧ v' = v - 1) ∨ (w = 4 ∧ 0 ≤ q ∧ q ≤ 2 ∧ 0 ≤ v ∧ v ≤ 19 ∧ v' = v + 1) ∨ ((w ≤ 3 ∨ (5 ≤ w ∧ w ≤ 19) ∨ 23 ≤ w) ∧ 0 ≤ v ∧ v ≤ 19 ∧ v' = v + 1)
def cdF (hp : Lean.RArray Nat) (c b : Nat) : Nat → Int → Prop
  | 0, v => v = 0
  | k + 1, v' => ∃ v, cdF hp c b k v ∧ stC (hI hp c (b + 3 * k)) (hI hp c (b + 3 * k + 2)) v v'
theorem cdF_det {hp : Lean.RArray Nat} {c b : Nat} : ∀ {k : Nat} {v v' : Int}, cdF hp c b k v → cdF hp c b k v' → v = v' := by
  intro k
  induction k with
  | zero => intro v v' h1 h2; have h1 : v = 0 := h1; have h2 : v' = 0 := h2; rw [h1, h2]
  | succ k ih =>
    intro v v' h1 h2
    obtain ⟨a, a1, a2⟩ := h1
    obtain ⟨b', b1, b2⟩ := h2
    have := ih a1 b1
    subst this
    unfold stC at a2 b2
    omega
theorem cdF_pre {hp : Lean.RArray Nat} {c b : Nat} : ∀ {n : Nat} {v : Int}, cdF hp c b n v → ∀ k, k < n → ∃ a a', cdF hp c b k a ∧ stC (hI hp c (b + 3 * k)) (hI hp c (b + 3 * k + 2)) a a' := by
  intro n
  induction n with
  | zero => intro v _ k hk; omega
  | succ n ih =>
    intro v h k hk
    obtain ⟨a, a1, a2⟩ := h
    by_cases e : k = n
    · subst e; exact ⟨a, v, a1, a2⟩
    · exact ih a1 k (by omega)
theorem cdF_of {hp hp' : Lean.RArray Nat} {c b c' b' : Nat} : ∀ {n : Nat} {v : Int}, (∀ j, j < 3 * n → hI hp' c' (b' + j) = hI hp c (b + j)) → cdF hp c b n v → cdF hp' c' b' n v := by
  intro n
  induction n with
  | zero => intro v _ h; exact h
  | succ n ih =>
    intro v he h
    obtain ⟨a, a1, a2⟩ := h
    refine ⟨a, ih (fun j hj => he j (by omega)) a1, ?_⟩
    rw [he (3 * n) (by omega), Nat.add_assoc, he (3 * n + 2) (by omega), ← Nat.add_assoc]
    exact a2
def fPfs (c b : Nat) (hp : Lean.RArray Nat) : Prop := ∃ k : Nat, hI hp c b = (k : Int) ∧ k ≤ 53 ∧ ∃ v, cdF hp c (b + 1) k v
def fDep (i n : Int) (hp : Lean.RArray Nat) : Prop := fPfs 275 690 hp ∧ ∃ k : Nat, i = (k : Int) ∧ k ≤ 53 ∧ cdF hp 275 691 k n
def fCode (i n : Int) (hp : Lean.RArray Nat) : Prop := ∃ k : Nat, i = (k : Int) ∧ k ≤ 53 ∧ cdF hp 277 0 k n
def skF (hp : Lean.RArray Nat) : Nat → Int → Prop
  | 0, v => v = 0
  | k + 1, v' => ∃ v, skF hp k v ∧ (((hI hp 287 k = 21 ∨ hI hp 287 k = 22) ∧ v' = v + 1) ∨ (hI hp 287 k ≠ 21 ∧ hI hp 287 k ≠ 22 ∧ v' = v))
theorem skF_bd {hp : Lean.RArray Nat} : ∀ {k : Nat} {v : Int}, skF hp k v → 0 ≤ v ∧ v ≤ k := by
  intro k
  induction k with
  | zero => intro v h; have h : v = 0 := h; omega
  | succ k ih =>
    intro v h
    obtain ⟨a, a1, a2⟩ := h
    have := ih a1
    omega
theorem skF_of {hp hp' : Lean.RArray Nat} : ∀ {n : Nat} {v : Int}, (∀ j, j < n → hI hp' 287 j = hI hp 287 j) → skF hp n v → skF hp' n v := by
  intro n
  induction n with
  | zero => intro v _ h; exact h
  | succ n ih =>
    intro v he h
    obtain ⟨a, a1, a2⟩ := h
    refine ⟨a, ih (fun j hj => he j (by omega)) a1, ?_⟩
    rw [he n (by omega)]
    exact a2
def fStk (t j : Int) (hp : Lean.RArray Nat) : Prop := ∃ k : Nat, t = (k : Int) ∧ k ≤ 45 ∧ skF hp k j
def fNj (t : Int) (hp : Lean.RArray Nat) : Prop := ∃ k : Nat, t = (k : Int) ∧ k ≤ 45 ∧ ∀ j, k = j + 1 → hI hp 287 j ≠ 21 ∧ hI hp 287 j ≠ 22
def fKept (o k : Nat) (hp : Lean.RArray Nat) : Prop := hI hp 291 k = 1 → (1 ≤ hI hp 289 o ∧ hI hp 289 o ≤ 10) ∧ (1 ≤ hI hp 289 (o + 1) ∧ hI hp 289 (o + 1) ≤ 10) ∧ fCh 289 (o + 250) (hI hp 289 (o + 6)) hp ∧ fPfs 289 (o + 690) hp
def fMod (x : Int) : Prop := x = -1 ∨ 900 ≤ x % 1000
def fEqa (d s : Nat) (hp : Lean.RArray Nat) : Prop := ∀ j : Nat, j < 40 → hv hp d j = hv hp s j
/-- a long's value; a cell that a slot names -/
noncomputable def lSg (p : Nat) : Int := if p < 9223372036854775808 then (p : Int) else (p : Int) - 18446744073709551616
theorem lSg_cL {x : Int} (h1 : wMn ≤ x) (h2 : x ≤ wMx) : lSg (ePl (cL x)) = x := by
  rw [wMn_eq] at h1
  rw [wMx_eq] at h2
  rw [cL_pl]
  unfold lSg
  by_cases h : Int.toNat (x % 18446744073709551616) < 9223372036854775808
  · rw [if_pos h]; omega
  · rw [if_neg h]; omega
noncomputable def hL (hp : Lean.RArray Nat) (c j : Nat) : Int := lSg (ePl (hv hp c j))
theorem hL_eq {hp : Lean.RArray Nat} {c j : Nat} {x : Int} (h1 : wMn ≤ x) (h2 : x ≤ wMx) (h : hv hp c j = cL x) : hL hp c j = x := by
  unfold hL
  rw [h]
  exact lSg_cL h1 h2
theorem hL_of {hp hp' : Lean.RArray Nat} {c j : Nat} (h : hv hp' c j = hv hp c j) : hL hp' c j = hL hp c j := by unfold hL; rw [h]
noncomputable def hC (hp : Lean.RArray Nat) (c j : Nat) : Nat := ePl (hv hp c j) - 1
theorem hC_eq {hp : Lean.RArray Nat} {c j d : Nat} (h : hv hp c j = cR d) : hC hp c j = d := by
  unfold hC
  rw [h, cR_pl]
  rfl
theorem hC_of {hp hp' : Lean.RArray Nat} {c j : Nat} (h : hv hp' c j = hv hp c j) : hC hp' c j = hC hp c j := by unfold hC; rw [h]
/-- what the reader's slot k names, and its slot j -/
noncomputable def rr (hp : Lean.RArray Nat) (k j : Nat) : Nat := hC hp (hC hp 176 k) j
/-- the tapes -/
noncomputable def XB (hp : Lean.RArray Nat) (i : Int) : Int := if 0 ≤ i ∧ i < 940 then hI hp 1 i.toNat else 0
noncomputable def XT (hp : Lean.RArray Nat) : pT := (fun i => if 0 ≤ i ∧ i < hI hp 173 2 then XB hp i else 0, hI hp 173 2, hI hp 173 3)
noncomputable def MB (hp : Lean.RArray Nat) (i : Int) : Int := if 0 ≤ i ∧ i < 940 then hI hp 274 i.toNat % 256 else 0
noncomputable def MT (hp : Lean.RArray Nat) : pT := (fun i => if 0 ≤ i ∧ i < hI hp 273 3 then MB hp i else 0, hI hp 273 3, hI hp 273 5)
def bP (b : Int) (P : Prop) : Prop := (b = 1 ∧ P) ∨ (b = 0 ∧ ¬ P)
def tkI (D : pD) (p : Int) : Prop := tkn D (p % 10) (p / 10)
def inR (x y w h p : Int) : Prop := x ≤ p % 10 ∧ p % 10 < x + w ∧ y ≤ p / 10 ∧ p / 10 < y + h
def scN (D : pD) (s x y w h : Int) : Prop := ∀ p : Nat, p < 100 → (p : Int) < s → inR x y w h p → ¬ tkI D p
def scP (D : pD) (w i : Int) : Prop := (i = -1 ∧ ∀ j : Nat, j < 12 → cd 32 96 (nm D j) ≠ w) ∨ ∃ j : Nat, j < 12 ∧ i = (j : Int) ∧ cd 32 96 (nm D j) = w
def bt (w : Int) (i : Nat) : Prop := w / 2 ^ i % 2 = 1
def wR (w : Int) (D : pD) (y : Int) : Prop := ∀ i : Nat, i < 10 → (bt w i ↔ ((i : Int), y) ∈ dWa D)
def wlI (D : pD) (p : Int) : Prop := (p % 10, p / 10) ∈ dWa D
def fX (hp : Lean.RArray Nat) (p : Nat) : Prop := hI hp (rr hp 1 8) p = -1 ∧ hI hp (rr hp 1 9) p = -1
def fM (hp : Lean.RArray Nat) (p : Nat) : Prop := hI hp 276 (7 + p) = 0 ∧ hI hp 276 (107 + p) = 0
def rsv (j : Nat) : Nat := if j < 5 then j else if j = 5 then 13 else if j < 14 then j - 1 else j
def b8 (v : Int) (k : Nat) : Int := v / 2 ^ (24 - 8 * k) % 256
def pxD (B : Nat → Int) (u t v : Int) : Prop := 0 ≤ t ∧ t ≤ u ∧ u ≤ 940 ∧ ∀ k : Nat, k < 4 → (k : Int) < t → B ((u - t).toNat + k) = b8 v k
def FD (T : pT) (x l a z i : Int) : Prop := dF T l (fun D => ∃ b n : Nat, ((x = 12 ∧ b = 0 ∧ n = 4) ∨ (x = 16 ∧ b = 4 ∧ n = 3) ∨ (x = 19 ∧ b = 7 ∧ n = 5)) ∧ ((i = -1 ∧ ∀ j, j < n → nm D (b + j) ≠ bs T.1 a z) ∨ ∃ j : Nat, j < n ∧ i = (j : Int) ∧ nm D (b + j) = bs T.1 a z))
/-- the names row of x's parish -/
noncomputable def xnm (hp : Lean.RArray Nat) : Nat := hC hp (hC hp 0 6) 7
/-- a name among twelve: the first slot with its code; sorts 1 kinds, 2 owners, 3 strips -/
def scW (X : Nat → Int) (w i : Int) : Prop := (i = -1 ∧ ∀ j : Nat, j < 12 → X j ≠ w) ∨ ∃ j : Nat, j < 12 ∧ i = (j : Int) ∧ X j = w ∧ ∀ j' : Nat, j' < j → X j' ≠ w
def sRg (c i : Int) : Prop := (c = 1 ∧ 7 ≤ i ∧ i ≤ 11) ∨ (c = 2 ∧ 0 ≤ i ∧ i ≤ 3) ∨ (c = 3 ∧ 4 ≤ i ∧ i ≤ 6)
def nmX (X : Nat → Int) (c : Int) (L : List Int) : Prop := ∃ i : Int, sRg c i ∧ scW X (cd 32 96 L) i
noncomputable def nmR (hp : Lean.RArray Nat) (row : Nat) : Int → List Int → Prop := nmX (fun j => hL hp row j)
def nmG (S : Nat → Int) (X : Nat → Int) (c : Int) (L : List Int) : Prop := ∃ b n r : Nat, ((c = 1 ∧ b = 7 ∧ n = 5 ∧ r = 4) ∨ (c = 2 ∧ b = 0 ∧ n = 4 ∧ r = 2) ∨ (c = 3 ∧ b = 4 ∧ n = 3 ∧ r = 3)) ∧ ∃ j : Nat, j < n ∧ (j : Int) < S r ∧ X (b + j) = cd 256 0 L
noncomputable def nmM (hp : Lean.RArray Nat) : Int → List Int → Prop := nmG (fun i => hI hp 275 i) (fun i => hL hp 278 i)
noncomputable def nmK (hp : Lean.RArray Nat) (k : Nat) : Int → List Int → Prop := nmG (fun i => hI hp 289 (871 * k + i)) (fun i => hL hp 290 (12 * k + i))
/-- what a stack's rows say one is within -/
def sFo (S : Nat → Int) : Nat → Int → Prop
  | 0, t => t = 0
  | n + 1, t => (S n = 20 ∧ ∃ u, sFo S n u ∧ t = 3 * u + 1) ∨ (S n = 23 ∧ ∃ u, sFo S n u ∧ t = 3 * u + 2) ∨ ((S n = 21 ∨ S n = 22) ∧ sFo S n t ∧ t % 3 ≠ 1)
def fB0 : List Int → Lean.RArray Nat → Prop
  | [x], hp => fSpot x hp
  | _, _ => False
def fB1 : List Int → Lean.RArray Nat → Prop
  | [x], hp => fSen 53 55 x hp
  | _, _ => False
def fB2 : List Int → Lean.RArray Nat → Prop
  | [x], hp => fSen 58 60 x hp
  | _, _ => False
def fB3 : List Int → Lean.RArray Nat → Prop
  | [x], hp => fSen 238 240 x hp
  | _, _ => False
def fB4 : List Int → Lean.RArray Nat → Prop
  | [x], hp => fSen 269 271 x hp
  | _, _ => False
def fB5 : List Int → Lean.RArray Nat → Prop
  | [x], hp => fRoll x hp
  | _, _ => False
def fB6 : List Int → Lean.RArray Nat → Prop
  | [x], hp => fCh 276 250 x hp
  | _, _ => False
def fB7 : List Int → Lean.RArray Nat → Prop
  | [x], hp => fCh 275 250 x hp
  | _, _ => False
def fB8 : List Int → Lean.RArray Nat → Prop
  | [x], hp => fEq 275 0 276 0 401 x hp
  | _, _ => False
def fB9 : List Int → Lean.RArray Nat → Prop
  | [x, y], hp => fPsum x y hp
  | _, _ => False
def fB10 : List Int → Lean.RArray Nat → Prop
  | [x, y], hp => fSum x y hp
  | _, _ => False
def fB11 : List Int → Lean.RArray Nat → Prop
  | [x], hp => fRollm x hp
  | _, _ => False
def fB12 : List Int → Lean.RArray Nat → Prop
  | [], hp => fPfs 275 690 hp
  | _, _ => False
def fB13 : List Int → Lean.RArray Nat → Prop
  | [x, y], hp => fDep x y hp
  | _, _ => False
def fB14 : List Int → Lean.RArray Nat → Prop
  | [x, y], hp => fCode x y hp
  | _, _ => False
def fB15 : List Int → Lean.RArray Nat → Prop
  | [x, y], hp => fStk x y hp
  | _, _ => False
def fB16 : List Int → Lean.RArray Nat → Prop
  | [x], hp => fEq 275 691 277 0 160 x hp
  | _, _ => False
def fB17 : List Int → Lean.RArray Nat → Prop
  | [], hp => fKept 0 0 hp
  | _, _ => False
def fB18 : List Int → Lean.RArray Nat → Prop
  | [x], hp => fEq 289 0 275 0 871 x hp
  | _, _ => False
def fB19 : List Int → Lean.RArray Nat → Prop
  | [], hp => fKept 871 1 hp
  | _, _ => False
def fB20 : List Int → Lean.RArray Nat → Prop
  | [x], hp => fEq 289 871 275 0 871 x hp
  | _, _ => False
def fB21 : List Int → Lean.RArray Nat → Prop
  | [x], hp => fMod x
  | _, _ => False
def fB22 : List Int → Lean.RArray Nat → Prop := fun _ _ => False
def fB23 : List Int → Lean.RArray Nat → Prop
  | [x], hp => fNj x hp
  | _, _ => False
def fB24 : List Int → Lean.RArray Nat → Prop
  | [], hp => fEqa 53 238 hp
  | _, _ => False
def fB25 : List Int → Lean.RArray Nat → Prop
  | [], hp => fEqa 238 53 hp
  | _, _ => False
def fB26 : List Int → Lean.RArray Nat → Prop
  | [], hp => fEqa 55 240 hp
  | _, _ => False
def fB27 : List Int → Lean.RArray Nat → Prop
  | [], hp => fEqa 240 55 hp
  | _, _ => False
def fB28 : List Int → Lean.RArray Nat → Prop
  | [], hp => fEqa 53 269 hp
  | _, _ => False
def fB29 : List Int → Lean.RArray Nat → Prop
  | [], hp => fEqa 269 53 hp
  | _, _ => False
def fB30 : List Int → Lean.RArray Nat → Prop
  | [], hp => fEqa 55 271 hp
  | _, _ => False
def fB31 : List Int → Lean.RArray Nat → Prop
  | [], hp => fEqa 271 55 hp
  | _, _ => False
def fB32 : List Int → Lean.RArray Nat → Prop
  | [], hp => fEqa 58 238 hp
  | _, _ => False
def fB33 : List Int → Lean.RArray Nat → Prop
  | [], hp => fEqa 238 58 hp
  | _, _ => False
def fB34 : List Int → Lean.RArray Nat → Prop
  | [], hp => fEqa 60 240 hp
  | _, _ => False
def fB35 : List Int → Lean.RArray Nat → Prop
  | [], hp => fEqa 240 60 hp
  | _, _ => False
def fB36 : List Int → Lean.RArray Nat → Prop
  | [], hp => fEqa 58 269 hp
  | _, _ => False
def fB37 : List Int → Lean.RArray Nat → Prop
  | [], hp => fEqa 269 58 hp
  | _, _ => False
def fB38 : List Int → Lean.RArray Nat → Prop
  | [], hp => fEqa 60 271 hp
  | _, _ => False
def fB39 : List Int → Lean.RArray Nat → Prop
  | [], hp => fEqa 271 60 hp
  | _, _ => False
def kSKX (q p : Int) (hp : Lean.RArray Nat) : Prop := SK (XT hp).1 (XT hp).2.1 q p
def fB40 : List Int → Lean.RArray Nat → Prop
  | [q, p], hp => kSKX q p hp
  | _, _ => False
def kP1X (q p : Int) (hp : Lean.RArray Nat) : Prop := P1q (XT hp).1 (XT hp).2.1 q p
def fB41 : List Int → Lean.RArray Nat → Prop
  | [q, p], hp => kP1X q p hp
  | _, _ => False
def kP2X (q p : Int) (hp : Lean.RArray Nat) : Prop := P2 (XT hp) q p
def fB42 : List Int → Lean.RArray Nat → Prop
  | [q, p], hp => kP2X q p hp
  | _, _ => False
def kNMK (p : Int) (hp : Lean.RArray Nat) : Prop := ¬ sgn (XB hp p)
def fB43 : List Int → Lean.RArray Nat → Prop
  | [p], hp => kNMK p hp
  | _, _ => False
def kRNX (a p l d x w : Int) (hp : Lean.RArray Nat) : Prop := RNb (XT hp).1 (XT hp).2.1 a p l d x w
def fB44 : List Int → Lean.RArray Nat → Prop
  | [a, p, l, d, x, w], hp => kRNX a p l d x w hp
  | _, _ => False
def kREX (a p l d x w : Int) (hp : Lean.RArray Nat) : Prop := REb (XT hp).1 (XT hp).2.1 a p l d x w
def fB45 : List Int → Lean.RArray Nat → Prop
  | [a, p, l, d, x, w], hp => kREX a p l d x w hp
  | _, _ => False
def kTKX (q k a z v : Int) (hp : Lean.RArray Nat) : Prop := TKB (XT hp) q k a z v
def fB46 : List Int → Lean.RArray Nat → Prop
  | [q, k, a, z, v], hp => kTKX q k a z v hp
  | _, _ => False
def kTWX (q a z : Int) (hp : Lean.RArray Nat) : Prop := TW (XT hp) q a z
def fB47 : List Int → Lean.RArray Nat → Prop
  | [q, a, z], hp => kTWX q a z hp
  | _, _ => False
def kNMX (a z : Int) (hp : Lean.RArray Nat) : Prop := isW (bs (XB hp) a z) ∧ hL hp 173 8 = cd 32 96 (bs (XB hp) a z)
def fB48 : List Int → Lean.RArray Nat → Prop
  | [a, z], hp => kNMX a z hp
  | _, _ => False
def kWOX (j w : Int) (hp : Lean.RArray Nat) : Prop := ∀ i : Nat, i < 30 → (i : Int) < j → hL hp 174 i ≠ w
def fB49 : List Int → Lean.RArray Nat → Prop
  | [j, w], hp => kWOX j w hp
  | _, _ => False
def kWIX (x v : Int) (hp : Lean.RArray Nat) : Prop := WI x v
def fB50 : List Int → Lean.RArray Nat → Prop
  | [x, v], hp => kWIX x v hp
  | _, _ => False
def kCODX (hp : Lean.RArray Nat) : Prop := ∀ i : Nat, i < 30 → hL hp 174 i = cd 32 96 (wrd i)
def fB51 : List Int → Lean.RArray Nat → Prop
  | [], hp => kCODX hp
  | _, _ => False
def kGX (q c l e f g h m n : Int) (hp : Lean.RArray Nat) : Prop := Gq (XT hp) q c l e f g h m n
def fB52 : List Int → Lean.RArray Nat → Prop
  | [q, c, l, e, f, g, h, m, n], hp => kGX q c l e f g h m n hp
  | _, _ => False
def kHX (q c l e f g h m n k a z v : Int) (hp : Lean.RArray Nat) : Prop := Hq (XT hp) q c l e f g h m n k a z v ∧ k ≠ 4
def fB53 : List Int → Lean.RArray Nat → Prop
  | [q, c, l, e, f, g, h, m, n, k, a, z, v], hp => kHX q c l e f g h m n k a z v hp
  | _, _ => False
def kRSX (k p : Int) (hp : Lean.RArray Nat) : Prop := RS (XT hp) k p
def fB54 : List Int → Lean.RArray Nat → Prop
  | [k, p], hp => kRSX k p hp
  | _, _ => False
def kENX (q x y : Int) (hp : Lean.RArray Nat) : Prop := EN (XT hp) q x y
def fB55 : List Int → Lean.RArray Nat → Prop
  | [q, x, y], hp => kENX q x y hp
  | _, _ => False
def kEWX (q : Int) (hp : Lean.RArray Nat) : Prop := EW (XT hp) q
def fB56 : List Int → Lean.RArray Nat → Prop
  | [q], hp => kEWX q hp
  | _, _ => False
def kEOX (q x y : Int) (hp : Lean.RArray Nat) : Prop := EO (XT hp) q x y
def fB57 : List Int → Lean.RArray Nat → Prop
  | [q, x, y], hp => kEOX q x y hp
  | _, _ => False
def kEFX (q : Int) (hp : Lean.RArray Nat) : Prop := EF (XT hp) q
def fB58 : List Int → Lean.RArray Nat → Prop
  | [q], hp => kEFX q hp
  | _, _ => False
def kCTX (l co cs ck cw ct cu cf cz cx cy : Int) (hp : Lean.RArray Nat) : Prop := CT (XT hp) l co cs ck cw ct cu cf cz cx cy
def fB59 : List Int → Lean.RArray Nat → Prop
  | [l, co, cs, ck, cw, ct, cu, cf, cz, cx, cy], hp => kCTX l co cs ck cw ct cu cf cz cx cy hp
  | _, _ => False
def kNOX (q : Int) (hp : Lean.RArray Nat) : Prop := NO (XT hp) q
def fB60 : List Int → Lean.RArray Nat → Prop
  | [q], hp => kNOX q hp
  | _, _ => False
def kNAX (l : Int) (hp : Lean.RArray Nat) : Prop := dF (XT hp) l (fun D => ∀ j : Nat, j < 12 → hL hp (rr hp 1 7) j = cd 32 96 (nm D j))
def fB61 : List Int → Lean.RArray Nat → Prop
  | [l], hp => kNAX l hp
  | _, _ => False
def kNLX (s l : Int) (hp : Lean.RArray Nat) : Prop := dF (XT hp) l (fun D => ∀ j : Nat, j < 12 → (j : Int) < s → hL hp (rr hp 1 7) j = cd 32 96 (nm D j))
def fB62 : List Int → Lean.RArray Nat → Prop
  | [s, l], hp => kNLX s l hp
  | _, _ => False
def kNHX (s l : Int) (hp : Lean.RArray Nat) : Prop := dF (XT hp) l (fun D => ∀ j : Nat, j < 12 → s ≤ (j : Int) → hL hp (rr hp 1 7) j = cd 32 96 (nm D j))
def fB63 : List Int → Lean.RArray Nat → Prop
  | [s, l], hp => kNHX s l hp
  | _, _ => False
def kNBX (s l a z : Int) (hp : Lean.RArray Nat) : Prop := dF (XT hp) l (fun D => ∀ j : Nat, j < 12 → hL hp (rr hp 1 7) j = if (j : Int) = s then cd 32 96 (bs (XT hp).1 a z) else cd 32 96 (nm D j))
def fB64 : List Int → Lean.RArray Nat → Prop
  | [s, l, a, z], hp => kNBX s l a z hp
  | _, _ => False
def kSWX (s w : Int) (hp : Lean.RArray Nat) : Prop := ∀ j : Nat, j < 12 → (j : Int) < s → hL hp (rr hp 1 7) j ≠ w
def fB65 : List Int → Lean.RArray Nat → Prop
  | [s, w], hp => kSWX s w hp
  | _, _ => False
def kSCX (l w i : Int) (hp : Lean.RArray Nat) : Prop := dF (XT hp) l (fun D => scP D w i)
def fB66 : List Int → Lean.RArray Nat → Prop
  | [l, w, i], hp => kSCX l w i hp
  | _, _ => False
def kSLX (l a z i : Int) (hp : Lean.RArray Nat) : Prop := SL (XT hp) l a z i
def fB67 : List Int → Lean.RArray Nat → Prop
  | [l, a, z, i], hp => kSLX l a z i hp
  | _, _ => False
def kTAX (l : Int) (hp : Lean.RArray Nat) : Prop := dF (XT hp) l (fun D => ∀ p : Nat, p < 100 → (fX hp p ↔ ¬ tkI D p))
def fB68 : List Int → Lean.RArray Nat → Prop
  | [l], hp => kTAX l hp
  | _, _ => False
def kTLX (s l x y w h : Int) (hp : Lean.RArray Nat) : Prop := dF (XT hp) l (fun D => ∀ p : Nat, p < 100 → (p : Int) < s → (fX hp p ↔ ¬ (tkI D p ∨ inR x y w h p)))
def fB69 : List Int → Lean.RArray Nat → Prop
  | [s, l, x, y, w, h], hp => kTLX s l x y w h hp
  | _, _ => False
def kTHX (s l : Int) (hp : Lean.RArray Nat) : Prop := dF (XT hp) l (fun D => ∀ p : Nat, p < 100 → s ≤ (p : Int) → (fX hp p ↔ ¬ tkI D p))
def fB70 : List Int → Lean.RArray Nat → Prop
  | [s, l], hp => kTHX s l hp
  | _, _ => False
def kTBX (l x y w h : Int) (hp : Lean.RArray Nat) : Prop := dF (XT hp) l (fun D => ∀ p : Nat, p < 100 → (fX hp p ↔ ¬ (tkI D p ∨ inR x y w h p)))
def fB71 : List Int → Lean.RArray Nat → Prop
  | [l, x, y, w, h], hp => kTBX l x y w h hp
  | _, _ => False
def kTRX (t l : Int) (hp : Lean.RArray Nat) : Prop := dF (XT hp) l (fun D => t = (dTr D).length ∧ ∀ i : Nat, i < 14 → (i : Int) < t → (dTr D)[i]? = some (hI hp (rr hp 2 6) i, hI hp (rr hp 2 7) i))
def fB72 : List Int → Lean.RArray Nat → Prop
  | [t, l], hp => kTRX t l hp
  | _, _ => False
def kALX (t : Int) (hp : Lean.RArray Nat) : Prop := ∀ i : Nat, i < 14 → (i : Int) < t → bt (hI hp (hC hp 176 2) 2) i
def fB73 : List Int → Lean.RArray Nat → Prop
  | [t], hp => kALX t hp
  | _, _ => False
def kWLX (l : Int) (hp : Lean.RArray Nat) : Prop := dF (XT hp) l (fun D => ∀ j : Nat, j < 10 → wR (hI hp (rr hp 2 10) j) D j)
def fB74 : List Int → Lean.RArray Nat → Prop
  | [l], hp => kWLX l hp
  | _, _ => False
def kWDX (t l : Int) (hp : Lean.RArray Nat) : Prop := dF (XT hp) l (fun D => t = (dWi D).length ∧ ∀ i : Nat, i < 8 → (i : Int) < t → (dWi D)[i]? = some (hI hp (rr hp 1 16) i, hI hp (rr hp 1 17) i))
def fB75 : List Int → Lean.RArray Nat → Prop
  | [t, l], hp => kWDX t l hp
  | _, _ => False
def kATX (l x y w h : Int) (hp : Lean.RArray Nat) : Prop := dF (XT hp) l (fun D => anyT D x y w h)
def fB76 : List Int → Lean.RArray Nat → Prop
  | [l, x, y, w, h], hp => kATX l x y w h hp
  | _, _ => False
def kAFX (l x y w h : Int) (hp : Lean.RArray Nat) : Prop := dF (XT hp) l (fun D => ¬ anyT D x y w h)
def fB77 : List Int → Lean.RArray Nat → Prop
  | [l, x, y, w, h], hp => kAFX l x y w h hp
  | _, _ => False
def kSCN (s l x y w h : Int) (hp : Lean.RArray Nat) : Prop := dF (XT hp) l (fun D => scN D s x y w h)
def fB78 : List Int → Lean.RArray Nat → Prop
  | [s, l, x, y, w, h], hp => kSCN s l x y w h hp
  | _, _ => False
def kFRX (l x y b : Int) (hp : Lean.RArray Nat) : Prop := dF (XT hp) l (fun D => bP b (fre D x y))
def fB79 : List Int → Lean.RArray Nat → Prop
  | [l, x, y, b], hp => kFRX l x y b hp
  | _, _ => False
def kHWX (l x y b : Int) (hp : Lean.RArray Nat) : Prop := dF (XT hp) l (fun D => bP b ((x, y) ∈ dWi D))
def fB80 : List Int → Lean.RArray Nat → Prop
  | [l, x, y, b], hp => kHWX l x y b hp
  | _, _ => False
def kDNX (l : Int) (hp : Lean.RArray Nat) : Prop := DN (XT hp) l
def fB81 : List Int → Lean.RArray Nat → Prop
  | [l], hp => kDNX l hp
  | _, _ => False
def kANX (x k : Int) (hp : Lean.RArray Nat) : Prop := ANk (XT hp) x k
def fB82 : List Int → Lean.RArray Nat → Prop
  | [x, k], hp => kANX x k hp
  | _, _ => False
def kCEX (l p b : Int) (hp : Lean.RArray Nat) : Prop := dF (XT hp) l (fun D => bP b (tkI D p))
def fB83 : List Int → Lean.RArray Nat → Prop
  | [l, p, b], hp => kCEX l p b hp
  | _, _ => False
def kSHR (x y z : Int) (hp : Lean.RArray Nat) : Prop := 0 ≤ y → y ≤ 31 → z = x / 2 ^ y.toNat
def fB84 : List Int → Lean.RArray Nat → Prop
  | [x, y, z], hp => kSHR x y z hp
  | _, _ => False
def kSHL (x y z : Int) (hp : Lean.RArray Nat) : Prop := x = 1 → 0 ≤ y → y ≤ 13 → z = 2 ^ y.toNat
def fB85 : List Int → Lean.RArray Nat → Prop
  | [x, y, z], hp => kSHL x y z hp
  | _, _ => False
def kIOR (x y z : Int) (hp : Lean.RArray Nat) : Prop := ∀ i : Nat, i < 14 → (bt z i ↔ (bt x i ∨ bt y i))
def fB86 : List Int → Lean.RArray Nat → Prop
  | [x, y, z], hp => kIOR x y z hp
  | _, _ => False
def kIAN (x y z : Int) (hp : Lean.RArray Nat) : Prop := (y = 255 → z = x % 256) ∧ (y = 1 → z = x % 2)
def fB87 : List Int → Lean.RArray Nat → Prop
  | [x, y, z], hp => kIAN x y z hp
  | _, _ => False
def kUSH (x y z : Int) (hp : Lean.RArray Nat) : Prop := (y = 24 → z % 256 = x / 16777216 % 256) ∧ (y = 16 → z % 256 = x / 65536 % 256) ∧ (y = 8 → z % 256 = x / 256 % 256) ∧ (y = 0 → z % 256 = x % 256)
def fB88 : List Int → Lean.RArray Nat → Prop
  | [x, y, z], hp => kUSH x y z hp
  | _, _ => False
def kI2B (x z : Int) (hp : Lean.RArray Nat) : Prop := z % 256 = x % 256
def fB89 : List Int → Lean.RArray Nat → Prop
  | [x, z], hp => kI2B x z hp
  | _, _ => False
def kALV (w t : Int) (hp : Lean.RArray Nat) : Prop := ∀ i : Nat, i < 14 → (i : Int) < t → bt w i
def fB90 : List Int → Lean.RArray Nat → Prop
  | [w, t], hp => kALV w t hp
  | _, _ => False
def kWLV (w y l : Int) (hp : Lean.RArray Nat) : Prop := dF (XT hp) l (fun D => wR w D y)
def fB91 : List Int → Lean.RArray Nat → Prop
  | [w, y, l], hp => kWLV w y l hp
  | _, _ => False
def kWCX (l x y b : Int) (hp : Lean.RArray Nat) : Prop := dF (XT hp) l (fun D => bP b ((x, y) ∈ dWa D))
def fB92 : List Int → Lean.RArray Nat → Prop
  | [l, x, y, b], hp => kWCX l x y b hp
  | _, _ => False
def kTCX (l x y b : Int) (hp : Lean.RArray Nat) : Prop := dF (XT hp) l (fun D => bP b ((x, y) ∈ dTr D))
def fB93 : List Int → Lean.RArray Nat → Prop
  | [l, x, y, b], hp => kTCX l x y b hp
  | _, _ => False
def kTNX (s l x y : Int) (hp : Lean.RArray Nat) : Prop := ∀ i : Nat, i < 14 → (i : Int) < s → ¬ (hI hp (rr hp 2 6) i = x ∧ hI hp (rr hp 2 7) i = y)
def fB94 : List Int → Lean.RArray Nat → Prop
  | [s, l, x, y], hp => kTNX s l x y hp
  | _, _ => False
def kWNX (s l x y : Int) (hp : Lean.RArray Nat) : Prop := ∀ i : Nat, i < 8 → (i : Int) < s → ¬ (hI hp (rr hp 1 16) i = x ∧ hI hp (rr hp 1 17) i = y)
def fB95 : List Int → Lean.RArray Nat → Prop
  | [s, l, x, y], hp => kWNX s l x y hp
  | _, _ => False
def kTRB (t x y : Int) (hp : Lean.RArray Nat) : Prop := ∃ i : Nat, i < 14 ∧ t = (i : Int) ∧ hI hp (rr hp 2 6) i = x ∧ hI hp (rr hp 2 7) i = y
def fB96 : List Int → Lean.RArray Nat → Prop
  | [t, x, y], hp => kTRB t x y hp
  | _, _ => False
def kWLB (l x y : Int) (hp : Lean.RArray Nat) : Prop := dF (XT hp) l (fun D => ∀ j : Nat, j < 10 → ∀ i : Nat, i < 10 → (bt (hI hp (rr hp 2 10) j) i ↔ (((i : Int), (j : Int)) ∈ dWa D ∨ ((i : Int) = x ∧ (j : Int) = y))))
def fB97 : List Int → Lean.RArray Nat → Prop
  | [l, x, y], hp => kWLB l x y hp
  | _, _ => False
def kWLL (s l : Int) (hp : Lean.RArray Nat) : Prop := dF (XT hp) l (fun D => ∀ j : Nat, j < 10 → (j : Int) < s → wR (hI hp (rr hp 2 10) j) D j)
def fB98 : List Int → Lean.RArray Nat → Prop
  | [s, l], hp => kWLL s l hp
  | _, _ => False
def kWLH (s l : Int) (hp : Lean.RArray Nat) : Prop := dF (XT hp) l (fun D => ∀ j : Nat, j < 10 → s ≤ (j : Int) → wR (hI hp (rr hp 2 10) j) D j)
def fB99 : List Int → Lean.RArray Nat → Prop
  | [s, l], hp => kWLH s l hp
  | _, _ => False
def kCLR (hp : Lean.RArray Nat) : Prop := True
def fB100 : List Int → Lean.RArray Nat → Prop
  | [], hp => kCLR hp
  | _, _ => False
def kFLN (s : Int) (hp : Lean.RArray Nat) : Prop := ∀ j : Nat, j < 12 → (j : Int) < s → hL hp (rr hp 1 7) j = 0
def fB101 : List Int → Lean.RArray Nat → Prop
  | [s], hp => kFLN s hp
  | _, _ => False
def kFNN (hp : Lean.RArray Nat) : Prop := ∀ j : Nat, j < 12 → hL hp (rr hp 1 7) j = 0
def fB102 : List Int → Lean.RArray Nat → Prop
  | [], hp => kFNN hp
  | _, _ => False
def kFLO (s : Int) (hp : Lean.RArray Nat) : Prop := ∀ j : Nat, j < 100 → (j : Int) < s → hI hp (rr hp 1 8) j = -1
def fB103 : List Int → Lean.RArray Nat → Prop
  | [s], hp => kFLO s hp
  | _, _ => False
def kFNO (hp : Lean.RArray Nat) : Prop := ∀ j : Nat, j < 100 → hI hp (rr hp 1 8) j = -1
def fB104 : List Int → Lean.RArray Nat → Prop
  | [], hp => kFNO hp
  | _, _ => False
def kFLS (s : Int) (hp : Lean.RArray Nat) : Prop := ∀ j : Nat, j < 100 → (j : Int) < s → hI hp (rr hp 1 9) j = -1
def fB105 : List Int → Lean.RArray Nat → Prop
  | [s], hp => kFLS s hp
  | _, _ => False
def kFNS (hp : Lean.RArray Nat) : Prop := ∀ j : Nat, j < 100 → hI hp (rr hp 1 9) j = -1
def fB106 : List Int → Lean.RArray Nat → Prop
  | [], hp => kFNS hp
  | _, _ => False
def kFLW (s : Int) (hp : Lean.RArray Nat) : Prop := ∀ j : Nat, j < 10 → (j : Int) < s → hI hp (rr hp 2 10) j = 0
def fB107 : List Int → Lean.RArray Nat → Prop
  | [s], hp => kFLW s hp
  | _, _ => False
def kFNW (hp : Lean.RArray Nat) : Prop := ∀ j : Nat, j < 10 → hI hp (rr hp 2 10) j = 0
def fB108 : List Int → Lean.RArray Nat → Prop
  | [], hp => kFNW hp
  | _, _ => False
def kSKM (q p : Int) (hp : Lean.RArray Nat) : Prop := SK (MT hp).1 (MT hp).2.1 q p
def fB109 : List Int → Lean.RArray Nat → Prop
  | [q, p], hp => kSKM q p hp
  | _, _ => False
def kP1M (q p : Int) (hp : Lean.RArray Nat) : Prop := P1q (MT hp).1 (MT hp).2.1 q p
def fB110 : List Int → Lean.RArray Nat → Prop
  | [q, p], hp => kP1M q p hp
  | _, _ => False
def kP2M (q p : Int) (hp : Lean.RArray Nat) : Prop := P2 (MT hp) q p
def fB111 : List Int → Lean.RArray Nat → Prop
  | [q, p], hp => kP2M q p hp
  | _, _ => False
def kTPM (p w : Int) (hp : Lean.RArray Nat) : Prop := 0 ≤ p ∧ p < 940 ∧ w = MB hp p
def fB112 : List Int → Lean.RArray Nat → Prop
  | [p, w], hp => kTPM p w hp
  | _, _ => False
def kTP0 (p w : Int) (hp : Lean.RArray Nat) : Prop := 0 ≤ p ∧ p < 940 ∧ w = MB hp p
def fB113 : List Int → Lean.RArray Nat → Prop
  | [p, w], hp => kTP0 p w hp
  | _, _ => False
def kRNM (a p t o y x w : Int) (hp : Lean.RArray Nat) : Prop := RNm (MT hp) a p t o y x w
def fB114 : List Int → Lean.RArray Nat → Prop
  | [a, p, t, o, y, x, w], hp => kRNM a p t o y x w hp
  | _, _ => False
def kRUM (a p t o y x w : Int) (hp : Lean.RArray Nat) : Prop := REm (MT hp) a p t o y x w
def fB115 : List Int → Lean.RArray Nat → Prop
  | [a, p, t, o, y, x, w], hp => kRUM a p t o y x w hp
  | _, _ => False
def kTKM (q k a z v : Int) (hp : Lean.RArray Nat) : Prop := TKB (MT hp) q k a z v
def fB116 : List Int → Lean.RArray Nat → Prop
  | [q, k, a, z, v], hp => kTKM q k a z v hp
  | _, _ => False
def kTWM (q a z : Int) (hp : Lean.RArray Nat) : Prop := TW (MT hp) q a z
def fB117 : List Int → Lean.RArray Nat → Prop
  | [q, a, z], hp => kTWM q a z hp
  | _, _ => False
def kGM (q c l e f g h m n : Int) (hp : Lean.RArray Nat) : Prop := Gq (MT hp) q c l e f g h m n
def fB118 : List Int → Lean.RArray Nat → Prop
  | [q, c, l, e, f, g, h, m, n], hp => kGM q c l e f g h m n hp
  | _, _ => False
def kHM (q c l e f g h m n k a z v : Int) (hp : Lean.RArray Nat) : Prop := Hq (MT hp) q c l e f g h m n k a z v
def fB119 : List Int → Lean.RArray Nat → Prop
  | [q, c, l, e, f, g, h, m, n, k, a, z, v], hp => kHM q c l e f g h m n k a z v hp
  | _, _ => False
def kRSM (k p : Int) (hp : Lean.RArray Nat) : Prop := RS (MT hp) k p
def fB120 : List Int → Lean.RArray Nat → Prop
  | [k, p], hp => kRSM k p hp
  | _, _ => False
def kENM (q x y : Int) (hp : Lean.RArray Nat) : Prop := EN (MT hp) q x y
def fB121 : List Int → Lean.RArray Nat → Prop
  | [q, x, y], hp => kENM q x y hp
  | _, _ => False
def kEWM (q : Int) (hp : Lean.RArray Nat) : Prop := EW (MT hp) q
def fB122 : List Int → Lean.RArray Nat → Prop
  | [q], hp => kEWM q hp
  | _, _ => False
def kEOM (q x : Int) (hp : Lean.RArray Nat) : Prop := (x = 12 ∧ EO (MT hp) q 0 4) ∨ (x = 19 ∧ EO (MT hp) q 7 5)
def fB123 : List Int → Lean.RArray Nat → Prop
  | [q, x], hp => kEOM q x hp
  | _, _ => False
def kEFM (q : Int) (hp : Lean.RArray Nat) : Prop := EF (MT hp) q
def fB124 : List Int → Lean.RArray Nat → Prop
  | [q], hp => kEFM q hp
  | _, _ => False
def kCTM (l co cs ck cw ct cu cf cz cx cy : Int) (hp : Lean.RArray Nat) : Prop := CT (MT hp) l co cs ck cw ct cu cf cz cx cy
def fB125 : List Int → Lean.RArray Nat → Prop
  | [l, co, cs, ck, cw, ct, cu, cf, cz, cx, cy], hp => kCTM l co cs ck cw ct cu cf cz cx cy hp
  | _, _ => False
def kFDM (x l a z i : Int) (hp : Lean.RArray Nat) : Prop := FD (MT hp) x l a z i
def fB126 : List Int → Lean.RArray Nat → Prop
  | [x, l, a, z, i], hp => kFDM x l a z i hp
  | _, _ => False
def kSLM (l a z i : Int) (hp : Lean.RArray Nat) : Prop := SL (MT hp) l a z i
def fB127 : List Int → Lean.RArray Nat → Prop
  | [l, a, z, i], hp => kSLM l a z i hp
  | _, _ => False
def kANM (x k : Int) (hp : Lean.RArray Nat) : Prop := ANk (MT hp) x k
def fB128 : List Int → Lean.RArray Nat → Prop
  | [x, k], hp => kANM x k hp
  | _, _ => False
def kDNM (l : Int) (hp : Lean.RArray Nat) : Prop := DN (MT hp) l
def fB129 : List Int → Lean.RArray Nat → Prop
  | [l], hp => kDNM l hp
  | _, _ => False
def kSZM (l w : Int) (hp : Lean.RArray Nat) : Prop := dF (MT hp) l (fun D => bP w (szl D))
def fB130 : List Int → Lean.RArray Nat → Prop
  | [l, w], hp => kSZM l w hp
  | _, _ => False
def kNMM (a z : Int) (hp : Lean.RArray Nat) : Prop := isW (bs (MT hp).1 a z) ∧ hL hp 273 17 = cd 256 0 (bs (MT hp).1 a z)
def fB131 : List Int → Lean.RArray Nat → Prop
  | [a, z], hp => kNMM a z hp
  | _, _ => False
def kRSV (hp : Lean.RArray Nat) : Prop := ∀ i : Nat, i < 30 → hL hp 279 i = cd 256 0 (wrd (rsv i))
def fB132 : List Int → Lean.RArray Nat → Prop
  | [], hp => kRSV hp
  | _, _ => False
def kINM (s y w : Int) (hp : Lean.RArray Nat) : Prop := (y = 1 ∧ ∀ i : Nat, i < 30 → (i : Int) < s → hL hp 279 i ≠ w) ∨ (y = 0 ∧ ∃ i : Nat, i < 30 ∧ (i : Int) < s ∧ hL hp 279 i = w)
def fB133 : List Int → Lean.RArray Nat → Prop
  | [s, y, w], hp => kINM s y w hp
  | _, _ => False
def kRW (x y : Int) (hp : Lean.RArray Nat) : Prop := ∃ j : Nat, j < 30 ∧ y = (j : Int) ∧ x = cd 256 0 (wrd j)
def fB134 : List Int → Lean.RArray Nat → Prop
  | [x, y], hp => kRW x y hp
  | _, _ => False
def kOWN (l a z : Int) (hp : Lean.RArray Nat) : Prop := dl (MT hp) l (fun D => aOw D (bs (MT hp).1 a z))
def fB135 : List Int → Lean.RArray Nat → Prop
  | [l, a, z], hp => kOWN l a z hp
  | _, _ => False
def kSTR (l x y w h a z : Int) (hp : Lean.RArray Nat) : Prop := dl (MT hp) l (fun D => aSp D (bs (MT hp).1 a z) x y w h)
def fB136 : List Int → Lean.RArray Nat → Prop
  | [l, x, y, w, h, a, z], hp => kSTR l x y w h a z hp
  | _, _ => False
def kFLD (l x y w h : Int) (hp : Lean.RArray Nat) : Prop := dl (MT hp) l (fun D => aFi D x y w h)
def fB137 : List Int → Lean.RArray Nat → Prop
  | [l, x, y, w, h], hp => kFLD l x y w h hp
  | _, _ => False
def kKND (l a z : Int) (hp : Lean.RArray Nat) : Prop := dl (MT hp) l (fun D => aKn D (bs (MT hp).1 a z))
def fB138 : List Int → Lean.RArray Nat → Prop
  | [l, a, z], hp => kKND l a z hp
  | _, _ => False
def kSIZ (l x y : Int) (hp : Lean.RArray Nat) : Prop := dl (MT hp) l (fun D => aSz D x y)
def fB139 : List Int → Lean.RArray Nat → Prop
  | [l, x, y], hp => kSIZ l x y hp
  | _, _ => False
def kWND (l x y : Int) (hp : Lean.RArray Nat) : Prop := dl (MT hp) l (fun D => aWi D x y)
def fB140 : List Int → Lean.RArray Nat → Prop
  | [l, x, y], hp => kWND l x y hp
  | _, _ => False
def kTRE (l x y : Int) (hp : Lean.RArray Nat) : Prop := dl (MT hp) l (fun D => aTr D x y)
def fB141 : List Int → Lean.RArray Nat → Prop
  | [l, x, y], hp => kTRE l x y hp
  | _, _ => False
def kWAL (l x y : Int) (hp : Lean.RArray Nat) : Prop := dl (MT hp) l (fun D => aWa D x y)
def fB142 : List Int → Lean.RArray Nat → Prop
  | [l, x, y], hp => kWAL l x y hp
  | _, _ => False
def kNA12 (t l : Int) (hp : Lean.RArray Nat) : Prop := dF (MT hp) l (fun D => t = (dOw D).length ∧ ∀ i : Nat, i < 4 → (i : Int) < t → hL hp 278 (12 + i) = cd 256 0 (nm D (0 + i)))
def fB143 : List Int → Lean.RArray Nat → Prop
  | [t, l], hp => kNA12 t l hp
  | _, _ => False
def kFW12 (s w : Int) (hp : Lean.RArray Nat) : Prop := ∀ i : Nat, i < 4 → (i : Int) < s → hL hp 278 (12 + i) ≠ w
def fB144 : List Int → Lean.RArray Nat → Prop
  | [s, w], hp => kFW12 s w hp
  | _, _ => False
def kNA16 (t l : Int) (hp : Lean.RArray Nat) : Prop := dF (MT hp) l (fun D => t = (dSt D).length ∧ ∀ i : Nat, i < 3 → (i : Int) < t → hL hp 278 (16 + i) = cd 256 0 (nm D (4 + i)))
def fB145 : List Int → Lean.RArray Nat → Prop
  | [t, l], hp => kNA16 t l hp
  | _, _ => False
def kFW16 (s w : Int) (hp : Lean.RArray Nat) : Prop := ∀ i : Nat, i < 3 → (i : Int) < s → hL hp 278 (16 + i) ≠ w
def fB146 : List Int → Lean.RArray Nat → Prop
  | [s, w], hp => kFW16 s w hp
  | _, _ => False
def kNA19 (t l : Int) (hp : Lean.RArray Nat) : Prop := dF (MT hp) l (fun D => t = (dKn D).length ∧ ∀ i : Nat, i < 5 → (i : Int) < t → hL hp 278 (19 + i) = cd 256 0 (nm D (7 + i)))
def fB147 : List Int → Lean.RArray Nat → Prop
  | [t, l], hp => kNA19 t l hp
  | _, _ => False
def kFW19 (s w : Int) (hp : Lean.RArray Nat) : Prop := ∀ i : Nat, i < 5 → (i : Int) < s → hL hp 278 (19 + i) ≠ w
def fB148 : List Int → Lean.RArray Nat → Prop
  | [s, w], hp => kFW19 s w hp
  | _, _ => False
def kNBM (s a z : Int) (hp : Lean.RArray Nat) : Prop := ∃ i : Nat, i < 24 ∧ 12 ≤ i ∧ s = (i : Int) ∧ hL hp 278 i = cd 256 0 (bs (MT hp).1 a z)
def fB149 : List Int → Lean.RArray Nat → Prop
  | [s, a, z], hp => kNBM s a z hp
  | _, _ => False
def kNOM (q : Int) (hp : Lean.RArray Nat) : Prop := NO (MT hp) q
def fB150 : List Int → Lean.RArray Nat → Prop
  | [q], hp => kNOM q hp
  | _, _ => False
def kFD12 (l a z i : Int) (hp : Lean.RArray Nat) : Prop := FD (MT hp) 12 l a z i
def fB151 : List Int → Lean.RArray Nat → Prop
  | [l, a, z, i], hp => kFD12 l a z i hp
  | _, _ => False
def kFD16 (l a z i : Int) (hp : Lean.RArray Nat) : Prop := FD (MT hp) 16 l a z i
def fB152 : List Int → Lean.RArray Nat → Prop
  | [l, a, z, i], hp => kFD16 l a z i hp
  | _, _ => False
def kFD19 (l a z i : Int) (hp : Lean.RArray Nat) : Prop := FD (MT hp) 19 l a z i
def fB153 : List Int → Lean.RArray Nat → Prop
  | [l, a, z, i], hp => kFD19 l a z i hp
  | _, _ => False
def kTAM (l : Int) (hp : Lean.RArray Nat) : Prop := dF (MT hp) l (fun D => ∀ p : Nat, p < 100 → (fM hp p ↔ ¬ tkI D p))
def fB154 : List Int → Lean.RArray Nat → Prop
  | [l], hp => kTAM l hp
  | _, _ => False
def kTLM (s l x y w h : Int) (hp : Lean.RArray Nat) : Prop := dF (MT hp) l (fun D => ∀ p : Nat, p < 100 → (p : Int) < s → (fM hp p ↔ ¬ (tkI D p ∨ inR x y w h p)))
def fB155 : List Int → Lean.RArray Nat → Prop
  | [s, l, x, y, w, h], hp => kTLM s l x y w h hp
  | _, _ => False
def kTHM (s l : Int) (hp : Lean.RArray Nat) : Prop := dF (MT hp) l (fun D => ∀ p : Nat, p < 100 → s ≤ (p : Int) → (fM hp p ↔ ¬ tkI D p))
def fB156 : List Int → Lean.RArray Nat → Prop
  | [s, l], hp => kTHM s l hp
  | _, _ => False
def kTBM (l x y w h : Int) (hp : Lean.RArray Nat) : Prop := dF (MT hp) l (fun D => ∀ p : Nat, p < 100 → (fM hp p ↔ ¬ (tkI D p ∨ inR x y w h p)))
def fB157 : List Int → Lean.RArray Nat → Prop
  | [l, x, y, w, h], hp => kTBM l x y w h hp
  | _, _ => False
def kSCM (s l x y w h : Int) (hp : Lean.RArray Nat) : Prop := dF (MT hp) l (fun D => scN D s x y w h)
def fB158 : List Int → Lean.RArray Nat → Prop
  | [s, l, x, y, w, h], hp => kSCM s l x y w h hp
  | _, _ => False
def kTRM (t l : Int) (hp : Lean.RArray Nat) : Prop := dF (MT hp) l (fun D => t = (dTr D).length ∧ ∀ i : Nat, i < 14 → (i : Int) < t → (dTr D)[i]? = some (hI hp 276 (272 + i), hI hp 276 (286 + i)))
def fB159 : List Int → Lean.RArray Nat → Prop
  | [t, l], hp => kTRM t l hp
  | _, _ => False
def kTRBM (t x y : Int) (hp : Lean.RArray Nat) : Prop := ∃ i : Nat, i < 14 ∧ t = (i : Int) ∧ hI hp 276 (272 + i) = x ∧ hI hp 276 (286 + i) = y
def fB160 : List Int → Lean.RArray Nat → Prop
  | [t, x, y], hp => kTRBM t x y hp
  | _, _ => False
def kTHD (s b l x y : Int) (hp : Lean.RArray Nat) : Prop := dF (MT hp) l (fun D => (b = 1 ∧ ¬ fre D x y) ∨ (b = 0 ∧ (x, y) ∉ dWa D ∧ ∀ i : Nat, i < 14 → (i : Int) < s → ¬ (hI hp 276 (272 + i) = x ∧ hI hp 276 (286 + i) = y)))
def fB161 : List Int → Lean.RArray Nat → Prop
  | [s, b, l, x, y], hp => kTHD s b l x y hp
  | _, _ => False
def kWLM (l : Int) (hp : Lean.RArray Nat) : Prop := dF (MT hp) l (fun D => ∀ p : Nat, p < 100 → (hI hp 276 (300 + p) = 1 ↔ wlI D p))
def fB162 : List Int → Lean.RArray Nat → Prop
  | [l], hp => kWLM l hp
  | _, _ => False
def kWPM (s l : Int) (hp : Lean.RArray Nat) : Prop := dF (MT hp) l (fun D => ∀ p : Nat, p < 100 → (p : Int) < s → (hI hp 276 (300 + p) = 1 ↔ wlI D p))
def fB163 : List Int → Lean.RArray Nat → Prop
  | [s, l], hp => kWPM s l hp
  | _, _ => False
def kWQM (s l : Int) (hp : Lean.RArray Nat) : Prop := dF (MT hp) l (fun D => ∀ p : Nat, p < 100 → s ≤ (p : Int) → (hI hp 276 (300 + p) = 1 ↔ wlI D p))
def fB164 : List Int → Lean.RArray Nat → Prop
  | [s, l], hp => kWQM s l hp
  | _, _ => False
def kWBM (l x y : Int) (hp : Lean.RArray Nat) : Prop := dF (MT hp) l (fun D => ∀ p : Nat, p < 100 → (hI hp 276 (300 + p) = 1 ↔ (wlI D p ∨ ((p : Int) % 10 = x ∧ (p : Int) / 10 = y))))
def fB165 : List Int → Lean.RArray Nat → Prop
  | [l, x, y], hp => kWBM l x y hp
  | _, _ => False
def kWDM (t l : Int) (hp : Lean.RArray Nat) : Prop := dF (MT hp) l (fun D => t = (dWi D).length ∧ ∀ i : Nat, i < 8 → (i : Int) < t → (dWi D)[i]? = some (hI hp 276 (234 + i), hI hp 276 (242 + i)))
def fB166 : List Int → Lean.RArray Nat → Prop
  | [t, l], hp => kWDM t l hp
  | _, _ => False
def kWNM (s l x y : Int) (hp : Lean.RArray Nat) : Prop := ∀ i : Nat, i < 8 → (i : Int) < s → ¬ (hI hp 276 (234 + i) = x ∧ hI hp 276 (242 + i) = y)
def fB167 : List Int → Lean.RArray Nat → Prop
  | [s, l, x, y], hp => kWNM s l x y hp
  | _, _ => False
def kATM (l x y w h : Int) (hp : Lean.RArray Nat) : Prop := dF (MT hp) l (fun D => anyT D x y w h)
def fB168 : List Int → Lean.RArray Nat → Prop
  | [l, x, y, w, h], hp => kATM l x y w h hp
  | _, _ => False
def kAFM (l x y w h : Int) (hp : Lean.RArray Nat) : Prop := dF (MT hp) l (fun D => ¬ anyT D x y w h)
def fB169 : List Int → Lean.RArray Nat → Prop
  | [l, x, y, w, h], hp => kAFM l x y w h hp
  | _, _ => False
def kCEM (l p b : Int) (hp : Lean.RArray Nat) : Prop := dF (MT hp) l (fun D => bP b (tkI D p))
def fB170 : List Int → Lean.RArray Nat → Prop
  | [l, p, b], hp => kCEM l p b hp
  | _, _ => False
def kFRM (l x y b : Int) (hp : Lean.RArray Nat) : Prop := dF (MT hp) l (fun D => bP b (fre D x y))
def fB171 : List Int → Lean.RArray Nat → Prop
  | [l, x, y, b], hp => kFRM l x y b hp
  | _, _ => False
def kHWM (l x y b : Int) (hp : Lean.RArray Nat) : Prop := dF (MT hp) l (fun D => bP b ((x, y) ∈ dWi D))
def fB172 : List Int → Lean.RArray Nat → Prop
  | [l, x, y, b], hp => kHWM l x y b hp
  | _, _ => False
def kHZM (s : Int) (hp : Lean.RArray Nat) : Prop := ∀ j : Nat, j < 401 → (j : Int) < s → hI hp 276 j = 0
def fB173 : List Int → Lean.RArray Nat → Prop
  | [s], hp => kHZM s hp
  | _, _ => False
def kHZR (hp : Lean.RArray Nat) : Prop := ∀ j : Nat, 2 ≤ j → j < 401 → hI hp 276 j = 0
def fB174 : List Int → Lean.RArray Nat → Prop
  | [], hp => kHZR hp
  | _, _ => False
def kCXM (l x y : Int) (hp : Lean.RArray Nat) : Prop := dF (MT hp) l (fun D => x = dCx D ∧ y = dCy D)
def fB175 : List Int → Lean.RArray Nat → Prop
  | [l, x, y], hp => kCXM l x y hp
  | _, _ => False
def kWDBM (t x y : Int) (hp : Lean.RArray Nat) : Prop := ∃ i : Nat, i < 8 ∧ t = (i : Int) ∧ hI hp 276 (234 + i) = x ∧ hI hp 276 (242 + i) = y
def fB176 : List Int → Lean.RArray Nat → Prop
  | [t, x, y], hp => kWDBM t x y hp
  | _, _ => False
def kTEQ (t : Int) (hp : Lean.RArray Nat) : Prop := ∀ i : Nat, i < 940 → (i : Int) < t → hI hp 1 i = hI hp 274 i % 256
def fB177 : List Int → Lean.RArray Nat → Prop
  | [t], hp => kTEQ t hp
  | _, _ => False
def kPX (u t v : Int) (hp : Lean.RArray Nat) : Prop := pxD (fun i => hI hp 1 i) u t v
def fB178 : List Int → Lean.RArray Nat → Prop
  | [u, t, v], hp => kPX u t v hp
  | _, _ => False
def kPB1 (u v : Int) (hp : Lean.RArray Nat) : Prop := pxD (fun i => hI hp 1 i) u 4 v
def fB179 : List Int → Lean.RArray Nat → Prop
  | [u, v], hp => kPB1 u v hp
  | _, _ => False
def kPB2 (u v : Int) (hp : Lean.RArray Nat) : Prop := pxD (fun i => hI hp 1 i) u 4 v
def fB180 : List Int → Lean.RArray Nat → Prop
  | [u, v], hp => kPB2 u v hp
  | _, _ => False
def kPB3 (u v : Int) (hp : Lean.RArray Nat) : Prop := pxD (fun i => hI hp 1 i) u 4 v
def fB181 : List Int → Lean.RArray Nat → Prop
  | [u, v], hp => kPB3 u v hp
  | _, _ => False
def kPB4 (u v : Int) (hp : Lean.RArray Nat) : Prop := pxD (fun i => hI hp 1 i) u 4 v
def fB182 : List Int → Lean.RArray Nat → Prop
  | [u, v], hp => kPB4 u v hp
  | _, _ => False
def kPB5 (u v : Int) (hp : Lean.RArray Nat) : Prop := pxD (fun i => hI hp 1 i) u 4 v
def fB183 : List Int → Lean.RArray Nat → Prop
  | [u, v], hp => kPB5 u v hp
  | _, _ => False
def kQX (u t v : Int) (hp : Lean.RArray Nat) : Prop := pxD (fun i => hI hp 274 i % 256) u t v
def fB184 : List Int → Lean.RArray Nat → Prop
  | [u, t, v], hp => kQX u t v hp
  | _, _ => False
def kQB1 (u v : Int) (hp : Lean.RArray Nat) : Prop := pxD (fun i => hI hp 274 i % 256) u 4 v
def fB185 : List Int → Lean.RArray Nat → Prop
  | [u, v], hp => kQB1 u v hp
  | _, _ => False
def kQB2 (u v : Int) (hp : Lean.RArray Nat) : Prop := pxD (fun i => hI hp 274 i % 256) u 4 v
def fB186 : List Int → Lean.RArray Nat → Prop
  | [u, v], hp => kQB2 u v hp
  | _, _ => False
def kQB3 (u v : Int) (hp : Lean.RArray Nat) : Prop := pxD (fun i => hI hp 274 i % 256) u 4 v
def fB187 : List Int → Lean.RArray Nat → Prop
  | [u, v], hp => kQB3 u v hp
  | _, _ => False
def kQB4 (u v : Int) (hp : Lean.RArray Nat) : Prop := pxD (fun i => hI hp 274 i % 256) u 4 v
def fB188 : List Int → Lean.RArray Nat → Prop
  | [u, v], hp => kQB4 u v hp
  | _, _ => False
def kQB5 (u v : Int) (hp : Lean.RArray Nat) : Prop := pxD (fun i => hI hp 274 i % 256) u 4 v
def fB189 : List Int → Lean.RArray Nat → Prop
  | [u, v], hp => kQB5 u v hp
  | _, _ => False
def kFBX (t a b c d e : Int) (hp : Lean.RArray Nat) : Prop := 0 ≤ t ∧ t + 20 ≤ 940 ∧ ∀ k : Nat, k < 4 → hI hp 1 (t.toNat + k) = b8 a k ∧ hI hp 1 (t.toNat + 4 + k) = b8 b k ∧ hI hp 1 (t.toNat + 8 + k) = b8 c k ∧ hI hp 1 (t.toNat + 12 + k) = b8 d k ∧ hI hp 1 (t.toNat + 16 + k) = b8 e k
def fB190 : List Int → Lean.RArray Nat → Prop
  | [t, a, b, c, d, e], hp => kFBX t a b c d e hp
  | _, _ => False
def kSGX (q c o t : Int) (hp : Lean.RArray Nat) : Prop := SG (XT hp) (nmR hp (xnm hp)) q c o t
def fB191 : List Int → Lean.RArray Nat → Prop
  | [q, c, o, t], hp => kSGX q c o t hp
  | _, _ => False
def kSHX (q c o t k a z v : Int) (hp : Lean.RArray Nat) : Prop := SHq (XT hp) (nmR hp (xnm hp)) q c o t k a z v ∧ k ≠ 4
def fB192 : List Int → Lean.RArray Nat → Prop
  | [q, c, o, t, k, a, z, v], hp => kSHX q c o t k a z v hp
  | _, _ => False
def kSRX (k p : Int) (hp : Lean.RArray Nat) : Prop := SRS (XT hp) (nmR hp (xnm hp)) k p
def fB193 : List Int → Lean.RArray Nat → Prop
  | [k, p], hp => kSRX k p hp
  | _, _ => False
def kSLV (a z i : Int) (hp : Lean.RArray Nat) : Prop := scW (fun j => hL hp (xnm hp) j) (cd 32 96 (bs (XT hp).1 a z)) i
def fB194 : List Int → Lean.RArray Nat → Prop
  | [a, z, i], hp => kSLV a z i hp
  | _, _ => False
def kSCV (w i : Int) (hp : Lean.RArray Nat) : Prop := scW (fun j => hL hp (xnm hp) j) w i
def fB195 : List Int → Lean.RArray Nat → Prop
  | [w, i], hp => kSCV w i hp
  | _, _ => False
def kSDX (o : Int) (hp : Lean.RArray Nat) : Prop := SDN (XT hp) (nmR hp (xnm hp)) o
def fB196 : List Int → Lean.RArray Nat → Prop
  | [o], hp => kSDX o hp
  | _, _ => False
def kSAX (x k : Int) (hp : Lean.RArray Nat) : Prop := SAN (XT hp) (nmR hp (xnm hp)) x k
def fB197 : List Int → Lean.RArray Nat → Prop
  | [x, k], hp => kSAX x k hp
  | _, _ => False
def kSWV (s w : Int) (hp : Lean.RArray Nat) : Prop := ∀ j : Nat, j < 12 → (j : Int) < s → hL hp (xnm hp) j ≠ w
def fB198 : List Int → Lean.RArray Nat → Prop
  | [s, w], hp => kSWV s w hp
  | _, _ => False
def kDPX (t d : Int) (hp : Lean.RArray Nat) : Prop := d = dp t + 1
def fB199 : List Int → Lean.RArray Nat → Prop
  | [t, d], hp => kDPX t d hp
  | _, _ => False
def kNRX (t u : Int) (hp : Lean.RArray Nat) : Prop := u = nr t
def fB200 : List Int → Lean.RArray Nat → Prop
  | [t, u], hp => kNRX t u hp
  | _, _ => False
def kNR0 (t : Int) (hp : Lean.RArray Nat) : Prop := nr t = t
def fB201 : List Int → Lean.RArray Nat → Prop
  | [t], hp => kNR0 t hp
  | _, _ => False
def kSNX (x y : Int) (hp : Lean.RArray Nat) : Prop := x ≤ 0 ∧ 99 ≤ y
def fB202 : List Int → Lean.RArray Nat → Prop
  | [x, y], hp => kSNX x y hp
  | _, _ => False
def kSGL (hp : Lean.RArray Nat) : Prop := True
def fB203 : List Int → Lean.RArray Nat → Prop
  | [], hp => kSGL hp
  | _, _ => False
def kSAA (x k : Int) (hp : Lean.RArray Nat) : Prop := SAN (XT hp) (nmR hp 3) x k
def fB204 : List Int → Lean.RArray Nat → Prop
  | [x, k], hp => kSAA x k hp
  | _, _ => False
def kSAB (x k : Int) (hp : Lean.RArray Nat) : Prop := SAN (XT hp) (nmR hp 16) x k
def fB205 : List Int → Lean.RArray Nat → Prop
  | [x, k], hp => kSAB x k hp
  | _, _ => False
def kSGM (q c o t : Int) (hp : Lean.RArray Nat) : Prop := SG (MT hp) (nmM hp) q c o t
def fB206 : List Int → Lean.RArray Nat → Prop
  | [q, c, o, t], hp => kSGM q c o t hp
  | _, _ => False
def kSHM (q c o t k a z v : Int) (hp : Lean.RArray Nat) : Prop := SHq (MT hp) (nmM hp) q c o t k a z v
def fB207 : List Int → Lean.RArray Nat → Prop
  | [q, c, o, t, k, a, z, v], hp => kSHM q c o t k a z v hp
  | _, _ => False
def kSRM (k p : Int) (hp : Lean.RArray Nat) : Prop := SRS (MT hp) (nmM hp) k p
def fB208 : List Int → Lean.RArray Nat → Prop
  | [k, p], hp => kSRM k p hp
  | _, _ => False
def kSDM (o : Int) (hp : Lean.RArray Nat) : Prop := SDN (MT hp) (nmM hp) o
def fB209 : List Int → Lean.RArray Nat → Prop
  | [o], hp => kSDM o hp
  | _, _ => False
def kSAM (x k : Int) (hp : Lean.RArray Nat) : Prop := SAN (MT hp) (nmM hp) x k
def fB210 : List Int → Lean.RArray Nat → Prop
  | [x, k], hp => kSAM x k hp
  | _, _ => False
def kFDS (c a z i : Int) (hp : Lean.RArray Nat) : Prop := (0 ≤ i ∧ nmM hp c (bs (MT hp).1 a z)) ∨ (i = -1 ∧ ¬ nmM hp c (bs (MT hp).1 a z))
def fB211 : List Int → Lean.RArray Nat → Prop
  | [c, a, z, i], hp => kFDS c a z i hp
  | _, _ => False
def kSTM (p t : Int) (hp : Lean.RArray Nat) : Prop := ∃ n : Nat, p = (n : Int) ∧ n ≤ 45 ∧ sFo (fun j => hI hp 287 j) n t
def fB212 : List Int → Lean.RArray Nat → Prop
  | [p, t], hp => kSTM p t hp
  | _, _ => False
def kFW7 (s w : Int) (hp : Lean.RArray Nat) : Prop := ∀ i : Nat, i < 5 → (i : Int) < s → hL hp 278 (7 + i) ≠ w
def fB213 : List Int → Lean.RArray Nat → Prop
  | [s, w], hp => kFW7 s w hp
  | _, _ => False
def kFW0 (s w : Int) (hp : Lean.RArray Nat) : Prop := ∀ i : Nat, i < 4 → (i : Int) < s → hL hp 278 (0 + i) ≠ w
def fB214 : List Int → Lean.RArray Nat → Prop
  | [s, w], hp => kFW0 s w hp
  | _, _ => False
def kFW4 (s w : Int) (hp : Lean.RArray Nat) : Prop := ∀ i : Nat, i < 3 → (i : Int) < s → hL hp 278 (4 + i) ≠ w
def fB215 : List Int → Lean.RArray Nat → Prop
  | [s, w], hp => kFW4 s w hp
  | _, _ => False
def kPEQA (hp : Lean.RArray Nat) : Prop := (∀ c L, isW L → (nmR hp 3 c L ↔ nmM hp c L)) ∧ hI hp 2 0 = hI hp 275 0 ∧ hI hp 2 1 = hI hp 275 1
def fB216 : List Int → Lean.RArray Nat → Prop
  | [], hp => kPEQA hp
  | _, _ => False
def kPEQB (hp : Lean.RArray Nat) : Prop := (∀ c L, isW L → (nmR hp 16 c L ↔ nmM hp c L)) ∧ hI hp 15 0 = hI hp 275 0 ∧ hI hp 15 1 = hI hp 275 1
def fB217 : List Int → Lean.RArray Nat → Prop
  | [], hp => kPEQB hp
  | _, _ => False
def kNPA (l : Int) (hp : Lean.RArray Nat) : Prop := dF (XT hp) l (fun D => (∀ j : Nat, j < 12 → hL hp 3 j = cd 32 96 (nm D j)) ∧ hI hp 2 0 = dCx D ∧ hI hp 2 1 = dCy D)
def fB218 : List Int → Lean.RArray Nat → Prop
  | [l], hp => kNPA l hp
  | _, _ => False
def kNPB (l : Int) (hp : Lean.RArray Nat) : Prop := dF (XT hp) l (fun D => (∀ j : Nat, j < 12 → hL hp 16 j = cd 32 96 (nm D j)) ∧ hI hp 15 0 = dCx D ∧ hI hp 15 1 = dCy D)
def fB219 : List Int → Lean.RArray Nat → Prop
  | [l], hp => kNPB l hp
  | _, _ => False
def kSHE (hp : Lean.RArray Nat) : Prop := ∀ j : Nat, j < 5 → hI hp 275 j = hI hp 276 j
def fB220 : List Int → Lean.RArray Nat → Prop
  | [], hp => kSHE hp
  | _, _ => False
def kNMC (s : Int) (hp : Lean.RArray Nat) : Prop := ∀ j : Nat, j < 12 → (j : Int) < s → hL hp 278 j = hL hp 278 (12 + j)
def fB221 : List Int → Lean.RArray Nat → Prop
  | [s], hp => kNMC s hp
  | _, _ => False
def kEQN3_213 (hp : Lean.RArray Nat) : Prop := ∀ j : Nat, j < 12 → hv hp 3 j = hv hp 213 j
def fB222 : List Int → Lean.RArray Nat → Prop
  | [], hp => kEQN3_213 hp
  | _, _ => False
def kEQN213_3 (hp : Lean.RArray Nat) : Prop := ∀ j : Nat, j < 12 → hv hp 213 j = hv hp 3 j
def fB223 : List Int → Lean.RArray Nat → Prop
  | [], hp => kEQN213_3 hp
  | _, _ => False
def kEQN3_244 (hp : Lean.RArray Nat) : Prop := ∀ j : Nat, j < 12 → hv hp 3 j = hv hp 244 j
def fB224 : List Int → Lean.RArray Nat → Prop
  | [], hp => kEQN3_244 hp
  | _, _ => False
def kEQN244_3 (hp : Lean.RArray Nat) : Prop := ∀ j : Nat, j < 12 → hv hp 244 j = hv hp 3 j
def fB225 : List Int → Lean.RArray Nat → Prop
  | [], hp => kEQN244_3 hp
  | _, _ => False
def kEQN16_213 (hp : Lean.RArray Nat) : Prop := ∀ j : Nat, j < 12 → hv hp 16 j = hv hp 213 j
def fB226 : List Int → Lean.RArray Nat → Prop
  | [], hp => kEQN16_213 hp
  | _, _ => False
def kEQN213_16 (hp : Lean.RArray Nat) : Prop := ∀ j : Nat, j < 12 → hv hp 213 j = hv hp 16 j
def fB227 : List Int → Lean.RArray Nat → Prop
  | [], hp => kEQN213_16 hp
  | _, _ => False
def kEQN16_244 (hp : Lean.RArray Nat) : Prop := ∀ j : Nat, j < 12 → hv hp 16 j = hv hp 244 j
def fB228 : List Int → Lean.RArray Nat → Prop
  | [], hp => kEQN16_244 hp
  | _, _ => False
def kEQN244_16 (hp : Lean.RArray Nat) : Prop := ∀ j : Nat, j < 12 → hv hp 244 j = hv hp 16 j
def fB229 : List Int → Lean.RArray Nat → Prop
  | [], hp => kEQN244_16 hp
  | _, _ => False
def kIP0 (hp : Lean.RArray Nat) : Prop := (∀ c L, isW L → (nmR hp 213 c L ↔ nmM hp c L)) ∧ hI hp 212 0 = hI hp 275 0 ∧ hI hp 212 1 = hI hp 275 1
def fB230 : List Int → Lean.RArray Nat → Prop
  | [], hp => kIP0 hp
  | _, _ => False
def kIEQ0 (hp : Lean.RArray Nat) : Prop := (∀ c L, isW L → (nmR hp 213 c L ↔ nmK hp 0 c L)) ∧ (hI hp 289 0 = 0 ∨ (hI hp 212 0 = hI hp 289 0 ∧ hI hp 212 1 = hI hp 289 1))
def fB231 : List Int → Lean.RArray Nat → Prop
  | [], hp => kIEQ0 hp
  | _, _ => False
def kRPA0 (hp : Lean.RArray Nat) : Prop := (∀ c L, isW L → (nmR hp 3 c L ↔ nmK hp 0 c L)) ∧ (hI hp 289 0 = 0 ∨ (hI hp 2 0 = hI hp 289 0 ∧ hI hp 2 1 = hI hp 289 1))
def fB232 : List Int → Lean.RArray Nat → Prop
  | [], hp => kRPA0 hp
  | _, _ => False
def kRPB0 (hp : Lean.RArray Nat) : Prop := (∀ c L, isW L → (nmR hp 16 c L ↔ nmK hp 0 c L)) ∧ (hI hp 289 0 = 0 ∨ (hI hp 15 0 = hI hp 289 0 ∧ hI hp 15 1 = hI hp 289 1))
def fB233 : List Int → Lean.RArray Nat → Prop
  | [], hp => kRPB0 hp
  | _, _ => False
def kNQ0 (s : Int) (hp : Lean.RArray Nat) : Prop := ∀ j : Nat, j < 12 → (j : Int) < s → hL hp 290 (0 + j) = hL hp 278 j
def fB234 : List Int → Lean.RArray Nat → Prop
  | [s], hp => kNQ0 s hp
  | _, _ => False
def kIP1 (hp : Lean.RArray Nat) : Prop := (∀ c L, isW L → (nmR hp 244 c L ↔ nmM hp c L)) ∧ hI hp 243 0 = hI hp 275 0 ∧ hI hp 243 1 = hI hp 275 1
def fB235 : List Int → Lean.RArray Nat → Prop
  | [], hp => kIP1 hp
  | _, _ => False
def kIEQ1 (hp : Lean.RArray Nat) : Prop := (∀ c L, isW L → (nmR hp 244 c L ↔ nmK hp 1 c L)) ∧ (hI hp 289 871 = 0 ∨ (hI hp 243 0 = hI hp 289 871 ∧ hI hp 243 1 = hI hp 289 872))
def fB236 : List Int → Lean.RArray Nat → Prop
  | [], hp => kIEQ1 hp
  | _, _ => False
def kRPA1 (hp : Lean.RArray Nat) : Prop := (∀ c L, isW L → (nmR hp 3 c L ↔ nmK hp 1 c L)) ∧ (hI hp 289 871 = 0 ∨ (hI hp 2 0 = hI hp 289 871 ∧ hI hp 2 1 = hI hp 289 872))
def fB237 : List Int → Lean.RArray Nat → Prop
  | [], hp => kRPA1 hp
  | _, _ => False
def kRPB1 (hp : Lean.RArray Nat) : Prop := (∀ c L, isW L → (nmR hp 16 c L ↔ nmK hp 1 c L)) ∧ (hI hp 289 871 = 0 ∨ (hI hp 15 0 = hI hp 289 871 ∧ hI hp 15 1 = hI hp 289 872))
def fB238 : List Int → Lean.RArray Nat → Prop
  | [], hp => kRPB1 hp
  | _, _ => False
def kNQ1 (s : Int) (hp : Lean.RArray Nat) : Prop := ∀ j : Nat, j < 12 → (j : Int) < s → hL hp 290 (12 + j) = hL hp 278 j
def fB239 : List Int → Lean.RArray Nat → Prop
  | [s], hp => kNQ1 s hp
  | _, _ => False
def kRGX (q c l : Int) (hp : Lean.RArray Nat) : Prop := roG (XT hp) (nmR hp (xnm hp)) (hI hp (hC hp 0 6) 0) (hI hp (hC hp 0 6) 1) q c l
def fB240 : List Int → Lean.RArray Nat → Prop
  | [q, c, l], hp => kRGX q c l hp
  | _, _ => False
def kRHX (q c l k a z v : Int) (hp : Lean.RArray Nat) : Prop := roH (XT hp) (nmR hp (xnm hp)) (hI hp (hC hp 0 6) 0) (hI hp (hC hp 0 6) 1) q c l k a z v ∧ k ≠ 4
def fB241 : List Int → Lean.RArray Nat → Prop
  | [q, c, l, k, a, z, v], hp => kRHX q c l k a z v hp
  | _, _ => False
def kRRX (k p : Int) (hp : Lean.RArray Nat) : Prop := roS (XT hp) (nmR hp (xnm hp)) (hI hp (hC hp 0 6) 0) (hI hp (hC hp 0 6) 1) k p
def fB242 : List Int → Lean.RArray Nat → Prop
  | [k, p], hp => kRRX k p hp
  | _, _ => False
def kRDX (l : Int) (hp : Lean.RArray Nat) : Prop := roD (XT hp) (nmR hp (xnm hp)) (hI hp (hC hp 0 6) 0) (hI hp (hC hp 0 6) 1) l
def fB243 : List Int → Lean.RArray Nat → Prop
  | [l], hp => kRDX l hp
  | _, _ => False
def kRAX (k : Int) (hp : Lean.RArray Nat) : Prop := roA (XT hp) (nmR hp (xnm hp)) (hI hp (hC hp 0 6) 0) (hI hp (hC hp 0 6) 1) k
def fB244 : List Int → Lean.RArray Nat → Prop
  | [k], hp => kRAX k hp
  | _, _ => False
def kRBX (q x y : Int) (hp : Lean.RArray Nat) : Prop := roB (XT hp) (nmR hp (xnm hp)) (hI hp (hC hp 0 6) 0) (hI hp (hC hp 0 6) 1) q x y
def fB245 : List Int → Lean.RArray Nat → Prop
  | [q, x, y], hp => kRBX q x y hp
  | _, _ => False
def kROX (q : Int) (hp : Lean.RArray Nat) : Prop := roK (XT hp) (nmR hp (xnm hp)) (hI hp (hC hp 0 6) 0) (hI hp (hC hp 0 6) 1) q
def fB246 : List Int → Lean.RArray Nat → Prop
  | [q], hp => kROX q hp
  | _, _ => False
def kRAA (k : Int) (hp : Lean.RArray Nat) : Prop := roA (XT hp) (nmR hp 3) (hI hp 2 0) (hI hp 2 1) k
def fB247 : List Int → Lean.RArray Nat → Prop
  | [k], hp => kRAA k hp
  | _, _ => False
def kRAB (k : Int) (hp : Lean.RArray Nat) : Prop := roA (XT hp) (nmR hp 16) (hI hp 15 0) (hI hp 15 1) k
def fB248 : List Int → Lean.RArray Nat → Prop
  | [k], hp => kRAB k hp
  | _, _ => False
def kRGM (q c l : Int) (hp : Lean.RArray Nat) : Prop := roG (MT hp) (nmM hp) (hI hp 275 0) (hI hp 275 1) q c l
def fB249 : List Int → Lean.RArray Nat → Prop
  | [q, c, l], hp => kRGM q c l hp
  | _, _ => False
def kRHM (q c l k a z v : Int) (hp : Lean.RArray Nat) : Prop := roH (MT hp) (nmM hp) (hI hp 275 0) (hI hp 275 1) q c l k a z v
def fB250 : List Int → Lean.RArray Nat → Prop
  | [q, c, l, k, a, z, v], hp => kRHM q c l k a z v hp
  | _, _ => False
def kRRM (k p : Int) (hp : Lean.RArray Nat) : Prop := roS (MT hp) (nmM hp) (hI hp 275 0) (hI hp 275 1) k p
def fB251 : List Int → Lean.RArray Nat → Prop
  | [k, p], hp => kRRM k p hp
  | _, _ => False
def kRDM (l : Int) (hp : Lean.RArray Nat) : Prop := roD (MT hp) (nmM hp) (hI hp 275 0) (hI hp 275 1) l
def fB252 : List Int → Lean.RArray Nat → Prop
  | [l], hp => kRDM l hp
  | _, _ => False
def kRAM (k : Int) (hp : Lean.RArray Nat) : Prop := roA (MT hp) (nmM hp) (hI hp 275 0) (hI hp 275 1) k
def fB253 : List Int → Lean.RArray Nat → Prop
  | [k], hp => kRAM k hp
  | _, _ => False
def kRBM (q x y : Int) (hp : Lean.RArray Nat) : Prop := roB (MT hp) (nmM hp) (hI hp 275 0) (hI hp 275 1) q x y
def fB254 : List Int → Lean.RArray Nat → Prop
  | [q, x, y], hp => kRBM q x y hp
  | _, _ => False
def fB255 : List Int → Lean.RArray Nat → Prop := fun _ _ => False
/-- what the facts say -/
noncomputable def fTab : Lean.RArray (List Int → Lean.RArray Nat → Prop) := (.branch 128 (.branch 64 (.branch 32 (.branch 16 (.branch 8 (.branch 4 (.branch 2 (.branch 1 (.leaf fB0) (.leaf fB1)) (.branch 3 (.leaf fB2) (.leaf fB3))) (.branch 6 (.branch 5 (.leaf fB4) (.leaf fB5)) (.branch 7 (.leaf fB6) (.leaf fB7)))) (.branch 12 (.branch 10 (.branch 9 (.leaf fB8) (.leaf fB9)) (.branch 11 (.leaf fB10) (.leaf fB11))) (.branch 14 (.branch 13 (.leaf fB12) (.leaf fB13)) (.branch 15 (.leaf fB14) (.leaf fB15))))) (.branch 24 (.branch 20 (.branch 18 (.branch 17 (.leaf fB16) (.leaf fB17)) (.branch 19 (.leaf fB18) (.leaf fB19))) (.branch 22 (.branch 21 (.leaf fB20) (.leaf fB21)) (.branch 23 (.leaf fB22) (.leaf fB23)))) (.branch 28 (.branch 26 (.branch 25 (.leaf fB24) (.leaf fB25)) (.branch 27 (.leaf fB26) (.leaf fB27))) (.branch 30 (.branch 29 (.leaf fB28) (.leaf fB29)) (.branch 31 (.leaf fB30) (.leaf fB31)))))) (.branch 48 (.branch 40 (.branch 36 (.branch 34 (.branch 33 (.leaf fB32) (.leaf fB33)) (.branch 35 (.leaf fB34) (.leaf fB35))) (.branch 38 (.branch 37 (.leaf fB36) (.leaf fB37)) (.branch 39 (.leaf fB38) (.leaf fB39)))) (.branch 44 (.branch 42 (.branch 41 (.leaf fB40) (.leaf fB41)) (.branch 43 (.leaf fB42) (.leaf fB43))) (.branch 46 (.branch 45 (.leaf fB44) (.leaf fB45)) (.branch 47 (.leaf fB46) (.leaf fB47))))) (.branch 56 (.branch 52 (.branch 50 (.branch 49 (.leaf fB48) (.leaf fB49)) (.branch 51 (.leaf fB50) (.leaf fB51))) (.branch 54 (.branch 53 (.leaf fB52) (.leaf fB53)) (.branch 55 (.leaf fB54) (.leaf fB55)))) (.branch 60 (.branch 58 (.branch 57 (.leaf fB56) (.leaf fB57)) (.branch 59 (.leaf fB58) (.leaf fB59))) (.branch 62 (.branch 61 (.leaf fB60) (.leaf fB61)) (.branch 63 (.leaf fB62) (.leaf fB63))))))) (.branch 96 (.branch 80 (.branch 72 (.branch 68 (.branch 66 (.branch 65 (.leaf fB64) (.leaf fB65)) (.branch 67 (.leaf fB66) (.leaf fB67))) (.branch 70 (.branch 69 (.leaf fB68) (.leaf fB69)) (.branch 71 (.leaf fB70) (.leaf fB71)))) (.branch 76 (.branch 74 (.branch 73 (.leaf fB72) (.leaf fB73)) (.branch 75 (.leaf fB74) (.leaf fB75))) (.branch 78 (.branch 77 (.leaf fB76) (.leaf fB77)) (.branch 79 (.leaf fB78) (.leaf fB79))))) (.branch 88 (.branch 84 (.branch 82 (.branch 81 (.leaf fB80) (.leaf fB81)) (.branch 83 (.leaf fB82) (.leaf fB83))) (.branch 86 (.branch 85 (.leaf fB84) (.leaf fB85)) (.branch 87 (.leaf fB86) (.leaf fB87)))) (.branch 92 (.branch 90 (.branch 89 (.leaf fB88) (.leaf fB89)) (.branch 91 (.leaf fB90) (.leaf fB91))) (.branch 94 (.branch 93 (.leaf fB92) (.leaf fB93)) (.branch 95 (.leaf fB94) (.leaf fB95)))))) (.branch 112 (.branch 104 (.branch 100 (.branch 98 (.branch 97 (.leaf fB96) (.leaf fB97)) (.branch 99 (.leaf fB98) (.leaf fB99))) (.branch 102 (.branch 101 (.leaf fB100) (.leaf fB101)) (.branch 103 (.leaf fB102) (.leaf fB103)))) (.branch 108 (.branch 106 (.branch 105 (.leaf fB104) (.leaf fB105)) (.branch 107 (.leaf fB106) (.leaf fB107))) (.branch 110 (.branch 109 (.leaf fB108) (.leaf fB109)) (.branch 111 (.leaf fB110) (.leaf fB111))))) (.branch 120 (.branch 116 (.branch 114 (.branch 113 (.leaf fB112) (.leaf fB113)) (.branch 115 (.leaf fB114) (.leaf fB115))) (.branch 118 (.branch 117 (.leaf fB116) (.leaf fB117)) (.branch 119 (.leaf fB118) (.leaf fB119)))) (.branch 124 (.branch 122 (.branch 121 (.leaf fB120) (.leaf fB121)) (.branch 123 (.leaf fB122) (.leaf fB123))) (.branch 126 (.branch 125 (.leaf fB124) (.leaf fB125)) (.branch 127 (.leaf fB126) (.leaf fB127)))))))) (.branch 192 (.branch 160 (.branch 144 (.branch 136 (.branch 132 (.branch 130 (.branch 129 (.leaf fB128) (.leaf fB129)) (.branch 131 (.leaf fB130) (.leaf fB131))) (.branch 134 (.branch 133 (.leaf fB132) (.leaf fB133)) (.branch 135 (.leaf fB134) (.leaf fB135)))) (.branch 140 (.branch 138 (.branch 137 (.leaf fB136) (.leaf fB137)) (.branch 139 (.leaf fB138) (.leaf fB139))) (.branch 142 (.branch 141 (.leaf fB140) (.leaf fB141)) (.branch 143 (.leaf fB142) (.leaf fB143))))) (.branch 152 (.branch 148 (.branch 146 (.branch 145 (.leaf fB144) (.leaf fB145)) (.branch 147 (.leaf fB146) (.leaf fB147))) (.branch 150 (.branch 149 (.leaf fB148) (.leaf fB149)) (.branch 151 (.leaf fB150) (.leaf fB151)))) (.branch 156 (.branch 154 (.branch 153 (.leaf fB152) (.leaf fB153)) (.branch 155 (.leaf fB154) (.leaf fB155))) (.branch 158 (.branch 157 (.leaf fB156) (.leaf fB157)) (.branch 159 (.leaf fB158) (.leaf fB159)))))) (.branch 176 (.branch 168 (.branch 164 (.branch 162 (.branch 161 (.leaf fB160) (.leaf fB161)) (.branch 163 (.leaf fB162) (.leaf fB163))) (.branch 166 (.branch 165 (.leaf fB164) (.leaf fB165)) (.branch 167 (.leaf fB166) (.leaf fB167)))) (.branch 172 (.branch 170 (.branch 169 (.leaf fB168) (.leaf fB169)) (.branch 171 (.leaf fB170) (.leaf fB171))) (.branch 174 (.branch 173 (.leaf fB172) (.leaf fB173)) (.branch 175 (.leaf fB174) (.leaf fB175))))) (.branch 184 (.branch 180 (.branch 178 (.branch 177 (.leaf fB176) (.leaf fB177)) (.branch 179 (.leaf fB178) (.leaf fB179))) (.branch 182 (.branch 181 (.leaf fB180) (.leaf fB181)) (.branch 183 (.leaf fB182) (.leaf fB183)))) (.branch 188 (.branch 186 (.branch 185 (.leaf fB184) (.leaf fB185)) (.branch 187 (.leaf fB186) (.leaf fB187))) (.branch 190 (.branch 189 (.leaf fB188) (.leaf fB189)) (.branch 191 (.leaf fB190) (.leaf fB191))))))) (.branch 224 (.branch 208 (.branch 200 (.branch 196 (.branch 194 (.branch 193 (.leaf fB192) (.leaf fB193)) (.branch 195 (.leaf fB194) (.leaf fB195))) (.branch 198 (.branch 197 (.leaf fB196) (.leaf fB197)) (.branch 199 (.leaf fB198) (.leaf fB199)))) (.branch 204 (.branch 202 (.branch 201 (.leaf fB200) (.leaf fB201)) (.branch 203 (.leaf fB202) (.leaf fB203))) (.branch 206 (.branch 205 (.leaf fB204) (.leaf fB205)) (.branch 207 (.leaf fB206) (.leaf fB207))))) (.branch 216 (.branch 212 (.branch 210 (.branch 209 (.leaf fB208) (.leaf fB209)) (.branch 211 (.leaf fB210) (.leaf fB211))) (.branch 214 (.branch 213 (.leaf fB212) (.leaf fB213)) (.branch 215 (.leaf fB214) (.leaf fB215)))) (.branch 220 (.branch 218 (.branch 217 (.leaf fB216) (.leaf fB217)) (.branch 219 (.leaf fB218) (.leaf fB219))) (.branch 222 (.branch 221 (.leaf fB220) (.leaf fB221)) (.branch 223 (.leaf fB222) (.leaf fB223)))))) (.branch 240 (.branch 232 (.branch 228 (.branch 226 (.branch 225 (.leaf fB224) (.leaf fB225)) (.branch 227 (.leaf fB226) (.leaf fB227))) (.branch 230 (.branch 229 (.leaf fB228) (.leaf fB229)) (.branch 231 (.leaf fB230) (.leaf fB231)))) (.branch 236 (.branch 234 (.branch 233 (.leaf fB232) (.leaf fB233)) (.branch 235 (.leaf fB234) (.leaf fB235))) (.branch 238 (.branch 237 (.leaf fB236) (.leaf fB237)) (.branch 239 (.leaf fB238) (.leaf fB239))))) (.branch 248 (.branch 244 (.branch 242 (.branch 241 (.leaf fB240) (.leaf fB241)) (.branch 243 (.leaf fB242) (.leaf fB243))) (.branch 246 (.branch 245 (.leaf fB244) (.leaf fB245)) (.branch 247 (.leaf fB246) (.leaf fB247)))) (.branch 252 (.branch 250 (.branch 249 (.leaf fB248) (.leaf fB249)) (.branch 251 (.leaf fB250) (.leaf fB251))) (.branch 254 (.branch 253 (.leaf fB252) (.leaf fB253)) (.branch 255 (.leaf fB254) (.leaf fB255)))))))))
noncomputable def fFS : sFS := fun f xs hp => Lean.RArray.get fTab f xs hp
theorem fFS_eq : eqOk fFS := by
  refine ⟨fun n q hq hp h => ?_, fun x hp h h0 => ?_, fun x c hp h h1 h2 => ?_⟩
  · have hz : q ∈ cond (Nat.beq n 40) tEQ (cond (Nat.beq n 12) tEQn []) := hq
    clear hq
    cases h1 : Nat.beq n 40
    · rw [h1, cond_false] at hz
      cases h2 : Nat.beq n 12
      · rw [h2, cond_false] at hz
        cases hz
      · rw [h2, cond_true] at hz
        have e := Nat.eq_of_beq_eq_true h2
        subst e
        simp only [tEQn, List.mem_cons, List.not_mem_nil, or_false] at hz
        rcases hz with rfl | rfl | rfl | rfl | rfl | rfl | rfl | rfl <;> exact h
    · rw [h1, cond_true] at hz
      have e := Nat.eq_of_beq_eq_true h1
      subst e
      simp only [tEQ, List.mem_cons, List.not_mem_nil, or_false] at hz
      rcases hz with rfl | rfl | rfl | rfl | rfl | rfl | rfl | rfl | rfl | rfl | rfl | rfl | rfl | rfl | rfl | rfl <;> exact h
  · have h : fMod x := h
    rcases h with h | h
    · omega
    · exact h
  · show fMod x
    right
    omega
/-- slots that a fact looks at -/
theorem fp1 {f : Nat} {xs : List Int} {c j : Nat} (q : Nat × Nat × Nat × Nat) (hq : q ∈ tFP f) (h1 : tRO c = q.1) (h2 : q.2.1 ≤ j) (h3 : j < q.2.2.1) (h4 : ¬ q.2.2.2 = 0 → ∀ x, xs.head? = some x → (q.2.2.2 < 1000 → (j : Int) < (q.2.1 : Int) + (q.2.2.2 : Int) * x) ∧ (1000 ≤ q.2.2.2 → (q.2.1 : Int) + ((q.2.2.2 - 1000 : Nat) : Int) * x ≤ (j : Int))) : fpIn f xs c j := ⟨q, hq, h1, h2, h3, h4⟩
end CkFact1
