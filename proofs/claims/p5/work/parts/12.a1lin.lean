section CkLin
theorem sCh {c t f : Bool} (h : cond c t f = true) : (c = true ∧ t = true) ∨ (c = false ∧ f = true) := by
  cases c
  · exact Or.inr ⟨rfl, h⟩
  · exact Or.inl ⟨rfl, h⟩
theorem zOf (n : Nat) : (0 : Int) ≤ Int.ofNat n := Int.natCast_nonneg n
/-! linear forms over symbols: a number and terms (coefficient, symbol), symbols rising. A valuation: a list of numbers. -/
abbrev sLn : Type := Int × List (Int × Nat)
abbrev sIv : Type := List (Nat × Int × Int)
/-- symbols that there are, their bounds (newest first), forms that are at most 0, what a symbol was read from (role, index) -/
abbrev sNm : Type := Nat × sIv × List sLn × List (Nat × Nat × sLn)
noncomputable def zMn : Int := Int.negSucc 2147483647
noncomputable def zMx : Int := Int.ofNat 2147483647
noncomputable def wMn : Int := Int.negSucc 9223372036854775807
noncomputable def wMx : Int := Int.ofNat 9223372036854775807
/-- at most 0 -/
noncomputable def zN (a : Int) : Bool := @Int.rec (fun _ => Bool) (fun n => Nat.beq n 0) (fun _ => true) a
/-- a at most b -/
noncomputable def zLe (a b : Int) : Bool := @Int.rec (fun _ => Bool) (fun _ => true) (fun _ => false) (Int.add b (Int.neg a))
noncomputable def zEq (a b : Int) : Bool := @Int.rec (fun _ => Bool) (fun n => @Int.rec (fun _ => Bool) (fun m => Nat.beq n m) (fun _ => false) b) (fun n => @Int.rec (fun _ => Bool) (fun _ => false) (fun m => Nat.beq n m) b) a
noncomputable def zPs (a : Int) : Bool := @Int.rec (fun _ => Bool) (fun _ => true) (fun _ => false) a
noncomputable def zMin (a b : Int) : Int := cond (zLe a b) a b
noncomputable def zMax (a b : Int) : Int := cond (zLe a b) b a
theorem zLe_iff {a b : Int} : zLe a b = true ↔ a ≤ b := by
  have e : Int.add b (Int.neg a) = b - a := rfl
  unfold zLe
  rw [e]
  constructor
  · intro h
    cases h1 : b - a with
    | ofNat n => have := zOf n; omega
    | negSucc n => rw [h1] at h; cases h
  · intro h
    cases h1 : b - a with
    | ofNat n => rfl
    | negSucc n => omega
theorem zLe_f {a b : Int} (h : zLe a b = false) : b < a := by
  by_cases q : a ≤ b
  · rw [zLe_iff.mpr q] at h; cases h
  · omega
theorem zEq_ok {a b : Int} (h : zEq a b = true) : a = b := by
  cases a with
  | ofNat n =>
    cases b with
    | ofNat m => rw [Nat.eq_of_beq_eq_true (show Nat.beq n m = true from h)]
    | negSucc m => cases h
  | negSucc n =>
    cases b with
    | ofNat m => cases h
    | negSucc m => rw [Nat.eq_of_beq_eq_true (show Nat.beq n m = true from h)]
theorem zPs_iff {a : Int} : zPs a = true ↔ 0 ≤ a := by
  cases a with
  | ofNat n => exact ⟨fun _ => zOf n, fun _ => rfl⟩
  | negSucc n => exact ⟨fun h => (by cases h), fun h => absurd h (by omega)⟩
theorem zPs_f {a : Int} (h : zPs a = false) : a < 0 := by
  by_cases q : 0 ≤ a
  · rw [zPs_iff.mpr q] at h; cases h
  · omega
theorem zMin_ok (a b : Int) : zMin a b = min a b := by
  unfold zMin
  cases h : zLe a b
  · have := zLe_f h
    show b = min a b
    omega
  · have := zLe_iff.mp h
    show a = min a b
    omega
theorem zMax_ok (a b : Int) : zMax a b = max a b := by
  unfold zMax
  cases h : zLe a b
  · have := zLe_f h
    show a = max a b
    omega
  · have := zLe_iff.mp h
    show b = max a b
    omega
/-- forced -/
noncomputable def zF (x : Int) (k : Int → Bool) : Bool := @Int.rec (fun _ => Bool) (fun n => eF n (fun n => k (Int.ofNat n))) (fun n => eF n (fun n => k (Int.negSucc n))) x
theorem zF_eq (x : Int) (k : Int → Bool) : zF x k = k x := by
  cases x with
  | ofNat n => show eF n (fun n => k (Int.ofNat n)) = _; rw [eF_eq]
  | negSucc n => show eF n (fun n => k (Int.negSucc n)) = _; rw [eF_eq]
noncomputable def sFt (ts : List (Int × Nat)) (k : List (Int × Nat) → Bool) : Bool := @List.rec (Int × Nat) (fun _ => (List (Int × Nat) → Bool) → Bool) (fun k => k []) (fun q _ ih k => zF q.1 (fun a => eF q.2 (fun s => ih (fun r => k ((a, s) :: r))))) ts k
theorem sFt_eq (ts : List (Int × Nat)) : ∀ k, sFt ts k = k ts := by
  induction ts with
  | nil => intro k; rfl
  | cons q r ih =>
    intro k
    show zF q.1 (fun a => eF q.2 (fun s => sFt r (fun r => k ((a, s) :: r)))) = _
    rw [zF_eq, eF_eq, ih]
noncomputable def sFl (e : sLn) (k : sLn → Bool) : Bool := zF e.1 (fun c => sFt e.2 (fun ts => k (c, ts)))
theorem sFl_eq (e : sLn) (k : sLn → Bool) : sFl e k = k e := by
  unfold sFl
  rw [zF_eq, sFt_eq]
/-- what a form is -/
def sEt (r : List Int) : List (Int × Nat) → Option Int
  | [] => some 0
  | q :: ts => match r[q.2]?, sEt r ts with
    | some x, some y => some (q.1 * x + y)
    | _, _ => none
def sE (r : List Int) (e : sLn) : Option Int := (sEt r e.2).map (fun y => e.1 + y)
theorem sEt_cons {r : List Int} {a : Int} {s : Nat} {ts : List (Int × Nat)} {z : Int} (h : sEt r ((a, s) :: ts) = some z) : ∃ x y, r[s]? = some x ∧ sEt r ts = some y ∧ z = a * x + y := by
  unfold sEt at h
  split at h
  · rename_i x y h1 h2
    exact ⟨x, y, h1, h2, (Option.some.inj h).symm⟩
  · cases h
theorem sEt_mk {r : List Int} {a : Int} {s : Nat} {ts : List (Int × Nat)} {x y : Int} (h1 : r[s]? = some x) (h2 : sEt r ts = some y) : sEt r ((a, s) :: ts) = some (a * x + y) := by
  unfold sEt
  simp only [h1, h2]
theorem sE_iff {r : List Int} {e : sLn} {z : Int} : sE r e = some z ↔ ∃ y, sEt r e.2 = some y ∧ z = e.1 + y := by
  unfold sE
  constructor
  · intro h
    cases h1 : sEt r e.2 with
    | none => rw [h1] at h; cases h
    | some y => rw [h1] at h; exact ⟨y, rfl, (Option.some.inj h).symm⟩
  · rintro ⟨y, h1, rfl⟩
    rw [h1]; rfl
theorem sE_k (r : List Int) (c : Int) : sE r (c, []) = some c := by
  show some (c + 0) = some c
  rw [Int.add_zero]
theorem sEt_mono {r t : List Int} : ∀ {ts : List (Int × Nat)} {z : Int}, sEt r ts = some z → sEt (r ++ t) ts = some z := by
  intro ts
  induction ts with
  | nil => intro z h; exact h
  | cons q ts ih =>
    intro z h
    obtain ⟨a, s⟩ := q
    obtain ⟨x, y, h1, h2, rfl⟩ := sEt_cons h
    exact sEt_mk (by rw [List.getElem?_append_left (List.getElem?_eq_some_iff.mp h1).1]; exact h1) (ih h2)
theorem sE_mono {r t : List Int} {e : sLn} {z : Int} (h : sE r e = some z) : sE (r ++ t) e = some z := by
  obtain ⟨y, h1, h2⟩ := sE_iff.mp h
  exact sE_iff.mpr ⟨y, sEt_mono h1, h2⟩
/-- a symbol -/
def sV (s : Nat) : sLn := (Int.ofNat 0, [(Int.ofNat 1, s)])
def sK (c : Int) : sLn := (c, [])
theorem sE_V {r : List Int} {s : Nat} {x : Int} (h : r[s]? = some x) : sE r (sV s) = some x := by
  refine sE_iff.mpr ⟨_, sEt_mk h rfl, ?_⟩
  show x = 0 + (1 * x + 0)
  omega
/-- a term more -/
noncomputable def sIns (a : Int) (s : Nat) (ts : List (Int × Nat)) : List (Int × Nat) :=
  @List.rec (Int × Nat) (fun _ => List (Int × Nat)) [(a, s)] (fun q r ih => cond (Nat.beq q.2 s) (cond (zEq (Int.add a q.1) (Int.ofNat 0)) r ((Int.add a q.1, s) :: r)) (cond (Nat.ble s q.2) ((a, s) :: q :: r) (q :: ih))) ts
theorem sIns_ok {r : List Int} {a : Int} {s : Nat} {x : Int} (hx : r[s]? = some x) : ∀ {ts : List (Int × Nat)} {y : Int}, sEt r ts = some y → sEt r (sIns a s ts) = some (a * x + y) := by
  intro ts
  induction ts with
  | nil => intro y h; exact sEt_mk hx h
  | cons q ts ih =>
    intro y h
    obtain ⟨b, u⟩ := q
    obtain ⟨x1, y1, h1, h2, rfl⟩ := sEt_cons h
    show sEt r (cond (Nat.beq u s) (cond (zEq (Int.add a b) (Int.ofNat 0)) ts ((Int.add a b, s) :: ts)) (cond (Nat.ble s u) ((a, s) :: (b, u) :: ts) ((b, u) :: sIns a s ts))) = _
    cases hb : Nat.beq u s
    · show sEt r (cond (Nat.ble s u) ((a, s) :: (b, u) :: ts) ((b, u) :: sIns a s ts)) = _
      cases Nat.ble s u
      · show sEt r ((b, u) :: sIns a s ts) = _
        rw [sEt_mk h1 (ih h2)]
        congr 1
        omega
      · exact sEt_mk hx h
    · have e := Nat.eq_of_beq_eq_true hb
      subst e
      cases hx.symm.trans h1
      show sEt r (cond (zEq (Int.add a b) (Int.ofNat 0)) ts ((Int.add a b, u) :: ts)) = _
      have ed : (a + b) * x = a * x + b * x := Int.add_mul a b x
      cases hz : zEq (Int.add a b) (Int.ofNat 0)
      · show sEt r ((Int.add a b, u) :: ts) = _
        rw [sEt_mk hx h2]
        congr 1
        show (a + b) * x + y1 = _
        omega
      · have e0 : a + b = 0 := zEq_ok hz
        rw [e0, Int.zero_mul] at ed
        show sEt r ts = _
        rw [h2]
        congr 1
        omega
noncomputable def sAt (t1 t2 : List (Int × Nat)) : List (Int × Nat) := @List.rec (Int × Nat) (fun _ => List (Int × Nat)) t2 (fun q _ ih => sIns q.1 q.2 ih) t1
theorem sAt_ok {r : List Int} {t2 : List (Int × Nat)} {y2 : Int} (h2 : sEt r t2 = some y2) : ∀ {t1 : List (Int × Nat)} {y1 : Int}, sEt r t1 = some y1 → sEt r (sAt t1 t2) = some (y1 + y2) := by
  intro t1
  induction t1 with
  | nil => intro y1 h; cases h; rw [Int.zero_add]; exact h2
  | cons q t1 ih =>
    intro y1 h
    obtain ⟨a, s⟩ := q
    obtain ⟨x, y, h1, h3, rfl⟩ := sEt_cons h
    show sEt r (sIns a s (sAt t1 t2)) = _
    rw [sIns_ok h1 (ih h3)]
    congr 1
    omega
noncomputable def sAdd (a b : sLn) : sLn := (Int.add a.1 b.1, sAt a.2 b.2)
theorem sAdd_ok {r : List Int} {a b : sLn} {x y : Int} (hx : sE r a = some x) (hy : sE r b = some y) : sE r (sAdd a b) = some (x + y) := by
  obtain ⟨x1, h1, rfl⟩ := sE_iff.mp hx
  obtain ⟨y1, h2, rfl⟩ := sE_iff.mp hy
  refine sE_iff.mpr ⟨_, sAt_ok h2 h1, ?_⟩
  show _ = a.1 + b.1 + (x1 + y1)
  omega
noncomputable def sMt (k : Int) (ts : List (Int × Nat)) : List (Int × Nat) := @List.rec (Int × Nat) (fun _ => List (Int × Nat)) [] (fun q _ ih => (Int.mul k q.1, q.2) :: ih) ts
theorem sMt_ok {r : List Int} {k : Int} : ∀ {ts : List (Int × Nat)} {y : Int}, sEt r ts = some y → sEt r (sMt k ts) = some (k * y) := by
  intro ts
  induction ts with
  | nil => intro y h; cases h; rw [Int.mul_zero]; rfl
  | cons q ts ih =>
    intro y h
    obtain ⟨a, s⟩ := q
    obtain ⟨x, y1, h1, h2, rfl⟩ := sEt_cons h
    show sEt r ((Int.mul k a, s) :: sMt k ts) = _
    rw [sEt_mk h1 (ih h2)]
    congr 1
    show k * a * x + k * y1 = _
    rw [Int.mul_add, Int.mul_assoc]
noncomputable def sMul (k : Int) (e : sLn) : sLn := cond (zEq k (Int.ofNat 0)) (Int.ofNat 0, []) (Int.mul k e.1, sMt k e.2)
theorem sMul_ok {r : List Int} {k : Int} {e : sLn} {x : Int} (hx : sE r e = some x) : sE r (sMul k e) = some (k * x) := by
  unfold sMul
  cases h : zEq k (Int.ofNat 0)
  · obtain ⟨y, h1, rfl⟩ := sE_iff.mp hx
    refine sE_iff.mpr ⟨_, sMt_ok h1, ?_⟩
    show k * (e.1 + y) = k * e.1 + k * y
    rw [Int.mul_add]
  · have e0 : k = 0 := zEq_ok h
    rw [e0, Int.zero_mul]
    exact sE_k r 0
noncomputable def sNeg (e : sLn) : sLn := (Int.neg e.1, sMt (Int.negSucc 0) e.2)
theorem sNeg_ok {r : List Int} {e : sLn} {x : Int} (hx : sE r e = some x) : sE r (sNeg e) = some (-x) := by
  obtain ⟨y, h1, rfl⟩ := sE_iff.mp hx
  refine sE_iff.mpr ⟨_, sMt_ok h1, ?_⟩
  show -(e.1 + y) = -e.1 + -1 * y
  omega
noncomputable def sSub (a b : sLn) : sLn := sAdd a (sNeg b)
theorem sSub_ok {r : List Int} {a b : sLn} {x y : Int} (hx : sE r a = some x) (hy : sE r b = some y) : sE r (sSub a b) = some (x - y) := by
  rw [show x - y = x + -y from by omega]
  exact sAdd_ok hx (sNeg_ok hy)
noncomputable def sAdk (e : sLn) (c : Int) : sLn := (Int.add e.1 c, e.2)
theorem sAdk_ok {r : List Int} {e : sLn} {x c : Int} (hx : sE r e = some x) : sE r (sAdk e c) = some (x + c) := by
  obtain ⟨y, h1, rfl⟩ := sE_iff.mp hx
  refine sE_iff.mpr ⟨_, h1, ?_⟩
  show _ = e.1 + c + y
  omega
noncomputable def sTeq (a : List (Int × Nat)) : List (Int × Nat) → Bool := @List.rec (Int × Nat) (fun _ => List (Int × Nat) → Bool) (fun b => @List.rec (Int × Nat) (fun _ => Bool) true (fun _ _ _ => false) b) (fun q _ ih b => @List.rec (Int × Nat) (fun _ => Bool) false (fun w b' _ => cond (Nat.beq q.2 w.2) (cond (zEq q.1 w.1) (ih b') false) false) b) a
theorem sTeq_ok : ∀ {a b : List (Int × Nat)}, sTeq a b = true → a = b := by
  intro a
  induction a with
  | nil =>
    intro b h
    cases b with
    | nil => rfl
    | cons w b => cases h
  | cons q a ih =>
    intro b h
    cases b with
    | nil => cases h
    | cons w b =>
      have h : cond (Nat.beq q.2 w.2) (cond (zEq q.1 w.1) (sTeq a b) false) false = true := h
      obtain ⟨h1, h⟩ := eC_t h
      obtain ⟨h2, h3⟩ := eC_t h
      rw [ih h3, show q = w from Prod.ext (zEq_ok h2) (Nat.eq_of_beq_eq_true h1)]
noncomputable def sLeq (a b : sLn) : Bool := cond (zEq a.1 b.1) (sTeq a.2 b.2) false
theorem sLeq_ok {a b : sLn} (h : sLeq a b = true) : a = b := by
  obtain ⟨h1, h2⟩ := eC_t h
  exact Prod.ext (zEq_ok h1) (sTeq_ok h2)
/-- bounds of a symbol -/
noncomputable def sB (iv : sIv) (s : Nat) : Int × Int := @List.rec (Nat × Int × Int) (fun _ => Int × Int) (wMn, wMx) (fun q _ ih => cond (Nat.beq q.1 s) q.2 ih) iv
def sIvOk (r : List Int) (iv : sIv) : Prop := (∀ x ∈ r, wMn ≤ x ∧ x ≤ wMx) ∧ ∀ q ∈ iv, ∃ x, r[q.1]? = some x ∧ q.2.1 ≤ x ∧ x ≤ q.2.2
theorem sB_ok {r : List Int} {iv : sIv} (h : sIvOk r iv) {s : Nat} {x : Int} (hx : r[s]? = some x) : (sB iv s).1 ≤ x ∧ x ≤ (sB iv s).2 := by
  obtain ⟨h0, h⟩ := h
  induction iv with
  | nil => exact h0 x (List.mem_of_getElem? hx)
  | cons q iv ih =>
    have e : sB (q :: iv) s = cond (Nat.beq q.1 s) q.2 (sB iv s) := rfl
    rw [e]
    cases hb : Nat.beq q.1 s
    · exact ih (fun w hw => h w (List.mem_cons_of_mem _ hw))
    · obtain ⟨y, h1, h2⟩ := h q List.mem_cons_self
      rw [Nat.eq_of_beq_eq_true hb] at h1
      cases hx.symm.trans h1
      exact h2
noncomputable def sUt (iv : sIv) (ts : List (Int × Nat)) : Int := @List.rec (Int × Nat) (fun _ => Int) (Int.ofNat 0) (fun q _ ih => Int.add (Int.mul q.1 (cond (zPs q.1) (sB iv q.2).2 (sB iv q.2).1)) ih) ts
noncomputable def sU0 (iv : sIv) (e : sLn) : Int := Int.add e.1 (sUt iv e.2)
theorem sUt_ok {r : List Int} {iv : sIv} (h : sIvOk r iv) : ∀ {ts : List (Int × Nat)} {y : Int}, sEt r ts = some y → y ≤ sUt iv ts := by
  intro ts
  induction ts with
  | nil => intro y h1; cases h1; exact Int.le_refl 0
  | cons q ts ih =>
    intro y h1
    obtain ⟨a, s⟩ := q
    obtain ⟨x, y1, h2, h3, rfl⟩ := sEt_cons h1
    have hb := sB_ok h h2
    have hi := ih h3
    show a * x + y1 ≤ a * cond (zPs a) (sB iv s).2 (sB iv s).1 + sUt iv ts
    cases hp : zPs a
    · have ha := zPs_f hp
      have := Int.mul_le_mul_of_nonpos_left (a := a) (by omega) hb.1
      show a * x + y1 ≤ a * (sB iv s).1 + _
      omega
    · have ha := zPs_iff.mp hp
      have := Int.mul_le_mul_of_nonneg_left hb.2 ha
      show a * x + y1 ≤ a * (sB iv s).2 + _
      omega
theorem sU0_ok {r : List Int} {iv : sIv} (h : sIvOk r iv) {e : sLn} {x : Int} (hx : sE r e = some x) : x ≤ sU0 iv e := by
  obtain ⟨y, h1, rfl⟩ := sE_iff.mp hx
  have := sUt_ok h h1
  show e.1 + y ≤ e.1 + sUt iv e.2
  omega
/-- forms at most 0 -/
def sCsOk (r : List Int) (cs : List sLn) : Prop := ∀ c ∈ cs, ∃ x, sE r c = some x ∧ x ≤ 0
/-- a symbol with the same sign in both -/
noncomputable def sCf (ts : List (Int × Nat)) (s : Nat) : Int := @List.rec (Int × Nat) (fun _ => Int) (Int.ofNat 0) (fun q _ ih => cond (Nat.beq q.2 s) q.1 ih) ts
noncomputable def sSh (ts : List (Int × Nat)) (cs : List (Int × Nat)) : Bool := @List.rec (Int × Nat) (fun _ => Bool) false (fun q _ ih => cond (zLe (Int.ofNat 1) (Int.mul q.1 (sCf ts q.2))) true ih) cs
noncomputable def zDq (a b : Int) : Nat := Nat.div (Int.natAbs a) (Int.natAbs b)
/-- how often c is taken off: by the first symbol that both have with one sign -/
noncomputable def sMu (ts cs : List (Int × Nat)) : Nat := @List.rec (Int × Nat) (fun _ => Nat) 0 (fun q _ ih => cond (zLe (Int.ofNat 1) (Int.mul q.1 (sCf ts q.2))) (zDq (sCf ts q.2) q.1) ih) cs
/-- e is at most 0: by the bounds, or with forms that are, d times -/
noncomputable def sLe (iv : sIv) (cs : List sLn) (d : Nat) : sLn → Bool :=
  @Nat.rec (fun _ => sLn → Bool) (fun e => zN (sU0 iv e))
    (fun _ ih e => cond (zN (sU0 iv e)) true (@List.rec sLn (fun _ => Bool) false (fun c _ ihc => cond (eF (sMu e.2 c.2) (fun m => cond (Nat.ble 1 m) (sFl (sSub e (sMul (Int.ofNat m) c)) ih) false)) true ihc) cs)) d
theorem zN_iff {a : Int} : zN a = true ↔ a ≤ 0 := by
  cases a with
  | ofNat n =>
    constructor
    · intro h
      have := Nat.eq_of_beq_eq_true (show Nat.beq n 0 = true from h)
      subst this
      exact Int.le_refl 0
    · intro h
      have h2 : (n : Int) ≤ 0 := h
      have e : n = 0 := by omega
      subst e
      rfl
  | negSucc n => exact ⟨fun _ => by omega, fun _ => rfl⟩
theorem sLe_ok {r : List Int} {iv : sIv} {cs : List sLn} (hi : sIvOk r iv) (hc : sCsOk r cs) : ∀ {d : Nat} {e : sLn} {x : Int}, sLe iv cs d e = true → sE r e = some x → x ≤ 0 := by
  intro d
  induction d with
  | zero => intro e x h hx; exact Int.le_trans (sU0_ok hi hx) (zN_iff.mp h)
  | succ d ih =>
    intro e x h hx
    have h : cond (zN (sU0 iv e)) true (@List.rec sLn (fun _ => Bool) false (fun c _ ihc => cond (eF (sMu e.2 c.2) (fun m => cond (Nat.ble 1 m) (sFl (sSub e (sMul (Int.ofNat m) c)) (sLe iv cs d)) false)) true ihc) cs) = true := h
    cases hz : zN (sU0 iv e)
    · rw [hz] at h
      have key : ∀ l : List sLn, (∀ c ∈ l, c ∈ cs) → @List.rec sLn (fun _ => Bool) false (fun c _ ihc => cond (eF (sMu e.2 c.2) (fun m => cond (Nat.ble 1 m) (sFl (sSub e (sMul (Int.ofNat m) c)) (sLe iv cs d)) false)) true ihc) l = true → x ≤ 0 := by
        intro l
        induction l with
        | nil => intro _ h; cases h
        | cons c l ihl =>
          intro hl h
          have h : cond (eF (sMu e.2 c.2) (fun m => cond (Nat.ble 1 m) (sFl (sSub e (sMul (Int.ofNat m) c)) (sLe iv cs d)) false)) true (@List.rec sLn (fun _ => Bool) false (fun c _ ihc => cond (eF (sMu e.2 c.2) (fun m => cond (Nat.ble 1 m) (sFl (sSub e (sMul (Int.ofNat m) c)) (sLe iv cs d)) false)) true ihc) l) = true := h
          cases hq : eF (sMu e.2 c.2) (fun m => cond (Nat.ble 1 m) (sFl (sSub e (sMul (Int.ofNat m) c)) (sLe iv cs d)) false)
          · rw [hq] at h
            exact ihl (fun c' h' => hl c' (List.mem_cons_of_mem _ h')) h
          · rw [eF_eq] at hq
            obtain ⟨-, hq⟩ := eC_t hq
            rw [sFl_eq] at hq
            obtain ⟨y, h1, h2⟩ := hc c (hl c List.mem_cons_self)
            have h3 := ih hq (sSub_ok hx (sMul_ok (k := Int.ofNat (sMu e.2 c.2)) h1))
            have h4 : Int.ofNat (sMu e.2 c.2) * y ≤ 0 := Int.mul_nonpos_of_nonneg_of_nonpos (zOf _) h2
            omega
      exact key cs (fun _ h => h) h
    · exact Int.le_trans (sU0_ok hi hx) (zN_iff.mp hz)
/-- an upper bound: by the bounds, and with one form that is at most 0 -/
noncomputable def sU1 (iv : sIv) (cs : List sLn) (e : sLn) : Int := @List.rec sLn (fun _ => Int) (sU0 iv e) (fun c _ ih => cond (sSh e.2 c.2) (zMin (sU0 iv (sSub e c)) ih) ih) cs
theorem sU1_ok {r : List Int} {iv : sIv} (hi : sIvOk r iv) {e : sLn} {x : Int} (hx : sE r e = some x) : ∀ {cs : List sLn}, sCsOk r cs → x ≤ sU1 iv cs e := by
  intro cs
  induction cs with
  | nil => intro _; exact sU0_ok hi hx
  | cons c cs ih =>
    intro hc
    have h1 := ih (fun c' h' => hc c' (List.mem_cons_of_mem _ h'))
    show x ≤ cond (sSh e.2 c.2) (zMin (sU0 iv (sSub e c)) (sU1 iv cs e)) (sU1 iv cs e)
    cases sSh e.2 c.2
    · exact h1
    · show x ≤ zMin (sU0 iv (sSub e c)) (sU1 iv cs e)
      rw [zMin_ok]
      obtain ⟨y, h2, h3⟩ := hc c List.mem_cons_self
      have := sU0_ok hi (sSub_ok hx h2)
      omega
end CkLin
