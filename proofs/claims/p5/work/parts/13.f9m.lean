section CkFact9
variable {T : pT} {hp : Lean.RArray Nat} {q c l e f g h m n k a z v x y w u i p s t d b lo hi : Int} {D : pD} {j j0 j1 : Nat} {P Q : pD → Prop} {L : List Int}
theorem nm_ow_o {r : Nat} (hj : 4 ≤ r) : nm (aOw D L) r = nm D r := by
  unfold nm
  have q1 : ¬ r < 4 := by omega
  rw [if_neg q1, if_neg q1]
  rfl
theorem nm_sp_o {r : Nat} (hj : r < 4 ∨ 7 ≤ r) : nm (aSp D L x y w u) r = nm D r := by
  unfold nm
  by_cases q1 : r < 4
  · rw [if_pos q1, if_pos q1]
    rfl
  · have q2 : ¬ r < 7 := by omega
    rw [if_neg q1, if_neg q1, if_neg q2, if_neg q2]
    rfl
theorem nm_kn_o {r : Nat} (hj : r < 7) : nm (aKn D L) r = nm D r := by
  unfold nm
  by_cases q1 : r < 4
  · rw [if_pos q1, if_pos q1]
    rfl
  · rw [if_neg q1, if_neg q1, if_pos hj, if_pos hj]
    rfl
theorem fM_a (h1 : hI hp 276 j = x) (e1 : j = 7 + j0) (h2 : x ≠ 0) : ¬ fM hp j0 := fun w => h2 (by rw [← h1, e1]; exact w.1)
theorem fM_b (h1 : hI hp 276 j = x) (e1 : j = 107 + j0) (h2 : x ≠ 0) : ¬ fM hp j0 := fun w => h2 (by rw [← h1, e1]; exact w.2)
theorem fM_z (h1 : hI hp 276 j = x) (e1 : j = 7 + j0) (h2 : hI hp 276 j1 = y) (e2 : j1 = 107 + j0) (h3 : x = 0) (h4 : y = 0) : fM hp j0 := ⟨by rw [← e1, h1]; exact h3, by rw [← e2, h2]; exact h4⟩
theorem tk_of {F : Nat → Prop} (hA : taP F D) (h1 : j < 100) (hF : ¬ F j) (e1 : p = (j : Int)) : tkI D p := by rw [e1]; exact Classical.not_not.1 (fun w => hF ((hA j h1).2 w))
theorem tk_no' {F : Nat → Prop} (hA : taP F D) (h1 : j < 100) (hF : F j) (e1 : p = (j : Int)) : ¬ tkI D p := by rw [e1]; exact (hA j h1).1 hF
/-- walls as cells -/
def wmP (hp : Lean.RArray Nat) (D : pD) : Prop := ∀ p : Nat, p < 100 → (hI hp 276 (300 + p) = 1 ↔ wlI D p)
theorem wm_cell (h0 : 0 ≤ x ∧ x ≤ 9) (e1 : p = 10 * y + x) : wlI D p ↔ (x, y) ∈ dWa D := by
  unfold wlI
  rw [show p % 10 = x by omega, show p / 10 = y by omega]
theorem thd_0 (hW : wmP hp D) (hx : hI hp 276 j = w) (e1 : j = 300 + j0) (h1 : j0 < 100) (e2 : (j0 : Int) = 10 * y + x) (h0 : 0 ≤ x ∧ x ≤ 9) (hw : w = 0) (eb : b = 0) (es : s = 0) : (b = 1 ∧ ¬ fre D x y) ∨ (b = 0 ∧ (x, y) ∉ dWa D ∧ ∀ i : Nat, i < 14 → (i : Int) < s → ¬ (hI hp 276 (272 + i) = x ∧ hI hp 276 (286 + i) = y)) := by
  refine Or.inr ⟨eb, ?_, fun i hi hs => by omega⟩
  rw [← wm_cell (D := D) h0 e2, ← hW j0 h1, ← e1, hx]
  omega
theorem thd_1 (hW : wmP hp D) (hx : hI hp 276 j = w) (e1 : j = 300 + j0) (h1 : j0 < 100) (e2 : (j0 : Int) = 10 * y + x) (h0 : 0 ≤ x ∧ x ≤ 9) (hw : w = 1) (eb : b = 1) : (b = 1 ∧ ¬ fre D x y) ∨ (b = 0 ∧ (x, y) ∉ dWa D ∧ ∀ i : Nat, i < 14 → (i : Int) < s → ¬ (hI hp 276 (272 + i) = x ∧ hI hp 276 (286 + i) = y)) := by
  refine Or.inl ⟨eb, fun w2 => w2.2 ?_⟩
  rw [← wm_cell (D := D) h0 e2, ← hW j0 h1, ← e1, hx]
  exact hw
def thP2 (hp : Lean.RArray Nat) (s b x y : Int) (D : pD) : Prop := (b = 1 ∧ ¬ fre D x y) ∨ (b = 0 ∧ (x, y) ∉ dWa D ∧ ∀ i : Nat, i < 14 → (i : Int) < s → ¬ (hI hp 276 (272 + i) = x ∧ hI hp 276 (286 + i) = y))
def trP (hp : Lean.RArray Nat) (t : Int) (D : pD) : Prop := t = (dTr D).length ∧ ∀ i : Nat, i < 14 → (i : Int) < t → (dTr D)[i]? = some (hI hp 276 (272 + i), hI hp 276 (286 + i))
theorem thd_k (hH : thP2 hp s b x y D) (hb : b = 1) (eu : u = 1) : thP2 hp t u x y D := by
  rcases hH with ⟨-, h⟩ | ⟨h, -⟩
  · exact Or.inl ⟨eu, h⟩
  · omega
theorem thd_t (hR : trP hp d D) (hA : hI hp 276 j = v) (hB : hI hp 276 j1 = w) (e1 : j = 272 + j0) (e2 : j1 = 286 + j0) (h0 : j0 < 14) (h1 : (j0 : Int) < d) (e3 : v = x) (e4 : w = y) (eu : u = 1) : thP2 hp t u x y D := by
  refine Or.inl ⟨eu, fun w2 => w2.1 ?_⟩
  exact lst_mem (i0 := j0) (i1 := j0) (A := fun i => hI hp 276 (272 + i)) (B := fun i => hI hp 276 (286 + i)) hR (by show hI hp 276 (272 + j0) = x; rw [← e1, hA, e3]) (by show hI hp 276 (286 + j0) = y; rw [← e2, hB, e4]) rfl h1 h0
theorem thd_n (hH : thP2 hp s b x y D) (hb : b = 0) (hA : hI hp 276 j = v) (hB : hI hp 276 j1 = w) (e1 : (j : Int) = 272 + s) (e2 : (j1 : Int) = 286 + s) (hn : v ≠ x ∨ w ≠ y) (e3 : t = s + 1) (eu : u = 0) : thP2 hp t u x y D := by
  rcases hH with ⟨h, -⟩ | ⟨-, h1, h2⟩
  · omega
  · refine Or.inr ⟨eu, h1, fun i hi hs => ?_⟩
    by_cases r : (i : Int) < s
    · exact h2 i hi r
    · rw [show 272 + i = j by omega, show 286 + i = j1 by omega, hA, hB]
      omega
theorem thd_f (hH : thP2 hp s b x y D) (hR : trP hp d D) (hb : b = 0) (h1 : d ≤ s) (hD : dI D) (eu : u = 1) : bP u (fre D x y) := by
  rcases hH with ⟨h, -⟩ | ⟨-, h2, h3⟩
  · omega
  · have h4 := hD.1.2.2.2.2.2.1
    have h5 := hR.1
    exact Or.inl ⟨eu, lst_no (A := fun i => hI hp 276 (272 + i)) (B := fun i => hI hp 276 (286 + i)) hR h3 h1 (by omega), h2⟩
theorem thd_b (hH : thP2 hp s b x y D) (hb : b = 1) (eu : u = 0) : bP u (fre D x y) := by
  rcases hH with ⟨-, h⟩ | ⟨h, -⟩
  · exact Or.inr ⟨eu, h⟩
  · omega
theorem wbm (hl' : ∀ p : Nat, p < 100 → (p : Int) < s → (hI hp 276 (300 + p) = 1 ↔ wlI D p)) (hh : ∀ p : Nat, p < 100 → t ≤ (p : Int) → (hI hp 276 (300 + p) = 1 ↔ wlI D p)) (hx : hI hp 276 j = 1) (e1 : (j : Int) = 300 + s) (e2 : t = s + 1) (e3 : s = 10 * y + x) (h0 : 0 ≤ x ∧ x ≤ 9) : ∀ p : Nat, p < 100 → (hI hp 276 (300 + p) = 1 ↔ (wlI D p ∨ ((p : Int) % 10 = x ∧ (p : Int) / 10 = y))) := by
  intro p hp'
  by_cases r : (p : Int) = s
  · rw [show 300 + p = j by omega, hx]
    exact ⟨fun _ => Or.inr ⟨by omega, by omega⟩, fun _ => rfl⟩
  · have h4 : hI hp 276 (300 + p) = 1 ↔ wlI D p := by
      by_cases r2 : (p : Int) < s
      · exact hl' p hp' r2
      · exact hh p hp' (by omega)
    rw [h4]
    constructor
    · exact fun h => Or.inl h
    · rintro (h | ⟨h5, h6⟩)
      · exact h
      · omega
theorem wm_wa (hB : ∀ p : Nat, p < 100 → (hI hp 276 (300 + p) = 1 ↔ (wlI D p ∨ ((p : Int) % 10 = x ∧ (p : Int) / 10 = y)))) : ∀ p : Nat, p < 100 → (hI hp 276 (300 + p) = 1 ↔ wlI (aWa D x y) p) := by
  intro p hp'
  rw [hB p hp']
  show _ ↔ ((p : Int) % 10, (p : Int) / 10) ∈ dWa D ++ [(x, y)]
  rw [List.mem_append, List.mem_singleton, Prod.mk.injEq]
  rfl
theorem szl_1 (h : 1 ≤ dCz D ∨ 1 ≤ dFi D ∨ 1 ≤ (dSt D).length ∨ 1 ≤ (dTr D).length ∨ 1 ≤ (dWa D).length) (eu : u = 1) : bP u (szl D) := Or.inl ⟨eu, h⟩
theorem len_s {A : List (Int × Int)} {r : Int × Int} : 1 ≤ (A ++ [r]).length := by rw [List.length_append]; exact Nat.le_add_left 1 _
theorem len_sl {A : List (List Int)} {r : List Int} : 1 ≤ (A ++ [r]).length := by rw [List.length_append]; exact Nat.le_add_left 1 _
/-- the tapes -/
theorem b8_0 (v : Int) : b8 v 0 = v / 16777216 % 256 := rfl
theorem b8_1 (v : Int) : b8 v 1 = v / 65536 % 256 := rfl
theorem b8_2 (v : Int) : b8 v 2 = v / 256 % 256 := rfl
theorem b8_3 (v : Int) : b8 v 3 = v % 256 := by
  show v / 2 ^ (24 - 8 * 3) % 256 = _
  rw [show (2 : Int) ^ (24 - 8 * 3) = 1 from rfl, Int.ediv_one]
theorem px_0 {B : Nat → Int} (hx : B j = x) (e1 : (j : Int) = u - 1) (h1 : 1 ≤ u ∧ u ≤ 940) (hb : x = b8 v 0) (e2 : t = 1) : pxD B u t v := by
  refine ⟨by omega, by omega, by omega, fun k hk hs => ?_⟩
  have e3 : k = 0 := by omega
  subst e3
  rw [show (u - t).toNat + 0 = j by omega, hx]
  exact hb
theorem px_s {B : Nat → Int} {r : Nat} (hp' : pxD B s d v) (hx : B j = x) (e1 : (j : Int) = u - 1) (e2 : s = u - 1) (h1 : 1 ≤ u ∧ u ≤ 940) (hb : x = b8 v r) (e3 : d = (r : Int)) (e4 : t = d + 1) (h4 : r < 4) : pxD B u t v := by
  obtain ⟨p1, p2, p3, p4⟩ := hp'
  refine ⟨by omega, by omega, by omega, fun k hk hs => ?_⟩
  by_cases q : (k : Int) < d
  · rw [show (u - t).toNat + k = (s - d).toNat + k by omega]
    exact p4 k hk q
  · have e5 : k = r := by omega
    subst e5
    rw [show (u - t).toNat + k = j by omega, hx]
    exact hb
theorem px_use {B : Nat → Int} (hp' : pxD B u 4 v) (e1 : u = t + 4) : ∀ k : Nat, k < 4 → B (t.toNat + k) = b8 v k := by
  intro k hk
  obtain ⟨p1, p2, p3, p4⟩ := hp'
  have := p4 k hk (by omega)
  rw [show (u - 4).toNat + k = t.toNat + k by omega] at this
  exact this
theorem px_b {B : Nat → Int} (hp' : pxD B u 4 v) : 4 ≤ u ∧ u ≤ 940 := ⟨hp'.2.1, hp'.2.2.1⟩
theorem fbx_of {a b c d e : Int} (h1 : pxD (fun i => hI hp 1 i) (f - 16) 4 a) (h2 : pxD (fun i => hI hp 1 i) (f - 12) 4 b) (h3 : pxD (fun i => hI hp 1 i) (f - 8) 4 c) (h4 : pxD (fun i => hI hp 1 i) (f - 4) 4 d) (h5 : pxD (fun i => hI hp 1 i) f 4 e) (hf : 20 ≤ f ∧ f ≤ 940) (et : t = f - 20) : 0 ≤ t ∧ t + 20 ≤ 940 ∧ ∀ k : Nat, k < 4 → hI hp 1 (t.toNat + k) = b8 a k ∧ hI hp 1 (t.toNat + 4 + k) = b8 b k ∧ hI hp 1 (t.toNat + 8 + k) = b8 c k ∧ hI hp 1 (t.toNat + 12 + k) = b8 d k ∧ hI hp 1 (t.toNat + 16 + k) = b8 e k := by
  refine ⟨by omega, by omega, fun k hk => ⟨?_, ?_, ?_, ?_, ?_⟩⟩
  · exact px_use h1 (t := t) (by omega) k hk
  · have := px_use h2 (t := t + 4) (by omega) k hk
    rw [show (t + 4).toNat = t.toNat + 4 by omega] at this
    exact this
  · have := px_use h3 (t := t + 8) (by omega) k hk
    rw [show (t + 8).toNat = t.toNat + 8 by omega] at this
    exact this
  · have := px_use h4 (t := t + 12) (by omega) k hk
    rw [show (t + 12).toNat = t.toNat + 12 by omega] at this
    exact this
  · have := px_use h5 (t := t + 16) (by omega) k hk
    rw [show (t + 16).toNat = t.toNat + 16 by omega] at this
    exact this
theorem teq_20 {a b c d e : Int} (h0 : ∀ i : Nat, i < 940 → (i : Int) < s → hI hp 1 i = hI hp 274 i % 256) (hF : 0 ≤ t ∧ t + 20 ≤ 940 ∧ ∀ k : Nat, k < 4 → hI hp 1 (t.toNat + k) = b8 a k ∧ hI hp 1 (t.toNat + 4 + k) = b8 b k ∧ hI hp 1 (t.toNat + 8 + k) = b8 c k ∧ hI hp 1 (t.toNat + 12 + k) = b8 d k ∧ hI hp 1 (t.toNat + 16 + k) = b8 e k) (h1 : pxD (fun i => hI hp 274 i % 256) (f - 16) 4 a) (h2 : pxD (fun i => hI hp 274 i % 256) (f - 12) 4 b) (h3 : pxD (fun i => hI hp 274 i % 256) (f - 8) 4 c) (h4 : pxD (fun i => hI hp 274 i % 256) (f - 4) 4 d) (h5 : pxD (fun i => hI hp 274 i % 256) f 4 e) (et : t = f - 20) (es : s = f - 20) : ∀ i : Nat, i < 940 → (i : Int) < f → hI hp 1 i = hI hp 274 i % 256 := by
  intro i hi hs
  obtain ⟨f1, f2, f3⟩ := hF
  by_cases r : (i : Int) < s
  · exact h0 i hi r
  · obtain ⟨n, k, hk, hn, e1⟩ : ∃ n k : Nat, k < 4 ∧ n < 5 ∧ i = t.toNat + 4 * n + k := ⟨(i - t.toNat) / 4, (i - t.toNat) % 4, by omega, by omega, by omega⟩
    obtain ⟨g1, g2, g3, g4, g5⟩ := f3 k hk
    rcases (show n = 0 ∨ n = 1 ∨ n = 2 ∨ n = 3 ∨ n = 4 by omega) with r | r | r | r | r <;> subst r
    · have w := px_use h1 (t := t) (by omega) k hk
      rw [show i = t.toNat + k by omega, g1]
      exact w.symm
    · have w := px_use h2 (t := t + 4) (by omega) k hk
      rw [show (t + 4).toNat = t.toNat + 4 by omega] at w
      rw [show i = t.toNat + 4 + k by omega, g2]
      exact w.symm
    · have w := px_use h3 (t := t + 8) (by omega) k hk
      rw [show (t + 8).toNat = t.toNat + 8 by omega] at w
      rw [show i = t.toNat + 8 + k by omega, g3]
      exact w.symm
    · have w := px_use h4 (t := t + 12) (by omega) k hk
      rw [show (t + 12).toNat = t.toNat + 12 by omega] at w
      rw [show i = t.toNat + 12 + k by omega, g4]
      exact w.symm
    · have w := px_use h5 (t := t + 16) (by omega) k hk
      rw [show (t + 16).toNat = t.toNat + 16 by omega] at w
      rw [show i = t.toNat + 16 + k by omega, g5]
      exact w.symm
/-- tapes alike: answers alike -/
theorem T_eq (hE : ∀ i : Nat, i < 940 → (i : Int) < t → hI hp 1 i = hI hp 274 i % 256) (h1 : hI hp 173 2 = n) (h2 : hI hp 273 3 = n) (h3 : hI hp 173 3 = m) (h4 : hI hp 273 5 = m) (hn : n ≤ t ∧ n ≤ 940) : XT hp = MT hp := by
  refine Prod.ext ?_ (Prod.ext (h1.trans h2.symm) (h3.trans h4.symm))
  funext i
  show (if 0 ≤ i ∧ i < hI hp 173 2 then XB hp i else 0) = (if 0 ≤ i ∧ i < hI hp 273 3 then MB hp i else 0)
  rw [h1, h2]
  by_cases r : 0 ≤ i ∧ i < n
  · rw [if_pos r, if_pos r]
    unfold XB MB
    rw [if_pos (by omega), if_pos (by omega)]
    exact hE i.toNat (by omega) (by omega)
  · rw [if_neg r, if_neg r]
theorem an_eq {a b : Int} (hE : ∀ i : Nat, i < 940 → (i : Int) < t → hI hp 1 i = hI hp 274 i % 256) (h1 : hI hp 173 2 = n) (h2 : hI hp 273 3 = n) (h3 : hI hp 173 3 = m) (h4 : hI hp 273 5 = m) (hn : n ≤ t ∧ n ≤ 940) (h5 : AN (XT hp) a) (h6 : AN (MT hp) b) : a = b := by
  rw [T_eq hE h1 h2 h3 h4 hn] at h5
  exact AN_det h5 h6
theorem ra_an (h : RS T k p) (e1 : x = -1 - p) : AN T x := Or.inr ⟨k, p, h, e1⟩
theorem fl_s {X : Nat → Int} {N : Nat} (hw : ∀ j : Nat, j < N → (j : Int) < s → X j = v) (hx : X j0 = x) (e1 : (j0 : Int) = s) (ex : x = v) (e2 : t = s + 1) : ∀ j : Nat, j < N → (j : Int) < t → X j = v := by
  intro i hi hs
  by_cases r : (i : Int) < s
  · exact hw i hi r
  · have e3 : i = j0 := by omega
    rw [e3, hx, ex]
theorem dat_0 : dat T 0 d0 := ⟨_, G_0, rfl, rfl⟩
theorem nm_0 (r : Nat) : nm d0 r = [] := by
  unfold nm
  by_cases q : r < 4
  · rw [if_pos q]; rfl
  · rw [if_neg q]
    by_cases q2 : r < 7
    · rw [if_pos q2]; rfl
    · rw [if_neg q2]; rfl
theorem tk_0 : ¬ tkI d0 p := by
  rintro ⟨a, ha, -⟩
  cases ha
theorem wr_0 (h : w = 0) : wR w d0 y := by
  intro i hi
  constructor
  · intro h1
    have h1 : w / 2 ^ i % 2 = 1 := h1
    rw [h, Int.zero_ediv] at h1
    omega
  · intro h1
    cases h1
theorem szl_0 : ¬ szl d0 := by
  unfold szl
  decide
theorem wm_0 (h : x = 0) : x = 1 ↔ wlI d0 p := by
  constructor
  · intro h1; omega
  · intro h1; cases h1
end CkFact9
