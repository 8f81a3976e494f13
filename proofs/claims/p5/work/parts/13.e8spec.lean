section Spec8
variable {T : pT} {q c l e f g h m n k a z v x y w u i p lo hi : Int} {D D' : pD} {s : pSt} {P Q : pD → Prop}
theorem G_go2 {s' : pSt} (hG : G T ((q, c, l), (e, f, g, h, m, n), D)) (ht : TK T q k a z v) (e1 : pNx T.1 q c l e f g h m n D k a z v = .inl s') : G T s' := G_go hG ht e1
theorem G_fl2 {r : Int × Int} (hG : G T ((q, c, l), (e, f, g, h, m, n), D)) (ht : TK T q k a z v) (e1 : pNx T.1 q c l e f g h m n D k a z v = .inr r) : R T r := G_fl hG ht e1
def Gq (T : pT) (q c l e f g h m n : Int) : Prop := ∃ D, G T ((q, c, l), (e, f, g, h, m, n), D)
def Hq (T : pT) (q c l e f g h m n k a z v : Int) : Prop := Gq T q c l e f g h m n ∧ TKB T q k a z v
/-- a fault of kind k at p; a good end; the answer -/
def RS (T : pT) (k p : Int) : Prop := 1 ≤ k ∧ R T (k, p)
def DN (T : pT) (l : Int) : Prop := R T (0, l)
def AN (T : pT) (x : Int) : Prop := DN T x ∨ ∃ k p, RS T k p ∧ x = -1 - p
theorem AN_det (h1 : AN T x) (h2 : AN T y) : x = y := by
  rcases h1 with h1 | ⟨k, p, ⟨k1, h1⟩, e1⟩
  · rcases h2 with h2 | ⟨k', p', ⟨k1', h2⟩, e2⟩
    · exact congrArg Prod.snd (R_det h1 h2)
    · have := congrArg Prod.fst (R_det h1 h2)
      have : (0 : Int) = k' := this
      omega
  · rcases h2 with h2 | ⟨k', p', ⟨k1', h2⟩, e2⟩
    · have := congrArg Prod.fst (R_det h1 h2)
      have : k = (0 : Int) := this
      omega
    · have : p = p' := congrArg Prod.snd (R_det h1 h2)
      omega
/-- what holds of what l lines said -/
def dF (T : pT) (l : Int) (P : pD → Prop) : Prop := ∃ D, dat T l D ∧ P D
theorem G_dat {R : Int × Int × Int × Int × Int × Int} (hG : G T ((q, c, l), R, D)) : dat T l D := ⟨_, hG, rfl, rfl⟩
theorem dF_G {R : Int × Int × Int × Int × Int × Int} (hG : G T ((q, c, l), R, D)) (hP : P D) : dF T l P := ⟨D, G_dat hG, hP⟩
theorem dF_at {R : Int × Int × Int × Int × Int × Int} (hT : tOk T) (hG : G T ((q, c, l), R, D)) (hF : dF T l P) : P D := by
  obtain ⟨D', h1, h2⟩ := hF
  rw [dat_det hT.1 hT.2.2.1 (G_dat hG) h1]
  exact h2
theorem dF_D (hT : tOk T) (hd : dat T l D) (hF : dF T l P) : P D := by
  obtain ⟨D', h1, h2⟩ := hF
  rw [dat_det hT.1 hT.2.2.1 hd h1]
  exact h2
theorem dF_mp (hF : dF T l P) (h : ∀ D, P D → Q D) : dF T l Q := by
  obtain ⟨D, h1, h2⟩ := hF
  exact ⟨D, h1, h D h2⟩
theorem dF_2 (hT : tOk T) (hF : dF T l P) (hG : dF T l Q) : dF T l (fun D => P D ∧ Q D) := by
  obtain ⟨D, h1, h2⟩ := hF
  exact ⟨D, h1, h2, dF_D hT h1 hG⟩
theorem dF_I (hT : tOk T) (hF : dF T l P) : dF T l (fun D => dI D ∧ P D) := by
  obtain ⟨D, h1, h2⟩ := hF
  exact ⟨D, h1, dat_I hT.1 hT.2.2.1 h1, h2⟩
theorem G_I {R : Int × Int × Int × Int × Int × Int} (hT : tOk T) (hG : G T ((q, c, l), R, D)) : dI D := dat_I hT.1 hT.2.2.1 (G_dat hG)
theorem G_C (hT : tOk T) (hG : G T ((q, c, l), (e, f, g, h, m, n), D)) : cI4 T q c l e f g h m n D := (G_sI hT.1 hT.2.2.1 hG).1
def ctP (co cs ck cw ct cu cf cz cx cy : Int) (D : pD) : Prop := co = (dOw D).length ∧ cs = (dSt D).length ∧ ck = (dKn D).length ∧ cw = (dWi D).length ∧ ct = (dTr D).length ∧ cu = (dWa D).length ∧ cf = dFi D ∧ cz = dCz D ∧ cx = dCx D ∧ cy = dCy D
def CT (T : pT) (l co cs ck cw ct cu cf cz cx cy : Int) : Prop := dF T l (ctP co cs ck cw ct cu cf cz cx cy)
theorem ct_b {co cs ck cw ct cu cf cz cx cy : Int} (hT : tOk T) (hF : CT T l co cs ck cw ct cu cf cz cx cy) : (0 ≤ co ∧ co ≤ 4) ∧ (0 ≤ cs ∧ cs ≤ 3) ∧ (0 ≤ ck ∧ ck ≤ 5) ∧ (0 ≤ cw ∧ cw ≤ 8) ∧ (0 ≤ ct ∧ ct ≤ 14) ∧ (0 ≤ cu ∧ cu ≤ 10) ∧ (0 ≤ cf ∧ cf ≤ 8) ∧ (0 ≤ cz ∧ cz ≤ 1) ∧ (1 ≤ cx ∧ cx ≤ 10) ∧ (1 ≤ cy ∧ cy ≤ 10) := by
  obtain ⟨D, h1, h2⟩ := hF
  obtain ⟨⟨d1, d2, d3, d4, d5, d6, d7, d8⟩, ⟨d9, d10, d11, d12, d13, d14⟩, -⟩ := dat_I hT.1 hT.2.2.1 h1
  unfold ctP at h2
  omega
/-- what a number may be at a control -/
def numC (c f g : Int) (D : pD) (lo hi : Int) : Prop := (c = 1 ∧ lo = 1 ∧ hi = 10) ∨ (c = 2 ∧ lo = 1 ∧ hi = 10) ∨ (c = 5 ∧ lo = 0 ∧ hi = dCx D - 1) ∨ (c = 6 ∧ lo = 0 ∧ hi = dCy D - 1) ∨ (c = 7 ∧ lo = 1 ∧ hi = dCx D - f) ∨ (c = 8 ∧ lo = 1 ∧ hi = dCy D - g) ∨ (c = 15 ∧ lo = 1 ∧ hi = 12) ∨ (c = 16 ∧ lo = 1 ∧ hi = 9) ∨ (c = 19 ∧ lo = 0 ∧ hi = dCx D - 1) ∨ (c = 20 ∧ lo = 0 ∧ hi = dCy D - 1) ∨ (c = 21 ∧ lo = 0 ∧ hi = dCx D - 1) ∨ (c = 22 ∧ lo = 0 ∧ hi = dCy D - 1) ∨ (c = 24 ∧ lo = 1 ∧ hi = 4) ∨ (c = 25 ∧ lo = 1 ∧ hi = 9)
theorem num_nx {b : Int → Int} (hn : numC c f g D lo hi) (h4 : k ≠ 4) : ∃ o, pNx b q c l e f g h m n D k a z v = pNum k v lo hi a o := by
  rcases hn with ⟨rfl, rfl, rfl⟩ | ⟨rfl, rfl, rfl⟩ | ⟨rfl, rfl, rfl⟩ | ⟨rfl, rfl, rfl⟩ | ⟨rfl, rfl, rfl⟩ | ⟨rfl, rfl, rfl⟩ | ⟨rfl, rfl, rfl⟩ | ⟨rfl, rfl, rfl⟩ | ⟨rfl, rfl, rfl⟩ | ⟨rfl, rfl, rfl⟩ | ⟨rfl, rfl, rfl⟩ | ⟨rfl, rfl, rfl⟩ | ⟨rfl, rfl, rfl⟩ | ⟨rfl, rfl, rfl⟩
  · exact ⟨_, nx1 h4⟩
  · exact ⟨_, nx2 h4⟩
  · exact ⟨_, nx5 h4⟩
  · exact ⟨_, nx6 h4⟩
  · exact ⟨_, nx7 h4⟩
  · exact ⟨_, nx8 h4⟩
  · exact ⟨_, nx15 h4⟩
  · exact ⟨_, nx16 h4⟩
  · exact ⟨_, nx19 h4⟩
  · exact ⟨_, nx20 h4⟩
  · exact ⟨_, nx21 h4⟩
  · exact ⟨_, nx22 h4⟩
  · exact ⟨_, nx24 h4⟩
  · exact ⟨_, nx25 h4⟩
theorem num_c (hn : numC c f g D lo hi) : c ≠ 17 ∧ c ≠ 26 := by unfold numC at hn; omega
def EN (T : pT) (q lo hi : Int) : Prop := ∃ s, G T s ∧ s.1.1 = q ∧ numC s.1.2.1 s.2.1.2.1 s.2.1.2.2.1 s.2.2 lo hi
def NO (T : pT) (q : Int) : Prop := ∃ s lo hi a z v, G T s ∧ s.1.1 = q ∧ numC s.1.2.1 s.2.1.2.1 s.2.1.2.2.1 s.2.2 lo hi ∧ TK T q 2 a z v ∧ lo ≤ v ∧ v ≤ hi
theorem en_mk (hG : G T ((q, c, l), (e, f, g, h, m, n), D)) (hn : numC c f g D lo hi) : EN T q lo hi := ⟨_, hG, rfl, hn⟩
theorem en_at (hT : tOk T) (hG : G T ((q, c, l), (e, f, g, h, m, n), D)) (hE : EN T q lo hi) : numC c f g D lo hi := by
  obtain ⟨s, h1, h2, h3⟩ := hE
  obtain ⟨c1, c2⟩ := num_c h3
  have e := G_q hT.1 hT.2.2.1 h1 hG h2 c1 c2
  subst e
  exact h3
theorem no_at (hT : tOk T) (hG : G T ((q, c, l), (e, f, g, h, m, n), D)) (ht : TKB T q 2 a z v) (hE : NO T q) : ∃ lo hi, numC c f g D lo hi ∧ lo ≤ v ∧ v ≤ hi := by
  obtain ⟨s, lo, hi, a', z', v', h1, h2, h3, h4, h5, h6⟩ := hE
  obtain ⟨c1, c2⟩ := num_c h3
  have e := G_q hT.1 hT.2.2.1 h1 hG h2 c1 c2
  subst e
  obtain ⟨-, -, e3⟩ := TK_det ht.1 h4
  have e4 := (e3 (by decide)).2
  exact ⟨lo, hi, h3, by omega, by omega⟩
theorem en_f1 (hT : tOk T) (hH : Hq T q c l e f g h m n k a z v) (hE : EN T q lo hi) (hk : k ≠ 2) : RS T 1 a := by
  obtain ⟨⟨D, hG⟩, ht⟩ := hH
  have hn := en_at hT hG hE
  refine ⟨by decide, G_fl2 hG ht.1 ?_⟩
  by_cases h4 : k = 4
  · subst h4
    exact nxF (num_c hn).1
  · obtain ⟨o, ho⟩ := num_nx (b := T.1) (q := q) (l := l) (e := e) (h := h) (m := m) (n := n) (a := a) (z := z) (v := v) hn h4
    exact ho.trans (by unfold pNum; rw [pIf_f hk]; rfl)
theorem en_f2 (hT : tOk T) (hH : Hq T q c l e f g h m n k a z v) (hE : EN T q lo hi) (hk : k = 2) (hv : ¬ (lo ≤ v ∧ v ≤ hi)) : RS T 2 a := by
  obtain ⟨⟨D, hG⟩, ht⟩ := hH
  subst hk
  have hn := en_at hT hG hE
  refine ⟨by decide, G_fl2 hG ht.1 ?_⟩
  obtain ⟨o, ho⟩ := num_nx (b := T.1) (q := q) (l := l) (e := e) (h := h) (m := m) (n := n) (k := 2) (a := a) (z := z) (v := v) hn (by decide)
  exact ho.trans (by unfold pNum; rw [pIf_t rfl, pIf_f hv]; rfl)
theorem en_no (hH : Hq T q c l e f g h m n k a z v) (hE : EN T q lo hi) (hk : k = 2) (h1 : lo ≤ v) (h2 : v ≤ hi) : NO T q := by
  obtain ⟨-, ht⟩ := hH
  subst hk
  obtain ⟨s, g1, g2, g3⟩ := hE
  exact ⟨s, lo, hi, a, z, v, g1, g2, g3, ht.1, h1, h2⟩
/-- a way, a name that was told, a new name is expected -/
def EX (T : pT) (q : Int) (P : Int → Prop) : Prop := ∃ s, G T s ∧ s.1.1 = q ∧ P s.1.2.1 ∧ s.1.2.1 ≠ 17 ∧ s.1.2.1 ≠ 26
theorem ex_mk {P : Int → Prop} (hG : G T ((q, c, l), (e, f, g, h, m, n), D)) (hp : P c) (h1 : c ≠ 17) (h2 : c ≠ 26) : EX T q P := ⟨_, hG, rfl, hp, h1, h2⟩
theorem ex_at {P : Int → Prop} (hT : tOk T) (hG : G T ((q, c, l), (e, f, g, h, m, n), D)) (hE : EX T q P) : P c := by
  obtain ⟨s, h1, h2, h3, c1, c2⟩ := hE
  have e := G_q hT.1 hT.2.2.1 h1 hG h2 c1 c2
  subst e
  exact h3
def EW (T : pT) (q : Int) : Prop := EX T q (fun c => c = 23)
def EF (T : pT) (q : Int) : Prop := EX T q (fun c => c = 3 ∨ c = 9 ∨ c = 14)
def EO (T : pT) (q x y : Int) : Prop := EX T q (fun c => (c = 4 ∧ x = 0 ∧ y = 4) ∨ (c = 18 ∧ x = 7 ∧ y = 5))
theorem ew_f1 (hT : tOk T) (hH : Hq T q c l e f g h m n k a z v) (hE : EW T q) (hk : ¬ (k = 1 ∧ 8 ≤ v ∧ v ≤ 12)) : RS T 1 a := by
  obtain ⟨⟨D, hG⟩, ht⟩ := hH
  have hc : c = 23 := ex_at (P := fun c => c = 23) hT hG hE
  subst hc
  refine ⟨by decide, G_fl2 hG ht.1 ?_⟩
  by_cases h4 : k = 4
  · subst h4
    exact nxF (by decide)
  · exact (nx23 h4).trans (pIf_f hk)
theorem ef_f1 (hT : tOk T) (hH : Hq T q c l e f g h m n k a z v) (hE : EF T q) (hk : ¬ (k = 1 ∧ v = -1)) : RS T 1 a := by
  obtain ⟨⟨D, hG⟩, ht⟩ := hH
  have hc : c = 3 ∨ c = 9 ∨ c = 14 := ex_at hT hG hE
  refine ⟨by decide, G_fl2 hG ht.1 ?_⟩
  by_cases h4 : k = 4
  · subst h4
    exact nxF (by show c ≠ 17; omega)
  · rcases hc with rfl | rfl | rfl
    · exact (nx3 h4).trans (by unfold pFre; exact pIf_f hk)
    · exact (nx9 h4).trans (by unfold pFre; exact pIf_f hk)
    · exact (nx14 h4).trans (by unfold pFre; exact pIf_f hk)
theorem eo_f1 (hT : tOk T) (hH : Hq T q c l e f g h m n k a z v) (hE : EO T q x y) (hk : ¬ (k = 1 ∧ v = -1)) : RS T 1 a := by
  obtain ⟨⟨D, hG⟩, ht⟩ := hH
  have hc : (c = 4 ∧ x = 0 ∧ y = 4) ∨ (c = 18 ∧ x = 7 ∧ y = 5) := ex_at hT hG hE
  refine ⟨by decide, G_fl2 hG ht.1 ?_⟩
  by_cases h4 : k = 4
  · subst h4
    exact nxF (by show c ≠ 17; omega)
  · rcases hc with ⟨rfl, -⟩ | ⟨rfl, -⟩
    · exact (nx4 h4).trans (by unfold pOld; exact pIf_f hk)
    · exact (nx18 h4).trans (by unfold pOld; exact pIf_f hk)
/-- which of the names stands there -/
def SL (T : pT) (l a z i : Int) : Prop := dF T l (fun D => i = slF D (bs T.1 a z) 12)
theorem k14 : (1 : Int) ≠ 4 := by decide
theorem eo_f3 (hT : tOk T) (hH : Hq T q c l e f g h m n k a z v) (hE : EO T q x y) (hS : SL T l a z i) (hk : k = 1) (hv : v = -1) (hi : i < x ∨ x + y ≤ i) : RS T 3 a := by
  obtain ⟨⟨D, hG⟩, ht⟩ := hH
  subst hk
  subst hv
  have hs : i = slF D (bs T.1 a z) 12 := dF_at hT hG hS
  have hc : (c = 4 ∧ x = 0 ∧ y = 4) ∨ (c = 18 ∧ x = 7 ∧ y = 5) := ex_at hT hG hE
  refine ⟨by decide, G_fl2 hG ht.1 ?_⟩
  rcases hc with ⟨rfl, e1, e2⟩ | ⟨rfl, e1, e2⟩
  · exact (nx4 k14).trans (by unfold pOld; rw [pIf_t ⟨rfl, rfl⟩, pIf_f (by omega)]; rfl)
  · exact (nx18 k14).trans (by unfold pOld; rw [pIf_t ⟨rfl, rfl⟩, pIf_f (by omega)]; rfl)
theorem frs_sl (D : pD) (L : List Int) : frs D L ↔ slF D L 12 = -1 := by
  constructor
  · intro hf
    exact slF_no hf
  · intro hs
    rcases slF_r (D := D) (L := L) (k := 12) with ⟨-, h2⟩ | ⟨j, h1, h2, h3⟩
    · exact h2
    · omega
theorem ef_f3 (hT : tOk T) (hH : Hq T q c l e f g h m n k a z v) (hE : EF T q) (hS : SL T l a z i) (hk : k = 1) (hv : v = -1) (hi : i ≠ -1) : RS T 3 a := by
  obtain ⟨⟨D, hG⟩, ht⟩ := hH
  subst hk
  subst hv
  have hs : i = slF D (bs T.1 a z) 12 := dF_at hT hG hS
  have hc : c = 3 ∨ c = 9 ∨ c = 14 := ex_at hT hG hE
  have hf : ¬ frs D (bs T.1 a z) := fun w => hi (hs.trans ((frs_sl D _).1 w))
  refine ⟨by decide, G_fl2 hG ht.1 ?_⟩
  rcases hc with rfl | rfl | rfl
  · exact (nx3 k14).trans (by unfold pFre; rw [pIf_t ⟨rfl, rfl⟩, pIf_f hf]; rfl)
  · exact (nx9 k14).trans (by unfold pFre; rw [pIf_t ⟨rfl, rfl⟩, pIf_f hf]; rfl)
  · exact (nx14 k14).trans (by unfold pFre; rw [pIf_t ⟨rfl, rfl⟩, pIf_f hf]; rfl)
/-- no token, whatever is expected -/
theorem g_f4 (hT : tOk T) (hG' : Gq T q c l e f g h m n) (ht : TKB T q 4 a z v) : RS T 1 a := by
  obtain ⟨D, hG⟩ := hG'
  by_cases h17 : c = 17
  · subst h17
    have g2 : G T ((q, 26, l), (e, f, g, h, m, n), D) := G_go2 hG ht.1 (nx17.trans (pIf_f (fun w => absurd w.1 (by decide))))
    exact ⟨by decide, G_fl2 g2 ht.1 (nxF (by decide))⟩
  · exact ⟨by decide, G_fl2 hG ht.1 (nxF h17)⟩
/-- a line's first word can't be -/
theorem h0_f1 (hT : tOk T) (hH : Hq T q c l e f g h m n k a z v) (hc : c = 0) (hk0 : k ≠ 0) (hk : ¬ (k = 1 ∧ 0 ≤ v ∧ v ≤ 7)) : RS T 1 a := by
  obtain ⟨⟨D, hG⟩, ht⟩ := hH
  subst hc
  refine ⟨by decide, G_fl2 hG ht.1 ?_⟩
  by_cases h4 : k = 4
  · subst h4
    exact nxF (by decide)
  · exact (nx0 h4).trans (by rw [pIf_f hk0, pIf_f hk]; rfl)
theorem h0_dn (hH : Hq T q c l e f g h m n k a z v) (hc : c = 0) (hk : k = 0) : DN T l := by
  obtain ⟨⟨D, hG⟩, ht⟩ := hH
  subst hc
  subst hk
  exact G_fl2 hG ht.1 ((nx0 (by decide)).trans (pIf_t rfl))
theorem h26_f1 (hT : tOk T) (hH : Hq T q c l e f g h m n k a z v) (hc : c = 26) (hk : ¬ (k = 3 ∧ v = 59)) : RS T 1 a := by
  obtain ⟨⟨D, hG⟩, ht⟩ := hH
  subst hc
  refine ⟨by decide, G_fl2 hG ht.1 ?_⟩
  by_cases h4 : k = 4
  · subst h4
    exact nxF (by decide)
  · exact (nx26 h4).trans (pIf_f hk)
theorem h26_go (hH : Hq T q c l e f g h m n k a z v) (hc : c = 26) (hk : k = 3) (hv : v = 59) : Gq T z 0 l 0 0 0 0 0 0 := by
  obtain ⟨⟨D, hG⟩, ht⟩ := hH
  subst hc
  subst hk
  subst hv
  exact ⟨D, G_go2 hG ht.1 ((nx26 (by decide)).trans (pIf_t ⟨rfl, rfl⟩))⟩
theorem h17_26 (hH : Hq T q c l e f g h m n k a z v) (hc : c = 17) (hk : ¬ (k = 1 ∧ v = 13)) : Hq T q 26 l e f g h m n k a z v := by
  obtain ⟨⟨D, hG⟩, ht⟩ := hH
  subst hc
  exact ⟨⟨D, G_go2 hG ht.1 (nx17.trans (pIf_f hk))⟩, ht⟩
theorem h17_go (hH : Hq T q c l e f g h m n k a z v) (hc : c = 17) (hk : k = 1) (hv : v = 13) : Gq T z 26 l 0 0 0 0 0 0 := by
  obtain ⟨⟨D, hG⟩, ht⟩ := hH
  subst hc
  subst hk
  subst hv
  exact ⟨D, G_go2 hG ht.1 (nx17.trans (pIf_t ⟨rfl, rfl⟩))⟩
theorem h_bd (hT : tOk T) (hH : Hq T q c l e f g h m n k a z v) : (0 ≤ q ∧ q ≤ 940 ∧ 0 ≤ l ∧ l ≤ 470) ∧ (-1 ≤ e ∧ e ≤ 99 ∧ -1 ≤ f ∧ f ≤ 99 ∧ -1 ≤ g ∧ g ≤ 99 ∧ -1 ≤ h ∧ h ≤ 99 ∧ 0 ≤ m ∧ m ≤ 940 ∧ 0 ≤ n ∧ n ≤ 940) ∧ (0 ≤ k ∧ k ≤ 4 ∧ 0 ≤ a ∧ a ≤ 940 ∧ 0 ≤ z ∧ z ≤ 940 ∧ -1 ≤ v ∧ v ≤ 99) := by
  obtain ⟨⟨D, hG⟩, ht⟩ := hH
  obtain ⟨⟨i1, i2, i3, i4, i5, i6, i7⟩, ⟨r1, r2, r3, r4, r5, r6, r7, r8, r9, r10, r11, r12⟩, -⟩ := G_C hT hG
  obtain ⟨t1, t2, t3, t4, -⟩ := TK_bd ht.1 i3 hT.2.2.1 i4
  obtain ⟨-, u1, u2, u3, u4⟩ := ht
  have := hT.2.1
  omega
theorem h_k1 (hT : tOk T) (hH : Hq T q c l e f g h m n k a z v) (hk : k = 1) : isW (bs T.1 a z) ∧ v = wix (bs T.1 a z) ∧ v ≤ 29 ∧ 0 ≤ a ∧ a ≤ z ∧ z ≤ T.2.1 := by
  obtain ⟨⟨D, hG⟩, ht⟩ := hH
  obtain ⟨⟨i1, i2, i3, i4, i5, i6, i7⟩, -⟩ := G_C hT hG
  obtain ⟨t1, t2, t3, t4, t5⟩ := TK_bd ht.1 i3 hT.2.2.1 i4
  obtain ⟨b1, b2, b3, b4, b5, b6, b7, b8⟩ := t5 (by omega)
  obtain ⟨w1, w2, w3⟩ := b7 hk
  exact ⟨w2, w3, w1, t3, b2, b3⟩
theorem h_in (hT : tOk T) (hH : Hq T q c l e f g h m n k a z v) (hk : k ≠ 4) : 0 ≤ a ∧ z ≤ T.2.1 := by
  obtain ⟨⟨D, hG⟩, ht⟩ := hH
  obtain ⟨⟨i1, i2, i3, i4, i5, i6, i7⟩, -⟩ := G_C hT hG
  obtain ⟨t1, t2, t3, t4, t5⟩ := TK_bd ht.1 i3 hT.2.2.1 i4
  exact ⟨t3, (t5 hk).2.2.1⟩
end Spec8
