section Spec10
variable {T : pT} {q c l e f g h m n k a z v x y w u i p lo hi : Int} {D D' : pD} {s : pSt} {P Q : pD → Prop}
theorem hN1 (hT : tOk T) (hH : Hq T q c l e f g h m n k a z v) (hc : c = 1) (hk : k = 2) (hN : NO T q) : ∃ D, G T ((z, 2, l), (v, 0, 0, 0, 0, 0), D) := by
  obtain ⟨⟨D, hG⟩, ht⟩ := hH
  subst hc
  subst hk
  exact ⟨D, gN1 hT hG ht hN⟩
theorem hN5 (hT : tOk T) (hH : Hq T q c l e f g h m n k a z v) (hc : c = 5) (hk : k = 2) (hN : NO T q) : ∃ D, G T ((z, 6, l), (e, v, 0, 0, m, n), D) := by
  obtain ⟨⟨D, hG⟩, ht⟩ := hH
  subst hc
  subst hk
  exact ⟨D, gN5 hT hG ht hN⟩
theorem hN6 (hT : tOk T) (hH : Hq T q c l e f g h m n k a z v) (hc : c = 6) (hk : k = 2) (hN : NO T q) : ∃ D, G T ((z, 7, l), (e, f, v, 0, m, n), D) := by
  obtain ⟨⟨D, hG⟩, ht⟩ := hH
  subst hc
  subst hk
  exact ⟨D, gN6 hT hG ht hN⟩
theorem hN7 (hT : tOk T) (hH : Hq T q c l e f g h m n k a z v) (hc : c = 7) (hk : k = 2) (hN : NO T q) : ∃ D, G T ((z, 8, l), (e, f, g, v, m, n), D) := by
  obtain ⟨⟨D, hG⟩, ht⟩ := hH
  subst hc
  subst hk
  exact ⟨D, gN7 hT hG ht hN⟩
theorem hN15 (hT : tOk T) (hH : Hq T q c l e f g h m n k a z v) (hc : c = 15) (hk : k = 2) (hN : NO T q) : ∃ D, G T ((z, 16, l), (0, 0, 0, 0, m, n), D) := by
  obtain ⟨⟨D, hG⟩, ht⟩ := hH
  subst hc
  subst hk
  exact ⟨D, gN15 hT hG ht hN⟩
theorem hN19 (hT : tOk T) (hH : Hq T q c l e f g h m n k a z v) (hc : c = 19) (hk : k = 2) (hN : NO T q) : ∃ D, G T ((z, 20, l), (e, v, 0, 0, 0, 0), D) := by
  obtain ⟨⟨D, hG⟩, ht⟩ := hH
  subst hc
  subst hk
  exact ⟨D, gN19 hT hG ht hN⟩
theorem hN21 (hT : tOk T) (hH : Hq T q c l e f g h m n k a z v) (hc : c = 21) (hk : k = 2) (hN : NO T q) : ∃ D, G T ((z, 22, l), (0, v, 0, 0, 0, 0), D) := by
  obtain ⟨⟨D, hG⟩, ht⟩ := hH
  subst hc
  subst hk
  exact ⟨D, gN21 hT hG ht hN⟩
theorem hN2 (hT : tOk T) (hH : Hq T q c l e f g h m n k a z v) (hc : c = 2) (hk : k = 2) (hN : NO T q) : Gq T z 26 (l + 1) 0 0 0 0 0 0 ∧ dl T l (fun D => aSz D e v) := by
  obtain ⟨⟨D, hG⟩, ht⟩ := hH
  subst hc
  subst hk
  have g2 := gN2 hT hG ht hN
  exact ⟨⟨_, g2⟩, dl_G hG g2⟩
theorem hN16 (hT : tOk T) (hH : Hq T q c l e f g h m n k a z v) (hc : c = 16) (hk : k = 2) (hN : NO T q) : Gq T z 17 (l + 1) 0 0 0 0 0 0 ∧ dl T l (fun D => aKn D (bs T.1 m n)) := by
  obtain ⟨⟨D, hG⟩, ht⟩ := hH
  subst hc
  subst hk
  have g2 := gN16 hT hG ht hN
  exact ⟨⟨_, g2⟩, dl_G hG g2⟩
theorem hN25 (hT : tOk T) (hH : Hq T q c l e f g h m n k a z v) (hc : c = 25) (hk : k = 2) (hN : NO T q) : Gq T z 26 (l + 1) 0 0 0 0 0 0 ∧ dl T l (fun D => aWi D e f) := by
  obtain ⟨⟨D, hG⟩, ht⟩ := hH
  subst hc
  subst hk
  have g2 := gN25 hT hG ht hN
  exact ⟨⟨_, g2⟩, dl_G hG g2⟩
theorem hN20 (hT : tOk T) (hH : Hq T q c l e f g h m n k a z v) (hc : c = 20) (hk : k = 2) (hN : NO T q) (hA : dF T l (fun D => fre D f v)) : Gq T z 26 (l + 1) 0 0 0 0 0 0 ∧ dl T l (fun D => aTr D f v) := by
  obtain ⟨⟨D, hG⟩, ht⟩ := hH
  subst hc
  subst hk
  have hA := dF_at hT hG hA
  have g2 := gN20 hT hG ht hN hA
  exact ⟨⟨_, g2⟩, dl_G hG g2⟩
theorem hN20x (hT : tOk T) (hH : Hq T q c l e f g h m n k a z v) (hc : c = 20) (hk : k = 2) (hN : NO T q) (hA : dF T l (fun D => ¬ fre D f v)) : RS T 3 a := by
  obtain ⟨⟨D, hG⟩, ht⟩ := hH
  subst hc
  subst hk
  have hA := dF_at hT hG hA
  exact ⟨by decide, gN20x hT hG ht hN hA⟩
theorem hN22 (hT : tOk T) (hH : Hq T q c l e f g h m n k a z v) (hc : c = 22) (hk : k = 2) (hN : NO T q) (hA : dF T l (fun D => fre D f v)) : Gq T z 26 (l + 1) 0 0 0 0 0 0 ∧ dl T l (fun D => aWa D f v) := by
  obtain ⟨⟨D, hG⟩, ht⟩ := hH
  subst hc
  subst hk
  have hA := dF_at hT hG hA
  have g2 := gN22 hT hG ht hN hA
  exact ⟨⟨_, g2⟩, dl_G hG g2⟩
theorem hN22x (hT : tOk T) (hH : Hq T q c l e f g h m n k a z v) (hc : c = 22) (hk : k = 2) (hN : NO T q) (hA : dF T l (fun D => ¬ fre D f v)) : RS T 3 a := by
  obtain ⟨⟨D, hG⟩, ht⟩ := hH
  subst hc
  subst hk
  have hA := dF_at hT hG hA
  exact ⟨by decide, gN22x hT hG ht hN hA⟩
theorem hN8s (hT : tOk T) (hH : Hq T q c l e f g h m n k a z v) (hc : c = 8) (hk : k = 2) (hN : NO T q) (he : e = -1) (hA : dF T l (fun D => ¬ anyT D f g h v)) : Gq T z 26 (l + 1) 0 0 0 0 0 0 ∧ dl T l (fun D => aSp D (bs T.1 m n) f g h v) := by
  obtain ⟨⟨D, hG⟩, ht⟩ := hH
  subst hc
  subst hk
  have hA := dF_at hT hG hA
  have g2 := gN8s hT hG ht hN he hA
  exact ⟨⟨_, g2⟩, dl_G hG g2⟩
theorem hN8f (hT : tOk T) (hH : Hq T q c l e f g h m n k a z v) (hc : c = 8) (hk : k = 2) (hN : NO T q) (he : e ≠ -1) (hA : dF T l (fun D => ¬ anyT D f g h v)) : Gq T z 26 (l + 1) 0 0 0 0 0 0 ∧ dl T l (fun D => aFi D f g h v) := by
  obtain ⟨⟨D, hG⟩, ht⟩ := hH
  subst hc
  subst hk
  have hA := dF_at hT hG hA
  have g2 := gN8f hT hG ht hN he hA
  exact ⟨⟨_, g2⟩, dl_G hG g2⟩
theorem hN8x (hT : tOk T) (hH : Hq T q c l e f g h m n k a z v) (hc : c = 8) (hk : k = 2) (hN : NO T q) (hA : dF T l (fun D => anyT D f g h v)) : RS T 3 a := by
  obtain ⟨⟨D, hG⟩, ht⟩ := hH
  subst hc
  subst hk
  have hA := dF_at hT hG hA
  exact ⟨by decide, gN8x hT hG ht hN hA⟩
theorem hN24 (hT : tOk T) (hH : Hq T q c l e f g h m n k a z v) (hc : c = 24) (hk : k = 2) (hN : NO T q) (hA : dF T l (fun D => (e, v) ∉ dWi D)) : ∃ D, G T ((z, 25, l), (e, v, 0, 0, 0, 0), D) := by
  obtain ⟨⟨D, hG⟩, ht⟩ := hH
  subst hc
  subst hk
  exact ⟨D, gN24 hT hG ht hN (dF_at hT hG hA)⟩
theorem hN24x (hT : tOk T) (hH : Hq T q c l e f g h m n k a z v) (hc : c = 24) (hk : k = 2) (hN : NO T q) (hA : dF T l (fun D => (e, v) ∈ dWi D)) : RS T 3 a := by
  obtain ⟨⟨D, hG⟩, ht⟩ := hH
  subst hc
  subst hk
  have hA := dF_at hT hG hA
  exact ⟨by decide, gN24x hT hG ht hN hA⟩
theorem hW23 (hT : tOk T) (hH : Hq T q c l e f g h m n k a z v) (hc : c = 23) (hk : k = 1) (h1 : 8 ≤ v) (h2 : v ≤ 12) (e1 : x = v - 8) : ∃ D, G T ((z, 24, l), (x, 0, 0, 0, 0, 0), D) := by
  obtain ⟨⟨D, hG⟩, ht⟩ := hH
  subst hc
  subst hk
  subst e1
  exact ⟨D, gW23 hG ht h1 h2⟩
theorem hF3 (hT : tOk T) (hH : Hq T q c l e f g h m n k a z v) (hc : c = 3) (hk : k = 1) (hv : v = -1) (hS : SL T l a z i) (hi : i = -1) : Gq T z 26 (l + 1) 0 0 0 0 0 0 ∧ dl T l (fun D => aOw D (bs T.1 a z)) := by
  obtain ⟨⟨D, hG⟩, ht⟩ := hH
  subst hc
  subst hk
  subst hv
  have hs : i = slF D (bs T.1 a z) 12 := dF_at hT hG hS
  have hf : frs D (bs T.1 a z) := (frs_sl D _).2 (by omega)
  have g2 := gF3 hG ht hf
  exact ⟨⟨_, g2⟩, dl_G hG g2⟩
theorem hF9 (hT : tOk T) (hH : Hq T q c l e f g h m n k a z v) (hc : c = 9) (hk : k = 1) (hv : v = -1) (hS : SL T l a z i) (hi : i = -1) : ∃ D, G T ((z, 5, l), (-1, 0, 0, 0, a, z), D) := by
  obtain ⟨⟨D, hG⟩, ht⟩ := hH
  subst hc
  subst hk
  subst hv
  have hs : i = slF D (bs T.1 a z) 12 := dF_at hT hG hS
  have hf : frs D (bs T.1 a z) := (frs_sl D _).2 (by omega)
  exact ⟨D, gF9 hG ht hf⟩
theorem hF14 (hT : tOk T) (hH : Hq T q c l e f g h m n k a z v) (hc : c = 14) (hk : k = 1) (hv : v = -1) (hS : SL T l a z i) (hi : i = -1) : ∃ D, G T ((z, 15, l), (0, 0, 0, 0, a, z), D) := by
  obtain ⟨⟨D, hG⟩, ht⟩ := hH
  subst hc
  subst hk
  subst hv
  have hs : i = slF D (bs T.1 a z) 12 := dF_at hT hG hS
  have hf : frs D (bs T.1 a z) := (frs_sl D _).2 (by omega)
  exact ⟨D, gF14 hG ht hf⟩
theorem hO4 (hT : tOk T) (hH : Hq T q c l e f g h m n k a z v) (hc : c = 4) (hk : k = 1) (hv : v = -1) (hS : SL T l a z i) (h1 : 0 ≤ i) (h2 : i ≤ 3) : ∃ D, G T ((z, 5, l), (i, 0, 0, 0, 0, 0), D) := by
  obtain ⟨⟨D, hG⟩, ht⟩ := hH
  subst hc
  subst hk
  subst hv
  exact ⟨D, gO4 hG ht (dF_at hT hG hS) h1 h2⟩
theorem hO18 (hT : tOk T) (hH : Hq T q c l e f g h m n k a z v) (hc : c = 18) (hk : k = 1) (hv : v = -1) (hS : SL T l a z i) (h1 : 7 ≤ i) (h2 : i ≤ 11) (e1 : x = i - 7) : ∃ D, G T ((z, 19, l), (x, 0, 0, 0, 0, 0), D) := by
  obtain ⟨⟨D, hG⟩, ht⟩ := hH
  subst hc
  subst hk
  subst hv
  subst e1
  exact ⟨D, gO18 hG ht (dF_at hT hG hS) h1 h2⟩
theorem dF_H (hT : tOk T) (hH : Hq T q c l e f g h m n k a z v) (hP : dF T l P) (hQ : ∀ D, G T ((q, c, l), (e, f, g, h, m, n), D) → P D → Q D) : dF T l Q := by
  obtain ⟨⟨D, hG⟩, -⟩ := hH
  exact ⟨D, G_dat hG, hQ D hG (dF_at hT hG hP)⟩
/-- names -/
theorem sc_sl {L : List Int} {c i : Int} (hD : dI D) (hL : isW L) (hc : c = cd 32 96 L) (h : (i = -1 ∧ ∀ j : Nat, j < 12 → cd 32 96 (nm D j) ≠ c) ∨ ∃ j : Nat, j < 12 ∧ i = (j : Int) ∧ cd 32 96 (nm D j) = c) : i = slF D L 12 := by
  rcases h with ⟨h1, h2⟩ | ⟨j, h1, h2, h3⟩
  · rw [slF_no (fun j hj e => h2 j hj (by rw [e, hc])), h1]
  · have e : nm D j = L := by
      refine cd32 ?_ hL.2.2 (by rw [h3, hc])
      rcases hD.2.2.2 j h1 with r | r
      · rw [r]; intro c hc; cases hc
      · exact r.2.2
    rw [slF_is hD.2.2.1 h1 e (isW_ne hL), h2]
theorem nm_ltr {j : Nat} (hD : dI D) (hj : j < 12) : ∀ c ∈ nm D j, ltr c := by
  rcases hD.2.2.2 j hj with r | r
  · rw [r]; intro c hc; cases hc
  · exact r.2.2
theorem tkI_add {x y w h p : Int} {D' : pD} (e : dAr D' = (x, y, w, h) :: dAr D) : tkn D' (p % 10) (p / 10) ↔ (tkn D (p % 10) (p / 10) ∨ (x ≤ p % 10 ∧ p % 10 < x + w ∧ y ≤ p / 10 ∧ p / 10 < y + h)) := by
  unfold tkn
  rw [e]
  constructor
  · rintro ⟨t, ht, h1, h2, h3, h4⟩
    rcases List.mem_cons.1 ht with r | r
    · subst r
      exact Or.inr ⟨h1, h2, h3, h4⟩
    · exact Or.inl ⟨t, r, h1, h2, h3, h4⟩
  · rintro (⟨t, ht, h1⟩ | h1)
    · exact ⟨t, List.mem_cons_of_mem _ ht, h1⟩
    · exact ⟨_, List.mem_cons_self, h1⟩
theorem lst_add {L : List (Int × Int)} {A B : Nat → Int} {N : Nat} {t t' x y : Int} {i0 i1 : Nat} (h : t = L.length ∧ ∀ i : Nat, i < N → (i : Int) < t → L[i]? = some (A i, B i)) (hA : A i0 = x) (hB : B i1 = y) (e0 : (i0 : Int) = t) (e1 : (i1 : Int) = t) (e2 : t' = t + 1) : t' = ((L ++ [(x, y)]).length : Nat) ∧ ∀ i : Nat, i < N → (i : Int) < t' → (L ++ [(x, y)])[i]? = some (A i, B i) := by
  obtain ⟨h1, h2⟩ := h
  have e3 : i1 = i0 := by omega
  subst e3
  constructor
  · rw [List.length_append]
    show t' = ((L.length + 1 : Nat) : Int)
    omega
  · intro i hi ht
    by_cases r : (i : Int) < t
    · rw [List.getElem?_append_left (by omega)]
      exact h2 i hi r
    · have e4 : i = i1 := by omega
      subst e4
      rw [List.getElem?_append_right (by omega), show i - L.length = 0 by omega, hA, hB]
      rfl
theorem lst_mem {L : List (Int × Int)} {A B : Nat → Int} {N : Nat} {t x y : Int} {i0 i1 : Nat} (h : t = L.length ∧ ∀ i : Nat, i < N → (i : Int) < t → L[i]? = some (A i, B i)) (hA : A i0 = x) (hB : B i1 = y) (e0 : i1 = i0) (e1 : (i0 : Int) < t) (h0 : i0 < N) : (x, y) ∈ L := by
  subst e0
  have := h.2 i1 h0 e1
  rw [hA, hB] at this
  exact List.mem_of_getElem? this
theorem lst_no {L : List (Int × Int)} {A B : Nat → Int} {N : Nat} {t s x y : Int} (h : t = L.length ∧ ∀ i : Nat, i < N → (i : Int) < t → L[i]? = some (A i, B i)) (hn : ∀ i : Nat, i < N → (i : Int) < s → ¬ (A i = x ∧ B i = y)) (hs : t ≤ s) (hN : t ≤ N) : (x, y) ∉ L := by
  intro hm
  obtain ⟨i, hi, e⟩ := List.mem_iff_getElem.1 hm
  have h3 := h.2 i (by omega) (by omega)
  rw [List.getElem?_eq_getElem hi, e] at h3
  have h4 := Option.some.inj h3
  have h5 : x = A i := congrArg Prod.fst h4
  have h6 : y = B i := congrArg Prod.snd h4
  exact hn i (by omega) (by omega) ⟨h5.symm, h6.symm⟩
end Spec10
