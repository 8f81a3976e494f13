section CkHeap2
variable {FS : sFS} {r : List Int} {N : sNm} {hs : sHs} {hp : Lean.RArray Nat}
/-- what a read gives -/
def rdOut (FS : sFS) (r : List Int) (hp : Lean.RArray Nat) (w : Nat) (k : sK3) : Prop := ∃ (t : List Int) (v : sVl) (N' : sNm) (hs' : sHs), sNOk tSg (r ++ t) N' ∧ hsOk FS (r ++ t) hp hs' ∧ vOk (r ++ t) v w ∧ k v N' hs' = true
theorem hsOk_push {q : sRf} (h : hsOk FS r hp hs) (hq : rfOk r hp q) : hsOk FS r hp (q :: hs.1, hs.2) := ⟨fun w hw => by
  rcases List.mem_cons.mp hw with rfl | hw
  · exact hq
  · exact h.1 w hw, h.2⟩
theorem sRoF_ok (hN : sNOk tSg r N) (hH : hsOk FS r hp hs) {ro c i c2 : Nat} {ce ix : sLn} (hc : c < tNC) (hro : tRO c = ro) (hce : sE r ce = some (c : Int)) (hix : sE r ix = some (i : Int)) (hi : i < tLe ro) (h2 : c2 < tNC) (hv2 : hv hp c i = cR c2) {k : sK3} : ∀ {ros : List Nat}, tRO c2 ∈ ros → sRoF N hs ro ce ix ros k = true → rdOut FS r hp (hv hp c i) k := by
  intro ros
  induction ros with
  | nil => intro hm; cases hm
  | cons r2 ros ih =>
    intro hm h
    obtain ⟨h1, h3⟩ := eC_t (show cond (match tCe r2 with
      | [c0] => k (Nat.add r2 16, Int.ofNat c0, []) N (((ro, ce), ix, (Nat.add r2 16, Int.ofNat c0, [])) :: hs.1, hs.2)
      | _ => sFr N (Int.ofNat 0) (Int.ofNat tNC) (fun e N => k (Nat.add r2 16, e) N (((ro, ce), ix, (Nat.add r2 16, e)) :: hs.1, hs.2))) (sRoF N hs ro ce ix ros k) false = true from h)
    rcases List.mem_cons.mp hm with hm | hm
    · have hcm := (tAll_at h2).2
      rw [hm] at hcm
      split at h1
      · rename_i c0 e0
        rw [e0] at hcm
        have ec : c2 = c0 := List.mem_singleton.mp hcm
        subst ec
        have hv3 : vOk r (Nat.add r2 16, Int.ofNat c2, []) (hv hp c i) := by rw [hv2]; exact vOk_r (sE_k r _) h2 hm
        exact ⟨[], _, N, _, by rw [sNil]; exact hN, by rw [sNil]; exact hsOk_push hH ⟨c, i, hce, hc, hro, hix, hi, hv3⟩, by rw [sNil]; exact hv3, h1⟩
      · have b1 : (Int.ofNat 0 : Int) ≤ (c2 : Int) := Int.ofNat_le.mpr (Nat.zero_le _)
        have b2 : (c2 : Int) ≤ Int.ofNat tNC := Int.ofNat_le.mpr (Nat.le_of_lt h2)
        have b3 := tNC_le
        obtain ⟨e, N', q1, q2, q3⟩ := sFr_ok hN b1 b2 (by rw [zMn_eq]; omega) (by rw [zMx_eq]; omega) h1
        have hv3 : vOk (r ++ [(c2 : Int)]) (Nat.add r2 16, e) (hv hp c i) := by rw [hv2]; exact vOk_r q2 h2 hm
        exact ⟨[(c2 : Int)], _, N', _, q1, hsOk_push (hsOk_mono hH) ⟨c, i, sE_mono hce, hc, hro, sE_mono hix, hi, hv3⟩, hv3, q3⟩
    · exact ih hm h3
theorem sRoS_ok (hN : sNOk tSg r N) (hO : hOk hp) (hH : hsOk FS r hp hs) {ro c i : Nat} {ce ix : sLn} (hc : c < tNC) (hro : tRO c = ro) (hce : sE r ce = some (c : Int)) (hix : sE r ix = some (i : Int)) (hi : i < tLe ro) {k : sK3} : ∀ (n j : Nat), j ≤ i → i < j + n → sRoS N hs ro ce ix k n j = true → rdOut FS r hp (hv hp c i) k := by
  intro n
  induction n with
  | zero => intro j h1 h2; omega
  | succ n ih =>
    intro j h1 h2 h
    obtain ⟨h3, h4⟩ := eC_t (show cond (sAsEq N ix (Int.ofNat j, []) (fun N => match sSgAt (tSg ro) j with
      | some (.inr (.inr ros)) => sRoF N hs ro ce (Int.ofNat j, []) ros k
      | _ => false)) (sRoS N hs ro ce ix k n (Nat.add j 1)) false = true from h)
    by_cases e : i = j
    · subst e
      obtain ⟨N', n1, n2⟩ := sAsEq_ok hN hix (sE_k r (Int.ofNat i)) h3
      split at n2
      · rename_i ros e0
        have ht := (hO.2 c hc).2.2 i _ (by rw [hro]; exact e0)
        obtain ⟨c2, a1, a2, a3⟩ := ht
        exact sRoF_ok n1 hH hc hro hce (sE_k r (Int.ofNat i)) hi a1 a3 a2 n2
      · cases n2
    · exact ih (Nat.add j 1) (by show j + 1 ≤ i; omega) (by show i < j + 1 + n; omega) h4
theorem sRdT_ok (hN : sNOk tSg r N) (hO : hOk hp) (hH : hsOk FS r hp hs) {ro c i lo hi : Nat} {ce ix : sLn} (hc : c < tNC) (hro : tRO c = ro) (hce : sE r ce = some (c : Int)) (hix : sE r ix = some (i : Int)) (hi2 : i < tLe ro) (hlo : lo ≤ i) (hhi : i ≤ hi) {k : sK3} (h : sRdT N hs ro ce ix lo hi (sOv (tSg ro) lo hi) k = true) : rdOut FS r hp (hv hp c i) k := by
  subst hro
  obtain ⟨t, ht, hty⟩ := tTy hO hc hi2
  obtain ⟨q, hq, -, -, hqt⟩ := sOv_at ht hlo hhi
  generalize sOv (tSg (tRO c)) lo hi = os at h hq
  unfold sRdT at h
  split at h
  · cases h
  · rename_i w l
    split at h
    · rw [zF_eq, zF_eq] at h
      obtain ⟨h1, h⟩ := eC_t h
      obtain ⟨p, p1, p2, p3⟩ := sAllI_ok h1 q hq
      rw [hqt] at p1
      subst p1
      obtain ⟨x, x1, x2, x3, x4, x5⟩ := hty
      rcases sCh h with ⟨h2, h⟩ | ⟨-, h⟩
      · have e := zEq_ok h2
        have ex : sMi (w :: l) = x := by omega
        rw [ex] at h
        exact ⟨[], _, N, hs, by rw [sNil]; exact hN, by rw [sNil]; exact hH, by rw [sNil, x5]; exact vOk_i (sE_k r x) x3 x4, h⟩
      · unfold sFr at h
        rw [zF_eq, zF_eq, eF_eq] at h
        have hNn := sNOk_new hN (x := x) (lo := sMi (w :: l)) (hi := sMa (w :: l)) (by omega) (by omega) (wz x3 x4).1 (wz x3 x4).2
        have hx : (r ++ [x])[N.1]? = some x := by rw [← hN.1, List.getElem?_concat_length]
        have hv3 : vOk (r ++ [x]) (1, sV N.1) (hv hp c i) := by rw [x5]; exact vOk_i (sE_V hx) x3 x4
        refine ⟨[x], _, _, _, ?_, hsOk_push (hsOk_mono hH) ⟨c, i, sE_mono hce, hc, rfl, sE_mono hix, hi2, hv3⟩, hv3, h⟩
        obtain ⟨a1, a2, a3, a4⟩ := hNn
        refine ⟨a1, a2, a3, ?_⟩
        show sElOk tSg (r ++ [x]) (cond (Nat.beq (tKi (tRO c)) 64) ((Nat.sub (Nat.add N.1 1) 1, tRO c, ix) :: N.2.2.2) N.2.2.2)
        cases Nat.beq (tKi (tRO c)) 64
        · exact a4
        · intro q2 hq2
          rcases List.mem_cons.mp hq2 with rfl | hq2
          · exact ⟨x, i, p.1, p.2, hx, sE_mono hix, ht, x1, x2⟩
          · exact a4 q2 hq2
    · obtain ⟨h1, h⟩ := eC_t h
      have e := sAllL_ok h1 q hq
      rw [hqt] at e
      subst e
      obtain ⟨x, x1, x2, x3⟩ := cL_of hty.1 hty.2
      obtain ⟨e, N', q1, q2, q3⟩ := sFrW_ok hN x1 x2 x1 x2 h
      have hv3 : vOk (r ++ [x]) (5, e) (hv hp c i) := by rw [x3]; exact vOk_w q2 x1 x2
      exact ⟨[x], _, N', _, q1, hsOk_push (hsOk_mono hH) ⟨c, i, sE_mono hce, hc, rfl, sE_mono hix, hi2, hv3⟩, hv3, q3⟩
    · rename_i ros e0
      rcases sCh h with ⟨h1, h⟩ | ⟨-, h⟩
      · obtain ⟨l2, l3, l4⟩ := sAllR_ok h1 q hq
        rw [hqt] at l3
        subst l3
        obtain ⟨c2, a1, a2, a3⟩ := hty
        exact sRoF_ok hN hH hc rfl hce hix hi2 a1 a3 (l4 _ a2) h
      · exact sRoS_ok hN hO hH hc rfl hce hix hi2 _ lo hlo (by show i < lo + (hi + 1 - lo); omega) h
theorem sE_inj {e : sLn} {x y : Int} (h1 : sE r e = some x) (h2 : sE r e = some y) : x = y := Option.some.inj (h1.symm.trans h2)
theorem aRd_ok (hN : sNOk tSg r N) (hO : hOk hp) (hH : hsOk FS r hp hs) {ro c : Nat} {ce ix : sLn} {x : Int} (hc : c < tNC) (hro : tRO c = ro) (hce : sE r ce = some (c : Int)) (hix : sE r ix = some x) {k : sK3} (h : aRd N hs ro ce ix k = true) : ∃ i : Nat, x = (i : Int) ∧ i < tLe ro ∧ rdOut FS r hp (hv hp c i) k := by
  unfold aRd at h
  rcases sLk_ok h with h | ⟨v, h1, h2⟩
  · rw [zF_eq, zF_eq] at h
    obtain ⟨h1, h⟩ := eC_t h
    obtain ⟨h2, h⟩ := eC_t h
    have h1 := zPs_iff.mp h1
    have h2 := zLe_iff.mp h2
    have b1 := sLo_ok hN hix
    have b2 := sHi_ok hN hix
    have h2 : sHi N ix + 1 ≤ (tLe ro : Int) := h2
    obtain ⟨i, rfl⟩ := Int.eq_ofNat_of_zero_le (a := x) (by omega)
    exact ⟨i, rfl, by omega, sRdT_ok hN hO hH hc hro hce hix (by omega) (by omega) (by omega) h⟩
  · obtain ⟨c', i, e1, e2, e3, e4, e5, e6⟩ := hH.1 _ h1
    have q1 := sE_inj hce e1
    have q2 := sE_inj hix e4
    have q1 : c = c' := Int.ofNat.inj q1
    subst q1
    obtain ⟨v', w1, w2⟩ := sNrm_ok hN e6 h2
    exact ⟨i, q2, e5, [], v', N, hs, by rw [sNil]; exact hN, by rw [sNil]; exact hH, by rw [sNil]; exact w1, w2⟩
/-- they differ -/
noncomputable def sApart (N : sNm) (a b : sLn) : Bool := sFl (sSub a b) (fun d => cond (zLe (Int.ofNat 1) (sLo N d)) true (zLe (sHi N d) (Int.negSucc 0)))
theorem sApart_ok (hN : sNOk tSg r N) {a b : sLn} {x y : Int} (ha : sE r a = some x) (hb : sE r b = some y) (h : sApart N a b = true) : x ≠ y := by
  unfold sApart at h
  rw [sFl_eq] at h
  have hd := sSub_ok ha hb
  have b1 := sLo_ok hN hd
  have b2 := sHi_ok hN hd
  have o1 : (Int.ofNat 1 : Int) = 1 := rfl
  have o2 : (Int.negSucc 0 : Int) = -1 := rfl
  rcases sCh h with ⟨h1, -⟩ | ⟨-, h1⟩
  · have := zLe_iff.mp h1
    omega
  · have := zLe_iff.mp h1
    omega
/-- what is still known of slots, once one is written -/
noncomputable def sKl (N : sNm) (ro : Nat) (ce ix : sLn) (rf : List sRf) : (List sRf → Bool) → Bool := @List.rec sRf (fun _ => (List sRf → Bool) → Bool) (fun k => k []) (fun q _ ih k => cond (cond (Nat.beq q.1.1 ro) (cond (sApart N q.1.2 ce) true (sApart N q.2.1 ix)) true) (ih (fun l => k (q :: l))) (ih k)) rf
theorem sKl_ok {ro : Nat} {ce ix : sLn} : ∀ {rf : List sRf} {k : List sRf → Bool}, sKl N ro ce ix rf k = true → ∃ l, k l = true ∧ ∀ q ∈ l, q ∈ rf ∧ (Nat.beq q.1.1 ro = false ∨ sApart N q.1.2 ce = true ∨ sApart N q.2.1 ix = true) := by
  intro rf
  induction rf with
  | nil => intro k h; exact ⟨[], h, fun q hq => by cases hq⟩
  | cons w rf ih =>
    intro k h
    rcases sCh (show cond (cond (Nat.beq w.1.1 ro) (cond (sApart N w.1.2 ce) true (sApart N w.2.1 ix)) true) (sKl N ro ce ix rf (fun l => k (w :: l))) (sKl N ro ce ix rf k) = true from h) with ⟨h1, h2⟩ | ⟨-, h2⟩
    · obtain ⟨l, l1, l2⟩ := ih h2
      refine ⟨w :: l, l1, fun q hq => ?_⟩
      rcases List.mem_cons.mp hq with rfl | hq
      · refine ⟨List.mem_cons_self, ?_⟩
        rcases sCh h1 with ⟨-, h3⟩ | ⟨h3, -⟩
        · rcases sCh h3 with ⟨h4, -⟩ | ⟨-, h4⟩
          · exact Or.inr (Or.inl h4)
          · exact Or.inr (Or.inr h4)
        · exact Or.inl h3
      · exact ⟨List.mem_cons_of_mem _ (l2 q hq).1, (l2 q hq).2⟩
    · obtain ⟨l, l1, l2⟩ := ih h2
      exact ⟨l, l1, fun q hq => ⟨List.mem_cons_of_mem _ (l2 q hq).1, (l2 q hq).2⟩⟩
/-- where a fact looks -/
def fpIn (f : Nat) (xs : List Int) (c j : Nat) : Prop := ∃ q ∈ tFP f, tRO c = q.1 ∧ q.2.1 ≤ j ∧ j < q.2.2.1 ∧ (¬ q.2.2.2 = 0 → ∀ x, xs.head? = some x → (q.2.2.2 < 1000 → (j : Int) < (q.2.1 : Int) + (q.2.2.2 : Int) * x) ∧ (1000 ≤ q.2.2.2 → (q.2.1 : Int) + ((q.2.2.2 - 1000 : Nat) : Int) * x ≤ (j : Int)))
def fsOk (FS : sFS) : Prop := ∀ f xs hp hp', hOk hp → hOk hp' → (∀ c j, c < tNC → fpIn f xs c j → hv hp' c j = hv hp c j) → FS f xs hp → FS f xs hp'
/-- a write to role ro, from lo to hi, not below low, not above high, doesn't touch what the fact looks at -/
noncomputable def fSafX (N : sNm) (fs : List sLn) (st a : Nat) (low high : sLn) : Bool := match fs with
  | e :: _ => cond (Nat.blt st 1000) (sFl (sSub low (sAdk (sMul (Int.ofNat st) e) (Int.ofNat a))) (fun d => zPs (sLo N d))) (sFl (sSub high (sAdk (sMul (Int.ofNat (Nat.sub st 1000)) e) (Int.ofNat a))) (fun d => zLe (sHi N d) (Int.negSucc 0)))
  | [] => false
noncomputable def fSafe (N : sNm) (f : sFc) (ro : Nat) (lo hi : Int) (low high : sLn) : Bool := @List.rec (Nat × Nat × Nat × Nat) (fun _ => Bool) true (fun q _ ih => cond (cond (Nat.beq q.1 ro) (cond (zLe (Int.ofNat q.2.2.1) lo) true (cond (zLe (Int.add hi (Int.ofNat 1)) (Int.ofNat q.2.1)) true (cond (Nat.beq q.2.2.2 0) false (fSafX N f.2 q.2.2.2 q.2.1 low high)))) true) ih false) (tFP f.1)
theorem fSafe_ok (hN : sNOk tSg r N) {f : sFc} {ro : Nat} {lo hi : Int} {low high : sLn} {xs : List Int} (hx : sEs r f.2 xs) {l u : Int} (hl : sE r low = some l) (hu : sE r high = some u) (h : fSafe N f ro lo hi low high = true) {c j : Nat} (hro : tRO c = ro) (h1 : lo ≤ (j : Int)) (h2 : (j : Int) ≤ hi) (h3 : l ≤ (j : Int)) (h3u : (j : Int) ≤ u) : ¬ fpIn f.1 xs c j := by
  rintro ⟨q, hq, q1, q2, q3, q4⟩
  unfold fSafe at h
  generalize tFP f.1 = L at h hq
  induction L with
  | nil => cases hq
  | cons w L ih =>
    obtain ⟨h4, h5⟩ := eC_t (show cond (cond (Nat.beq w.1 ro) (cond (zLe (Int.ofNat w.2.2.1) lo) true (cond (zLe (Int.add hi (Int.ofNat 1)) (Int.ofNat w.2.1)) true (cond (Nat.beq w.2.2.2 0) false (fSafX N f.2 w.2.2.2 w.2.1 low high)))) true) (@List.rec (Nat × Nat × Nat × Nat) (fun _ => Bool) true (fun q _ ih => cond (cond (Nat.beq q.1 ro) (cond (zLe (Int.ofNat q.2.2.1) lo) true (cond (zLe (Int.add hi (Int.ofNat 1)) (Int.ofNat q.2.1)) true (cond (Nat.beq q.2.2.2 0) false (fSafX N f.2 q.2.2.2 q.2.1 low high)))) true) ih false) L) false = true from h)
    rcases List.mem_cons.mp hq with rfl | hq
    · rcases sCh h4 with ⟨-, h6⟩ | ⟨h6, -⟩
      · rcases sCh h6 with ⟨h7, -⟩ | ⟨-, h7⟩
        · have h7 : (q.2.2.1 : Int) ≤ lo := zLe_iff.mp h7
          omega
        · rcases sCh h7 with ⟨h8, -⟩ | ⟨-, h8⟩
          · have h8 : hi + 1 ≤ (q.2.1 : Int) := zLe_iff.mp h8
            omega
          · rcases sCh h8 with ⟨-, h9⟩ | ⟨h8, h9⟩
            · cases h9
            · cases hf : f.2 with
              | nil => rw [hf] at h9; cases h9
              | cons e es =>
                rw [hf] at h9 hx
                have h9 : cond (Nat.blt q.2.2.2 1000) (sFl (sSub low (sAdk (sMul (Int.ofNat q.2.2.2) e) (Int.ofNat q.2.1))) (fun d => zPs (sLo N d))) (sFl (sSub high (sAdk (sMul (Int.ofNat (Nat.sub q.2.2.2 1000)) e) (Int.ofNat q.2.1))) (fun d => zLe (sHi N d) (Int.negSucc 0))) = true := h9
                cases xs with
                | nil => exact hx.elim
                | cons x xs =>
                  obtain ⟨b3, b4⟩ := q4 (eB_f h8) x rfl
                  rcases sCh h9 with ⟨h10, h9⟩ | ⟨h10, h9⟩
                  · rw [sFl_eq] at h9
                    have hd := sSub_ok hl (sAdk_ok (c := Int.ofNat q.2.1) (sMul_ok (k := Int.ofNat q.2.2.2) hx.1))
                    have b1 : sLo N (sSub low (sAdk (sMul (Int.ofNat q.2.2.2) e) (Int.ofNat q.2.1))) ≤ l - ((q.2.2.2 : Int) * x + (q.2.1 : Int)) := sLo_ok hN hd
                    have b2 := zPs_iff.mp h9
                    have b3 := b3 (eB_l h10)
                    omega
                  · rw [sFl_eq] at h9
                    have hd := sSub_ok hu (sAdk_ok (c := Int.ofNat q.2.1) (sMul_ok (k := Int.ofNat (Nat.sub q.2.2.2 1000)) hx.1))
                    have b1 : u - (((q.2.2.2 - 1000 : Nat) : Int) * x + (q.2.1 : Int)) ≤ sHi N (sSub high (sAdk (sMul (Int.ofNat (Nat.sub q.2.2.2 1000)) e) (Int.ofNat q.2.1))) := sHi_ok hN hd
                    have b2 : sHi N (sSub high (sAdk (sMul (Int.ofNat (Nat.sub q.2.2.2 1000)) e) (Int.ofNat q.2.1))) ≤ -1 := zLe_iff.mp h9
                    have b5 : 1000 ≤ q.2.2.2 := Nat.le_of_not_lt (fun z => by rw [show Nat.blt q.2.2.2 1000 = true from Nat.ble_eq_true_of_le z] at h10; cases h10)
                    have b4 := b4 b5
                    omega
      · exact eB_f h6 (q1.symm.trans hro)
    · exact ih h5 hq
noncomputable def sKf (N : sNm) (ro : Nat) (lo hi : Int) (low : sLn) (fc : List sFc) : (List sFc → Bool) → Bool := @List.rec sFc (fun _ => (List sFc → Bool) → Bool) (fun k => k []) (fun q _ ih k => cond (fSafe N q ro lo hi low low) (ih (fun l => k (q :: l))) (ih k)) fc
theorem sKf_ok {ro : Nat} {lo hi : Int} {low : sLn} : ∀ {fc : List sFc} {k : List sFc → Bool}, sKf N ro lo hi low fc k = true → ∃ l, k l = true ∧ ∀ q ∈ l, q ∈ fc ∧ fSafe N q ro lo hi low low = true := by
  intro fc
  induction fc with
  | nil => intro k h; exact ⟨[], h, fun q hq => by cases hq⟩
  | cons w fc ih =>
    intro k h
    rcases sCh (show cond (fSafe N w ro lo hi low low) (sKf N ro lo hi low fc (fun l => k (w :: l))) (sKf N ro lo hi low fc k) = true from h) with ⟨h1, h2⟩ | ⟨-, h2⟩
    · obtain ⟨l, l1, l2⟩ := ih h2
      refine ⟨w :: l, l1, fun q hq => ?_⟩
      rcases List.mem_cons.mp hq with rfl | hq
      · exact ⟨List.mem_cons_self, h1⟩
      · exact ⟨List.mem_cons_of_mem _ (l2 q hq).1, (l2 q hq).2⟩
    · obtain ⟨l, l1, l2⟩ := ih h2
      exact ⟨l, l1, fun q hq => ⟨List.mem_cons_of_mem _ (l2 q hq).1, (l2 q hq).2⟩⟩
end CkHeap2
