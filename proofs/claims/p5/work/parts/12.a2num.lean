section CkNum
noncomputable def sSgAt (sg : sSg) (i : Nat) : Option sTp := @List.rec (Nat × Nat × sTp) (fun _ => Option sTp) none (fun q _ ih => cond (cond (Nat.ble q.1 i) (Nat.blt i q.2.1) false) (some q.2.2) ih) sg
def sElOk (TB : Nat → sSg) (r : List Int) (els : List (Nat × Nat × sLn)) : Prop := ∀ q ∈ els, ∃ (x : Int) (i : Nat) (a b : Int), r[q.1]? = some x ∧ sE r q.2.2 = some (i : Int) ∧ sSgAt (TB q.2.1) i = some (.inl (a, b)) ∧ a ≤ x ∧ x ≤ b
def sNOk (TB : Nat → sSg) (r : List Int) (N : sNm) : Prop := r.length = N.1 ∧ sIvOk r N.2.1 ∧ sCsOk r N.2.2.1 ∧ sElOk TB r N.2.2.2
variable {TB : Nat → sSg}
/-- a symbol more -/
theorem sNOk_new {r : List Int} {N : sNm} (h : sNOk TB r N) {x lo hi : Int} (h1 : lo ≤ x) (h2 : x ≤ hi) (h3 : wMn ≤ x) (h4 : x ≤ wMx) : sNOk TB (r ++ [x]) (N.1 + 1, (N.1, lo, hi) :: N.2.1, N.2.2) := by
  obtain ⟨a, b, c, d⟩ := h
  have hx : (r ++ [x])[N.1]? = some x := by rw [← a, List.getElem?_concat_length]
  refine ⟨by rw [List.length_append, a]; rfl, ⟨?_, ?_⟩, ?_, ?_⟩
  · intro y hy
    rcases List.mem_append.mp hy with hy | hy
    · exact b.1 y hy
    · rw [List.mem_singleton.mp hy]; exact ⟨h3, h4⟩
  · intro q hq
    rcases List.mem_cons.mp hq with rfl | hq
    · exact ⟨x, hx, h1, h2⟩
    · obtain ⟨y, e1, e2⟩ := b.2 q hq
      exact ⟨y, by rw [List.getElem?_append_left (List.getElem?_eq_some_iff.mp e1).1]; exact e1, e2⟩
  · intro e he
    obtain ⟨y, e1, e2⟩ := c e he
    exact ⟨y, sE_mono e1, e2⟩
  · intro q hq
    obtain ⟨y, i, a', b', e1, e2, e3⟩ := d q hq
    exact ⟨y, i, a', b', by rw [List.getElem?_append_left (List.getElem?_eq_some_iff.mp e1).1]; exact e1, sE_mono e2, e3⟩
noncomputable def sFr (N : sNm) (lo hi : Int) (k : sLn → sNm → Bool) : Bool := zF lo (fun lo => zF hi (fun hi => eF (Nat.add N.1 1) (fun n => k (sV N.1) (n, (N.1, lo, hi) :: N.2.1, N.2.2))))
theorem wz {x : Int} (h3 : zMn ≤ x) (h4 : x ≤ zMx) : wMn ≤ x ∧ x ≤ wMx := by
  have e1 : zMn = -2147483648 := rfl
  have e2 : zMx = 2147483647 := rfl
  have e3 : wMn = -9223372036854775808 := rfl
  have e4 : wMx = 9223372036854775807 := rfl
  rw [e1] at h3
  rw [e2] at h4
  rw [e3, e4]
  omega
theorem sFrW_ok {r : List Int} {N : sNm} (h : sNOk TB r N) {x lo hi : Int} {k : sLn → sNm → Bool} (h1 : lo ≤ x) (h2 : x ≤ hi) (h3 : wMn ≤ x) (h4 : x ≤ wMx) (hk : sFr N lo hi k = true) : ∃ e N', sNOk TB (r ++ [x]) N' ∧ sE (r ++ [x]) e = some x ∧ k e N' = true := by
  unfold sFr at hk
  rw [zF_eq, zF_eq, eF_eq] at hk
  exact ⟨_, _, sNOk_new h h1 h2 h3 h4, sE_V (by rw [← h.1, List.getElem?_concat_length]), hk⟩
theorem sFr_ok {r : List Int} {N : sNm} (h : sNOk TB r N) {x lo hi : Int} {k : sLn → sNm → Bool} (h1 : lo ≤ x) (h2 : x ≤ hi) (h3 : zMn ≤ x) (h4 : x ≤ zMx) (hk : sFr N lo hi k = true) : ∃ e N', sNOk TB (r ++ [x]) N' ∧ sE (r ++ [x]) e = some x ∧ k e N' = true := sFrW_ok h h1 h2 (wz h3 h4).1 (wz h3 h4).2 hk
/-- the whole part of a / b, downwards -/
noncomputable def zFl (a : Int) (b : Nat) : Int := @Int.rec (fun _ => Int) (fun n => Int.ofNat (Nat.div n b)) (fun n => Int.negSucc (Nat.div n b)) a
theorem zFl_eq (a : Int) (b : Nat) (hb : 0 < b) : zFl a b = a / (b : Int) := by
  cases a with
  | ofNat n => rfl
  | negSucc n =>
    show Int.negSucc (n / b) = Int.negSucc n / (b : Int)
    rw [Int.negSucc_ediv n (by omega)]
    rfl
/-- e at most 0: what that says of the symbol of a term -/
noncomputable def sRf1 (iv : sIv) (cs : List sLn) (e : sLn) (q : Int × Nat) (k : sIv → Bool) : Bool :=
  zF (sU1 iv cs (sNeg (sSub e (Int.ofNat 0, [q])))) (fun u => cond (zLe (Int.ofNat 1) q.1)
    (zF (zFl u (Int.toNat q.1)) (fun u => cond (zLe (sB iv q.2).2 u) (k iv) (zF (sB iv q.2).1 (fun lo => cond (zLe lo u) (k ((q.2, lo, u) :: iv)) true))))
    (cond (zLe q.1 (Int.negSucc 0)) (zF (Int.neg (zFl u (Int.toNat (Int.neg q.1)))) (fun u => cond (zLe u (sB iv q.2).1) (k iv) (zF (sB iv q.2).2 (fun hi => cond (zLe u hi) (k ((q.2, u, hi) :: iv)) true)))) (k iv)))
theorem sRf1_ok {r : List Int} {iv : sIv} {cs : List sLn} (hi : sIvOk r iv) (hc : sCsOk r cs) {e : sLn} {x : Int} (he : sE r e = some x) (hx : x ≤ 0) {q : Int × Nat} {y : Int} (hq : r[q.2]? = some y) {k : sIv → Bool} (h : sRf1 iv cs e q k = true) : ∃ iv', sIvOk r iv' ∧ k iv' = true := by
  have ht : sE r (Int.ofNat 0, [q]) = some (q.1 * y) := by
    obtain ⟨a, s⟩ := q
    refine sE_iff.mpr ⟨_, sEt_mk hq rfl, ?_⟩
    show a * y = 0 + (a * y + 0)
    omega
  have hu := sU1_ok hi (sNeg_ok (sSub_ok he ht)) hc
  have hb := sB_ok hi hq
  have push : ∀ lo hi' : Int, lo ≤ y → y ≤ hi' → sIvOk r ((q.2, lo, hi') :: iv) := fun lo hi' a b => ⟨hi.1, fun w hw => by
    rcases List.mem_cons.mp hw with rfl | hw
    · exact ⟨y, hq, a, b⟩
    · exact hi.2 w hw⟩
  unfold sRf1 at h
  rw [zF_eq] at h
  generalize sU1 iv cs (sNeg (sSub e (Int.ofNat 0, [q]))) = u at h hu
  have o1 : (Int.ofNat 1 : Int) = 1 := rfl
  have o2 : (Int.negSucc 0 : Int) = -1 := rfl
  have hu2 : q.1 * y ≤ u := by omega
  rcases sCh h with ⟨h1, h⟩ | ⟨-, h⟩
  · have h1 := zLe_iff.mp h1
    rw [zF_eq] at h
    have hn : ((Int.toNat q.1 : Nat) : Int) = q.1 := by omega
    have key : y ≤ zFl u (Int.toNat q.1) := by
      rw [zFl_eq _ _ (by omega), hn]
      exact Int.le_ediv_of_mul_le (by omega) (by rw [Int.mul_comm]; exact hu2)
    rcases sCh h with ⟨-, h⟩ | ⟨-, h⟩
    · exact ⟨iv, hi, h⟩
    · rw [zF_eq] at h
      rcases sCh h with ⟨-, h⟩ | ⟨h2, -⟩
      · exact ⟨_, push _ _ hb.1 key, h⟩
      · have := zLe_f h2
        omega
  · rcases sCh h with ⟨h1, h⟩ | ⟨-, h⟩
    · have h1 := zLe_iff.mp h1
      rw [zF_eq] at h
      have hn : ((Int.toNat (Int.neg q.1) : Nat) : Int) = -q.1 := by
        have : Int.neg q.1 = -q.1 := rfl
        rw [this]
        omega
      have key : Int.neg (zFl u (Int.toNat (Int.neg q.1))) ≤ y := by
        have e0 : Int.neg q.1 = -q.1 := rfl
        have : -y ≤ zFl u (Int.toNat (Int.neg q.1)) := by
          rw [zFl_eq _ _ (by rw [e0]; omega), hn]
          refine Int.le_ediv_of_mul_le (by omega) ?_
          rw [Int.neg_mul_neg, Int.mul_comm]
          exact hu2
        show -(zFl u (Int.toNat (Int.neg q.1))) ≤ y
        omega
      rcases sCh h with ⟨-, h⟩ | ⟨-, h⟩
      · exact ⟨iv, hi, h⟩
      · rw [zF_eq] at h
        rcases sCh h with ⟨-, h⟩ | ⟨h2, -⟩
        · exact ⟨_, push _ _ key hb.2, h⟩
        · have := zLe_f h2
          omega
    · exact ⟨iv, hi, h⟩
noncomputable def sRfs (cs : List sLn) (e : sLn) (ts : List (Int × Nat)) : sIv → (sIv → Bool) → Bool := @List.rec (Int × Nat) (fun _ => sIv → (sIv → Bool) → Bool) (fun iv k => k iv) (fun q _ ih iv k => sRf1 iv cs e q (fun iv => ih iv k)) ts
theorem sRfs_ok {r : List Int} {cs : List sLn} (hc : sCsOk r cs) {e : sLn} {x : Int} (he : sE r e = some x) (hx : x ≤ 0) : ∀ {ts : List (Int × Nat)} {iv : sIv} {k : sIv → Bool}, (∀ q ∈ ts, ∃ y, r[q.2]? = some y) → sIvOk r iv → sRfs cs e ts iv k = true → ∃ iv', sIvOk r iv' ∧ k iv' = true := by
  intro ts
  induction ts with
  | nil => intro iv k _ hi h; exact ⟨iv, hi, h⟩
  | cons q ts ih =>
    intro iv k hq hi h
    obtain ⟨y, hy⟩ := hq q List.mem_cons_self
    obtain ⟨iv', h1, h2⟩ := sRf1_ok hi hc he hx hy (show sRf1 iv cs e q (fun iv => sRfs cs e ts iv k) = true from h)
    exact ih (fun w hw => hq w (List.mem_cons_of_mem _ hw)) h1 h2
theorem sEt_syms {r : List Int} : ∀ {ts : List (Int × Nat)} {z : Int}, sEt r ts = some z → ∀ q ∈ ts, ∃ y, r[q.2]? = some y := by
  intro ts
  induction ts with
  | nil => intro z _ q hq; cases hq
  | cons w ts ih =>
    intro z h q hq
    obtain ⟨a, s⟩ := w
    obtain ⟨x, y, h1, h2, -⟩ := sEt_cons h
    rcases List.mem_cons.mp hq with rfl | hq
    · exact ⟨x, h1⟩
    · exact ih h2 q hq
noncomputable def sMany (ts : List (Int × Nat)) : Bool := @List.rec (Int × Nat) (fun _ => Bool) false (fun _ r _ => @List.rec (Int × Nat) (fun _ => Bool) false (fun _ _ _ => true) r) ts
/-- e at most 0 from here on; it can't be: nothing is to be shown -/
noncomputable def sAs (N : sNm) (e : sLn) (k : sNm → Bool) : Bool :=
  cond (sLe N.2.1 N.2.2.1 1 (sAdk (sNeg e) (Int.ofNat 1))) true (cond (zN (sU0 N.2.1 e)) (k N) (sRfs N.2.2.1 e e.2 N.2.1 (fun iv => cond (sMany e.2) (sFl e (fun e => k (N.1, iv, e :: N.2.2.1, N.2.2.2))) (k (N.1, iv, N.2.2)))))
theorem sAs_ok {r : List Int} {N : sNm} (hN : sNOk TB r N) {e : sLn} {x : Int} (he : sE r e = some x) (hx : x ≤ 0) {k : sNm → Bool} (h : sAs N e k = true) : ∃ N', sNOk TB r N' ∧ k N' = true := by
  obtain ⟨a, b, c, d⟩ := hN
  unfold sAs at h
  rcases sCh h with ⟨h1, -⟩ | ⟨-, h⟩
  · have := sLe_ok b c h1 (sAdk_ok (c := Int.ofNat 1) (sNeg_ok he))
    have e1 : (Int.ofNat 1 : Int) = 1 := rfl
    omega
  · rcases sCh h with ⟨-, h⟩ | ⟨-, h⟩
    · exact ⟨N, ⟨a, b, c, d⟩, h⟩
    · obtain ⟨y, hy, -⟩ := sE_iff.mp he
      obtain ⟨iv', h1, h2⟩ := sRfs_ok c he hx (sEt_syms hy) b h
      rcases sCh h2 with ⟨-, h2⟩ | ⟨-, h2⟩
      · rw [sFl_eq] at h2
        exact ⟨(N.1, iv', e :: N.2.2.1, N.2.2.2), ⟨a, h1, fun w hw => by
          rcases List.mem_cons.mp hw with rfl | hw
          · exact ⟨x, he, hx⟩
          · exact c w hw, d⟩, h2⟩
      · exact ⟨(N.1, iv', N.2.2), ⟨a, h1, c, d⟩, h2⟩
/-- a at most b -/
noncomputable def sAsLe (N : sNm) (a b : sLn) (k : sNm → Bool) : Bool := sFl (sSub a b) (fun e => sAs N e k)
theorem sAsLe_ok {r : List Int} {N : sNm} (hN : sNOk TB r N) {a b : sLn} {x y : Int} (ha : sE r a = some x) (hb : sE r b = some y) (hxy : x ≤ y) {k : sNm → Bool} (h : sAsLe N a b k = true) : ∃ N', sNOk TB r N' ∧ k N' = true := by
  unfold sAsLe at h
  rw [sFl_eq] at h
  exact sAs_ok hN (sSub_ok ha hb) (by omega) h
noncomputable def sAsEq (N : sNm) (a b : sLn) (k : sNm → Bool) : Bool := sAsLe N a b (fun N => sAsLe N b a k)
theorem sAsEq_ok {r : List Int} {N : sNm} (hN : sNOk TB r N) {a b : sLn} {x : Int} (ha : sE r a = some x) (hb : sE r b = some x) {k : sNm → Bool} (h : sAsEq N a b k = true) : ∃ N', sNOk TB r N' ∧ k N' = true := by
  obtain ⟨N1, h1, h2⟩ := sAsLe_ok hN ha hb (Int.le_refl x) h
  exact sAsLe_ok h1 hb ha (Int.le_refl x) h2
/-- a and b differ -/
noncomputable def sAsNe (N : sNm) (a b : sLn) (k : sNm → Bool) : Bool := sFl (sSub a b) (fun d =>
  cond (sLe N.2.1 N.2.2.1 1 d) (sAs N (sAdk d (Int.ofNat 1)) k) (cond (sLe N.2.1 N.2.2.1 1 (sNeg d)) (sAs N (sAdk (sNeg d) (Int.ofNat 1)) k) (k N)))
theorem sAsNe_ok {r : List Int} {N : sNm} (hN : sNOk TB r N) {a b : sLn} {x y : Int} (ha : sE r a = some x) (hb : sE r b = some y) (hxy : x ≠ y) {k : sNm → Bool} (h : sAsNe N a b k = true) : ∃ N', sNOk TB r N' ∧ k N' = true := by
  have hd := sSub_ok ha hb
  have e1 : (Int.ofNat 1 : Int) = 1 := rfl
  unfold sAsNe at h
  rw [sFl_eq] at h
  rcases sCh h with ⟨h1, h⟩ | ⟨-, h⟩
  · have := sLe_ok hN.2.1 hN.2.2.1 h1 hd
    exact sAs_ok hN (sAdk_ok (c := Int.ofNat 1) hd) (by omega) h
  · rcases sCh h with ⟨h1, h⟩ | ⟨-, h⟩
    · have := sLe_ok hN.2.1 hN.2.2.1 h1 (sNeg_ok hd)
      exact sAs_ok hN (sAdk_ok (c := Int.ofNat 1) (sNeg_ok hd)) (by omega) h
    · exact ⟨N, hN, h⟩
/-- a comparison: both ways -/
noncomputable def sBr (o : ClassFile.Cond) (N : sNm) (a b : sLn) (kt kf : sNm → Bool) : Bool := match o with
  | .eq => cond (sAsEq N a b kt) (sAsNe N a b kf) false
  | .ne => cond (sAsNe N a b kt) (sAsEq N a b kf) false
  | .lt => cond (sAsLe N (sAdk a (Int.ofNat 1)) b kt) (sAsLe N b a kf) false
  | .ge => cond (sAsLe N b a kt) (sAsLe N (sAdk a (Int.ofNat 1)) b kf) false
  | .gt => cond (sAsLe N (sAdk b (Int.ofNat 1)) a kt) (sAsLe N a b kf) false
  | .le => cond (sAsLe N a b kt) (sAsLe N (sAdk b (Int.ofNat 1)) a kf) false
def sHolds (o : ClassFile.Cond) (x y : Int) : Prop := match o with
  | .eq => x = y
  | .ne => x ≠ y
  | .lt => x < y
  | .ge => y ≤ x
  | .gt => y < x
  | .le => x ≤ y
theorem sBr_ok {o : ClassFile.Cond} {r : List Int} {N : sNm} (hN : sNOk TB r N) {a b : sLn} {x y : Int} (ha : sE r a = some x) (hb : sE r b = some y) {kt kf : sNm → Bool} (h : sBr o N a b kt kf = true) :
    (sHolds o x y → ∃ N', sNOk TB r N' ∧ kt N' = true) ∧ (¬ sHolds o x y → ∃ N', sNOk TB r N' ∧ kf N' = true) := by
  have e1 : (Int.ofNat 1 : Int) = 1 := rfl
  have ha1 := sAdk_ok (c := Int.ofNat 1) ha
  have hb1 := sAdk_ok (c := Int.ofNat 1) hb
  cases o
  all_goals
    obtain ⟨h1, h2⟩ := eC_t h
    refine ⟨fun q => ?_, fun q => ?_⟩
  all_goals simp only [sHolds] at q
  · exact sAsEq_ok hN ha (by rw [q]; exact hb) h1
  · exact sAsNe_ok hN ha hb q h2
  · exact sAsNe_ok hN ha hb q h1
  · exact sAsEq_ok hN ha (by rw [Classical.not_not.mp q]; exact hb) h2
  · exact sAsLe_ok hN ha1 hb (by omega) h1
  · exact sAsLe_ok hN hb ha (by omega) h2
  · exact sAsLe_ok hN hb ha q h1
  · exact sAsLe_ok hN ha1 hb (by omega) h2
  · exact sAsLe_ok hN hb1 ha (by omega) h1
  · exact sAsLe_ok hN ha hb (by omega) h2
  · exact sAsLe_ok hN ha hb q h1
  · exact sAsLe_ok hN hb1 ha (by omega) h2
/-- bounds -/
noncomputable def sHi (N : sNm) (e : sLn) : Int := sU1 N.2.1 N.2.2.1 e
noncomputable def sLo (N : sNm) (e : sLn) : Int := Int.neg (sU1 N.2.1 N.2.2.1 (sNeg e))
theorem sHi_ok {r : List Int} {N : sNm} (hN : sNOk TB r N) {e : sLn} {x : Int} (he : sE r e = some x) : x ≤ sHi N e := sU1_ok hN.2.1 he hN.2.2.1
theorem sLo_ok {r : List Int} {N : sNm} (hN : sNOk TB r N) {e : sLn} {x : Int} (he : sE r e = some x) : sLo N e ≤ x := by
  have := sU1_ok hN.2.1 (sNeg_ok he) hN.2.2.1
  show -(sU1 N.2.1 N.2.2.1 (sNeg e)) ≤ x
  omega
/-- within int's bounds -/
noncomputable def sIn (N : sNm) (e : sLn) (lo hi : Int) : Bool := cond (zLe lo (sLo N e)) (zLe (sHi N e) hi) false
theorem sIn_ok {r : List Int} {N : sNm} (hN : sNOk TB r N) {e : sLn} {x lo hi : Int} (he : sE r e = some x) (h : sIn N e lo hi = true) : lo ≤ x ∧ x ≤ hi := by
  obtain ⟨h1, h2⟩ := eC_t h
  exact ⟨Int.le_trans (zLe_iff.mp h1) (sLo_ok hN he), Int.le_trans (sHi_ok hN he) (zLe_iff.mp h2)⟩
end CkNum
