section CkFact4
variable {r : List Int} {hp : Lean.RArray Nat} {n n' t t' : Int}
theorem len0 (h : r.length = 0) : r = [] := List.eq_nil_of_length_eq_zero h
theorem lenS {k : Nat} (h : r.length = k + 1) : ∃ a r', r = a :: r' ∧ r'.length = k := by
  cases r with
  | nil => cases h
  | cons a r' => exact ⟨a, r', rfl, Nat.succ.inj h⟩
theorem len1 (h : r.length = 1) : ∃ a, r = [a] := by
  obtain ⟨a, r', rfl, g⟩ := lenS h
  exact ⟨a, by rw [len0 g]⟩
theorem len2 (h : r.length = 2) : ∃ a0 a1, r = [a0, a1] := by
  obtain ⟨a0, r', rfl, g⟩ := lenS h
  obtain ⟨a1, rfl⟩ := len1 g
  exact ⟨a0, a1, rfl⟩
theorem len3 (h : r.length = 3) : ∃ a0 a1 a2, r = [a0, a1, a2] := by
  obtain ⟨a0, r', rfl, g⟩ := lenS h
  obtain ⟨a1, a2, rfl⟩ := len2 g
  exact ⟨a0, a1, a2, rfl⟩
theorem len4 (h : r.length = 4) : ∃ a0 a1 a2 a3, r = [a0, a1, a2, a3] := by
  obtain ⟨a0, r', rfl, g⟩ := lenS h
  obtain ⟨a1, a2, a3, rfl⟩ := len3 g
  exact ⟨a0, a1, a2, a3, rfl⟩
theorem len5 (h : r.length = 5) : ∃ a0 a1 a2 a3 a4, r = [a0, a1, a2, a3, a4] := by
  obtain ⟨a0, r', rfl, g⟩ := lenS h
  obtain ⟨a1, a2, a3, a4, rfl⟩ := len4 g
  exact ⟨a0, a1, a2, a3, a4, rfl⟩
theorem len6 (h : r.length = 6) : ∃ a0 a1 a2 a3 a4 a5, r = [a0, a1, a2, a3, a4, a5] := by
  obtain ⟨a0, r', rfl, g⟩ := lenS h
  obtain ⟨a1, a2, a3, a4, a5, rfl⟩ := len5 g
  exact ⟨a0, a1, a2, a3, a4, a5, rfl⟩
theorem len7 (h : r.length = 7) : ∃ a0 a1 a2 a3 a4 a5 a6, r = [a0, a1, a2, a3, a4, a5, a6] := by
  obtain ⟨a0, r', rfl, g⟩ := lenS h
  obtain ⟨a1, a2, a3, a4, a5, a6, rfl⟩ := len6 g
  exact ⟨a0, a1, a2, a3, a4, a5, a6, rfl⟩
theorem len8 (h : r.length = 8) : ∃ a0 a1 a2 a3 a4 a5 a6 a7, r = [a0, a1, a2, a3, a4, a5, a6, a7] := by
  obtain ⟨a0, r', rfl, g⟩ := lenS h
  obtain ⟨a1, a2, a3, a4, a5, a6, a7, rfl⟩ := len7 g
  exact ⟨a0, a1, a2, a3, a4, a5, a6, a7, rfl⟩
theorem len9 (h : r.length = 9) : ∃ a0 a1 a2 a3 a4 a5 a6 a7 a8, r = [a0, a1, a2, a3, a4, a5, a6, a7, a8] := by
  obtain ⟨a0, r', rfl, g⟩ := lenS h
  obtain ⟨a1, a2, a3, a4, a5, a6, a7, a8, rfl⟩ := len8 g
  exact ⟨a0, a1, a2, a3, a4, a5, a6, a7, a8, rfl⟩
theorem len10 (h : r.length = 10) : ∃ a0 a1 a2 a3 a4 a5 a6 a7 a8 a9, r = [a0, a1, a2, a3, a4, a5, a6, a7, a8, a9] := by
  obtain ⟨a0, r', rfl, g⟩ := lenS h
  obtain ⟨a1, a2, a3, a4, a5, a6, a7, a8, a9, rfl⟩ := len9 g
  exact ⟨a0, a1, a2, a3, a4, a5, a6, a7, a8, a9, rfl⟩
theorem len11 (h : r.length = 11) : ∃ a0 a1 a2 a3 a4 a5 a6 a7 a8 a9 a10, r = [a0, a1, a2, a3, a4, a5, a6, a7, a8, a9, a10] := by
  obtain ⟨a0, r', rfl, g⟩ := lenS h
  obtain ⟨a1, a2, a3, a4, a5, a6, a7, a8, a9, a10, rfl⟩ := len10 g
  exact ⟨a0, a1, a2, a3, a4, a5, a6, a7, a8, a9, a10, rfl⟩
theorem len12 (h : r.length = 12) : ∃ a0 a1 a2 a3 a4 a5 a6 a7 a8 a9 a10 a11, r = [a0, a1, a2, a3, a4, a5, a6, a7, a8, a9, a10, a11] := by
  obtain ⟨a0, r', rfl, g⟩ := lenS h
  obtain ⟨a1, a2, a3, a4, a5, a6, a7, a8, a9, a10, a11, rfl⟩ := len11 g
  exact ⟨a0, a1, a2, a3, a4, a5, a6, a7, a8, a9, a10, a11, rfl⟩
theorem len13 (h : r.length = 13) : ∃ a0 a1 a2 a3 a4 a5 a6 a7 a8 a9 a10 a11 a12, r = [a0, a1, a2, a3, a4, a5, a6, a7, a8, a9, a10, a11, a12] := by
  obtain ⟨a0, r', rfl, g⟩ := lenS h
  obtain ⟨a1, a2, a3, a4, a5, a6, a7, a8, a9, a10, a11, a12, rfl⟩ := len12 g
  exact ⟨a0, a1, a2, a3, a4, a5, a6, a7, a8, a9, a10, a11, a12, rfl⟩
theorem len14 (h : r.length = 14) : ∃ a0 a1 a2 a3 a4 a5 a6 a7 a8 a9 a10 a11 a12 a13, r = [a0, a1, a2, a3, a4, a5, a6, a7, a8, a9, a10, a11, a12, a13] := by
  obtain ⟨a0, r', rfl, g⟩ := lenS h
  obtain ⟨a1, a2, a3, a4, a5, a6, a7, a8, a9, a10, a11, a12, a13, rfl⟩ := len13 g
  exact ⟨a0, a1, a2, a3, a4, a5, a6, a7, a8, a9, a10, a11, a12, a13, rfl⟩
theorem len15 (h : r.length = 15) : ∃ a0 a1 a2 a3 a4 a5 a6 a7 a8 a9 a10 a11 a12 a13 a14, r = [a0, a1, a2, a3, a4, a5, a6, a7, a8, a9, a10, a11, a12, a13, a14] := by
  obtain ⟨a0, r', rfl, g⟩ := lenS h
  obtain ⟨a1, a2, a3, a4, a5, a6, a7, a8, a9, a10, a11, a12, a13, a14, rfl⟩ := len14 g
  exact ⟨a0, a1, a2, a3, a4, a5, a6, a7, a8, a9, a10, a11, a12, a13, a14, rfl⟩
theorem len16 (h : r.length = 16) : ∃ a0 a1 a2 a3 a4 a5 a6 a7 a8 a9 a10 a11 a12 a13 a14 a15, r = [a0, a1, a2, a3, a4, a5, a6, a7, a8, a9, a10, a11, a12, a13, a14, a15] := by
  obtain ⟨a0, r', rfl, g⟩ := lenS h
  obtain ⟨a1, a2, a3, a4, a5, a6, a7, a8, a9, a10, a11, a12, a13, a14, a15, rfl⟩ := len15 g
  exact ⟨a0, a1, a2, a3, a4, a5, a6, a7, a8, a9, a10, a11, a12, a13, a14, a15, rfl⟩
theorem len17 (h : r.length = 17) : ∃ a0 a1 a2 a3 a4 a5 a6 a7 a8 a9 a10 a11 a12 a13 a14 a15 a16, r = [a0, a1, a2, a3, a4, a5, a6, a7, a8, a9, a10, a11, a12, a13, a14, a15, a16] := by
  obtain ⟨a0, r', rfl, g⟩ := lenS h
  obtain ⟨a1, a2, a3, a4, a5, a6, a7, a8, a9, a10, a11, a12, a13, a14, a15, a16, rfl⟩ := len16 g
  exact ⟨a0, a1, a2, a3, a4, a5, a6, a7, a8, a9, a10, a11, a12, a13, a14, a15, a16, rfl⟩
theorem len18 (h : r.length = 18) : ∃ a0 a1 a2 a3 a4 a5 a6 a7 a8 a9 a10 a11 a12 a13 a14 a15 a16 a17, r = [a0, a1, a2, a3, a4, a5, a6, a7, a8, a9, a10, a11, a12, a13, a14, a15, a16, a17] := by
  obtain ⟨a0, r', rfl, g⟩ := lenS h
  obtain ⟨a1, a2, a3, a4, a5, a6, a7, a8, a9, a10, a11, a12, a13, a14, a15, a16, a17, rfl⟩ := len17 g
  exact ⟨a0, a1, a2, a3, a4, a5, a6, a7, a8, a9, a10, a11, a12, a13, a14, a15, a16, a17, rfl⟩
theorem len19 (h : r.length = 19) : ∃ a0 a1 a2 a3 a4 a5 a6 a7 a8 a9 a10 a11 a12 a13 a14 a15 a16 a17 a18, r = [a0, a1, a2, a3, a4, a5, a6, a7, a8, a9, a10, a11, a12, a13, a14, a15, a16, a17, a18] := by
  obtain ⟨a0, r', rfl, g⟩ := lenS h
  obtain ⟨a1, a2, a3, a4, a5, a6, a7, a8, a9, a10, a11, a12, a13, a14, a15, a16, a17, a18, rfl⟩ := len18 g
  exact ⟨a0, a1, a2, a3, a4, a5, a6, a7, a8, a9, a10, a11, a12, a13, a14, a15, a16, a17, a18, rfl⟩
theorem len20 (h : r.length = 20) : ∃ a0 a1 a2 a3 a4 a5 a6 a7 a8 a9 a10 a11 a12 a13 a14 a15 a16 a17 a18 a19, r = [a0, a1, a2, a3, a4, a5, a6, a7, a8, a9, a10, a11, a12, a13, a14, a15, a16, a17, a18, a19] := by
  obtain ⟨a0, r', rfl, g⟩ := lenS h
  obtain ⟨a1, a2, a3, a4, a5, a6, a7, a8, a9, a10, a11, a12, a13, a14, a15, a16, a17, a18, a19, rfl⟩ := len19 g
  exact ⟨a0, a1, a2, a3, a4, a5, a6, a7, a8, a9, a10, a11, a12, a13, a14, a15, a16, a17, a18, a19, rfl⟩
theorem len21 (h : r.length = 21) : ∃ a0 a1 a2 a3 a4 a5 a6 a7 a8 a9 a10 a11 a12 a13 a14 a15 a16 a17 a18 a19 a20, r = [a0, a1, a2, a3, a4, a5, a6, a7, a8, a9, a10, a11, a12, a13, a14, a15, a16, a17, a18, a19, a20] := by
  obtain ⟨a0, r', rfl, g⟩ := lenS h
  obtain ⟨a1, a2, a3, a4, a5, a6, a7, a8, a9, a10, a11, a12, a13, a14, a15, a16, a17, a18, a19, a20, rfl⟩ := len20 g
  exact ⟨a0, a1, a2, a3, a4, a5, a6, a7, a8, a9, a10, a11, a12, a13, a14, a15, a16, a17, a18, a19, a20, rfl⟩
theorem len22 (h : r.length = 22) : ∃ a0 a1 a2 a3 a4 a5 a6 a7 a8 a9 a10 a11 a12 a13 a14 a15 a16 a17 a18 a19 a20 a21, r = [a0, a1, a2, a3, a4, a5, a6, a7, a8, a9, a10, a11, a12, a13, a14, a15, a16, a17, a18, a19, a20, a21] := by
  obtain ⟨a0, r', rfl, g⟩ := lenS h
  obtain ⟨a1, a2, a3, a4, a5, a6, a7, a8, a9, a10, a11, a12, a13, a14, a15, a16, a17, a18, a19, a20, a21, rfl⟩ := len21 g
  exact ⟨a0, a1, a2, a3, a4, a5, a6, a7, a8, a9, a10, a11, a12, a13, a14, a15, a16, a17, a18, a19, a20, a21, rfl⟩
theorem len23 (h : r.length = 23) : ∃ a0 a1 a2 a3 a4 a5 a6 a7 a8 a9 a10 a11 a12 a13 a14 a15 a16 a17 a18 a19 a20 a21 a22, r = [a0, a1, a2, a3, a4, a5, a6, a7, a8, a9, a10, a11, a12, a13, a14, a15, a16, a17, a18, a19, a20, a21, a22] := by
  obtain ⟨a0, r', rfl, g⟩ := lenS h
  obtain ⟨a1, a2, a3, a4, a5, a6, a7, a8, a9, a10, a11, a12, a13, a14, a15, a16, a17, a18, a19, a20, a21, a22, rfl⟩ := len22 g
  exact ⟨a0, a1, a2, a3, a4, a5, a6, a7, a8, a9, a10, a11, a12, a13, a14, a15, a16, a17, a18, a19, a20, a21, a22, rfl⟩
theorem len24 (h : r.length = 24) : ∃ a0 a1 a2 a3 a4 a5 a6 a7 a8 a9 a10 a11 a12 a13 a14 a15 a16 a17 a18 a19 a20 a21 a22 a23, r = [a0, a1, a2, a3, a4, a5, a6, a7, a8, a9, a10, a11, a12, a13, a14, a15, a16, a17, a18, a19, a20, a21, a22, a23] := by
  obtain ⟨a0, r', rfl, g⟩ := lenS h
  obtain ⟨a1, a2, a3, a4, a5, a6, a7, a8, a9, a10, a11, a12, a13, a14, a15, a16, a17, a18, a19, a20, a21, a22, a23, rfl⟩ := len23 g
  exact ⟨a0, a1, a2, a3, a4, a5, a6, a7, a8, a9, a10, a11, a12, a13, a14, a15, a16, a17, a18, a19, a20, a21, a22, a23, rfl⟩
theorem len25 (h : r.length = 25) : ∃ a0 a1 a2 a3 a4 a5 a6 a7 a8 a9 a10 a11 a12 a13 a14 a15 a16 a17 a18 a19 a20 a21 a22 a23 a24, r = [a0, a1, a2, a3, a4, a5, a6, a7, a8, a9, a10, a11, a12, a13, a14, a15, a16, a17, a18, a19, a20, a21, a22, a23, a24] := by
  obtain ⟨a0, r', rfl, g⟩ := lenS h
  obtain ⟨a1, a2, a3, a4, a5, a6, a7, a8, a9, a10, a11, a12, a13, a14, a15, a16, a17, a18, a19, a20, a21, a22, a23, a24, rfl⟩ := len24 g
  exact ⟨a0, a1, a2, a3, a4, a5, a6, a7, a8, a9, a10, a11, a12, a13, a14, a15, a16, a17, a18, a19, a20, a21, a22, a23, a24, rfl⟩
theorem len26 (h : r.length = 26) : ∃ a0 a1 a2 a3 a4 a5 a6 a7 a8 a9 a10 a11 a12 a13 a14 a15 a16 a17 a18 a19 a20 a21 a22 a23 a24 a25, r = [a0, a1, a2, a3, a4, a5, a6, a7, a8, a9, a10, a11, a12, a13, a14, a15, a16, a17, a18, a19, a20, a21, a22, a23, a24, a25] := by
  obtain ⟨a0, r', rfl, g⟩ := lenS h
  obtain ⟨a1, a2, a3, a4, a5, a6, a7, a8, a9, a10, a11, a12, a13, a14, a15, a16, a17, a18, a19, a20, a21, a22, a23, a24, a25, rfl⟩ := len25 g
  exact ⟨a0, a1, a2, a3, a4, a5, a6, a7, a8, a9, a10, a11, a12, a13, a14, a15, a16, a17, a18, a19, a20, a21, a22, a23, a24, a25, rfl⟩
theorem len27 (h : r.length = 27) : ∃ a0 a1 a2 a3 a4 a5 a6 a7 a8 a9 a10 a11 a12 a13 a14 a15 a16 a17 a18 a19 a20 a21 a22 a23 a24 a25 a26, r = [a0, a1, a2, a3, a4, a5, a6, a7, a8, a9, a10, a11, a12, a13, a14, a15, a16, a17, a18, a19, a20, a21, a22, a23, a24, a25, a26] := by
  obtain ⟨a0, r', rfl, g⟩ := lenS h
  obtain ⟨a1, a2, a3, a4, a5, a6, a7, a8, a9, a10, a11, a12, a13, a14, a15, a16, a17, a18, a19, a20, a21, a22, a23, a24, a25, a26, rfl⟩ := len26 g
  exact ⟨a0, a1, a2, a3, a4, a5, a6, a7, a8, a9, a10, a11, a12, a13, a14, a15, a16, a17, a18, a19, a20, a21, a22, a23, a24, a25, a26, rfl⟩
theorem len28 (h : r.length = 28) : ∃ a0 a1 a2 a3 a4 a5 a6 a7 a8 a9 a10 a11 a12 a13 a14 a15 a16 a17 a18 a19 a20 a21 a22 a23 a24 a25 a26 a27, r = [a0, a1, a2, a3, a4, a5, a6, a7, a8, a9, a10, a11, a12, a13, a14, a15, a16, a17, a18, a19, a20, a21, a22, a23, a24, a25, a26, a27] := by
  obtain ⟨a0, r', rfl, g⟩ := lenS h
  obtain ⟨a1, a2, a3, a4, a5, a6, a7, a8, a9, a10, a11, a12, a13, a14, a15, a16, a17, a18, a19, a20, a21, a22, a23, a24, a25, a26, a27, rfl⟩ := len27 g
  exact ⟨a0, a1, a2, a3, a4, a5, a6, a7, a8, a9, a10, a11, a12, a13, a14, a15, a16, a17, a18, a19, a20, a21, a22, a23, a24, a25, a26, a27, rfl⟩
theorem len29 (h : r.length = 29) : ∃ a0 a1 a2 a3 a4 a5 a6 a7 a8 a9 a10 a11 a12 a13 a14 a15 a16 a17 a18 a19 a20 a21 a22 a23 a24 a25 a26 a27 a28, r = [a0, a1, a2, a3, a4, a5, a6, a7, a8, a9, a10, a11, a12, a13, a14, a15, a16, a17, a18, a19, a20, a21, a22, a23, a24, a25, a26, a27, a28] := by
  obtain ⟨a0, r', rfl, g⟩ := lenS h
  obtain ⟨a1, a2, a3, a4, a5, a6, a7, a8, a9, a10, a11, a12, a13, a14, a15, a16, a17, a18, a19, a20, a21, a22, a23, a24, a25, a26, a27, a28, rfl⟩ := len28 g
  exact ⟨a0, a1, a2, a3, a4, a5, a6, a7, a8, a9, a10, a11, a12, a13, a14, a15, a16, a17, a18, a19, a20, a21, a22, a23, a24, a25, a26, a27, a28, rfl⟩
theorem len30 (h : r.length = 30) : ∃ a0 a1 a2 a3 a4 a5 a6 a7 a8 a9 a10 a11 a12 a13 a14 a15 a16 a17 a18 a19 a20 a21 a22 a23 a24 a25 a26 a27 a28 a29, r = [a0, a1, a2, a3, a4, a5, a6, a7, a8, a9, a10, a11, a12, a13, a14, a15, a16, a17, a18, a19, a20, a21, a22, a23, a24, a25, a26, a27, a28, a29] := by
  obtain ⟨a0, r', rfl, g⟩ := lenS h
  obtain ⟨a1, a2, a3, a4, a5, a6, a7, a8, a9, a10, a11, a12, a13, a14, a15, a16, a17, a18, a19, a20, a21, a22, a23, a24, a25, a26, a27, a28, a29, rfl⟩ := len29 g
  exact ⟨a0, a1, a2, a3, a4, a5, a6, a7, a8, a9, a10, a11, a12, a13, a14, a15, a16, a17, a18, a19, a20, a21, a22, a23, a24, a25, a26, a27, a28, a29, rfl⟩
theorem ivX {q : Nat × Int × Int} {y : Int} (h : ∃ x, r[q.1]? = some x ∧ q.2.1 ≤ x ∧ x ≤ q.2.2) (e : r[q.1]? = some y) : q.2.1 ≤ y ∧ y ≤ q.2.2 := by
  obtain ⟨x, h1, h2⟩ := h
  rw [e] at h1
  cases h1
  exact h2
theorem csX {c : sLn} {y : Int} (h : ∃ x, sE r c = some x ∧ x ≤ 0) (e : sE r c = some y) : y ≤ 0 := by
  obtain ⟨x, h1, h2⟩ := h
  rw [e] at h1
  cases h1
  exact h2
theorem sEv {e : sLn} {y y' : Int} (h : sE r e = some y') (e2 : y = y') : sE r e = some y := by rw [e2]; exact h
theorem rfI {ro c0 : Nat} {ce ix e : sLn} {iv xv : Int} (h : rfOk r hp ((ro, ce), ix, (1, e))) (e1 : sE r ce = some (c0 : Int)) (e2 : sE r ix = some iv) (e3 : sE r e = some xv) : ∃ i : Nat, iv = (i : Int) ∧ i < tLe ro ∧ hI hp c0 i = xv := by
  obtain ⟨c, i, a1, a2, a3, a4, a5, a6⟩ := h
  obtain ⟨x, x1, x2, x3, x4⟩ := a6.2.1 rfl
  have q1 : (c0 : Int) = (c : Int) := Option.some.inj (e1.symm.trans a1)
  have q1 : c0 = c := by omega
  have q2 : iv = (i : Int) := Option.some.inj (e2.symm.trans a4)
  have q3 : xv = x := Option.some.inj (e3.symm.trans x1)
  exact ⟨i, q2, a5, by rw [q1, q3]; exact hI_eq x2 x3 x4⟩
theorem rfI0 {ro c0 i0 : Nat} {ce ix e : sLn} {xv : Int} (h : rfOk r hp ((ro, ce), ix, (1, e))) (e1 : sE r ce = some (c0 : Int)) (e2 : sE r ix = some (i0 : Int)) (e3 : sE r e = some xv) : hI hp c0 i0 = xv := by
  obtain ⟨i, q1, q2, q3⟩ := rfI h e1 e2 e3
  have : i0 = i := by omega
  rw [this]
  exact q3
theorem rfL {ro c0 : Nat} {ce ix e : sLn} {iv xv : Int} (h : rfOk r hp ((ro, ce), ix, (5, e))) (e1 : sE r ce = some (c0 : Int)) (e2 : sE r ix = some iv) (e3 : sE r e = some xv) : ∃ i : Nat, iv = (i : Int) ∧ i < tLe ro ∧ hL hp c0 i = xv := by
  obtain ⟨c, i, a1, a2, a3, a4, a5, a6⟩ := h
  obtain ⟨x, x1, x2, x3, x4⟩ := vOk_L a6 rfl
  have q1 : (c0 : Int) = (c : Int) := Option.some.inj (e1.symm.trans a1)
  have q1 : c0 = c := by omega
  have q2 : iv = (i : Int) := Option.some.inj (e2.symm.trans a4)
  have q3 : xv = x := Option.some.inj (e3.symm.trans x1)
  exact ⟨i, q2, a5, by rw [q1, q3]; exact hL_eq x2 x3 x4⟩
theorem rfL0 {ro c0 i0 : Nat} {ce ix e : sLn} {xv : Int} (h : rfOk r hp ((ro, ce), ix, (5, e))) (e1 : sE r ce = some (c0 : Int)) (e2 : sE r ix = some (i0 : Int)) (e3 : sE r e = some xv) : hL hp c0 i0 = xv := by
  obtain ⟨i, q1, q2, q3⟩ := rfL h e1 e2 e3
  have : i0 = i := by omega
  rw [this]
  exact q3
theorem rfR0 {ro c0 i0 t : Nat} {ce ix e : sLn} {xv : Int} (h : rfOk r hp ((ro, ce), ix, (t + 16, e))) (e1 : sE r ce = some (c0 : Int)) (e2 : sE r ix = some (i0 : Int)) (e3 : sE r e = some xv) : xv = ((hC hp c0 i0 : Nat) : Int) := by
  obtain ⟨c, i, a1, a2, a3, a4, a5, a6⟩ := h
  obtain ⟨d, d1, d2, d3, d4⟩ := a6.2.2.2.2.2.1 (Nat.le_add_left 16 t)
  have q1 : (c0 : Int) = (c : Int) := Option.some.inj (e1.symm.trans a1)
  have q1 : c0 = c := by omega
  have q2 : (i0 : Int) = (i : Int) := Option.some.inj (e2.symm.trans a4)
  have q2 : i0 = i := by omega
  have q3 : xv = (d : Int) := Option.some.inj (e3.symm.trans d1)
  rw [q1, q2, hC_eq d4, q3]
theorem sEs_inj {es : List sLn} : ∀ {xs ys : List Int}, sEs r es xs → sEs r es ys → xs = ys := by
  induction es with
  | nil =>
    intro xs ys h1 h2
    cases xs with
    | nil => cases ys with
      | nil => rfl
      | cons y ys => exact h2.elim
    | cons x xs => exact h1.elim
  | cons e es ih =>
    intro xs ys h1 h2
    cases xs with
    | nil => exact h1.elim
    | cons x xs =>
      cases ys with
      | nil => exact h2.elim
      | cons y ys =>
        have q : x = y := Option.some.inj (h1.1.symm.trans h2.1)
        rw [q, ih h1.2 h2.2]
theorem fcX {f : Nat} {es : List sLn} {ys : List Int} (h : fcOk fFS r hp (f, es)) (he : sEs r es ys) : fFS f ys hp := by
  obtain ⟨xs, h1, h2⟩ := h
  rw [sEs_inj he h1]
  exact h2
theorem all_nil {α : Type} {P : α → Prop} : ∀ q ∈ ([] : List α), P q := fun _ h => by cases h
theorem all_cons {α : Type} {P : α → Prop} {a : α} {l : List α} (h : P a) (h2 : ∀ q ∈ l, P q) : ∀ q ∈ a :: l, P q := by
  intro q hq
  rcases List.mem_cons.mp hq with rfl | hq
  · exact h
  · exact h2 q hq
theorem ivO {q : Nat × Int × Int} {y : Int} (e : r[q.1]? = some y) (h1 : q.2.1 ≤ y) (h2 : y ≤ q.2.2) : ∃ x, r[q.1]? = some x ∧ q.2.1 ≤ x ∧ x ≤ q.2.2 := ⟨y, e, h1, h2⟩
theorem poX {posts : List sTm} {m : Nat} {iv : sIv} {cs : List sLn} {lo : List sVl} {fc : List sFc} (hm : ((m, iv, cs, []), lo, ([], fc)) ∈ posts) (hl : r.length = m) (hR : ∀ x ∈ r, wMn ≤ x ∧ x ≤ wMx) (h1 : ∀ q ∈ iv, ∃ x, r[q.1]? = some x ∧ q.2.1 ≤ x ∧ x ≤ q.2.2) (h2 : ∀ c ∈ cs, ∃ x, sE r c = some x ∧ x ≤ 0) (h3 : ∀ q ∈ fc, fcOk fFS r hp q) : ∃ post ∈ posts, ∃ u, sNOk tSg (r ++ u) post.1 ∧ hsOk fFS (r ++ u) hp post.2.2 := by
  refine ⟨_, hm, [], ?_, ?_⟩
  · rw [List.append_nil]
    exact ⟨hl, ⟨hR, h1⟩, h2, fun _ q => by cases q⟩
  · rw [List.append_nil]
    exact ⟨fun _ q => (by cases q), h3⟩
def raAll {α : Type} (P : α → Prop) : Lean.RArray α → Prop
  | .leaf x => P x
  | .branch _ l r => raAll P l ∧ raAll P r
theorem ra_br {α : Type} (p : Nat) (l r : Lean.RArray α) (i : Nat) : Lean.RArray.get (.branch p l r) i = Lean.RArray.get l i ∨ Lean.RArray.get (.branch p l r) i = Lean.RArray.get r i := by
  have e : Lean.RArray.get (.branch p l r) i = @Bool.rec (fun _ => α) (Lean.RArray.get l i) (Lean.RArray.get r i) (Nat.ble p i) := rfl
  rw [e]
  cases Nat.ble p i
  · exact Or.inl rfl
  · exact Or.inr rfl
theorem gAll {α : Type} {P : α → Prop} : ∀ (a : Lean.RArray α) (i : Nat), raAll P a → P (Lean.RArray.get a i) := by
  intro a
  induction a with
  | leaf x => intro i h; exact h
  | branch p l r ihl ihr =>
    intro i h
    rcases ra_br p l r i with e | e
    · rw [e]; exact ihl i h.1
    · rw [e]; exact ihr i h.2
theorem psum0' (h : n = 0) (h' : t = 0) : fPsum n t hp := by subst h; subst h'; exact psum0
theorem stk0' (h : n = 0) (h' : t = 0) : fStk n t hp := by subst h; subst h'; exact stk0
theorem code0' (h : n = 0) (h' : t = 0) : fCode n t hp := by subst h; subst h'; exact code0
theorem dep0' (q : fPfs 275 690 hp) (h : n = 0) (h' : t = 0) : fDep n t hp := by subst h; subst h'; exact dep0 q
theorem sum_of' {x y : Int} (hO : hOk hp) (h : fPsum n t hp) (hx : hI hp 275 6 = x) (e : n = x) (h0 : y = 0) : fSum y t hp := by subst h0; exact sum_of hO h hx e
theorem stk_cg (h : fStk n t hp) (e : n' = n) (e' : t' = t) : fStk n' t' hp := by rw [e, e']; exact h
theorem dep_cg (h : fDep n t hp) (e : n' = n) (e' : t' = t) : fDep n' t' hp := by rw [e, e']; exact h
theorem stk_z' (h : fStk n t hp) (e : n = 0) : t = 0 := by subst e; exact stk_z h
theorem kept_b {a k b : Nat} {x y z : Int} (h : fKept a k hp) (hk : hI hp 291 k = x) (h1 : x = 1) (hy : hI hp 289 a = y) (hz : hI hp 289 b = z) (e : b = a + 1) : (1 ≤ y ∧ y ≤ 10) ∧ (1 ≤ z ∧ z ≤ 10) := by
  obtain ⟨u1, u2, -, -⟩ := h (by rw [hk]; exact h1)
  rw [← e] at u2
  rw [hy] at u1
  rw [hz] at u2
  exact ⟨u1, u2⟩
end CkFact4
