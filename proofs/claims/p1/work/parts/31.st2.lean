section EvSt2
theorem eTi (i : Nat) {w : Jvm.Cond} (h : tables_1[i]? = some w) : w ∈ lw_tbl := List.mem_append_right _ (List.mem_of_getElem? h)
abbrev eTk : Term := .string "LeafVotes$Tokens" 19
def eBw (j : Nat) : Jvm.Cond := .eq (.elem (.field eTk "java/lang/String" "value" "[B") (.int (Int32.ofNat j))) (.int ((eTxB.getD 0 []).getD j 0))
set_option maxRecDepth 100000 in
theorem eBy0 : ((flatC (Jvm.Cond.and given_1 narrow_1)).drop 74).take 152 = (List.range 152).map eBw := by decide +kernel
theorem eByt : ∀ j, j < 152 → eBw j ∈ flatC (Jvm.Cond.and given_1 narrow_1) := by
  intro j hj
  have h : eBw j ∈ (List.range 152).map eBw := List.mem_map.mpr ⟨j, List.mem_range.mpr hj, rfl⟩
  rw [← eBy0] at h
  exact List.mem_of_mem_drop (List.mem_of_mem_take h)
theorem eNi (i : Nat) {w : Jvm.Cond} (h : (flatC (Jvm.Cond.and given_1 narrow_1))[i]? = some w) : w ∈ flatC (Jvm.Cond.and given_1 narrow_1) := List.mem_of_getElem? h
/-- the six names of the script -/
def eSg (xs : Nat → Int32) : List Int32 := [xs 0, xs 1, xs 2, xs 3, xs 4, xs 5]
def eFo (k0 v0 fm t4 : Value) (b : Nat) (xs : Nat → Int32) : evF := (fun i => match i with
  | 0 => k0
  | 1 => v0
  | 2 => fm
  | 3 => .ref b
  | 4 => t4
  | _ => .null, [], eSg xs)
theorem eSg_E (xs : Nat → Int32) : eE eEnv0 (eSg xs) := by
  refine ⟨rfl, fun i x h => ?_⟩
  have hb : ∀ i, eEnv eEnv0 i = (0, 4294967295) := by
    intro i
    match i with
    | 0 => rfl
    | 1 => rfl
    | 2 => rfl
    | 3 => rfl
    | 4 => rfl
    | 5 => rfl
    | n + 6 => rfl
  rw [hb i]
  exact ⟨Nat.zero_le _, by have := eX_lt32 x; show eX x ≤ 4294967295; omega⟩
theorem eSg_X {b : Nat} {xs : Nat → Int32} {s : State} {H : Heap} (h : va_X b 6 xs s H) : va_X b 6 (fun j => (eSg xs).getD j 0) s H := by
  obtain ⟨scr, h1, h2, h3, h4, h5⟩ := h
  refine ⟨scr, h1, h2, h3, h4, fun j hj => ?_⟩
  rw [h5 j hj]
  match j, hj with
  | 0, _ => rfl
  | 1, _ => rfl
  | 2, _ => rfl
  | 3, _ => rfl
  | 4, _ => rfl
  | 5, _ => rfl
theorem eL2_eq : eL2 = eBl eL1 0 1 38 := by decide +kernel
theorem eL1_s : eSl eL1 0 = 30 ∧ eSl eL1 4 = 1 := by decide +kernel
theorem eHp0 : eWf (eT0 10 0) 0 1024 := eT0_wf 10 0
end EvSt2
