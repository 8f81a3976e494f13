section EvDec
/-- a method's instructions, in a tree by their places; they are what its code has there -/
noncomputable def eOkB (t : Lean.RArray (Nat × Instr × Nat)) (b : ByteArray) : Bool := @Lean.RArray.rec (Nat × Instr × Nat) (fun _ => Bool) (fun q => decide (decode b q.1 = .ok q.2)) (fun _ _ _ l r => cond l r false) t
end EvDec
section EvDec2
theorem eOkB_b {p : Nat} {l r : Lean.RArray (Nat × Instr × Nat)} {b : ByteArray} (hl : eOkB l b = true) (hr : eOkB r b = true) : eOkB (.branch p l r) b = true := by
  show cond (eOkB l b) (eOkB r b) false = true
  rw [hl, hr]
  rfl
end EvDec2
