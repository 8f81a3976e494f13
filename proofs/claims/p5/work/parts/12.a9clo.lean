section CkClo
noncomputable def pB (p : Prop) : Bool := @decide p (Classical.propDecidable p)
theorem pB_t {p : Prop} (h : p) : pB p = true := @decide_eq_true p (Classical.propDecidable p) h
theorem pB_p {p : Prop} (h : pB p = true) : p := @of_decide_eq_true p (Classical.propDecidable p) h
abbrev evP : Type := Nat → Nat → evK → Nat → Nat → List Nat → evG → Prop
noncomputable def pR (P : evP) (d mi : Nat) (k : evK) : evR := fun pc L st g => pB (P d mi k pc L st g)
noncomputable def pC (P : evP) (d : Nat) : evC := fun mi vs g k => @Nat.rec (fun _ => Bool) false (fun d _ => pB (P d mi k 0 (ePack vs 0 0) [] g)) d
/-- closed under the machine's steps -/
def pClo (P : evP) : Prop := ∀ d mi k pc L st g, eH mi pc (pR P d mi k) (pC P d) k pc L st g = true → P d mi k pc L st g
def pGo (l : Launch) : evP := fun dp mi k pc L st g => ∀ (qm : evM), eM mi = some qm → ∀ (p : Program) (e : Env) (R : Room) (s : State) (m : MethodId) (args : Array Value) (below : List Frame) (meth : Method) (c : Code) (Q : State → Prop) (D : va_G) (A : Nat → Prop) (fo : evF), eFix p R s m args meth c A fo qm dp → eRe p l e R s m args below meth c Q D A fo qm k → eGo p l e R s m args below meth c Q D A fo qm pc L st g
theorem pGo_clo (l : Launch) : pClo (pGo l) := by
  intro dp mi k pc L st g h qm hq p e R s m args below meth c Q D A fo hF hre
  obtain ⟨m1, m2, m3, m4, m5, m6, m7, m8⟩ := eM_ok' mi qm hq
  unfold eH at h
  rw [hq] at h
  rcases eCh h with ⟨h1, hA⟩ | ⟨-, hA⟩
  · obtain ⟨h1, h2⟩ := eC_t h1
    obtain ⟨h2, h3⟩ := eC_t h2
    obtain ⟨h3, h4⟩ := eC_t h3
    obtain ⟨h4, h5⟩ := eC_t h4
    have d0 := eOkB_get m4 pc
    have d3 := eOkB_get m4 (pc + 3)
    have d4 := eOkB_get m4 (pc + 4)
    have d7 := eOkB_get m4 (pc + 7)
    rw [of_decide_eq_true h2] at d0
    rw [of_decide_eq_true h3] at d3
    rw [of_decide_eq_true h4] at d4
    rw [of_decide_eq_true h5] at d7
    intro sg tys ws H locs cells slots ls stv hN hL hst hc hs
    cases st with
    | cons w st => cases hA
    | nil =>
      cases stv with
      | cons z zs => exact hst.elim
      | nil =>
        obtain ⟨lv, hlv, -⟩ := id hL
        exact hre.2.2.2 g sg tys ws H locs cells slots pc ls hN hst.1 hst.2 (by rw [hF.2.2.1]; exact hlv.1) hc hs hA (Nat.eq_of_beq_eq_true h1) d0 d3 d4 d7
  · rcases eCh hA with ⟨h1, hB⟩ | ⟨-, hB⟩
    · obtain ⟨h9, h2⟩ := eC_t h1
      have h2 := Nat.eq_of_beq_eq_true h2
      subst h2
      cases st with
      | cons w st => cases hB
      | nil =>
        have hB : cond (Nat.beq L 0) false (k (Nat.add (Nat.mul 8 L) 7) g) = true := hB
        obtain ⟨h2, hC⟩ := eC_f hB
        exact hre.2.2.1 L g hC (eB_f h2) (Nat.eq_of_beq_eq_true h9)
    · rcases eCh hB with ⟨h1, hC⟩ | ⟨-, hC⟩
      · have h1 := Nat.eq_of_beq_eq_true h1
        have hd := eOkB_get m4 pc
        rw [h1] at hd
        refine s_I hF.2.2.2.2.2.2.1.1 hF (fun pc L st g hk => ?_) (fun mi' q' vs g' k' hq' h13 hk7 hk => ?_) hre hd hC
        · exact pB_p hk qm hq p e R s m args below meth c Q D A fo hF hre
        · cases dp with
          | zero => cases hk
          | succ d =>
            refine ⟨d, rfl, eMt_of hq' h13 hk7 (fun p e R s m args below meth c Q D A fo hF hre => ?_)⟩
            have hk : pB (pGo l d mi' k' 0 (ePack vs 0 0) [] g') = true := hk
            exact pB_p hk q' hq' p e R s m args below meth c Q D A fo hF hre
      · cases hC
end CkClo
