section CkLaw6
/-- rows that the law's invariant doesn't look at: x.fall's, the law's own array -/
def lRo (ro : Nat) : Prop := ¬ (49 ≤ ro ∧ ro ≤ 57) ∧ ¬ ro = 97
theorem lIn_fr {hp hp' : Lean.RArray Nat} {cu ot sa sb pa pb na : Nat} (h : ∀ c j, c < tNC → lRo (tRO c) → hv hp' c j = hv hp c j) (hO : hOk hp') (c1 : cu < tNC) (r1 : lRo (tRO cu)) (c2 : sa < tNC) (r2 : lRo (tRO sa)) (c3 : sb < tNC) (r3 : lRo (tRO sb)) (c4 : na < tNC) (r4 : lRo (tRO na)) (c5 : pa < tNC) (r5 : lRo (tRO pa)) (hy : lIn cu ot sa sb pa pb na hp) : lIn cu ot sa sb pa pb na hp' := by
  obtain ⟨-, ⟨x1, x2, x3, x4⟩, z, a, b, c, t, u, v, bz, ba, bb, bc, bt, bu, bv, hz, ha, hb, hc, ⟨ht1, ht2, hu1, hu2, hv1, hv2, hq⟩, f0, f1, f2, f3, f4, f5, f6, ⟨w, bw, f7⟩, f8, f9, f10, f11, f12⟩ := hy
  have g : ∀ c j, c < tNC → lRo (tRO c) → hI hp' c j = hI hp c j := fun c j q1 q2 => hI_of (h c j q1 q2)
  have q0 : lRo (tRO 0) := ⟨by decide, by decide⟩
  have q275 : lRo (tRO 275) := ⟨by decide, by decide⟩
  have q237 : lRo (tRO 237) := ⟨by decide, by decide⟩
  have q268 : lRo (tRO 268) := ⟨by decide, by decide⟩
  have q238 : lRo (tRO 238) := ⟨by decide, by decide⟩
  have q240 : lRo (tRO 240) := ⟨by decide, by decide⟩
  have q269 : lRo (tRO 269) := ⟨by decide, by decide⟩
  have q271 : lRo (tRO 271) := ⟨by decide, by decide⟩
  have q289 : lRo (tRO 289) := ⟨by decide, by decide⟩
  have q291 : lRo (tRO 291) := ⟨by decide, by decide⟩
  have q273 : lRo (tRO 273) := ⟨by decide, by decide⟩
  have q211 : lRo (tRO 211) := ⟨by decide, by decide⟩
  have q242 : lRo (tRO 242) := ⟨by decide, by decide⟩
  refine ⟨hO, ⟨?_, ?_, ?_, ?_⟩, z, a, b, c, t, u, v, bz, ba, bb, bc, bt, bu, bv, ?_, ?_, ?_, ?_, ⟨?_, ?_, ?_, ?_, ?_, ?_, ?_⟩, ?_, ?_, ?_, ?_, ?_, ?_, ?_, ⟨w, bw, ?_⟩, ?_, ?_, ?_, ?_, ?_⟩
  · rw [h 0 10 (by decide) q0]; exact x1
  · rw [h 0 11 (by decide) q0]; exact x2
  · rw [h 0 6 (by decide) q0]; exact x3
  · rw [h 0 7 (by decide) q0]; exact x4
  · rw [g 275 6 (by decide) q275]; exact hz
  · rw [g cu 2 c1 r1]; exact ha
  · rw [g 237 2 (by decide) q237]; exact hb
  · rw [g 268 2 (by decide) q268]; exact hc
  · rw [g 0 1 (by decide) q0]; exact ht1
  · rw [g 273 2 (by decide) q273]; exact ht2
  · rw [g 211 0 (by decide) q211]; exact hu1
  · rw [g 291 0 (by decide) q291]; exact hu2
  · rw [g 242 0 (by decide) q242]; exact hv1
  · rw [g 291 1 (by decide) q291]; exact hv2
  · rw [g 0 2 (by decide) q0, g 273 15 (by decide) q273]; exact hq
  · intro j hj hn; rw [g sa j c2 r2, g sb j c3 r3]; exact f0 j hj hn
  · intro j hj hn; rw [g 238 j (by decide) q238, g 240 j (by decide) q240]; exact f1 j hj hn
  · intro j hj hn; rw [g 269 j (by decide) q269, g 271 j (by decide) q271]; exact f2 j hj hn
  · intro j hj hn; rw [g 275 _ (by decide) q275]; exact f3 j hj hn
  · exact fr_pfs (fun j _ _ => g 275 j (by decide) q275) f4
  · exact fr_kept (fun j _ _ => g 289 j (by decide) q289) (g 291 0 (by decide) q291) f5
  · exact fr_kept (fun j _ _ => g 289 j (by decide) q289) (g 291 1 (by decide) q291) f6
  · intro i hi hs
    rw [g 1 i (by decide) ⟨by decide, by decide⟩, g 274 i (by decide) ⟨by decide, by decide⟩]
    exact f7 i hi hs
  · intro i hi
    rw [hL_of (h 174 i (by decide) ⟨by decide, by decide⟩)]
    exact f8 i hi
  · intro i hi
    rw [hL_of (h 279 i (by decide) ⟨by decide, by decide⟩)]
    exact f9 i hi
  · have e1 : nmR hp' na = nmR hp na := nmX_cg (fun j _ => hL_of (h na j c4 r4))
    have e2 : nmM hp' = nmM hp := nmG_cg (fun i _ _ => g 275 i (by decide) q275) (fun j _ => hL_of (h 278 j (by decide) ⟨by decide, by decide⟩))
    rw [e1, e2, g pa 0 c5 r5, g pa 1 c5 r5, g 275 0 (by decide) q275, g 275 1 (by decide) q275]
    exact f10
  · have e1 : nmR hp' 213 = nmR hp 213 := nmX_cg (fun j _ => hL_of (h 213 j (by decide) ⟨by decide, by decide⟩))
    have e2 : nmK hp' 0 = nmK hp 0 := nmG_cg (fun i _ _ => g 289 _ (by decide) q289) (fun j _ => hL_of (h 290 _ (by decide) ⟨by decide, by decide⟩))
    show (∀ c L, isW L → (nmR hp' 213 c L ↔ nmK hp' 0 c L)) ∧ (hI hp' 289 0 = 0 ∨ (hI hp' 212 0 = hI hp' 289 0 ∧ hI hp' 212 1 = hI hp' 289 1))
    rw [e1, e2, g 212 0 (by decide) ⟨by decide, by decide⟩, g 212 1 (by decide) ⟨by decide, by decide⟩, g 289 0 (by decide) q289, g 289 1 (by decide) q289]
    exact f11
  · have e1 : nmR hp' 244 = nmR hp 244 := nmX_cg (fun j _ => hL_of (h 244 j (by decide) ⟨by decide, by decide⟩))
    have e2 : nmK hp' 1 = nmK hp 1 := nmG_cg (fun i _ _ => g 289 _ (by decide) q289) (fun j _ => hL_of (h 290 _ (by decide) ⟨by decide, by decide⟩))
    show (∀ c L, isW L → (nmR hp' 244 c L ↔ nmK hp' 1 c L)) ∧ (hI hp' 289 871 = 0 ∨ (hI hp' 243 0 = hI hp' 289 871 ∧ hI hp' 243 1 = hI hp' 289 872))
    rw [e1, e2, g 243 0 (by decide) ⟨by decide, by decide⟩, g 243 1 (by decide) ⟨by decide, by decide⟩, g 289 871 (by decide) q289, g 289 872 (by decide) q289]
    exact f12
theorem lInv_fr {hp hp' : Lean.RArray Nat} (h : ∀ c j, c < tNC → lRo (tRO c) → hv hp' c j = hv hp c j) (hO : hOk hp') (hy : lInv hp) : lInv hp' := by
  rcases hy with hy | hy | hy | hy
  · exact Or.inl (lIn_fr h hO (by decide) ⟨by decide, by decide⟩ (by decide) ⟨by decide, by decide⟩ (by decide) ⟨by decide, by decide⟩ (by decide) ⟨by decide, by decide⟩ (by decide) ⟨by decide, by decide⟩ hy)
  · exact Or.inr (Or.inl (lIn_fr h hO (by decide) ⟨by decide, by decide⟩ (by decide) ⟨by decide, by decide⟩ (by decide) ⟨by decide, by decide⟩ (by decide) ⟨by decide, by decide⟩ (by decide) ⟨by decide, by decide⟩ hy))
  · exact Or.inr (Or.inr (Or.inl (lIn_fr h hO (by decide) ⟨by decide, by decide⟩ (by decide) ⟨by decide, by decide⟩ (by decide) ⟨by decide, by decide⟩ (by decide) ⟨by decide, by decide⟩ (by decide) ⟨by decide, by decide⟩ hy)))
  · exact Or.inr (Or.inr (Or.inr (lIn_fr h hO (by decide) ⟨by decide, by decide⟩ (by decide) ⟨by decide, by decide⟩ (by decide) ⟨by decide, by decide⟩ (by decide) ⟨by decide, by decide⟩ (by decide) ⟨by decide, by decide⟩ hy)))
theorem lInv_md {md : sMd} {hp hp' : Lean.RArray Nat} (hm : ∀ q ∈ md, ¬ lRo q.1) (hf : hFr md hp hp') (hO : hOk hp') (hy : lInv hp) : lInv hp' :=
  lInv_fr (fun c j h1 h2 => hf c j h1 (fun q hq w => hm q hq (by rw [← w.1]; exact h2))) hO hy
variable {p : Program} {l : Launch} {e : Env} {R : Room} {s : State} {m : MethodId} {args : Array Value} {below : List Frame} {meth : Method} {c : Code} {Q : State → Prop} {D : va_G} {A : Nat → Prop} {fo : evF}
/-- a frame of a method that is in no table of ours -/
def pHf (p : Program) (l : Launch) (e : Env) (R : Room) (s : State) (m : MethodId) (args : Array Value) (below : List Frame) (meth : Method) (c : Code) (Q : State → Prop) (D : va_G) (A : Nat → Prop) (fo : evF) (qh : evM) : evP := fun _ _ _ pc L st g => eGo p l e R s m args below meth c Q D A fo qh pc L st g
theorem pHf_co {P : evP} : eCo l 0 (pC P 0) := by
  intro mi' q' vs g' k' _ _ _ hk
  cases hk
noncomputable def hRun (q : evM) (stop : Nat) (md : sMd) (posts : List sTm) (n0 : Nat) (K : sNm → List sVl → List sVl → sHs → Bool) (f : Nat) : aR := @Nat.rec (fun _ => aR) (fun _ _ _ _ _ => false) (fun _ ih pc N lo st hs => cond (Nat.beq pc stop) (K N lo st hs) (cond (Nat.beq (Lean.RArray.get q.2.2.2.2.2.2.2.2 pc).1 pc) (aI 0 gCT 0 md posts n0 [] q.2.2.1 q.2.2.2.2.1 q.2.2.2.1 (Lean.RArray.get q.2.2.2.2.2.2.2.2 pc).2.1 (Lean.RArray.get q.2.2.2.2.2.2.2.2 pc).2.2 ih pc N lo st hs) false)) f
theorem hRun_ok {qh : evM} {k : evK} {rc : List Int} {md : sMd} {hp0 : Lean.RArray Nat} {hn nc ns stop : Nat} {env : evEnv} {posts : List sTm} {K : sNm → List sVl → List sVl → sHs → Bool} (hB : eOkB qh.2.2.2.2.2.2.2.2 qh.2.1 = true) (hF : eFix p R s m args meth c A fo qh 0) (hre : eRe p l e R s m args below meth c Q D A fo qh k) (hhn : tNC ≤ hn)
    (hret : ∀ post ∈ posts, ∀ u w hp2, sNOk tSg (rc ++ u) post.1 → loF (rc ++ u) post.2.1 (fun _ => w) → (post.2.1 = [] → w = 0) → hOk hp2 → hsOk fFS (rc ++ u) hp2 post.2.2 → hFr md hp0 hp2 → k w (hp2, hn, env, nc, ns) = true)
    (hK : ∀ N lo st hs, K N lo st hs = true → ∀ r L stc hp, Gs fFS rc none 0 md hp0 r N lo st hs L stc hp → eGo p l e R s m args below meth c Q D A fo qh stop L stc (hp, hn, env, nc, ns)) :
    ∀ (f pc : Nat) (N : sNm) (lo st : List sVl) (hs : sHs), hRun qh stop md posts rc.length K f pc N lo st hs = true → ∀ r L stc hp, Gs fFS rc none 0 md hp0 r N lo st hs L stc hp → eGo p l e R s m args below meth c Q D A fo qh pc L stc (hp, hn, env, nc, ns) := by
  intro f
  induction f with
  | zero => intro pc N lo st hs h; cases h
  | succ f ih =>
    intro pc N lo st hs h r L stc hp hG
    have h : cond (Nat.beq pc stop) (K N lo st hs) (cond (Nat.beq (Lean.RArray.get qh.2.2.2.2.2.2.2.2 pc).1 pc) (aI 0 gCT 0 md posts rc.length [] qh.2.2.1 qh.2.2.2.2.1 qh.2.2.2.1 (Lean.RArray.get qh.2.2.2.2.2.2.2.2 pc).2.1 (Lean.RArray.get qh.2.2.2.2.2.2.2.2 pc).2.2 (hRun qh stop md posts rc.length K f) pc N lo st hs) false) = true := h
    rcases sCh h with ⟨h1, h2⟩ | ⟨-, h2⟩
    · rw [Nat.eq_of_beq_eq_true h1]
      exact hK N lo st hs h2 r L stc hp hG
    · obtain ⟨h3, h4⟩ := eC_t h2
      have hd := eOkB_get hB pc
      rw [Nat.eq_of_beq_eq_true h3] at hd
      exact s_I (ini := eIni qh) hF.2.2.2.2.2.2.1.1 hF (fun pc L st g hk => pB_p hk) pHf_co hre hd (i_I (P := pHf p l e R s m args below meth c Q D A fo qh) (d := 0) (mi := 0) fFS_fs fFS_eq fFS_op hhn hret (fun pc N lo st hs hk r L stc hp hG => ih pc N lo st hs hk r L stc hp hG) hG (Nat.le_refl 0) (fun i hi => absurd hi (Nat.not_lt_zero i)) h4)
end CkLaw6
