section EvS10
theorem wObj : Jvm.Cond.instanceMethod objectInit ∈ eGW ∧ Jvm.Cond.code objectInit ⟨#[0xb1]⟩ 1 none ∈ eGW := ⟨eTb 32 (by decide +kernel) (by decide +kernel), eTb 33 (by decide +kernel) (by decide +kernel)⟩
theorem wCpy : Jvm.Cond.native arraycopyName ∈ eGW ∧ Jvm.Cond.static arraycopyName ∈ eGW ∧ Jvm.Cond.initialized "java/lang/System" ∈ eGW := ⟨eTb 960 (by decide +kernel) (by decide +kernel), eTb 959 (by decide +kernel) (by decide +kernel), eTb 25 (by decide +kernel) (by decide +kernel)⟩
theorem wMin : Jvm.Cond.static Lib.Math.min.name ∈ eGW ∧ Jvm.Cond.initialized "java/lang/Math" ∈ eGW ∧ Jvm.Cond.code Lib.Math.min.name Lib.Math.min.code 2 (some .int) ∈ eGW := ⟨eTb 709 (by decide +kernel) (by decide +kernel), eTb 19 (by decide +kernel) (by decide +kernel), eTb 710 (by decide +kernel) (by decide +kernel)⟩
theorem wArr : ∀ ty : FieldType, ty = .int ∨ ty = .long ∨ ty = .byte ∨ ty = .boolean → Jvm.Cond.arrayClass ty ∈ eGW := by
  intro ty h
  rcases h with rfl | rfl | rfl | rfl
  · exact eTb 160 (by decide +kernel) (by decide +kernel)
  · exact eTb 161 (by decide +kernel) (by decide +kernel)
  · exact eTb 418 (by decide +kernel) (by decide +kernel)
  · exact eTb 597 (by decide +kernel) (by decide +kernel)
theorem wF1 : Jvm.Cond.fieldLink (eCn 17) 38 "java/lang/String" "COMPACT_STRINGS" "Z" ∈ eGW := eTb 333 (by decide +kernel) (by decide +kernel)
theorem wF2 : Jvm.Cond.fieldLink (eCn 17) 1053 "jdk/internal/util/Preconditions" "SIOOBE_FORMATTER" "Ljava/util/function/BiFunction;" ∈ eGW := eTb 349 (by decide +kernel) (by decide +kernel)
theorem wF3 : Jvm.Cond.fieldLink (eCn 17) 9 "java/lang/String" "value" "[B" ∈ eGW := eTb 2149 (by decide +kernel) (by decide +kernel)
theorem wF4 : Jvm.Cond.fieldLink (eCn 17) 15 "java/lang/String" "coder" "B" ∈ eGW := eTb 2150 (by decide +kernel) (by decide +kernel)
theorem wN0 : Jvm.Cond.fieldLinkNest (eCn 1) 90 "LeafVotes" (eSn 0) "[I" "LeafVotes" ∈ eNg := List.mem_cons_self
theorem wN1 : Jvm.Cond.fieldLinkNest (eCn 1) 93 "LeafVotes" (eSn 1) "[I" "LeafVotes" ∈ eNg := List.mem_cons_of_mem _ List.mem_cons_self
theorem wN2 : Jvm.Cond.fieldLinkNest (eCn 7) 175 "LeafVotes" (eSn 0) "[I" "LeafVotes" ∈ eNg := List.mem_cons_of_mem _ (List.mem_cons_of_mem _ List.mem_cons_self)
theorem wN3 : Jvm.Cond.fieldLinkNest (eCn 7) 178 "LeafVotes" (eSn 1) "[I" "LeafVotes" ∈ eNg := List.mem_cons_of_mem _ (List.mem_cons_of_mem _ (List.mem_cons_of_mem _ List.mem_cons_self))
theorem eIsI_0 (v : Nat) (h : eIsI v = true) : ¬ eTg v = 0 := by
  intro q
  obtain ⟨a, -⟩ := eC_t h
  rw [q] at a
  cases a
theorem eIsA_0 (v : Nat) (h : eIsA v = true) : ¬ eTg v = 0 := by
  intro q
  obtain ⟨a, -⟩ := eC_t h
  rw [q] at a
  cases a
theorem eIsL_0 (v : Nat) (h : Nat.beq (eTg v) 4 = true) : ¬ eTg v = 0 := by
  intro q
  rw [q] at h
  cases h
theorem eN8 : ∀ n : Int, -(128 : Int) ≤ n ∧ n < 128 → (Int8.ofInt n).toInt32 = Int32.ofInt n := by
  intro n h
  apply Int32.toInt_inj.mp
  rw [Int8.toInt_toInt32, Int8.toInt_ofInt, Int32.toInt_ofInt]
  have e8 : Int8.size = 256 := rfl
  have e32 : Int32.size = 4294967296 := rfl
  rw [Int.bmod_eq_of_le (by omega) (by omega), Int.bmod_eq_of_le (by omega) (by omega)]
theorem eN16 : ∀ n : Int, -(32768 : Int) ≤ n ∧ n < 32768 → (Int16.ofInt n).toInt32 = Int32.ofInt n := by
  intro n h
  apply Int32.toInt_inj.mp
  rw [Int16.toInt_toInt32, Int16.toInt_ofInt, Int32.toInt_ofInt]
  have e16 : Int16.size = 65536 := rfl
  have e32 : Int32.size = 4294967296 := rfl
  rw [Int.bmod_eq_of_le (by omega) (by omega), Int.bmod_eq_of_le (by omega) (by omega)]
variable {p : Program} {l : Launch} {e : Env} {R : Room} {s : State} {m : MethodId} {args : Array Value} {below : List Frame} {meth : Method} {c : Code} {Q : State → Prop} {D : va_G} {A : Nat → Prop} {fo : evF} {qm : evM} {dp : Nat}
variable {r : evR} {cl : evC} {kk : evK} {pc L : Nat} {st : List Nat} {g : evG}
theorem hIx_ok {x : Nat} {hh : evH} (h : hIx x hh r cl kk pc L st g = true) : x < 65536 ∧ hh r cl kk pc L st g = true := by
  rcases eCh h with ⟨a, b⟩ | ⟨-, b⟩
  · exact ⟨eB_l a, b⟩
  · cases b
theorem s_I {i : Instr} {len : Nat} {ini : Bool} (hini : ini = true → meth.name = "<init>") (hF : eFix p R s m args meth c A fo qm dp) (hr : ∀ pc L st g, r pc L st g = true → eGo p l e R s m args below meth c Q D A fo qm pc L st g) (hcl : eCo l dp cl) (hre : eRe p l e R s m args below meth c Q D A fo qm kk)
    (hd : decode qm.2.1 pc = .ok (i, len)) (h0 : eI qm.2.2.1 qm.2.2.2.2.1 qm.2.2.2.1 ini i len r cl kk pc L st g = true) : eGo p l e R s m args below meth c Q D A fo qm pc L st g := by
  have hx := hF.1
  have hb := hF.2.1
  cases i
  case aload j =>
    obtain ⟨rfl, h⟩ := eLn_ok h0
    exact s_load (PX := fun x => x = .null ∨ ∃ a, x = .ref a) hr (fun _ _ _ _ a b => eR_A a b) eIsA_0 (fun H locs cells slots ls rest x hp hl k => by
      rcases hp with rfl | ⟨a, rfl⟩
      · exact lv_aloadN hx hb hd hl k
      · exact lv_aload hx hb hd hl k) h
  case aload_n j =>
    obtain ⟨rfl, h⟩ := eLn_ok h0
    exact s_load (PX := fun x => x = .null ∨ ∃ a, x = .ref a) hr (fun _ _ _ _ a b => eR_A a b) eIsA_0 (fun H locs cells slots ls rest x hp hl k => by
      rcases hp with rfl | ⟨a, rfl⟩
      · exact lv_aload_nN hx hb hd rfl hl k
      · exact lv_aload_n hx hb hd rfl hl k) h
  case iload j =>
    obtain ⟨rfl, h⟩ := eLn_ok h0
    exact s_load (PX := fun x => ∃ y, x = .int y) hr (fun _ _ _ _ a b => eR_I a b) eIsI_0 (fun H locs cells slots ls rest x hp hl k => by
      obtain ⟨y, rfl⟩ := hp
      exact lv_iload hx hb hd hl k) h
  case iload_n j =>
    obtain ⟨rfl, h⟩ := eLn_ok h0
    exact s_load (PX := fun x => ∃ y, x = .int y) hr (fun _ _ _ _ a b => eR_I a b) eIsI_0 (fun H locs cells slots ls rest x hp hl k => by
      obtain ⟨y, rfl⟩ := hp
      exact lv_iload_n hx hb hd rfl hl k) h
  case lload j =>
    obtain ⟨rfl, h⟩ := eLn_ok h0
    exact s_load (PX := fun x => ∃ y, x = .long y) hr (fun _ _ _ _ a b => ⟨_, (eR_L a (Nat.eq_of_beq_eq_true b)).2⟩) eIsL_0 (fun H locs cells slots ls rest x hp hl k => by
      obtain ⟨y, rfl⟩ := hp
      exact lv_lload hx hb hd hl k) h
  case lload_n j =>
    obtain ⟨rfl, h⟩ := eLn_ok h0
    exact s_load (PX := fun x => ∃ y, x = .long y) hr (fun _ _ _ _ a b => ⟨_, (eR_L a (Nat.eq_of_beq_eq_true b)).2⟩) eIsL_0 (fun H locs cells slots ls rest x hp hl k => by
      obtain ⟨y, rfl⟩ := hp
      exact lv_lload_n hx hb hd rfl hl k) h
  case astore j =>
    obtain ⟨rfl, h⟩ := eLn_ok h0
    exact s_store (PX := fun x => x = .null ∨ ∃ a, x = .ref a) hr (fun _ _ _ _ a b => eR_A a b) (fun H locs cells slots ls lv x rest hp hl hn k => by
      rcases hp with rfl | ⟨a, rfl⟩
      · exact lv_astoreN hx hb hd hl hn rfl k
      · exact lv_astore hx hb hd hl hn rfl k) h
  case astore_n j =>
    obtain ⟨rfl, h⟩ := eLn_ok h0
    exact s_store (PX := fun x => x = .null ∨ ∃ a, x = .ref a) hr (fun _ _ _ _ a b => eR_A a b) (fun H locs cells slots ls lv x rest hp hl hn k => by
      rcases hp with rfl | ⟨a, rfl⟩
      · exact lv_astore_nN hx hb hd rfl hl hn rfl k
      · exact lv_astore_n hx hb hd rfl hl hn rfl k) h
  case istore j =>
    obtain ⟨rfl, h⟩ := eLn_ok h0
    exact s_store (PX := fun x => ∃ y, x = .int y) hr (fun _ _ _ _ a b => eR_I a b) (fun H locs cells slots ls lv x rest hp hl hn k => by
      obtain ⟨y, rfl⟩ := hp
      exact lv_istore hx hb hd hl hn rfl k) h
  case istore_n j =>
    obtain ⟨rfl, h⟩ := eLn_ok h0
    exact s_store (PX := fun x => ∃ y, x = .int y) hr (fun _ _ _ _ a b => eR_I a b) (fun H locs cells slots ls lv x rest hp hl hn k => by
      obtain ⟨y, rfl⟩ := hp
      exact lv_istore_n hx hb hd rfl hl hn rfl k) h
  case lstore j =>
    obtain ⟨rfl, h⟩ := eLn_ok h0
    exact s_store2 hr (fun H locs cells slots ls lv x rest hl hn k => lv_lstore hx hb hd hl hn rfl k) h
  case lstore_n j =>
    obtain ⟨rfl, h⟩ := eLn_ok h0
    exact s_store2 hr (fun H locs cells slots ls lv x rest hl hn k => lv_lstore_n hx hb hd rfl hl hn rfl k) h
  case iconst n =>
    obtain ⟨rfl, h⟩ := eLn_ok h0
    exact s_push (x := .int (nI (eN32 n))) hr (fun _ _ => eR_c (eN32_lt n)) (fun H locs cells slots ls rest k => lv_iconst hx hb hd (eN32_ok n).symm k) h
  case bipush n =>
    obtain ⟨rfl, h⟩ := eLn_ok h0
    rcases eCh h with ⟨h1, h⟩ | ⟨-, h⟩
    · exact s_push (x := .int (nI (eN32 n))) hr (fun _ _ => eR_c (eN32_lt n)) (fun H locs cells slots ls rest k => lv_bipush hx hb hd (by rw [eN8 n (of_decide_eq_true h1), eN32_ok]) k) h
    · cases h
  case sipush n =>
    obtain ⟨rfl, h⟩ := eLn_ok h0
    rcases eCh h with ⟨h1, h⟩ | ⟨-, h⟩
    · exact s_push (x := .int (nI (eN32 n))) hr (fun _ _ => eR_c (eN32_lt n)) (fun H locs cells slots ls rest k => lv_sipush hx hb hd (by rw [eN16 n (of_decide_eq_true h1), eN32_ok]) k) h
    · cases h
  case lconst n =>
    obtain ⟨rfl, h⟩ := eLn_ok h0
    exact s_push (x := .long (lN n.val)) hr (fun _ _ => eR_l (by have := n.isLt; omega)) (fun H locs cells slots ls rest k => lv_lconst hx hb hd rfl k) h
  case ldc x =>
    obtain ⟨rfl, h⟩ := eLn_ok h0
    obtain ⟨hi, h⟩ := hIx_ok h
    rcases eCh h with ⟨h1, h'⟩ | ⟨-, h'⟩
    · obtain ⟨a, b⟩ := eC_t h1
      have b := Nat.eq_of_beq_eq_true b
      subst b
      exact s_ldcS hF hr (by rw [Nat.eq_of_beq_eq_true a]; rfl) hd h'
    · exact s_const hF hi hr (Or.inl ⟨hd, rfl⟩) h'
  case ldc_w x =>
    obtain ⟨rfl, h⟩ := eLn_ok h0
    obtain ⟨hi, h⟩ := hIx_ok h
    exact s_const hF hi hr (Or.inr ⟨hd, rfl⟩) h
  case ldc2_w x =>
    obtain ⟨rfl, h⟩ := eLn_ok h0
    obtain ⟨hi, h⟩ := hIx_ok h
    exact s_const2 hF hi hr hd h
  case iadd =>
    obtain ⟨rfl, h⟩ := eLn_ok h0
    exact s_op2 hr eAdd_ok (fun H locs cells slots ls rest x y _ k => lv_iadd hx hb hd k) h
  case isub =>
    obtain ⟨rfl, h⟩ := eLn_ok h0
    exact s_op2 hr eSub_ok (fun H locs cells slots ls rest x y _ k => lv_isub hx hb hd k) h
  case imul =>
    obtain ⟨rfl, h⟩ := eLn_ok h0
    exact s_op2 hr eMul_ok (fun H locs cells slots ls rest x y _ k => lv_imul hx hb hd k) h
  case iand =>
    obtain ⟨rfl, h⟩ := eLn_ok h0
    exact s_op2 hr eAnd_ok (fun H locs cells slots ls rest x y _ k => lv_iand hx hb hd k) h
  case ior =>
    obtain ⟨rfl, h⟩ := eLn_ok h0
    exact s_op2 hr eOr_ok (fun H locs cells slots ls rest x y _ k => lv_ior hx hb hd k) h
  case ixor =>
    obtain ⟨rfl, h⟩ := eLn_ok h0
    exact s_op2 hr eXor_ok (fun H locs cells slots ls rest x y _ k => lv_ixor hx hb hd k) h
  case ishl =>
    obtain ⟨rfl, h⟩ := eLn_ok h0
    exact s_op2 hr eShl_ok (fun H locs cells slots ls rest x y _ k => lv_ishl hx hb hd k) h
  case ishr =>
    obtain ⟨rfl, h⟩ := eLn_ok h0
    exact s_op2 hr eShr_ok (fun H locs cells slots ls rest x y _ k => lv_ishr hx hb hd k) h
  case iushr =>
    obtain ⟨rfl, h⟩ := eLn_ok h0
    exact s_op2 hr eUsh_ok (fun H locs cells slots ls rest x y _ k => lv_iushr hx hb hd rfl k) h
  case idiv =>
    obtain ⟨rfl, h⟩ := eLn_ok h0
    exact s_op2 hr eDiv_ok (fun H locs cells slots ls rest x y hy k => lv_idiv hx hb hd hy k) h
  case irem =>
    obtain ⟨rfl, h⟩ := eLn_ok h0
    exact s_op2 hr eRem_ok (fun H locs cells slots ls rest x y hy k => lv_irem hx hb hd hy k) h
  case iinc j n =>
    obtain ⟨rfl, h⟩ := eLn_ok h0
    exact s_iinc hr (fun H locs cells slots ls lv rest x k hl hk hn kk => lv_iinc hx hb hd hl hk rfl hn rfl kk) h
  case goto off =>
    obtain ⟨rfl, h⟩ := eLn_ok h0
    exact s_goto hr (fun H locs cells slots ls rest tgt ht k => lv_goto hx hb hd ht k) h
  case ifCond o off =>
    obtain ⟨rfl, h⟩ := eLn_ok h0
    refine s_if hr (fun H locs cells slots ls rest x tgt ht kt kf => ?_) h
    cases o
    case eq => exact lv_if_eq hx hb hd ht kt kf
    case ne => exact lv_if_ne hx hb hd ht kt (fun q => kf (fun z => z q))
    case lt => exact lv_if_lt hx hb hd ht kt kf
    case ge => exact lv_if_ge hx hb hd ht (fun q => kt (fun z => absurd q (Int32.not_le.mpr z))) (fun q => kf (fun z => q (Int32.not_lt.mp z)))
    case gt => exact lv_if_gt hx hb hd ht kt kf
    case le => exact lv_if_le hx hb hd ht (fun q => kt (fun z => absurd q (Int32.not_le.mpr z))) (fun q => kf (fun z => q (Int32.not_lt.mp z)))
  case if_icmp o off =>
    obtain ⟨rfl, h⟩ := eLn_ok h0
    refine s_icmp hr (fun H locs cells slots ls rest x y tgt ht kt kf => ?_) h
    cases o
    case eq => exact lv_icmp_eq hx hb hd ht kt kf
    case ne => exact lv_icmp_ne hx hb hd ht kt (fun q => kf (fun z => z q))
    case lt => exact lv_icmp_lt hx hb hd ht kt kf
    case ge => exact lv_icmp_ge hx hb hd ht (fun q => kt (fun z => absurd q (Int32.not_le.mpr z))) (fun q => kf (fun z => q (Int32.not_lt.mp z)))
    case gt => exact lv_icmp_gt hx hb hd ht kt kf
    case le => exact lv_icmp_le hx hb hd ht (fun q => kt (fun z => absurd q (Int32.not_le.mpr z))) (fun q => kf (fun z => q (Int32.not_lt.mp z)))
  case dup =>
    obtain ⟨rfl, h⟩ := eLn_ok h0
    exact s_dup hr (fun H locs cells slots ls rest x hc k => lv_dup hx hb hd hc k) h
  case pop =>
    obtain ⟨rfl, h⟩ := eLn_ok h0
    exact s_pop hr (fun H locs cells slots ls rest x hc k => lv_pop hx hb hd hc k) h
  case dup2 =>
    obtain ⟨rfl, h⟩ := eLn_ok h0
    exact s_dup2 hr (fun H locs cells slots ls rest x y h1 h2 k => lv_dup2_11 hx hb hd h1 h2 k) h
  case getfield x =>
    obtain ⟨rfl, h⟩ := eLn_ok h0
    obtain ⟨hi, h⟩ := hIx_ok h
    rcases eCh h with ⟨h1, hA⟩ | ⟨-, hA⟩
    · have h1 := Nat.eq_of_beq_eq_true h1
      rcases eCh hA with ⟨h2, hB⟩ | ⟨-, hB⟩
      · have h2 := Nat.eq_of_beq_eq_true h2
        subst h2
        exact s_getT hF hr (Or.inl ⟨rfl, by rw [h1]; exact wF3⟩) hd hB
      · rcases eCh hB with ⟨h2, hC⟩ | ⟨-, hC⟩
        · have h2 := Nat.eq_of_beq_eq_true h2
          subst h2
          exact s_getT hF hr (Or.inr ⟨rfl, by rw [h1]; exact wF4⟩) hd hC
        · cases hC
    · exact s_getX hF hi hr hd hA
  case putfield x =>
    obtain ⟨rfl, h⟩ := eLn_ok h0
    obtain ⟨hi, h⟩ := hIx_ok h
    exact s_putX hini hF hi hr hd h
  case new x =>
    obtain ⟨rfl, h⟩ := eLn_ok h0
    obtain ⟨hi, h⟩ := hIx_ok h
    exact s_newX hF hi hr hd h
  case newarray t =>
    obtain ⟨rfl, h⟩ := eLn_ok h0
    exact s_newarr hF hr wArr hd h
  case anewarray x =>
    obtain ⟨rfl, h⟩ := eLn_ok h0
    obtain ⟨hi, h⟩ := hIx_ok h
    exact s_anewX hF hi hr hd h
  case iaload =>
    obtain ⟨rfl, h⟩ := eLn_ok h0
    exact s_ialdX hF hr hd h
  case laload =>
    obtain ⟨rfl, h⟩ := eLn_ok h0
    exact s_lald hF hr hd h
  case baload =>
    obtain ⟨rfl, h⟩ := eLn_ok h0
    exact s_baldX hF hr hd h
  case aaload =>
    obtain ⟨rfl, h⟩ := eLn_ok h0
    exact s_aald hF hr hd h
  case iastore =>
    obtain ⟨rfl, h⟩ := eLn_ok h0
    exact s_iast hF hr hd h
  case lastore =>
    obtain ⟨rfl, h⟩ := eLn_ok h0
    exact s_last hF hr hd h
  case bastore =>
    obtain ⟨rfl, h⟩ := eLn_ok h0
    exact s_bast hF hr hd h
  case aastore =>
    obtain ⟨rfl, h⟩ := eLn_ok h0
    exact s_aast hF hr hd h
  case arraylength =>
    obtain ⟨rfl, h⟩ := eLn_ok h0
    exact s_lenX hF hr hd h
  case getstatic x =>
    obtain ⟨rfl, h⟩ := eLn_ok h0
    rcases eCh h with ⟨h1, hA⟩ | ⟨-, hA⟩
    · have h1 := Nat.eq_of_beq_eq_true h1
      rcases eCh hA with ⟨h2, hB⟩ | ⟨-, hB⟩
      · have h2 := Nat.eq_of_beq_eq_true h2
        subst h2
        exact s_getsC hF hr (by rw [h1]; exact wF1) hd hB
      · rcases eCh hB with ⟨h2, hC⟩ | ⟨-, hC⟩
        · have h2 := Nat.eq_of_beq_eq_true h2
          subst h2
          exact s_getsF hF hr (by rw [h1]; exact wF2) hd hC
        · cases hC
    · rcases eCh hA with ⟨h1, hB⟩ | ⟨-, hB⟩
      · have h1 := Nat.eq_of_beq_eq_true h1
        rcases eCh hB with ⟨h2, hC⟩ | ⟨-, hC⟩
        · have h2 := Nat.eq_of_beq_eq_true h2
          subst h2
          exact s_getsN (w := 0) hF hr (by decide) (by rw [h1]; exact wN0) hd hC
        · rcases eCh hC with ⟨h2, hD⟩ | ⟨-, hD⟩
          · have h2 := Nat.eq_of_beq_eq_true h2
            subst h2
            exact s_getsN (w := 1) hF hr (by decide) (by rw [h1]; exact wN1) hd hD
          · cases hD
      · rcases eCh hB with ⟨h1, hC⟩ | ⟨-, hC⟩
        · have h1 := Nat.eq_of_beq_eq_true h1
          rcases eCh hC with ⟨h2, hD⟩ | ⟨-, hD⟩
          · have h2 := Nat.eq_of_beq_eq_true h2
            subst h2
            exact s_getsN (w := 0) hF hr (by decide) (by rw [h1]; exact wN2) hd hD
          · rcases eCh hD with ⟨h2, hE⟩ | ⟨-, hE⟩
            · have h2 := Nat.eq_of_beq_eq_true h2
              subst h2
              exact s_getsN (w := 1) hF hr (by decide) (by rw [h1]; exact wN3) hd hE
            · cases hE
        · cases hC
  case invokevirtual x =>
    obtain ⟨rfl, h⟩ := eLn_ok h0
    obtain ⟨hi, h⟩ := hIx_ok h
    exact s_callX hF hi hr hcl wObj wCpy wMin (Or.inr (Or.inl ⟨rfl, hd⟩)) h
  case invokestatic x =>
    obtain ⟨rfl, h⟩ := eLn_ok h0
    obtain ⟨hi, h⟩ := hIx_ok h
    exact s_callX hF hi hr hcl wObj wCpy wMin (Or.inl ⟨rfl, hd⟩) h
  case invokespecial x =>
    obtain ⟨rfl, h⟩ := eLn_ok h0
    obtain ⟨hi, h⟩ := hIx_ok h
    exact s_callX hF hi hr hcl wObj wCpy wMin (Or.inr (Or.inr ⟨rfl, hd⟩)) h
  case ireturn =>
    obtain ⟨rfl, h⟩ := eLn_ok h0
    exact s_retI hre hd h
  case return_ =>
    obtain ⟨rfl, h⟩ := eLn_ok h0
    rcases eCh h with ⟨h1, h⟩ | ⟨-, h⟩
    · exact s_retV hre hd h1 h
    · cases h
  case i2l =>
    obtain ⟨rfl, h⟩ := eLn_ok h0
    exact s_i2l hF hr hd h
  case i2b =>
    obtain ⟨rfl, h⟩ := eLn_ok h0
    exact s_i2b hF hr hd h
  case i2c =>
    obtain ⟨rfl, h⟩ := eLn_ok h0
    exact s_i2c hF hr hd h
  case ladd =>
    obtain ⟨rfl, h⟩ := eLn_ok h0
    exact s_l2 (op := fun x y => x + y) hr eLadd (fun H locs cells slots ls rest x y k => lv_ladd hx hb hd k) h
  case lmul =>
    obtain ⟨rfl, h⟩ := eLn_ok h0
    exact s_l2 (op := fun x y => x * y) hr eLmul (fun H locs cells slots ls rest x y k => lv_lmul hx hb hd k) h
  case lor =>
    obtain ⟨rfl, h⟩ := eLn_ok h0
    exact s_l2 (op := fun x y => x ||| y) hr eLor (fun H locs cells slots ls rest x y k => lv_lor hx hb hd k) h
  case lshl =>
    obtain ⟨rfl, h⟩ := eLn_ok h0
    exact s_lsh hr (fun H locs cells slots ls rest x y k => lv_lshl hx hb hd rfl k) h
  case lcmp =>
    obtain ⟨rfl, h⟩ := eLn_ok h0
    exact s_lcmp hF hr hd h
  case tableswitch d lo hi offs => exact s_sw (cl := cl) (kk := kk) hF hr hd h0
  all_goals exact absurd h0 Bool.false_ne_true
/-- THE EVALUATOR IS RIGHT: what it says true of holds of the machine -/
theorem eRun_ok {l : Launch} : ∀ (f dp mi : Nat) (qm : evM) (k : evK) (pc L : Nat) (st : List Nat) (g : evG), eM mi = some qm → eRun f dp mi k pc L st g = true → ∀ (p : Program) (e : Env) (R : Room) (s : State) (m : MethodId) (args : Array Value) (below : List Frame) (meth : Method) (c : Code) (Q : State → Prop) (D : va_G) (A : Nat → Prop) (fo : evF), eFix p R s m args meth c A fo qm dp → eRe p l e R s m args below meth c Q D A fo qm k → eGo p l e R s m args below meth c Q D A fo qm pc L st g := by
  intro f
  induction f with
  | zero => intro dp mi qm k pc L st g _ h; cases h
  | succ f ih =>
    intro dp mi qm k pc L st g hq h p e R s m args below meth c Q D A fo hF hre
    have h : eH mi pc (fun pc L st g => eF pc (fun pc => eF L (fun L => eFs st (fun st => eRun f dp mi k pc L st g)))) (fun mi vs g k => @Nat.rec (fun _ => Bool) false (fun d _ => eF (ePack vs 0 0) (fun L => eRun f d mi k 0 L [] g)) dp) k pc L st g = true := h
    obtain ⟨m1, m2, m3, m4, m5, m6, m7, m8⟩ := eM_ok' mi qm hq
    unfold eH at h
    rw [hq] at h
    rcases eCh h with ⟨h1, hA⟩ | ⟨-, hA⟩
    · obtain ⟨h1, h2⟩ := eC_t h1
      obtain ⟨h2, h3⟩ := eC_t h2
      obtain ⟨h3, h4⟩ := eC_t h3
      obtain ⟨h4, h5⟩ := eC_t h4
      have d0 := eOkB_get m4 pc
      have d3 := eOkB_get m4 (pc + 3)
      have d4 := eOkB_get m4 (pc + 4)
      have d7 := eOkB_get m4 (pc + 7)
      rw [of_decide_eq_true h2] at d0
      rw [of_decide_eq_true h3] at d3
      rw [of_decide_eq_true h4] at d4
      rw [of_decide_eq_true h5] at d7
      intro sg tys ws H locs cells slots ls stv hN hL hst hc hs
      cases st with
      | cons w st => cases hA
      | nil =>
        cases stv with
        | cons z zs => exact hst.elim
        | nil =>
          obtain ⟨lv, hlv, -⟩ := id hL
          exact hre.2.2.2 g sg tys ws H locs cells slots pc ls hN hst.1 hst.2 (by rw [hF.2.2.1]; exact hlv.1) hc hs hA (Nat.eq_of_beq_eq_true h1) d0 d3 d4 d7
    · rcases eCh hA with ⟨h1, hB⟩ | ⟨-, hB⟩
      · obtain ⟨h9, h2⟩ := eC_t h1
        have h2 := Nat.eq_of_beq_eq_true h2
        subst h2
        cases st with
        | cons w st => cases hB
        | nil =>
          have hB : cond (Nat.beq L 0) false (k (Nat.add (Nat.mul 8 L) 7) g) = true := hB
          obtain ⟨h2, hC⟩ := eC_f hB
          exact hre.2.2.1 L g hC (eB_f h2) (Nat.eq_of_beq_eq_true h9)
      · rcases eCh hB with ⟨h1, hC⟩ | ⟨-, hC⟩
        · have h1 := Nat.eq_of_beq_eq_true h1
          have hd := eOkB_get m4 pc
          rw [h1] at hd
          refine s_I hF.2.2.2.2.2.2.1.1 hF (fun pc L st g hk => ?_) (fun mi' q' vs g' k' hq' h13 hk7 hk => ?_) hre hd hC
          · rw [eF_eq, eF_eq, eFs_eq] at hk
            exact ih dp mi qm k pc L st g hq hk p e R s m args below meth c Q D A fo hF hre
          · cases dp with
            | zero => cases hk
            | succ d =>
              refine ⟨d, rfl, eMt_of hq' h13 hk7 (fun p e R s m args below meth c Q D A fo hF hre => ?_)⟩
              have hk : eF (ePack vs 0 0) (fun L => eRun f d mi' k' 0 L [] g') = true := hk
              rw [eF_eq] at hk
              exact ih d mi' q' k' 0 _ [] g' hq' hk p e R s m args below meth c Q D A fo hF hre
        · cases hC
end EvS10
