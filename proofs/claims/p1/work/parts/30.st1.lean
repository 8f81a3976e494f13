section EvSt1
theorem eR_7 {ad : List Nat} {sg : List Int32} {fo : evF} {v : Nat} {x : Value} (h : eTg v = 7) : ¬ eR ad sg fo v x := by
  rintro ⟨-, ⟨h', -⟩ | ⟨h', -⟩ | ⟨h', -⟩ | ⟨h', -⟩ | ⟨h', -⟩ | ⟨h', -⟩⟩ <;> omega
def eTgs : List Nat := [212, 285, 310, 323, 336, 404, 484, 521, 558, 583, 620, 669, 694, 731, 768, 781, 842, 903, 964, 1013, 1062, 1142, 1191, 1204, 1217, 1254, 1267, 1328, 1365, 1426, 1439, 1476, 1537, 1562, 1587, 1600, 1625, 1650, 1675]
def eTgt (j : Nat) : Nat := eTgs.getD j 0
theorem dL23 : decode code 23 = .ok (.iload 4, 2) := eOkB_get eDL_ok 23
theorem dL25 : decode code 25 = .ok (.aload_n 0, 1) := eOkB_get eDL_ok 25
theorem dL26 : decode code 26 = .ok (.arraylength, 1) := eOkB_get eDL_ok 26
theorem dL27 : decode code 27 = .ok (.bipush 6, 2) := eOkB_get eDL_ok 27
theorem dL29 : decode code 29 = .ok (.isub, 1) := eOkB_get eDL_ok 29
theorem dL30 : decode code 30 = .ok (.if_icmp .gt 1676, 3) := eOkB_get eDL_ok 30
theorem dL33 : decode code 33 = .ok (.aload_n 0, 1) := eOkB_get eDL_ok 33
theorem dL34 : decode code 34 = .ok (.iload 4, 2) := eOkB_get eDL_ok 34
theorem dL36 : decode code 36 = .ok (.iaload, 1) := eOkB_get eDL_ok 36
theorem dL37 : decode code 37 = .ok (.bipush 63, 2) := eOkB_get eDL_ok 37
theorem dL39 : decode code 39 = .ok (.iand, 1) := eOkB_get eDL_ok 39
def eOfs : Array Int := #[172, 245, 270, 283, 296, 364, 444, 481, 518, 543, 580, 629, 654, 691, 728, 741, 802, 863, 924, 973, 1022, 1102, 1151, 1164, 1177, 1214, 1227, 1288, 1325, 1386, 1399, 1436, 1497, 1522, 1547, 1560, 1585, 1610, 1635]
theorem dL40 : decode code 40 = .ok (.tableswitch 1660 0 38 eOfs, 172) := eOkB_get eDL_ok 40
theorem dL1706 : decode code 1706 = .ok (.iconst 1, 1) := eOkB_get eDL_ok 1706
theorem dL1707 : decode code 1707 = .ok (.ireturn, 1) := eOkB_get eDL_ok 1707
theorem eOfs_ok : ∀ j, j < 39 → eOfs[j]? = some ((eTgt j : Int) - 40) := by decide +kernel
theorem eI_nat {j : Nat} (h : j < 64) : (nI j).toInt = (j : Int) := by
  have h1 := eX_int (nI j)
  rw [eX_nI (by omega)] at h1
  have h2 : eBi j = j + 2147483648 := by show (j + 2147483648) % 4294967296 = _; omega
  omega
variable {p : Program} {l : Launch} {e : Env} {s : State} {m : MethodId} {below : List Frame} {meth : Method} {c : Code} {b L : Nat} {xs : Nat → Int32} {A : Nat → Prop} {H : Heap} {locs : List Loc} {cells slots : Nat} {ls : Array Slot} {Q : State → Prop}
theorem eOut (hx : p.tables.exec = Jvm.exec) (hb : c.code = code) (hr : meth.sig.returnType = ret) (hlk : meth.locks = false) (hA : ∀ q, A q → s.heap.size ≤ q) (hS : va_S A s.heap H locs) (hc : cells ≤ 600002) (hs : slots ≤ 7302232) : W p l e room_1 s m #[Value.ref b] below meth c H locs cells slots (lw_Z below #[Value.ref b] s) (F0 m 1706 ls []) :=
  va_forget (fun q hq => hA _ (hS.2.2 q hq)) (W.widen (k := 600002) (n := 7302232) hc hs (lv_iconst hx hb dL1706 (v := 1) (by decide) (lw_ret hx hb hr hlk dL1707)))
theorem eHd23 {i : Int32} (hx : p.tables.exec = Jvm.exec) (hb : c.code = code) (hl4 : ls[4]? = some (.val (.int i))) (hl0 : ls[0]? = some (.val (.ref b))) (hX : va_X b L xs s s.heap) (hbl : b < s.heap.size) (hbA : ¬ A b) (hS : va_S A s.heap H locs)
    (kt : Int32.ofNat L - 6 < i → W p l e room_1 s m #[Value.ref b] below meth c H locs cells slots Q (F0 m 1706 ls [])) (kf : ¬ Int32.ofNat L - 6 < i → W p l e room_1 s m #[Value.ref b] below meth c H locs cells slots Q (F0 m 33 ls [])) : W p l e room_1 s m #[Value.ref b] below meth c H locs cells slots Q (F0 m 23 ls []) :=
  lv_iload hx hb dL23 hl4 (lv_aload_n hx hb dL25 rfl hl0 (va_slen hx hb hX hbl hbA hS dL26 (lv_bipush hx hb dL27 (v := 6) (by decide) (lv_isub hx hb dL29 (lv_icmp_gt hx hb dL30 rfl kt kf)))))
theorem eHd33 (hx : p.tables.exec = Jvm.exec) (hb : c.code = code) (hl4 : ls[4]? = some (.val (.int 0))) (hl0 : ls[0]? = some (.val (.ref b))) (hX : va_X b 6 xs s s.heap) (hbl : b < s.heap.size) (hbA : ¬ A b) (hS : va_S A s.heap H locs)
    (kc : ∀ j, j < 39 → W p l e room_1 s m #[Value.ref b] below meth c H locs cells slots Q (F0 m (eTgt j) ls [])) (kd : W p l e room_1 s m #[Value.ref b] below meth c H locs cells slots Q (F0 m 1700 ls [])) : W p l e room_1 s m #[Value.ref b] below meth c H locs cells slots Q (F0 m 33 ls []) := by
  refine lv_aload_n hx hb dL33 rfl hl0 (lv_iload hx hb dL34 hl4 (va_sld hx hb hX hbl hbA hS (show vp_in 0 6 from vp_in_nI (n := 0) (by decide) (by decide)) dL36 (lv_bipush hx hb dL37 (v := 63) (by decide) (lv_iand hx hb dL39 ?_))))
  obtain ⟨j, hj, ej⟩ := pk_andE (xs (Int32.toNatClampNeg 0)) (m := 63) 6 (by decide)
  rw [ej]
  have hi := eI_nat (show j < 64 from hj)
  by_cases h39 : j < 39
  · exact lv_tableIn hx hb dL40 (by omega) (by omega) (by rw [hi, show ((j : Int) - 0).toNat = j from by omega]; exact eOfs_ok j h39) (by show (40 : Int) + ((eTgt j : Int) - 40) = _; omega) (kc j h39)
  · exact lv_tableOut hx hb dL40 (by omega) rfl kd
end EvSt1
