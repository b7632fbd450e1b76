/-! java.lang.Integer.bitCount, at small numbers. -/
theorem zd_I_bitCount_0 : decode zc_I_bitCount 0 = .ok (.iload_n 0, 1) := by decide +kernel
theorem zd_I_bitCount_1 : decode zc_I_bitCount 1 = .ok (.iload_n 0, 1) := by decide +kernel
theorem zd_I_bitCount_2 : decode zc_I_bitCount 2 = .ok (.iconst 1, 1) := by decide +kernel
theorem zd_I_bitCount_3 : decode zc_I_bitCount 3 = .ok (.iushr, 1) := by decide +kernel
theorem zd_I_bitCount_4 : decode zc_I_bitCount 4 = .ok (.ldc_w 265, 3) := by decide +kernel
theorem zd_I_bitCount_7 : decode zc_I_bitCount 7 = .ok (.iand, 1) := by decide +kernel
theorem zd_I_bitCount_8 : decode zc_I_bitCount 8 = .ok (.isub, 1) := by decide +kernel
theorem zd_I_bitCount_9 : decode zc_I_bitCount 9 = .ok (.istore_n 0, 1) := by decide +kernel
theorem zd_I_bitCount_10 : decode zc_I_bitCount 10 = .ok (.iload_n 0, 1) := by decide +kernel
theorem zd_I_bitCount_11 : decode zc_I_bitCount 11 = .ok (.ldc_w 266, 3) := by decide +kernel
theorem zd_I_bitCount_14 : decode zc_I_bitCount 14 = .ok (.iand, 1) := by decide +kernel
theorem zd_I_bitCount_15 : decode zc_I_bitCount 15 = .ok (.iload_n 0, 1) := by decide +kernel
theorem zd_I_bitCount_16 : decode zc_I_bitCount 16 = .ok (.iconst 2, 1) := by decide +kernel
theorem zd_I_bitCount_17 : decode zc_I_bitCount 17 = .ok (.iushr, 1) := by decide +kernel
theorem zd_I_bitCount_18 : decode zc_I_bitCount 18 = .ok (.ldc_w 266, 3) := by decide +kernel
theorem zd_I_bitCount_21 : decode zc_I_bitCount 21 = .ok (.iand, 1) := by decide +kernel
theorem zd_I_bitCount_22 : decode zc_I_bitCount 22 = .ok (.iadd, 1) := by decide +kernel
theorem zd_I_bitCount_23 : decode zc_I_bitCount 23 = .ok (.istore_n 0, 1) := by decide +kernel
theorem zd_I_bitCount_24 : decode zc_I_bitCount 24 = .ok (.iload_n 0, 1) := by decide +kernel
theorem zd_I_bitCount_25 : decode zc_I_bitCount 25 = .ok (.iload_n 0, 1) := by decide +kernel
theorem zd_I_bitCount_26 : decode zc_I_bitCount 26 = .ok (.iconst 4, 1) := by decide +kernel
theorem zd_I_bitCount_27 : decode zc_I_bitCount 27 = .ok (.iushr, 1) := by decide +kernel
theorem zd_I_bitCount_28 : decode zc_I_bitCount 28 = .ok (.iadd, 1) := by decide +kernel
theorem zd_I_bitCount_29 : decode zc_I_bitCount 29 = .ok (.ldc_w 267, 3) := by decide +kernel
theorem zd_I_bitCount_32 : decode zc_I_bitCount 32 = .ok (.iand, 1) := by decide +kernel
theorem zd_I_bitCount_33 : decode zc_I_bitCount 33 = .ok (.istore_n 0, 1) := by decide +kernel
theorem zd_I_bitCount_34 : decode zc_I_bitCount 34 = .ok (.iload_n 0, 1) := by decide +kernel
theorem zd_I_bitCount_35 : decode zc_I_bitCount 35 = .ok (.iload_n 0, 1) := by decide +kernel
theorem zd_I_bitCount_36 : decode zc_I_bitCount 36 = .ok (.bipush 8, 2) := by decide +kernel
theorem zd_I_bitCount_38 : decode zc_I_bitCount 38 = .ok (.iushr, 1) := by decide +kernel
theorem zd_I_bitCount_39 : decode zc_I_bitCount 39 = .ok (.iadd, 1) := by decide +kernel
theorem zd_I_bitCount_40 : decode zc_I_bitCount 40 = .ok (.istore_n 0, 1) := by decide +kernel
theorem zd_I_bitCount_41 : decode zc_I_bitCount 41 = .ok (.iload_n 0, 1) := by decide +kernel
theorem zd_I_bitCount_42 : decode zc_I_bitCount 42 = .ok (.iload_n 0, 1) := by decide +kernel
theorem zd_I_bitCount_43 : decode zc_I_bitCount 43 = .ok (.bipush 16, 2) := by decide +kernel
theorem zd_I_bitCount_45 : decode zc_I_bitCount 45 = .ok (.iushr, 1) := by decide +kernel
theorem zd_I_bitCount_46 : decode zc_I_bitCount 46 = .ok (.iadd, 1) := by decide +kernel
theorem zd_I_bitCount_47 : decode zc_I_bitCount 47 = .ok (.istore_n 0, 1) := by decide +kernel
theorem zd_I_bitCount_48 : decode zc_I_bitCount 48 = .ok (.iload_n 0, 1) := by decide +kernel
theorem zd_I_bitCount_49 : decode zc_I_bitCount 49 = .ok (.bipush 63, 2) := by decide +kernel
theorem zd_I_bitCount_51 : decode zc_I_bitCount 51 = .ok (.iand, 1) := by decide +kernel
theorem zd_I_bitCount_52 : decode zc_I_bitCount 52 = .ok (.ireturn, 1) := by decide +kernel
def gq_b1 (y : Int32) : Int32 := y - ((y.toUInt32 >>> ((nI 1).toUInt32 &&& Int32.toUInt32 31)).toInt32 &&& 1431655765)
def gq_b2 (y : Int32) : Int32 := (y &&& 858993459) + ((y.toUInt32 >>> ((nI 2).toUInt32 &&& Int32.toUInt32 31)).toInt32 &&& 858993459)
def gq_b3 (y : Int32) : Int32 := (y + (y.toUInt32 >>> ((nI 4).toUInt32 &&& Int32.toUInt32 31)).toInt32) &&& 252645135
def gq_b4 (y : Int32) : Int32 := y + (y.toUInt32 >>> ((nI 8).toUInt32 &&& Int32.toUInt32 31)).toInt32
def gq_b5 (y : Int32) : Int32 := y + (y.toUInt32 >>> ((nI 16).toUInt32 &&& Int32.toUInt32 31)).toInt32
def gq_b6 (y : Int32) : Int32 := y &&& nI 63
theorem gq_bc : ∀ v, v < 32 → gq_b6 (gq_b5 (gq_b4 (gq_b3 (gq_b2 (gq_b1 (nI v)))))) = nI (gq_pc v) := by decide +kernel
set_option maxHeartbeats 4000000 in
set_option maxRecDepth 100000 in
theorem cC_I_bitCount (l : Launch) (dC : Nat → ClassId) (dI : Nat → Nat → Nat) (n : Nat) (ad : Nat → Nat) (cI cA : ClassId) (a : cq_S) (v : Nat) (hv : v < 32) : cq_CI l zy_I_bitCount zw_I_bitCount ({ frames := 0, cells := 0, slots := 0, locals := 0 }) (dC, dI) cq_cl (wC n ad cI cA) (tysC cI cA) a [.int (nI v)] (fun r0 u => r0 = nI (gq_pc v) ∧ u = a) := by
  refine cq_CI.of (cc := zc_I_bitCount) (maxL := 1) (ret := (some .int)) (by decide) rfl (Nat.le_of_ble_eq_true rfl) ?_
  intro pr ev s mt args below meth cd A ls hx hb hrt hts hown hlocks hml hP hK hD hA hS hl
  have hown : s.vm.findClass zR_I = some mt.cls := hown
  have hl : lv_has ls 1 [(0, .int (nI v))] := hl
  refine lv_iload_n hx hb zd_I_bitCount_0 rfl (lv_at hl 0 rfl) ?_
  refine lv_iload_n hx hb zd_I_bitCount_1 rfl (lv_at hl 0 rfl) ?_
  refine lv_iconst (v := nI 1) hx hb zd_I_bitCount_2 (by decide) ?_
  refine lv_iushr hx hb zd_I_bitCount_3 rfl ?_
  refine lv_ldcw (v := 1431655765) hx hb hown (hts _ zk_I_265) zd_I_bitCount_4 ?_
  refine lv_iand hx hb zd_I_bitCount_7 ?_
  refine lv_isub hx hb zd_I_bitCount_8 ?_
  refine cn_top (show _ = gq_b1 (nI v) from rfl) ?_
  refine lv_istore_n hx hb zd_I_bitCount_9 rfl hl (by decide) rfl (fun ls hl => ?_)
  have hl : lv_has ls 1 [(0, .int (gq_b1 (nI v)))] := hl
  refine lv_iload_n hx hb zd_I_bitCount_10 rfl (lv_at hl 0 rfl) ?_
  refine lv_ldcw (v := 858993459) hx hb hown (hts _ zk_I_266) zd_I_bitCount_11 ?_
  refine lv_iand hx hb zd_I_bitCount_14 ?_
  refine lv_iload_n hx hb zd_I_bitCount_15 rfl (lv_at hl 0 rfl) ?_
  refine lv_iconst (v := nI 2) hx hb zd_I_bitCount_16 (by decide) ?_
  refine lv_iushr hx hb zd_I_bitCount_17 rfl ?_
  refine lv_ldcw (v := 858993459) hx hb hown (hts _ zk_I_266) zd_I_bitCount_18 ?_
  refine lv_iand hx hb zd_I_bitCount_21 ?_
  refine lv_iadd hx hb zd_I_bitCount_22 ?_
  refine cn_top (show _ = gq_b2 (gq_b1 (nI v)) from rfl) ?_
  refine lv_istore_n hx hb zd_I_bitCount_23 rfl hl (by decide) rfl (fun ls hl => ?_)
  have hl : lv_has ls 1 [(0, .int (gq_b2 (gq_b1 (nI v))))] := hl
  refine lv_iload_n hx hb zd_I_bitCount_24 rfl (lv_at hl 0 rfl) ?_
  refine lv_iload_n hx hb zd_I_bitCount_25 rfl (lv_at hl 0 rfl) ?_
  refine lv_iconst (v := nI 4) hx hb zd_I_bitCount_26 (by decide) ?_
  refine lv_iushr hx hb zd_I_bitCount_27 rfl ?_
  refine lv_iadd hx hb zd_I_bitCount_28 ?_
  refine lv_ldcw (v := 252645135) hx hb hown (hts _ zk_I_267) zd_I_bitCount_29 ?_
  refine lv_iand hx hb zd_I_bitCount_32 ?_
  refine cn_top (show _ = gq_b3 (gq_b2 (gq_b1 (nI v))) from rfl) ?_
  refine lv_istore_n hx hb zd_I_bitCount_33 rfl hl (by decide) rfl (fun ls hl => ?_)
  have hl : lv_has ls 1 [(0, .int (gq_b3 (gq_b2 (gq_b1 (nI v)))))] := hl
  refine lv_iload_n hx hb zd_I_bitCount_34 rfl (lv_at hl 0 rfl) ?_
  refine lv_iload_n hx hb zd_I_bitCount_35 rfl (lv_at hl 0 rfl) ?_
  refine lv_bipush (v := nI 8) hx hb zd_I_bitCount_36 (by decide) ?_
  refine lv_iushr hx hb zd_I_bitCount_38 rfl ?_
  refine lv_iadd hx hb zd_I_bitCount_39 ?_
  refine cn_top (show _ = gq_b4 (gq_b3 (gq_b2 (gq_b1 (nI v)))) from rfl) ?_
  refine lv_istore_n hx hb zd_I_bitCount_40 rfl hl (by decide) rfl (fun ls hl => ?_)
  have hl : lv_has ls 1 [(0, .int (gq_b4 (gq_b3 (gq_b2 (gq_b1 (nI v))))))] := hl
  refine lv_iload_n hx hb zd_I_bitCount_41 rfl (lv_at hl 0 rfl) ?_
  refine lv_iload_n hx hb zd_I_bitCount_42 rfl (lv_at hl 0 rfl) ?_
  refine lv_bipush (v := nI 16) hx hb zd_I_bitCount_43 (by decide) ?_
  refine lv_iushr hx hb zd_I_bitCount_45 rfl ?_
  refine lv_iadd hx hb zd_I_bitCount_46 ?_
  refine cn_top (show _ = gq_b5 (gq_b4 (gq_b3 (gq_b2 (gq_b1 (nI v))))) from rfl) ?_
  refine lv_istore_n hx hb zd_I_bitCount_47 rfl hl (by decide) rfl (fun ls hl => ?_)
  have hl : lv_has ls 1 [(0, .int (gq_b5 (gq_b4 (gq_b3 (gq_b2 (gq_b1 (nI v)))))))] := hl
  refine lv_iload_n hx hb zd_I_bitCount_48 rfl (lv_at hl 0 rfl) ?_
  refine lv_bipush (v := nI 63) hx hb zd_I_bitCount_49 (by decide) ?_
  refine lv_iand hx hb zd_I_bitCount_51 ?_
  refine cn_top (show _ = nI (gq_pc v) from gq_bc v hv) ?_
  exact cq_ret (u := a) hx hb hrt ⟨_, rfl, rfl⟩ hlocks hK hP hD hS ⟨rfl, rfl⟩ zd_I_bitCount_52
