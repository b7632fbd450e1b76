set_option maxHeartbeats 4000000 in
set_option maxRecDepth 100000 in
theorem cC_P_takeAway (l : Launch) (dC : Nat → ClassId) (dI : Nat → Nat → Nat) (n : Nat) (ad : Nat → Nat) (cI cA : ClassId) (a : cq_S) (hB : cq_B2 a) (hn3 : 3 ≤ n) (hn5 : n ≤ 5) (h20 : a 20 0 = n) (i : Nat) (hi : i < a 23 0) (hc : a 23 0 ≤ gq_room n) : cq_CV l zy_P_takeAway zw_P_takeAway ({ frames := 1, cells := 0, slots := 0, locals := 18 }) (dC, dI) cq_cl (wC n ad cI cA) (tysC cI cA) a [.ref (ad 2), .int (nI i)] (fun u => u = gq_take a i) := by
  refine cq_CV.of (cc := zc_P_takeAway) (maxL := 2) (ret := none) (by decide) rfl (Nat.le_of_ble_eq_true rfl) ?_
  intro pr ev s mt args below meth cd A ls hx hb hrt hts hown hlocks hml hP hK hD hA hS hl
  have hown : s.vm.findClass zR_P = some mt.cls := hown
  have hl : lv_has ls 2 [(0, .ref (ad 2)), (1, .int (nI i))] := hl
  have hroom : gq_room n < 2147483648 := gq_room_lt hn5
  refine lv_aload_n hx hb zd_P_takeAway_0 rfl (lv_at hl 0 rfl) ?_
  refine lv_dup hx hb zd_P_takeAway_1 rfl ?_
  refine va_get (D := (dC, dI)) (ci := 2) (v := .int (nI (a 23 0))) (C := zR_P) (T := zT_P) (N := 2) hx hb hts zi_P hown hK hP 2 (wC_at 2 (by omega)) rfl 1 (by decide) (hts _ zf_P_19) (fun _ h9 => h9) rfl zd_P_takeAway_2 ?_
  refine lv_iconst (v := nI 1) hx hb zd_P_takeAway_5 (by decide) ?_
  refine cn_isub hx hb zd_P_takeAway_6 (by omega) ?_
  refine va_put (D := (dC, dI)) (ci := 2) (v := .int (nI ((a 23 0) - 1))) (ty := .int) (C := zR_P) (T := zT_P) (N := 2) hx hb hts zi_P zt_P zo_P zn_P hown hK hP hD hS 2 (wC_at 2 (by omega)) rfl 1 (by decide) (hts _ zf_P_19) (fun _ h9 => h9) rfl (by decide +kernel) rfl rfl (Nat.le_of_ble_eq_true rfl) zd_P_takeAway_7 (fun H locs hP hD hS => ?_)
  have hP : va_P (dC, dI) cq_cl (wC n ad cI cA (cq_p a 23 0 ((a 23 0) - 1))) H := (wC_sc23) ▸ hP
  have hD : va_D A (wC n ad cI cA (cq_p a 23 0 ((a 23 0) - 1))) := (wC_sc23) ▸ hD
  refine lv_aload_n hx hb zd_P_takeAway_10 rfl (lv_at hl 0 rfl) ?_
  refine va_get (D := (dC, dI)) (ci := 2) (v := .ref (ad 3)) (C := zR_P) (T := zT_P) (N := 2) hx hb hts zi_P hown hK hP 2 (wC_at 2 (by omega)) rfl 0 (by decide) (hts _ zf_P_15) (fun _ h9 => h9) rfl zd_P_takeAway_11 ?_
  refine lv_iload_n hx hb zd_P_takeAway_14 rfl (lv_at hl 1 rfl) ?_
  refine lv_iconst (v := nI 1) hx hb zd_P_takeAway_15 (by decide) ?_
  refine cn_iadd hx hb zd_P_takeAway_16 ?_
  refine lv_aload_n hx hb zd_P_takeAway_17 rfl (lv_at hl 0 rfl) ?_
  refine va_get (D := (dC, dI)) (ci := 2) (v := .ref (ad 3)) (C := zR_P) (T := zT_P) (N := 2) hx hb hts zi_P hown hK hP 2 (wC_at 2 (by omega)) rfl 0 (by decide) (hts _ zf_P_15) (fun _ h9 => h9) rfl zd_P_takeAway_18 ?_
  refine lv_iload_n hx hb zd_P_takeAway_21 rfl (lv_at hl 1 rfl) ?_
  refine lv_aload_n hx hb zd_P_takeAway_22 rfl (lv_at hl 0 rfl) ?_
  refine va_get (D := (dC, dI)) (ci := 2) (v := .int (nI ((a 23 0) - 1))) (C := zR_P) (T := zT_P) (N := 2) hx hb hts zi_P hown hK hP 2 (wC_at 2 (by omega)) rfl 1 (by decide) (hts _ zf_P_19) (fun _ h9 => h9) rfl zd_P_takeAway_23 ?_
  refine lv_iload_n hx hb zd_P_takeAway_26 rfl (lv_at hl 1 rfl) ?_
  refine cn_isub hx hb zd_P_takeAway_27 (by omega) ?_
  refine va_copyi (f := fun i => nI (a 24 i)) (g := fun i => nI (a 24 i)) (c0 := cI) (c1 := cI) (n0 := gq_room n) (n1 := gq_room n) (ty := .int) hx hb (hml.trans hl.1.symm) hown (hts _ zx_cpy) (hts _ zx_nat) (hts _ zx_sta) (hts _ zx_ini) hK hP hD hS 3 3 0 0 (wC_at 3 (by omega)) (wC_at 3 (by omega)) rfl rfl rfl (nI_pos (by omega)) (nI_pos (by omega)) (nI_pos (by omega)) (by rw [nI_clamp (by omega), nI_clamp (by omega)]; omega) (by rw [nI_clamp (by omega), nI_clamp (by omega)]; omega) (fun _ _ => rfl) (Nat.le_of_ble_eq_true rfl) (Nat.le_of_ble_eq_true rfl) zd_P_takeAway_28 (fun H locs hP hD hS => ?_)
  rw [nI_clamp (show i + 1 < 2 ^ 31 by omega), nI_clamp (show i < 2 ^ 31 by omega), nI_clamp (show a 23 0 - 1 - i < 2 ^ 31 by omega)] at hP hD
  have hP : va_P (dC, dI) cq_cl (wC n ad cI cA (gq_take a i)) H := (wC_take (n := n) (ad := ad) (cI := cI) (cA := cA) (g := a) (i := i)) ▸ hP
  have hD : va_D A (wC n ad cI cA (gq_take a i)) := (wC_take (n := n) (ad := ad) (cI := cI) (cA := cA) (g := a) (i := i)) ▸ hD
  exact cq_vret (u := (gq_take a i)) hx hb hrt hlocks hK hP hD hS rfl zd_P_takeAway_31

