set_option maxHeartbeats 4000000 in
set_option maxRecDepth 100000 in
theorem cC_C_finished (l : Launch) (dC : Nat → ClassId) (dI : Nat → Nat → Nat) (n : Nat) (ad : Nat → Nat) (cI cA : ClassId) (a : cq_S) (hbas : gq_bas n a) (x : Int32) : cq_CI l zy_C_finished zw_C_finished ({ frames := 1, cells := 0, slots := 0, locals := 21 }) (dC, dI) cq_cl (wC n ad cI cA) (tysC cI cA) a [.ref (ad 0), .int x] (fun r0 u => r0 = mq_get a 4 x ∧ u = a) := by
  refine cq_CI.of (cc := zc_C_finished) (maxL := 2) (ret := (some .int)) (by decide) rfl (Nat.le_of_ble_eq_true rfl) ?_
  intro pr ev s mt args below meth cd A ls hx hb hrt hts hown hlocks hml hP hK hD hA hS hl
  have hown : s.vm.findClass zR_C = some mt.cls := hown
  have hl : lv_has ls 2 [(0, .ref (ad 0)), (1, .int x)] := hl
  obtain ⟨hB, hn3, hn5, h20, hcr, hmde, hgn, hpp, hvd⟩ := hbas
  have hB20 : a 20 0 < 2147483648 := by omega
  refine lv_aload_n hx hb zd_C_finished_0 rfl (lv_at hl 0 rfl) ?_
  refine lv_iload_n hx hb zd_C_finished_1 rfl (lv_at hl 1 rfl) ?_
  refine cq_callI (C := zR_C) (As := [.int x]) (rest := []) ⟨hx, hb, hml, hown, hts⟩ (cC_C_isProcess l dC dI n ad cI cA a x hn3) (cq_cw 1 hts zm_C_isProcess zl_C_45 zs_C_isProcess ze_C_isProcess zz_C rfl rfl (by decide +kernel) ⟨Nat.le_of_ble_eq_true rfl, Nat.le_of_ble_eq_true rfl⟩) hK hP hD hS hA 0 (wC_at 0 (by omega)) rfl rfl hl.1 rfl (Nat.le_of_ble_eq_true rfl) zd_C_finished_2 ⟨Nat.zero_le _, Nat.zero_le _⟩ (fun r0 u H locs hu hP hD hS => ?_)
  obtain ⟨hr0, hue⟩ := hu
  subst hr0
  rw [hue] at hP hD
  clear hue
  refine cn_if_eq (tgt := 20) hx hb zd_C_finished_5 (by decide) (gq_is_2 _ _) (fun c1 => ?_) (fun c1 => ?_)
  · refine lv_iconst (v := -1) hx hb zd_C_finished_20 (by decide) ?_
    exact cq_ret (u := a) hx hb hrt ⟨_, rfl, rfl⟩ hlocks hK hP hD hS ⟨by simp only [mq_get, gq_is_0 c1], rfl⟩ zd_C_finished_21
  · obtain ⟨p, hp0, rfl⟩ := gq_is_1 hB20 c1
    have hp : p < n := by omega
    refine lv_aload_n hx hb zd_C_finished_8 rfl (lv_at hl 0 rfl) ?_
    refine va_get (D := (dC, dI)) (ci := 0) (v := .ref (ad 1)) (C := zR_C) (T := zT_C) (N := 6) hx hb hts zi_C hown hK hP 0 (wC_at 0 (by omega)) rfl 1 (by decide) (hts _ zf_C_24) (fun _ h9 => h9) rfl zd_C_finished_9 ?_
    refine lv_iload_n hx hb zd_C_finished_12 rfl (lv_at hl 1 rfl) ?_
    refine cn_aald hx hb hK hP 1 1 (wC_at 1 (by omega)) rfl hp (by omega) zd_C_finished_13 ?_
    refine va_get (D := (dC, dI)) (ci := 1) (v := .int (nI (a 4 p))) (C := zR_M) (T := zT_M) (N := 12) hx hb hts zi_M hown hK hP (9 + 3 * p) (wC_m hp) rfl 6 (by decide) (hts _ zf_C_106) (fun _ h9 => h9) rfl zd_C_finished_14 ?_
    refine lv_goto (tgt := 21) hx hb zd_C_finished_17 (by decide) ?_
    exact cq_ret (u := a) hx hb hrt ⟨_, rfl, rfl⟩ hlocks hK hP hD hS ⟨by simp only [mq_get, cq_id_nI hp0 hB20], rfl⟩ zd_C_finished_21

set_option maxHeartbeats 4000000 in
set_option maxRecDepth 100000 in
theorem cC_C_round (l : Launch) (dC : Nat → ClassId) (dI : Nat → Nat → Nat) (n : Nat) (ad : Nat → Nat) (cI cA : ClassId) (a : cq_S) (hbas : gq_bas n a) (x : Int32) : cq_CI l zy_C_round zw_C_round ({ frames := 1, cells := 0, slots := 0, locals := 21 }) (dC, dI) cq_cl (wC n ad cI cA) (tysC cI cA) a [.ref (ad 0), .int x] (fun r0 u => r0 = mq_get a 8 x ∧ u = a) := by
  refine cq_CI.of (cc := zc_C_round) (maxL := 2) (ret := (some .int)) (by decide) rfl (Nat.le_of_ble_eq_true rfl) ?_
  intro pr ev s mt args below meth cd A ls hx hb hrt hts hown hlocks hml hP hK hD hA hS hl
  have hown : s.vm.findClass zR_C = some mt.cls := hown
  have hl : lv_has ls 2 [(0, .ref (ad 0)), (1, .int x)] := hl
  obtain ⟨hB, hn3, hn5, h20, hcr, hmde, hgn, hpp, hvd⟩ := hbas
  have hB20 : a 20 0 < 2147483648 := by omega
  refine lv_aload_n hx hb zd_C_round_0 rfl (lv_at hl 0 rfl) ?_
  refine lv_iload_n hx hb zd_C_round_1 rfl (lv_at hl 1 rfl) ?_
  refine cq_callI (C := zR_C) (As := [.int x]) (rest := []) ⟨hx, hb, hml, hown, hts⟩ (cC_C_isProcess l dC dI n ad cI cA a x hn3) (cq_cw 1 hts zm_C_isProcess zl_C_45 zs_C_isProcess ze_C_isProcess zz_C rfl rfl (by decide +kernel) ⟨Nat.le_of_ble_eq_true rfl, Nat.le_of_ble_eq_true rfl⟩) hK hP hD hS hA 0 (wC_at 0 (by omega)) rfl rfl hl.1 rfl (Nat.le_of_ble_eq_true rfl) zd_C_round_2 ⟨Nat.zero_le _, Nat.zero_le _⟩ (fun r0 u H locs hu hP hD hS => ?_)
  obtain ⟨hr0, hue⟩ := hu
  subst hr0
  rw [hue] at hP hD
  clear hue
  refine cn_if_eq (tgt := 20) hx hb zd_C_round_5 (by decide) (gq_is_2 _ _) (fun c1 => ?_) (fun c1 => ?_)
  · refine lv_iconst (v := -1) hx hb zd_C_round_20 (by decide) ?_
    exact cq_ret (u := a) hx hb hrt ⟨_, rfl, rfl⟩ hlocks hK hP hD hS ⟨by simp only [mq_get, gq_is_0 c1], rfl⟩ zd_C_round_21
  · obtain ⟨p, hp0, rfl⟩ := gq_is_1 hB20 c1
    have hp : p < n := by omega
    refine lv_aload_n hx hb zd_C_round_8 rfl (lv_at hl 0 rfl) ?_
    refine va_get (D := (dC, dI)) (ci := 0) (v := .ref (ad 1)) (C := zR_C) (T := zT_C) (N := 6) hx hb hts zi_C hown hK hP 0 (wC_at 0 (by omega)) rfl 1 (by decide) (hts _ zf_C_24) (fun _ h9 => h9) rfl zd_C_round_9 ?_
    refine lv_iload_n hx hb zd_C_round_12 rfl (lv_at hl 1 rfl) ?_
    refine cn_aald hx hb hK hP 1 1 (wC_at 1 (by omega)) rfl hp (by omega) zd_C_round_13 ?_
    refine va_get (D := (dC, dI)) (ci := 1) (v := .int (nI (a 8 p))) (C := zR_M) (T := zT_M) (N := 12) hx hb hts zi_M hown hK hP (9 + 3 * p) (wC_m hp) rfl 8 (by decide) (hts _ zf_C_109) (fun _ h9 => h9) rfl zd_C_round_14 ?_
    refine lv_goto (tgt := 21) hx hb zd_C_round_17 (by decide) ?_
    exact cq_ret (u := a) hx hb hrt ⟨_, rfl, rfl⟩ hlocks hK hP hD hS ⟨by simp only [mq_get, cq_id_nI hp0 hB20], rfl⟩ zd_C_round_21

set_option maxHeartbeats 4000000 in
set_option maxRecDepth 100000 in
theorem cC_C_estimate (l : Launch) (dC : Nat → ClassId) (dI : Nat → Nat → Nat) (n : Nat) (ad : Nat → Nat) (cI cA : ClassId) (a : cq_S) (hbas : gq_bas n a) (x : Int32) : cq_CI l zy_C_estimate zw_C_estimate ({ frames := 1, cells := 0, slots := 0, locals := 21 }) (dC, dI) cq_cl (wC n ad cI cA) (tysC cI cA) a [.ref (ad 0), .int x] (fun r0 u => r0 = mq_get a 9 x ∧ u = a) := by
  refine cq_CI.of (cc := zc_C_estimate) (maxL := 2) (ret := (some .int)) (by decide) rfl (Nat.le_of_ble_eq_true rfl) ?_
  intro pr ev s mt args below meth cd A ls hx hb hrt hts hown hlocks hml hP hK hD hA hS hl
  have hown : s.vm.findClass zR_C = some mt.cls := hown
  have hl : lv_has ls 2 [(0, .ref (ad 0)), (1, .int x)] := hl
  obtain ⟨hB, hn3, hn5, h20, hcr, hmde, hgn, hpp, hvd⟩ := hbas
  have hB20 : a 20 0 < 2147483648 := by omega
  refine lv_aload_n hx hb zd_C_estimate_0 rfl (lv_at hl 0 rfl) ?_
  refine lv_iload_n hx hb zd_C_estimate_1 rfl (lv_at hl 1 rfl) ?_
  refine cq_callI (C := zR_C) (As := [.int x]) (rest := []) ⟨hx, hb, hml, hown, hts⟩ (cC_C_isProcess l dC dI n ad cI cA a x hn3) (cq_cw 1 hts zm_C_isProcess zl_C_45 zs_C_isProcess ze_C_isProcess zz_C rfl rfl (by decide +kernel) ⟨Nat.le_of_ble_eq_true rfl, Nat.le_of_ble_eq_true rfl⟩) hK hP hD hS hA 0 (wC_at 0 (by omega)) rfl rfl hl.1 rfl (Nat.le_of_ble_eq_true rfl) zd_C_estimate_2 ⟨Nat.zero_le _, Nat.zero_le _⟩ (fun r0 u H locs hu hP hD hS => ?_)
  obtain ⟨hr0, hue⟩ := hu
  subst hr0
  rw [hue] at hP hD
  clear hue
  refine cn_if_eq (tgt := 20) hx hb zd_C_estimate_5 (by decide) (gq_is_2 _ _) (fun c1 => ?_) (fun c1 => ?_)
  · refine lv_iconst (v := -1) hx hb zd_C_estimate_20 (by decide) ?_
    exact cq_ret (u := a) hx hb hrt ⟨_, rfl, rfl⟩ hlocks hK hP hD hS ⟨by simp only [mq_get, gq_is_0 c1], rfl⟩ zd_C_estimate_21
  · obtain ⟨p, hp0, rfl⟩ := gq_is_1 hB20 c1
    have hp : p < n := by omega
    refine lv_aload_n hx hb zd_C_estimate_8 rfl (lv_at hl 0 rfl) ?_
    refine va_get (D := (dC, dI)) (ci := 0) (v := .ref (ad 1)) (C := zR_C) (T := zT_C) (N := 6) hx hb hts zi_C hown hK hP 0 (wC_at 0 (by omega)) rfl 1 (by decide) (hts _ zf_C_24) (fun _ h9 => h9) rfl zd_C_estimate_9 ?_
    refine lv_iload_n hx hb zd_C_estimate_12 rfl (lv_at hl 1 rfl) ?_
    refine cn_aald hx hb hK hP 1 1 (wC_at 1 (by omega)) rfl hp (by omega) zd_C_estimate_13 ?_
    refine va_get (D := (dC, dI)) (ci := 1) (v := .int (nI (a 9 p))) (C := zR_M) (T := zT_M) (N := 12) hx hb hts zi_M hown hK hP (9 + 3 * p) (wC_m hp) rfl 9 (by decide) (hts _ zf_C_112) (fun _ h9 => h9) rfl zd_C_estimate_14 ?_
    refine lv_goto (tgt := 21) hx hb zd_C_estimate_17 (by decide) ?_
    exact cq_ret (u := a) hx hb hrt ⟨_, rfl, rfl⟩ hlocks hK hP hD hS ⟨by simp only [mq_get, cq_id_nI hp0 hB20], rfl⟩ zd_C_estimate_21

set_option maxHeartbeats 4000000 in
set_option maxRecDepth 100000 in
theorem cC_C_stamp (l : Launch) (dC : Nat → ClassId) (dI : Nat → Nat → Nat) (n : Nat) (ad : Nat → Nat) (cI cA : ClassId) (a : cq_S) (hbas : gq_bas n a) (x : Int32) : cq_CI l zy_C_stamp zw_C_stamp ({ frames := 1, cells := 0, slots := 0, locals := 21 }) (dC, dI) cq_cl (wC n ad cI cA) (tysC cI cA) a [.ref (ad 0), .int x] (fun r0 u => r0 = mq_get a 10 x ∧ u = a) := by
  refine cq_CI.of (cc := zc_C_stamp) (maxL := 2) (ret := (some .int)) (by decide) rfl (Nat.le_of_ble_eq_true rfl) ?_
  intro pr ev s mt args below meth cd A ls hx hb hrt hts hown hlocks hml hP hK hD hA hS hl
  have hown : s.vm.findClass zR_C = some mt.cls := hown
  have hl : lv_has ls 2 [(0, .ref (ad 0)), (1, .int x)] := hl
  obtain ⟨hB, hn3, hn5, h20, hcr, hmde, hgn, hpp, hvd⟩ := hbas
  have hB20 : a 20 0 < 2147483648 := by omega
  refine lv_aload_n hx hb zd_C_stamp_0 rfl (lv_at hl 0 rfl) ?_
  refine lv_iload_n hx hb zd_C_stamp_1 rfl (lv_at hl 1 rfl) ?_
  refine cq_callI (C := zR_C) (As := [.int x]) (rest := []) ⟨hx, hb, hml, hown, hts⟩ (cC_C_isProcess l dC dI n ad cI cA a x hn3) (cq_cw 1 hts zm_C_isProcess zl_C_45 zs_C_isProcess ze_C_isProcess zz_C rfl rfl (by decide +kernel) ⟨Nat.le_of_ble_eq_true rfl, Nat.le_of_ble_eq_true rfl⟩) hK hP hD hS hA 0 (wC_at 0 (by omega)) rfl rfl hl.1 rfl (Nat.le_of_ble_eq_true rfl) zd_C_stamp_2 ⟨Nat.zero_le _, Nat.zero_le _⟩ (fun r0 u H locs hu hP hD hS => ?_)
  obtain ⟨hr0, hue⟩ := hu
  subst hr0
  rw [hue] at hP hD
  clear hue
  refine cn_if_eq (tgt := 20) hx hb zd_C_stamp_5 (by decide) (gq_is_2 _ _) (fun c1 => ?_) (fun c1 => ?_)
  · refine lv_iconst (v := -1) hx hb zd_C_stamp_20 (by decide) ?_
    exact cq_ret (u := a) hx hb hrt ⟨_, rfl, rfl⟩ hlocks hK hP hD hS ⟨by simp only [mq_get, gq_is_0 c1], rfl⟩ zd_C_stamp_21
  · obtain ⟨p, hp0, rfl⟩ := gq_is_1 hB20 c1
    have hp : p < n := by omega
    refine lv_aload_n hx hb zd_C_stamp_8 rfl (lv_at hl 0 rfl) ?_
    refine va_get (D := (dC, dI)) (ci := 0) (v := .ref (ad 1)) (C := zR_C) (T := zT_C) (N := 6) hx hb hts zi_C hown hK hP 0 (wC_at 0 (by omega)) rfl 1 (by decide) (hts _ zf_C_24) (fun _ h9 => h9) rfl zd_C_stamp_9 ?_
    refine lv_iload_n hx hb zd_C_stamp_12 rfl (lv_at hl 1 rfl) ?_
    refine cn_aald hx hb hK hP 1 1 (wC_at 1 (by omega)) rfl hp (by omega) zd_C_stamp_13 ?_
    refine va_get (D := (dC, dI)) (ci := 1) (v := .int (nI (a 10 p))) (C := zR_M) (T := zT_M) (N := 12) hx hb hts zi_M hown hK hP (9 + 3 * p) (wC_m hp) rfl 10 (by decide) (hts _ zf_C_115) (fun _ h9 => h9) rfl zd_C_stamp_14 ?_
    refine lv_goto (tgt := 21) hx hb zd_C_stamp_17 (by decide) ?_
    exact cq_ret (u := a) hx hb hrt ⟨_, rfl, rfl⟩ hlocks hK hP hD hS ⟨by simp only [mq_get, cq_id_nI hp0 hB20], rfl⟩ zd_C_stamp_21

set_option maxHeartbeats 4000000 in
set_option maxRecDepth 100000 in
theorem cC_C_known (l : Launch) (dC : Nat → ClassId) (dI : Nat → Nat → Nat) (n : Nat) (ad : Nat → Nat) (cI cA : ClassId) (a : cq_S) (hbas : gq_bas n a) (x : Int32) : cq_CI l zy_C_known zw_C_known ({ frames := 1, cells := 0, slots := 0, locals := 21 }) (dC, dI) cq_cl (wC n ad cI cA) (tysC cI cA) a [.ref (ad 0), .int x] (fun r0 u => r0 = mq_get a 0 x ∧ u = a) := by
  refine cq_CI.of (cc := zc_C_known) (maxL := 2) (ret := (some .int)) (by decide) rfl (Nat.le_of_ble_eq_true rfl) ?_
  intro pr ev s mt args below meth cd A ls hx hb hrt hts hown hlocks hml hP hK hD hA hS hl
  have hown : s.vm.findClass zR_C = some mt.cls := hown
  have hl : lv_has ls 2 [(0, .ref (ad 0)), (1, .int x)] := hl
  obtain ⟨hB, hn3, hn5, h20, hcr, hmde, hgn, hpp, hvd⟩ := hbas
  have hB20 : a 20 0 < 2147483648 := by omega
  refine lv_aload_n hx hb zd_C_known_0 rfl (lv_at hl 0 rfl) ?_
  refine lv_iload_n hx hb zd_C_known_1 rfl (lv_at hl 1 rfl) ?_
  refine cq_callI (C := zR_C) (As := [.int x]) (rest := []) ⟨hx, hb, hml, hown, hts⟩ (cC_C_isProcess l dC dI n ad cI cA a x hn3) (cq_cw 1 hts zm_C_isProcess zl_C_45 zs_C_isProcess ze_C_isProcess zz_C rfl rfl (by decide +kernel) ⟨Nat.le_of_ble_eq_true rfl, Nat.le_of_ble_eq_true rfl⟩) hK hP hD hS hA 0 (wC_at 0 (by omega)) rfl rfl hl.1 rfl (Nat.le_of_ble_eq_true rfl) zd_C_known_2 ⟨Nat.zero_le _, Nat.zero_le _⟩ (fun r0 u H locs hu hP hD hS => ?_)
  obtain ⟨hr0, hue⟩ := hu
  subst hr0
  rw [hue] at hP hD
  clear hue
  refine cn_if_eq (tgt := 20) hx hb zd_C_known_5 (by decide) (gq_is_2 _ _) (fun c1 => ?_) (fun c1 => ?_)
  · refine lv_iconst (v := -1) hx hb zd_C_known_20 (by decide) ?_
    exact cq_ret (u := a) hx hb hrt ⟨_, rfl, rfl⟩ hlocks hK hP hD hS ⟨by simp only [mq_get, gq_is_0 c1], rfl⟩ zd_C_known_21
  · obtain ⟨p, hp0, rfl⟩ := gq_is_1 hB20 c1
    have hp : p < n := by omega
    refine lv_aload_n hx hb zd_C_known_8 rfl (lv_at hl 0 rfl) ?_
    refine va_get (D := (dC, dI)) (ci := 0) (v := .ref (ad 1)) (C := zR_C) (T := zT_C) (N := 6) hx hb hts zi_C hown hK hP 0 (wC_at 0 (by omega)) rfl 1 (by decide) (hts _ zf_C_24) (fun _ h9 => h9) rfl zd_C_known_9 ?_
    refine lv_iload_n hx hb zd_C_known_12 rfl (lv_at hl 1 rfl) ?_
    refine cn_aald hx hb hK hP 1 1 (wC_at 1 (by omega)) rfl hp (by omega) zd_C_known_13 ?_
    refine va_get (D := (dC, dI)) (ci := 1) (v := .int (nI (a 0 p))) (C := zR_M) (T := zT_M) (N := 12) hx hb hts zi_M hown hK hP (9 + 3 * p) (wC_m hp) rfl 2 (by decide) (hts _ zf_C_118) (fun _ h9 => h9) rfl zd_C_known_14 ?_
    refine lv_goto (tgt := 21) hx hb zd_C_known_17 (by decide) ?_
    exact cq_ret (u := a) hx hb hrt ⟨_, rfl, rfl⟩ hlocks hK hP hD hS ⟨by simp only [mq_get, cq_id_nI hp0 hB20], rfl⟩ zd_C_known_21

set_option maxHeartbeats 4000000 in
set_option maxRecDepth 100000 in
theorem cC_C_delivered (l : Launch) (dC : Nat → ClassId) (dI : Nat → Nat → Nat) (n : Nat) (ad : Nat → Nat) (cI cA : ClassId) (a : cq_S) (hbas : gq_bas n a) (x : Int32) : cq_CI l zy_C_delivered zw_C_delivered ({ frames := 1, cells := 0, slots := 0, locals := 21 }) (dC, dI) cq_cl (wC n ad cI cA) (tysC cI cA) a [.ref (ad 0), .int x] (fun r0 u => r0 = mq_get a 2 x ∧ u = a) := by
  refine cq_CI.of (cc := zc_C_delivered) (maxL := 2) (ret := (some .int)) (by decide) rfl (Nat.le_of_ble_eq_true rfl) ?_
  intro pr ev s mt args below meth cd A ls hx hb hrt hts hown hlocks hml hP hK hD hA hS hl
  have hown : s.vm.findClass zR_C = some mt.cls := hown
  have hl : lv_has ls 2 [(0, .ref (ad 0)), (1, .int x)] := hl
  obtain ⟨hB, hn3, hn5, h20, hcr, hmde, hgn, hpp, hvd⟩ := hbas
  have hB20 : a 20 0 < 2147483648 := by omega
  refine lv_aload_n hx hb zd_C_delivered_0 rfl (lv_at hl 0 rfl) ?_
  refine lv_iload_n hx hb zd_C_delivered_1 rfl (lv_at hl 1 rfl) ?_
  refine cq_callI (C := zR_C) (As := [.int x]) (rest := []) ⟨hx, hb, hml, hown, hts⟩ (cC_C_isProcess l dC dI n ad cI cA a x hn3) (cq_cw 1 hts zm_C_isProcess zl_C_45 zs_C_isProcess ze_C_isProcess zz_C rfl rfl (by decide +kernel) ⟨Nat.le_of_ble_eq_true rfl, Nat.le_of_ble_eq_true rfl⟩) hK hP hD hS hA 0 (wC_at 0 (by omega)) rfl rfl hl.1 rfl (Nat.le_of_ble_eq_true rfl) zd_C_delivered_2 ⟨Nat.zero_le _, Nat.zero_le _⟩ (fun r0 u H locs hu hP hD hS => ?_)
  obtain ⟨hr0, hue⟩ := hu
  subst hr0
  rw [hue] at hP hD
  clear hue
  refine cn_if_eq (tgt := 20) hx hb zd_C_delivered_5 (by decide) (gq_is_2 _ _) (fun c1 => ?_) (fun c1 => ?_)
  · refine lv_iconst (v := -1) hx hb zd_C_delivered_20 (by decide) ?_
    exact cq_ret (u := a) hx hb hrt ⟨_, rfl, rfl⟩ hlocks hK hP hD hS ⟨by simp only [mq_get, gq_is_0 c1], rfl⟩ zd_C_delivered_21
  · obtain ⟨p, hp0, rfl⟩ := gq_is_1 hB20 c1
    have hp : p < n := by omega
    refine lv_aload_n hx hb zd_C_delivered_8 rfl (lv_at hl 0 rfl) ?_
    refine va_get (D := (dC, dI)) (ci := 0) (v := .ref (ad 1)) (C := zR_C) (T := zT_C) (N := 6) hx hb hts zi_C hown hK hP 0 (wC_at 0 (by omega)) rfl 1 (by decide) (hts _ zf_C_24) (fun _ h9 => h9) rfl zd_C_delivered_9 ?_
    refine lv_iload_n hx hb zd_C_delivered_12 rfl (lv_at hl 1 rfl) ?_
    refine cn_aald hx hb hK hP 1 1 (wC_at 1 (by omega)) rfl hp (by omega) zd_C_delivered_13 ?_
    refine va_get (D := (dC, dI)) (ci := 1) (v := .int (nI (a 2 p))) (C := zR_M) (T := zT_M) (N := 12) hx hb hts zi_M hown hK hP (9 + 3 * p) (wC_m hp) rfl 4 (by decide) (hts _ zf_C_121) (fun _ h9 => h9) rfl zd_C_delivered_14 ?_
    refine lv_goto (tgt := 21) hx hb zd_C_delivered_17 (by decide) ?_
    exact cq_ret (u := a) hx hb hrt ⟨_, rfl, rfl⟩ hlocks hK hP hD hS ⟨by simp only [mq_get, cq_id_nI hp0 hB20], rfl⟩ zd_C_delivered_21

set_option maxHeartbeats 4000000 in
set_option maxRecDepth 100000 in
theorem cC_C_state (l : Launch) (dC : Nat → ClassId) (dI : Nat → Nat → Nat) (n : Nat) (ad : Nat → Nat) (cI cA : ClassId) (a : cq_S) (hbas : gq_bas n a) (x : Int32) : cq_CI l zy_C_state zw_C_state ({ frames := 1, cells := 0, slots := 0, locals := 21 }) (dC, dI) cq_cl (wC n ad cI cA) (tysC cI cA) a [.ref (ad 0), .int x] (fun r0 u => r0 = mq_state a x ∧ u = a) := by
  refine cq_CI.of (cc := zc_C_state) (maxL := 2) (ret := (some .int)) (by decide) rfl (Nat.le_of_ble_eq_true rfl) ?_
  intro pr ev s mt args below meth cd A ls hx hb hrt hts hown hlocks hml hP hK hD hA hS hl
  have hown : s.vm.findClass zR_C = some mt.cls := hown
  have hl : lv_has ls 2 [(0, .ref (ad 0)), (1, .int x)] := hl
  obtain ⟨hB, hn3, hn5, h20, hcr, hmde, hgn, hpp, hvd⟩ := hbas
  have hB20 : a 20 0 < 2147483648 := by omega
  refine lv_aload_n hx hb zd_C_state_0 rfl (lv_at hl 0 rfl) ?_
  refine lv_iload_n hx hb zd_C_state_1 rfl (lv_at hl 1 rfl) ?_
  refine cq_callI (C := zR_C) (As := [.int x]) (rest := []) ⟨hx, hb, hml, hown, hts⟩ (cC_C_isProcess l dC dI n ad cI cA a x hn3) (cq_cw 1 hts zm_C_isProcess zl_C_45 zs_C_isProcess ze_C_isProcess zz_C rfl rfl (by decide +kernel) ⟨Nat.le_of_ble_eq_true rfl, Nat.le_of_ble_eq_true rfl⟩) hK hP hD hS hA 0 (wC_at 0 (by omega)) rfl rfl hl.1 rfl (Nat.le_of_ble_eq_true rfl) zd_C_state_2 ⟨Nat.zero_le _, Nat.zero_le _⟩ (fun r0 u H locs hu hP hD hS => ?_)
  obtain ⟨hr0, hue⟩ := hu
  subst hr0
  rw [hue] at hP hD
  clear hue
  refine cn_if_ne (tgt := 10) hx hb zd_C_state_5 (by decide) (gq_is_2 _ _) (fun c1 => ?_) (fun c1 => ?_)
  · obtain ⟨p, hp0, rfl⟩ := gq_is_1 hB20 c1
    have hp : p < n := by omega
    refine lv_aload_n hx hb zd_C_state_10 rfl (lv_at hl 0 rfl) ?_
    refine va_get (D := (dC, dI)) (ci := 0) (v := .ref (ad 1)) (C := zR_C) (T := zT_C) (N := 6) hx hb hts zi_C hown hK hP 0 (wC_at 0 (by omega)) rfl 1 (by decide) (hts _ zf_C_24) (fun _ h9 => h9) rfl zd_C_state_11 ?_
    refine lv_iload_n hx hb zd_C_state_14 rfl (lv_at hl 1 rfl) ?_
    refine cn_aald hx hb hK hP 1 1 (wC_at 1 (by omega)) rfl hp (by omega) zd_C_state_15 ?_
    refine va_get (D := (dC, dI)) (ci := 1) (v := .int (nI (a 11 p))) (C := zR_M) (T := zT_M) (N := 12) hx hb hts zi_M hown hK hP (9 + 3 * p) (wC_m hp) rfl 11 (by decide) (hts _ zf_C_49) (fun _ h9 => h9) rfl zd_C_state_16 ?_
    refine cn_if_eq (tgt := 26) hx hb zd_C_state_19 (by decide) (hB _ _ (by decide)) (fun c2 => ?_) (fun c2 => ?_)
    · refine lv_aload_n hx hb zd_C_state_26 rfl (lv_at hl 0 rfl) ?_
      refine va_get (D := (dC, dI)) (ci := 0) (v := .ref (ad 1)) (C := zR_C) (T := zT_C) (N := 6) hx hb hts zi_C hown hK hP 0 (wC_at 0 (by omega)) rfl 1 (by decide) (hts _ zf_C_24) (fun _ h9 => h9) rfl zd_C_state_27 ?_
      refine lv_iload_n hx hb zd_C_state_30 rfl (lv_at hl 1 rfl) ?_
      refine cn_aald hx hb hK hP 1 1 (wC_at 1 (by omega)) rfl hp (by omega) zd_C_state_31 ?_
      refine va_get (D := (dC, dI)) (ci := 1) (v := .int (nI (a 7 p))) (C := zR_M) (T := zT_M) (N := 12) hx hb hts zi_M hown hK hP (9 + 3 * p) (wC_m hp) rfl 7 (by decide) (hts _ zf_C_103) (fun _ h9 => h9) rfl zd_C_state_32 ?_
      exact cq_ret (u := a) hx hb hrt ⟨_, rfl, rfl⟩ hlocks hK hP hD hS ⟨by simp only [mq_state, cq_id_nI hp0 hB20]; rw [if_pos c2], rfl⟩ zd_C_state_35
    · refine lv_iconst (v := nI 5) hx hb zd_C_state_22 (by decide) ?_
      refine lv_goto (tgt := 35) hx hb zd_C_state_23 (by decide) ?_
      exact cq_ret (u := a) hx hb hrt ⟨_, rfl, rfl⟩ hlocks hK hP hD hS ⟨by simp only [mq_state, cq_id_nI hp0 hB20]; rw [if_neg c2], rfl⟩ zd_C_state_35
  · refine lv_iconst (v := -1) hx hb zd_C_state_8 (by decide) ?_
    exact cq_ret (u := a) hx hb hrt ⟨_, rfl, rfl⟩ hlocks hK hP hD hS ⟨by simp only [mq_state, gq_is_0 c1], rfl⟩ zd_C_state_9

set_option maxHeartbeats 4000000 in
set_option maxRecDepth 100000 in
theorem cC_C_suspects (l : Launch) (dC : Nat → ClassId) (dI : Nat → Nat → Nat) (n : Nat) (ad : Nat → Nat) (cI cA : ClassId) (a : cq_S) (hbas : gq_bas n a) (x y : Int32) : cq_CI l zy_C_suspects zw_C_suspects ({ frames := 1, cells := 0, slots := 0, locals := 21 }) (dC, dI) cq_cl (wC n ad cI cA) (tysC cI cA) a [.ref (ad 0), .int x, .int y] (fun r0 u => r0 = mq_suspects a x y ∧ u = a) := by
  refine cq_CI.of (cc := zc_C_suspects) (maxL := 3) (ret := (some .boolean)) (by decide) rfl (Nat.le_of_ble_eq_true rfl) ?_
  intro pr ev s mt args below meth cd A ls hx hb hrt hts hown hlocks hml hP hK hD hA hS hl
  have hown : s.vm.findClass zR_C = some mt.cls := hown
  have hl : lv_has ls 3 [(0, .ref (ad 0)), (1, .int x), (2, .int y)] := hl
  obtain ⟨hB, hn3, hn5, h20, hcr, hmde, hgn, hpp, hvd⟩ := hbas
  have hB20 : a 20 0 < 2147483648 := by omega
  refine lv_aload_n hx hb zd_C_suspects_0 rfl (lv_at hl 0 rfl) ?_
  refine lv_iload_n hx hb zd_C_suspects_1 rfl (lv_at hl 1 rfl) ?_
  refine cq_callI (C := zR_C) (As := [.int x]) (rest := []) ⟨hx, hb, hml, hown, hts⟩ (cC_C_isProcess l dC dI n ad cI cA a x hn3) (cq_cw 1 hts zm_C_isProcess zl_C_45 zs_C_isProcess ze_C_isProcess zz_C rfl rfl (by decide +kernel) ⟨Nat.le_of_ble_eq_true rfl, Nat.le_of_ble_eq_true rfl⟩) hK hP hD hS hA 0 (wC_at 0 (by omega)) rfl rfl hl.1 rfl (Nat.le_of_ble_eq_true rfl) zd_C_suspects_2 ⟨Nat.zero_le _, Nat.zero_le _⟩ (fun r0 u H locs hu hP hD hS => ?_)
  obtain ⟨hr0, hue⟩ := hu
  subst hr0
  rw [hue] at hP hD
  clear hue
  refine cn_if_eq (tgt := 33) hx hb zd_C_suspects_5 (by decide) (gq_is_2 _ _) (fun c1 => ?_) (fun c1 => ?_)
  · refine lv_iconst (v := nI 0) hx hb zd_C_suspects_33 (by decide) ?_
    exact cq_ret (u := a) hx hb hrt ⟨_, rfl, rfl⟩ hlocks hK hP hD hS ⟨by simp only [mq_suspects, gq_is_0 c1], rfl⟩ zd_C_suspects_34
  · obtain ⟨p, hp0, rfl⟩ := gq_is_1 hB20 c1
    have hp : p < n := by omega
    refine lv_aload_n hx hb zd_C_suspects_8 rfl (lv_at hl 0 rfl) ?_
    refine lv_iload_n hx hb zd_C_suspects_9 rfl (lv_at hl 2 rfl) ?_
    refine cq_callI (C := zR_C) (As := [.int y]) (rest := []) ⟨hx, hb, hml, hown, hts⟩ (cC_C_isProcess l dC dI n ad cI cA a y hn3) (cq_cw 1 hts zm_C_isProcess zl_C_45 zs_C_isProcess ze_C_isProcess zz_C rfl rfl (by decide +kernel) ⟨Nat.le_of_ble_eq_true rfl, Nat.le_of_ble_eq_true rfl⟩) hK hP hD hS hA 0 (wC_at 0 (by omega)) rfl rfl hl.1 rfl (Nat.le_of_ble_eq_true rfl) zd_C_suspects_10 ⟨Nat.zero_le _, Nat.zero_le _⟩ (fun r0 u H locs hu hP hD hS => ?_)
    obtain ⟨hr0, hue⟩ := hu
    subst hr0
    rw [hue] at hP hD
    clear hue
    refine cn_if_eq (tgt := 33) hx hb zd_C_suspects_13 (by decide) (gq_is_2 _ _) (fun c2 => ?_) (fun c2 => ?_)
    · refine lv_iconst (v := nI 0) hx hb zd_C_suspects_33 (by decide) ?_
      exact cq_ret (u := a) hx hb hrt ⟨_, rfl, rfl⟩ hlocks hK hP hD hS ⟨by simp only [mq_suspects, cq_id_nI hp0 hB20, gq_is_0 c2], rfl⟩ zd_C_suspects_34
    · obtain ⟨q, hq0, rfl⟩ := gq_is_1 hB20 c2
      have hq : q < n := by omega
      refine lv_aload_n hx hb zd_C_suspects_16 rfl (lv_at hl 0 rfl) ?_
      refine va_get (D := (dC, dI)) (ci := 0) (v := .ref (ad 1)) (C := zR_C) (T := zT_C) (N := 6) hx hb hts zi_C hown hK hP 0 (wC_at 0 (by omega)) rfl 1 (by decide) (hts _ zf_C_24) (fun _ h9 => h9) rfl zd_C_suspects_17 ?_
      refine lv_iload_n hx hb zd_C_suspects_20 rfl (lv_at hl 1 rfl) ?_
      refine cn_aald hx hb hK hP 1 1 (wC_at 1 (by omega)) rfl hp (by omega) zd_C_suspects_21 ?_
      refine lv_iload_n hx hb zd_C_suspects_22 rfl (lv_at hl 2 rfl) ?_
      refine cq_callI (C := zR_M) (As := [.int (nI q)]) (rest := []) ⟨hx, hb, hml, hown, hts⟩ (cC_M_hasSuspicion l dC dI n ad cI cA a hB p hp q (by omega)) (cq_cw 1 hts zm_M_hasSuspicion zl_C_100 zs_M_hasSuspicion ze_M_hasSuspicion zz_M rfl rfl (by decide +kernel) ⟨Nat.le_of_ble_eq_true rfl, Nat.le_of_ble_eq_true rfl⟩) hK hP hD hS hA (9 + 3 * p) (wC_m hp) rfl rfl hl.1 rfl (Nat.le_of_ble_eq_true rfl) zd_C_suspects_23 ⟨Nat.zero_le _, Nat.zero_le _⟩ (fun r0 u H locs hu hP hD hS => ?_)
      obtain ⟨hr0, hue⟩ := hu
      subst hr0
      rw [hue] at hP hD
      clear hue
      refine cn_if_eq (tgt := 33) hx hb zd_C_suspects_26 (by decide) (by split <;> decide) (fun c3 => ?_) (fun c3 => ?_)
      · refine lv_iconst (v := nI 0) hx hb zd_C_suspects_33 (by decide) ?_
        exact cq_ret (u := a) hx hb hrt ⟨_, rfl, rfl⟩ hlocks hK hP hD hS ⟨by simp only [mq_suspects, cq_id_nI hp0 hB20, cq_id_nI hq0 hB20]; rw [show a 5 p / 2 ^ q % 2 = 0 by have := cq_n0 c3; omega], rfl⟩ zd_C_suspects_34
      · refine lv_iconst (v := nI 1) hx hb zd_C_suspects_29 (by decide) ?_
        refine lv_goto (tgt := 34) hx hb zd_C_suspects_30 (by decide) ?_
        exact cq_ret (u := a) hx hb hrt ⟨_, rfl, rfl⟩ hlocks hK hP hD hS ⟨by simp only [mq_suspects, cq_id_nI hp0 hB20, cq_id_nI hq0 hB20]; rw [show a 5 p / 2 ^ q % 2 = 1 by have := cq_n1 c3; omega], rfl⟩ zd_C_suspects_34

set_option maxHeartbeats 4000000 in
set_option maxRecDepth 100000 in
theorem cC_C_deliveredAt (l : Launch) (dC : Nat → ClassId) (dI : Nat → Nat → Nat) (n : Nat) (ad : Nat → Nat) (cI cA : ClassId) (a : cq_S) (hbas : gq_bas n a) (x y : Int32) : cq_CI l zy_C_deliveredAt zw_C_deliveredAt ({ frames := 1, cells := 0, slots := 0, locals := 21 }) (dC, dI) cq_cl (wC n ad cI cA) (tysC cI cA) a [.ref (ad 0), .int x, .int y] (fun r0 u => r0 = gq_dAt a x y ∧ u = a) := by
  refine cq_CI.of (cc := zc_C_deliveredAt) (maxL := 3) (ret := (some .int)) (by decide) rfl (Nat.le_of_ble_eq_true rfl) ?_
  intro pr ev s mt args below meth cd A ls hx hb hrt hts hown hlocks hml hP hK hD hA hS hl
  have hown : s.vm.findClass zR_C = some mt.cls := hown
  have hl : lv_has ls 3 [(0, .ref (ad 0)), (1, .int x), (2, .int y)] := hl
  obtain ⟨hB, hn3, hn5, h20, hcr, hmde, hgn, hpp, hvd⟩ := hbas
  have hB20 : a 20 0 < 2147483648 := by omega
  refine lv_aload_n hx hb zd_C_deliveredAt_0 rfl (lv_at hl 0 rfl) ?_
  refine lv_iload_n hx hb zd_C_deliveredAt_1 rfl (lv_at hl 1 rfl) ?_
  refine cq_callI (C := zR_C) (As := [.int x]) (rest := []) ⟨hx, hb, hml, hown, hts⟩ (cC_C_isProcess l dC dI n ad cI cA a x hn3) (cq_cw 1 hts zm_C_isProcess zl_C_45 zs_C_isProcess ze_C_isProcess zz_C rfl rfl (by decide +kernel) ⟨Nat.le_of_ble_eq_true rfl, Nat.le_of_ble_eq_true rfl⟩) hK hP hD hS hA 0 (wC_at 0 (by omega)) rfl rfl hl.1 rfl (Nat.le_of_ble_eq_true rfl) zd_C_deliveredAt_2 ⟨Nat.zero_le _, Nat.zero_le _⟩ (fun r0 u H locs hu hP hD hS => ?_)
  obtain ⟨hr0, hue⟩ := hu
  subst hr0
  rw [hue] at hP hD
  clear hue
  refine cn_if_eq (tgt := 25) hx hb zd_C_deliveredAt_5 (by decide) (gq_is_2 _ _) (fun c1 => ?_) (fun c1 => ?_)
  · refine lv_iconst (v := -1) hx hb zd_C_deliveredAt_25 (by decide) ?_
    exact cq_ret (u := a) hx hb hrt ⟨_, rfl, rfl⟩ hlocks hK hP hD hS ⟨by simp only [gq_dAt, gq_is_0 c1], rfl⟩ zd_C_deliveredAt_26
  · obtain ⟨p, hp0, rfl⟩ := gq_is_1 hB20 c1
    have hp : p < n := by omega
    refine lv_iload_n hx hb zd_C_deliveredAt_8 rfl (lv_at hl 2 rfl) ?_
    refine lv_if_lt (tgt := 25) hx hb zd_C_deliveredAt_9 (by decide) (fun c2 => ?_) (fun c2 => ?_)
    · refine lv_iconst (v := -1) hx hb zd_C_deliveredAt_25 (by decide) ?_
      exact cq_ret (u := a) hx hb hrt ⟨_, rfl, rfl⟩ hlocks hK hP hD hS ⟨by simp only [gq_dAt, cq_id_nI hp0 hB20, cq_id_neg c2], rfl⟩ zd_C_deliveredAt_26
    · have hp2 := (hpp p hp).2.2
      refine lv_iload_n hx hb zd_C_deliveredAt_12 rfl (lv_at hl 2 rfl) ?_
      refine lv_aload_n hx hb zd_C_deliveredAt_13 rfl (lv_at hl 0 rfl) ?_
      refine va_get (D := (dC, dI)) (ci := 0) (v := .ref (ad 1)) (C := zR_C) (T := zT_C) (N := 6) hx hb hts zi_C hown hK hP 0 (wC_at 0 (by omega)) rfl 1 (by decide) (hts _ zf_C_24) (fun _ h9 => h9) rfl zd_C_deliveredAt_14 ?_
      refine lv_iload_n hx hb zd_C_deliveredAt_17 rfl (lv_at hl 1 rfl) ?_
      refine cn_aald hx hb hK hP 1 1 (wC_at 1 (by omega)) rfl hp (by omega) zd_C_deliveredAt_18 ?_
      refine va_get (D := (dC, dI)) (ci := 1) (v := .int (nI (a 2 p))) (C := zR_M) (T := zT_M) (N := 12) hx hb hts zi_M hown hK hP (9 + 3 * p) (wC_m hp) rfl 4 (by decide) (hts _ zf_C_121) (fun _ h9 => h9) rfl zd_C_deliveredAt_19 ?_
      refine lv_icmp_lt (tgt := 27) hx hb zd_C_deliveredAt_22 (by decide) (fun c3 => ?_) (fun c3 => ?_)
      · obtain ⟨i, hi, rfl⟩ := cq_id_lt c2 c3 (by omega)
        refine lv_aload_n hx hb zd_C_deliveredAt_27 rfl (lv_at hl 0 rfl) ?_
        refine va_get (D := (dC, dI)) (ci := 0) (v := .ref (ad 1)) (C := zR_C) (T := zT_C) (N := 6) hx hb hts zi_C hown hK hP 0 (wC_at 0 (by omega)) rfl 1 (by decide) (hts _ zf_C_24) (fun _ h9 => h9) rfl zd_C_deliveredAt_28 ?_
        refine lv_iload_n hx hb zd_C_deliveredAt_31 rfl (lv_at hl 1 rfl) ?_
        refine cn_aald hx hb hK hP 1 1 (wC_at 1 (by omega)) rfl hp (by omega) zd_C_deliveredAt_32 ?_
        refine va_get (D := (dC, dI)) (ci := 1) (v := .ref (ad (10 + 3 * p))) (C := zR_M) (T := zT_M) (N := 12) hx hb hts zi_M hown hK hP (9 + 3 * p) (wC_m hp) rfl 0 (by decide) (hts _ zf_C_124) (fun _ h9 => h9) rfl zd_C_deliveredAt_33 ?_
        refine lv_iload_n hx hb zd_C_deliveredAt_36 rfl (lv_at hl 2 rfl) ?_
        refine cn_iald (f := a (40 + p)) hx hb hK hP (10 + 3 * p) 0 (wC_o hp) rfl (by omega) (by omega) zd_C_deliveredAt_37 ?_
        exact cq_ret (u := a) hx hb hrt ⟨_, rfl, rfl⟩ hlocks hK hP hD hS ⟨by simp only [gq_dAt, cq_id_nI hp0 hB20, cq_id_nI hi (show a 2 p < 2147483648 by omega)], rfl⟩ zd_C_deliveredAt_38
      · refine lv_iconst (v := -1) hx hb zd_C_deliveredAt_25 (by decide) ?_
        exact cq_ret (u := a) hx hb hrt ⟨_, rfl, rfl⟩ hlocks hK hP hD hS ⟨by simp only [gq_dAt, cq_id_nI hp0 hB20, cq_id_ltn c3 (by omega)], rfl⟩ zd_C_deliveredAt_26

set_option maxHeartbeats 4000000 in
set_option maxRecDepth 100000 in
theorem cC_C_verdict (l : Launch) (dC : Nat → ClassId) (dI : Nat → Nat → Nat) (n : Nat) (ad : Nat → Nat) (cI cA : ClassId) (a : cq_S) (hbas : gq_bas n a) (x y : Int32) : cq_CI l zy_C_verdict zw_C_verdict ({ frames := 1, cells := 0, slots := 0, locals := 21 }) (dC, dI) cq_cl (wC n ad cI cA) (tysC cI cA) a [.ref (ad 0), .int x, .int y] (fun r0 u => r0 = gq_verdict a x y ∧ u = a) := by
  refine cq_CI.of (cc := zc_C_verdict) (maxL := 3) (ret := (some .int)) (by decide) rfl (Nat.le_of_ble_eq_true rfl) ?_
  intro pr ev s mt args below meth cd A ls hx hb hrt hts hown hlocks hml hP hK hD hA hS hl
  have hown : s.vm.findClass zR_C = some mt.cls := hown
  have hl : lv_has ls 3 [(0, .ref (ad 0)), (1, .int x), (2, .int y)] := hl
  obtain ⟨hB, hn3, hn5, h20, hcr, hmde, hgn, hpp, hvd⟩ := hbas
  have hB20 : a 20 0 < 2147483648 := by omega
  refine lv_aload_n hx hb zd_C_verdict_0 rfl (lv_at hl 0 rfl) ?_
  refine lv_iload_n hx hb zd_C_verdict_1 rfl (lv_at hl 1 rfl) ?_
  refine cq_callI (C := zR_C) (As := [.int x]) (rest := []) ⟨hx, hb, hml, hown, hts⟩ (cC_C_isProcess l dC dI n ad cI cA a x hn3) (cq_cw 1 hts zm_C_isProcess zl_C_45 zs_C_isProcess ze_C_isProcess zz_C rfl rfl (by decide +kernel) ⟨Nat.le_of_ble_eq_true rfl, Nat.le_of_ble_eq_true rfl⟩) hK hP hD hS hA 0 (wC_at 0 (by omega)) rfl rfl hl.1 rfl (Nat.le_of_ble_eq_true rfl) zd_C_verdict_2 ⟨Nat.zero_le _, Nat.zero_le _⟩ (fun r0 u H locs hu hP hD hS => ?_)
  obtain ⟨hr0, hue⟩ := hu
  subst hr0
  rw [hue] at hP hD
  clear hue
  refine cn_if_eq (tgt := 18) hx hb zd_C_verdict_5 (by decide) (gq_is_2 _ _) (fun c1 => ?_) (fun c1 => ?_)
  · refine lv_iconst (v := -1) hx hb zd_C_verdict_18 (by decide) ?_
    exact cq_ret (u := a) hx hb hrt ⟨_, rfl, rfl⟩ hlocks hK hP hD hS ⟨by simp only [gq_verdict, gq_is_0 c1], rfl⟩ zd_C_verdict_19
  · obtain ⟨p, hp0, rfl⟩ := gq_is_1 hB20 c1
    have hp : p < n := by omega
    refine lv_iload_n hx hb zd_C_verdict_8 rfl (lv_at hl 2 rfl) ?_
    refine lv_if_lt (tgt := 18) hx hb zd_C_verdict_9 (by decide) (fun c2 => ?_) (fun c2 => ?_)
    · refine lv_iconst (v := -1) hx hb zd_C_verdict_18 (by decide) ?_
      exact cq_ret (u := a) hx hb hrt ⟨_, rfl, rfl⟩ hlocks hK hP hD hS ⟨by simp only [gq_verdict, cq_id_nI hp0 hB20, cq_id_neg c2], rfl⟩ zd_C_verdict_19
    · refine lv_iload_n hx hb zd_C_verdict_12 rfl (lv_at hl 2 rfl) ?_
      refine lv_bipush (v := nI 8) hx hb zd_C_verdict_13 (by decide) ?_
      refine lv_icmp_lt (tgt := 20) hx hb zd_C_verdict_15 (by decide) (fun c3 => ?_) (fun c3 => ?_)
      · obtain ⟨k, hk, rfl⟩ := cq_id_lt c2 c3 (by omega)
        refine lv_aload_n hx hb zd_C_verdict_20 rfl (lv_at hl 0 rfl) ?_
        refine va_get (D := (dC, dI)) (ci := 0) (v := .ref (ad 1)) (C := zR_C) (T := zT_C) (N := 6) hx hb hts zi_C hown hK hP 0 (wC_at 0 (by omega)) rfl 1 (by decide) (hts _ zf_C_24) (fun _ h9 => h9) rfl zd_C_verdict_21 ?_
        refine lv_iload_n hx hb zd_C_verdict_24 rfl (lv_at hl 1 rfl) ?_
        refine cn_aald hx hb hK hP 1 1 (wC_at 1 (by omega)) rfl hp (by omega) zd_C_verdict_25 ?_
        refine va_get (D := (dC, dI)) (ci := 1) (v := .ref (ad (11 + 3 * p))) (C := zR_M) (T := zT_M) (N := 12) hx hb hts zi_M hown hK hP (9 + 3 * p) (wC_m hp) rfl 1 (by decide) (hts _ zf_C_128) (fun _ h9 => h9) rfl zd_C_verdict_26 ?_
        refine lv_iload_n hx hb zd_C_verdict_29 rfl (lv_at hl 2 rfl) ?_
        refine cn_iald (f := a (60 + p)) hx hb hK hP (11 + 3 * p) 0 (wC_v hp) rfl (by omega) (by omega) zd_C_verdict_30 ?_
        exact cq_ret (u := a) hx hb hrt ⟨_, rfl, rfl⟩ hlocks hK hP hD hS ⟨by simp only [gq_verdict, cq_id_nI hp0 hB20, cq_id_nI hk (show 8 < 2147483648 by omega)], rfl⟩ zd_C_verdict_31
      · refine lv_iconst (v := -1) hx hb zd_C_verdict_18 (by decide) ?_
        exact cq_ret (u := a) hx hb hrt ⟨_, rfl, rfl⟩ hlocks hK hP hD hS ⟨by simp only [gq_verdict, cq_id_nI hp0 hB20, cq_id_ltn c3 (by omega)], rfl⟩ zd_C_verdict_19

set_option maxHeartbeats 4000000 in
set_option maxRecDepth 100000 in
theorem cC_C_letters (l : Launch) (dC : Nat → ClassId) (dI : Nat → Nat → Nat) (n : Nat) (ad : Nat → Nat) (cI cA : ClassId) (a : cq_S) (hbas : gq_bas n a) (x y : Int32) : cq_CI l zy_C_letters zw_C_letters ({ frames := 2, cells := 0, slots := 0, locals := 47 }) (dC, dI) cq_cl (wC n ad cI cA) (tysC cI cA) a [.ref (ad 0), .int x, .int y] (fun r0 u => r0 = gq_letters a x y ∧ u = a) := by
  refine cq_CI.of (cc := zc_C_letters) (maxL := 3) (ret := (some .int)) (by decide) rfl (Nat.le_of_ble_eq_true rfl) ?_
  intro pr ev s mt args below meth cd A ls hx hb hrt hts hown hlocks hml hP hK hD hA hS hl
  have hown : s.vm.findClass zR_C = some mt.cls := hown
  have hl : lv_has ls 3 [(0, .ref (ad 0)), (1, .int x), (2, .int y)] := hl
  obtain ⟨hB, hn3, hn5, h20, hcr, hmde, hgn, hpp, hvd⟩ := hbas
  have hB20 : a 20 0 < 2147483648 := by omega
  refine lv_aload_n hx hb zd_C_letters_0 rfl (lv_at hl 0 rfl) ?_
  refine lv_iload_n hx hb zd_C_letters_1 rfl (lv_at hl 1 rfl) ?_
  refine cq_callI (C := zR_C) (As := [.int x]) (rest := []) ⟨hx, hb, hml, hown, hts⟩ (cC_C_isProcess l dC dI n ad cI cA a x hn3) (cq_cw 1 hts zm_C_isProcess zl_C_45 zs_C_isProcess ze_C_isProcess zz_C rfl rfl (by decide +kernel) ⟨Nat.le_of_ble_eq_true rfl, Nat.le_of_ble_eq_true rfl⟩) hK hP hD hS hA 0 (wC_at 0 (by omega)) rfl rfl hl.1 rfl (Nat.le_of_ble_eq_true rfl) zd_C_letters_2 ⟨Nat.zero_le _, Nat.zero_le _⟩ (fun r0 u H locs hu hP hD hS => ?_)
  obtain ⟨hr0, hue⟩ := hu
  subst hr0
  rw [hue] at hP hD
  clear hue
  refine cn_if_eq (tgt := 16) hx hb zd_C_letters_5 (by decide) (gq_is_2 _ _) (fun c1 => ?_) (fun c1 => ?_)
  · refine lv_iconst (v := -1) hx hb zd_C_letters_16 (by decide) ?_
    exact cq_ret (u := a) hx hb hrt ⟨_, rfl, rfl⟩ hlocks hK hP hD hS ⟨by simp only [gq_letters, gq_is_0 c1], rfl⟩ zd_C_letters_17
  · obtain ⟨p, hp0, rfl⟩ := gq_is_1 hB20 c1
    have hp : p < n := by omega
    refine lv_aload_n hx hb zd_C_letters_8 rfl (lv_at hl 0 rfl) ?_
    refine lv_iload_n hx hb zd_C_letters_9 rfl (lv_at hl 2 rfl) ?_
    refine cq_callI (C := zR_C) (As := [.int y]) (rest := []) ⟨hx, hb, hml, hown, hts⟩ (cC_C_isProcess l dC dI n ad cI cA a y hn3) (cq_cw 1 hts zm_C_isProcess zl_C_45 zs_C_isProcess ze_C_isProcess zz_C rfl rfl (by decide +kernel) ⟨Nat.le_of_ble_eq_true rfl, Nat.le_of_ble_eq_true rfl⟩) hK hP hD hS hA 0 (wC_at 0 (by omega)) rfl rfl hl.1 rfl (Nat.le_of_ble_eq_true rfl) zd_C_letters_10 ⟨Nat.zero_le _, Nat.zero_le _⟩ (fun r0 u H locs hu hP hD hS => ?_)
    obtain ⟨hr0, hue⟩ := hu
    subst hr0
    rw [hue] at hP hD
    clear hue
    refine cn_if_ne (tgt := 18) hx hb zd_C_letters_13 (by decide) (gq_is_2 _ _) (fun c2 => ?_) (fun c2 => ?_)
    · obtain ⟨q, hq0, rfl⟩ := gq_is_1 hB20 c2
      have hq : q < n := by omega
      refine lv_aload_n hx hb zd_C_letters_18 rfl (lv_at hl 0 rfl) ?_
      refine va_get (D := (dC, dI)) (ci := 0) (v := .ref (ad 2)) (C := zR_C) (T := zT_C) (N := 6) hx hb hts zi_C hown hK hP 0 (wC_at 0 (by omega)) rfl 2 (by decide) (hts _ zf_C_34) (fun _ h9 => h9) rfl zd_C_letters_19 ?_
      refine lv_iload_n hx hb zd_C_letters_22 rfl (lv_at hl 1 rfl) ?_
      refine lv_iload_n hx hb zd_C_letters_23 rfl (lv_at hl 2 rfl) ?_
      refine cq_callI (C := zR_P) (As := [.int (nI p), .int (nI q)]) (rest := []) ⟨hx, hb, hml, hown, hts⟩ (cC_P_howMany l dC dI n ad cI cA a hB hn3 hn5 h20 p q (by omega) (by omega) hcr) (cq_cw 2 hts zm_P_howMany zl_C_97 zs_P_howMany ze_P_howMany zz_P rfl rfl (by decide +kernel) ⟨Nat.le_of_ble_eq_true rfl, Nat.le_of_ble_eq_true rfl⟩) hK hP hD hS hA 2 (wC_at 2 (by omega)) rfl rfl hl.1 rfl (Nat.le_of_ble_eq_true rfl) zd_C_letters_24 ⟨Nat.zero_le _, Nat.zero_le _⟩ (fun r0 u H locs hu hP hD hS => ?_)
      obtain ⟨hr0, hue⟩ := hu
      subst hr0
      rw [hue] at hP hD
      clear hue
      exact cq_ret (u := a) hx hb hrt ⟨_, rfl, rfl⟩ hlocks hK hP hD hS ⟨by simp only [gq_letters, cq_id_nI hp0 hB20, cq_id_nI hq0 hB20], rfl⟩ zd_C_letters_27
    · refine lv_iconst (v := -1) hx hb zd_C_letters_16 (by decide) ?_
      exact cq_ret (u := a) hx hb hrt ⟨_, rfl, rfl⟩ hlocks hK hP hD hS ⟨by simp only [gq_letters, cq_id_nI hp0 hB20, gq_is_0 c2], rfl⟩ zd_C_letters_17

set_option maxHeartbeats 4000000 in
set_option maxRecDepth 100000 in
theorem cC_C_letter (l : Launch) (dC : Nat → ClassId) (dI : Nat → Nat → Nat) (n : Nat) (ad : Nat → Nat) (cI cA : ClassId) (a : cq_S) (hbas : gq_bas n a) (x y j : Int32) : cq_CI l zy_C_letter zw_C_letter ({ frames := 2, cells := 0, slots := 0, locals := 48 }) (dC, dI) cq_cl (wC n ad cI cA) (tysC cI cA) a [.ref (ad 0), .int x, .int y, .int j] (fun r0 u => r0 = gq_letter a x y j ∧ u = a) := by
  refine cq_CI.of (cc := zc_C_letter) (maxL := 5) (ret := (some .int)) (by decide) rfl (Nat.le_of_ble_eq_true rfl) ?_
  intro pr ev s mt args below meth cd A ls hx hb hrt hts hown hlocks hml hP hK hD hA hS hl
  have hown : s.vm.findClass zR_C = some mt.cls := hown
  have hl : lv_has ls 5 [(0, .ref (ad 0)), (1, .int x), (2, .int y), (3, .int j)] := hl
  obtain ⟨hB, hn3, hn5, h20, hcr, hmde, hgn, hpp, hvd⟩ := hbas
  have hB20 : a 20 0 < 2147483648 := by omega
  refine lv_aload_n hx hb zd_C_letter_0 rfl (lv_at hl 0 rfl) ?_
  refine lv_iload_n hx hb zd_C_letter_1 rfl (lv_at hl 1 rfl) ?_
  refine cq_callI (C := zR_C) (As := [.int x]) (rest := []) ⟨hx, hb, hml, hown, hts⟩ (cC_C_isProcess l dC dI n ad cI cA a x hn3) (cq_cw 1 hts zm_C_isProcess zl_C_45 zs_C_isProcess ze_C_isProcess zz_C rfl rfl (by decide +kernel) ⟨Nat.le_of_ble_eq_true rfl, Nat.le_of_ble_eq_true rfl⟩) hK hP hD hS hA 0 (wC_at 0 (by omega)) rfl rfl hl.1 rfl (Nat.le_of_ble_eq_true rfl) zd_C_letter_2 ⟨Nat.zero_le _, Nat.zero_le _⟩ (fun r0 u H locs hu hP hD hS => ?_)
  obtain ⟨hr0, hue⟩ := hu
  subst hr0
  rw [hue] at hP hD
  clear hue
  refine cn_if_eq (tgt := 16) hx hb zd_C_letter_5 (by decide) (gq_is_2 _ _) (fun c1 => ?_) (fun c1 => ?_)
  · refine lv_iconst (v := nI 0) hx hb zd_C_letter_16 (by decide) ?_
    exact cq_ret (u := a) hx hb hrt ⟨_, rfl, rfl⟩ hlocks hK hP hD hS ⟨by simp only [gq_letter, gq_is_0 c1], rfl⟩ zd_C_letter_17
  · obtain ⟨p, hp0, rfl⟩ := gq_is_1 hB20 c1
    have hp : p < n := by omega
    refine lv_aload_n hx hb zd_C_letter_8 rfl (lv_at hl 0 rfl) ?_
    refine lv_iload_n hx hb zd_C_letter_9 rfl (lv_at hl 2 rfl) ?_
    refine cq_callI (C := zR_C) (As := [.int y]) (rest := []) ⟨hx, hb, hml, hown, hts⟩ (cC_C_isProcess l dC dI n ad cI cA a y hn3) (cq_cw 1 hts zm_C_isProcess zl_C_45 zs_C_isProcess ze_C_isProcess zz_C rfl rfl (by decide +kernel) ⟨Nat.le_of_ble_eq_true rfl, Nat.le_of_ble_eq_true rfl⟩) hK hP hD hS hA 0 (wC_at 0 (by omega)) rfl rfl hl.1 rfl (Nat.le_of_ble_eq_true rfl) zd_C_letter_10 ⟨Nat.zero_le _, Nat.zero_le _⟩ (fun r0 u H locs hu hP hD hS => ?_)
    obtain ⟨hr0, hue⟩ := hu
    subst hr0
    rw [hue] at hP hD
    clear hue
    refine cn_if_ne (tgt := 18) hx hb zd_C_letter_13 (by decide) (gq_is_2 _ _) (fun c2 => ?_) (fun c2 => ?_)
    · obtain ⟨q, hq0, rfl⟩ := gq_is_1 hB20 c2
      have hq : q < n := by omega
      refine lv_aload_n hx hb zd_C_letter_18 rfl (lv_at hl 0 rfl) ?_
      refine va_get (D := (dC, dI)) (ci := 0) (v := .ref (ad 2)) (C := zR_C) (T := zT_C) (N := 6) hx hb hts zi_C hown hK hP 0 (wC_at 0 (by omega)) rfl 2 (by decide) (hts _ zf_C_34) (fun _ h9 => h9) rfl zd_C_letter_19 ?_
      refine lv_iload_n hx hb zd_C_letter_22 rfl (lv_at hl 1 rfl) ?_
      refine lv_iload_n hx hb zd_C_letter_23 rfl (lv_at hl 2 rfl) ?_
      refine lv_iload_n hx hb zd_C_letter_24 rfl (lv_at hl 3 rfl) ?_
      refine cq_callI (C := zR_P) (As := [.int (nI p), .int (nI q), .int j]) (rest := []) ⟨hx, hb, hml, hown, hts⟩ (cC_P_placeOf l dC dI n ad cI cA a hB hn3 hn5 h20 p q j (by omega) (by omega) hcr) (cq_cw 3 hts zm_P_placeOf zl_C_63 zs_P_placeOf ze_P_placeOf zz_P rfl rfl (by decide +kernel) ⟨Nat.le_of_ble_eq_true rfl, Nat.le_of_ble_eq_true rfl⟩) hK hP hD hS hA 2 (wC_at 2 (by omega)) rfl rfl hl.1 rfl (Nat.le_of_ble_eq_true rfl) zd_C_letter_25 ⟨Nat.zero_le _, Nat.zero_le _⟩ (fun r0 u H locs hu hP hD hS => ?_)
      obtain ⟨hr0, hue⟩ := hu
      subst hr0
      rw [hue] at hP hD
      clear hue
      refine lv_istore hx hb zd_C_letter_28 hl (by decide) rfl (fun ls hl => ?_)
      have hl : lv_has ls 5 [(4, .int (mq_oi (gq_place a p q j))), (0, .ref (ad 0)), (1, .int (nI p)), (2, .int (nI q)), (3, .int j)] := hl
      refine lv_iload hx hb zd_C_letter_30 (lv_at hl 0 rfl) ?_
      refine lv_if_ge (tgt := 39) hx hb zd_C_letter_32 (by decide) (fun c3 => ?_) (fun c3 => ?_)
      · cases ho : gq_place a p q j with
        | none =>
          rw [ho] at hl c3
          have hl : lv_has ls 5 [(4, .int (-1)), (0, .ref (ad 0)), (1, .int (nI p)), (2, .int (nI q)), (3, .int j)] := hl
          exact absurd c3 (by decide)
        | some i =>
          rw [ho] at hl c3
          have hl : lv_has ls 5 [(4, .int (nI i)), (0, .ref (ad 0)), (1, .int (nI p)), (2, .int (nI q)), (3, .int j)] := hl
          have hi : i < a 23 0 := gq_place_lt ho
          refine lv_aload_n hx hb zd_C_letter_39 rfl (lv_at hl 1 rfl) ?_
          refine va_get (D := (dC, dI)) (ci := 0) (v := .ref (ad 2)) (C := zR_C) (T := zT_C) (N := 6) hx hb hts zi_C hown hK hP 0 (wC_at 0 (by omega)) rfl 2 (by decide) (hts _ zf_C_34) (fun _ h9 => h9) rfl zd_C_letter_40 ?_
          refine lv_iload hx hb zd_C_letter_43 (lv_at hl 0 rfl) ?_
          refine cq_callI (C := zR_P) (As := [.int (nI i)]) (rest := []) ⟨hx, hb, hml, hown, hts⟩ (cC_P_textAt l dC dI n ad cI cA a hB hn3 hn5 h20 i (by omega)) (cq_cw 1 hts zm_P_textAt zl_C_67 zs_P_textAt ze_P_textAt zz_P rfl rfl (by decide +kernel) ⟨Nat.le_of_ble_eq_true rfl, Nat.le_of_ble_eq_true rfl⟩) hK hP hD hS hA 2 (wC_at 2 (by omega)) rfl rfl hl.1 rfl (Nat.le_of_ble_eq_true rfl) zd_C_letter_45 ⟨Nat.zero_le _, Nat.zero_le _⟩ (fun r0 u H locs hu hP hD hS => ?_)
          obtain ⟨hr0, hue⟩ := hu
          subst hr0
          rw [hue] at hP hD
          clear hue
          exact cq_ret (u := a) hx hb hrt ⟨_, rfl, rfl⟩ hlocks hK hP hD hS ⟨by simp only [gq_letter, cq_id_nI hp0 hB20, cq_id_nI hq0 hB20, ho], rfl⟩ zd_C_letter_48
      · cases ho : gq_place a p q j with
        | none =>
          rw [ho] at hl c3
          have hl : lv_has ls 5 [(4, .int (-1)), (0, .ref (ad 0)), (1, .int (nI p)), (2, .int (nI q)), (3, .int j)] := hl
          refine lv_iconst (v := nI 0) hx hb zd_C_letter_35 (by decide) ?_
          refine lv_goto (tgt := 48) hx hb zd_C_letter_36 (by decide) ?_
          exact cq_ret (u := a) hx hb hrt ⟨_, rfl, rfl⟩ hlocks hK hP hD hS ⟨by simp only [gq_letter, cq_id_nI hp0 hB20, cq_id_nI hq0 hB20, ho], rfl⟩ zd_C_letter_48
        | some i =>
          rw [ho] at hl c3
          have hl : lv_has ls 5 [(4, .int (nI i)), (0, .ref (ad 0)), (1, .int (nI p)), (2, .int (nI q)), (3, .int j)] := hl
          have hi : i < a 23 0 := gq_place_lt ho
          exact absurd (nI_pos' (by have := gq_room_lt hn5; omega)) c3
    · refine lv_iconst (v := nI 0) hx hb zd_C_letter_16 (by decide) ?_
      exact cq_ret (u := a) hx hb hrt ⟨_, rfl, rfl⟩ hlocks hK hP hD hS ⟨by simp only [gq_letter, cq_id_nI hp0 hB20, gq_is_0 c2], rfl⟩ zd_C_letter_17

