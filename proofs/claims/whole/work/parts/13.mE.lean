set_option maxHeartbeats 4000000 in
set_option maxRecDepth 100000 in
theorem cM_finished (l : Launch) (dC : Nat → ClassId) (dI : Nat → Nat → Nat) (bd : Nat → Nat) (cs : Nat → ClassId) (a : cq_S) (hbas : mq_bas a) (x : Int32) : cq_CI l zy_R_finished zw_R_finished ({ frames := 1, cells := 0, slots := 0, locals := 21 }) (dC, dI) cq_cl (wM bd cs) (tysM cs) a [.ref (bd 0), .int x] (fun r u => r = mq_get a 4 x ∧ u = a) := by
  refine cq_CI.of (cc := zc_R_finished) (maxL := 2) (ret := (some .int)) (by decide) rfl (Nat.le_of_ble_eq_true rfl) ?_
  intro pr ev s mt args below meth cd A ls hx hb hrt hts hown hlocks hml hP hK hD hA hS hl
  have hown : s.vm.findClass zR_R = some mt.cls := hown
  have hl : lv_has ls 2 [(0, .ref (bd 0)), (1, .int x)] := hl
  obtain ⟨hB, hn3, hn5, hc, hmd, hpp, hlg, hgn⟩ := hbas
  have hB20 := hB 20 0 (by decide)
  refine lv_aload_n hx hb zd_R_finished_0 rfl (lv_at hl 0 rfl) ?_
  refine lv_iload_n hx hb zd_R_finished_1 rfl (lv_at hl 1 rfl) ?_
  refine cq_callI (C := zR_R) (As := [.int x]) (rest := []) ⟨hx, hb, hml, hown, hts⟩ (cM_none l dC dI bd cs a x) (cq_cw 1 hts zm_R_none zl_R_84 zs_R_none ze_R_none zz_R rfl rfl (by decide +kernel) ⟨Nat.le_of_ble_eq_true rfl, Nat.le_of_ble_eq_true rfl⟩) hK hP hD hS hA 0 rfl rfl rfl hl.1 rfl (Nat.le_of_ble_eq_true rfl) zd_R_finished_2 ⟨Nat.zero_le _, Nat.zero_le _⟩ (fun r0 u H locs hu hP hD hS => ?_)
  obtain ⟨hr0, hue⟩ := hu
  subst hr0
  rw [hue] at hP hD
  clear hue
  refine cn_if_eq (tgt := 12) hx hb zd_R_finished_5 (by decide) (mq_none_2 _ _) (fun c1 => ?_) (fun c1 => ?_)
  · obtain ⟨p, hp, rfl⟩ := mq_none_0 hB20 c1
    refine lv_aload_n hx hb zd_R_finished_12 rfl (lv_at hl 0 rfl) ?_
    refine va_get (D := (dC, dI)) (ci := 4) (v := .ref (bd 5)) (C := zR_R) (T := zT_R) (N := 24) hx hb hts zi_R hown hK hP 0 rfl rfl 7 (by decide) (hts _ zf_R_22) (fun _ h9 => h9) rfl zd_R_finished_13 ?_
    refine lv_iload_n hx hb zd_R_finished_16 rfl (lv_at hl 1 rfl) ?_
    refine cn_iald (f := a 4) hx hb hK hP 5 4 rfl rfl (by omega) (by decide) zd_R_finished_17 ?_
    exact cq_ret (u := a) hx hb hrt ⟨_, rfl, rfl⟩ hlocks hK hP hD hS ⟨by simp only [mq_get, cq_id_nI hp hB20], rfl⟩ zd_R_finished_18
  · refine lv_iconst (v := -1) hx hb zd_R_finished_8 (by decide) ?_
    refine lv_goto (tgt := 18) hx hb zd_R_finished_9 (by decide) ?_
    exact cq_ret (u := a) hx hb hrt ⟨_, rfl, rfl⟩ hlocks hK hP hD hS ⟨by simp only [mq_get, mq_none_1 c1], rfl⟩ zd_R_finished_18

set_option maxHeartbeats 4000000 in
set_option maxRecDepth 100000 in
theorem cM_round (l : Launch) (dC : Nat → ClassId) (dI : Nat → Nat → Nat) (bd : Nat → Nat) (cs : Nat → ClassId) (a : cq_S) (hbas : mq_bas a) (x : Int32) : cq_CI l zy_R_round zw_R_round ({ frames := 1, cells := 0, slots := 0, locals := 21 }) (dC, dI) cq_cl (wM bd cs) (tysM cs) a [.ref (bd 0), .int x] (fun r u => r = mq_get a 8 x ∧ u = a) := by
  refine cq_CI.of (cc := zc_R_round) (maxL := 2) (ret := (some .int)) (by decide) rfl (Nat.le_of_ble_eq_true rfl) ?_
  intro pr ev s mt args below meth cd A ls hx hb hrt hts hown hlocks hml hP hK hD hA hS hl
  have hown : s.vm.findClass zR_R = some mt.cls := hown
  have hl : lv_has ls 2 [(0, .ref (bd 0)), (1, .int x)] := hl
  obtain ⟨hB, hn3, hn5, hc, hmd, hpp, hlg, hgn⟩ := hbas
  have hB20 := hB 20 0 (by decide)
  refine lv_aload_n hx hb zd_R_round_0 rfl (lv_at hl 0 rfl) ?_
  refine lv_iload_n hx hb zd_R_round_1 rfl (lv_at hl 1 rfl) ?_
  refine cq_callI (C := zR_R) (As := [.int x]) (rest := []) ⟨hx, hb, hml, hown, hts⟩ (cM_none l dC dI bd cs a x) (cq_cw 1 hts zm_R_none zl_R_84 zs_R_none ze_R_none zz_R rfl rfl (by decide +kernel) ⟨Nat.le_of_ble_eq_true rfl, Nat.le_of_ble_eq_true rfl⟩) hK hP hD hS hA 0 rfl rfl rfl hl.1 rfl (Nat.le_of_ble_eq_true rfl) zd_R_round_2 ⟨Nat.zero_le _, Nat.zero_le _⟩ (fun r0 u H locs hu hP hD hS => ?_)
  obtain ⟨hr0, hue⟩ := hu
  subst hr0
  rw [hue] at hP hD
  clear hue
  refine cn_if_eq (tgt := 12) hx hb zd_R_round_5 (by decide) (mq_none_2 _ _) (fun c1 => ?_) (fun c1 => ?_)
  · obtain ⟨p, hp, rfl⟩ := mq_none_0 hB20 c1
    refine lv_aload_n hx hb zd_R_round_12 rfl (lv_at hl 0 rfl) ?_
    refine va_get (D := (dC, dI)) (ci := 4) (v := .ref (bd 9)) (C := zR_R) (T := zT_R) (N := 24) hx hb hts zi_R hown hK hP 0 rfl rfl 11 (by decide) (hts _ zf_R_34) (fun _ h9 => h9) rfl zd_R_round_13 ?_
    refine lv_iload_n hx hb zd_R_round_16 rfl (lv_at hl 1 rfl) ?_
    refine cn_iald (f := a 8) hx hb hK hP 9 8 rfl rfl (by omega) (by decide) zd_R_round_17 ?_
    exact cq_ret (u := a) hx hb hrt ⟨_, rfl, rfl⟩ hlocks hK hP hD hS ⟨by simp only [mq_get, cq_id_nI hp hB20], rfl⟩ zd_R_round_18
  · refine lv_iconst (v := -1) hx hb zd_R_round_8 (by decide) ?_
    refine lv_goto (tgt := 18) hx hb zd_R_round_9 (by decide) ?_
    exact cq_ret (u := a) hx hb hrt ⟨_, rfl, rfl⟩ hlocks hK hP hD hS ⟨by simp only [mq_get, mq_none_1 c1], rfl⟩ zd_R_round_18

set_option maxHeartbeats 4000000 in
set_option maxRecDepth 100000 in
theorem cM_estimate (l : Launch) (dC : Nat → ClassId) (dI : Nat → Nat → Nat) (bd : Nat → Nat) (cs : Nat → ClassId) (a : cq_S) (hbas : mq_bas a) (x : Int32) : cq_CI l zy_R_estimate zw_R_estimate ({ frames := 1, cells := 0, slots := 0, locals := 21 }) (dC, dI) cq_cl (wM bd cs) (tysM cs) a [.ref (bd 0), .int x] (fun r u => r = mq_get a 9 x ∧ u = a) := by
  refine cq_CI.of (cc := zc_R_estimate) (maxL := 2) (ret := (some .int)) (by decide) rfl (Nat.le_of_ble_eq_true rfl) ?_
  intro pr ev s mt args below meth cd A ls hx hb hrt hts hown hlocks hml hP hK hD hA hS hl
  have hown : s.vm.findClass zR_R = some mt.cls := hown
  have hl : lv_has ls 2 [(0, .ref (bd 0)), (1, .int x)] := hl
  obtain ⟨hB, hn3, hn5, hc, hmd, hpp, hlg, hgn⟩ := hbas
  have hB20 := hB 20 0 (by decide)
  refine lv_aload_n hx hb zd_R_estimate_0 rfl (lv_at hl 0 rfl) ?_
  refine lv_iload_n hx hb zd_R_estimate_1 rfl (lv_at hl 1 rfl) ?_
  refine cq_callI (C := zR_R) (As := [.int x]) (rest := []) ⟨hx, hb, hml, hown, hts⟩ (cM_none l dC dI bd cs a x) (cq_cw 1 hts zm_R_none zl_R_84 zs_R_none ze_R_none zz_R rfl rfl (by decide +kernel) ⟨Nat.le_of_ble_eq_true rfl, Nat.le_of_ble_eq_true rfl⟩) hK hP hD hS hA 0 rfl rfl rfl hl.1 rfl (Nat.le_of_ble_eq_true rfl) zd_R_estimate_2 ⟨Nat.zero_le _, Nat.zero_le _⟩ (fun r0 u H locs hu hP hD hS => ?_)
  obtain ⟨hr0, hue⟩ := hu
  subst hr0
  rw [hue] at hP hD
  clear hue
  refine cn_if_eq (tgt := 12) hx hb zd_R_estimate_5 (by decide) (mq_none_2 _ _) (fun c1 => ?_) (fun c1 => ?_)
  · obtain ⟨p, hp, rfl⟩ := mq_none_0 hB20 c1
    refine lv_aload_n hx hb zd_R_estimate_12 rfl (lv_at hl 0 rfl) ?_
    refine va_get (D := (dC, dI)) (ci := 4) (v := .ref (bd 10)) (C := zR_R) (T := zT_R) (N := 24) hx hb hts zi_R hown hK hP 0 rfl rfl 12 (by decide) (hts _ zf_R_37) (fun _ h9 => h9) rfl zd_R_estimate_13 ?_
    refine lv_iload_n hx hb zd_R_estimate_16 rfl (lv_at hl 1 rfl) ?_
    refine cn_iald (f := a 9) hx hb hK hP 10 9 rfl rfl (by omega) (by decide) zd_R_estimate_17 ?_
    exact cq_ret (u := a) hx hb hrt ⟨_, rfl, rfl⟩ hlocks hK hP hD hS ⟨by simp only [mq_get, cq_id_nI hp hB20], rfl⟩ zd_R_estimate_18
  · refine lv_iconst (v := -1) hx hb zd_R_estimate_8 (by decide) ?_
    refine lv_goto (tgt := 18) hx hb zd_R_estimate_9 (by decide) ?_
    exact cq_ret (u := a) hx hb hrt ⟨_, rfl, rfl⟩ hlocks hK hP hD hS ⟨by simp only [mq_get, mq_none_1 c1], rfl⟩ zd_R_estimate_18

set_option maxHeartbeats 4000000 in
set_option maxRecDepth 100000 in
theorem cM_stamp (l : Launch) (dC : Nat → ClassId) (dI : Nat → Nat → Nat) (bd : Nat → Nat) (cs : Nat → ClassId) (a : cq_S) (hbas : mq_bas a) (x : Int32) : cq_CI l zy_R_stamp zw_R_stamp ({ frames := 1, cells := 0, slots := 0, locals := 21 }) (dC, dI) cq_cl (wM bd cs) (tysM cs) a [.ref (bd 0), .int x] (fun r u => r = mq_get a 10 x ∧ u = a) := by
  refine cq_CI.of (cc := zc_R_stamp) (maxL := 2) (ret := (some .int)) (by decide) rfl (Nat.le_of_ble_eq_true rfl) ?_
  intro pr ev s mt args below meth cd A ls hx hb hrt hts hown hlocks hml hP hK hD hA hS hl
  have hown : s.vm.findClass zR_R = some mt.cls := hown
  have hl : lv_has ls 2 [(0, .ref (bd 0)), (1, .int x)] := hl
  obtain ⟨hB, hn3, hn5, hc, hmd, hpp, hlg, hgn⟩ := hbas
  have hB20 := hB 20 0 (by decide)
  refine lv_aload_n hx hb zd_R_stamp_0 rfl (lv_at hl 0 rfl) ?_
  refine lv_iload_n hx hb zd_R_stamp_1 rfl (lv_at hl 1 rfl) ?_
  refine cq_callI (C := zR_R) (As := [.int x]) (rest := []) ⟨hx, hb, hml, hown, hts⟩ (cM_none l dC dI bd cs a x) (cq_cw 1 hts zm_R_none zl_R_84 zs_R_none ze_R_none zz_R rfl rfl (by decide +kernel) ⟨Nat.le_of_ble_eq_true rfl, Nat.le_of_ble_eq_true rfl⟩) hK hP hD hS hA 0 rfl rfl rfl hl.1 rfl (Nat.le_of_ble_eq_true rfl) zd_R_stamp_2 ⟨Nat.zero_le _, Nat.zero_le _⟩ (fun r0 u H locs hu hP hD hS => ?_)
  obtain ⟨hr0, hue⟩ := hu
  subst hr0
  rw [hue] at hP hD
  clear hue
  refine cn_if_eq (tgt := 12) hx hb zd_R_stamp_5 (by decide) (mq_none_2 _ _) (fun c1 => ?_) (fun c1 => ?_)
  · obtain ⟨p, hp, rfl⟩ := mq_none_0 hB20 c1
    refine lv_aload_n hx hb zd_R_stamp_12 rfl (lv_at hl 0 rfl) ?_
    refine va_get (D := (dC, dI)) (ci := 4) (v := .ref (bd 11)) (C := zR_R) (T := zT_R) (N := 24) hx hb hts zi_R hown hK hP 0 rfl rfl 13 (by decide) (hts _ zf_R_40) (fun _ h9 => h9) rfl zd_R_stamp_13 ?_
    refine lv_iload_n hx hb zd_R_stamp_16 rfl (lv_at hl 1 rfl) ?_
    refine cn_iald (f := a 10) hx hb hK hP 11 10 rfl rfl (by omega) (by decide) zd_R_stamp_17 ?_
    exact cq_ret (u := a) hx hb hrt ⟨_, rfl, rfl⟩ hlocks hK hP hD hS ⟨by simp only [mq_get, cq_id_nI hp hB20], rfl⟩ zd_R_stamp_18
  · refine lv_iconst (v := -1) hx hb zd_R_stamp_8 (by decide) ?_
    refine lv_goto (tgt := 18) hx hb zd_R_stamp_9 (by decide) ?_
    exact cq_ret (u := a) hx hb hrt ⟨_, rfl, rfl⟩ hlocks hK hP hD hS ⟨by simp only [mq_get, mq_none_1 c1], rfl⟩ zd_R_stamp_18

set_option maxHeartbeats 4000000 in
set_option maxRecDepth 100000 in
theorem cM_known (l : Launch) (dC : Nat → ClassId) (dI : Nat → Nat → Nat) (bd : Nat → Nat) (cs : Nat → ClassId) (a : cq_S) (hbas : mq_bas a) (x : Int32) : cq_CI l zy_R_known zw_R_known ({ frames := 1, cells := 0, slots := 0, locals := 21 }) (dC, dI) cq_cl (wM bd cs) (tysM cs) a [.ref (bd 0), .int x] (fun r u => r = mq_get a 0 x ∧ u = a) := by
  refine cq_CI.of (cc := zc_R_known) (maxL := 2) (ret := (some .int)) (by decide) rfl (Nat.le_of_ble_eq_true rfl) ?_
  intro pr ev s mt args below meth cd A ls hx hb hrt hts hown hlocks hml hP hK hD hA hS hl
  have hown : s.vm.findClass zR_R = some mt.cls := hown
  have hl : lv_has ls 2 [(0, .ref (bd 0)), (1, .int x)] := hl
  obtain ⟨hB, hn3, hn5, hc, hmd, hpp, hlg, hgn⟩ := hbas
  have hB20 := hB 20 0 (by decide)
  refine lv_aload_n hx hb zd_R_known_0 rfl (lv_at hl 0 rfl) ?_
  refine lv_iload_n hx hb zd_R_known_1 rfl (lv_at hl 1 rfl) ?_
  refine cq_callI (C := zR_R) (As := [.int x]) (rest := []) ⟨hx, hb, hml, hown, hts⟩ (cM_none l dC dI bd cs a x) (cq_cw 1 hts zm_R_none zl_R_84 zs_R_none ze_R_none zz_R rfl rfl (by decide +kernel) ⟨Nat.le_of_ble_eq_true rfl, Nat.le_of_ble_eq_true rfl⟩) hK hP hD hS hA 0 rfl rfl rfl hl.1 rfl (Nat.le_of_ble_eq_true rfl) zd_R_known_2 ⟨Nat.zero_le _, Nat.zero_le _⟩ (fun r0 u H locs hu hP hD hS => ?_)
  obtain ⟨hr0, hue⟩ := hu
  subst hr0
  rw [hue] at hP hD
  clear hue
  refine cn_if_eq (tgt := 12) hx hb zd_R_known_5 (by decide) (mq_none_2 _ _) (fun c1 => ?_) (fun c1 => ?_)
  · obtain ⟨p, hp, rfl⟩ := mq_none_0 hB20 c1
    refine lv_aload_n hx hb zd_R_known_12 rfl (lv_at hl 0 rfl) ?_
    refine va_get (D := (dC, dI)) (ci := 4) (v := .ref (bd 1)) (C := zR_R) (T := zT_R) (N := 24) hx hb hts zi_R hown hK hP 0 rfl rfl 3 (by decide) (hts _ zf_R_7) (fun _ h9 => h9) rfl zd_R_known_13 ?_
    refine lv_iload_n hx hb zd_R_known_16 rfl (lv_at hl 1 rfl) ?_
    refine cn_iald (f := a 0) hx hb hK hP 1 0 rfl rfl (by omega) (by decide) zd_R_known_17 ?_
    exact cq_ret (u := a) hx hb hrt ⟨_, rfl, rfl⟩ hlocks hK hP hD hS ⟨by simp only [mq_get, cq_id_nI hp hB20], rfl⟩ zd_R_known_18
  · refine lv_iconst (v := -1) hx hb zd_R_known_8 (by decide) ?_
    refine lv_goto (tgt := 18) hx hb zd_R_known_9 (by decide) ?_
    exact cq_ret (u := a) hx hb hrt ⟨_, rfl, rfl⟩ hlocks hK hP hD hS ⟨by simp only [mq_get, mq_none_1 c1], rfl⟩ zd_R_known_18

set_option maxHeartbeats 4000000 in
set_option maxRecDepth 100000 in
theorem cM_delivered (l : Launch) (dC : Nat → ClassId) (dI : Nat → Nat → Nat) (bd : Nat → Nat) (cs : Nat → ClassId) (a : cq_S) (hbas : mq_bas a) (x : Int32) : cq_CI l zy_R_delivered zw_R_delivered ({ frames := 1, cells := 0, slots := 0, locals := 21 }) (dC, dI) cq_cl (wM bd cs) (tysM cs) a [.ref (bd 0), .int x] (fun r u => r = mq_get a 2 x ∧ u = a) := by
  refine cq_CI.of (cc := zc_R_delivered) (maxL := 2) (ret := (some .int)) (by decide) rfl (Nat.le_of_ble_eq_true rfl) ?_
  intro pr ev s mt args below meth cd A ls hx hb hrt hts hown hlocks hml hP hK hD hA hS hl
  have hown : s.vm.findClass zR_R = some mt.cls := hown
  have hl : lv_has ls 2 [(0, .ref (bd 0)), (1, .int x)] := hl
  obtain ⟨hB, hn3, hn5, hc, hmd, hpp, hlg, hgn⟩ := hbas
  have hB20 := hB 20 0 (by decide)
  refine lv_aload_n hx hb zd_R_delivered_0 rfl (lv_at hl 0 rfl) ?_
  refine lv_iload_n hx hb zd_R_delivered_1 rfl (lv_at hl 1 rfl) ?_
  refine cq_callI (C := zR_R) (As := [.int x]) (rest := []) ⟨hx, hb, hml, hown, hts⟩ (cM_none l dC dI bd cs a x) (cq_cw 1 hts zm_R_none zl_R_84 zs_R_none ze_R_none zz_R rfl rfl (by decide +kernel) ⟨Nat.le_of_ble_eq_true rfl, Nat.le_of_ble_eq_true rfl⟩) hK hP hD hS hA 0 rfl rfl rfl hl.1 rfl (Nat.le_of_ble_eq_true rfl) zd_R_delivered_2 ⟨Nat.zero_le _, Nat.zero_le _⟩ (fun r0 u H locs hu hP hD hS => ?_)
  obtain ⟨hr0, hue⟩ := hu
  subst hr0
  rw [hue] at hP hD
  clear hue
  refine cn_if_eq (tgt := 12) hx hb zd_R_delivered_5 (by decide) (mq_none_2 _ _) (fun c1 => ?_) (fun c1 => ?_)
  · obtain ⟨p, hp, rfl⟩ := mq_none_0 hB20 c1
    refine lv_aload_n hx hb zd_R_delivered_12 rfl (lv_at hl 0 rfl) ?_
    refine va_get (D := (dC, dI)) (ci := 4) (v := .ref (bd 3)) (C := zR_R) (T := zT_R) (N := 24) hx hb hts zi_R hown hK hP 0 rfl rfl 5 (by decide) (hts _ zf_R_16) (fun _ h9 => h9) rfl zd_R_delivered_13 ?_
    refine lv_iload_n hx hb zd_R_delivered_16 rfl (lv_at hl 1 rfl) ?_
    refine cn_iald (f := a 2) hx hb hK hP 3 2 rfl rfl (by omega) (by decide) zd_R_delivered_17 ?_
    exact cq_ret (u := a) hx hb hrt ⟨_, rfl, rfl⟩ hlocks hK hP hD hS ⟨by simp only [mq_get, cq_id_nI hp hB20], rfl⟩ zd_R_delivered_18
  · refine lv_iconst (v := -1) hx hb zd_R_delivered_8 (by decide) ?_
    refine lv_goto (tgt := 18) hx hb zd_R_delivered_9 (by decide) ?_
    exact cq_ret (u := a) hx hb hrt ⟨_, rfl, rfl⟩ hlocks hK hP hD hS ⟨by simp only [mq_get, mq_none_1 c1], rfl⟩ zd_R_delivered_18

set_option maxHeartbeats 4000000 in
set_option maxRecDepth 100000 in
theorem cM_state (l : Launch) (dC : Nat → ClassId) (dI : Nat → Nat → Nat) (bd : Nat → Nat) (cs : Nat → ClassId) (a : cq_S) (hbas : mq_bas a) (x : Int32) : cq_CI l zy_R_state zw_R_state ({ frames := 1, cells := 0, slots := 0, locals := 21 }) (dC, dI) cq_cl (wM bd cs) (tysM cs) a [.ref (bd 0), .int x] (fun r u => r = mq_state a x ∧ u = a) := by
  refine cq_CI.of (cc := zc_R_state) (maxL := 2) (ret := (some .int)) (by decide) rfl (Nat.le_of_ble_eq_true rfl) ?_
  intro pr ev s mt args below meth cd A ls hx hb hrt hts hown hlocks hml hP hK hD hA hS hl
  have hown : s.vm.findClass zR_R = some mt.cls := hown
  have hl : lv_has ls 2 [(0, .ref (bd 0)), (1, .int x)] := hl
  obtain ⟨hB, hn3, hn5, hc, hmd, hpp, hlg, hgn⟩ := hbas
  have hB20 := hB 20 0 (by decide)
  refine lv_aload_n hx hb zd_R_state_0 rfl (lv_at hl 0 rfl) ?_
  refine lv_iload_n hx hb zd_R_state_1 rfl (lv_at hl 1 rfl) ?_
  refine cq_callI (C := zR_R) (As := [.int x]) (rest := []) ⟨hx, hb, hml, hown, hts⟩ (cM_none l dC dI bd cs a x) (cq_cw 1 hts zm_R_none zl_R_84 zs_R_none ze_R_none zz_R rfl rfl (by decide +kernel) ⟨Nat.le_of_ble_eq_true rfl, Nat.le_of_ble_eq_true rfl⟩) hK hP hD hS hA 0 rfl rfl rfl hl.1 rfl (Nat.le_of_ble_eq_true rfl) zd_R_state_2 ⟨Nat.zero_le _, Nat.zero_le _⟩ (fun r0 u H locs hu hP hD hS => ?_)
  obtain ⟨hr0, hue⟩ := hu
  subst hr0
  rw [hue] at hP hD
  clear hue
  refine cn_if_eq (tgt := 12) hx hb zd_R_state_5 (by decide) (mq_none_2 _ _) (fun c1 => ?_) (fun c1 => ?_)
  · obtain ⟨p, hp, rfl⟩ := mq_none_0 hB20 c1
    refine lv_aload_n hx hb zd_R_state_12 rfl (lv_at hl 0 rfl) ?_
    refine va_get (D := (dC, dI)) (ci := 4) (v := .ref (bd 12)) (C := zR_R) (T := zT_R) (N := 24) hx hb hts zi_R hown hK hP 0 rfl rfl 14 (by decide) (hts _ zf_R_43) (fun _ h9 => h9) rfl zd_R_state_13 ?_
    refine lv_iload_n hx hb zd_R_state_16 rfl (lv_at hl 1 rfl) ?_
    refine cn_zald (f := a 11) hx hb hK hP 12 11 rfl rfl (by omega) (by decide) zd_R_state_17 ?_
    refine cn_if_eq (tgt := 25) hx hb zd_R_state_18 (by decide) (hB _ _ (by decide)) (fun c2 => ?_) (fun c2 => ?_)
    · refine lv_aload_n hx hb zd_R_state_25 rfl (lv_at hl 0 rfl) ?_
      refine va_get (D := (dC, dI)) (ci := 4) (v := .ref (bd 8)) (C := zR_R) (T := zT_R) (N := 24) hx hb hts zi_R hown hK hP 0 rfl rfl 10 (by decide) (hts _ zf_R_31) (fun _ h9 => h9) rfl zd_R_state_26 ?_
      refine lv_iload_n hx hb zd_R_state_29 rfl (lv_at hl 1 rfl) ?_
      refine cn_iald (f := a 7) hx hb hK hP 8 7 rfl rfl (by omega) (by decide) zd_R_state_30 ?_
      exact cq_ret (u := a) hx hb hrt ⟨_, rfl, rfl⟩ hlocks hK hP hD hS ⟨by simp only [mq_state, cq_id_nI hp hB20]; rw [if_pos c2], rfl⟩ zd_R_state_31
    · refine lv_iconst (v := nI 5) hx hb zd_R_state_21 (by decide) ?_
      refine lv_goto (tgt := 31) hx hb zd_R_state_22 (by decide) ?_
      exact cq_ret (u := a) hx hb hrt ⟨_, rfl, rfl⟩ hlocks hK hP hD hS ⟨by simp only [mq_state, cq_id_nI hp hB20]; rw [if_neg c2], rfl⟩ zd_R_state_31
  · refine lv_iconst (v := -1) hx hb zd_R_state_8 (by decide) ?_
    refine lv_goto (tgt := 31) hx hb zd_R_state_9 (by decide) ?_
    exact cq_ret (u := a) hx hb hrt ⟨_, rfl, rfl⟩ hlocks hK hP hD hS ⟨by simp only [mq_state, mq_none_1 c1], rfl⟩ zd_R_state_31

set_option maxHeartbeats 4000000 in
set_option maxRecDepth 100000 in
theorem cM_suspects (l : Launch) (dC : Nat → ClassId) (dI : Nat → Nat → Nat) (bd : Nat → Nat) (cs : Nat → ClassId) (a : cq_S) (hbas : mq_bas a) (x y : Int32) : cq_CI l zy_R_suspects zw_R_suspects ({ frames := 1, cells := 0, slots := 0, locals := 21 }) (dC, dI) cq_cl (wM bd cs) (tysM cs) a [.ref (bd 0), .int x, .int y] (fun r u => r = mq_suspects a x y ∧ u = a) := by
  refine cq_CI.of (cc := zc_R_suspects) (maxL := 3) (ret := (some .boolean)) (by decide) rfl (Nat.le_of_ble_eq_true rfl) ?_
  intro pr ev s mt args below meth cd A ls hx hb hrt hts hown hlocks hml hP hK hD hA hS hl
  have hown : s.vm.findClass zR_R = some mt.cls := hown
  have hl : lv_has ls 3 [(0, .ref (bd 0)), (1, .int x), (2, .int y)] := hl
  obtain ⟨hB, hn3, hn5, hc, hmd, hpp, hlg, hgn⟩ := hbas
  have hB20 := hB 20 0 (by decide)
  refine lv_aload_n hx hb zd_R_suspects_0 rfl (lv_at hl 0 rfl) ?_
  refine lv_iload_n hx hb zd_R_suspects_1 rfl (lv_at hl 1 rfl) ?_
  refine cq_callI (C := zR_R) (As := [.int x]) (rest := []) ⟨hx, hb, hml, hown, hts⟩ (cM_none l dC dI bd cs a x) (cq_cw 1 hts zm_R_none zl_R_84 zs_R_none ze_R_none zz_R rfl rfl (by decide +kernel) ⟨Nat.le_of_ble_eq_true rfl, Nat.le_of_ble_eq_true rfl⟩) hK hP hD hS hA 0 rfl rfl rfl hl.1 rfl (Nat.le_of_ble_eq_true rfl) zd_R_suspects_2 ⟨Nat.zero_le _, Nat.zero_le _⟩ (fun r0 u H locs hu hP hD hS => ?_)
  obtain ⟨hr0, hue⟩ := hu
  subst hr0
  rw [hue] at hP hD
  clear hue
  refine cn_if_ne (tgt := 34) hx hb zd_R_suspects_5 (by decide) (mq_none_2 _ _) (fun c1 => ?_) (fun c1 => ?_)
  · refine lv_iconst (v := nI 0) hx hb zd_R_suspects_34 (by decide) ?_
    exact cq_ret (u := a) hx hb hrt ⟨_, rfl, rfl⟩ hlocks hK hP hD hS ⟨by simp only [mq_suspects, mq_none_1 c1], rfl⟩ zd_R_suspects_35
  · obtain ⟨p, hp, rfl⟩ := mq_none_0 hB20 c1
    refine lv_aload_n hx hb zd_R_suspects_8 rfl (lv_at hl 0 rfl) ?_
    refine lv_iload_n hx hb zd_R_suspects_9 rfl (lv_at hl 2 rfl) ?_
    refine cq_callI (C := zR_R) (As := [.int y]) (rest := []) ⟨hx, hb, hml, hown, hts⟩ (cM_none l dC dI bd cs a y) (cq_cw 1 hts zm_R_none zl_R_84 zs_R_none ze_R_none zz_R rfl rfl (by decide +kernel) ⟨Nat.le_of_ble_eq_true rfl, Nat.le_of_ble_eq_true rfl⟩) hK hP hD hS hA 0 rfl rfl rfl hl.1 rfl (Nat.le_of_ble_eq_true rfl) zd_R_suspects_10 ⟨Nat.zero_le _, Nat.zero_le _⟩ (fun r0 u H locs hu hP hD hS => ?_)
    obtain ⟨hr0, hue⟩ := hu
    subst hr0
    rw [hue] at hP hD
    clear hue
    refine cn_if_ne (tgt := 34) hx hb zd_R_suspects_13 (by decide) (mq_none_2 _ _) (fun c2 => ?_) (fun c2 => ?_)
    · refine lv_iconst (v := nI 0) hx hb zd_R_suspects_34 (by decide) ?_
      exact cq_ret (u := a) hx hb hrt ⟨_, rfl, rfl⟩ hlocks hK hP hD hS ⟨by simp only [mq_suspects, cq_id_nI hp hB20, mq_none_1 c2], rfl⟩ zd_R_suspects_35
    · obtain ⟨q, hq, rfl⟩ := mq_none_0 hB20 c2
      refine lv_aload_n hx hb zd_R_suspects_16 rfl (lv_at hl 0 rfl) ?_
      refine va_get (D := (dC, dI)) (ci := 4) (v := .ref (bd 6)) (C := zR_R) (T := zT_R) (N := 24) hx hb hts zi_R hown hK hP 0 rfl rfl 8 (by decide) (hts _ zf_R_25) (fun _ h9 => h9) rfl zd_R_suspects_17 ?_
      refine lv_iload_n hx hb zd_R_suspects_20 rfl (lv_at hl 1 rfl) ?_
      refine cn_iald (f := a 5) hx hb hK hP 6 5 rfl rfl (by omega) (by decide) zd_R_suspects_21 ?_
      refine lv_iload_n hx hb zd_R_suspects_22 rfl (lv_at hl 2 rfl) ?_
      refine cn_ishr hx hb zd_R_suspects_23 (hB _ _ (by decide)) (by omega) ?_
      refine lv_iconst (v := nI 1) hx hb zd_R_suspects_24 (by decide) ?_
      refine cn_mask 2 1 (by decide) (Nat.lt_of_le_of_lt (Nat.div_le_self _ _) (hB _ _ (by decide))) (by decide) (by decide) hx hb zd_R_suspects_25 ?_
      refine lv_iconst (v := nI 1) hx hb zd_R_suspects_26 (by decide) ?_
      refine cn_icmp_ne (tgt := 34) hx hb zd_R_suspects_27 (by decide) (by omega) (by omega) (fun c3 => ?_) (fun c3 => ?_)
      · refine lv_iconst (v := nI 0) hx hb zd_R_suspects_34 (by decide) ?_
        exact cq_ret (u := a) hx hb hrt ⟨_, rfl, rfl⟩ hlocks hK hP hD hS ⟨by simp only [mq_suspects, cq_id_nI hp hB20, cq_id_nI hq hB20]; rw [show a 5 p / 2 ^ q % 2 = 0 by omega], rfl⟩ zd_R_suspects_35
      · refine lv_iconst (v := nI 1) hx hb zd_R_suspects_30 (by decide) ?_
        refine lv_goto (tgt := 35) hx hb zd_R_suspects_31 (by decide) ?_
        exact cq_ret (u := a) hx hb hrt ⟨_, rfl, rfl⟩ hlocks hK hP hD hS ⟨by simp only [mq_suspects, cq_id_nI hp hB20, cq_id_nI hq hB20]; rw [show a 5 p / 2 ^ q % 2 = 1 by omega], rfl⟩ zd_R_suspects_35

set_option maxHeartbeats 4000000 in
set_option maxRecDepth 100000 in
theorem cM_messages (l : Launch) (dC : Nat → ClassId) (dI : Nat → Nat → Nat) (bd : Nat → Nat) (cs : Nat → ClassId) (a : cq_S)  : cq_CI l zy_R_messages zw_R_messages ({ frames := 0, cells := 0, slots := 0, locals := 0 }) (dC, dI) cq_cl (wM bd cs) (tysM cs) a [.ref (bd 0)] (fun r u => r = nI (a 21 0) ∧ u = a) := by
  refine cq_CI.of (cc := zc_R_messages) (maxL := 1) (ret := (some .int)) (by decide) rfl (Nat.le_of_ble_eq_true rfl) ?_
  intro pr ev s mt args below meth cd A ls hx hb hr hts hown hlocks hml hP hK hD hA hS hl
  have hown : s.vm.findClass zR_R = some mt.cls := hown
  have hl : lv_has ls 1 [(0, .ref (bd 0))] := hl
  refine lv_aload_n hx hb zd_R_messages_0 rfl (lv_at hl 0 rfl) ?_
  refine va_get (D := (dC, dI)) (ci := 4) (v := .int (nI (a 21 0))) (C := zR_R) (T := zT_R) (N := 24) hx hb hts zi_R hown hK hP 0 rfl rfl 1 (by decide) (hts _ zf_R_143) (fun _ h9 => h9) rfl zd_R_messages_1 ?_
  exact cq_ret (u := a) hx hb hr ⟨_, rfl, rfl⟩ hlocks hK hP hD hS ⟨rfl, rfl⟩ zd_R_messages_4

set_option maxHeartbeats 4000000 in
set_option maxRecDepth 100000 in
theorem cM_deliveredAt (l : Launch) (dC : Nat → ClassId) (dI : Nat → Nat → Nat) (bd : Nat → Nat) (cs : Nat → ClassId) (a : cq_S) (hbas : mq_bas a) (x y : Int32) : cq_CI l zy_R_deliveredAt zw_R_deliveredAt ({ frames := 1, cells := 0, slots := 0, locals := 21 }) (dC, dI) cq_cl (wM bd cs) (tysM cs) a [.ref (bd 0), .int x, .int y] (fun r u => r = mq_dAt a x y ∧ u = a) := by
  refine cq_CI.of (cc := zc_R_deliveredAt) (maxL := 3) (ret := (some .int)) (by decide) rfl (Nat.le_of_ble_eq_true rfl) ?_
  intro pr ev s mt args below meth cd A ls hx hb hrt hts hown hlocks hml hP hK hD hA hS hl
  have hown : s.vm.findClass zR_R = some mt.cls := hown
  have hl : lv_has ls 3 [(0, .ref (bd 0)), (1, .int x), (2, .int y)] := hl
  obtain ⟨hB, hn3, hn5, hc, hmd, hpp, hlg, hgn⟩ := hbas
  have hB20 := hB 20 0 (by decide)
  refine lv_aload_n hx hb zd_R_deliveredAt_0 rfl (lv_at hl 0 rfl) ?_
  refine lv_iload_n hx hb zd_R_deliveredAt_1 rfl (lv_at hl 1 rfl) ?_
  refine cq_callI (C := zR_R) (As := [.int x]) (rest := []) ⟨hx, hb, hml, hown, hts⟩ (cM_none l dC dI bd cs a x) (cq_cw 1 hts zm_R_none zl_R_84 zs_R_none ze_R_none zz_R rfl rfl (by decide +kernel) ⟨Nat.le_of_ble_eq_true rfl, Nat.le_of_ble_eq_true rfl⟩) hK hP hD hS hA 0 rfl rfl rfl hl.1 rfl (Nat.le_of_ble_eq_true rfl) zd_R_deliveredAt_2 ⟨Nat.zero_le _, Nat.zero_le _⟩ (fun r0 u H locs hu hP hD hS => ?_)
  obtain ⟨hr0, hue⟩ := hu
  subst hr0
  rw [hue] at hP hD
  clear hue
  refine cn_if_ne (tgt := 22) hx hb zd_R_deliveredAt_5 (by decide) (mq_none_2 _ _) (fun c1 => ?_) (fun c1 => ?_)
  · refine lv_iconst (v := -1) hx hb zd_R_deliveredAt_22 (by decide) ?_
    refine lv_goto (tgt := 37) hx hb zd_R_deliveredAt_23 (by decide) ?_
    exact cq_ret (u := a) hx hb hrt ⟨_, rfl, rfl⟩ hlocks hK hP hD hS ⟨by simp only [mq_dAt, mq_none_1 c1], rfl⟩ zd_R_deliveredAt_37
  · obtain ⟨p, hp, rfl⟩ := mq_none_0 hB20 c1
    refine lv_iload_n hx hb zd_R_deliveredAt_8 rfl (lv_at hl 2 rfl) ?_
    refine lv_if_lt (tgt := 22) hx hb zd_R_deliveredAt_9 (by decide) (fun c2 => ?_) (fun c2 => ?_)
    · refine lv_iconst (v := -1) hx hb zd_R_deliveredAt_22 (by decide) ?_
      refine lv_goto (tgt := 37) hx hb zd_R_deliveredAt_23 (by decide) ?_
      exact cq_ret (u := a) hx hb hrt ⟨_, rfl, rfl⟩ hlocks hK hP hD hS ⟨by simp only [mq_dAt, cq_id_nI hp hB20, cq_id_neg c2], rfl⟩ zd_R_deliveredAt_37
    · have hp2 := (hpp p (by omega)).2.2.2
      refine lv_iload_n hx hb zd_R_deliveredAt_12 rfl (lv_at hl 2 rfl) ?_
      refine lv_aload_n hx hb zd_R_deliveredAt_13 rfl (lv_at hl 0 rfl) ?_
      refine va_get (D := (dC, dI)) (ci := 4) (v := .ref (bd 3)) (C := zR_R) (T := zT_R) (N := 24) hx hb hts zi_R hown hK hP 0 rfl rfl 5 (by decide) (hts _ zf_R_16) (fun _ h9 => h9) rfl zd_R_deliveredAt_14 ?_
      refine lv_iload_n hx hb zd_R_deliveredAt_17 rfl (lv_at hl 1 rfl) ?_
      refine cn_iald (f := a 2) hx hb hK hP 3 2 rfl rfl (by omega) (by decide) zd_R_deliveredAt_18 ?_
      refine lv_icmp_lt (tgt := 26) hx hb zd_R_deliveredAt_19 (by decide) (fun c3 => ?_) (fun c3 => ?_)
      · obtain ⟨i, hi, rfl⟩ := cq_id_lt c2 c3 (by omega)
        refine lv_aload_n hx hb zd_R_deliveredAt_26 rfl (lv_at hl 0 rfl) ?_
        refine va_get (D := (dC, dI)) (ci := 4) (v := .ref (bd 4)) (C := zR_R) (T := zT_R) (N := 24) hx hb hts zi_R hown hK hP 0 rfl rfl 6 (by decide) (hts _ zf_R_19) (fun _ h9 => h9) rfl zd_R_deliveredAt_27 ?_
        refine lv_bipush (v := nI 8) hx hb zd_R_deliveredAt_30 (by decide) ?_
        refine lv_iload_n hx hb zd_R_deliveredAt_32 rfl (lv_at hl 1 rfl) ?_
        refine cn_imul hx hb zd_R_deliveredAt_33 ?_
        refine lv_iload_n hx hb zd_R_deliveredAt_34 rfl (lv_at hl 2 rfl) ?_
        refine cn_iadd hx hb zd_R_deliveredAt_35 ?_
        refine cn_iald (f := a 3) hx hb hK hP 4 3 rfl rfl (by omega) (by decide) zd_R_deliveredAt_36 ?_
        exact cq_ret (u := a) hx hb hrt ⟨_, rfl, rfl⟩ hlocks hK hP hD hS ⟨by simp only [mq_dAt, cq_id_nI hp hB20, cq_id_nI hi (show a 2 p < 2147483648 by omega)], rfl⟩ zd_R_deliveredAt_37
      · refine lv_iconst (v := -1) hx hb zd_R_deliveredAt_22 (by decide) ?_
        refine lv_goto (tgt := 37) hx hb zd_R_deliveredAt_23 (by decide) ?_
        exact cq_ret (u := a) hx hb hrt ⟨_, rfl, rfl⟩ hlocks hK hP hD hS ⟨by simp only [mq_dAt, cq_id_nI hp hB20, cq_id_ltn c3 (by omega)], rfl⟩ zd_R_deliveredAt_37

set_option maxHeartbeats 4000000 in
set_option maxRecDepth 100000 in
theorem cM_verdict (l : Launch) (dC : Nat → ClassId) (dI : Nat → Nat → Nat) (bd : Nat → Nat) (cs : Nat → ClassId) (a : cq_S) (hbas : mq_bas a) (x y : Int32) : cq_CI l zy_R_verdict zw_R_verdict ({ frames := 1, cells := 0, slots := 0, locals := 21 }) (dC, dI) cq_cl (wM bd cs) (tysM cs) a [.ref (bd 0), .int x, .int y] (fun r u => r = mq_verdict a x y ∧ u = a) := by
  refine cq_CI.of (cc := zc_R_verdict) (maxL := 3) (ret := (some .int)) (by decide) rfl (Nat.le_of_ble_eq_true rfl) ?_
  intro pr ev s mt args below meth cd A ls hx hb hrt hts hown hlocks hml hP hK hD hA hS hl
  have hown : s.vm.findClass zR_R = some mt.cls := hown
  have hl : lv_has ls 3 [(0, .ref (bd 0)), (1, .int x), (2, .int y)] := hl
  obtain ⟨hB, hn3, hn5, hc, hmd, hpp, hlg, hgn⟩ := hbas
  have hB20 := hB 20 0 (by decide)
  refine lv_aload_n hx hb zd_R_verdict_0 rfl (lv_at hl 0 rfl) ?_
  refine lv_iload_n hx hb zd_R_verdict_1 rfl (lv_at hl 1 rfl) ?_
  refine cq_callI (C := zR_R) (As := [.int x]) (rest := []) ⟨hx, hb, hml, hown, hts⟩ (cM_none l dC dI bd cs a x) (cq_cw 1 hts zm_R_none zl_R_84 zs_R_none ze_R_none zz_R rfl rfl (by decide +kernel) ⟨Nat.le_of_ble_eq_true rfl, Nat.le_of_ble_eq_true rfl⟩) hK hP hD hS hA 0 rfl rfl rfl hl.1 rfl (Nat.le_of_ble_eq_true rfl) zd_R_verdict_2 ⟨Nat.zero_le _, Nat.zero_le _⟩ (fun r0 u H locs hu hP hD hS => ?_)
  obtain ⟨hr0, hue⟩ := hu
  subst hr0
  rw [hue] at hP hD
  clear hue
  refine cn_if_ne (tgt := 18) hx hb zd_R_verdict_5 (by decide) (mq_none_2 _ _) (fun c1 => ?_) (fun c1 => ?_)
  · refine lv_iconst (v := -1) hx hb zd_R_verdict_18 (by decide) ?_
    refine lv_goto (tgt := 33) hx hb zd_R_verdict_19 (by decide) ?_
    exact cq_ret (u := a) hx hb hrt ⟨_, rfl, rfl⟩ hlocks hK hP hD hS ⟨by simp only [mq_verdict, mq_none_1 c1], rfl⟩ zd_R_verdict_33
  · obtain ⟨p, hp, rfl⟩ := mq_none_0 hB20 c1
    refine lv_iload_n hx hb zd_R_verdict_8 rfl (lv_at hl 2 rfl) ?_
    refine lv_if_lt (tgt := 18) hx hb zd_R_verdict_9 (by decide) (fun c2 => ?_) (fun c2 => ?_)
    · refine lv_iconst (v := -1) hx hb zd_R_verdict_18 (by decide) ?_
      refine lv_goto (tgt := 33) hx hb zd_R_verdict_19 (by decide) ?_
      exact cq_ret (u := a) hx hb hrt ⟨_, rfl, rfl⟩ hlocks hK hP hD hS ⟨by simp only [mq_verdict, cq_id_nI hp hB20, cq_id_neg c2], rfl⟩ zd_R_verdict_33
    · refine lv_iload_n hx hb zd_R_verdict_12 rfl (lv_at hl 2 rfl) ?_
      refine lv_bipush (v := nI 7) hx hb zd_R_verdict_13 (by decide) ?_
      refine lv_icmp_le (tgt := 22) hx hb zd_R_verdict_15 (by decide) (fun c3 => ?_) (fun c3 => ?_)
      · obtain ⟨k, hk, rfl⟩ := cq_id_le c2 c3 (by omega)
        refine lv_aload_n hx hb zd_R_verdict_22 rfl (lv_at hl 0 rfl) ?_
        refine va_get (D := (dC, dI)) (ci := 4) (v := .ref (bd 7)) (C := zR_R) (T := zT_R) (N := 24) hx hb hts zi_R hown hK hP 0 rfl rfl 9 (by decide) (hts _ zf_R_28) (fun _ h9 => h9) rfl zd_R_verdict_23 ?_
        refine lv_bipush (v := nI 8) hx hb zd_R_verdict_26 (by decide) ?_
        refine lv_iload_n hx hb zd_R_verdict_28 rfl (lv_at hl 1 rfl) ?_
        refine cn_imul hx hb zd_R_verdict_29 ?_
        refine lv_iload_n hx hb zd_R_verdict_30 rfl (lv_at hl 2 rfl) ?_
        refine cn_iadd hx hb zd_R_verdict_31 ?_
        refine cn_iald (f := a 6) hx hb hK hP 7 6 rfl rfl (by omega) (by decide) zd_R_verdict_32 ?_
        exact cq_ret (u := a) hx hb hrt ⟨_, rfl, rfl⟩ hlocks hK hP hD hS ⟨by simp only [mq_verdict, cq_id_nI hp hB20, cq_id_nI hk (show 8 < 2147483648 by omega)], rfl⟩ zd_R_verdict_33
      · refine lv_iconst (v := -1) hx hb zd_R_verdict_18 (by decide) ?_
        refine lv_goto (tgt := 33) hx hb zd_R_verdict_19 (by decide) ?_
        exact cq_ret (u := a) hx hb hrt ⟨_, rfl, rfl⟩ hlocks hK hP hD hS ⟨by simp only [mq_verdict, cq_id_nI hp hB20, cq_id_len c3 (by omega)], rfl⟩ zd_R_verdict_33

set_option maxHeartbeats 4000000 in
set_option maxRecDepth 100000 in
theorem cM_letters (l : Launch) (dC : Nat → ClassId) (dI : Nat → Nat → Nat) (bd : Nat → Nat) (cs : Nat → ClassId) (a : cq_S) (hbas : mq_bas a) (x y : Int32) : cq_CI l zy_R_letters zw_R_letters ({ frames := 1, cells := 0, slots := 0, locals := 21 }) (dC, dI) cq_cl (wM bd cs) (tysM cs) a [.ref (bd 0), .int x, .int y] (fun r u => r = mq_letters a x y ∧ u = a) := by
  refine cq_CI.of (cc := zc_R_letters) (maxL := 5) (ret := (some .int)) (by decide) rfl (Nat.le_of_ble_eq_true rfl) ?_
  intro pr ev s mt args below meth cd A ls hx hb hrt hts hown hlocks hml hP hK hD hA hS hl
  have hown : s.vm.findClass zR_R = some mt.cls := hown
  have hl : lv_has ls 5 [(0, .ref (bd 0)), (1, .int x), (2, .int y)] := hl
  obtain ⟨hB, hn3, hn5, hc, hmd, hpp, hlg, hgn⟩ := hbas
  have hB20 := hB 20 0 (by decide)
  refine lv_aload_n hx hb zd_R_letters_0 rfl (lv_at hl 0 rfl) ?_
  refine lv_iload_n hx hb zd_R_letters_1 rfl (lv_at hl 1 rfl) ?_
  refine cq_callI (C := zR_R) (As := [.int x]) (rest := []) ⟨hx, hb, hml, hown, hts⟩ (cM_none l dC dI bd cs a x) (cq_cw 1 hts zm_R_none zl_R_84 zs_R_none ze_R_none zz_R rfl rfl (by decide +kernel) ⟨Nat.le_of_ble_eq_true rfl, Nat.le_of_ble_eq_true rfl⟩) hK hP hD hS hA 0 rfl rfl rfl hl.1 rfl (Nat.le_of_ble_eq_true rfl) zd_R_letters_2 ⟨Nat.zero_le _, Nat.zero_le _⟩ (fun r0 u H locs hu hP hD hS => ?_)
  obtain ⟨hr0, hue⟩ := hu
  subst hr0
  rw [hue] at hP hD
  clear hue
  refine cn_if_ne (tgt := 16) hx hb zd_R_letters_5 (by decide) (mq_none_2 _ _) (fun c1 => ?_) (fun c1 => ?_)
  · refine lv_iconst (v := -1) hx hb zd_R_letters_16 (by decide) ?_
    exact cq_ret (u := a) hx hb hrt ⟨_, rfl, rfl⟩ hlocks hK hP hD hS ⟨by simp only [mq_letters, mq_none_1 c1], rfl⟩ zd_R_letters_17
  · obtain ⟨p, hp, rfl⟩ := mq_none_0 hB20 c1
    refine lv_aload_n hx hb zd_R_letters_8 rfl (lv_at hl 0 rfl) ?_
    refine lv_iload_n hx hb zd_R_letters_9 rfl (lv_at hl 2 rfl) ?_
    refine cq_callI (C := zR_R) (As := [.int y]) (rest := []) ⟨hx, hb, hml, hown, hts⟩ (cM_none l dC dI bd cs a y) (cq_cw 1 hts zm_R_none zl_R_84 zs_R_none ze_R_none zz_R rfl rfl (by decide +kernel) ⟨Nat.le_of_ble_eq_true rfl, Nat.le_of_ble_eq_true rfl⟩) hK hP hD hS hA 0 rfl rfl rfl hl.1 rfl (Nat.le_of_ble_eq_true rfl) zd_R_letters_10 ⟨Nat.zero_le _, Nat.zero_le _⟩ (fun r0 u H locs hu hP hD hS => ?_)
    obtain ⟨hr0, hue⟩ := hu
    subst hr0
    rw [hue] at hP hD
    clear hue
    refine cn_if_eq (tgt := 18) hx hb zd_R_letters_13 (by decide) (mq_none_2 _ _) (fun c2 => ?_) (fun c2 => ?_)
    · obtain ⟨q, hq, rfl⟩ := mq_none_0 hB20 c2
      refine lv_iconst (v := nI 0) hx hb zd_R_letters_18 (by decide) ?_
      refine lv_istore_n hx hb zd_R_letters_19 rfl hl (by decide) rfl (fun ls hl => ?_)
      have hl : lv_has ls 5 [(3, .int (nI 0)), (0, .ref (bd 0)), (1, .int (nI p)), (2, .int (nI q))] := hl
      refine lv_iconst (v := nI 0) hx hb zd_R_letters_20 (by decide) ?_
      refine lv_istore hx hb zd_R_letters_21 hl (by decide) rfl (fun ls hl => ?_)
      have hl : lv_has ls 5 [(4, .int (nI 0)), (3, .int (nI 0)), (0, .ref (bd 0)), (1, .int (nI p)), (2, .int (nI q))] := hl
      have LOOP : ∀ (d : Nat) (i m : Nat) (H : Heap) (locs : List Loc) (ls : Array Slot), i + d = a 23 0 → m = mq_cnt a p q i →  va_P (dC, dI) cq_cl (wM bd cs a) H → va_D A (wM bd cs a) → va_S A s.heap H locs → lv_has ls 5 [(4, .int (nI i)), (3, .int (nI m)), (0, .ref (bd 0)), (1, .int (nI p)), (2, .int (nI q))] → W pr l ev ({ frames := 1, cells := 0, slots := 0, locals := 21 }) s mt args below meth cd H locs 0 0 (MQ below (va_Qi (fun r u => r = mq_letters a (nI p) (nI q) ∧ u = a) (cq_at (dC, dI) cq_cl (wM bd cs) (tysM cs) A) A) args s 0 0 A) (F0 mt 23 ls []) := by
        intro d
        induction d with
        | zero =>
          intro i m H locs ls hm0 hm hP hD hS hl
          refine lv_iload hx hb zd_R_letters_23 (lv_at hl 0 rfl) ?_
          refine lv_aload_n hx hb zd_R_letters_25 rfl (lv_at hl 2 rfl) ?_
          refine va_get (D := (dC, dI)) (ci := 4) (v := .int (nI (a 23 0))) (C := zR_R) (T := zT_R) (N := 24) hx hb hts zi_R hown hK hP 0 rfl rfl 15 (by decide) (hts _ zf_R_77) (fun _ h9 => h9) rfl zd_R_letters_26 ?_
          refine cn_icmp_ge (tgt := 78) hx hb zd_R_letters_29 (by decide) (by omega) (hB _ _ (by decide)) (fun c1 => ?_) (fun c1 => ?_)
          · refine lv_iload_n hx hb zd_R_letters_78 rfl (lv_at hl 1 rfl) ?_
            have hie : i = a 23 0 := by omega
            subst hie
            exact cq_ret (u := a) hx hb hrt ⟨_, rfl, rfl⟩ hlocks hK hP hD hS ⟨by simp only [mq_letters, cq_id_nI hp hB20, cq_id_nI hq hB20]; rw [hm], rfl⟩ zd_R_letters_79
          · exact absurd hm0 (by omega)
        | succ d ih =>
          intro i m H locs ls hm0 hm hP hD hS hl
          refine lv_iload hx hb zd_R_letters_23 (lv_at hl 0 rfl) ?_
          refine lv_aload_n hx hb zd_R_letters_25 rfl (lv_at hl 2 rfl) ?_
          refine va_get (D := (dC, dI)) (ci := 4) (v := .int (nI (a 23 0))) (C := zR_R) (T := zT_R) (N := 24) hx hb hts zi_R hown hK hP 0 rfl rfl 15 (by decide) (hts _ zf_R_77) (fun _ h9 => h9) rfl zd_R_letters_26 ?_
          refine cn_icmp_ge (tgt := 78) hx hb zd_R_letters_29 (by decide) (by omega) (hB _ _ (by decide)) (fun c1 => ?_) (fun c1 => ?_)
          · exact absurd hm0 (by omega)
          · refine lv_iload_n hx hb zd_R_letters_32 rfl (lv_at hl 1 rfl) ?_
            refine lv_aload_n hx hb zd_R_letters_33 rfl (lv_at hl 2 rfl) ?_
            refine va_get (D := (dC, dI)) (ci := 4) (v := .ref (bd 20)) (C := zR_R) (T := zT_R) (N := 24) hx hb hts zi_R hown hK hP 0 rfl rfl 23 (by decide) (hts _ zf_R_70) (fun _ h9 => h9) rfl zd_R_letters_34 ?_
            refine lv_iload hx hb zd_R_letters_37 (lv_at hl 0 rfl) ?_
            refine cn_bald (f := a 19) hx hb hK hP 20 19 rfl rfl (by omega) (by decide) zd_R_letters_39 ?_
            refine cn_if_ne (tgt := 69) hx hb zd_R_letters_40 (by decide) (hB _ _ (by decide)) (fun c2 => ?_) (fun c2 => ?_)
            · refine lv_iconst (v := nI 0) hx hb zd_R_letters_69 (by decide) ?_
              refine cn_iadd hx hb zd_R_letters_70 ?_
              refine lv_istore_n hx hb zd_R_letters_71 rfl hl (by decide) rfl (fun ls hl => ?_)
              have hl : lv_has ls 5 [(3, .int (nI (m + 0))), (4, .int (nI i)), (0, .ref (bd 0)), (1, .int (nI p)), (2, .int (nI q))] := hl
              refine lv_iinc (k := 1) (v := nI (i + 1)) hx hb zd_R_letters_72 hl rfl (cn_inc _) (by decide) rfl (fun ls hl => ?_)
              have hl : lv_has ls 5 [(4, .int (nI (i + 1))), (3, .int (nI (m + 0))), (0, .ref (bd 0)), (1, .int (nI p)), (2, .int (nI q))] := hl
              refine lv_goto (tgt := 23) hx hb zd_R_letters_75 (by decide) ?_
              exact ih (i + 1) _ H locs ls (by omega) (by rw [mq_cnt, ← hm, if_neg (by omega)]) hP hD hS (lv_sub hl [0, 1, 2, 3, 4] rfl)
            · refine lv_aload_n hx hb zd_R_letters_43 rfl (lv_at hl 2 rfl) ?_
              refine va_get (D := (dC, dI)) (ci := 4) (v := .ref (bd 14)) (C := zR_R) (T := zT_R) (N := 24) hx hb hts zi_R hown hK hP 0 rfl rfl 17 (by decide) (hts _ zf_R_51) (fun _ h9 => h9) rfl zd_R_letters_44 ?_
              refine lv_iload hx hb zd_R_letters_47 (lv_at hl 0 rfl) ?_
              refine cn_bald (f := a 13) hx hb hK hP 14 13 rfl rfl (by omega) (by decide) zd_R_letters_49 ?_
              refine lv_iload_n hx hb zd_R_letters_50 rfl (lv_at hl 3 rfl) ?_
              refine cn_icmp_ne (tgt := 69) hx hb zd_R_letters_51 (by decide) (hB _ _ (by decide)) (by omega) (fun c3 => ?_) (fun c3 => ?_)
              · refine lv_iconst (v := nI 0) hx hb zd_R_letters_69 (by decide) ?_
                refine cn_iadd hx hb zd_R_letters_70 ?_
                refine lv_istore_n hx hb zd_R_letters_71 rfl hl (by decide) rfl (fun ls hl => ?_)
                have hl : lv_has ls 5 [(3, .int (nI (m + 0))), (4, .int (nI i)), (0, .ref (bd 0)), (1, .int (nI p)), (2, .int (nI q))] := hl
                refine lv_iinc (k := 1) (v := nI (i + 1)) hx hb zd_R_letters_72 hl rfl (cn_inc _) (by decide) rfl (fun ls hl => ?_)
                have hl : lv_has ls 5 [(4, .int (nI (i + 1))), (3, .int (nI (m + 0))), (0, .ref (bd 0)), (1, .int (nI p)), (2, .int (nI q))] := hl
                refine lv_goto (tgt := 23) hx hb zd_R_letters_75 (by decide) ?_
                exact ih (i + 1) _ H locs ls (by omega) (by rw [mq_cnt, ← hm, if_neg (by omega)]) hP hD hS (lv_sub hl [0, 1, 2, 3, 4] rfl)
              · refine lv_aload_n hx hb zd_R_letters_54 rfl (lv_at hl 2 rfl) ?_
                refine va_get (D := (dC, dI)) (ci := 4) (v := .ref (bd 15)) (C := zR_R) (T := zT_R) (N := 24) hx hb hts zi_R hown hK hP 0 rfl rfl 18 (by decide) (hts _ zf_R_54) (fun _ h9 => h9) rfl zd_R_letters_55 ?_
                refine lv_iload hx hb zd_R_letters_58 (lv_at hl 0 rfl) ?_
                refine cn_bald (f := a 14) hx hb hK hP 15 14 rfl rfl (by omega) (by decide) zd_R_letters_60 ?_
                refine lv_iload_n hx hb zd_R_letters_61 rfl (lv_at hl 4 rfl) ?_
                refine cn_icmp_ne (tgt := 69) hx hb zd_R_letters_62 (by decide) (hB _ _ (by decide)) (by omega) (fun c4 => ?_) (fun c4 => ?_)
                · refine lv_iconst (v := nI 0) hx hb zd_R_letters_69 (by decide) ?_
                  refine cn_iadd hx hb zd_R_letters_70 ?_
                  refine lv_istore_n hx hb zd_R_letters_71 rfl hl (by decide) rfl (fun ls hl => ?_)
                  have hl : lv_has ls 5 [(3, .int (nI (m + 0))), (4, .int (nI i)), (0, .ref (bd 0)), (1, .int (nI p)), (2, .int (nI q))] := hl
                  refine lv_iinc (k := 1) (v := nI (i + 1)) hx hb zd_R_letters_72 hl rfl (cn_inc _) (by decide) rfl (fun ls hl => ?_)
                  have hl : lv_has ls 5 [(4, .int (nI (i + 1))), (3, .int (nI (m + 0))), (0, .ref (bd 0)), (1, .int (nI p)), (2, .int (nI q))] := hl
                  refine lv_goto (tgt := 23) hx hb zd_R_letters_75 (by decide) ?_
                  exact ih (i + 1) _ H locs ls (by omega) (by rw [mq_cnt, ← hm, if_neg (by omega)]) hP hD hS (lv_sub hl [0, 1, 2, 3, 4] rfl)
                · refine lv_iconst (v := nI 1) hx hb zd_R_letters_65 (by decide) ?_
                  refine lv_goto (tgt := 70) hx hb zd_R_letters_66 (by decide) ?_
                  refine cn_iadd hx hb zd_R_letters_70 ?_
                  refine lv_istore_n hx hb zd_R_letters_71 rfl hl (by decide) rfl (fun ls hl => ?_)
                  have hl : lv_has ls 5 [(3, .int (nI (m + 1))), (4, .int (nI i)), (0, .ref (bd 0)), (1, .int (nI p)), (2, .int (nI q))] := hl
                  refine lv_iinc (k := 1) (v := nI (i + 1)) hx hb zd_R_letters_72 hl rfl (cn_inc _) (by decide) rfl (fun ls hl => ?_)
                  have hl : lv_has ls 5 [(4, .int (nI (i + 1))), (3, .int (nI (m + 1))), (0, .ref (bd 0)), (1, .int (nI p)), (2, .int (nI q))] := hl
                  refine lv_goto (tgt := 23) hx hb zd_R_letters_75 (by decide) ?_
                  exact ih (i + 1) _ H locs ls (by omega) (by rw [mq_cnt, ← hm, if_pos ⟨c2, c3, c4⟩]) hP hD hS (lv_sub hl [0, 1, 2, 3, 4] rfl)
      exact LOOP (a 23 0) 0 0 _ _ ls (by omega) rfl hP hD hS (lv_sub hl [0, 1, 2, 3, 4] rfl)
    · refine lv_iconst (v := -1) hx hb zd_R_letters_16 (by decide) ?_
      exact cq_ret (u := a) hx hb hrt ⟨_, rfl, rfl⟩ hlocks hK hP hD hS ⟨by simp only [mq_letters, cq_id_nI hp hB20, mq_none_1 c2], rfl⟩ zd_R_letters_17

