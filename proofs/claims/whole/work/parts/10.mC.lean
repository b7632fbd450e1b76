set_option maxHeartbeats 4000000 in
set_option maxRecDepth 100000 in
theorem cM_enter (l : Launch) (dC : Nat → ClassId) (dI : Nat → Nat → Nat) (bd : Nat → Nat) (cs : Nat → ClassId) (a : cq_S) (hB : cq_B a) (p r : Nat) (hp : p < 5) (hr1 : 1 ≤ r) (hr : r < 128) (hn : 0 < a 20 0) (hn5 : a 20 0 ≤ 5) (h4 : a 4 p < 128) (h9 : a 9 p < 32768) (h10 : a 10 p < 128) (hc : a 23 0 < 1500) : cq_CV l zy_R_enter zw_R_enter ({ frames := 1, cells := 0, slots := 0, locals := 26 }) (dC, dI) cq_cl (wM bd cs) (tysM cs) a [.ref (bd 0), .int (nI p), .int (nI r)] (fun u => u = mq_enter a p r) := by
  refine cq_CV.of (cc := zc_R_enter) (maxL := 4) (ret := none) (by decide) rfl (Nat.le_of_ble_eq_true rfl) ?_
  intro pr ev s mt args below meth cd A ls hx hb hrt hts hown hlocks hml hP hK hD hA hS hl
  have hown : s.vm.findClass zR_R = some mt.cls := hown
  have hl : lv_has ls 4 [(0, .ref (bd 0)), (1, .int (nI p)), (2, .int (nI r))] := hl
  have hld : mq_ldr a r < a 20 0 := mq_ldr_lt hn
  refine lv_aload_n hx hb zd_R_enter_0 rfl (lv_at hl 0 rfl) ?_
  refine va_get (D := (dC, dI)) (ci := 4) (v := .ref (bd 9)) (C := zR_R) (T := zT_R) (N := 24) hx hb hts zi_R hown hK hP 0 rfl rfl 11 (by decide) (hts _ zf_R_34) (fun _ h9 => h9) rfl zd_R_enter_1 ?_
  refine lv_iload_n hx hb zd_R_enter_4 rfl (lv_at hl 1 rfl) ?_
  refine lv_iload_n hx hb zd_R_enter_5 rfl (lv_at hl 2 rfl) ?_
  refine cn_iast (f := a 8) hx hb hK hP hD hS 9 8 rfl rfl (by omega) (by decide) zd_R_enter_6 (fun H locs hP hD hS => ?_)
  have hP : va_P (dC, dI) cq_cl (wM bd cs (cq_p a 8 p r)) H := hP
  have hD : va_D A (wM bd cs (cq_p a 8 p r)) := hD
  refine lv_iload_n hx hb zd_R_enter_7 rfl (lv_at hl 2 rfl) ?_
  refine lv_bipush (v := nI 11) hx hb zd_R_enter_8 (by decide) ?_
  refine cn_icmp_ne (tgt := 21) hx hb zd_R_enter_10 (by decide) (by omega) (by omega) (fun c1 => ?_) (fun c1 => ?_)
  · refine lv_aload_n hx hb zd_R_enter_21 rfl (lv_at hl 0 rfl) ?_
    refine lv_iload_n hx hb zd_R_enter_22 rfl (lv_at hl 2 rfl) ?_
    refine cq_callI (C := zR_R) (As := [.int (nI r)]) (rest := []) ⟨hx, hb, hml, hown, hts⟩ (cM_leader l dC dI bd cs ((cq_p a 8 p r)) (hB.put (by omega)) r hr1 (by omega) hn) (cq_cw 1 hts zm_R_leader zl_R_97 zs_R_leader ze_R_leader zz_R rfl rfl (by decide +kernel) ⟨Nat.le_of_ble_eq_true rfl, Nat.le_of_ble_eq_true rfl⟩) hK hP hD hS hA 0 rfl rfl rfl hl.1 rfl (Nat.le_of_ble_eq_true rfl) zd_R_enter_23 ⟨Nat.zero_le _, Nat.zero_le _⟩ (fun r0 u H locs hu hP hD hS => ?_)
    obtain ⟨hr0, hue⟩ := hu
    subst hr0
    rw [hue] at hP hD
    clear hue
    refine lv_istore_n hx hb zd_R_enter_26 rfl hl (by decide) rfl (fun ls hl => ?_)
    have hl : lv_has ls 4 [(3, .int (nI (mq_ldr a r))), (0, .ref (bd 0)), (1, .int (nI p)), (2, .int (nI r))] := hl
    refine lv_aload_n hx hb zd_R_enter_27 rfl (lv_at hl 1 rfl) ?_
    refine va_get (D := (dC, dI)) (ci := 4) (v := .ref (bd 8)) (C := zR_R) (T := zT_R) (N := 24) hx hb hts zi_R hown hK hP 0 rfl rfl 10 (by decide) (hts _ zf_R_31) (fun _ h9 => h9) rfl zd_R_enter_28 ?_
    refine lv_iload_n hx hb zd_R_enter_31 rfl (lv_at hl 2 rfl) ?_
    refine lv_iload_n hx hb zd_R_enter_32 rfl (lv_at hl 0 rfl) ?_
    refine lv_iload_n hx hb zd_R_enter_33 rfl (lv_at hl 2 rfl) ?_
    refine cn_icmp_ne (tgt := 41) hx hb zd_R_enter_34 (by decide) (by omega) (by omega) (fun c2 => ?_) (fun c2 => ?_)
    · refine lv_iconst (v := nI 2) hx hb zd_R_enter_41 (by decide) ?_
      refine cn_iast (f := a 7) hx hb hK hP hD hS 8 7 rfl rfl (by omega) (by decide) zd_R_enter_42 (fun H locs hP hD hS => ?_)
      have hP : va_P (dC, dI) cq_cl (wM bd cs (cq_p (cq_p a 8 p r) 7 p 2)) H := hP
      have hD : va_D A (wM bd cs (cq_p (cq_p a 8 p r) 7 p 2)) := hD
      refine lv_aload_n hx hb zd_R_enter_43 rfl (lv_at hl 1 rfl) ?_
      refine lv_iconst (v := nI 2) hx hb zd_R_enter_44 (by decide) ?_
      refine lv_iload_n hx hb zd_R_enter_45 rfl (lv_at hl 2 rfl) ?_
      refine lv_iload_n hx hb zd_R_enter_46 rfl (lv_at hl 0 rfl) ?_
      refine lv_aload_n hx hb zd_R_enter_47 rfl (lv_at hl 1 rfl) ?_
      refine va_get (D := (dC, dI)) (ci := 4) (v := .ref (bd 5)) (C := zR_R) (T := zT_R) (N := 24) hx hb hts zi_R hown hK hP 0 rfl rfl 7 (by decide) (hts _ zf_R_22) (fun _ h9 => h9) rfl zd_R_enter_48 ?_
      refine lv_iload_n hx hb zd_R_enter_51 rfl (lv_at hl 2 rfl) ?_
      refine cn_iald (f := a 4) hx hb hK hP 5 4 rfl rfl (by omega) (by decide) zd_R_enter_52 ?_
      refine lv_iload_n hx hb zd_R_enter_53 rfl (lv_at hl 3 rfl) ?_
      refine lv_aload_n hx hb zd_R_enter_54 rfl (lv_at hl 1 rfl) ?_
      refine va_get (D := (dC, dI)) (ci := 4) (v := .ref (bd 10)) (C := zR_R) (T := zT_R) (N := 24) hx hb hts zi_R hown hK hP 0 rfl rfl 12 (by decide) (hts _ zf_R_37) (fun _ h9 => h9) rfl zd_R_enter_55 ?_
      refine lv_iload_n hx hb zd_R_enter_58 rfl (lv_at hl 2 rfl) ?_
      refine cn_iald (f := a 9) hx hb hK hP 10 9 rfl rfl (by omega) (by decide) zd_R_enter_59 ?_
      refine cq_callV (C := zR_R) (As := [.int (nI 2), .int (nI p), .int (nI (mq_ldr a r)), .int (nI (a 4 p)), .int (nI r), .int (nI (a 9 p))]) (rest := []) ⟨hx, hb, hml, hown, hts⟩ (cM_put l dC dI bd cs ((cq_p (cq_p a 8 p r) 7 p 2)) ((hB.put (by omega)).put (by decide)) 2 p (mq_ldr a r) (a 4 p) r (a 9 p) (by decide) hp (by omega) h4 hr h9 h10 hc) (cq_cw 6 hts zm_R_put zl_R_80 zs_R_put ze_R_put zz_R rfl rfl (by decide +kernel) ⟨Nat.le_of_ble_eq_true rfl, Nat.le_of_ble_eq_true rfl⟩) hK hP hD hS hA 0 rfl rfl rfl hl.1 rfl (Nat.le_of_ble_eq_true rfl) zd_R_enter_60 ⟨Nat.zero_le _, Nat.zero_le _⟩ (fun u H locs hu hP hD hS => ?_)
      subst hu
      exact cq_vret (u := (mq_put (cq_p (cq_p a 8 p r) 7 p 2) 2 p (mq_ldr a r) (a 4 p) r (a 9 p))) hx hb hrt hlocks hK hP hD hS (by unfold mq_enter; rw [if_neg c1, if_neg c2]) zd_R_enter_63
    · refine lv_iconst (v := nI 1) hx hb zd_R_enter_37 (by decide) ?_
      refine lv_goto (tgt := 42) hx hb zd_R_enter_38 (by decide) ?_
      refine cn_iast (f := a 7) hx hb hK hP hD hS 8 7 rfl rfl (by omega) (by decide) zd_R_enter_42 (fun H locs hP hD hS => ?_)
      have hP : va_P (dC, dI) cq_cl (wM bd cs (cq_p (cq_p a 8 p r) 7 p 1)) H := hP
      have hD : va_D A (wM bd cs (cq_p (cq_p a 8 p r) 7 p 1)) := hD
      refine lv_aload_n hx hb zd_R_enter_43 rfl (lv_at hl 1 rfl) ?_
      refine lv_iconst (v := nI 2) hx hb zd_R_enter_44 (by decide) ?_
      refine lv_iload_n hx hb zd_R_enter_45 rfl (lv_at hl 2 rfl) ?_
      refine lv_iload_n hx hb zd_R_enter_46 rfl (lv_at hl 0 rfl) ?_
      refine lv_aload_n hx hb zd_R_enter_47 rfl (lv_at hl 1 rfl) ?_
      refine va_get (D := (dC, dI)) (ci := 4) (v := .ref (bd 5)) (C := zR_R) (T := zT_R) (N := 24) hx hb hts zi_R hown hK hP 0 rfl rfl 7 (by decide) (hts _ zf_R_22) (fun _ h9 => h9) rfl zd_R_enter_48 ?_
      refine lv_iload_n hx hb zd_R_enter_51 rfl (lv_at hl 2 rfl) ?_
      refine cn_iald (f := a 4) hx hb hK hP 5 4 rfl rfl (by omega) (by decide) zd_R_enter_52 ?_
      refine lv_iload_n hx hb zd_R_enter_53 rfl (lv_at hl 3 rfl) ?_
      refine lv_aload_n hx hb zd_R_enter_54 rfl (lv_at hl 1 rfl) ?_
      refine va_get (D := (dC, dI)) (ci := 4) (v := .ref (bd 10)) (C := zR_R) (T := zT_R) (N := 24) hx hb hts zi_R hown hK hP 0 rfl rfl 12 (by decide) (hts _ zf_R_37) (fun _ h9 => h9) rfl zd_R_enter_55 ?_
      refine lv_iload_n hx hb zd_R_enter_58 rfl (lv_at hl 2 rfl) ?_
      refine cn_iald (f := a 9) hx hb hK hP 10 9 rfl rfl (by omega) (by decide) zd_R_enter_59 ?_
      refine cq_callV (C := zR_R) (As := [.int (nI 2), .int (nI p), .int (nI (mq_ldr a r)), .int (nI (a 4 p)), .int (nI r), .int (nI (a 9 p))]) (rest := []) ⟨hx, hb, hml, hown, hts⟩ (cM_put l dC dI bd cs ((cq_p (cq_p a 8 p r) 7 p 1)) ((hB.put (by omega)).put (by decide)) 2 p (mq_ldr a r) (a 4 p) r (a 9 p) (by decide) hp (by omega) h4 hr h9 h10 hc) (cq_cw 6 hts zm_R_put zl_R_80 zs_R_put ze_R_put zz_R rfl rfl (by decide +kernel) ⟨Nat.le_of_ble_eq_true rfl, Nat.le_of_ble_eq_true rfl⟩) hK hP hD hS hA 0 rfl rfl rfl hl.1 rfl (Nat.le_of_ble_eq_true rfl) zd_R_enter_60 ⟨Nat.zero_le _, Nat.zero_le _⟩ (fun u H locs hu hP hD hS => ?_)
      subst hu
      exact cq_vret (u := (mq_put (cq_p (cq_p a 8 p r) 7 p 1) 2 p (mq_ldr a r) (a 4 p) r (a 9 p))) hx hb hrt hlocks hK hP hD hS (by unfold mq_enter; rw [if_neg c1, if_pos c2]) zd_R_enter_63
  · refine lv_aload_n hx hb zd_R_enter_13 rfl (lv_at hl 0 rfl) ?_
    refine va_get (D := (dC, dI)) (ci := 4) (v := .ref (bd 8)) (C := zR_R) (T := zT_R) (N := 24) hx hb hts zi_R hown hK hP 0 rfl rfl 10 (by decide) (hts _ zf_R_31) (fun _ h9 => h9) rfl zd_R_enter_14 ?_
    refine lv_iload_n hx hb zd_R_enter_17 rfl (lv_at hl 1 rfl) ?_
    refine lv_iconst (v := nI 4) hx hb zd_R_enter_18 (by decide) ?_
    refine cn_iast (f := a 7) hx hb hK hP hD hS 8 7 rfl rfl (by omega) (by decide) zd_R_enter_19 (fun H locs hP hD hS => ?_)
    have hP : va_P (dC, dI) cq_cl (wM bd cs (cq_p (cq_p a 8 p r) 7 p 4)) H := hP
    have hD : va_D A (wM bd cs (cq_p (cq_p a 8 p r) 7 p 4)) := hD
    exact cq_vret (u := (cq_p (cq_p a 8 p r) 7 p 4)) hx hb hrt hlocks hK hP hD hS (by unfold mq_enter; rw [if_pos c1]) zd_R_enter_20

set_option maxHeartbeats 4000000 in
set_option maxRecDepth 100000 in
theorem cM_learn (l : Launch) (dC : Nat → ClassId) (dI : Nat → Nat → Nat) (bd : Nat → Nat) (cs : Nat → ClassId) (a : cq_S) (hB : cq_B a) (p c b : Nat) (hp : p < 5) (hc : c < 8) (hb2 : b < 32768) (hn5 : a 20 0 ≤ 5) (h10 : a 10 p < 128) (hn : a 23 0 + 5 ≤ 1500) : cq_CV l zy_R_learn zw_R_learn ({ frames := 2, cells := 0, slots := 0, locals := 52 }) (dC, dI) cq_cl (wM bd cs) (tysM cs) a [.ref (bd 0), .int (nI p), .int (nI c), .int (nI b)] (fun u => u = mq_learn a p c b) := by
  refine cq_CV.of (cc := zc_R_learn) (maxL := 4) (ret := none) (by decide) rfl (Nat.le_of_ble_eq_true rfl) ?_
  intro pr ev s mt args below meth cd A ls hx hb hrt hts hown hlocks hml hP hK hD hA hS hl
  have hown : s.vm.findClass zR_R = some mt.cls := hown
  have hl : lv_has ls 4 [(0, .ref (bd 0)), (1, .int (nI p)), (2, .int (nI c)), (3, .int (nI b))] := hl
  refine lv_aload_n hx hb zd_R_learn_0 rfl (lv_at hl 0 rfl) ?_
  refine va_get (D := (dC, dI)) (ci := 4) (v := .ref (bd 7)) (C := zR_R) (T := zT_R) (N := 24) hx hb hts zi_R hown hK hP 0 rfl rfl 9 (by decide) (hts _ zf_R_28) (fun _ h9 => h9) rfl zd_R_learn_1 ?_
  refine lv_bipush (v := nI 8) hx hb zd_R_learn_4 (by decide) ?_
  refine lv_iload_n hx hb zd_R_learn_6 rfl (lv_at hl 1 rfl) ?_
  refine cn_imul hx hb zd_R_learn_7 ?_
  refine lv_iload_n hx hb zd_R_learn_8 rfl (lv_at hl 2 rfl) ?_
  refine cn_iadd hx hb zd_R_learn_9 ?_
  refine lv_iload_n hx hb zd_R_learn_10 rfl (lv_at hl 3 rfl) ?_
  refine cn_iast (f := a 6) hx hb hK hP hD hS 7 6 rfl rfl (by omega) (by decide) zd_R_learn_11 (fun H locs hP hD hS => ?_)
  have hP : va_P (dC, dI) cq_cl (wM bd cs (cq_p a 6 ((8 * p) + c) b)) H := hP
  have hD : va_D A (wM bd cs (cq_p a 6 ((8 * p) + c) b)) := hD
  refine lv_aload_n hx hb zd_R_learn_12 rfl (lv_at hl 0 rfl) ?_
  refine lv_iconst (v := nI 5) hx hb zd_R_learn_13 (by decide) ?_
  refine lv_iload_n hx hb zd_R_learn_14 rfl (lv_at hl 1 rfl) ?_
  refine lv_iload_n hx hb zd_R_learn_15 rfl (lv_at hl 2 rfl) ?_
  refine lv_iconst (v := nI 0) hx hb zd_R_learn_16 (by decide) ?_
  refine lv_iload_n hx hb zd_R_learn_17 rfl (lv_at hl 3 rfl) ?_
  refine cq_callV (C := zR_R) (As := [.int (nI 5), .int (nI p), .int (nI c), .int (nI 0), .int (nI b)]) (rest := []) ⟨hx, hb, hml, hown, hts⟩ (cM_toAll l dC dI bd cs ((cq_p a 6 ((8 * p) + c) b)) (hB.put (by omega)) 5 p c 0 b (by decide) hp (by omega) (by decide) hb2 h10 hn5 hn) (cq_cw 5 hts zm_R_toAll zl_R_101 zs_R_toAll ze_R_toAll zz_R rfl rfl (by decide +kernel) ⟨Nat.le_of_ble_eq_true rfl, Nat.le_of_ble_eq_true rfl⟩) hK hP hD hS hA 0 rfl rfl rfl hl.1 rfl (Nat.le_of_ble_eq_true rfl) zd_R_learn_18 ⟨Nat.zero_le _, Nat.zero_le _⟩ (fun u H locs hu hP hD hS => ?_)
  subst hu
  exact cq_vret (u := mq_learn a p c b) hx hb hrt hlocks hK hP hD hS rfl zd_R_learn_21

set_option maxHeartbeats 4000000 in
set_option maxRecDepth 100000 in
theorem cM_vote (l : Launch) (dC : Nat → ClassId) (dI : Nat → Nat → Nat) (bd : Nat → Nat) (cs : Nat → ClassId) (a : cq_S) (hB : cq_B a) (p y : Nat) (hp : p < 5) (hy : y < 32768) (hr1 : 1 ≤ a 8 p) (hr : a 8 p < 127) (hn : 0 < a 20 0) (hn5 : a 20 0 ≤ 5) (h4 : a 4 p < 128) (h9 : a 9 p < 32768) (h10 : a 10 p < 128) (hc : a 23 0 + 2 ≤ 1500) : cq_CV l zy_R_vote zw_R_vote ({ frames := 2, cells := 0, slots := 0, locals := 49 }) (dC, dI) cq_cl (wM bd cs) (tysM cs) a [.ref (bd 0), .int (nI p), .int (nI y)] (fun u => u = mq_vote a p y) := by
  refine cq_CV.of (cc := zc_R_vote) (maxL := 4) (ret := none) (by decide) rfl (Nat.le_of_ble_eq_true rfl) ?_
  intro pr ev s mt args below meth cd A ls hx hb hrt hts hown hlocks hml hP hK hD hA hS hl
  have hown : s.vm.findClass zR_R = some mt.cls := hown
  have hl : lv_has ls 4 [(0, .ref (bd 0)), (1, .int (nI p)), (2, .int (nI y))] := hl
  have hld : mq_ldr a (a 8 p) < a 20 0 := mq_ldr_lt hn
  refine lv_aload_n hx hb zd_R_vote_0 rfl (lv_at hl 0 rfl) ?_
  refine va_get (D := (dC, dI)) (ci := 4) (v := .ref (bd 9)) (C := zR_R) (T := zT_R) (N := 24) hx hb hts zi_R hown hK hP 0 rfl rfl 11 (by decide) (hts _ zf_R_34) (fun _ h9 => h9) rfl zd_R_vote_1 ?_
  refine lv_iload_n hx hb zd_R_vote_4 rfl (lv_at hl 1 rfl) ?_
  refine cn_iald (f := a 8) hx hb hK hP 9 8 rfl rfl (by omega) (by decide) zd_R_vote_5 ?_
  refine lv_istore_n hx hb zd_R_vote_6 rfl hl (by decide) rfl (fun ls hl => ?_)
  have hl : lv_has ls 4 [(3, .int (nI (a 8 p))), (0, .ref (bd 0)), (1, .int (nI p)), (2, .int (nI y))] := hl
  refine lv_aload_n hx hb zd_R_vote_7 rfl (lv_at hl 1 rfl) ?_
  refine lv_iconst (v := nI 4) hx hb zd_R_vote_8 (by decide) ?_
  refine lv_iload_n hx hb zd_R_vote_9 rfl (lv_at hl 2 rfl) ?_
  refine lv_aload_n hx hb zd_R_vote_10 rfl (lv_at hl 1 rfl) ?_
  refine lv_iload_n hx hb zd_R_vote_11 rfl (lv_at hl 0 rfl) ?_
  refine cq_callI (C := zR_R) (As := [.int (nI (a 8 p))]) (rest := [.int (nI p), .int (nI 4), .ref (bd 0)]) ⟨hx, hb, hml, hown, hts⟩ (cM_leader l dC dI bd cs a hB (a 8 p) hr1 (by omega) hn) (cq_cw 1 hts zm_R_leader zl_R_97 zs_R_leader ze_R_leader zz_R rfl rfl (by decide +kernel) ⟨Nat.le_of_ble_eq_true rfl, Nat.le_of_ble_eq_true rfl⟩) hK hP hD hS hA 0 rfl rfl rfl hl.1 rfl (Nat.le_of_ble_eq_true rfl) zd_R_vote_12 ⟨Nat.zero_le _, Nat.zero_le _⟩ (fun r0 u H locs hu hP hD hS => ?_)
  obtain ⟨hr0, hue⟩ := hu
  subst hr0
  rw [hue] at hP hD
  clear hue
  refine lv_aload_n hx hb zd_R_vote_15 rfl (lv_at hl 1 rfl) ?_
  refine va_get (D := (dC, dI)) (ci := 4) (v := .ref (bd 5)) (C := zR_R) (T := zT_R) (N := 24) hx hb hts zi_R hown hK hP 0 rfl rfl 7 (by decide) (hts _ zf_R_22) (fun _ h9 => h9) rfl zd_R_vote_16 ?_
  refine lv_iload_n hx hb zd_R_vote_19 rfl (lv_at hl 2 rfl) ?_
  refine cn_iald (f := a 4) hx hb hK hP 5 4 rfl rfl (by omega) (by decide) zd_R_vote_20 ?_
  refine lv_iload_n hx hb zd_R_vote_21 rfl (lv_at hl 0 rfl) ?_
  refine lv_iload_n hx hb zd_R_vote_22 rfl (lv_at hl 3 rfl) ?_
  refine cq_callV (C := zR_R) (As := [.int (nI 4), .int (nI p), .int (nI (mq_ldr a (a 8 p))), .int (nI (a 4 p)), .int (nI (a 8 p)), .int (nI y)]) (rest := []) ⟨hx, hb, hml, hown, hts⟩ (cM_put l dC dI bd cs a hB 4 p (mq_ldr a (a 8 p)) (a 4 p) (a 8 p) y (by decide) hp (by omega) h4 (by omega) hy h10 (by omega)) (cq_cw 6 hts zm_R_put zl_R_80 zs_R_put ze_R_put zz_R rfl rfl (by decide +kernel) ⟨Nat.le_of_ble_eq_true rfl, Nat.le_of_ble_eq_true rfl⟩) hK hP hD hS hA 0 rfl rfl rfl hl.1 rfl (Nat.le_of_ble_eq_true rfl) zd_R_vote_23 ⟨Nat.zero_le _, Nat.zero_le _⟩ (fun u H locs hu hP hD hS => ?_)
  subst hu
  refine lv_aload_n hx hb zd_R_vote_26 rfl (lv_at hl 1 rfl) ?_
  refine lv_iload_n hx hb zd_R_vote_27 rfl (lv_at hl 2 rfl) ?_
  refine lv_iload_n hx hb zd_R_vote_28 rfl (lv_at hl 0 rfl) ?_
  refine lv_iconst (v := nI 1) hx hb zd_R_vote_29 (by decide) ?_
  refine cn_iadd hx hb zd_R_vote_30 ?_
  refine cq_callV (C := zR_R) (As := [.int (nI p), .int (nI ((a 8 p) + 1))]) (rest := []) ⟨hx, hb, hml, hown, hts⟩ (cM_enter l dC dI bd cs ((mq_put a 4 p (mq_ldr a (a 8 p)) (a 4 p) (a 8 p) y)) (mq_put_B hB (by decide) (by omega) (by omega) (by omega) (by omega) (by omega) (by omega)) p (a 8 p + 1) hp (by omega) (by omega) (by rw [mq_put_k _ _ _ _ _ _ _ _ _ (by decide)]; exact hn) (by rw [mq_put_k _ _ _ _ _ _ _ _ _ (by decide)]; exact hn5) (by rw [mq_put_k _ _ _ _ _ _ _ _ _ (by decide)]; exact h4) (by rw [mq_put_k _ _ _ _ _ _ _ _ _ (by decide)]; exact h9) (by rw [mq_put_k _ _ _ _ _ _ _ _ _ (by decide)]; exact h10) (by rw [mq_put_n]; omega)) (cq_cw 2 hts zm_R_enter zl_R_105 zs_R_enter ze_R_enter zz_R rfl rfl (by decide +kernel) ⟨Nat.le_of_ble_eq_true rfl, Nat.le_of_ble_eq_true rfl⟩) hK hP hD hS hA 0 rfl rfl rfl hl.1 rfl (Nat.le_of_ble_eq_true rfl) zd_R_vote_31 ⟨Nat.zero_le _, Nat.zero_le _⟩ (fun u H locs hu hP hD hS => ?_)
  subst hu
  exact cq_vret (u := mq_vote a p y) hx hb hrt hlocks hK hP hD hS rfl zd_R_vote_34

set_option maxHeartbeats 4000000 in
set_option maxRecDepth 100000 in
theorem cM_finish (l : Launch) (dC : Nat → ClassId) (dI : Nat → Nat → Nat) (bd : Nat → Nat) (cs : Nat → ClassId) (a : cq_S) (hB : cq_B a) (p : Nat) (hp : p < 5) (h4 : a 4 p < 8) (h1 : a 1 p < 256) (h2 : a 2 p ≤ 8) (hq : ∀ m, m < 8 → a 6 (8 * p + a 4 p) / 2 ^ m % 2 = 1 → (mq_fin (a 6 (8 * p + a 4 p)) p a m) 1 p / 2 ^ m % 2 = 0 → (mq_fin (a 6 (8 * p + a 4 p)) p a m) 2 p < 8) : cq_CV l zy_R_finish zw_R_finish ({ frames := 0, cells := 0, slots := 0, locals := 0 }) (dC, dI) cq_cl (wM bd cs) (tysM cs) a [.ref (bd 0), .int (nI p)] (fun u => u = mq_finish a p) := by
  refine cq_CV.of (cc := zc_R_finish) (maxL := 4) (ret := none) (by decide) rfl (Nat.le_of_ble_eq_true rfl) ?_
  intro pr ev s mt args below meth cd A ls hx hb hrt hts hown hlocks hml hP hK hD hA hS hl
  have hown : s.vm.findClass zR_R = some mt.cls := hown
  have hl : lv_has ls 4 [(0, .ref (bd 0)), (1, .int (nI p))] := hl
  refine lv_aload_n hx hb zd_R_finish_0 rfl (lv_at hl 0 rfl) ?_
  refine va_get (D := (dC, dI)) (ci := 4) (v := .ref (bd 7)) (C := zR_R) (T := zT_R) (N := 24) hx hb hts zi_R hown hK hP 0 rfl rfl 9 (by decide) (hts _ zf_R_28) (fun _ h9 => h9) rfl zd_R_finish_1 ?_
  refine lv_bipush (v := nI 8) hx hb zd_R_finish_4 (by decide) ?_
  refine lv_iload_n hx hb zd_R_finish_6 rfl (lv_at hl 1 rfl) ?_
  refine cn_imul hx hb zd_R_finish_7 ?_
  refine lv_aload_n hx hb zd_R_finish_8 rfl (lv_at hl 0 rfl) ?_
  refine va_get (D := (dC, dI)) (ci := 4) (v := .ref (bd 5)) (C := zR_R) (T := zT_R) (N := 24) hx hb hts zi_R hown hK hP 0 rfl rfl 7 (by decide) (hts _ zf_R_22) (fun _ h9 => h9) rfl zd_R_finish_9 ?_
  refine lv_iload_n hx hb zd_R_finish_12 rfl (lv_at hl 1 rfl) ?_
  refine cn_iald (f := a 4) hx hb hK hP 5 4 rfl rfl (by omega) (by decide) zd_R_finish_13 ?_
  refine cn_iadd hx hb zd_R_finish_14 ?_
  refine cn_iald (f := a 6) hx hb hK hP 7 6 rfl rfl (by omega) (by decide) zd_R_finish_15 ?_
  refine lv_istore_n hx hb zd_R_finish_16 rfl hl (by decide) rfl (fun ls hl => ?_)
  have hl : lv_has ls 4 [(2, .int (nI (a 6 ((8 * p) + (a 4 p))))), (0, .ref (bd 0)), (1, .int (nI p))] := hl
  refine lv_iconst (v := nI 0) hx hb zd_R_finish_17 (by decide) ?_
  refine lv_istore_n hx hb zd_R_finish_18 rfl hl (by decide) rfl (fun ls hl => ?_)
  have hl : lv_has ls 4 [(3, .int (nI 0)), (2, .int (nI (a 6 ((8 * p) + (a 4 p))))), (0, .ref (bd 0)), (1, .int (nI p))] := hl
  have LOOP : ∀ (d : Nat) (i : Nat) (b : cq_S) (H : Heap) (locs : List Loc) (ls : Array Slot), i + d = 8 → b = mq_fin (a 6 (8 * p + a 4 p)) p a i →  va_P (dC, dI) cq_cl (wM bd cs b) H → va_D A (wM bd cs b) → va_S A s.heap H locs → lv_has ls 4 [(3, .int (nI i)), (2, .int (nI (a 6 (8 * p + a 4 p)))), (0, .ref (bd 0)), (1, .int (nI p))] → W pr l ev ({ frames := 0, cells := 0, slots := 0, locals := 0 }) s mt args below meth cd H locs 0 0 (MQ below (va_Qv (fun u => u = mq_finish a p) (cq_at (dC, dI) cq_cl (wM bd cs) (tysM cs) A) A) args s 0 0 A) (F0 mt 19 ls []) := by
    intro d
    induction d with
    | zero =>
      intro i b H locs ls hm0 hbe hP hD hS hl
      have hBb : cq_B b := by rw [hbe]; exact mq_fin_B hB h1 h2 i (by omega)
      have hb4 : b 4 p = a 4 p := by rw [hbe]; exact mq_fin_k _ _ _ _ _ _ (by decide)
      have hb1 : b 1 p < 256 := by rw [hbe]; exact mq_fin_1 _ _ _ h1 i (by omega)
      have hB6 := hB 6 (8 * p + a 4 p) (by decide)
      have hb2 : a 6 (8 * p + a 4 p) / 2 ^ i % 2 = 1 → b 1 p / 2 ^ i % 2 = 0 → i < 8 → b 2 p < 8 := by rw [hbe]; exact fun x y z => hq i z x y
      refine lv_iload_n hx hb zd_R_finish_19 rfl (lv_at hl 0 rfl) ?_
      refine lv_bipush (v := nI 8) hx hb zd_R_finish_20 (by decide) ?_
      refine cn_icmp_ge (tgt := 92) hx hb zd_R_finish_22 (by decide) (by omega) (by omega) (fun c1 => ?_) (fun c1 => ?_)
      · refine lv_aload_n hx hb zd_R_finish_92 rfl (lv_at hl 2 rfl) ?_
        refine va_get (D := (dC, dI)) (ci := 4) (v := .ref (bd 5)) (C := zR_R) (T := zT_R) (N := 24) hx hb hts zi_R hown hK hP 0 rfl rfl 7 (by decide) (hts _ zf_R_22) (fun _ h9 => h9) rfl zd_R_finish_93 ?_
        refine lv_iload_n hx hb zd_R_finish_96 rfl (lv_at hl 3 rfl) ?_
        refine lv_dup2_11 hx hb zd_R_finish_97 rfl rfl ?_
        refine cn_iald (f := b 4) hx hb hK hP 5 4 rfl rfl (by omega) (by decide) zd_R_finish_98 ?_
        refine cn_top (show nI (b 4 p) = nI (a 4 p) by rw [hb4]) ?_
        refine lv_iconst (v := nI 1) hx hb zd_R_finish_99 (by decide) ?_
        refine cn_iadd hx hb zd_R_finish_100 ?_
        refine cn_iast (f := b 4) hx hb hK hP hD hS 5 4 rfl rfl (by omega) (by decide) zd_R_finish_101 (fun H locs hP hD hS => ?_)
        have hP : va_P (dC, dI) cq_cl (wM bd cs (cq_p b 4 p ((a 4 p) + 1))) H := hP
        have hD : va_D A (wM bd cs (cq_p b 4 p ((a 4 p) + 1))) := hD
        refine lv_aload_n hx hb zd_R_finish_102 rfl (lv_at hl 2 rfl) ?_
        refine va_get (D := (dC, dI)) (ci := 4) (v := .ref (bd 8)) (C := zR_R) (T := zT_R) (N := 24) hx hb hts zi_R hown hK hP 0 rfl rfl 10 (by decide) (hts _ zf_R_31) (fun _ h9 => h9) rfl zd_R_finish_103 ?_
        refine lv_iload_n hx hb zd_R_finish_106 rfl (lv_at hl 3 rfl) ?_
        refine lv_iconst (v := nI 0) hx hb zd_R_finish_107 (by decide) ?_
        refine cn_iast (f := b 7) hx hb hK hP hD hS 8 7 rfl rfl (by omega) (by decide) zd_R_finish_108 (fun H locs hP hD hS => ?_)
        have hP : va_P (dC, dI) cq_cl (wM bd cs (cq_p (cq_p b 4 p ((a 4 p) + 1)) 7 p 0)) H := hP
        have hD : va_D A (wM bd cs (cq_p (cq_p b 4 p ((a 4 p) + 1)) 7 p 0)) := hD
        refine lv_aload_n hx hb zd_R_finish_109 rfl (lv_at hl 2 rfl) ?_
        refine va_get (D := (dC, dI)) (ci := 4) (v := .ref (bd 9)) (C := zR_R) (T := zT_R) (N := 24) hx hb hts zi_R hown hK hP 0 rfl rfl 11 (by decide) (hts _ zf_R_34) (fun _ h9 => h9) rfl zd_R_finish_110 ?_
        refine lv_iload_n hx hb zd_R_finish_113 rfl (lv_at hl 3 rfl) ?_
        refine lv_iconst (v := nI 0) hx hb zd_R_finish_114 (by decide) ?_
        refine cn_iast (f := b 8) hx hb hK hP hD hS 9 8 rfl rfl (by omega) (by decide) zd_R_finish_115 (fun H locs hP hD hS => ?_)
        have hP : va_P (dC, dI) cq_cl (wM bd cs (cq_p (cq_p (cq_p b 4 p ((a 4 p) + 1)) 7 p 0) 8 p 0)) H := hP
        have hD : va_D A (wM bd cs (cq_p (cq_p (cq_p b 4 p ((a 4 p) + 1)) 7 p 0) 8 p 0)) := hD
        refine lv_aload_n hx hb zd_R_finish_116 rfl (lv_at hl 2 rfl) ?_
        refine va_get (D := (dC, dI)) (ci := 4) (v := .ref (bd 10)) (C := zR_R) (T := zT_R) (N := 24) hx hb hts zi_R hown hK hP 0 rfl rfl 12 (by decide) (hts _ zf_R_37) (fun _ h9 => h9) rfl zd_R_finish_117 ?_
        refine lv_iload_n hx hb zd_R_finish_120 rfl (lv_at hl 3 rfl) ?_
        refine lv_iconst (v := nI 0) hx hb zd_R_finish_121 (by decide) ?_
        refine cn_iast (f := b 9) hx hb hK hP hD hS 10 9 rfl rfl (by omega) (by decide) zd_R_finish_122 (fun H locs hP hD hS => ?_)
        have hP : va_P (dC, dI) cq_cl (wM bd cs (cq_p (cq_p (cq_p (cq_p b 4 p ((a 4 p) + 1)) 7 p 0) 8 p 0) 9 p 0)) H := hP
        have hD : va_D A (wM bd cs (cq_p (cq_p (cq_p (cq_p b 4 p ((a 4 p) + 1)) 7 p 0) 8 p 0) 9 p 0)) := hD
        refine lv_aload_n hx hb zd_R_finish_123 rfl (lv_at hl 2 rfl) ?_
        refine va_get (D := (dC, dI)) (ci := 4) (v := .ref (bd 11)) (C := zR_R) (T := zT_R) (N := 24) hx hb hts zi_R hown hK hP 0 rfl rfl 13 (by decide) (hts _ zf_R_40) (fun _ h9 => h9) rfl zd_R_finish_124 ?_
        refine lv_iload_n hx hb zd_R_finish_127 rfl (lv_at hl 3 rfl) ?_
        refine lv_iconst (v := nI 0) hx hb zd_R_finish_128 (by decide) ?_
        refine cn_iast (f := b 10) hx hb hK hP hD hS 11 10 rfl rfl (by omega) (by decide) zd_R_finish_129 (fun H locs hP hD hS => ?_)
        have hP : va_P (dC, dI) cq_cl (wM bd cs (cq_p (cq_p (cq_p (cq_p (cq_p b 4 p ((a 4 p) + 1)) 7 p 0) 8 p 0) 9 p 0) 10 p 0)) H := hP
        have hD : va_D A (wM bd cs (cq_p (cq_p (cq_p (cq_p (cq_p b 4 p ((a 4 p) + 1)) 7 p 0) 8 p 0) 9 p 0) 10 p 0)) := hD
        have hie : i = 8 := by omega
        subst hie
        exact cq_vret (u := (cq_p (cq_p (cq_p (cq_p (cq_p b 4 p ((a 4 p) + 1)) 7 p 0) 8 p 0) 9 p 0) 10 p 0)) hx hb hrt hlocks hK hP hD hS (by rw [hbe]; rfl) zd_R_finish_130
      · exact absurd hm0 (by omega)
    | succ d ih =>
      intro i b H locs ls hm0 hbe hP hD hS hl
      have hBb : cq_B b := by rw [hbe]; exact mq_fin_B hB h1 h2 i (by omega)
      have hb4 : b 4 p = a 4 p := by rw [hbe]; exact mq_fin_k _ _ _ _ _ _ (by decide)
      have hb1 : b 1 p < 256 := by rw [hbe]; exact mq_fin_1 _ _ _ h1 i (by omega)
      have hB6 := hB 6 (8 * p + a 4 p) (by decide)
      have hb2 : a 6 (8 * p + a 4 p) / 2 ^ i % 2 = 1 → b 1 p / 2 ^ i % 2 = 0 → i < 8 → b 2 p < 8 := by rw [hbe]; exact fun x y z => hq i z x y
      refine lv_iload_n hx hb zd_R_finish_19 rfl (lv_at hl 0 rfl) ?_
      refine lv_bipush (v := nI 8) hx hb zd_R_finish_20 (by decide) ?_
      refine cn_icmp_ge (tgt := 92) hx hb zd_R_finish_22 (by decide) (by omega) (by omega) (fun c1 => ?_) (fun c1 => ?_)
      · exact absurd hm0 (by omega)
      · refine lv_iload_n hx hb zd_R_finish_25 rfl (lv_at hl 1 rfl) ?_
        refine lv_iload_n hx hb zd_R_finish_26 rfl (lv_at hl 0 rfl) ?_
        refine cn_ishr hx hb zd_R_finish_27 (by omega) (by omega) ?_
        refine lv_iconst (v := nI 1) hx hb zd_R_finish_28 (by decide) ?_
        refine cn_mask 2 1 (by decide) (Nat.lt_of_le_of_lt (Nat.div_le_self _ _) (by omega)) (by decide) (by decide) hx hb zd_R_finish_29 ?_
        refine lv_iconst (v := nI 1) hx hb zd_R_finish_30 (by decide) ?_
        refine cn_icmp_ne (tgt := 86) hx hb zd_R_finish_31 (by decide) (by omega) (by omega) (fun c2 => ?_) (fun c2 => ?_)
        · refine lv_iinc (k := 0) (v := nI (i + 1)) hx hb zd_R_finish_86 hl rfl (cn_inc _) (by decide) rfl (fun ls hl => ?_)
          have hl : lv_has ls 4 [(3, .int (nI (i + 1))), (2, .int (nI (a 6 (8 * p + a 4 p)))), (0, .ref (bd 0)), (1, .int (nI p))] := hl
          refine lv_goto (tgt := 19) hx hb zd_R_finish_89 (by decide) ?_
          exact ih (i + 1) _ H locs ls (by omega) (by rw [mq_fin, ← hbe, if_neg (by omega)]) hP hD hS (lv_sub hl [0, 1, 2, 3] rfl)
        · refine lv_aload_n hx hb zd_R_finish_34 rfl (lv_at hl 2 rfl) ?_
          refine va_get (D := (dC, dI)) (ci := 4) (v := .ref (bd 2)) (C := zR_R) (T := zT_R) (N := 24) hx hb hts zi_R hown hK hP 0 rfl rfl 4 (by decide) (hts _ zf_R_13) (fun _ h9 => h9) rfl zd_R_finish_35 ?_
          refine lv_iload_n hx hb zd_R_finish_38 rfl (lv_at hl 3 rfl) ?_
          refine cn_iald (f := b 1) hx hb hK hP 2 1 rfl rfl (by omega) (by decide) zd_R_finish_39 ?_
          refine lv_iload_n hx hb zd_R_finish_40 rfl (lv_at hl 0 rfl) ?_
          refine cn_ishr hx hb zd_R_finish_41 (hBb _ _ (by decide)) (by omega) ?_
          refine lv_iconst (v := nI 1) hx hb zd_R_finish_42 (by decide) ?_
          refine cn_mask 2 1 (by decide) (Nat.lt_of_le_of_lt (Nat.div_le_self _ _) (hBb _ _ (by decide))) (by decide) (by decide) hx hb zd_R_finish_43 ?_
          refine cn_if_ne (tgt := 86) hx hb zd_R_finish_44 (by decide) (by omega) (fun c3 => ?_) (fun c3 => ?_)
          · refine lv_iinc (k := 0) (v := nI (i + 1)) hx hb zd_R_finish_86 hl rfl (cn_inc _) (by decide) rfl (fun ls hl => ?_)
            have hl : lv_has ls 4 [(3, .int (nI (i + 1))), (2, .int (nI (a 6 (8 * p + a 4 p)))), (0, .ref (bd 0)), (1, .int (nI p))] := hl
            refine lv_goto (tgt := 19) hx hb zd_R_finish_89 (by decide) ?_
            exact ih (i + 1) _ H locs ls (by omega) (by rw [mq_fin, ← hbe, if_neg (by omega)]) hP hD hS (lv_sub hl [0, 1, 2, 3] rfl)
          · have hb3 := hb2 c2 c3 (by omega)
            refine lv_aload_n hx hb zd_R_finish_47 rfl (lv_at hl 2 rfl) ?_
            refine va_get (D := (dC, dI)) (ci := 4) (v := .ref (bd 2)) (C := zR_R) (T := zT_R) (N := 24) hx hb hts zi_R hown hK hP 0 rfl rfl 4 (by decide) (hts _ zf_R_13) (fun _ h9 => h9) rfl zd_R_finish_48 ?_
            refine lv_iload_n hx hb zd_R_finish_51 rfl (lv_at hl 3 rfl) ?_
            refine lv_dup2_11 hx hb zd_R_finish_52 rfl rfl ?_
            refine cn_iald (f := b 1) hx hb hK hP 2 1 rfl rfl (by omega) (by decide) zd_R_finish_53 ?_
            refine lv_iconst (v := nI 1) hx hb zd_R_finish_54 (by decide) ?_
            refine lv_iload_n hx hb zd_R_finish_55 rfl (lv_at hl 0 rfl) ?_
            refine cn_ishl1 hx hb zd_R_finish_56 (by omega) ?_
            refine cn_ior hx hb zd_R_finish_57 ?_
            refine cn_iast (f := b 1) hx hb hK hP hD hS 2 1 rfl rfl (by omega) (by decide) zd_R_finish_58 (fun H locs hP hD hS => ?_)
            have hP : va_P (dC, dI) cq_cl (wM bd cs (cq_p b 1 p ((b 1 p) ||| (2 ^ i)))) H := hP
            have hD : va_D A (wM bd cs (cq_p b 1 p ((b 1 p) ||| (2 ^ i)))) := hD
            refine lv_aload_n hx hb zd_R_finish_59 rfl (lv_at hl 2 rfl) ?_
            refine va_get (D := (dC, dI)) (ci := 4) (v := .ref (bd 4)) (C := zR_R) (T := zT_R) (N := 24) hx hb hts zi_R hown hK hP 0 rfl rfl 6 (by decide) (hts _ zf_R_19) (fun _ h9 => h9) rfl zd_R_finish_60 ?_
            refine lv_bipush (v := nI 8) hx hb zd_R_finish_63 (by decide) ?_
            refine lv_iload_n hx hb zd_R_finish_65 rfl (lv_at hl 3 rfl) ?_
            refine cn_imul hx hb zd_R_finish_66 ?_
            refine lv_aload_n hx hb zd_R_finish_67 rfl (lv_at hl 2 rfl) ?_
            refine va_get (D := (dC, dI)) (ci := 4) (v := .ref (bd 3)) (C := zR_R) (T := zT_R) (N := 24) hx hb hts zi_R hown hK hP 0 rfl rfl 5 (by decide) (hts _ zf_R_16) (fun _ h9 => h9) rfl zd_R_finish_68 ?_
            refine lv_iload_n hx hb zd_R_finish_71 rfl (lv_at hl 3 rfl) ?_
            refine cn_iald (f := b 2) hx hb hK hP 3 2 rfl rfl (by omega) (by decide) zd_R_finish_72 ?_
            refine cn_iadd hx hb zd_R_finish_73 ?_
            refine lv_iload_n hx hb zd_R_finish_74 rfl (lv_at hl 0 rfl) ?_
            refine cn_iast (f := b 3) hx hb hK hP hD hS 4 3 rfl rfl (by omega) (by decide) zd_R_finish_75 (fun H locs hP hD hS => ?_)
            have hP : va_P (dC, dI) cq_cl (wM bd cs (cq_p (cq_p b 1 p ((b 1 p) ||| (2 ^ i))) 3 ((8 * p) + (b 2 p)) i)) H := hP
            have hD : va_D A (wM bd cs (cq_p (cq_p b 1 p ((b 1 p) ||| (2 ^ i))) 3 ((8 * p) + (b 2 p)) i)) := hD
            refine lv_aload_n hx hb zd_R_finish_76 rfl (lv_at hl 2 rfl) ?_
            refine va_get (D := (dC, dI)) (ci := 4) (v := .ref (bd 3)) (C := zR_R) (T := zT_R) (N := 24) hx hb hts zi_R hown hK hP 0 rfl rfl 5 (by decide) (hts _ zf_R_16) (fun _ h9 => h9) rfl zd_R_finish_77 ?_
            refine lv_iload_n hx hb zd_R_finish_80 rfl (lv_at hl 3 rfl) ?_
            refine lv_dup2_11 hx hb zd_R_finish_81 rfl rfl ?_
            refine cn_iald (f := b 2) hx hb hK hP 3 2 rfl rfl (by omega) (by decide) zd_R_finish_82 ?_
            refine lv_iconst (v := nI 1) hx hb zd_R_finish_83 (by decide) ?_
            refine cn_iadd hx hb zd_R_finish_84 ?_
            refine cn_iast (f := b 2) hx hb hK hP hD hS 3 2 rfl rfl (by omega) (by decide) zd_R_finish_85 (fun H locs hP hD hS => ?_)
            have hP : va_P (dC, dI) cq_cl (wM bd cs (cq_p (cq_p (cq_p b 1 p ((b 1 p) ||| (2 ^ i))) 3 ((8 * p) + (b 2 p)) i) 2 p ((b 2 p) + 1))) H := hP
            have hD : va_D A (wM bd cs (cq_p (cq_p (cq_p b 1 p ((b 1 p) ||| (2 ^ i))) 3 ((8 * p) + (b 2 p)) i) 2 p ((b 2 p) + 1))) := hD
            refine lv_iinc (k := 0) (v := nI (i + 1)) hx hb zd_R_finish_86 hl rfl (cn_inc _) (by decide) rfl (fun ls hl => ?_)
            have hl : lv_has ls 4 [(3, .int (nI (i + 1))), (2, .int (nI (a 6 (8 * p + a 4 p)))), (0, .ref (bd 0)), (1, .int (nI p))] := hl
            refine lv_goto (tgt := 19) hx hb zd_R_finish_89 (by decide) ?_
            exact ih (i + 1) _ H locs ls (by omega) (by rw [mq_fin, ← hbe, if_pos ⟨c2, c3⟩]) hP hD hS (lv_sub hl [0, 1, 2, 3] rfl)
  exact LOOP 8 0 a _ _ ls (by omega) rfl hP hD hS (lv_sub hl [0, 1, 2, 3] rfl)

set_option maxHeartbeats 4000000 in
set_option maxRecDepth 100000 in
theorem cM_await (l : Launch) (dC : Nat → ClassId) (dI : Nat → Nat → Nat) (bd : Nat → Nat) (cs : Nat → ClassId) (a : cq_S) (hB : cq_B a) (p : Nat) (hp : p < 5) (hr1 : 1 ≤ a 8 p) (hr : a 8 p < 127) (hn : 0 < a 20 0) (hn5 : a 20 0 ≤ 5) (h4 : a 4 p < 128) (h9 : a 9 p < 32768) (h10 : a 10 p < 128) (hc : a 23 0 + 5 ≤ 1500) (hw : ∀ i, i < a 23 0 → a 17 i < 32768) : cq_CI l zy_R_await zw_R_await ({ frames := 3, cells := 0, slots := 0, locals := 72 }) (dC, dI) cq_cl (wM bd cs) (tysM cs) a [.ref (bd 0), .int (nI p)] (fun r u => r = nI (mq_await a p).2 ∧ u = (mq_await a p).1) := by
  refine cq_CI.of (cc := zc_R_await) (maxL := 3) (ret := (some .boolean)) (by decide) rfl (Nat.le_of_ble_eq_true rfl) ?_
  intro pr ev s mt args below meth cd A ls hx hb hrt hts hown hlocks hml hP hK hD hA hS hl
  have hown : s.vm.findClass zR_R = some mt.cls := hown
  have hl : lv_has ls 3 [(0, .ref (bd 0)), (1, .int (nI p))] := hl
  have hld : mq_ldr a (a 8 p) < a 20 0 := mq_ldr_lt hn
  refine lv_aload_n hx hb zd_R_await_0 rfl (lv_at hl 0 rfl) ?_
  refine lv_iload_n hx hb zd_R_await_1 rfl (lv_at hl 1 rfl) ?_
  refine cq_callI (C := zR_R) (As := [.int (nI p)]) (rest := []) ⟨hx, hb, hml, hown, hts⟩ (cM_offer l dC dI bd cs a hB p hp (by omega)) (cq_cw 1 hts zm_R_offer zl_R_134 zs_R_offer ze_R_offer zz_R rfl rfl (by decide +kernel) ⟨Nat.le_of_ble_eq_true rfl, Nat.le_of_ble_eq_true rfl⟩) hK hP hD hS hA 0 rfl rfl rfl hl.1 rfl (Nat.le_of_ble_eq_true rfl) zd_R_await_2 ⟨Nat.zero_le _, Nat.zero_le _⟩ (fun r0 u H locs hu hP hD hS => ?_)
  obtain ⟨hr0, hue⟩ := hu
  subst hr0
  rw [hue] at hP hD
  clear hue
  refine lv_istore_n hx hb zd_R_await_5 rfl hl (by decide) rfl (fun ls hl => ?_)
  have hl : lv_has ls 3 [(2, .int (mq_oi (mq_offer a p (a 23 0)))), (0, .ref (bd 0)), (1, .int (nI p))] := hl
  refine lv_iload_n hx hb zd_R_await_6 rfl (lv_at hl 0 rfl) ?_
  refine lv_if_lt (tgt := 42) hx hb zd_R_await_7 (by decide) (fun c1 => ?_) (fun c1 => ?_)
  · cases ho : mq_offer a p (a 23 0) with
    | none =>
      rw [ho] at hl c1
      have hl : lv_has ls 3 [(2, .int (-1)), (0, .ref (bd 0)), (1, .int (nI p))] := hl
      refine lv_aload_n hx hb zd_R_await_42 rfl (lv_at hl 1 rfl) ?_
      refine va_get (D := (dC, dI)) (ci := 4) (v := .ref (bd 6)) (C := zR_R) (T := zT_R) (N := 24) hx hb hts zi_R hown hK hP 0 rfl rfl 8 (by decide) (hts _ zf_R_25) (fun _ h9 => h9) rfl zd_R_await_43 ?_
      refine lv_iload_n hx hb zd_R_await_46 rfl (lv_at hl 2 rfl) ?_
      refine cn_iald (f := a 5) hx hb hK hP 6 5 rfl rfl (by omega) (by decide) zd_R_await_47 ?_
      refine lv_aload_n hx hb zd_R_await_48 rfl (lv_at hl 1 rfl) ?_
      refine lv_aload_n hx hb zd_R_await_49 rfl (lv_at hl 1 rfl) ?_
      refine va_get (D := (dC, dI)) (ci := 4) (v := .ref (bd 9)) (C := zR_R) (T := zT_R) (N := 24) hx hb hts zi_R hown hK hP 0 rfl rfl 11 (by decide) (hts _ zf_R_34) (fun _ h9 => h9) rfl zd_R_await_50 ?_
      refine lv_iload_n hx hb zd_R_await_53 rfl (lv_at hl 2 rfl) ?_
      refine cn_iald (f := a 8) hx hb hK hP 9 8 rfl rfl (by omega) (by decide) zd_R_await_54 ?_
      refine cq_callI (C := zR_R) (As := [.int (nI (a 8 p))]) (rest := [.int (nI (a 5 p))]) ⟨hx, hb, hml, hown, hts⟩ (cM_leader l dC dI bd cs a hB (a 8 p) hr1 (by omega) hn) (cq_cw 1 hts zm_R_leader zl_R_97 zs_R_leader ze_R_leader zz_R rfl rfl (by decide +kernel) ⟨Nat.le_of_ble_eq_true rfl, Nat.le_of_ble_eq_true rfl⟩) hK hP hD hS hA 0 rfl rfl rfl hl.1 rfl (Nat.le_of_ble_eq_true rfl) zd_R_await_55 ⟨Nat.zero_le _, Nat.zero_le _⟩ (fun r0 u H locs hu hP hD hS => ?_)
      obtain ⟨hr0, hue⟩ := hu
      subst hr0
      rw [hue] at hP hD
      clear hue
      refine cn_ishr hx hb zd_R_await_58 (hB _ _ (by decide)) (by omega) ?_
      refine lv_iconst (v := nI 1) hx hb zd_R_await_59 (by decide) ?_
      refine cn_mask 2 1 (by decide) (Nat.lt_of_le_of_lt (Nat.div_le_self _ _) (hB _ _ (by decide))) (by decide) (by decide) hx hb zd_R_await_60 ?_
      refine lv_iconst (v := nI 1) hx hb zd_R_await_61 (by decide) ?_
      refine cn_icmp_ne (tgt := 73) hx hb zd_R_await_62 (by decide) (by omega) (by omega) (fun c2 => ?_) (fun c2 => ?_)
      · refine lv_iconst (v := nI 0) hx hb zd_R_await_73 (by decide) ?_
        exact cq_ret (u := a) hx hb hrt ⟨_, rfl, rfl⟩ hlocks hK hP hD hS ⟨by simp [mq_await, ho, c2], by simp [mq_await, ho, c2]⟩ zd_R_await_74
      · refine lv_aload_n hx hb zd_R_await_65 rfl (lv_at hl 1 rfl) ?_
        refine lv_iload_n hx hb zd_R_await_66 rfl (lv_at hl 2 rfl) ?_
        refine lv_iconst (v := nI 0) hx hb zd_R_await_67 (by decide) ?_
        refine cq_callV (C := zR_R) (As := [.int (nI p), .int (nI 0)]) (rest := []) ⟨hx, hb, hml, hown, hts⟩ (cM_vote l dC dI bd cs a hB p 0 hp (by decide) hr1 hr hn hn5 h4 h9 h10 (by omega)) (cq_cw 2 hts zm_R_vote zl_R_137 zs_R_vote ze_R_vote zz_R rfl rfl (by decide +kernel) ⟨Nat.le_of_ble_eq_true rfl, Nat.le_of_ble_eq_true rfl⟩) hK hP hD hS hA 0 rfl rfl rfl hl.1 rfl (Nat.le_of_ble_eq_true rfl) zd_R_await_68 ⟨Nat.zero_le _, Nat.zero_le _⟩ (fun u H locs hu hP hD hS => ?_)
        subst hu
        refine lv_iconst (v := nI 1) hx hb zd_R_await_71 (by decide) ?_
        exact cq_ret (u := (mq_vote a p 0)) hx hb hrt ⟨_, rfl, rfl⟩ hlocks hK hP hD hS ⟨by simp [mq_await, ho, c2], by simp [mq_await, ho, c2]⟩ zd_R_await_72
    | some i =>
      rw [ho] at hl c1
      have hl : lv_has ls 3 [(2, .int (nI i)), (0, .ref (bd 0)), (1, .int (nI p))] := hl
      have hi : i < a 23 0 := mq_offer_lt a p _ i ho
      have hwi := hw i hi
      exact absurd c1 (nI_pos (by omega))
  · cases ho : mq_offer a p (a 23 0) with
    | none =>
      rw [ho] at hl c1
      have hl : lv_has ls 3 [(2, .int (-1)), (0, .ref (bd 0)), (1, .int (nI p))] := hl
      exact absurd (by decide) c1
    | some i =>
      rw [ho] at hl c1
      have hl : lv_has ls 3 [(2, .int (nI i)), (0, .ref (bd 0)), (1, .int (nI p))] := hl
      have hi : i < a 23 0 := mq_offer_lt a p _ i ho
      have hwi := hw i hi
      refine lv_aload_n hx hb zd_R_await_10 rfl (lv_at hl 1 rfl) ?_
      refine va_get (D := (dC, dI)) (ci := 4) (v := .ref (bd 10)) (C := zR_R) (T := zT_R) (N := 24) hx hb hts zi_R hown hK hP 0 rfl rfl 12 (by decide) (hts _ zf_R_37) (fun _ h9 => h9) rfl zd_R_await_11 ?_
      refine lv_iload_n hx hb zd_R_await_14 rfl (lv_at hl 2 rfl) ?_
      refine lv_aload_n hx hb zd_R_await_15 rfl (lv_at hl 1 rfl) ?_
      refine va_get (D := (dC, dI)) (ci := 4) (v := .ref (bd 18)) (C := zR_R) (T := zT_R) (N := 24) hx hb hts zi_R hown hK hP 0 rfl rfl 21 (by decide) (hts _ zf_R_63) (fun _ h9 => h9) rfl zd_R_await_16 ?_
      refine lv_iload_n hx hb zd_R_await_19 rfl (lv_at hl 0 rfl) ?_
      refine cn_sald (f := a 17) hx hb hK hP 18 17 rfl rfl (by omega) (by decide) zd_R_await_20 ?_
      refine cn_iast (f := a 9) hx hb hK hP hD hS 10 9 rfl rfl (by omega) (by decide) zd_R_await_21 (fun H locs hP hD hS => ?_)
      have hP : va_P (dC, dI) cq_cl (wM bd cs (cq_p a 9 p (a 17 i))) H := hP
      have hD : va_D A (wM bd cs (cq_p a 9 p (a 17 i))) := hD
      refine lv_aload_n hx hb zd_R_await_22 rfl (lv_at hl 1 rfl) ?_
      refine va_get (D := (dC, dI)) (ci := 4) (v := .ref (bd 11)) (C := zR_R) (T := zT_R) (N := 24) hx hb hts zi_R hown hK hP 0 rfl rfl 13 (by decide) (hts _ zf_R_40) (fun _ h9 => h9) rfl zd_R_await_23 ?_
      refine lv_iload_n hx hb zd_R_await_26 rfl (lv_at hl 2 rfl) ?_
      refine lv_aload_n hx hb zd_R_await_27 rfl (lv_at hl 1 rfl) ?_
      refine va_get (D := (dC, dI)) (ci := 4) (v := .ref (bd 9)) (C := zR_R) (T := zT_R) (N := 24) hx hb hts zi_R hown hK hP 0 rfl rfl 11 (by decide) (hts _ zf_R_34) (fun _ h9 => h9) rfl zd_R_await_28 ?_
      refine lv_iload_n hx hb zd_R_await_31 rfl (lv_at hl 2 rfl) ?_
      refine cn_iald (f := a 8) hx hb hK hP 9 8 rfl rfl (by omega) (by decide) zd_R_await_32 ?_
      refine cn_iast (f := a 10) hx hb hK hP hD hS 11 10 rfl rfl (by omega) (by decide) zd_R_await_33 (fun H locs hP hD hS => ?_)
      have hP : va_P (dC, dI) cq_cl (wM bd cs (cq_p (cq_p a 9 p (a 17 i)) 10 p (a 8 p))) H := hP
      have hD : va_D A (wM bd cs (cq_p (cq_p a 9 p (a 17 i)) 10 p (a 8 p))) := hD
      refine lv_aload_n hx hb zd_R_await_34 rfl (lv_at hl 1 rfl) ?_
      refine lv_iload_n hx hb zd_R_await_35 rfl (lv_at hl 2 rfl) ?_
      refine lv_iconst (v := nI 1) hx hb zd_R_await_36 (by decide) ?_
      refine cq_callV (C := zR_R) (As := [.int (nI p), .int (nI 1)]) (rest := []) ⟨hx, hb, hml, hown, hts⟩ (cM_vote l dC dI bd cs ((cq_p (cq_p a 9 p (a 17 i)) 10 p (a 8 p))) ((hB.put (by omega)).put (by omega)) p 1 hp (by decide) hr1 hr hn hn5 h4 (show cq_p (cq_p a 9 p (a 17 i)) 10 p (a 8 p) 9 p < 32768 by simp [cq_p]; exact hwi) (show cq_p (cq_p a 9 p (a 17 i)) 10 p (a 8 p) 10 p < 128 by simp [cq_p]; omega) (show a 23 0 + 2 ≤ 1500 by omega)) (cq_cw 2 hts zm_R_vote zl_R_137 zs_R_vote ze_R_vote zz_R rfl rfl (by decide +kernel) ⟨Nat.le_of_ble_eq_true rfl, Nat.le_of_ble_eq_true rfl⟩) hK hP hD hS hA 0 rfl rfl rfl hl.1 rfl (Nat.le_of_ble_eq_true rfl) zd_R_await_37 ⟨Nat.zero_le _, Nat.zero_le _⟩ (fun u H locs hu hP hD hS => ?_)
      subst hu
      refine lv_iconst (v := nI 1) hx hb zd_R_await_40 (by decide) ?_
      exact cq_ret (u := (mq_vote (cq_p (cq_p a 9 p (a 17 i)) 10 p (a 8 p)) p 1)) hx hb hrt ⟨_, rfl, rfl⟩ hlocks hK hP hD hS ⟨by simp [mq_await, ho], by simp [mq_await, ho]⟩ zd_R_await_41

