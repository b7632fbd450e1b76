set_option maxHeartbeats 4000000 in
set_option maxRecDepth 100000 in
theorem cM_none (l : Launch) (dC : Nat → ClassId) (dI : Nat → Nat → Nat) (bd : Nat → Nat) (cs : Nat → ClassId) (a : cq_S) (x : Int32) : cq_CI l zy_R_none zw_R_none ({ frames := 0, cells := 0, slots := 0, locals := 0 }) (dC, dI) cq_cl (wM bd cs) (tysM cs) a [.ref (bd 0), .int x] (fun r u => r = nI (mq_none a x) ∧ u = a) := by
  refine cq_CI.of (cc := zc_R_none) (maxL := 2) (ret := (some .boolean)) (by decide) rfl (Nat.le_of_ble_eq_true rfl) ?_
  intro pr ev s mt args below meth cd A ls hx hb hr hts hown hlocks hml hP hK hD hA hS hl
  have hown : s.vm.findClass zR_R = some mt.cls := hown
  have hl : lv_has ls 2 [(0, .ref (bd 0)), (1, .int x)] := hl
  refine lv_iload_n hx hb zd_R_none_0 rfl (lv_at hl 1 rfl) ?_
  refine lv_if_lt (tgt := 12) hx hb zd_R_none_1 (by decide) (fun c1 => ?_) (fun c1 => ?_)
  · refine lv_iconst (v := nI 1) hx hb zd_R_none_12 (by decide) ?_
    refine lv_goto (tgt := 17) hx hb zd_R_none_13 (by decide) ?_
    exact cq_ret (u := a) hx hb hr ⟨_, rfl, rfl⟩ hlocks hK hP hD hS ⟨by simp [mq_none, *], rfl⟩ zd_R_none_17
  · refine lv_iload_n hx hb zd_R_none_4 rfl (lv_at hl 1 rfl) ?_
    refine lv_aload_n hx hb zd_R_none_5 rfl (lv_at hl 0 rfl) ?_
    refine va_get (D := (dC, dI)) (ci := 4) (v := .int (nI (a 20 0))) (C := zR_R) (T := zT_R) (N := 24) hx hb hts zi_R hown hK hP 0 rfl rfl 0 (by decide) (hts _ zf_R_73) (fun _ h9 => h9) rfl zd_R_none_6 ?_
    refine lv_icmp_lt (tgt := 16) hx hb zd_R_none_9 (by decide) (fun c2 => ?_) (fun c2 => ?_)
    · refine lv_iconst (v := nI 0) hx hb zd_R_none_16 (by decide) ?_
      exact cq_ret (u := a) hx hb hr ⟨_, rfl, rfl⟩ hlocks hK hP hD hS ⟨by simp [mq_none, *], rfl⟩ zd_R_none_17
    · refine lv_iconst (v := nI 1) hx hb zd_R_none_12 (by decide) ?_
      refine lv_goto (tgt := 17) hx hb zd_R_none_13 (by decide) ?_
      exact cq_ret (u := a) hx hb hr ⟨_, rfl, rfl⟩ hlocks hK hP hD hS ⟨by simp [mq_none, *], rfl⟩ zd_R_none_17

set_option maxHeartbeats 4000000 in
set_option maxRecDepth 100000 in
theorem cM_majority (l : Launch) (dC : Nat → ClassId) (dI : Nat → Nat → Nat) (bd : Nat → Nat) (cs : Nat → ClassId) (a : cq_S) (hB : cq_B a) : cq_CI l zy_R_majority zw_R_majority ({ frames := 0, cells := 0, slots := 0, locals := 0 }) (dC, dI) cq_cl (wM bd cs) (tysM cs) a [.ref (bd 0)] (fun r u => r = nI (mq_maj a) ∧ u = a) := by
  refine cq_CI.of (cc := zc_R_majority) (maxL := 1) (ret := (some .int)) (by decide) rfl (Nat.le_of_ble_eq_true rfl) ?_
  intro pr ev s mt args below meth cd A ls hx hb hr hts hown hlocks hml hP hK hD hA hS hl
  have hown : s.vm.findClass zR_R = some mt.cls := hown
  have hl : lv_has ls 1 [(0, .ref (bd 0))] := hl
  refine lv_aload_n hx hb zd_R_majority_0 rfl (lv_at hl 0 rfl) ?_
  refine va_get (D := (dC, dI)) (ci := 4) (v := .int (nI (a 20 0))) (C := zR_R) (T := zT_R) (N := 24) hx hb hts zi_R hown hK hP 0 rfl rfl 0 (by decide) (hts _ zf_R_73) (fun _ h9 => h9) rfl zd_R_majority_1 ?_
  refine lv_iconst (v := nI 2) hx hb zd_R_majority_4 (by decide) ?_
  refine cn_idiv hx hb zd_R_majority_5 (hB _ _ (by decide)) (by omega) (by omega) ?_
  refine lv_iconst (v := nI 1) hx hb zd_R_majority_6 (by decide) ?_
  refine cn_iadd hx hb zd_R_majority_7 ?_
  exact cq_ret (u := a) hx hb hr ⟨_, rfl, rfl⟩ hlocks hK hP hD hS ⟨rfl, rfl⟩ zd_R_majority_8

set_option maxHeartbeats 4000000 in
set_option maxRecDepth 100000 in
theorem cM_leader (l : Launch) (dC : Nat → ClassId) (dI : Nat → Nat → Nat) (bd : Nat → Nat) (cs : Nat → ClassId) (a : cq_S) (hB : cq_B a) (r : Nat) (hr1 : 1 ≤ r) (hr2 : r < 2147483648) (hn : 0 < a 20 0) : cq_CI l zy_R_leader zw_R_leader ({ frames := 0, cells := 0, slots := 0, locals := 0 }) (dC, dI) cq_cl (wM bd cs) (tysM cs) a [.ref (bd 0), .int (nI r)] (fun r0 u => r0 = nI (mq_ldr a r) ∧ u = a) := by
  refine cq_CI.of (cc := zc_R_leader) (maxL := 2) (ret := (some .int)) (by decide) rfl (Nat.le_of_ble_eq_true rfl) ?_
  intro pr ev s mt args below meth cd A ls hx hb hr hts hown hlocks hml hP hK hD hA hS hl
  have hown : s.vm.findClass zR_R = some mt.cls := hown
  have hl : lv_has ls 2 [(0, .ref (bd 0)), (1, .int (nI r))] := hl
  have hB20 := hB 20 0 (by decide)
  refine lv_iload_n hx hb zd_R_leader_0 rfl (lv_at hl 1 rfl) ?_
  refine lv_iconst (v := nI 1) hx hb zd_R_leader_1 (by decide) ?_
  refine cn_isub hx hb zd_R_leader_2 (by omega) ?_
  refine lv_aload_n hx hb zd_R_leader_3 rfl (lv_at hl 0 rfl) ?_
  refine va_get (D := (dC, dI)) (ci := 4) (v := .int (nI (a 20 0))) (C := zR_R) (T := zT_R) (N := 24) hx hb hts zi_R hown hK hP 0 rfl rfl 0 (by decide) (hts _ zf_R_73) (fun _ h9 => h9) rfl zd_R_leader_4 ?_
  refine cn_irem hx hb zd_R_leader_7 (by omega) (by omega) (by omega) ?_
  exact cq_ret (u := a) hx hb hr ⟨_, rfl, rfl⟩ hlocks hK hP hD hS ⟨rfl, rfl⟩ zd_R_leader_8

set_option maxHeartbeats 4000000 in
set_option maxRecDepth 100000 in
theorem cM_put (l : Launch) (dC : Nat → ClassId) (dI : Nat → Nat → Nat) (bd : Nat → Nat) (cs : Nat → ClassId) (a : cq_S) (hB : cq_B a) (k p q c r w : Nat) (hk : k < 128) (hp : p < 5) (hq : q < 128) (hc : c < 128) (hr : r < 128) (hw : w < 32768) (hm : a 10 p < 128) (hn : a 23 0 < 1500) : cq_CV l zy_R_put zw_R_put ({ frames := 0, cells := 0, slots := 0, locals := 0 }) (dC, dI) cq_cl (wM bd cs) (tysM cs) a [.ref (bd 0), .int (nI k), .int (nI p), .int (nI q), .int (nI c), .int (nI r), .int (nI w)] (fun u => u = mq_put a k p q c r w) := by
  refine cq_CV.of (cc := zc_R_put) (maxL := 7) (ret := none) (by decide) rfl (Nat.le_of_ble_eq_true rfl) ?_
  intro pr ev s mt args below meth cd A ls hx hb hrt hts hown hlocks hml hP hK hD hA hS hl
  have hown : s.vm.findClass zR_R = some mt.cls := hown
  have hl : lv_has ls 7 [(0, .ref (bd 0)), (1, .int (nI k)), (2, .int (nI p)), (3, .int (nI q)), (4, .int (nI c)), (5, .int (nI r)), (6, .int (nI w))] := hl
  have hr0 : meth.sig.returnType = none := hrt
  refine lv_aload_n hx hb zd_R_put_0 rfl (lv_at hl 0 rfl) ?_
  refine va_get (D := (dC, dI)) (ci := 4) (v := .ref (bd 13)) (C := zR_R) (T := zT_R) (N := 24) hx hb hts zi_R hown hK hP 0 rfl rfl 16 (by decide) (hts _ zf_R_47) (fun _ h9 => h9) rfl zd_R_put_1 ?_
  refine lv_aload_n hx hb zd_R_put_4 rfl (lv_at hl 0 rfl) ?_
  refine va_get (D := (dC, dI)) (ci := 4) (v := .int (nI (a 23 0))) (C := zR_R) (T := zT_R) (N := 24) hx hb hts zi_R hown hK hP 0 rfl rfl 15 (by decide) (hts _ zf_R_77) (fun _ h9 => h9) rfl zd_R_put_5 ?_
  refine lv_iload_n hx hb zd_R_put_8 rfl (lv_at hl 1 rfl) ?_
  refine lv_i2b (v := nI k) hx hb zd_R_put_9 (cn_byte _ (by omega)) ?_
  refine cn_bast (f := a 12) hx hb hK hP hD hS 13 12 rfl rfl (by omega) (by decide) (by omega) zd_R_put_10 (fun H locs hP hD hS => ?_)
  have hP : va_P (dC, dI) cq_cl (wM bd cs (cq_p a 12 (a 23 0) k)) H := hP
  have hD : va_D A (wM bd cs (cq_p a 12 (a 23 0) k)) := hD
  refine lv_aload_n hx hb zd_R_put_11 rfl (lv_at hl 0 rfl) ?_
  refine va_get (D := (dC, dI)) (ci := 4) (v := .ref (bd 14)) (C := zR_R) (T := zT_R) (N := 24) hx hb hts zi_R hown hK hP 0 rfl rfl 17 (by decide) (hts _ zf_R_51) (fun _ h9 => h9) rfl zd_R_put_12 ?_
  refine lv_aload_n hx hb zd_R_put_15 rfl (lv_at hl 0 rfl) ?_
  refine va_get (D := (dC, dI)) (ci := 4) (v := .int (nI (a 23 0))) (C := zR_R) (T := zT_R) (N := 24) hx hb hts zi_R hown hK hP 0 rfl rfl 15 (by decide) (hts _ zf_R_77) (fun _ h9 => h9) rfl zd_R_put_16 ?_
  refine lv_iload_n hx hb zd_R_put_19 rfl (lv_at hl 2 rfl) ?_
  refine lv_i2b (v := nI p) hx hb zd_R_put_20 (cn_byte _ (by omega)) ?_
  refine cn_bast (f := a 13) hx hb hK hP hD hS 14 13 rfl rfl (by omega) (by decide) (by omega) zd_R_put_21 (fun H locs hP hD hS => ?_)
  have hP : va_P (dC, dI) cq_cl (wM bd cs (cq_p (cq_p a 12 (a 23 0) k) 13 (a 23 0) p)) H := hP
  have hD : va_D A (wM bd cs (cq_p (cq_p a 12 (a 23 0) k) 13 (a 23 0) p)) := hD
  refine lv_aload_n hx hb zd_R_put_22 rfl (lv_at hl 0 rfl) ?_
  refine va_get (D := (dC, dI)) (ci := 4) (v := .ref (bd 15)) (C := zR_R) (T := zT_R) (N := 24) hx hb hts zi_R hown hK hP 0 rfl rfl 18 (by decide) (hts _ zf_R_54) (fun _ h9 => h9) rfl zd_R_put_23 ?_
  refine lv_aload_n hx hb zd_R_put_26 rfl (lv_at hl 0 rfl) ?_
  refine va_get (D := (dC, dI)) (ci := 4) (v := .int (nI (a 23 0))) (C := zR_R) (T := zT_R) (N := 24) hx hb hts zi_R hown hK hP 0 rfl rfl 15 (by decide) (hts _ zf_R_77) (fun _ h9 => h9) rfl zd_R_put_27 ?_
  refine lv_iload_n hx hb zd_R_put_30 rfl (lv_at hl 3 rfl) ?_
  refine lv_i2b (v := nI q) hx hb zd_R_put_31 (cn_byte _ (by omega)) ?_
  refine cn_bast (f := a 14) hx hb hK hP hD hS 15 14 rfl rfl (by omega) (by decide) (by omega) zd_R_put_32 (fun H locs hP hD hS => ?_)
  have hP : va_P (dC, dI) cq_cl (wM bd cs (cq_p (cq_p (cq_p a 12 (a 23 0) k) 13 (a 23 0) p) 14 (a 23 0) q)) H := hP
  have hD : va_D A (wM bd cs (cq_p (cq_p (cq_p a 12 (a 23 0) k) 13 (a 23 0) p) 14 (a 23 0) q)) := hD
  refine lv_aload_n hx hb zd_R_put_33 rfl (lv_at hl 0 rfl) ?_
  refine va_get (D := (dC, dI)) (ci := 4) (v := .ref (bd 16)) (C := zR_R) (T := zT_R) (N := 24) hx hb hts zi_R hown hK hP 0 rfl rfl 19 (by decide) (hts _ zf_R_57) (fun _ h9 => h9) rfl zd_R_put_34 ?_
  refine lv_aload_n hx hb zd_R_put_37 rfl (lv_at hl 0 rfl) ?_
  refine va_get (D := (dC, dI)) (ci := 4) (v := .int (nI (a 23 0))) (C := zR_R) (T := zT_R) (N := 24) hx hb hts zi_R hown hK hP 0 rfl rfl 15 (by decide) (hts _ zf_R_77) (fun _ h9 => h9) rfl zd_R_put_38 ?_
  refine lv_iload hx hb zd_R_put_41 (lv_at hl 4 rfl) ?_
  refine lv_i2b (v := nI c) hx hb zd_R_put_43 (cn_byte _ (by omega)) ?_
  refine cn_bast (f := a 15) hx hb hK hP hD hS 16 15 rfl rfl (by omega) (by decide) (by omega) zd_R_put_44 (fun H locs hP hD hS => ?_)
  have hP : va_P (dC, dI) cq_cl (wM bd cs (cq_p (cq_p (cq_p (cq_p a 12 (a 23 0) k) 13 (a 23 0) p) 14 (a 23 0) q) 15 (a 23 0) c)) H := hP
  have hD : va_D A (wM bd cs (cq_p (cq_p (cq_p (cq_p a 12 (a 23 0) k) 13 (a 23 0) p) 14 (a 23 0) q) 15 (a 23 0) c)) := hD
  refine lv_aload_n hx hb zd_R_put_45 rfl (lv_at hl 0 rfl) ?_
  refine va_get (D := (dC, dI)) (ci := 4) (v := .ref (bd 17)) (C := zR_R) (T := zT_R) (N := 24) hx hb hts zi_R hown hK hP 0 rfl rfl 20 (by decide) (hts _ zf_R_60) (fun _ h9 => h9) rfl zd_R_put_46 ?_
  refine lv_aload_n hx hb zd_R_put_49 rfl (lv_at hl 0 rfl) ?_
  refine va_get (D := (dC, dI)) (ci := 4) (v := .int (nI (a 23 0))) (C := zR_R) (T := zT_R) (N := 24) hx hb hts zi_R hown hK hP 0 rfl rfl 15 (by decide) (hts _ zf_R_77) (fun _ h9 => h9) rfl zd_R_put_50 ?_
  refine lv_iload hx hb zd_R_put_53 (lv_at hl 5 rfl) ?_
  refine lv_i2b (v := nI r) hx hb zd_R_put_55 (cn_byte _ (by omega)) ?_
  refine cn_bast (f := a 16) hx hb hK hP hD hS 17 16 rfl rfl (by omega) (by decide) (by omega) zd_R_put_56 (fun H locs hP hD hS => ?_)
  have hP : va_P (dC, dI) cq_cl (wM bd cs (cq_p (cq_p (cq_p (cq_p (cq_p a 12 (a 23 0) k) 13 (a 23 0) p) 14 (a 23 0) q) 15 (a 23 0) c) 16 (a 23 0) r)) H := hP
  have hD : va_D A (wM bd cs (cq_p (cq_p (cq_p (cq_p (cq_p a 12 (a 23 0) k) 13 (a 23 0) p) 14 (a 23 0) q) 15 (a 23 0) c) 16 (a 23 0) r)) := hD
  refine lv_aload_n hx hb zd_R_put_57 rfl (lv_at hl 0 rfl) ?_
  refine va_get (D := (dC, dI)) (ci := 4) (v := .ref (bd 18)) (C := zR_R) (T := zT_R) (N := 24) hx hb hts zi_R hown hK hP 0 rfl rfl 21 (by decide) (hts _ zf_R_63) (fun _ h9 => h9) rfl zd_R_put_58 ?_
  refine lv_aload_n hx hb zd_R_put_61 rfl (lv_at hl 0 rfl) ?_
  refine va_get (D := (dC, dI)) (ci := 4) (v := .int (nI (a 23 0))) (C := zR_R) (T := zT_R) (N := 24) hx hb hts zi_R hown hK hP 0 rfl rfl 15 (by decide) (hts _ zf_R_77) (fun _ h9 => h9) rfl zd_R_put_62 ?_
  refine lv_iload hx hb zd_R_put_65 (lv_at hl 6 rfl) ?_
  refine lv_i2s (v := nI w) hx hb zd_R_put_67 (cn_short (by omega)) ?_
  refine cn_sast (f := a 17) hx hb hK hP hD hS 18 17 rfl rfl (by omega) (by decide) (by omega) zd_R_put_68 (fun H locs hP hD hS => ?_)
  have hP : va_P (dC, dI) cq_cl (wM bd cs (cq_p (cq_p (cq_p (cq_p (cq_p (cq_p a 12 (a 23 0) k) 13 (a 23 0) p) 14 (a 23 0) q) 15 (a 23 0) c) 16 (a 23 0) r) 17 (a 23 0) w)) H := hP
  have hD : va_D A (wM bd cs (cq_p (cq_p (cq_p (cq_p (cq_p (cq_p a 12 (a 23 0) k) 13 (a 23 0) p) 14 (a 23 0) q) 15 (a 23 0) c) 16 (a 23 0) r) 17 (a 23 0) w)) := hD
  refine lv_aload_n hx hb zd_R_put_69 rfl (lv_at hl 0 rfl) ?_
  refine va_get (D := (dC, dI)) (ci := 4) (v := .ref (bd 19)) (C := zR_R) (T := zT_R) (N := 24) hx hb hts zi_R hown hK hP 0 rfl rfl 22 (by decide) (hts _ zf_R_67) (fun _ h9 => h9) rfl zd_R_put_70 ?_
  refine lv_aload_n hx hb zd_R_put_73 rfl (lv_at hl 0 rfl) ?_
  refine va_get (D := (dC, dI)) (ci := 4) (v := .int (nI (a 23 0))) (C := zR_R) (T := zT_R) (N := 24) hx hb hts zi_R hown hK hP 0 rfl rfl 15 (by decide) (hts _ zf_R_77) (fun _ h9 => h9) rfl zd_R_put_74 ?_
  refine lv_iload_n hx hb zd_R_put_77 rfl (lv_at hl 1 rfl) ?_
  refine lv_iconst (v := nI 2) hx hb zd_R_put_78 (by decide) ?_
  refine cn_icmp_ne (tgt := 91) hx hb zd_R_put_79 (by decide) (by omega) (by omega) (fun c1 => ?_) (fun c1 => ?_)
  · refine lv_iconst (v := nI 0) hx hb zd_R_put_91 (by decide) ?_
    refine lv_i2b (v := nI 0) hx hb zd_R_put_92 (cn_byte _ (by omega)) ?_
    refine cn_bast (f := a 18) hx hb hK hP hD hS 19 18 rfl rfl (by omega) (by decide) (by omega) zd_R_put_93 (fun H locs hP hD hS => ?_)
    have hP : va_P (dC, dI) cq_cl (wM bd cs (cq_p (cq_p (cq_p (cq_p (cq_p (cq_p (cq_p a 12 (a 23 0) k) 13 (a 23 0) p) 14 (a 23 0) q) 15 (a 23 0) c) 16 (a 23 0) r) 17 (a 23 0) w) 18 (a 23 0) 0)) H := hP
    have hD : va_D A (wM bd cs (cq_p (cq_p (cq_p (cq_p (cq_p (cq_p (cq_p a 12 (a 23 0) k) 13 (a 23 0) p) 14 (a 23 0) q) 15 (a 23 0) c) 16 (a 23 0) r) 17 (a 23 0) w) 18 (a 23 0) 0)) := hD
    refine lv_aload_n hx hb zd_R_put_94 rfl (lv_at hl 0 rfl) ?_
    refine va_get (D := (dC, dI)) (ci := 4) (v := .ref (bd 20)) (C := zR_R) (T := zT_R) (N := 24) hx hb hts zi_R hown hK hP 0 rfl rfl 23 (by decide) (hts _ zf_R_70) (fun _ h9 => h9) rfl zd_R_put_95 ?_
    refine lv_aload_n hx hb zd_R_put_98 rfl (lv_at hl 0 rfl) ?_
    refine va_get (D := (dC, dI)) (ci := 4) (v := .int (nI (a 23 0))) (C := zR_R) (T := zT_R) (N := 24) hx hb hts zi_R hown hK hP 0 rfl rfl 15 (by decide) (hts _ zf_R_77) (fun _ h9 => h9) rfl zd_R_put_99 ?_
    refine lv_iload_n hx hb zd_R_put_102 rfl (lv_at hl 2 rfl) ?_
    refine lv_iload_n hx hb zd_R_put_103 rfl (lv_at hl 3 rfl) ?_
    refine cn_icmp_ne (tgt := 111) hx hb zd_R_put_104 (by decide) (by omega) (by omega) (fun c2 => ?_) (fun c2 => ?_)
    · refine lv_iconst (v := nI 0) hx hb zd_R_put_111 (by decide) ?_
      refine lv_i2b (v := nI 0) hx hb zd_R_put_112 (cn_byte _ (by omega)) ?_
      refine cn_bast (f := a 19) hx hb hK hP hD hS 20 19 rfl rfl (by omega) (by decide) (by omega) zd_R_put_113 (fun H locs hP hD hS => ?_)
      have hP : va_P (dC, dI) cq_cl (wM bd cs (cq_p (cq_p (cq_p (cq_p (cq_p (cq_p (cq_p (cq_p a 12 (a 23 0) k) 13 (a 23 0) p) 14 (a 23 0) q) 15 (a 23 0) c) 16 (a 23 0) r) 17 (a 23 0) w) 18 (a 23 0) 0) 19 (a 23 0) 0)) H := hP
      have hD : va_D A (wM bd cs (cq_p (cq_p (cq_p (cq_p (cq_p (cq_p (cq_p (cq_p a 12 (a 23 0) k) 13 (a 23 0) p) 14 (a 23 0) q) 15 (a 23 0) c) 16 (a 23 0) r) 17 (a 23 0) w) 18 (a 23 0) 0) 19 (a 23 0) 0)) := hD
      refine lv_aload_n hx hb zd_R_put_114 rfl (lv_at hl 0 rfl) ?_
      refine lv_dup hx hb zd_R_put_115 rfl ?_
      refine va_get (D := (dC, dI)) (ci := 4) (v := .int (nI (a 23 0))) (C := zR_R) (T := zT_R) (N := 24) hx hb hts zi_R hown hK hP 0 rfl rfl 15 (by decide) (hts _ zf_R_77) (fun _ h9 => h9) rfl zd_R_put_116 ?_
      refine lv_iconst (v := nI 1) hx hb zd_R_put_119 (by decide) ?_
      refine cn_iadd hx hb zd_R_put_120 ?_
      refine va_put (D := (dC, dI)) (ci := 4) (v := .int (nI ((a 23 0) + 1))) (ty := .int) (C := zR_R) (T := zT_R) (N := 24) hx hb hts zi_R zt_R zo_R zn_R hown hK hP hD hS 0 rfl rfl 15 (by decide) (hts _ zf_R_77) (fun _ h9 => h9) rfl (by decide +kernel) rfl rfl (Nat.le_of_ble_eq_true rfl) zd_R_put_121 (fun H locs hP hD hS => ?_)
      have hP : va_P (dC, dI) cq_cl (wM bd cs (cq_p (cq_p (cq_p (cq_p (cq_p (cq_p (cq_p (cq_p (cq_p a 12 (a 23 0) k) 13 (a 23 0) p) 14 (a 23 0) q) 15 (a 23 0) c) 16 (a 23 0) r) 17 (a 23 0) w) 18 (a 23 0) 0) 19 (a 23 0) 0) 23 0 ((a 23 0) + 1))) H := hP
      have hD : va_D A (wM bd cs (cq_p (cq_p (cq_p (cq_p (cq_p (cq_p (cq_p (cq_p (cq_p a 12 (a 23 0) k) 13 (a 23 0) p) 14 (a 23 0) q) 15 (a 23 0) c) 16 (a 23 0) r) 17 (a 23 0) w) 18 (a 23 0) 0) 19 (a 23 0) 0) 23 0 ((a 23 0) + 1))) := hD
      have he : mq_lg a k p q c r w = (cq_p (cq_p (cq_p (cq_p (cq_p (cq_p (cq_p (cq_p (cq_p a 12 (a 23 0) k) 13 (a 23 0) p) 14 (a 23 0) q) 15 (a 23 0) c) 16 (a 23 0) r) 17 (a 23 0) w) 18 (a 23 0) 0) 19 (a 23 0) 0) 23 0 ((a 23 0) + 1)) := by unfold mq_lg; rw [if_neg c1, if_neg c2]
      rw [← he, ← wM_put] at hP hD
      exact cq_vret (u := mq_put a k p q c r w) hx hb hr0 hlocks hK hP hD hS rfl zd_R_put_124
    · refine lv_iconst (v := nI 1) hx hb zd_R_put_107 (by decide) ?_
      refine lv_goto (tgt := 112) hx hb zd_R_put_108 (by decide) ?_
      refine lv_i2b (v := nI 1) hx hb zd_R_put_112 (cn_byte _ (by omega)) ?_
      refine cn_bast (f := a 19) hx hb hK hP hD hS 20 19 rfl rfl (by omega) (by decide) (by omega) zd_R_put_113 (fun H locs hP hD hS => ?_)
      have hP : va_P (dC, dI) cq_cl (wM bd cs (cq_p (cq_p (cq_p (cq_p (cq_p (cq_p (cq_p (cq_p a 12 (a 23 0) k) 13 (a 23 0) p) 14 (a 23 0) q) 15 (a 23 0) c) 16 (a 23 0) r) 17 (a 23 0) w) 18 (a 23 0) 0) 19 (a 23 0) 1)) H := hP
      have hD : va_D A (wM bd cs (cq_p (cq_p (cq_p (cq_p (cq_p (cq_p (cq_p (cq_p a 12 (a 23 0) k) 13 (a 23 0) p) 14 (a 23 0) q) 15 (a 23 0) c) 16 (a 23 0) r) 17 (a 23 0) w) 18 (a 23 0) 0) 19 (a 23 0) 1)) := hD
      refine lv_aload_n hx hb zd_R_put_114 rfl (lv_at hl 0 rfl) ?_
      refine lv_dup hx hb zd_R_put_115 rfl ?_
      refine va_get (D := (dC, dI)) (ci := 4) (v := .int (nI (a 23 0))) (C := zR_R) (T := zT_R) (N := 24) hx hb hts zi_R hown hK hP 0 rfl rfl 15 (by decide) (hts _ zf_R_77) (fun _ h9 => h9) rfl zd_R_put_116 ?_
      refine lv_iconst (v := nI 1) hx hb zd_R_put_119 (by decide) ?_
      refine cn_iadd hx hb zd_R_put_120 ?_
      refine va_put (D := (dC, dI)) (ci := 4) (v := .int (nI ((a 23 0) + 1))) (ty := .int) (C := zR_R) (T := zT_R) (N := 24) hx hb hts zi_R zt_R zo_R zn_R hown hK hP hD hS 0 rfl rfl 15 (by decide) (hts _ zf_R_77) (fun _ h9 => h9) rfl (by decide +kernel) rfl rfl (Nat.le_of_ble_eq_true rfl) zd_R_put_121 (fun H locs hP hD hS => ?_)
      have hP : va_P (dC, dI) cq_cl (wM bd cs (cq_p (cq_p (cq_p (cq_p (cq_p (cq_p (cq_p (cq_p (cq_p a 12 (a 23 0) k) 13 (a 23 0) p) 14 (a 23 0) q) 15 (a 23 0) c) 16 (a 23 0) r) 17 (a 23 0) w) 18 (a 23 0) 0) 19 (a 23 0) 1) 23 0 ((a 23 0) + 1))) H := hP
      have hD : va_D A (wM bd cs (cq_p (cq_p (cq_p (cq_p (cq_p (cq_p (cq_p (cq_p (cq_p a 12 (a 23 0) k) 13 (a 23 0) p) 14 (a 23 0) q) 15 (a 23 0) c) 16 (a 23 0) r) 17 (a 23 0) w) 18 (a 23 0) 0) 19 (a 23 0) 1) 23 0 ((a 23 0) + 1))) := hD
      have he : mq_lg a k p q c r w = (cq_p (cq_p (cq_p (cq_p (cq_p (cq_p (cq_p (cq_p (cq_p a 12 (a 23 0) k) 13 (a 23 0) p) 14 (a 23 0) q) 15 (a 23 0) c) 16 (a 23 0) r) 17 (a 23 0) w) 18 (a 23 0) 0) 19 (a 23 0) 1) 23 0 ((a 23 0) + 1)) := by unfold mq_lg; rw [if_neg c1, if_pos c2]
      rw [← he, ← wM_put] at hP hD
      exact cq_vret (u := mq_put a k p q c r w) hx hb hr0 hlocks hK hP hD hS rfl zd_R_put_124
  · refine lv_aload_n hx hb zd_R_put_82 rfl (lv_at hl 0 rfl) ?_
    refine va_get (D := (dC, dI)) (ci := 4) (v := .ref (bd 11)) (C := zR_R) (T := zT_R) (N := 24) hx hb hts zi_R hown hK hP 0 rfl rfl 13 (by decide) (hts _ zf_R_40) (fun _ h9 => h9) rfl zd_R_put_83 ?_
    refine lv_iload_n hx hb zd_R_put_86 rfl (lv_at hl 2 rfl) ?_
    refine cn_iald (f := a 10) hx hb hK hP 11 10 rfl rfl (by omega) (by decide) zd_R_put_87 ?_
    refine lv_goto (tgt := 92) hx hb zd_R_put_88 (by decide) ?_
    refine lv_i2b (v := nI (a 10 p)) hx hb zd_R_put_92 (cn_byte _ (by omega)) ?_
    refine cn_bast (f := a 18) hx hb hK hP hD hS 19 18 rfl rfl (by omega) (by decide) (by omega) zd_R_put_93 (fun H locs hP hD hS => ?_)
    have hP : va_P (dC, dI) cq_cl (wM bd cs (cq_p (cq_p (cq_p (cq_p (cq_p (cq_p (cq_p a 12 (a 23 0) k) 13 (a 23 0) p) 14 (a 23 0) q) 15 (a 23 0) c) 16 (a 23 0) r) 17 (a 23 0) w) 18 (a 23 0) (a 10 p))) H := hP
    have hD : va_D A (wM bd cs (cq_p (cq_p (cq_p (cq_p (cq_p (cq_p (cq_p a 12 (a 23 0) k) 13 (a 23 0) p) 14 (a 23 0) q) 15 (a 23 0) c) 16 (a 23 0) r) 17 (a 23 0) w) 18 (a 23 0) (a 10 p))) := hD
    refine lv_aload_n hx hb zd_R_put_94 rfl (lv_at hl 0 rfl) ?_
    refine va_get (D := (dC, dI)) (ci := 4) (v := .ref (bd 20)) (C := zR_R) (T := zT_R) (N := 24) hx hb hts zi_R hown hK hP 0 rfl rfl 23 (by decide) (hts _ zf_R_70) (fun _ h9 => h9) rfl zd_R_put_95 ?_
    refine lv_aload_n hx hb zd_R_put_98 rfl (lv_at hl 0 rfl) ?_
    refine va_get (D := (dC, dI)) (ci := 4) (v := .int (nI (a 23 0))) (C := zR_R) (T := zT_R) (N := 24) hx hb hts zi_R hown hK hP 0 rfl rfl 15 (by decide) (hts _ zf_R_77) (fun _ h9 => h9) rfl zd_R_put_99 ?_
    refine lv_iload_n hx hb zd_R_put_102 rfl (lv_at hl 2 rfl) ?_
    refine lv_iload_n hx hb zd_R_put_103 rfl (lv_at hl 3 rfl) ?_
    refine cn_icmp_ne (tgt := 111) hx hb zd_R_put_104 (by decide) (by omega) (by omega) (fun c3 => ?_) (fun c3 => ?_)
    · have c2 := c3
      refine lv_iconst (v := nI 0) hx hb zd_R_put_111 (by decide) ?_
      refine lv_i2b (v := nI 0) hx hb zd_R_put_112 (cn_byte _ (by omega)) ?_
      refine cn_bast (f := a 19) hx hb hK hP hD hS 20 19 rfl rfl (by omega) (by decide) (by omega) zd_R_put_113 (fun H locs hP hD hS => ?_)
      have hP : va_P (dC, dI) cq_cl (wM bd cs (cq_p (cq_p (cq_p (cq_p (cq_p (cq_p (cq_p (cq_p a 12 (a 23 0) k) 13 (a 23 0) p) 14 (a 23 0) q) 15 (a 23 0) c) 16 (a 23 0) r) 17 (a 23 0) w) 18 (a 23 0) (a 10 p)) 19 (a 23 0) 0)) H := hP
      have hD : va_D A (wM bd cs (cq_p (cq_p (cq_p (cq_p (cq_p (cq_p (cq_p (cq_p a 12 (a 23 0) k) 13 (a 23 0) p) 14 (a 23 0) q) 15 (a 23 0) c) 16 (a 23 0) r) 17 (a 23 0) w) 18 (a 23 0) (a 10 p)) 19 (a 23 0) 0)) := hD
      refine lv_aload_n hx hb zd_R_put_114 rfl (lv_at hl 0 rfl) ?_
      refine lv_dup hx hb zd_R_put_115 rfl ?_
      refine va_get (D := (dC, dI)) (ci := 4) (v := .int (nI (a 23 0))) (C := zR_R) (T := zT_R) (N := 24) hx hb hts zi_R hown hK hP 0 rfl rfl 15 (by decide) (hts _ zf_R_77) (fun _ h9 => h9) rfl zd_R_put_116 ?_
      refine lv_iconst (v := nI 1) hx hb zd_R_put_119 (by decide) ?_
      refine cn_iadd hx hb zd_R_put_120 ?_
      refine va_put (D := (dC, dI)) (ci := 4) (v := .int (nI ((a 23 0) + 1))) (ty := .int) (C := zR_R) (T := zT_R) (N := 24) hx hb hts zi_R zt_R zo_R zn_R hown hK hP hD hS 0 rfl rfl 15 (by decide) (hts _ zf_R_77) (fun _ h9 => h9) rfl (by decide +kernel) rfl rfl (Nat.le_of_ble_eq_true rfl) zd_R_put_121 (fun H locs hP hD hS => ?_)
      have hP : va_P (dC, dI) cq_cl (wM bd cs (cq_p (cq_p (cq_p (cq_p (cq_p (cq_p (cq_p (cq_p (cq_p a 12 (a 23 0) k) 13 (a 23 0) p) 14 (a 23 0) q) 15 (a 23 0) c) 16 (a 23 0) r) 17 (a 23 0) w) 18 (a 23 0) (a 10 p)) 19 (a 23 0) 0) 23 0 ((a 23 0) + 1))) H := hP
      have hD : va_D A (wM bd cs (cq_p (cq_p (cq_p (cq_p (cq_p (cq_p (cq_p (cq_p (cq_p a 12 (a 23 0) k) 13 (a 23 0) p) 14 (a 23 0) q) 15 (a 23 0) c) 16 (a 23 0) r) 17 (a 23 0) w) 18 (a 23 0) (a 10 p)) 19 (a 23 0) 0) 23 0 ((a 23 0) + 1))) := hD
      have he : mq_lg a k p q c r w = (cq_p (cq_p (cq_p (cq_p (cq_p (cq_p (cq_p (cq_p (cq_p a 12 (a 23 0) k) 13 (a 23 0) p) 14 (a 23 0) q) 15 (a 23 0) c) 16 (a 23 0) r) 17 (a 23 0) w) 18 (a 23 0) (a 10 p)) 19 (a 23 0) 0) 23 0 ((a 23 0) + 1)) := by unfold mq_lg; rw [if_pos c1, if_neg c2]
      rw [← he, ← wM_put] at hP hD
      exact cq_vret (u := mq_put a k p q c r w) hx hb hr0 hlocks hK hP hD hS rfl zd_R_put_124
    · have c2 := c3
      refine lv_iconst (v := nI 1) hx hb zd_R_put_107 (by decide) ?_
      refine lv_goto (tgt := 112) hx hb zd_R_put_108 (by decide) ?_
      refine lv_i2b (v := nI 1) hx hb zd_R_put_112 (cn_byte _ (by omega)) ?_
      refine cn_bast (f := a 19) hx hb hK hP hD hS 20 19 rfl rfl (by omega) (by decide) (by omega) zd_R_put_113 (fun H locs hP hD hS => ?_)
      have hP : va_P (dC, dI) cq_cl (wM bd cs (cq_p (cq_p (cq_p (cq_p (cq_p (cq_p (cq_p (cq_p a 12 (a 23 0) k) 13 (a 23 0) p) 14 (a 23 0) q) 15 (a 23 0) c) 16 (a 23 0) r) 17 (a 23 0) w) 18 (a 23 0) (a 10 p)) 19 (a 23 0) 1)) H := hP
      have hD : va_D A (wM bd cs (cq_p (cq_p (cq_p (cq_p (cq_p (cq_p (cq_p (cq_p a 12 (a 23 0) k) 13 (a 23 0) p) 14 (a 23 0) q) 15 (a 23 0) c) 16 (a 23 0) r) 17 (a 23 0) w) 18 (a 23 0) (a 10 p)) 19 (a 23 0) 1)) := hD
      refine lv_aload_n hx hb zd_R_put_114 rfl (lv_at hl 0 rfl) ?_
      refine lv_dup hx hb zd_R_put_115 rfl ?_
      refine va_get (D := (dC, dI)) (ci := 4) (v := .int (nI (a 23 0))) (C := zR_R) (T := zT_R) (N := 24) hx hb hts zi_R hown hK hP 0 rfl rfl 15 (by decide) (hts _ zf_R_77) (fun _ h9 => h9) rfl zd_R_put_116 ?_
      refine lv_iconst (v := nI 1) hx hb zd_R_put_119 (by decide) ?_
      refine cn_iadd hx hb zd_R_put_120 ?_
      refine va_put (D := (dC, dI)) (ci := 4) (v := .int (nI ((a 23 0) + 1))) (ty := .int) (C := zR_R) (T := zT_R) (N := 24) hx hb hts zi_R zt_R zo_R zn_R hown hK hP hD hS 0 rfl rfl 15 (by decide) (hts _ zf_R_77) (fun _ h9 => h9) rfl (by decide +kernel) rfl rfl (Nat.le_of_ble_eq_true rfl) zd_R_put_121 (fun H locs hP hD hS => ?_)
      have hP : va_P (dC, dI) cq_cl (wM bd cs (cq_p (cq_p (cq_p (cq_p (cq_p (cq_p (cq_p (cq_p (cq_p a 12 (a 23 0) k) 13 (a 23 0) p) 14 (a 23 0) q) 15 (a 23 0) c) 16 (a 23 0) r) 17 (a 23 0) w) 18 (a 23 0) (a 10 p)) 19 (a 23 0) 1) 23 0 ((a 23 0) + 1))) H := hP
      have hD : va_D A (wM bd cs (cq_p (cq_p (cq_p (cq_p (cq_p (cq_p (cq_p (cq_p (cq_p a 12 (a 23 0) k) 13 (a 23 0) p) 14 (a 23 0) q) 15 (a 23 0) c) 16 (a 23 0) r) 17 (a 23 0) w) 18 (a 23 0) (a 10 p)) 19 (a 23 0) 1) 23 0 ((a 23 0) + 1))) := hD
      have he : mq_lg a k p q c r w = (cq_p (cq_p (cq_p (cq_p (cq_p (cq_p (cq_p (cq_p (cq_p a 12 (a 23 0) k) 13 (a 23 0) p) 14 (a 23 0) q) 15 (a 23 0) c) 16 (a 23 0) r) 17 (a 23 0) w) 18 (a 23 0) (a 10 p)) 19 (a 23 0) 1) 23 0 ((a 23 0) + 1)) := by unfold mq_lg; rw [if_pos c1, if_pos c2]
      rw [← he, ← wM_put] at hP hD
      exact cq_vret (u := mq_put a k p q c r w) hx hb hr0 hlocks hK hP hD hS rfl zd_R_put_124

set_option maxHeartbeats 4000000 in
set_option maxRecDepth 100000 in
theorem cM_toAll (l : Launch) (dC : Nat → ClassId) (dI : Nat → Nat → Nat) (bd : Nat → Nat) (cs : Nat → ClassId) (a : cq_S) (hB : cq_B a) (k p c r w : Nat) (hk : k < 128) (hp : p < 5) (hc : c < 128) (hr : r < 128) (hw : w < 32768) (hm : a 10 p < 128) (hn5 : a 20 0 ≤ 5) (hn : a 23 0 + 5 ≤ 1500) : cq_CV l zy_R_toAll zw_R_toAll ({ frames := 1, cells := 0, slots := 0, locals := 26 }) (dC, dI) cq_cl (wM bd cs) (tysM cs) a [.ref (bd 0), .int (nI k), .int (nI p), .int (nI c), .int (nI r), .int (nI w)] (fun u => u = mq_toAll a k p c r w) := by
  refine cq_CV.of (cc := zc_R_toAll) (maxL := 7) (ret := none) (by decide) rfl (Nat.le_of_ble_eq_true rfl) ?_
  intro pr ev s mt args below meth cd A ls hx hb hrt hts hown hlocks hml hP hK hD hA hS hl
  have hown : s.vm.findClass zR_R = some mt.cls := hown
  have hl : lv_has ls 7 [(0, .ref (bd 0)), (1, .int (nI k)), (2, .int (nI p)), (3, .int (nI c)), (4, .int (nI r)), (5, .int (nI w))] := hl
  refine lv_iconst (v := nI 0) hx hb zd_R_toAll_0 (by decide) ?_
  refine lv_istore hx hb zd_R_toAll_1 hl (by decide) rfl (fun ls hl => ?_)
  have hl : lv_has ls 7 [(6, .int (nI 0)), (0, .ref (bd 0)), (1, .int (nI k)), (2, .int (nI p)), (3, .int (nI c)), (4, .int (nI r)), (5, .int (nI w))] := hl
  have LOOP : ∀ (d j : Nat) (b : cq_S) (H : Heap) (locs : List Loc) (ls : Array Slot), j + d = a 20 0 → b = mq_all a k p c r w j → va_P (dC, dI) cq_cl (wM bd cs b) H → va_D A (wM bd cs b) → va_S A s.heap H locs → lv_has ls 7 [(6, .int (nI j)), (0, .ref (bd 0)), (1, .int (nI k)), (2, .int (nI p)), (3, .int (nI c)), (4, .int (nI r)), (5, .int (nI w))] → W pr l ev ({ frames := 1, cells := 0, slots := 0, locals := 26 }) s mt args below meth cd H locs 0 0 (MQ below (va_Qv (fun u => u = mq_toAll a k p c r w) (cq_at (dC, dI) cq_cl (wM bd cs) (tysM cs) A) A) args s 0 0 A) (F0 mt 3 ls []) := by
    intro d
    induction d with
    | zero =>
      intro j b H locs ls hj hbe hP hD hS hl
      have hb20 : b 20 0 = a 20 0 := by rw [hbe]; exact mq_all_k _ _ _ _ _ _ _ _ _ (by decide)
      have hb10 : b 10 p = a 10 p := by rw [hbe]; exact mq_all_k _ _ _ _ _ _ _ _ _ (by decide)
      have hb23 : b 23 0 ≤ a 23 0 + j := by rw [hbe]; exact mq_all_n _ _ _ _ _ _ _
      have hBb : cq_B b := by rw [hbe]; exact mq_all_B hB (by omega) (by omega) (by omega) (by omega) (by omega) (by omega) j (by omega)
      refine lv_iload hx hb zd_R_toAll_3 (lv_at hl 0 rfl) ?_
      refine lv_aload_n hx hb zd_R_toAll_5 rfl (lv_at hl 1 rfl) ?_
      refine va_get (D := (dC, dI)) (ci := 4) (v := .int (nI (b 20 0))) (C := zR_R) (T := zT_R) (N := 24) hx hb hts zi_R hown hK hP 0 rfl rfl 0 (by decide) (hts _ zf_R_73) (fun _ h9 => h9) rfl zd_R_toAll_6 ?_
      refine cn_icmp_ge (tgt := 37) hx hb zd_R_toAll_9 (by decide) (by omega) (hBb _ _ (by decide)) (fun c1 => ?_) (fun c1 => ?_)
      · have hje : j = a 20 0 := by omega
        subst hje
        exact cq_vret (u := b) hx hb hrt hlocks hK hP hD hS hbe zd_R_toAll_37
      · exact absurd hb20 (by omega)
    | succ d ih =>
      intro j b H locs ls hj hbe hP hD hS hl
      have hb20 : b 20 0 = a 20 0 := by rw [hbe]; exact mq_all_k _ _ _ _ _ _ _ _ _ (by decide)
      have hb10 : b 10 p = a 10 p := by rw [hbe]; exact mq_all_k _ _ _ _ _ _ _ _ _ (by decide)
      have hb23 : b 23 0 ≤ a 23 0 + j := by rw [hbe]; exact mq_all_n _ _ _ _ _ _ _
      have hBb : cq_B b := by rw [hbe]; exact mq_all_B hB (by omega) (by omega) (by omega) (by omega) (by omega) (by omega) j (by omega)
      refine lv_iload hx hb zd_R_toAll_3 (lv_at hl 0 rfl) ?_
      refine lv_aload_n hx hb zd_R_toAll_5 rfl (lv_at hl 1 rfl) ?_
      refine va_get (D := (dC, dI)) (ci := 4) (v := .int (nI (b 20 0))) (C := zR_R) (T := zT_R) (N := 24) hx hb hts zi_R hown hK hP 0 rfl rfl 0 (by decide) (hts _ zf_R_73) (fun _ h9 => h9) rfl zd_R_toAll_6 ?_
      refine cn_icmp_ge (tgt := 37) hx hb zd_R_toAll_9 (by decide) (by omega) (hBb _ _ (by decide)) (fun c1 => ?_) (fun c1 => ?_)
      · exact absurd hb20 (by omega)
      · refine lv_iload hx hb zd_R_toAll_12 (lv_at hl 0 rfl) ?_
        refine lv_iload_n hx hb zd_R_toAll_14 rfl (lv_at hl 3 rfl) ?_
        refine cn_icmp_eq (tgt := 31) hx hb zd_R_toAll_15 (by decide) (by omega) (by omega) (fun c2 => ?_) (fun c2 => ?_)
        · refine lv_iinc (k := 0) (v := nI (j + 1)) hx hb zd_R_toAll_31 hl rfl (cn_inc _) (by decide) rfl (fun ls hl => ?_)
          have hl : lv_has ls 7 [(6, .int (nI (j + 1))), (0, .ref (bd 0)), (1, .int (nI k)), (2, .int (nI p)), (3, .int (nI c)), (4, .int (nI r)), (5, .int (nI w))] := hl
          refine lv_goto (tgt := 3) hx hb zd_R_toAll_34 (by decide) ?_
          exact ih (j + 1) b H locs ls (by omega) (by rw [hbe, mq_all, if_pos c2]) hP hD hS (lv_sub hl [0, 1, 2, 3, 4, 5, 6] rfl)
        · refine lv_aload_n hx hb zd_R_toAll_18 rfl (lv_at hl 1 rfl) ?_
          refine lv_iload_n hx hb zd_R_toAll_19 rfl (lv_at hl 2 rfl) ?_
          refine lv_iload_n hx hb zd_R_toAll_20 rfl (lv_at hl 3 rfl) ?_
          refine lv_iload hx hb zd_R_toAll_21 (lv_at hl 0 rfl) ?_
          refine lv_iload_n hx hb zd_R_toAll_23 rfl (lv_at hl 4 rfl) ?_
          refine lv_iload hx hb zd_R_toAll_24 (lv_at hl 5 rfl) ?_
          refine lv_iload hx hb zd_R_toAll_26 (lv_at hl 6 rfl) ?_
          refine cq_callV (C := zR_R) (As := [.int (nI k), .int (nI p), .int (nI j), .int (nI c), .int (nI r), .int (nI w)]) (rest := []) ⟨hx, hb, hml, hown, hts⟩ (cM_put l dC dI bd cs b hBb k p j c r w hk hp (by omega) hc hr hw (by rw [hb10]; exact hm) (by omega)) (cq_cw 6 hts zm_R_put zl_R_80 zs_R_put ze_R_put zz_R rfl rfl (by decide +kernel) ⟨Nat.le_of_ble_eq_true rfl, Nat.le_of_ble_eq_true rfl⟩) hK hP hD hS hA 0 rfl rfl rfl hl.1 rfl (Nat.le_of_ble_eq_true rfl) zd_R_toAll_28 ⟨Nat.zero_le _, Nat.zero_le _⟩ (fun u H locs hu hP hD hS => ?_)
          subst hu
          refine lv_iinc (k := 0) (v := nI (j + 1)) hx hb zd_R_toAll_31 hl rfl (cn_inc _) (by decide) rfl (fun ls hl => ?_)
          have hl : lv_has ls 7 [(6, .int (nI (j + 1))), (0, .ref (bd 0)), (1, .int (nI k)), (2, .int (nI p)), (3, .int (nI c)), (4, .int (nI r)), (5, .int (nI w))] := hl
          refine lv_goto (tgt := 3) hx hb zd_R_toAll_34 (by decide) ?_
          exact ih (j + 1) _ H locs ls (by omega) (by rw [mq_all, if_neg c2, hbe]) hP hD hS (lv_sub hl [0, 1, 2, 3, 4, 5, 6] rfl)
  exact LOOP (a 20 0) 0 a _ _ ls (by omega) rfl hP hD hS (lv_sub hl [0, 1, 2, 3, 4, 5, 6] rfl)

set_option maxHeartbeats 4000000 in
set_option maxRecDepth 100000 in
theorem cM_here (l : Launch) (dC : Nat → ClassId) (dI : Nat → Nat → Nat) (bd : Nat → Nat) (cs : Nat → ClassId) (a : cq_S) (hB : cq_B a) (i k p : Nat) (hi : i < 1500) (hk : k < 2147483648) (hp : p < 5) : cq_CI l zy_R_here zw_R_here ({ frames := 0, cells := 0, slots := 0, locals := 0 }) (dC, dI) cq_cl (wM bd cs) (tysM cs) a [.ref (bd 0), .int (nI i), .int (nI k), .int (nI p)] (fun r u => r = nI (mq_hn a i k p) ∧ u = a) := by
  refine cq_CI.of (cc := zc_R_here) (maxL := 4) (ret := (some .boolean)) (by decide) rfl (Nat.le_of_ble_eq_true rfl) ?_
  intro pr ev s mt args below meth cd A ls hx hb hr hts hown hlocks hml hP hK hD hA hS hl
  have hown : s.vm.findClass zR_R = some mt.cls := hown
  have hl : lv_has ls 4 [(0, .ref (bd 0)), (1, .int (nI i)), (2, .int (nI k)), (3, .int (nI p))] := hl
  refine lv_aload_n hx hb zd_R_here_0 rfl (lv_at hl 0 rfl) ?_
  refine va_get (D := (dC, dI)) (ci := 4) (v := .ref (bd 20)) (C := zR_R) (T := zT_R) (N := 24) hx hb hts zi_R hown hK hP 0 rfl rfl 23 (by decide) (hts _ zf_R_70) (fun _ h9 => h9) rfl zd_R_here_1 ?_
  refine lv_iload_n hx hb zd_R_here_4 rfl (lv_at hl 1 rfl) ?_
  refine cn_bald (f := a 19) hx hb hK hP 20 19 rfl rfl (by omega) (by decide) zd_R_here_5 ?_
  refine lv_iconst (v := nI 1) hx hb zd_R_here_6 (by decide) ?_
  refine cn_icmp_ne (tgt := 64) hx hb zd_R_here_7 (by decide) (hB _ _ (by decide)) (by omega) (fun c1 => ?_) (fun c1 => ?_)
  · refine lv_iconst (v := nI 0) hx hb zd_R_here_64 (by decide) ?_
    exact cq_ret (u := a) hx hb hr ⟨_, rfl, rfl⟩ hlocks hK hP hD hS ⟨by simp [mq_hn, mq_hereB, c1], rfl⟩ zd_R_here_65
  · refine lv_aload_n hx hb zd_R_here_10 rfl (lv_at hl 0 rfl) ?_
    refine va_get (D := (dC, dI)) (ci := 4) (v := .ref (bd 15)) (C := zR_R) (T := zT_R) (N := 24) hx hb hts zi_R hown hK hP 0 rfl rfl 18 (by decide) (hts _ zf_R_54) (fun _ h9 => h9) rfl zd_R_here_11 ?_
    refine lv_iload_n hx hb zd_R_here_14 rfl (lv_at hl 1 rfl) ?_
    refine cn_bald (f := a 14) hx hb hK hP 15 14 rfl rfl (by omega) (by decide) zd_R_here_15 ?_
    refine lv_iload_n hx hb zd_R_here_16 rfl (lv_at hl 3 rfl) ?_
    refine cn_icmp_ne (tgt := 64) hx hb zd_R_here_17 (by decide) (hB _ _ (by decide)) (by omega) (fun c2 => ?_) (fun c2 => ?_)
    · refine lv_iconst (v := nI 0) hx hb zd_R_here_64 (by decide) ?_
      exact cq_ret (u := a) hx hb hr ⟨_, rfl, rfl⟩ hlocks hK hP hD hS ⟨by simp [mq_hn, mq_hereB, c1, c2], rfl⟩ zd_R_here_65
    · refine lv_aload_n hx hb zd_R_here_20 rfl (lv_at hl 0 rfl) ?_
      refine va_get (D := (dC, dI)) (ci := 4) (v := .ref (bd 13)) (C := zR_R) (T := zT_R) (N := 24) hx hb hts zi_R hown hK hP 0 rfl rfl 16 (by decide) (hts _ zf_R_47) (fun _ h9 => h9) rfl zd_R_here_21 ?_
      refine lv_iload_n hx hb zd_R_here_24 rfl (lv_at hl 1 rfl) ?_
      refine cn_bald (f := a 12) hx hb hK hP 13 12 rfl rfl (by omega) (by decide) zd_R_here_25 ?_
      refine lv_iload_n hx hb zd_R_here_26 rfl (lv_at hl 2 rfl) ?_
      refine cn_icmp_ne (tgt := 64) hx hb zd_R_here_27 (by decide) (hB _ _ (by decide)) (by omega) (fun c3 => ?_) (fun c3 => ?_)
      · refine lv_iconst (v := nI 0) hx hb zd_R_here_64 (by decide) ?_
        exact cq_ret (u := a) hx hb hr ⟨_, rfl, rfl⟩ hlocks hK hP hD hS ⟨by simp [mq_hn, mq_hereB, c1, c2, c3], rfl⟩ zd_R_here_65
      · refine lv_aload_n hx hb zd_R_here_30 rfl (lv_at hl 0 rfl) ?_
        refine va_get (D := (dC, dI)) (ci := 4) (v := .ref (bd 16)) (C := zR_R) (T := zT_R) (N := 24) hx hb hts zi_R hown hK hP 0 rfl rfl 19 (by decide) (hts _ zf_R_57) (fun _ h9 => h9) rfl zd_R_here_31 ?_
        refine lv_iload_n hx hb zd_R_here_34 rfl (lv_at hl 1 rfl) ?_
        refine cn_bald (f := a 15) hx hb hK hP 16 15 rfl rfl (by omega) (by decide) zd_R_here_35 ?_
        refine lv_aload_n hx hb zd_R_here_36 rfl (lv_at hl 0 rfl) ?_
        refine va_get (D := (dC, dI)) (ci := 4) (v := .ref (bd 5)) (C := zR_R) (T := zT_R) (N := 24) hx hb hts zi_R hown hK hP 0 rfl rfl 7 (by decide) (hts _ zf_R_22) (fun _ h9 => h9) rfl zd_R_here_37 ?_
        refine lv_iload_n hx hb zd_R_here_40 rfl (lv_at hl 3 rfl) ?_
        refine cn_iald (f := a 4) hx hb hK hP 5 4 rfl rfl (by omega) (by decide) zd_R_here_41 ?_
        refine cn_icmp_ne (tgt := 64) hx hb zd_R_here_42 (by decide) (hB _ _ (by decide)) (hB _ _ (by decide)) (fun c4 => ?_) (fun c4 => ?_)
        · refine lv_iconst (v := nI 0) hx hb zd_R_here_64 (by decide) ?_
          exact cq_ret (u := a) hx hb hr ⟨_, rfl, rfl⟩ hlocks hK hP hD hS ⟨by simp [mq_hn, mq_hereB, c1, c2, c3, c4], rfl⟩ zd_R_here_65
        · refine lv_aload_n hx hb zd_R_here_45 rfl (lv_at hl 0 rfl) ?_
          refine va_get (D := (dC, dI)) (ci := 4) (v := .ref (bd 17)) (C := zR_R) (T := zT_R) (N := 24) hx hb hts zi_R hown hK hP 0 rfl rfl 20 (by decide) (hts _ zf_R_60) (fun _ h9 => h9) rfl zd_R_here_46 ?_
          refine lv_iload_n hx hb zd_R_here_49 rfl (lv_at hl 1 rfl) ?_
          refine cn_bald (f := a 16) hx hb hK hP 17 16 rfl rfl (by omega) (by decide) zd_R_here_50 ?_
          refine lv_aload_n hx hb zd_R_here_51 rfl (lv_at hl 0 rfl) ?_
          refine va_get (D := (dC, dI)) (ci := 4) (v := .ref (bd 9)) (C := zR_R) (T := zT_R) (N := 24) hx hb hts zi_R hown hK hP 0 rfl rfl 11 (by decide) (hts _ zf_R_34) (fun _ h9 => h9) rfl zd_R_here_52 ?_
          refine lv_iload_n hx hb zd_R_here_55 rfl (lv_at hl 3 rfl) ?_
          refine cn_iald (f := a 8) hx hb hK hP 9 8 rfl rfl (by omega) (by decide) zd_R_here_56 ?_
          refine cn_icmp_ne (tgt := 64) hx hb zd_R_here_57 (by decide) (hB _ _ (by decide)) (hB _ _ (by decide)) (fun c5 => ?_) (fun c5 => ?_)
          · refine lv_iconst (v := nI 0) hx hb zd_R_here_64 (by decide) ?_
            exact cq_ret (u := a) hx hb hr ⟨_, rfl, rfl⟩ hlocks hK hP hD hS ⟨by simp [mq_hn, mq_hereB, c1, c2, c3, c4, c5], rfl⟩ zd_R_here_65
          · refine lv_iconst (v := nI 1) hx hb zd_R_here_60 (by decide) ?_
            refine lv_goto (tgt := 65) hx hb zd_R_here_61 (by decide) ?_
            exact cq_ret (u := a) hx hb hr ⟨_, rfl, rfl⟩ hlocks hK hP hD hS ⟨by simp [mq_hn, mq_hereB, c1, c2, c3, c4, c5], rfl⟩ zd_R_here_65

