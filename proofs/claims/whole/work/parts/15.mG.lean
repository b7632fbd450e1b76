set_option maxHeartbeats 4000000 in
set_option maxRecDepth 100000 in
theorem cM_broadcast (l : Launch) (dC : Nat → ClassId) (dI : Nat → Nat → Nat) (bd : Nat → Nat) (cs : Nat → ClassId) (a : cq_S) (hbas : mq_bas a) (x : Int32) (hgo : ∀ p, cq_id (a 20 0) x = some p → a 11 p = 0 → ¬ a 21 0 = 8 → ∀ d, mq_sok (mq_go p d (mq_b0 a p)) p) : cq_CI l zy_R_broadcast zw_R_broadcast ({ frames := 6, cells := 0, slots := 0, locals := 139 }) (dC, dI) cq_cl (wM bd cs) (tysM cs) a [.ref (bd 0), .int x] (fun r u => (r, u) = mq_bcast a x) := by
  refine cq_CI.of (cc := zc_R_broadcast) (maxL := 3) (ret := (some .int)) (by decide) rfl (Nat.le_of_ble_eq_true rfl) ?_
  intro pr ev s mt args below meth cd A ls hx hb hrt hts hown hlocks hml hP hK hD hA hS hl
  have hown : s.vm.findClass zR_R = some mt.cls := hown
  have hl : lv_has ls 3 [(0, .ref (bd 0)), (1, .int x)] := hl
  obtain ⟨hB, hn3, hn5, hc, hmd, hpp, hlg, hgn⟩ := hbas
  have hB20 := hB 20 0 (by decide)
  refine lv_aload_n hx hb zd_R_broadcast_0 rfl (lv_at hl 0 rfl) ?_
  refine lv_iload_n hx hb zd_R_broadcast_1 rfl (lv_at hl 1 rfl) ?_
  refine cq_callI (C := zR_R) (As := [.int x]) (rest := []) ⟨hx, hb, hml, hown, hts⟩ (cM_none l dC dI bd cs a x) (cq_cw 1 hts zm_R_none zl_R_84 zs_R_none ze_R_none zz_R rfl rfl (by decide +kernel) ⟨Nat.le_of_ble_eq_true rfl, Nat.le_of_ble_eq_true rfl⟩) hK hP hD hS hA 0 rfl rfl rfl hl.1 rfl (Nat.le_of_ble_eq_true rfl) zd_R_broadcast_2 ⟨Nat.zero_le _, Nat.zero_le _⟩ (fun r0 u H locs hu hP hD hS => ?_)
  obtain ⟨hr0, hue⟩ := hu
  subst hr0
  rw [hue] at hP hD
  clear hue
  refine cn_if_eq (tgt := 10) hx hb zd_R_broadcast_5 (by decide) (mq_none_2 _ _) (fun c1 => ?_) (fun c1 => ?_)
  · obtain ⟨p, hp, rfl⟩ := mq_none_0 hB20 c1
    refine lv_aload_n hx hb zd_R_broadcast_10 rfl (lv_at hl 0 rfl) ?_
    refine va_get (D := (dC, dI)) (ci := 4) (v := .ref (bd 12)) (C := zR_R) (T := zT_R) (N := 24) hx hb hts zi_R hown hK hP 0 rfl rfl 14 (by decide) (hts _ zf_R_43) (fun _ h9 => h9) rfl zd_R_broadcast_11 ?_
    refine lv_iload_n hx hb zd_R_broadcast_14 rfl (lv_at hl 1 rfl) ?_
    refine cn_zald (f := a 11) hx hb hK hP 12 11 rfl rfl (by omega) (by decide) zd_R_broadcast_15 ?_
    refine cn_if_eq (tgt := 22) hx hb zd_R_broadcast_16 (by decide) (hB _ _ (by decide)) (fun c2 => ?_) (fun c2 => ?_)
    · refine lv_aload_n hx hb zd_R_broadcast_22 rfl (lv_at hl 0 rfl) ?_
      refine va_get (D := (dC, dI)) (ci := 4) (v := .int (nI (a 21 0))) (C := zR_R) (T := zT_R) (N := 24) hx hb hts zi_R hown hK hP 0 rfl rfl 1 (by decide) (hts _ zf_R_143) (fun _ h9 => h9) rfl zd_R_broadcast_23 ?_
      refine lv_bipush (v := nI 8) hx hb zd_R_broadcast_26 (by decide) ?_
      refine cn_icmp_ne (tgt := 34) hx hb zd_R_broadcast_28 (by decide) (hB _ _ (by decide)) (by omega) (fun c3 => ?_) (fun c3 => ?_)
      · have hp0 := (hpp p (by omega)).1
        have hp10 := (hpp p (by omega)).2.1
        refine lv_aload_n hx hb zd_R_broadcast_34 rfl (lv_at hl 0 rfl) ?_
        refine va_get (D := (dC, dI)) (ci := 4) (v := .int (nI (a 21 0))) (C := zR_R) (T := zT_R) (N := 24) hx hb hts zi_R hown hK hP 0 rfl rfl 1 (by decide) (hts _ zf_R_143) (fun _ h9 => h9) rfl zd_R_broadcast_35 ?_
        refine lv_istore_n hx hb zd_R_broadcast_38 rfl hl (by decide) rfl (fun ls hl => ?_)
        have hl : lv_has ls 3 [(2, .int (nI (a 21 0))), (0, .ref (bd 0)), (1, .int (nI p))] := hl
        refine lv_aload_n hx hb zd_R_broadcast_39 rfl (lv_at hl 1 rfl) ?_
        refine lv_dup hx hb zd_R_broadcast_40 rfl ?_
        refine va_get (D := (dC, dI)) (ci := 4) (v := .int (nI (a 21 0))) (C := zR_R) (T := zT_R) (N := 24) hx hb hts zi_R hown hK hP 0 rfl rfl 1 (by decide) (hts _ zf_R_143) (fun _ h9 => h9) rfl zd_R_broadcast_41 ?_
        refine lv_iconst (v := nI 1) hx hb zd_R_broadcast_44 (by decide) ?_
        refine cn_iadd hx hb zd_R_broadcast_45 ?_
        refine va_put (D := (dC, dI)) (ci := 4) (v := .int (nI ((a 21 0) + 1))) (ty := .int) (C := zR_R) (T := zT_R) (N := 24) hx hb hts zi_R zt_R zo_R zn_R hown hK hP hD hS 0 rfl rfl 1 (by decide) (hts _ zf_R_143) (fun _ h9 => h9) rfl (by decide +kernel) rfl rfl (Nat.le_of_ble_eq_true rfl) zd_R_broadcast_46 (fun H locs hP hD hS => ?_)
        have hP : va_P (dC, dI) cq_cl (wM bd cs (cq_p a 21 0 ((a 21 0) + 1))) H := hP
        have hD : va_D A (wM bd cs (cq_p a 21 0 ((a 21 0) + 1))) := hD
        refine lv_aload_n hx hb zd_R_broadcast_49 rfl (lv_at hl 1 rfl) ?_
        refine va_get (D := (dC, dI)) (ci := 4) (v := .ref (bd 1)) (C := zR_R) (T := zT_R) (N := 24) hx hb hts zi_R hown hK hP 0 rfl rfl 3 (by decide) (hts _ zf_R_7) (fun _ h9 => h9) rfl zd_R_broadcast_50 ?_
        refine lv_iload_n hx hb zd_R_broadcast_53 rfl (lv_at hl 2 rfl) ?_
        refine lv_dup2_11 hx hb zd_R_broadcast_54 rfl rfl ?_
        refine cn_iald (f := a 0) hx hb hK hP 1 0 rfl rfl (by omega) (by decide) zd_R_broadcast_55 ?_
        refine lv_iconst (v := nI 1) hx hb zd_R_broadcast_56 (by decide) ?_
        refine lv_iload_n hx hb zd_R_broadcast_57 rfl (lv_at hl 0 rfl) ?_
        refine cn_ishl1 hx hb zd_R_broadcast_58 (by omega) ?_
        refine cn_ior hx hb zd_R_broadcast_59 ?_
        refine cn_iast (f := a 0) hx hb hK hP hD hS 1 0 rfl rfl (by omega) (by decide) zd_R_broadcast_60 (fun H locs hP hD hS => ?_)
        have hP : va_P (dC, dI) cq_cl (wM bd cs (cq_p (cq_p a 21 0 ((a 21 0) + 1)) 0 p ((a 0 p) ||| (2 ^ (a 21 0))))) H := hP
        have hD : va_D A (wM bd cs (cq_p (cq_p a 21 0 ((a 21 0) + 1)) 0 p ((a 0 p) ||| (2 ^ (a 21 0))))) := hD
        refine lv_aload_n hx hb zd_R_broadcast_61 rfl (lv_at hl 1 rfl) ?_
        refine lv_iconst (v := nI 1) hx hb zd_R_broadcast_62 (by decide) ?_
        refine lv_iload_n hx hb zd_R_broadcast_63 rfl (lv_at hl 2 rfl) ?_
        refine lv_iconst (v := nI 0) hx hb zd_R_broadcast_64 (by decide) ?_
        refine lv_iconst (v := nI 0) hx hb zd_R_broadcast_65 (by decide) ?_
        refine lv_iload_n hx hb zd_R_broadcast_66 rfl (lv_at hl 0 rfl) ?_
        refine cq_callV (C := zR_R) (As := [.int (nI 1), .int (nI p), .int (nI 0), .int (nI 0), .int (nI (a 21 0))]) (rest := []) ⟨hx, hb, hml, hown, hts⟩ (cM_toAll l dC dI bd cs ((cq_p (cq_p a 21 0 ((a 21 0) + 1)) 0 p ((a 0 p) ||| (2 ^ (a 21 0))))) ((hB.put (by omega)).put (Nat.or_lt_two_pow (n := 31) (show a 0 p < 2 ^ 31 by omega) (Nat.pow_lt_pow_right (by decide) (by omega)))) 1 p 0 0 (a 21 0) (by decide) (by omega) (by decide) (by decide) (by omega) hp10 hn5 (show a 23 0 + 5 ≤ 1500 by omega)) (cq_cw 5 hts zm_R_toAll zl_R_101 zs_R_toAll ze_R_toAll zz_R rfl rfl (by decide +kernel) ⟨Nat.le_of_ble_eq_true rfl, Nat.le_of_ble_eq_true rfl⟩) hK hP hD hS hA 0 rfl rfl rfl hl.1 rfl (Nat.le_of_ble_eq_true rfl) zd_R_broadcast_67 ⟨Nat.zero_le _, Nat.zero_le _⟩ (fun u H locs hu hP hD hS => ?_)
        rw [show u = _ from hu] at hP hD
        clear hu
        refine lv_aload_n hx hb zd_R_broadcast_70 rfl (lv_at hl 1 rfl) ?_
        refine lv_iload_n hx hb zd_R_broadcast_71 rfl (lv_at hl 2 rfl) ?_
        refine cq_callV (C := zR_R) (As := [.int (nI p)]) (rest := []) ⟨hx, hb, hml, hown, hts⟩ (cM_goOn l dC dI bd cs ((mq_b0 a p)) p (hgo p (cq_id_nI hp hB20) c2 c3)) (cq_cw 1 hts zm_R_goOn zl_R_146 zs_R_goOn ze_R_goOn zz_R rfl rfl (by decide +kernel) ⟨Nat.le_of_ble_eq_true rfl, Nat.le_of_ble_eq_true rfl⟩) hK hP hD hS hA 0 rfl rfl rfl hl.1 rfl (Nat.le_of_ble_eq_true rfl) zd_R_broadcast_72 ⟨Nat.zero_le _, Nat.zero_le _⟩ (fun u H locs hu hP hD hS => ?_)
        rw [show u = _ from hu] at hP hD
        clear hu
        refine lv_iload_n hx hb zd_R_broadcast_75 rfl (lv_at hl 0 rfl) ?_
        have hst : mq_bcast a (nI p) = ((nI (a 21 0)), (mq_go p 1000 (mq_b0 a p))) := by simp only [mq_bcast, cq_id_nI hp hB20]; rw [if_pos c2, if_neg c3]
        exact cq_ret (u := (mq_go p 1000 (mq_b0 a p))) hx hb hrt ⟨_, rfl, rfl⟩ hlocks hK hP hD hS hst.symm zd_R_broadcast_76
      · refine lv_bipush (v := -3) hx hb zd_R_broadcast_31 (by decide) ?_
        have hst : mq_bcast a (nI p) = ((-3), a) := by simp only [mq_bcast, cq_id_nI hp hB20]; rw [if_pos c2, if_pos c3]
        exact cq_ret (u := a) hx hb hrt ⟨_, rfl, rfl⟩ hlocks hK hP hD hS hst.symm zd_R_broadcast_33
    · refine lv_bipush (v := -2) hx hb zd_R_broadcast_19 (by decide) ?_
      have hst : mq_bcast a (nI p) = ((-2), a) := by simp only [mq_bcast, cq_id_nI hp hB20]; rw [if_neg c2]
      exact cq_ret (u := a) hx hb hrt ⟨_, rfl, rfl⟩ hlocks hK hP hD hS hst.symm zd_R_broadcast_21
  · refine lv_iconst (v := -1) hx hb zd_R_broadcast_8 (by decide) ?_
    have hst : mq_bcast a x = ((-1), a) := by simp only [mq_bcast, mq_none_1 c1]
    exact cq_ret (u := a) hx hb hrt ⟨_, rfl, rfl⟩ hlocks hK hP hD hS hst.symm zd_R_broadcast_9

set_option maxHeartbeats 4000000 in
set_option maxRecDepth 100000 in
theorem cM_deliver (l : Launch) (dC : Nat → ClassId) (dI : Nat → Nat → Nat) (bd : Nat → Nat) (cs : Nat → ClassId) (a : cq_S) (hbas : mq_bas a) (x y j : Int32) (hgo : ∀ p q i, cq_id (a 20 0) x = some p → cq_id (a 20 0) y = some q → ¬ p = q → a 11 q = 0 → mq_seek a p q j = some i → ∀ d, mq_sok (mq_go q d (mq_d0 a q i)) q) : cq_CI l zy_R_deliver zw_R_deliver ({ frames := 6, cells := 0, slots := 0, locals := 139 }) (dC, dI) cq_cl (wM bd cs) (tysM cs) a [.ref (bd 0), .int x, .int y, .int j] (fun r u => (r, u) = mq_deliver a x y j) := by
  refine cq_CI.of (cc := zc_R_deliver) (maxL := 7) (ret := (some .int)) (by decide) rfl (Nat.le_of_ble_eq_true rfl) ?_
  intro pr ev s mt args below meth cd A ls hx hb hrt hts hown hlocks hml hP hK hD hA hS hl
  have hown : s.vm.findClass zR_R = some mt.cls := hown
  have hl : lv_has ls 7 [(0, .ref (bd 0)), (1, .int x), (2, .int y), (3, .int j)] := hl
  obtain ⟨hB, hn3, hn5, hc, hmd, hpp, hlg, hgn⟩ := hbas
  have hB20 := hB 20 0 (by decide)
  refine lv_aload_n hx hb zd_R_deliver_0 rfl (lv_at hl 0 rfl) ?_
  refine lv_iload_n hx hb zd_R_deliver_1 rfl (lv_at hl 1 rfl) ?_
  refine cq_callI (C := zR_R) (As := [.int x]) (rest := []) ⟨hx, hb, hml, hown, hts⟩ (cM_none l dC dI bd cs a x) (cq_cw 1 hts zm_R_none zl_R_84 zs_R_none ze_R_none zz_R rfl rfl (by decide +kernel) ⟨Nat.le_of_ble_eq_true rfl, Nat.le_of_ble_eq_true rfl⟩) hK hP hD hS hA 0 rfl rfl rfl hl.1 rfl (Nat.le_of_ble_eq_true rfl) zd_R_deliver_2 ⟨Nat.zero_le _, Nat.zero_le _⟩ (fun r0 u H locs hu hP hD hS => ?_)
  obtain ⟨hr0, hue⟩ := hu
  subst hr0
  rw [hue] at hP hD
  clear hue
  refine cn_if_ne (tgt := 21) hx hb zd_R_deliver_5 (by decide) (mq_none_2 _ _) (fun c1 => ?_) (fun c1 => ?_)
  · refine lv_iconst (v := -1) hx hb zd_R_deliver_21 (by decide) ?_
    have hst : mq_deliver a x y j = ((-1), a) := by simp only [mq_deliver, mq_none_1 c1]
    exact cq_ret (u := a) hx hb hrt ⟨_, rfl, rfl⟩ hlocks hK hP hD hS hst.symm zd_R_deliver_22
  · obtain ⟨p, hp, rfl⟩ := mq_none_0 hB20 c1
    refine lv_aload_n hx hb zd_R_deliver_8 rfl (lv_at hl 0 rfl) ?_
    refine lv_iload_n hx hb zd_R_deliver_9 rfl (lv_at hl 2 rfl) ?_
    refine cq_callI (C := zR_R) (As := [.int y]) (rest := []) ⟨hx, hb, hml, hown, hts⟩ (cM_none l dC dI bd cs a y) (cq_cw 1 hts zm_R_none zl_R_84 zs_R_none ze_R_none zz_R rfl rfl (by decide +kernel) ⟨Nat.le_of_ble_eq_true rfl, Nat.le_of_ble_eq_true rfl⟩) hK hP hD hS hA 0 rfl rfl rfl hl.1 rfl (Nat.le_of_ble_eq_true rfl) zd_R_deliver_10 ⟨Nat.zero_le _, Nat.zero_le _⟩ (fun r0 u H locs hu hP hD hS => ?_)
    obtain ⟨hr0, hue⟩ := hu
    subst hr0
    rw [hue] at hP hD
    clear hue
    refine cn_if_ne (tgt := 21) hx hb zd_R_deliver_13 (by decide) (mq_none_2 _ _) (fun c2 => ?_) (fun c2 => ?_)
    · refine lv_iconst (v := -1) hx hb zd_R_deliver_21 (by decide) ?_
      have hst : mq_deliver a (nI p) y j = ((-1), a) := by simp only [mq_deliver, cq_id_nI hp hB20, mq_none_1 c2]
      exact cq_ret (u := a) hx hb hrt ⟨_, rfl, rfl⟩ hlocks hK hP hD hS hst.symm zd_R_deliver_22
    · obtain ⟨q, hq, rfl⟩ := mq_none_0 hB20 c2
      refine lv_iload_n hx hb zd_R_deliver_16 rfl (lv_at hl 1 rfl) ?_
      refine lv_iload_n hx hb zd_R_deliver_17 rfl (lv_at hl 2 rfl) ?_
      refine cn_icmp_ne (tgt := 23) hx hb zd_R_deliver_18 (by decide) (by omega) (by omega) (fun c3 => ?_) (fun c3 => ?_)
      · refine lv_aload_n hx hb zd_R_deliver_23 rfl (lv_at hl 0 rfl) ?_
        refine va_get (D := (dC, dI)) (ci := 4) (v := .ref (bd 12)) (C := zR_R) (T := zT_R) (N := 24) hx hb hts zi_R hown hK hP 0 rfl rfl 14 (by decide) (hts _ zf_R_43) (fun _ h9 => h9) rfl zd_R_deliver_24 ?_
        refine lv_iload_n hx hb zd_R_deliver_27 rfl (lv_at hl 2 rfl) ?_
        refine cn_zald (f := a 11) hx hb hK hP 12 11 rfl rfl (by omega) (by decide) zd_R_deliver_28 ?_
        refine cn_if_eq (tgt := 35) hx hb zd_R_deliver_29 (by decide) (hB _ _ (by decide)) (fun c4 => ?_) (fun c4 => ?_)
        · refine lv_aload_n hx hb zd_R_deliver_35 rfl (lv_at hl 0 rfl) ?_
          refine lv_iload_n hx hb zd_R_deliver_36 rfl (lv_at hl 1 rfl) ?_
          refine lv_iload_n hx hb zd_R_deliver_37 rfl (lv_at hl 2 rfl) ?_
          refine lv_iload_n hx hb zd_R_deliver_38 rfl (lv_at hl 3 rfl) ?_
          refine cq_callI (C := zR_R) (As := [.int (nI p), .int (nI q), .int j]) (rest := []) ⟨hx, hb, hml, hown, hts⟩ (cM_seek l dC dI bd cs a hB p q j (by omega) (by omega) (by omega)) (cq_cw 3 hts zm_R_seek zl_R_88 zs_R_seek ze_R_seek zz_R rfl rfl (by decide +kernel) ⟨Nat.le_of_ble_eq_true rfl, Nat.le_of_ble_eq_true rfl⟩) hK hP hD hS hA 0 rfl rfl rfl hl.1 rfl (Nat.le_of_ble_eq_true rfl) zd_R_deliver_39 ⟨Nat.zero_le _, Nat.zero_le _⟩ (fun r0 u H locs hu hP hD hS => ?_)
          obtain ⟨hr0, hue⟩ := hu
          subst hr0
          rw [hue] at hP hD
          clear hue
          refine lv_istore hx hb zd_R_deliver_42 hl (by decide) rfl (fun ls hl => ?_)
          have hl : lv_has ls 7 [(4, .int (mq_oi (mq_seek a p q j))), (0, .ref (bd 0)), (1, .int (nI p)), (2, .int (nI q)), (3, .int j)] := hl
          refine lv_iload hx hb zd_R_deliver_44 (lv_at hl 0 rfl) ?_
          refine lv_if_ge (tgt := 52) hx hb zd_R_deliver_46 (by decide) (fun c5 => ?_) (fun c5 => ?_)
          · cases ho : mq_seek a p q j with
            | none =>
              rw [ho] at hl c5
              have hl : lv_has ls 7 [(4, .int (-1)), (0, .ref (bd 0)), (1, .int (nI p)), (2, .int (nI q)), (3, .int j)] := hl
              exact absurd c5 (by decide)
            | some i =>
              rw [ho] at hl c5
              have hl : lv_has ls 7 [(4, .int (nI i)), (0, .ref (bd 0)), (1, .int (nI p)), (2, .int (nI q)), (3, .int j)] := hl
              have hi : i < a 23 0 := mq_seek_lt ho
              have hlgi := hlg i hi
              have hq0 := (hpp q (by omega)).1
              have hq10 := (hpp q (by omega)).2.1
              refine lv_aload_n hx hb zd_R_deliver_52 rfl (lv_at hl 1 rfl) ?_
              refine va_get (D := (dC, dI)) (ci := 4) (v := .ref (bd 13)) (C := zR_R) (T := zT_R) (N := 24) hx hb hts zi_R hown hK hP 0 rfl rfl 16 (by decide) (hts _ zf_R_47) (fun _ h9 => h9) rfl zd_R_deliver_53 ?_
              refine lv_iload hx hb zd_R_deliver_56 (lv_at hl 0 rfl) ?_
              refine cn_bald (f := a 12) hx hb hK hP 13 12 rfl rfl (by omega) (by decide) zd_R_deliver_58 ?_
              refine lv_istore hx hb zd_R_deliver_59 hl (by decide) rfl (fun ls hl => ?_)
              have hl : lv_has ls 7 [(5, .int (nI (a 12 i))), (4, .int (nI i)), (0, .ref (bd 0)), (1, .int (nI p)), (2, .int (nI q)), (3, .int j)] := hl
              refine lv_aload_n hx hb zd_R_deliver_61 rfl (lv_at hl 2 rfl) ?_
              refine va_get (D := (dC, dI)) (ci := 4) (v := .ref (bd 18)) (C := zR_R) (T := zT_R) (N := 24) hx hb hts zi_R hown hK hP 0 rfl rfl 21 (by decide) (hts _ zf_R_63) (fun _ h9 => h9) rfl zd_R_deliver_62 ?_
              refine lv_iload hx hb zd_R_deliver_65 (lv_at hl 1 rfl) ?_
              refine cn_sald (f := a 17) hx hb hK hP 18 17 rfl rfl (by omega) (by decide) zd_R_deliver_67 ?_
              refine lv_istore hx hb zd_R_deliver_68 hl (by decide) rfl (fun ls hl => ?_)
              have hl : lv_has ls 7 [(6, .int (nI (a 17 i))), (5, .int (nI (a 12 i))), (4, .int (nI i)), (0, .ref (bd 0)), (1, .int (nI p)), (2, .int (nI q)), (3, .int j)] := hl
              refine lv_aload_n hx hb zd_R_deliver_70 rfl (lv_at hl 3 rfl) ?_
              refine va_get (D := (dC, dI)) (ci := 4) (v := .ref (bd 20)) (C := zR_R) (T := zT_R) (N := 24) hx hb hts zi_R hown hK hP 0 rfl rfl 23 (by decide) (hts _ zf_R_70) (fun _ h9 => h9) rfl zd_R_deliver_71 ?_
              refine lv_iload hx hb zd_R_deliver_74 (lv_at hl 2 rfl) ?_
              refine lv_iload hx hb zd_R_deliver_76 (lv_at hl 1 rfl) ?_
              refine lv_iconst (v := nI 2) hx hb zd_R_deliver_78 (by decide) ?_
              refine cn_icmp_lt (tgt := 92) hx hb zd_R_deliver_79 (by decide) (hB _ _ (by decide)) (by omega) (fun c6 => ?_) (fun c6 => ?_)
              · refine lv_iconst (v := nI 2) hx hb zd_R_deliver_92 (by decide) ?_
                refine lv_i2b (v := nI 2) hx hb zd_R_deliver_93 (cn_byte _ (by omega)) ?_
                refine cn_bast (f := a 19) hx hb hK hP hD hS 20 19 rfl rfl (by omega) (by decide) (by omega) zd_R_deliver_94 (fun H locs hP hD hS => ?_)
                have hP : va_P (dC, dI) cq_cl (wM bd cs (cq_p a 19 i 2)) H := hP
                have hD : va_D A (wM bd cs (cq_p a 19 i 2)) := hD
                refine lv_iload hx hb zd_R_deliver_95 (lv_at hl 1 rfl) ?_
                refine lv_iconst (v := nI 1) hx hb zd_R_deliver_97 (by decide) ?_
                refine cn_icmp_ne (tgt := 138) hx hb zd_R_deliver_98 (by decide) (hB _ _ (by decide)) (by omega) (fun c7 => ?_) (fun c7 => ?_)
                · refine lv_iload hx hb zd_R_deliver_138 (lv_at hl 1 rfl) ?_
                  refine lv_iconst (v := nI 5) hx hb zd_R_deliver_140 (by decide) ?_
                  refine cn_icmp_ne (tgt := 178) hx hb zd_R_deliver_141 (by decide) (hB _ _ (by decide)) (by omega) (fun c8 => ?_) (fun c8 => ?_)
                  · refine lv_aload_n hx hb zd_R_deliver_178 rfl (lv_at hl 3 rfl) ?_
                    refine lv_iload_n hx hb zd_R_deliver_179 rfl (lv_at hl 5 rfl) ?_
                    have hse : wM bd cs (cq_p a 19 i 2) = wM bd cs (mq_d0 a q i) := by unfold mq_d0; rw [if_neg c7, if_neg c8, wM_kp, if_neg (by omega)]
                    rw [hse] at hP hD
                    refine cq_callV (C := zR_R) (As := [.int (nI q)]) (rest := []) ⟨hx, hb, hml, hown, hts⟩ (cM_goOn l dC dI bd cs ((mq_d0 a q i)) q (hgo p q i (cq_id_nI hp hB20) (cq_id_nI hq hB20) c3 c4 ho)) (cq_cw 1 hts zm_R_goOn zl_R_146 zs_R_goOn ze_R_goOn zz_R rfl rfl (by decide +kernel) ⟨Nat.le_of_ble_eq_true rfl, Nat.le_of_ble_eq_true rfl⟩) hK hP hD hS hA 0 rfl rfl rfl hl.1 rfl (Nat.le_of_ble_eq_true rfl) zd_R_deliver_180 ⟨Nat.zero_le _, Nat.zero_le _⟩ (fun u H locs hu hP hD hS => ?_)
                    rw [show u = _ from hu] at hP hD
                    clear hu
                    refine lv_iload hx hb zd_R_deliver_183 (lv_at hl 1 rfl) ?_
                    have hst : mq_deliver a (nI p) (nI q) j = ((nI (a 12 i)), (mq_go q 1000 (mq_d0 a q i))) := by simp only [mq_deliver, cq_id_nI hp hB20, cq_id_nI hq hB20, ho]; rw [if_neg c3, if_pos c4]
                    exact cq_ret (u := (mq_go q 1000 (mq_d0 a q i))) hx hb hrt ⟨_, rfl, rfl⟩ hlocks hK hP hD hS hst.symm zd_R_deliver_185
                  · exact absurd c8 (by omega)
                · have hw8 := hlgi.2.2.2 c7
                  refine lv_aload_n hx hb zd_R_deliver_101 rfl (lv_at hl 3 rfl) ?_
                  refine va_get (D := (dC, dI)) (ci := 4) (v := .ref (bd 1)) (C := zR_R) (T := zT_R) (N := 24) hx hb hts zi_R hown hK hP 0 rfl rfl 3 (by decide) (hts _ zf_R_7) (fun _ h9 => h9) rfl zd_R_deliver_102 ?_
                  refine lv_iload_n hx hb zd_R_deliver_105 rfl (lv_at hl 5 rfl) ?_
                  refine cn_iald (f := a 0) hx hb hK hP 1 0 rfl rfl (by omega) (by decide) zd_R_deliver_106 ?_
                  refine lv_iload hx hb zd_R_deliver_107 (lv_at hl 0 rfl) ?_
                  refine cn_ishr hx hb zd_R_deliver_109 (hB _ _ (by decide)) (by omega) ?_
                  refine lv_iconst (v := nI 1) hx hb zd_R_deliver_110 (by decide) ?_
                  refine cn_mask 2 1 (by decide) (Nat.lt_of_le_of_lt (Nat.div_le_self _ _) (hB _ _ (by decide))) (by decide) (by decide) hx hb zd_R_deliver_111 ?_
                  refine cn_if_ne (tgt := 138) hx hb zd_R_deliver_112 (by decide) (by omega) (fun c9 => ?_) (fun c9 => ?_)
                  · refine lv_iload hx hb zd_R_deliver_138 (lv_at hl 1 rfl) ?_
                    refine lv_iconst (v := nI 5) hx hb zd_R_deliver_140 (by decide) ?_
                    refine cn_icmp_ne (tgt := 178) hx hb zd_R_deliver_141 (by decide) (hB _ _ (by decide)) (by omega) (fun c10 => ?_) (fun c10 => ?_)
                    · refine lv_aload_n hx hb zd_R_deliver_178 rfl (lv_at hl 3 rfl) ?_
                      refine lv_iload_n hx hb zd_R_deliver_179 rfl (lv_at hl 5 rfl) ?_
                      have hse : wM bd cs (cq_p a 19 i 2) = wM bd cs (mq_d0 a q i) := by unfold mq_d0; rw [if_pos c7, if_neg c9]
                      rw [hse] at hP hD
                      refine cq_callV (C := zR_R) (As := [.int (nI q)]) (rest := []) ⟨hx, hb, hml, hown, hts⟩ (cM_goOn l dC dI bd cs ((mq_d0 a q i)) q (hgo p q i (cq_id_nI hp hB20) (cq_id_nI hq hB20) c3 c4 ho)) (cq_cw 1 hts zm_R_goOn zl_R_146 zs_R_goOn ze_R_goOn zz_R rfl rfl (by decide +kernel) ⟨Nat.le_of_ble_eq_true rfl, Nat.le_of_ble_eq_true rfl⟩) hK hP hD hS hA 0 rfl rfl rfl hl.1 rfl (Nat.le_of_ble_eq_true rfl) zd_R_deliver_180 ⟨Nat.zero_le _, Nat.zero_le _⟩ (fun u H locs hu hP hD hS => ?_)
                      rw [show u = _ from hu] at hP hD
                      clear hu
                      refine lv_iload hx hb zd_R_deliver_183 (lv_at hl 1 rfl) ?_
                      have hst : mq_deliver a (nI p) (nI q) j = ((nI (a 12 i)), (mq_go q 1000 (mq_d0 a q i))) := by simp only [mq_deliver, cq_id_nI hp hB20, cq_id_nI hq hB20, ho]; rw [if_neg c3, if_pos c4]
                      exact cq_ret (u := (mq_go q 1000 (mq_d0 a q i))) hx hb hrt ⟨_, rfl, rfl⟩ hlocks hK hP hD hS hst.symm zd_R_deliver_185
                    · exact absurd c10 (by omega)
                  · refine lv_aload_n hx hb zd_R_deliver_115 rfl (lv_at hl 3 rfl) ?_
                    refine va_get (D := (dC, dI)) (ci := 4) (v := .ref (bd 1)) (C := zR_R) (T := zT_R) (N := 24) hx hb hts zi_R hown hK hP 0 rfl rfl 3 (by decide) (hts _ zf_R_7) (fun _ h9 => h9) rfl zd_R_deliver_116 ?_
                    refine lv_iload_n hx hb zd_R_deliver_119 rfl (lv_at hl 5 rfl) ?_
                    refine lv_dup2_11 hx hb zd_R_deliver_120 rfl rfl ?_
                    refine cn_iald (f := a 0) hx hb hK hP 1 0 rfl rfl (by omega) (by decide) zd_R_deliver_121 ?_
                    refine lv_iconst (v := nI 1) hx hb zd_R_deliver_122 (by decide) ?_
                    refine lv_iload hx hb zd_R_deliver_123 (lv_at hl 0 rfl) ?_
                    refine cn_ishl1 hx hb zd_R_deliver_125 (by omega) ?_
                    refine cn_ior hx hb zd_R_deliver_126 ?_
                    refine cn_iast (f := a 0) hx hb hK hP hD hS 1 0 rfl rfl (by omega) (by decide) zd_R_deliver_127 (fun H locs hP hD hS => ?_)
                    have hP : va_P (dC, dI) cq_cl (wM bd cs (cq_p (cq_p a 19 i 2) 0 q ((a 0 q) ||| (2 ^ (a 17 i))))) H := hP
                    have hD : va_D A (wM bd cs (cq_p (cq_p a 19 i 2) 0 q ((a 0 q) ||| (2 ^ (a 17 i))))) := hD
                    refine lv_aload_n hx hb zd_R_deliver_128 rfl (lv_at hl 3 rfl) ?_
                    refine lv_iconst (v := nI 1) hx hb zd_R_deliver_129 (by decide) ?_
                    refine lv_iload_n hx hb zd_R_deliver_130 rfl (lv_at hl 5 rfl) ?_
                    refine lv_iconst (v := nI 0) hx hb zd_R_deliver_131 (by decide) ?_
                    refine lv_iconst (v := nI 0) hx hb zd_R_deliver_132 (by decide) ?_
                    refine lv_iload hx hb zd_R_deliver_133 (lv_at hl 0 rfl) ?_
                    refine cq_callV (C := zR_R) (As := [.int (nI 1), .int (nI q), .int (nI 0), .int (nI 0), .int (nI (a 17 i))]) (rest := []) ⟨hx, hb, hml, hown, hts⟩ (cM_toAll l dC dI bd cs ((cq_p (cq_p a 19 i 2) 0 q ((a 0 q) ||| (2 ^ (a 17 i))))) ((hB.put (by decide)).put (Nat.or_lt_two_pow (n := 31) (show a 0 q < 2 ^ 31 by omega) (Nat.pow_lt_pow_right (by decide) (by omega)))) 1 q 0 0 (a 17 i) (by decide) (by omega) (by decide) (by decide) (by omega) hq10 hn5 (show a 23 0 + 5 ≤ 1500 by omega)) (cq_cw 5 hts zm_R_toAll zl_R_101 zs_R_toAll ze_R_toAll zz_R rfl rfl (by decide +kernel) ⟨Nat.le_of_ble_eq_true rfl, Nat.le_of_ble_eq_true rfl⟩) hK hP hD hS hA 0 rfl rfl rfl hl.1 rfl (Nat.le_of_ble_eq_true rfl) zd_R_deliver_135 ⟨Nat.zero_le _, Nat.zero_le _⟩ (fun u H locs hu hP hD hS => ?_)
                    rw [show u = _ from hu] at hP hD
                    clear hu
                    refine lv_iload hx hb zd_R_deliver_138 (lv_at hl 1 rfl) ?_
                    refine lv_iconst (v := nI 5) hx hb zd_R_deliver_140 (by decide) ?_
                    refine cn_icmp_ne (tgt := 178) hx hb zd_R_deliver_141 (by decide) (hB _ _ (by decide)) (by omega) (fun c11 => ?_) (fun c11 => ?_)
                    · refine lv_aload_n hx hb zd_R_deliver_178 rfl (lv_at hl 3 rfl) ?_
                      refine lv_iload_n hx hb zd_R_deliver_179 rfl (lv_at hl 5 rfl) ?_
                      have hse : wM bd cs (mq_toAll (cq_p (cq_p a 19 i 2) 0 q (a 0 q ||| 2 ^ a 17 i)) 1 q 0 0 (a 17 i)) = wM bd cs (mq_d0 a q i) := by unfold mq_d0; rw [if_pos c7, if_pos c9]
                      rw [hse] at hP hD
                      refine cq_callV (C := zR_R) (As := [.int (nI q)]) (rest := []) ⟨hx, hb, hml, hown, hts⟩ (cM_goOn l dC dI bd cs ((mq_d0 a q i)) q (hgo p q i (cq_id_nI hp hB20) (cq_id_nI hq hB20) c3 c4 ho)) (cq_cw 1 hts zm_R_goOn zl_R_146 zs_R_goOn ze_R_goOn zz_R rfl rfl (by decide +kernel) ⟨Nat.le_of_ble_eq_true rfl, Nat.le_of_ble_eq_true rfl⟩) hK hP hD hS hA 0 rfl rfl rfl hl.1 rfl (Nat.le_of_ble_eq_true rfl) zd_R_deliver_180 ⟨Nat.zero_le _, Nat.zero_le _⟩ (fun u H locs hu hP hD hS => ?_)
                      rw [show u = _ from hu] at hP hD
                      clear hu
                      refine lv_iload hx hb zd_R_deliver_183 (lv_at hl 1 rfl) ?_
                      have hst : mq_deliver a (nI p) (nI q) j = ((nI (a 12 i)), (mq_go q 1000 (mq_d0 a q i))) := by simp only [mq_deliver, cq_id_nI hp hB20, cq_id_nI hq hB20, ho]; rw [if_neg c3, if_pos c4]
                      exact cq_ret (u := (mq_go q 1000 (mq_d0 a q i))) hx hb hrt ⟨_, rfl, rfl⟩ hlocks hK hP hD hS hst.symm zd_R_deliver_185
                    · exact absurd c11 (by omega)
              · refine lv_iload hx hb zd_R_deliver_82 (lv_at hl 1 rfl) ?_
                refine lv_iconst (v := nI 4) hx hb zd_R_deliver_84 (by decide) ?_
                refine cn_icmp_gt (tgt := 92) hx hb zd_R_deliver_85 (by decide) (hB _ _ (by decide)) (by omega) (fun c12 => ?_) (fun c12 => ?_)
                · refine lv_iconst (v := nI 2) hx hb zd_R_deliver_92 (by decide) ?_
                  refine lv_i2b (v := nI 2) hx hb zd_R_deliver_93 (cn_byte _ (by omega)) ?_
                  refine cn_bast (f := a 19) hx hb hK hP hD hS 20 19 rfl rfl (by omega) (by decide) (by omega) zd_R_deliver_94 (fun H locs hP hD hS => ?_)
                  have hP : va_P (dC, dI) cq_cl (wM bd cs (cq_p a 19 i 2)) H := hP
                  have hD : va_D A (wM bd cs (cq_p a 19 i 2)) := hD
                  refine lv_iload hx hb zd_R_deliver_95 (lv_at hl 1 rfl) ?_
                  refine lv_iconst (v := nI 1) hx hb zd_R_deliver_97 (by decide) ?_
                  refine cn_icmp_ne (tgt := 138) hx hb zd_R_deliver_98 (by decide) (hB _ _ (by decide)) (by omega) (fun c13 => ?_) (fun c13 => ?_)
                  · refine lv_iload hx hb zd_R_deliver_138 (lv_at hl 1 rfl) ?_
                    refine lv_iconst (v := nI 5) hx hb zd_R_deliver_140 (by decide) ?_
                    refine cn_icmp_ne (tgt := 178) hx hb zd_R_deliver_141 (by decide) (hB _ _ (by decide)) (by omega) (fun c14 => ?_) (fun c14 => ?_)
                    · refine lv_aload_n hx hb zd_R_deliver_178 rfl (lv_at hl 3 rfl) ?_
                      refine lv_iload_n hx hb zd_R_deliver_179 rfl (lv_at hl 5 rfl) ?_
                      have hse : wM bd cs (cq_p a 19 i 2) = wM bd cs (mq_d0 a q i) := by unfold mq_d0; rw [if_neg c13, if_neg c14, wM_kp, if_neg (by omega)]
                      rw [hse] at hP hD
                      refine cq_callV (C := zR_R) (As := [.int (nI q)]) (rest := []) ⟨hx, hb, hml, hown, hts⟩ (cM_goOn l dC dI bd cs ((mq_d0 a q i)) q (hgo p q i (cq_id_nI hp hB20) (cq_id_nI hq hB20) c3 c4 ho)) (cq_cw 1 hts zm_R_goOn zl_R_146 zs_R_goOn ze_R_goOn zz_R rfl rfl (by decide +kernel) ⟨Nat.le_of_ble_eq_true rfl, Nat.le_of_ble_eq_true rfl⟩) hK hP hD hS hA 0 rfl rfl rfl hl.1 rfl (Nat.le_of_ble_eq_true rfl) zd_R_deliver_180 ⟨Nat.zero_le _, Nat.zero_le _⟩ (fun u H locs hu hP hD hS => ?_)
                      rw [show u = _ from hu] at hP hD
                      clear hu
                      refine lv_iload hx hb zd_R_deliver_183 (lv_at hl 1 rfl) ?_
                      have hst : mq_deliver a (nI p) (nI q) j = ((nI (a 12 i)), (mq_go q 1000 (mq_d0 a q i))) := by simp only [mq_deliver, cq_id_nI hp hB20, cq_id_nI hq hB20, ho]; rw [if_neg c3, if_pos c4]
                      exact cq_ret (u := (mq_go q 1000 (mq_d0 a q i))) hx hb hrt ⟨_, rfl, rfl⟩ hlocks hK hP hD hS hst.symm zd_R_deliver_185
                    · have hB6 := hB 6 (8 * q + a 15 i) (by decide)
                      refine lv_aload_n hx hb zd_R_deliver_144 rfl (lv_at hl 3 rfl) ?_
                      refine va_get (D := (dC, dI)) (ci := 4) (v := .ref (bd 7)) (C := zR_R) (T := zT_R) (N := 24) hx hb hts zi_R hown hK hP 0 rfl rfl 9 (by decide) (hts _ zf_R_28) (fun _ h9 => h9) rfl zd_R_deliver_145 ?_
                      refine lv_bipush (v := nI 8) hx hb zd_R_deliver_148 (by decide) ?_
                      refine lv_iload_n hx hb zd_R_deliver_150 rfl (lv_at hl 5 rfl) ?_
                      refine cn_imul hx hb zd_R_deliver_151 ?_
                      refine lv_aload_n hx hb zd_R_deliver_152 rfl (lv_at hl 3 rfl) ?_
                      refine va_get (D := (dC, dI)) (ci := 4) (v := .ref (bd 16)) (C := zR_R) (T := zT_R) (N := 24) hx hb hts zi_R hown hK hP 0 rfl rfl 19 (by decide) (hts _ zf_R_57) (fun _ h9 => h9) rfl zd_R_deliver_153 ?_
                      refine lv_iload hx hb zd_R_deliver_156 (lv_at hl 2 rfl) ?_
                      refine cn_bald (f := a 15) hx hb hK hP 16 15 rfl rfl (by omega) (by decide) zd_R_deliver_158 ?_
                      refine cn_iadd hx hb zd_R_deliver_159 ?_
                      refine cn_iald (f := a 6) hx hb hK hP 7 6 rfl rfl (by omega) (by decide) zd_R_deliver_160 ?_
                      refine cn_if_ne (tgt := 178) hx hb zd_R_deliver_161 (by decide) (by omega) (fun c15 => ?_) (fun c15 => ?_)
                      · refine lv_aload_n hx hb zd_R_deliver_178 rfl (lv_at hl 3 rfl) ?_
                        refine lv_iload_n hx hb zd_R_deliver_179 rfl (lv_at hl 5 rfl) ?_
                        have hse : wM bd cs (cq_p a 19 i 2) = wM bd cs (mq_d0 a q i) := by unfold mq_d0; rw [if_neg c13, if_pos c14, if_neg c15]
                        rw [hse] at hP hD
                        refine cq_callV (C := zR_R) (As := [.int (nI q)]) (rest := []) ⟨hx, hb, hml, hown, hts⟩ (cM_goOn l dC dI bd cs ((mq_d0 a q i)) q (hgo p q i (cq_id_nI hp hB20) (cq_id_nI hq hB20) c3 c4 ho)) (cq_cw 1 hts zm_R_goOn zl_R_146 zs_R_goOn ze_R_goOn zz_R rfl rfl (by decide +kernel) ⟨Nat.le_of_ble_eq_true rfl, Nat.le_of_ble_eq_true rfl⟩) hK hP hD hS hA 0 rfl rfl rfl hl.1 rfl (Nat.le_of_ble_eq_true rfl) zd_R_deliver_180 ⟨Nat.zero_le _, Nat.zero_le _⟩ (fun u H locs hu hP hD hS => ?_)
                        rw [show u = _ from hu] at hP hD
                        clear hu
                        refine lv_iload hx hb zd_R_deliver_183 (lv_at hl 1 rfl) ?_
                        have hst : mq_deliver a (nI p) (nI q) j = ((nI (a 12 i)), (mq_go q 1000 (mq_d0 a q i))) := by simp only [mq_deliver, cq_id_nI hp hB20, cq_id_nI hq hB20, ho]; rw [if_neg c3, if_pos c4]
                        exact cq_ret (u := (mq_go q 1000 (mq_d0 a q i))) hx hb hrt ⟨_, rfl, rfl⟩ hlocks hK hP hD hS hst.symm zd_R_deliver_185
                      · refine lv_aload_n hx hb zd_R_deliver_164 rfl (lv_at hl 3 rfl) ?_
                        refine lv_iload_n hx hb zd_R_deliver_165 rfl (lv_at hl 5 rfl) ?_
                        refine lv_aload_n hx hb zd_R_deliver_166 rfl (lv_at hl 3 rfl) ?_
                        refine va_get (D := (dC, dI)) (ci := 4) (v := .ref (bd 16)) (C := zR_R) (T := zT_R) (N := 24) hx hb hts zi_R hown hK hP 0 rfl rfl 19 (by decide) (hts _ zf_R_57) (fun _ h9 => h9) rfl zd_R_deliver_167 ?_
                        refine lv_iload hx hb zd_R_deliver_170 (lv_at hl 2 rfl) ?_
                        refine cn_bald (f := a 15) hx hb hK hP 16 15 rfl rfl (by omega) (by decide) zd_R_deliver_172 ?_
                        refine lv_iload hx hb zd_R_deliver_173 (lv_at hl 0 rfl) ?_
                        refine cq_callV (C := zR_R) (As := [.int (nI q), .int (nI (a 15 i)), .int (nI (a 17 i))]) (rest := []) ⟨hx, hb, hml, hown, hts⟩ (cM_learn l dC dI bd cs ((cq_p a 19 i 2)) (hB.put (by decide)) q (a 15 i) (a 17 i) (by omega) (by omega) (by omega) hn5 hq10 (show a 23 0 + 5 ≤ 1500 by omega)) (cq_cw 3 hts zm_R_learn zl_R_130 zs_R_learn ze_R_learn zz_R rfl rfl (by decide +kernel) ⟨Nat.le_of_ble_eq_true rfl, Nat.le_of_ble_eq_true rfl⟩) hK hP hD hS hA 0 rfl rfl rfl hl.1 rfl (Nat.le_of_ble_eq_true rfl) zd_R_deliver_175 ⟨Nat.zero_le _, Nat.zero_le _⟩ (fun u H locs hu hP hD hS => ?_)
                        rw [show u = _ from hu] at hP hD
                        clear hu
                        refine lv_aload_n hx hb zd_R_deliver_178 rfl (lv_at hl 3 rfl) ?_
                        refine lv_iload_n hx hb zd_R_deliver_179 rfl (lv_at hl 5 rfl) ?_
                        have hse : wM bd cs (mq_learn (cq_p a 19 i 2) q (a 15 i) (a 17 i)) = wM bd cs (mq_d0 a q i) := by unfold mq_d0; rw [if_neg c13, if_pos c14, if_pos c15]
                        rw [hse] at hP hD
                        refine cq_callV (C := zR_R) (As := [.int (nI q)]) (rest := []) ⟨hx, hb, hml, hown, hts⟩ (cM_goOn l dC dI bd cs ((mq_d0 a q i)) q (hgo p q i (cq_id_nI hp hB20) (cq_id_nI hq hB20) c3 c4 ho)) (cq_cw 1 hts zm_R_goOn zl_R_146 zs_R_goOn ze_R_goOn zz_R rfl rfl (by decide +kernel) ⟨Nat.le_of_ble_eq_true rfl, Nat.le_of_ble_eq_true rfl⟩) hK hP hD hS hA 0 rfl rfl rfl hl.1 rfl (Nat.le_of_ble_eq_true rfl) zd_R_deliver_180 ⟨Nat.zero_le _, Nat.zero_le _⟩ (fun u H locs hu hP hD hS => ?_)
                        rw [show u = _ from hu] at hP hD
                        clear hu
                        refine lv_iload hx hb zd_R_deliver_183 (lv_at hl 1 rfl) ?_
                        have hst : mq_deliver a (nI p) (nI q) j = ((nI (a 12 i)), (mq_go q 1000 (mq_d0 a q i))) := by simp only [mq_deliver, cq_id_nI hp hB20, cq_id_nI hq hB20, ho]; rw [if_neg c3, if_pos c4]
                        exact cq_ret (u := (mq_go q 1000 (mq_d0 a q i))) hx hb hrt ⟨_, rfl, rfl⟩ hlocks hK hP hD hS hst.symm zd_R_deliver_185
                  · exact absurd c13 (by omega)
                · refine lv_iconst (v := nI 1) hx hb zd_R_deliver_88 (by decide) ?_
                  refine lv_goto (tgt := 93) hx hb zd_R_deliver_89 (by decide) ?_
                  refine lv_i2b (v := nI 1) hx hb zd_R_deliver_93 (cn_byte _ (by omega)) ?_
                  refine cn_bast (f := a 19) hx hb hK hP hD hS 20 19 rfl rfl (by omega) (by decide) (by omega) zd_R_deliver_94 (fun H locs hP hD hS => ?_)
                  have hP : va_P (dC, dI) cq_cl (wM bd cs (cq_p a 19 i 1)) H := hP
                  have hD : va_D A (wM bd cs (cq_p a 19 i 1)) := hD
                  refine lv_iload hx hb zd_R_deliver_95 (lv_at hl 1 rfl) ?_
                  refine lv_iconst (v := nI 1) hx hb zd_R_deliver_97 (by decide) ?_
                  refine cn_icmp_ne (tgt := 138) hx hb zd_R_deliver_98 (by decide) (hB _ _ (by decide)) (by omega) (fun c16 => ?_) (fun c16 => ?_)
                  · refine lv_iload hx hb zd_R_deliver_138 (lv_at hl 1 rfl) ?_
                    refine lv_iconst (v := nI 5) hx hb zd_R_deliver_140 (by decide) ?_
                    refine cn_icmp_ne (tgt := 178) hx hb zd_R_deliver_141 (by decide) (hB _ _ (by decide)) (by omega) (fun c17 => ?_) (fun c17 => ?_)
                    · refine lv_aload_n hx hb zd_R_deliver_178 rfl (lv_at hl 3 rfl) ?_
                      refine lv_iload_n hx hb zd_R_deliver_179 rfl (lv_at hl 5 rfl) ?_
                      have hse : wM bd cs (cq_p a 19 i 1) = wM bd cs (mq_d0 a q i) := by unfold mq_d0; rw [if_neg c16, if_neg c17, wM_kp, if_pos (by omega)]
                      rw [hse] at hP hD
                      refine cq_callV (C := zR_R) (As := [.int (nI q)]) (rest := []) ⟨hx, hb, hml, hown, hts⟩ (cM_goOn l dC dI bd cs ((mq_d0 a q i)) q (hgo p q i (cq_id_nI hp hB20) (cq_id_nI hq hB20) c3 c4 ho)) (cq_cw 1 hts zm_R_goOn zl_R_146 zs_R_goOn ze_R_goOn zz_R rfl rfl (by decide +kernel) ⟨Nat.le_of_ble_eq_true rfl, Nat.le_of_ble_eq_true rfl⟩) hK hP hD hS hA 0 rfl rfl rfl hl.1 rfl (Nat.le_of_ble_eq_true rfl) zd_R_deliver_180 ⟨Nat.zero_le _, Nat.zero_le _⟩ (fun u H locs hu hP hD hS => ?_)
                      rw [show u = _ from hu] at hP hD
                      clear hu
                      refine lv_iload hx hb zd_R_deliver_183 (lv_at hl 1 rfl) ?_
                      have hst : mq_deliver a (nI p) (nI q) j = ((nI (a 12 i)), (mq_go q 1000 (mq_d0 a q i))) := by simp only [mq_deliver, cq_id_nI hp hB20, cq_id_nI hq hB20, ho]; rw [if_neg c3, if_pos c4]
                      exact cq_ret (u := (mq_go q 1000 (mq_d0 a q i))) hx hb hrt ⟨_, rfl, rfl⟩ hlocks hK hP hD hS hst.symm zd_R_deliver_185
                    · exact absurd c17 (by omega)
                  · exact absurd c16 (by omega)
          · cases ho : mq_seek a p q j with
            | none =>
              rw [ho] at hl c5
              have hl : lv_has ls 7 [(4, .int (-1)), (0, .ref (bd 0)), (1, .int (nI p)), (2, .int (nI q)), (3, .int j)] := hl
              refine lv_bipush (v := -3) hx hb zd_R_deliver_49 (by decide) ?_
              have hst : mq_deliver a (nI p) (nI q) j = ((-3), a) := by simp only [mq_deliver, cq_id_nI hp hB20, cq_id_nI hq hB20, ho]; rw [if_neg c3, if_pos c4]
              exact cq_ret (u := a) hx hb hrt ⟨_, rfl, rfl⟩ hlocks hK hP hD hS hst.symm zd_R_deliver_51
            | some i =>
              rw [ho] at hl c5
              have hl : lv_has ls 7 [(4, .int (nI i)), (0, .ref (bd 0)), (1, .int (nI p)), (2, .int (nI q)), (3, .int j)] := hl
              have hi : i < a 23 0 := mq_seek_lt ho
              have hlgi := hlg i hi
              have hq0 := (hpp q (by omega)).1
              have hq10 := (hpp q (by omega)).2.1
              exact absurd (nI_pos' (by omega)) c5
        · refine lv_bipush (v := -2) hx hb zd_R_deliver_32 (by decide) ?_
          have hst : mq_deliver a (nI p) (nI q) j = ((-2), a) := by simp only [mq_deliver, cq_id_nI hp hB20, cq_id_nI hq hB20]; rw [if_neg c3, if_neg c4]
          exact cq_ret (u := a) hx hb hrt ⟨_, rfl, rfl⟩ hlocks hK hP hD hS hst.symm zd_R_deliver_34
      · refine lv_iconst (v := -1) hx hb zd_R_deliver_21 (by decide) ?_
        have hst : mq_deliver a (nI p) (nI q) j = ((-1), a) := by simp only [mq_deliver, cq_id_nI hp hB20, cq_id_nI hq hB20]; rw [if_pos c3]
        exact cq_ret (u := a) hx hb hrt ⟨_, rfl, rfl⟩ hlocks hK hP hD hS hst.symm zd_R_deliver_22

