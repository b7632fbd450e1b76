set_option maxHeartbeats 4000000 in
set_option maxRecDepth 100000 in
theorem cM_letter (l : Launch) (dC : Nat → ClassId) (dI : Nat → Nat → Nat) (bd : Nat → Nat) (cs : Nat → ClassId) (a : cq_S) (hbas : mq_bas a) (x y j : Int32) : cq_CI l zy_R_letter zw_R_letter ({ frames := 1, cells := 0, slots := 0, locals := 25 }) (dC, dI) cq_cl (wM bd cs) (tysM cs) a [.ref (bd 0), .int x, .int y, .int j] (fun r u => r = mq_letter a x y j ∧ u = a) := by
  refine cq_CI.of (cc := zc_R_letter) (maxL := 5) (ret := (some .int)) (by decide) rfl (Nat.le_of_ble_eq_true rfl) ?_
  intro pr ev s mt args below meth cd A ls hx hb hrt hts hown hlocks hml hP hK hD hA hS hl
  have hown : s.vm.findClass zR_R = some mt.cls := hown
  have hl : lv_has ls 5 [(0, .ref (bd 0)), (1, .int x), (2, .int y), (3, .int j)] := hl
  obtain ⟨hB, hn3, hn5, hc, hmd, hpp, hlg, hgn⟩ := hbas
  have hB20 := hB 20 0 (by decide)
  refine lv_aload_n hx hb zd_R_letter_0 rfl (lv_at hl 0 rfl) ?_
  refine lv_iload_n hx hb zd_R_letter_1 rfl (lv_at hl 1 rfl) ?_
  refine cq_callI (C := zR_R) (As := [.int x]) (rest := []) ⟨hx, hb, hml, hown, hts⟩ (cM_none l dC dI bd cs a x) (cq_cw 1 hts zm_R_none zl_R_84 zs_R_none ze_R_none zz_R rfl rfl (by decide +kernel) ⟨Nat.le_of_ble_eq_true rfl, Nat.le_of_ble_eq_true rfl⟩) hK hP hD hS hA 0 rfl rfl rfl hl.1 rfl (Nat.le_of_ble_eq_true rfl) zd_R_letter_2 ⟨Nat.zero_le _, Nat.zero_le _⟩ (fun r0 u H locs hu hP hD hS => ?_)
  obtain ⟨hr0, hue⟩ := hu
  subst hr0
  rw [hue] at hP hD
  clear hue
  refine cn_if_ne (tgt := 16) hx hb zd_R_letter_5 (by decide) (mq_none_2 _ _) (fun c1 => ?_) (fun c1 => ?_)
  · refine lv_iconst (v := -1) hx hb zd_R_letter_16 (by decide) ?_
    refine lv_goto (tgt := 27) hx hb zd_R_letter_17 (by decide) ?_
    refine lv_istore hx hb zd_R_letter_27 hl (by decide) rfl (fun ls hl => ?_)
    have hl : lv_has ls 5 [(4, .int (-1)), (0, .ref (bd 0)), (1, .int x), (2, .int y), (3, .int j)] := hl
    refine lv_iload hx hb zd_R_letter_29 (lv_at hl 0 rfl) ?_
    refine lv_if_ge (tgt := 36) hx hb zd_R_letter_31 (by decide) (fun c2 => ?_) (fun c2 => ?_)
    · exact absurd c2 (by decide)
    · refine lv_iconst (v := nI 0) hx hb zd_R_letter_34 (by decide) ?_
      exact cq_ret (u := a) hx hb hrt ⟨_, rfl, rfl⟩ hlocks hK hP hD hS ⟨by simp only [mq_letter, mq_ltx, mq_none_1 c1], rfl⟩ zd_R_letter_35
  · obtain ⟨p, hp, rfl⟩ := mq_none_0 hB20 c1
    refine lv_aload_n hx hb zd_R_letter_8 rfl (lv_at hl 0 rfl) ?_
    refine lv_iload_n hx hb zd_R_letter_9 rfl (lv_at hl 2 rfl) ?_
    refine cq_callI (C := zR_R) (As := [.int y]) (rest := []) ⟨hx, hb, hml, hown, hts⟩ (cM_none l dC dI bd cs a y) (cq_cw 1 hts zm_R_none zl_R_84 zs_R_none ze_R_none zz_R rfl rfl (by decide +kernel) ⟨Nat.le_of_ble_eq_true rfl, Nat.le_of_ble_eq_true rfl⟩) hK hP hD hS hA 0 rfl rfl rfl hl.1 rfl (Nat.le_of_ble_eq_true rfl) zd_R_letter_10 ⟨Nat.zero_le _, Nat.zero_le _⟩ (fun r0 u H locs hu hP hD hS => ?_)
    obtain ⟨hr0, hue⟩ := hu
    subst hr0
    rw [hue] at hP hD
    clear hue
    refine cn_if_eq (tgt := 20) hx hb zd_R_letter_13 (by decide) (mq_none_2 _ _) (fun c3 => ?_) (fun c3 => ?_)
    · obtain ⟨q, hq, rfl⟩ := mq_none_0 hB20 c3
      refine lv_aload_n hx hb zd_R_letter_20 rfl (lv_at hl 0 rfl) ?_
      refine lv_iload_n hx hb zd_R_letter_21 rfl (lv_at hl 1 rfl) ?_
      refine lv_iload_n hx hb zd_R_letter_22 rfl (lv_at hl 2 rfl) ?_
      refine lv_iload_n hx hb zd_R_letter_23 rfl (lv_at hl 3 rfl) ?_
      refine cq_callI (C := zR_R) (As := [.int (nI p), .int (nI q), .int j]) (rest := []) ⟨hx, hb, hml, hown, hts⟩ (cM_seek l dC dI bd cs a hB p q j (by omega) (by omega) (by omega)) (cq_cw 3 hts zm_R_seek zl_R_88 zs_R_seek ze_R_seek zz_R rfl rfl (by decide +kernel) ⟨Nat.le_of_ble_eq_true rfl, Nat.le_of_ble_eq_true rfl⟩) hK hP hD hS hA 0 rfl rfl rfl hl.1 rfl (Nat.le_of_ble_eq_true rfl) zd_R_letter_24 ⟨Nat.zero_le _, Nat.zero_le _⟩ (fun r0 u H locs hu hP hD hS => ?_)
      obtain ⟨hr0, hue⟩ := hu
      subst hr0
      rw [hue] at hP hD
      clear hue
      refine lv_istore hx hb zd_R_letter_27 hl (by decide) rfl (fun ls hl => ?_)
      have hl : lv_has ls 5 [(4, .int (mq_oi (mq_seek a p q j))), (0, .ref (bd 0)), (1, .int (nI p)), (2, .int (nI q)), (3, .int j)] := hl
      refine lv_iload hx hb zd_R_letter_29 (lv_at hl 0 rfl) ?_
      refine lv_if_ge (tgt := 36) hx hb zd_R_letter_31 (by decide) (fun c4 => ?_) (fun c4 => ?_)
      · cases ho : mq_seek a p q j with
        | none =>
          rw [ho] at hl c4
          have hl : lv_has ls 5 [(4, .int (-1)), (0, .ref (bd 0)), (1, .int (nI p)), (2, .int (nI q)), (3, .int j)] := hl
          exact absurd c4 (by decide)
        | some i =>
          rw [ho] at hl c4
          have hl : lv_has ls 5 [(4, .int (nI i)), (0, .ref (bd 0)), (1, .int (nI p)), (2, .int (nI q)), (3, .int j)] := hl
          have hi : i < a 23 0 := mq_seek_lt ho
          refine lv_aload_n hx hb zd_R_letter_36 rfl (lv_at hl 1 rfl) ?_
          refine va_get (D := (dC, dI)) (ci := 4) (v := .ref (bd 13)) (C := zR_R) (T := zT_R) (N := 24) hx hb hts zi_R hown hK hP 0 rfl rfl 16 (by decide) (hts _ zf_R_47) (fun _ h9 => h9) rfl zd_R_letter_37 ?_
          refine lv_iload hx hb zd_R_letter_40 (lv_at hl 0 rfl) ?_
          refine cn_bald (f := a 12) hx hb hK hP 13 12 rfl rfl (by omega) (by decide) zd_R_letter_42 ?_
          refine lv_bipush (v := nI 8) hx hb zd_R_letter_43 (by decide) ?_
          refine lv_aload_n hx hb zd_R_letter_45 rfl (lv_at hl 1 rfl) ?_
          refine va_get (D := (dC, dI)) (ci := 4) (v := .ref (bd 16)) (C := zR_R) (T := zT_R) (N := 24) hx hb hts zi_R hown hK hP 0 rfl rfl 19 (by decide) (hts _ zf_R_57) (fun _ h9 => h9) rfl zd_R_letter_46 ?_
          refine lv_iload hx hb zd_R_letter_49 (lv_at hl 0 rfl) ?_
          refine cn_bald (f := a 15) hx hb hK hP 16 15 rfl rfl (by omega) (by decide) zd_R_letter_51 ?_
          refine cn_imul hx hb zd_R_letter_52 ?_
          refine cn_iadd hx hb zd_R_letter_53 ?_
          refine lv_bipush (v := nI 64) hx hb zd_R_letter_54 (by decide) ?_
          refine lv_aload_n hx hb zd_R_letter_56 rfl (lv_at hl 1 rfl) ?_
          refine va_get (D := (dC, dI)) (ci := 4) (v := .ref (bd 17)) (C := zR_R) (T := zT_R) (N := 24) hx hb hts zi_R hown hK hP 0 rfl rfl 20 (by decide) (hts _ zf_R_60) (fun _ h9 => h9) rfl zd_R_letter_57 ?_
          refine lv_iload hx hb zd_R_letter_60 (lv_at hl 0 rfl) ?_
          refine cn_bald (f := a 16) hx hb hK hP 17 16 rfl rfl (by omega) (by decide) zd_R_letter_62 ?_
          refine cn_imul hx hb zd_R_letter_63 ?_
          refine cn_iadd hx hb zd_R_letter_64 ?_
          refine lv_sipush (v := nI 1024) hx hb zd_R_letter_65 (by decide) ?_
          refine lv_aload_n hx hb zd_R_letter_68 rfl (lv_at hl 1 rfl) ?_
          refine va_get (D := (dC, dI)) (ci := 4) (v := .ref (bd 18)) (C := zR_R) (T := zT_R) (N := 24) hx hb hts zi_R hown hK hP 0 rfl rfl 21 (by decide) (hts _ zf_R_63) (fun _ h9 => h9) rfl zd_R_letter_69 ?_
          refine lv_iload hx hb zd_R_letter_72 (lv_at hl 0 rfl) ?_
          refine cn_sald (f := a 17) hx hb hK hP 18 17 rfl rfl (by omega) (by decide) zd_R_letter_74 ?_
          refine cn_imul hx hb zd_R_letter_75 ?_
          refine cn_iadd hx hb zd_R_letter_76 ?_
          refine lv_ldc (v := 262144) hx hb hown (hts _ zk_R_92) zd_R_letter_77 ?_
          refine cn_top (show (262144 : Int32) = nI 262144 by decide) ?_
          refine lv_aload_n hx hb zd_R_letter_79 rfl (lv_at hl 1 rfl) ?_
          refine va_get (D := (dC, dI)) (ci := 4) (v := .ref (bd 19)) (C := zR_R) (T := zT_R) (N := 24) hx hb hts zi_R hown hK hP 0 rfl rfl 22 (by decide) (hts _ zf_R_67) (fun _ h9 => h9) rfl zd_R_letter_80 ?_
          refine lv_iload hx hb zd_R_letter_83 (lv_at hl 0 rfl) ?_
          refine cn_bald (f := a 18) hx hb hK hP 19 18 rfl rfl (by omega) (by decide) zd_R_letter_85 ?_
          refine cn_imul hx hb zd_R_letter_86 ?_
          refine cn_iadd hx hb zd_R_letter_87 ?_
          exact cq_ret (u := a) hx hb hrt ⟨_, rfl, rfl⟩ hlocks hK hP hD hS ⟨by simp only [mq_letter, mq_ltx, cq_id_nI hp hB20, cq_id_nI hq hB20, ho], rfl⟩ zd_R_letter_88
      · cases ho : mq_seek a p q j with
        | none =>
          rw [ho] at hl c4
          have hl : lv_has ls 5 [(4, .int (-1)), (0, .ref (bd 0)), (1, .int (nI p)), (2, .int (nI q)), (3, .int j)] := hl
          refine lv_iconst (v := nI 0) hx hb zd_R_letter_34 (by decide) ?_
          exact cq_ret (u := a) hx hb hrt ⟨_, rfl, rfl⟩ hlocks hK hP hD hS ⟨by simp only [mq_letter, mq_ltx, cq_id_nI hp hB20, cq_id_nI hq hB20, ho], rfl⟩ zd_R_letter_35
        | some i =>
          rw [ho] at hl c4
          have hl : lv_has ls 5 [(4, .int (nI i)), (0, .ref (bd 0)), (1, .int (nI p)), (2, .int (nI q)), (3, .int j)] := hl
          have hi : i < a 23 0 := mq_seek_lt ho
          exact absurd (nI_pos' (by omega)) c4
    · refine lv_iconst (v := -1) hx hb zd_R_letter_16 (by decide) ?_
      refine lv_goto (tgt := 27) hx hb zd_R_letter_17 (by decide) ?_
      refine lv_istore hx hb zd_R_letter_27 hl (by decide) rfl (fun ls hl => ?_)
      have hl : lv_has ls 5 [(4, .int (-1)), (0, .ref (bd 0)), (1, .int (nI p)), (2, .int y), (3, .int j)] := hl
      refine lv_iload hx hb zd_R_letter_29 (lv_at hl 0 rfl) ?_
      refine lv_if_ge (tgt := 36) hx hb zd_R_letter_31 (by decide) (fun c5 => ?_) (fun c5 => ?_)
      · exact absurd c5 (by decide)
      · refine lv_iconst (v := nI 0) hx hb zd_R_letter_34 (by decide) ?_
        exact cq_ret (u := a) hx hb hrt ⟨_, rfl, rfl⟩ hlocks hK hP hD hS ⟨by simp only [mq_letter, mq_ltx, cq_id_nI hp hB20, mq_none_1 c3], rfl⟩ zd_R_letter_35

set_option maxHeartbeats 4000000 in
set_option maxRecDepth 100000 in
theorem cM_suspect (l : Launch) (dC : Nat → ClassId) (dI : Nat → Nat → Nat) (bd : Nat → Nat) (cs : Nat → ClassId) (a : cq_S) (hbas : mq_bas a) (x z : Int32) (y : Nat) (hy : y < 2147483648) (hgo : ∀ p q, cq_id (a 20 0) x = some p → cq_id (a 20 0) z = some q → ¬ p = q → a 11 p = 0 → ∀ d, mq_sok (mq_go p d (mq_s0 a p q y)) p) : cq_CI l zy_R_suspect zw_R_suspect ({ frames := 6, cells := 0, slots := 0, locals := 139 }) (dC, dI) cq_cl (wM bd cs) (tysM cs) a [.ref (bd 0), .int x, .int z, .int (nI y)] (fun r u => (r, u) = mq_suspect a x z y) := by
  refine cq_CI.of (cc := zc_R_suspect) (maxL := 4) (ret := (some .boolean)) (by decide) rfl (Nat.le_of_ble_eq_true rfl) ?_
  intro pr ev s mt args below meth cd A ls hx hb hrt hts hown hlocks hml hP hK hD hA hS hl
  have hown : s.vm.findClass zR_R = some mt.cls := hown
  have hl : lv_has ls 4 [(0, .ref (bd 0)), (1, .int x), (2, .int z), (3, .int (nI y))] := hl
  obtain ⟨hB, hn3, hn5, hc, hmd, hpp, hlg, hgn⟩ := hbas
  have hB20 := hB 20 0 (by decide)
  refine lv_aload_n hx hb zd_R_suspect_0 rfl (lv_at hl 0 rfl) ?_
  refine lv_iload_n hx hb zd_R_suspect_1 rfl (lv_at hl 1 rfl) ?_
  refine cq_callI (C := zR_R) (As := [.int x]) (rest := []) ⟨hx, hb, hml, hown, hts⟩ (cM_none l dC dI bd cs a x) (cq_cw 1 hts zm_R_none zl_R_84 zs_R_none ze_R_none zz_R rfl rfl (by decide +kernel) ⟨Nat.le_of_ble_eq_true rfl, Nat.le_of_ble_eq_true rfl⟩) hK hP hD hS hA 0 rfl rfl rfl hl.1 rfl (Nat.le_of_ble_eq_true rfl) zd_R_suspect_2 ⟨Nat.zero_le _, Nat.zero_le _⟩ (fun r0 u H locs hu hP hD hS => ?_)
  obtain ⟨hr0, hue⟩ := hu
  subst hr0
  rw [hue] at hP hD
  clear hue
  refine cn_if_ne (tgt := 30) hx hb zd_R_suspect_5 (by decide) (mq_none_2 _ _) (fun c1 => ?_) (fun c1 => ?_)
  · refine lv_iconst (v := nI 0) hx hb zd_R_suspect_30 (by decide) ?_
    have hst : mq_suspect a x z y = ((nI 0), a) := by simp only [mq_suspect, mq_none_1 c1]
    exact cq_ret (u := a) hx hb hrt ⟨_, rfl, rfl⟩ hlocks hK hP hD hS hst.symm zd_R_suspect_31
  · obtain ⟨p, hp, rfl⟩ := mq_none_0 hB20 c1
    refine lv_aload_n hx hb zd_R_suspect_8 rfl (lv_at hl 0 rfl) ?_
    refine lv_iload_n hx hb zd_R_suspect_9 rfl (lv_at hl 2 rfl) ?_
    refine cq_callI (C := zR_R) (As := [.int z]) (rest := []) ⟨hx, hb, hml, hown, hts⟩ (cM_none l dC dI bd cs a z) (cq_cw 1 hts zm_R_none zl_R_84 zs_R_none ze_R_none zz_R rfl rfl (by decide +kernel) ⟨Nat.le_of_ble_eq_true rfl, Nat.le_of_ble_eq_true rfl⟩) hK hP hD hS hA 0 rfl rfl rfl hl.1 rfl (Nat.le_of_ble_eq_true rfl) zd_R_suspect_10 ⟨Nat.zero_le _, Nat.zero_le _⟩ (fun r0 u H locs hu hP hD hS => ?_)
    obtain ⟨hr0, hue⟩ := hu
    subst hr0
    rw [hue] at hP hD
    clear hue
    refine cn_if_ne (tgt := 30) hx hb zd_R_suspect_13 (by decide) (mq_none_2 _ _) (fun c2 => ?_) (fun c2 => ?_)
    · refine lv_iconst (v := nI 0) hx hb zd_R_suspect_30 (by decide) ?_
      have hst : mq_suspect a (nI p) z y = ((nI 0), a) := by simp only [mq_suspect, cq_id_nI hp hB20, mq_none_1 c2]
      exact cq_ret (u := a) hx hb hrt ⟨_, rfl, rfl⟩ hlocks hK hP hD hS hst.symm zd_R_suspect_31
    · obtain ⟨q, hq, rfl⟩ := mq_none_0 hB20 c2
      refine lv_iload_n hx hb zd_R_suspect_16 rfl (lv_at hl 1 rfl) ?_
      refine lv_iload_n hx hb zd_R_suspect_17 rfl (lv_at hl 2 rfl) ?_
      refine cn_icmp_eq (tgt := 30) hx hb zd_R_suspect_18 (by decide) (by omega) (by omega) (fun c3 => ?_) (fun c3 => ?_)
      · refine lv_iconst (v := nI 0) hx hb zd_R_suspect_30 (by decide) ?_
        have hst : mq_suspect a (nI p) (nI q) y = ((nI 0), a) := by simp only [mq_suspect, cq_id_nI hp hB20, cq_id_nI hq hB20]; rw [if_pos c3]
        exact cq_ret (u := a) hx hb hrt ⟨_, rfl, rfl⟩ hlocks hK hP hD hS hst.symm zd_R_suspect_31
      · refine lv_aload_n hx hb zd_R_suspect_21 rfl (lv_at hl 0 rfl) ?_
        refine va_get (D := (dC, dI)) (ci := 4) (v := .ref (bd 12)) (C := zR_R) (T := zT_R) (N := 24) hx hb hts zi_R hown hK hP 0 rfl rfl 14 (by decide) (hts _ zf_R_43) (fun _ h9 => h9) rfl zd_R_suspect_22 ?_
        refine lv_iload_n hx hb zd_R_suspect_25 rfl (lv_at hl 1 rfl) ?_
        refine cn_zald (f := a 11) hx hb hK hP 12 11 rfl rfl (by omega) (by decide) zd_R_suspect_26 ?_
        refine cn_if_eq (tgt := 32) hx hb zd_R_suspect_27 (by decide) (hB _ _ (by decide)) (fun c4 => ?_) (fun c4 => ?_)
        · have hp5 := (hpp p (by omega)).2.2.1
          refine lv_aload_n hx hb zd_R_suspect_32 rfl (lv_at hl 0 rfl) ?_
          refine va_get (D := (dC, dI)) (ci := 4) (v := .ref (bd 6)) (C := zR_R) (T := zT_R) (N := 24) hx hb hts zi_R hown hK hP 0 rfl rfl 8 (by decide) (hts _ zf_R_25) (fun _ h9 => h9) rfl zd_R_suspect_33 ?_
          refine lv_iload_n hx hb zd_R_suspect_36 rfl (lv_at hl 1 rfl) ?_
          refine lv_iload_n hx hb zd_R_suspect_37 rfl (lv_at hl 3 rfl) ?_
          refine cn_if_eq (tgt := 54) hx hb zd_R_suspect_38 (by decide) (by omega) (fun c5 => ?_) (fun c5 => ?_)
          · refine lv_aload_n hx hb zd_R_suspect_54 rfl (lv_at hl 0 rfl) ?_
            refine va_get (D := (dC, dI)) (ci := 4) (v := .ref (bd 6)) (C := zR_R) (T := zT_R) (N := 24) hx hb hts zi_R hown hK hP 0 rfl rfl 8 (by decide) (hts _ zf_R_25) (fun _ h9 => h9) rfl zd_R_suspect_55 ?_
            refine lv_iload_n hx hb zd_R_suspect_58 rfl (lv_at hl 1 rfl) ?_
            refine cn_iald (f := a 5) hx hb hK hP 6 5 rfl rfl (by omega) (by decide) zd_R_suspect_59 ?_
            refine lv_iconst (v := nI 1) hx hb zd_R_suspect_60 (by decide) ?_
            refine lv_iload_n hx hb zd_R_suspect_61 rfl (lv_at hl 2 rfl) ?_
            refine cn_ishl1 hx hb zd_R_suspect_62 (by omega) ?_
            refine lv_iconst (v := -1) hx hb zd_R_suspect_63 (by decide) ?_
            refine lv_ixor hx hb zd_R_suspect_64 ?_
            refine cn_andn hx hb zd_R_suspect_65 ?_
            refine cn_iast (f := a 5) hx hb hK hP hD hS 6 5 rfl rfl (by omega) (by decide) zd_R_suspect_66 (fun H locs hP hD hS => ?_)
            have hP : va_P (dC, dI) cq_cl (wM bd cs (cq_p a 5 p (cq_an (a 5 p) (2 ^ q)))) H := hP
            have hD : va_D A (wM bd cs (cq_p a 5 p (cq_an (a 5 p) (2 ^ q)))) := hD
            refine lv_aload_n hx hb zd_R_suspect_67 rfl (lv_at hl 0 rfl) ?_
            refine lv_iload_n hx hb zd_R_suspect_68 rfl (lv_at hl 1 rfl) ?_
            have hse : (cq_p a 5 p (cq_an (a 5 p) (2 ^ q))) = mq_s0 a p q y := by unfold mq_s0; rw [if_pos c5]
            rw [hse] at hP hD
            refine cq_callV (C := zR_R) (As := [.int (nI p)]) (rest := []) ⟨hx, hb, hml, hown, hts⟩ (cM_goOn l dC dI bd cs ((mq_s0 a p q y)) p (hgo p q (cq_id_nI hp hB20) (cq_id_nI hq hB20) c3 c4)) (cq_cw 1 hts zm_R_goOn zl_R_146 zs_R_goOn ze_R_goOn zz_R rfl rfl (by decide +kernel) ⟨Nat.le_of_ble_eq_true rfl, Nat.le_of_ble_eq_true rfl⟩) hK hP hD hS hA 0 rfl rfl rfl hl.1 rfl (Nat.le_of_ble_eq_true rfl) zd_R_suspect_69 ⟨Nat.zero_le _, Nat.zero_le _⟩ (fun u H locs hu hP hD hS => ?_)
            rw [show u = _ from hu] at hP hD
            clear hu
            refine lv_iconst (v := nI 1) hx hb zd_R_suspect_72 (by decide) ?_
            have hst : mq_suspect a (nI p) (nI q) y = ((nI 1), (mq_go p 1000 (mq_s0 a p q y))) := by simp only [mq_suspect, cq_id_nI hp hB20, cq_id_nI hq hB20]; rw [if_neg c3, if_pos c4]
            exact cq_ret (u := (mq_go p 1000 (mq_s0 a p q y))) hx hb hrt ⟨_, rfl, rfl⟩ hlocks hK hP hD hS hst.symm zd_R_suspect_73
          · refine lv_aload_n hx hb zd_R_suspect_41 rfl (lv_at hl 0 rfl) ?_
            refine va_get (D := (dC, dI)) (ci := 4) (v := .ref (bd 6)) (C := zR_R) (T := zT_R) (N := 24) hx hb hts zi_R hown hK hP 0 rfl rfl 8 (by decide) (hts _ zf_R_25) (fun _ h9 => h9) rfl zd_R_suspect_42 ?_
            refine lv_iload_n hx hb zd_R_suspect_45 rfl (lv_at hl 1 rfl) ?_
            refine cn_iald (f := a 5) hx hb hK hP 6 5 rfl rfl (by omega) (by decide) zd_R_suspect_46 ?_
            refine lv_iconst (v := nI 1) hx hb zd_R_suspect_47 (by decide) ?_
            refine lv_iload_n hx hb zd_R_suspect_48 rfl (lv_at hl 2 rfl) ?_
            refine cn_ishl1 hx hb zd_R_suspect_49 (by omega) ?_
            refine cn_ior hx hb zd_R_suspect_50 ?_
            refine lv_goto (tgt := 66) hx hb zd_R_suspect_51 (by decide) ?_
            refine cn_iast (f := a 5) hx hb hK hP hD hS 6 5 rfl rfl (by omega) (by decide) zd_R_suspect_66 (fun H locs hP hD hS => ?_)
            have hP : va_P (dC, dI) cq_cl (wM bd cs (cq_p a 5 p ((a 5 p) ||| (2 ^ q)))) H := hP
            have hD : va_D A (wM bd cs (cq_p a 5 p ((a 5 p) ||| (2 ^ q)))) := hD
            refine lv_aload_n hx hb zd_R_suspect_67 rfl (lv_at hl 0 rfl) ?_
            refine lv_iload_n hx hb zd_R_suspect_68 rfl (lv_at hl 1 rfl) ?_
            have hse : (cq_p a 5 p ((a 5 p) ||| (2 ^ q))) = mq_s0 a p q y := by unfold mq_s0; rw [if_neg c5]
            rw [hse] at hP hD
            refine cq_callV (C := zR_R) (As := [.int (nI p)]) (rest := []) ⟨hx, hb, hml, hown, hts⟩ (cM_goOn l dC dI bd cs ((mq_s0 a p q y)) p (hgo p q (cq_id_nI hp hB20) (cq_id_nI hq hB20) c3 c4)) (cq_cw 1 hts zm_R_goOn zl_R_146 zs_R_goOn ze_R_goOn zz_R rfl rfl (by decide +kernel) ⟨Nat.le_of_ble_eq_true rfl, Nat.le_of_ble_eq_true rfl⟩) hK hP hD hS hA 0 rfl rfl rfl hl.1 rfl (Nat.le_of_ble_eq_true rfl) zd_R_suspect_69 ⟨Nat.zero_le _, Nat.zero_le _⟩ (fun u H locs hu hP hD hS => ?_)
            rw [show u = _ from hu] at hP hD
            clear hu
            refine lv_iconst (v := nI 1) hx hb zd_R_suspect_72 (by decide) ?_
            have hst : mq_suspect a (nI p) (nI q) y = ((nI 1), (mq_go p 1000 (mq_s0 a p q y))) := by simp only [mq_suspect, cq_id_nI hp hB20, cq_id_nI hq hB20]; rw [if_neg c3, if_pos c4]
            exact cq_ret (u := (mq_go p 1000 (mq_s0 a p q y))) hx hb hrt ⟨_, rfl, rfl⟩ hlocks hK hP hD hS hst.symm zd_R_suspect_73
        · refine lv_iconst (v := nI 0) hx hb zd_R_suspect_30 (by decide) ?_
          have hst : mq_suspect a (nI p) (nI q) y = ((nI 0), a) := by simp only [mq_suspect, cq_id_nI hp hB20, cq_id_nI hq hB20]; rw [if_neg c3, if_neg c4]
          exact cq_ret (u := a) hx hb hrt ⟨_, rfl, rfl⟩ hlocks hK hP hD hS hst.symm zd_R_suspect_31

