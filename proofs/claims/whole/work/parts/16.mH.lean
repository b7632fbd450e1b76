set_option maxHeartbeats 4000000 in
set_option maxRecDepth 100000 in
theorem cM_crash (l : Launch) (dC : Nat → ClassId) (dI : Nat → Nat → Nat) (bd : Nat → Nat) (cs : Nat → ClassId) (a : cq_S) (hbas : mq_bas a) (x y : Int32) : cq_CI l zy_R_crash zw_R_crash ({ frames := 1, cells := 0, slots := 0, locals := 21 }) (dC, dI) cq_cl (wM bd cs) (tysM cs) a [.ref (bd 0), .int x, .int y] (fun r u => (r, u) = mq_crash a x y) := by
  refine cq_CI.of (cc := zc_R_crash) (maxL := 5) (ret := (some .boolean)) (by decide) rfl (Nat.le_of_ble_eq_true rfl) ?_
  intro pr ev s mt args below meth cd A ls hx hb hrt hts hown hlocks hml hP hK hD hA hS hl
  have hown : s.vm.findClass zR_R = some mt.cls := hown
  have hl : lv_has ls 5 [(0, .ref (bd 0)), (1, .int x), (2, .int y)] := hl
  obtain ⟨hB, hn3, hn5, hc, hmd, hpp, hlg, hgn⟩ := hbas
  have hB20 := hB 20 0 (by decide)
  refine lv_aload_n hx hb zd_R_crash_0 rfl (lv_at hl 0 rfl) ?_
  refine lv_iload_n hx hb zd_R_crash_1 rfl (lv_at hl 1 rfl) ?_
  refine cq_callI (C := zR_R) (As := [.int x]) (rest := []) ⟨hx, hb, hml, hown, hts⟩ (cM_none l dC dI bd cs a x) (cq_cw 1 hts zm_R_none zl_R_84 zs_R_none ze_R_none zz_R rfl rfl (by decide +kernel) ⟨Nat.le_of_ble_eq_true rfl, Nat.le_of_ble_eq_true rfl⟩) hK hP hD hS hA 0 rfl rfl rfl hl.1 rfl (Nat.le_of_ble_eq_true rfl) zd_R_crash_2 ⟨Nat.zero_le _, Nat.zero_le _⟩ (fun r0 u H locs hu hP hD hS => ?_)
  obtain ⟨hr0, hue⟩ := hu
  subst hr0
  rw [hue] at hP hD
  clear hue
  refine cn_if_ne (tgt := 42) hx hb zd_R_crash_5 (by decide) (mq_none_2 _ _) (fun c1 => ?_) (fun c1 => ?_)
  · refine lv_iconst (v := nI 0) hx hb zd_R_crash_42 (by decide) ?_
    have hst : mq_crash a x y = (nI 0, a) := by simp only [mq_crash, mq_none_1 c1]
    exact cq_ret (u := a) hx hb hrt ⟨_, rfl, rfl⟩ hlocks hK hP hD hS hst.symm zd_R_crash_43
  · obtain ⟨p, hp, rfl⟩ := mq_none_0 hB20 c1
    refine lv_aload_n hx hb zd_R_crash_8 rfl (lv_at hl 0 rfl) ?_
    refine va_get (D := (dC, dI)) (ci := 4) (v := .ref (bd 12)) (C := zR_R) (T := zT_R) (N := 24) hx hb hts zi_R hown hK hP 0 rfl rfl 14 (by decide) (hts _ zf_R_43) (fun _ h9 => h9) rfl zd_R_crash_9 ?_
    refine lv_iload_n hx hb zd_R_crash_12 rfl (lv_at hl 1 rfl) ?_
    refine cn_zald (f := a 11) hx hb hK hP 12 11 rfl rfl (by omega) (by decide) zd_R_crash_13 ?_
    refine cn_if_ne (tgt := 42) hx hb zd_R_crash_14 (by decide) (hB _ _ (by decide)) (fun c2 => ?_) (fun c2 => ?_)
    · refine lv_iconst (v := nI 0) hx hb zd_R_crash_42 (by decide) ?_
      have hst : mq_crash a (nI p) y = (nI 0, a) := by simp only [mq_crash, cq_id_nI hp hB20]; cases cq_id 21 y <;> simp [c2]
      exact cq_ret (u := a) hx hb hrt ⟨_, rfl, rfl⟩ hlocks hK hP hD hS hst.symm zd_R_crash_43
    · refine lv_aload_n hx hb zd_R_crash_17 rfl (lv_at hl 0 rfl) ?_
      refine va_get (D := (dC, dI)) (ci := 4) (v := .int (nI (a 22 0))) (C := zR_R) (T := zT_R) (N := 24) hx hb hts zi_R hown hK hP 0 rfl rfl 2 (by decide) (hts _ zf_R_149) (fun _ h9 => h9) rfl zd_R_crash_18 ?_
      refine lv_aload_n hx hb zd_R_crash_21 rfl (lv_at hl 0 rfl) ?_
      refine va_get (D := (dC, dI)) (ci := 4) (v := .int (nI (a 20 0))) (C := zR_R) (T := zT_R) (N := 24) hx hb hts zi_R hown hK hP 0 rfl rfl 0 (by decide) (hts _ zf_R_73) (fun _ h9 => h9) rfl zd_R_crash_22 ?_
      refine lv_iconst (v := nI 1) hx hb zd_R_crash_25 (by decide) ?_
      refine cn_isub hx hb zd_R_crash_26 (by omega) ?_
      refine lv_iconst (v := nI 2) hx hb zd_R_crash_27 (by decide) ?_
      refine cn_idiv hx hb zd_R_crash_28 (by omega) (by omega) (by omega) ?_
      refine cn_icmp_eq (tgt := 42) hx hb zd_R_crash_29 (by decide) (hB _ _ (by decide)) (by omega) (fun c3 => ?_) (fun c3 => ?_)
      · refine lv_iconst (v := nI 0) hx hb zd_R_crash_42 (by decide) ?_
        have hst : mq_crash a (nI p) y = (nI 0, a) := by simp only [mq_crash, cq_id_nI hp hB20]; cases cq_id 21 y <;> simp [c3]
        exact cq_ret (u := a) hx hb hrt ⟨_, rfl, rfl⟩ hlocks hK hP hD hS hst.symm zd_R_crash_43
      · refine lv_iload_n hx hb zd_R_crash_32 rfl (lv_at hl 2 rfl) ?_
        refine lv_if_lt (tgt := 42) hx hb zd_R_crash_33 (by decide) (fun c4 => ?_) (fun c4 => ?_)
        · refine lv_iconst (v := nI 0) hx hb zd_R_crash_42 (by decide) ?_
          have hst : mq_crash a (nI p) y = (nI 0, a) := by simp only [mq_crash, cq_id_nI hp hB20, cq_id_neg c4]
          exact cq_ret (u := a) hx hb hrt ⟨_, rfl, rfl⟩ hlocks hK hP hD hS hst.symm zd_R_crash_43
        · refine lv_iload_n hx hb zd_R_crash_36 rfl (lv_at hl 2 rfl) ?_
          refine lv_bipush (v := nI 20) hx hb zd_R_crash_37 (by decide) ?_
          refine lv_icmp_le (tgt := 44) hx hb zd_R_crash_39 (by decide) (fun c5 => ?_) (fun c5 => ?_)
          · obtain ⟨m0, hm0, rfl⟩ := cq_id_le c4 c5 (by omega)
            refine lv_aload_n hx hb zd_R_crash_44 rfl (lv_at hl 0 rfl) ?_
            refine va_get (D := (dC, dI)) (ci := 4) (v := .ref (bd 12)) (C := zR_R) (T := zT_R) (N := 24) hx hb hts zi_R hown hK hP 0 rfl rfl 14 (by decide) (hts _ zf_R_43) (fun _ h9 => h9) rfl zd_R_crash_45 ?_
            refine lv_iload_n hx hb zd_R_crash_48 rfl (lv_at hl 1 rfl) ?_
            refine lv_iconst (v := nI 1) hx hb zd_R_crash_49 (by decide) ?_
            refine cn_zast (f := a 11) hx hb hK hP hD hS 12 11 rfl rfl (by omega) (by decide) (by omega) zd_R_crash_50 (fun H locs hP hD hS => ?_)
            have hP : va_P (dC, dI) cq_cl (wM bd cs (cq_p a 11 p 1)) H := hP
            have hD : va_D A (wM bd cs (cq_p a 11 p 1)) := hD
            refine lv_aload_n hx hb zd_R_crash_51 rfl (lv_at hl 0 rfl) ?_
            refine lv_dup hx hb zd_R_crash_52 rfl ?_
            refine va_get (D := (dC, dI)) (ci := 4) (v := .int (nI (a 22 0))) (C := zR_R) (T := zT_R) (N := 24) hx hb hts zi_R hown hK hP 0 rfl rfl 2 (by decide) (hts _ zf_R_149) (fun _ h9 => h9) rfl zd_R_crash_53 ?_
            refine lv_iconst (v := nI 1) hx hb zd_R_crash_56 (by decide) ?_
            refine cn_iadd hx hb zd_R_crash_57 ?_
            refine va_put (D := (dC, dI)) (ci := 4) (v := .int (nI ((a 22 0) + 1))) (ty := .int) (C := zR_R) (T := zT_R) (N := 24) hx hb hts zi_R zt_R zo_R zn_R hown hK hP hD hS 0 rfl rfl 2 (by decide) (hts _ zf_R_149) (fun _ h9 => h9) rfl (by decide +kernel) rfl rfl (Nat.le_of_ble_eq_true rfl) zd_R_crash_58 (fun H locs hP hD hS => ?_)
            have hP : va_P (dC, dI) cq_cl (wM bd cs (cq_p (cq_p a 11 p 1) 22 0 ((a 22 0) + 1))) H := hP
            have hD : va_D A (wM bd cs (cq_p (cq_p a 11 p 1) 22 0 ((a 22 0) + 1))) := hD
            refine lv_iload_n hx hb zd_R_crash_61 rfl (lv_at hl 2 rfl) ?_
            refine lv_istore_n hx hb zd_R_crash_62 rfl hl (by decide) rfl (fun ls hl => ?_)
            have hl : lv_has ls 5 [(3, .int (nI m0)), (0, .ref (bd 0)), (1, .int (nI p)), (2, .int (nI m0))] := hl
            refine lv_aload_n hx hb zd_R_crash_63 rfl (lv_at hl 1 rfl) ?_
            refine va_get (D := (dC, dI)) (ci := 4) (v := .int (nI (a 23 0))) (C := zR_R) (T := zT_R) (N := 24) hx hb hts zi_R hown hK hP 0 rfl rfl 15 (by decide) (hts _ zf_R_77) (fun _ h9 => h9) rfl zd_R_crash_64 ?_
            refine lv_iconst (v := nI 1) hx hb zd_R_crash_67 (by decide) ?_
            refine lv_isub hx hb zd_R_crash_68 ?_
            refine cn_top (cq_dn_0 _) ?_
            refine lv_istore hx hb zd_R_crash_69 hl (by decide) rfl (fun ls hl => ?_)
            have hl : lv_has ls 5 [(4, .int (cq_dn (a 23 0))), (3, .int (nI m0)), (0, .ref (bd 0)), (1, .int (nI p)), (2, .int (nI m0))] := hl
            have LOOP : ∀ (d m : Nat) (b : cq_S) (H : Heap) (locs : List Loc) (ls : Array Slot), d ≤ 1500 → m ≤ 20 → cq_B b → va_P (dC, dI) cq_cl (wM bd cs b) H → va_D A (wM bd cs b) → va_S A s.heap H locs → lv_has ls 5 [(4, .int (cq_dn d)), (3, .int (nI m)), (0, .ref (bd 0)), (1, .int (nI p)), (2, .int (nI m0))] → (nI 1, mq_lose p d m b) = mq_crash a (nI p) (nI m0) → W pr l ev ({ frames := 1, cells := 0, slots := 0, locals := 21 }) s mt args below meth cd H locs 0 0 (MQ below (va_Qi (fun r u => (r, u) = mq_crash a (nI p) (nI m0)) (cq_at (dC, dI) cq_cl (wM bd cs) (tysM cs) A) A) args s 0 0 A) (F0 mt 71 ls []) := by
              intro d
              induction d with
              | zero =>
                intro m b H locs ls hd hm20 hBb hP hD hS hl hfin
                refine lv_iload hx hb zd_R_crash_71 (lv_at hl 0 rfl) ?_
                refine lv_if_lt (tgt := 118) hx hb zd_R_crash_73 (by decide) (fun c1 => ?_) (fun c1 => ?_)
                · refine lv_iconst (v := nI 1) hx hb zd_R_crash_118 (by decide) ?_
                  exact cq_ret (u := b) hx hb hrt ⟨_, rfl, rfl⟩ hlocks hK hP hD hS hfin zd_R_crash_119
                · exact absurd (by decide) c1
              | succ d ih =>
                intro m b H locs ls hd hm20 hBb hP hD hS hl hfin
                have hl : lv_has ls 5 [(4, .int (nI d)), (3, .int (nI m)), (0, .ref (bd 0)), (1, .int (nI p)), (2, .int (nI m0))] := hl
                refine lv_iload hx hb zd_R_crash_71 (lv_at hl 0 rfl) ?_
                refine lv_if_lt (tgt := 118) hx hb zd_R_crash_73 (by decide) (fun c1 => ?_) (fun c1 => ?_)
                · exact absurd c1 (nI_pos (by omega))
                · refine lv_iload_n hx hb zd_R_crash_76 rfl (lv_at hl 1 rfl) ?_
                  refine lv_if_le (tgt := 118) hx hb zd_R_crash_77 (by decide) (fun c2 => ?_) (fun c2 => ?_)
                  · have hm1 : m = 0 := Decidable.byContradiction (fun hz => nI_nle (by omega) (by omega) c2)
                    refine lv_iconst (v := nI 1) hx hb zd_R_crash_118 (by decide) ?_
                    exact cq_ret (u := b) hx hb hrt ⟨_, rfl, rfl⟩ hlocks hK hP hD hS (by rw [mq_lose, if_pos hm1] at hfin; exact hfin) zd_R_crash_119
                  · have hm1 : ¬ m = 0 := fun hz => c2 (by rw [hz]; decide)
                    refine lv_aload_n hx hb zd_R_crash_80 rfl (lv_at hl 2 rfl) ?_
                    refine va_get (D := (dC, dI)) (ci := 4) (v := .ref (bd 20)) (C := zR_R) (T := zT_R) (N := 24) hx hb hts zi_R hown hK hP 0 rfl rfl 23 (by decide) (hts _ zf_R_70) (fun _ h9 => h9) rfl zd_R_crash_81 ?_
                    refine lv_iload hx hb zd_R_crash_84 (lv_at hl 0 rfl) ?_
                    refine cn_bald (f := b 19) hx hb hK hP 20 19 rfl rfl (by omega) (by decide) zd_R_crash_86 ?_
                    refine cn_if_ne (tgt := 112) hx hb zd_R_crash_87 (by decide) (hBb _ _ (by decide)) (fun c3 => ?_) (fun c3 => ?_)
                    · refine lv_iinc (k := 0) (v := (cq_dn d)) hx hb zd_R_crash_112 hl rfl (cq_dn_1 d) (by decide) rfl (fun ls hl => ?_)
                      have hl : lv_has ls 5 [(4, .int (cq_dn d)), (3, .int (nI m)), (0, .ref (bd 0)), (1, .int (nI p)), (2, .int (nI m0))] := hl
                      refine lv_goto (tgt := 71) hx hb zd_R_crash_115 (by decide) ?_
                      exact ih _ _ H locs ls (by omega) (by omega) hBb hP hD hS (lv_sub hl [0, 1, 2, 3, 4] rfl) (by rw [mq_lose, if_neg hm1, if_neg (by omega)] at hfin; exact hfin)
                    · refine lv_aload_n hx hb zd_R_crash_90 rfl (lv_at hl 2 rfl) ?_
                      refine va_get (D := (dC, dI)) (ci := 4) (v := .ref (bd 14)) (C := zR_R) (T := zT_R) (N := 24) hx hb hts zi_R hown hK hP 0 rfl rfl 17 (by decide) (hts _ zf_R_51) (fun _ h9 => h9) rfl zd_R_crash_91 ?_
                      refine lv_iload hx hb zd_R_crash_94 (lv_at hl 0 rfl) ?_
                      refine cn_bald (f := b 13) hx hb hK hP 14 13 rfl rfl (by omega) (by decide) zd_R_crash_96 ?_
                      refine lv_iload_n hx hb zd_R_crash_97 rfl (lv_at hl 3 rfl) ?_
                      refine cn_icmp_ne (tgt := 112) hx hb zd_R_crash_98 (by decide) (hBb _ _ (by decide)) (by omega) (fun c4 => ?_) (fun c4 => ?_)
                      · refine lv_iinc (k := 0) (v := (cq_dn d)) hx hb zd_R_crash_112 hl rfl (cq_dn_1 d) (by decide) rfl (fun ls hl => ?_)
                        have hl : lv_has ls 5 [(4, .int (cq_dn d)), (3, .int (nI m)), (0, .ref (bd 0)), (1, .int (nI p)), (2, .int (nI m0))] := hl
                        refine lv_goto (tgt := 71) hx hb zd_R_crash_115 (by decide) ?_
                        exact ih _ _ H locs ls (by omega) (by omega) hBb hP hD hS (lv_sub hl [0, 1, 2, 3, 4] rfl) (by rw [mq_lose, if_neg hm1, if_neg (by omega)] at hfin; exact hfin)
                      · refine lv_aload_n hx hb zd_R_crash_101 rfl (lv_at hl 2 rfl) ?_
                        refine va_get (D := (dC, dI)) (ci := 4) (v := .ref (bd 20)) (C := zR_R) (T := zT_R) (N := 24) hx hb hts zi_R hown hK hP 0 rfl rfl 23 (by decide) (hts _ zf_R_70) (fun _ h9 => h9) rfl zd_R_crash_102 ?_
                        refine lv_iload hx hb zd_R_crash_105 (lv_at hl 0 rfl) ?_
                        refine lv_iconst (v := nI 2) hx hb zd_R_crash_107 (by decide) ?_
                        refine cn_bast (f := b 19) hx hb hK hP hD hS 20 19 rfl rfl (by omega) (by decide) (by omega) zd_R_crash_108 (fun H locs hP hD hS => ?_)
                        have hP : va_P (dC, dI) cq_cl (wM bd cs (cq_p b 19 d 2)) H := hP
                        have hD : va_D A (wM bd cs (cq_p b 19 d 2)) := hD
                        refine lv_iinc (k := 1) (v := (nI (m - 1))) hx hb zd_R_crash_109 hl rfl (cn_dec c2) (by decide) rfl (fun ls hl => ?_)
                        have hl : lv_has ls 5 [(3, .int (nI (m - 1))), (4, .int (nI d)), (0, .ref (bd 0)), (1, .int (nI p)), (2, .int (nI m0))] := hl
                        refine lv_iinc (k := 1) (v := (cq_dn d)) hx hb zd_R_crash_112 hl rfl (cq_dn_1 d) (by decide) rfl (fun ls hl => ?_)
                        have hl : lv_has ls 5 [(4, .int (cq_dn d)), (3, .int (nI (m - 1))), (0, .ref (bd 0)), (1, .int (nI p)), (2, .int (nI m0))] := hl
                        refine lv_goto (tgt := 71) hx hb zd_R_crash_115 (by decide) ?_
                        exact ih _ _ H locs ls (by omega) (by omega) (hBb.put (by decide)) hP hD hS (lv_sub hl [0, 1, 2, 3, 4] rfl) (by rw [mq_lose, if_neg hm1, if_pos ⟨c3, c4⟩] at hfin; exact hfin)
            have hst : mq_crash a (nI p) (nI m0) = (nI 1, mq_lose p (a 23 0) m0 (cq_p (cq_p a 11 p 1) 22 0 (a 22 0 + 1))) := by simp only [mq_crash, cq_id_nI hp hB20, cq_id_nI hm0 (show 21 < 2147483648 by omega)]; rw [if_pos ⟨c2, c3⟩]
            exact LOOP (a 23 0) m0 _ _ _ ls (by omega) (by omega) ((hB.put (by decide)).put (by omega)) hP hD hS (lv_sub hl [0, 1, 2, 3, 4] rfl) hst.symm
          · refine lv_iconst (v := nI 0) hx hb zd_R_crash_42 (by decide) ?_
            have hst : mq_crash a (nI p) y = (nI 0, a) := by simp only [mq_crash, cq_id_nI hp hB20, cq_id_len c5 (by omega)]
            exact cq_ret (u := a) hx hb hrt ⟨_, rfl, rfl⟩ hlocks hK hP hD hS hst.symm zd_R_crash_43

