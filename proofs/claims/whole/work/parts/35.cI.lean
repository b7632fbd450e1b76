set_option maxHeartbeats 4000000 in
set_option maxRecDepth 100000 in
theorem cC_C_suspect (l : Launch) (dC : Nat → ClassId) (dI : Nat → Nat → Nat) (n : Nat) (ad : Nat → Nat) (cI cA : ClassId) (a : cq_S) (hbas : gq_bas n a) (x z : Int32) (y : Nat) (hy : y < 2147483648) (hgo : ∀ p q, cq_id (a 20 0) x = some p → cq_id (a 20 0) z = some q → ¬ p = q → a 11 p = 0 → ∀ d, gq_sok n (gq_go p d (mq_s0 a p q y)) p) : cq_CI l zy_C_suspect zw_C_suspect ({ frames := 6, cells := 0, slots := 0, locals := 145 }) (dC, dI) cq_cl (wC n ad cI cA) (tysC cI cA) a [.ref (ad 0), .int x, .int z, .int (nI y)] (fun r0 u => (r0, u) = gq_suspect a x z y) := by
  refine cq_CI.of (cc := zc_C_suspect) (maxL := 4) (ret := (some .boolean)) (by decide) rfl (Nat.le_of_ble_eq_true rfl) ?_
  intro pr ev s mt args below meth cd A ls hx hb hrt hts hown hlocks hml hP hK hD hA hS hl
  have hown : s.vm.findClass zR_C = some mt.cls := hown
  have hl : lv_has ls 4 [(0, .ref (ad 0)), (1, .int x), (2, .int z), (3, .int (nI y))] := hl
  obtain ⟨hB, hn3, hn5, h20, hcr, hmde, hgn, hpp, hvd⟩ := hbas
  have hB20 : a 20 0 < 2147483648 := by omega
  refine lv_aload_n hx hb zd_C_suspect_0 rfl (lv_at hl 0 rfl) ?_
  refine lv_iload_n hx hb zd_C_suspect_1 rfl (lv_at hl 1 rfl) ?_
  refine cq_callI (C := zR_C) (As := [.int x]) (rest := []) ⟨hx, hb, hml, hown, hts⟩ (cC_C_isProcess l dC dI n ad cI cA a x hn3) (cq_cw 1 hts zm_C_isProcess zl_C_45 zs_C_isProcess ze_C_isProcess zz_C rfl rfl (by decide +kernel) ⟨Nat.le_of_ble_eq_true rfl, Nat.le_of_ble_eq_true rfl⟩) hK hP hD hS hA 0 (wC_at 0 (by omega)) rfl rfl hl.1 rfl (Nat.le_of_ble_eq_true rfl) zd_C_suspect_2 ⟨Nat.zero_le _, Nat.zero_le _⟩ (fun r0 u H locs hu hP hD hS => ?_)
  obtain ⟨hr0, hue⟩ := hu
  subst hr0
  rw [hue] at hP hD
  clear hue
  refine cn_if_eq (tgt := 33) hx hb zd_C_suspect_5 (by decide) (gq_is_2 _ _) (fun c1 => ?_) (fun c1 => ?_)
  · refine lv_iconst (v := nI 0) hx hb zd_C_suspect_33 (by decide) ?_
    have hst : gq_suspect a x z y = ((nI 0), a) := by simp only [gq_suspect, gq_is_0 c1]
    exact cq_ret (u := a) hx hb hrt ⟨_, rfl, rfl⟩ hlocks hK hP hD hS hst.symm zd_C_suspect_34
  · obtain ⟨p, hp0, rfl⟩ := gq_is_1 hB20 c1
    have hp : p < n := by omega
    refine lv_aload_n hx hb zd_C_suspect_8 rfl (lv_at hl 0 rfl) ?_
    refine lv_iload_n hx hb zd_C_suspect_9 rfl (lv_at hl 2 rfl) ?_
    refine cq_callI (C := zR_C) (As := [.int z]) (rest := []) ⟨hx, hb, hml, hown, hts⟩ (cC_C_isProcess l dC dI n ad cI cA a z hn3) (cq_cw 1 hts zm_C_isProcess zl_C_45 zs_C_isProcess ze_C_isProcess zz_C rfl rfl (by decide +kernel) ⟨Nat.le_of_ble_eq_true rfl, Nat.le_of_ble_eq_true rfl⟩) hK hP hD hS hA 0 (wC_at 0 (by omega)) rfl rfl hl.1 rfl (Nat.le_of_ble_eq_true rfl) zd_C_suspect_10 ⟨Nat.zero_le _, Nat.zero_le _⟩ (fun r0 u H locs hu hP hD hS => ?_)
    obtain ⟨hr0, hue⟩ := hu
    subst hr0
    rw [hue] at hP hD
    clear hue
    refine cn_if_eq (tgt := 33) hx hb zd_C_suspect_13 (by decide) (gq_is_2 _ _) (fun c2 => ?_) (fun c2 => ?_)
    · refine lv_iconst (v := nI 0) hx hb zd_C_suspect_33 (by decide) ?_
      have hst : gq_suspect a (nI p) z y = ((nI 0), a) := by simp only [gq_suspect, cq_id_nI hp0 hB20, gq_is_0 c2]
      exact cq_ret (u := a) hx hb hrt ⟨_, rfl, rfl⟩ hlocks hK hP hD hS hst.symm zd_C_suspect_34
    · obtain ⟨q, hq0, rfl⟩ := gq_is_1 hB20 c2
      have hq : q < n := by omega
      refine lv_iload_n hx hb zd_C_suspect_16 rfl (lv_at hl 1 rfl) ?_
      refine lv_iload_n hx hb zd_C_suspect_17 rfl (lv_at hl 2 rfl) ?_
      refine cn_icmp_eq (tgt := 33) hx hb zd_C_suspect_18 (by decide) (by omega) (by omega) (fun c3 => ?_) (fun c3 => ?_)
      · refine lv_iconst (v := nI 0) hx hb zd_C_suspect_33 (by decide) ?_
        have hst : gq_suspect a (nI p) (nI q) y = ((nI 0), a) := by simp only [gq_suspect, cq_id_nI hp0 hB20, cq_id_nI hq0 hB20]; rw [if_pos c3]
        exact cq_ret (u := a) hx hb hrt ⟨_, rfl, rfl⟩ hlocks hK hP hD hS hst.symm zd_C_suspect_34
      · refine lv_aload_n hx hb zd_C_suspect_21 rfl (lv_at hl 0 rfl) ?_
        refine va_get (D := (dC, dI)) (ci := 0) (v := .ref (ad 1)) (C := zR_C) (T := zT_C) (N := 6) hx hb hts zi_C hown hK hP 0 (wC_at 0 (by omega)) rfl 1 (by decide) (hts _ zf_C_24) (fun _ h9 => h9) rfl zd_C_suspect_22 ?_
        refine lv_iload_n hx hb zd_C_suspect_25 rfl (lv_at hl 1 rfl) ?_
        refine cn_aald hx hb hK hP 1 1 (wC_at 1 (by omega)) rfl hp (by omega) zd_C_suspect_26 ?_
        refine va_get (D := (dC, dI)) (ci := 1) (v := .int (nI (a 11 p))) (C := zR_M) (T := zT_M) (N := 12) hx hb hts zi_M hown hK hP (9 + 3 * p) (wC_m hp) rfl 11 (by decide) (hts _ zf_C_49) (fun _ h9 => h9) rfl zd_C_suspect_27 ?_
        refine cn_if_eq (tgt := 35) hx hb zd_C_suspect_30 (by decide) (hB _ _ (by decide)) (fun c4 => ?_) (fun c4 => ?_)
        · refine lv_aload_n hx hb zd_C_suspect_35 rfl (lv_at hl 0 rfl) ?_
          refine va_get (D := (dC, dI)) (ci := 0) (v := .ref (ad 1)) (C := zR_C) (T := zT_C) (N := 6) hx hb hts zi_C hown hK hP 0 (wC_at 0 (by omega)) rfl 1 (by decide) (hts _ zf_C_24) (fun _ h9 => h9) rfl zd_C_suspect_36 ?_
          refine lv_iload_n hx hb zd_C_suspect_39 rfl (lv_at hl 1 rfl) ?_
          refine cn_aald hx hb hK hP 1 1 (wC_at 1 (by omega)) rfl hp (by omega) zd_C_suspect_40 ?_
          refine lv_iload_n hx hb zd_C_suspect_41 rfl (lv_at hl 2 rfl) ?_
          refine lv_iload_n hx hb zd_C_suspect_42 rfl (lv_at hl 3 rfl) ?_
          refine cq_callV (C := zR_M) (As := [.int (nI q), .int (nI y)]) (rest := []) ⟨hx, hb, hml, hown, hts⟩ (cC_M_setSuspicion l dC dI n ad cI cA a hB p hp q y (by omega) hy) (cq_cw 2 hts zm_M_setSuspicion zl_C_83 zs_M_setSuspicion ze_M_setSuspicion zz_M rfl rfl (by decide +kernel) ⟨Nat.le_of_ble_eq_true rfl, Nat.le_of_ble_eq_true rfl⟩) hK hP hD hS hA (9 + 3 * p) (wC_m hp) rfl rfl hl.1 rfl (Nat.le_of_ble_eq_true rfl) zd_C_suspect_43 ⟨Nat.zero_le _, Nat.zero_le _⟩ (fun u H locs hu hP hD hS => ?_)
          rw [show u = _ from hu] at hP hD
          clear hu
          refine lv_aload_n hx hb zd_C_suspect_46 rfl (lv_at hl 0 rfl) ?_
          refine lv_iload_n hx hb zd_C_suspect_47 rfl (lv_at hl 1 rfl) ?_
          refine cq_callV (C := zR_C) (As := [.int (nI p)]) (rest := []) ⟨hx, hb, hml, hown, hts⟩ (cC_C_goOn l dC dI n ad cI cA ((mq_s0 a p q y)) p hn3 (hgo p q (cq_id_nI hp0 hB20) (cq_id_nI hq0 hB20) c3 c4)) (cq_cw 1 hts zm_C_goOn zl_C_60 zs_C_goOn ze_C_goOn zz_C rfl rfl (by decide +kernel) ⟨Nat.le_of_ble_eq_true rfl, Nat.le_of_ble_eq_true rfl⟩) hK hP hD hS hA 0 (wC_at 0 (by omega)) rfl rfl hl.1 rfl (Nat.le_of_ble_eq_true rfl) zd_C_suspect_48 ⟨Nat.zero_le _, Nat.zero_le _⟩ (fun u H locs hu hP hD hS => ?_)
          rw [show u = _ from hu] at hP hD
          clear hu
          refine lv_iconst (v := nI 1) hx hb zd_C_suspect_51 (by decide) ?_
          have hst : gq_suspect a (nI p) (nI q) y = ((nI 1), (gq_go p 1000 (mq_s0 a p q y))) := by simp only [gq_suspect, cq_id_nI hp0 hB20, cq_id_nI hq0 hB20]; rw [if_neg c3, if_pos c4]
          exact cq_ret (u := (gq_go p 1000 (mq_s0 a p q y))) hx hb hrt ⟨_, rfl, rfl⟩ hlocks hK hP hD hS hst.symm zd_C_suspect_52
        · refine lv_iconst (v := nI 0) hx hb zd_C_suspect_33 (by decide) ?_
          have hst : gq_suspect a (nI p) (nI q) y = ((nI 0), a) := by simp only [gq_suspect, cq_id_nI hp0 hB20, cq_id_nI hq0 hB20]; rw [if_neg c3, if_neg c4]
          exact cq_ret (u := a) hx hb hrt ⟨_, rfl, rfl⟩ hlocks hK hP hD hS hst.symm zd_C_suspect_34

set_option maxHeartbeats 4000000 in
set_option maxRecDepth 100000 in
theorem cC_C_broadcast (l : Launch) (dC : Nat → ClassId) (dI : Nat → Nat → Nat) (n : Nat) (ad : Nat → Nat) (cI cA : ClassId) (a : cq_S) (hbas : gq_bas n a) (x : Int32) (hgo : ∀ p, cq_id (a 20 0) x = some p → a 11 p = 0 → ¬ a 21 0 = 8 → ∀ d, gq_sok n (gq_go p d (gq_b0 a p)) p) : cq_CI l zy_C_broadcast zw_C_broadcast ({ frames := 6, cells := 0, slots := 0, locals := 145 }) (dC, dI) cq_cl (wC n ad cI cA) (tysC cI cA) a [.ref (ad 0), .int x] (fun r0 u => (r0, u) = gq_bcast a x) := by
  refine cq_CI.of (cc := zc_C_broadcast) (maxL := 3) (ret := (some .int)) (by decide) rfl (Nat.le_of_ble_eq_true rfl) ?_
  intro pr ev s mt args below meth cd A ls hx hb hrt hts hown hlocks hml hP hK hD hA hS hl
  have hown : s.vm.findClass zR_C = some mt.cls := hown
  have hl : lv_has ls 3 [(0, .ref (ad 0)), (1, .int x)] := hl
  obtain ⟨hB, hn3, hn5, h20, hcr, hmde, hgn, hpp, hvd⟩ := hbas
  have hB20 : a 20 0 < 2147483648 := by omega
  refine lv_aload_n hx hb zd_C_broadcast_0 rfl (lv_at hl 0 rfl) ?_
  refine lv_iload_n hx hb zd_C_broadcast_1 rfl (lv_at hl 1 rfl) ?_
  refine cq_callI (C := zR_C) (As := [.int x]) (rest := []) ⟨hx, hb, hml, hown, hts⟩ (cC_C_isProcess l dC dI n ad cI cA a x hn3) (cq_cw 1 hts zm_C_isProcess zl_C_45 zs_C_isProcess ze_C_isProcess zz_C rfl rfl (by decide +kernel) ⟨Nat.le_of_ble_eq_true rfl, Nat.le_of_ble_eq_true rfl⟩) hK hP hD hS hA 0 (wC_at 0 (by omega)) rfl rfl hl.1 rfl (Nat.le_of_ble_eq_true rfl) zd_C_broadcast_2 ⟨Nat.zero_le _, Nat.zero_le _⟩ (fun r0 u H locs hu hP hD hS => ?_)
  obtain ⟨hr0, hue⟩ := hu
  subst hr0
  rw [hue] at hP hD
  clear hue
  refine cn_if_ne (tgt := 10) hx hb zd_C_broadcast_5 (by decide) (gq_is_2 _ _) (fun c1 => ?_) (fun c1 => ?_)
  · obtain ⟨p, hp0, rfl⟩ := gq_is_1 hB20 c1
    have hp : p < n := by omega
    refine lv_aload_n hx hb zd_C_broadcast_10 rfl (lv_at hl 0 rfl) ?_
    refine va_get (D := (dC, dI)) (ci := 0) (v := .ref (ad 1)) (C := zR_C) (T := zT_C) (N := 6) hx hb hts zi_C hown hK hP 0 (wC_at 0 (by omega)) rfl 1 (by decide) (hts _ zf_C_24) (fun _ h9 => h9) rfl zd_C_broadcast_11 ?_
    refine lv_iload_n hx hb zd_C_broadcast_14 rfl (lv_at hl 1 rfl) ?_
    refine cn_aald hx hb hK hP 1 1 (wC_at 1 (by omega)) rfl hp (by omega) zd_C_broadcast_15 ?_
    refine va_get (D := (dC, dI)) (ci := 1) (v := .int (nI (a 11 p))) (C := zR_M) (T := zT_M) (N := 12) hx hb hts zi_M hown hK hP (9 + 3 * p) (wC_m hp) rfl 11 (by decide) (hts _ zf_C_49) (fun _ h9 => h9) rfl zd_C_broadcast_16 ?_
    refine cn_if_eq (tgt := 25) hx hb zd_C_broadcast_19 (by decide) (hB _ _ (by decide)) (fun c2 => ?_) (fun c2 => ?_)
    · refine lv_aload_n hx hb zd_C_broadcast_25 rfl (lv_at hl 0 rfl) ?_
      refine va_get (D := (dC, dI)) (ci := 0) (v := .int (nI (a 21 0))) (C := zR_C) (T := zT_C) (N := 6) hx hb hts zi_C hown hK hP 0 (wC_at 0 (by omega)) rfl 4 (by decide) (hts _ zf_C_53) (fun _ h9 => h9) rfl zd_C_broadcast_26 ?_
      refine lv_bipush (v := nI 8) hx hb zd_C_broadcast_29 (by decide) ?_
      refine cn_icmp_ne (tgt := 37) hx hb zd_C_broadcast_31 (by decide) (hB _ _ (by decide)) (by omega) (fun c3 => ?_) (fun c3 => ?_)
      · refine lv_aload_n hx hb zd_C_broadcast_37 rfl (lv_at hl 0 rfl) ?_
        refine va_get (D := (dC, dI)) (ci := 0) (v := .int (nI (a 21 0))) (C := zR_C) (T := zT_C) (N := 6) hx hb hts zi_C hown hK hP 0 (wC_at 0 (by omega)) rfl 4 (by decide) (hts _ zf_C_53) (fun _ h9 => h9) rfl zd_C_broadcast_38 ?_
        refine lv_istore_n hx hb zd_C_broadcast_41 rfl hl (by decide) rfl (fun ls hl => ?_)
        have hl : lv_has ls 3 [(2, .int (nI (a 21 0))), (0, .ref (ad 0)), (1, .int (nI p))] := hl
        refine lv_aload_n hx hb zd_C_broadcast_42 rfl (lv_at hl 1 rfl) ?_
        refine lv_dup hx hb zd_C_broadcast_43 rfl ?_
        refine va_get (D := (dC, dI)) (ci := 0) (v := .int (nI (a 21 0))) (C := zR_C) (T := zT_C) (N := 6) hx hb hts zi_C hown hK hP 0 (wC_at 0 (by omega)) rfl 4 (by decide) (hts _ zf_C_53) (fun _ h9 => h9) rfl zd_C_broadcast_44 ?_
        refine lv_iconst (v := nI 1) hx hb zd_C_broadcast_47 (by decide) ?_
        refine cn_iadd hx hb zd_C_broadcast_48 ?_
        refine va_put (D := (dC, dI)) (ci := 0) (v := .int (nI ((a 21 0) + 1))) (ty := .int) (C := zR_C) (T := zT_C) (N := 6) hx hb hts zi_C zt_C zo_C zn_C hown hK hP hD hS 0 (wC_at 0 (by omega)) rfl 4 (by decide) (hts _ zf_C_53) (fun _ h9 => h9) rfl (by decide +kernel) rfl rfl (Nat.le_of_ble_eq_true rfl) zd_C_broadcast_49 (fun H locs hP hD hS => ?_)
        have hP : va_P (dC, dI) cq_cl (wC n ad cI cA (cq_p a 21 0 ((a 21 0) + 1))) H := (wC_sc21) ▸ hP
        have hD : va_D A (wC n ad cI cA (cq_p a 21 0 ((a 21 0) + 1))) := (wC_sc21) ▸ hD
        refine lv_aload_n hx hb zd_C_broadcast_52 rfl (lv_at hl 1 rfl) ?_
        refine lv_iload_n hx hb zd_C_broadcast_53 rfl (lv_at hl 2 rfl) ?_
        refine lv_iload_n hx hb zd_C_broadcast_54 rfl (lv_at hl 0 rfl) ?_
        refine cq_callV (C := zR_C) (As := [.int (nI p), .int (nI (a 21 0))]) (rest := []) ⟨hx, hb, hml, hown, hts⟩ (cC_C_learn l dC dI n ad cI cA ((cq_p a 21 0 ((a 21 0) + 1))) (hB.put (by omega)) hn3 hn5 h20 p (a 21 0) hp (by omega)) (cq_cw 2 hts zm_C_learn zl_C_56 zs_C_learn ze_C_learn zz_C rfl rfl (by decide +kernel) ⟨Nat.le_of_ble_eq_true rfl, Nat.le_of_ble_eq_true rfl⟩) hK hP hD hS hA 0 (wC_at 0 (by omega)) rfl rfl hl.1 rfl (Nat.le_of_ble_eq_true rfl) zd_C_broadcast_55 ⟨Nat.zero_le _, Nat.zero_le _⟩ (fun u H locs hu hP hD hS => ?_)
        rw [show u = _ from hu] at hP hD
        clear hu
        refine lv_aload_n hx hb zd_C_broadcast_58 rfl (lv_at hl 1 rfl) ?_
        refine lv_iload_n hx hb zd_C_broadcast_59 rfl (lv_at hl 2 rfl) ?_
        refine cq_callV (C := zR_C) (As := [.int (nI p)]) (rest := []) ⟨hx, hb, hml, hown, hts⟩ (cC_C_goOn l dC dI n ad cI cA ((gq_b0 a p)) p hn3 (hgo p (cq_id_nI hp0 hB20) c2 c3)) (cq_cw 1 hts zm_C_goOn zl_C_60 zs_C_goOn ze_C_goOn zz_C rfl rfl (by decide +kernel) ⟨Nat.le_of_ble_eq_true rfl, Nat.le_of_ble_eq_true rfl⟩) hK hP hD hS hA 0 (wC_at 0 (by omega)) rfl rfl hl.1 rfl (Nat.le_of_ble_eq_true rfl) zd_C_broadcast_60 ⟨Nat.zero_le _, Nat.zero_le _⟩ (fun u H locs hu hP hD hS => ?_)
        rw [show u = _ from hu] at hP hD
        clear hu
        refine lv_iload_n hx hb zd_C_broadcast_63 rfl (lv_at hl 0 rfl) ?_
        have hst : gq_bcast a (nI p) = ((nI (a 21 0)), (gq_go p 1000 (gq_b0 a p))) := by simp only [gq_bcast, cq_id_nI hp0 hB20]; rw [if_pos c2, if_neg c3]
        exact cq_ret (u := (gq_go p 1000 (gq_b0 a p))) hx hb hrt ⟨_, rfl, rfl⟩ hlocks hK hP hD hS hst.symm zd_C_broadcast_64
      · refine lv_bipush (v := -3) hx hb zd_C_broadcast_34 (by decide) ?_
        have hst : gq_bcast a (nI p) = ((-3), a) := by simp only [gq_bcast, cq_id_nI hp0 hB20]; rw [if_pos c2, if_pos c3]
        exact cq_ret (u := a) hx hb hrt ⟨_, rfl, rfl⟩ hlocks hK hP hD hS hst.symm zd_C_broadcast_36
    · refine lv_bipush (v := -2) hx hb zd_C_broadcast_22 (by decide) ?_
      have hst : gq_bcast a (nI p) = ((-2), a) := by simp only [gq_bcast, cq_id_nI hp0 hB20]; rw [if_neg c2]
      exact cq_ret (u := a) hx hb hrt ⟨_, rfl, rfl⟩ hlocks hK hP hD hS hst.symm zd_C_broadcast_24
  · refine lv_iconst (v := -1) hx hb zd_C_broadcast_8 (by decide) ?_
    have hst : gq_bcast a x = ((-1), a) := by simp only [gq_bcast, gq_is_0 c1]
    exact cq_ret (u := a) hx hb hrt ⟨_, rfl, rfl⟩ hlocks hK hP hD hS hst.symm zd_C_broadcast_9

set_option maxHeartbeats 4000000 in
set_option maxRecDepth 100000 in
theorem cC_C_deliver (l : Launch) (dC : Nat → ClassId) (dI : Nat → Nat → Nat) (n : Nat) (ad : Nat → Nat) (cI cA : ClassId) (a : cq_S) (hbas : gq_bas n a) (x y j : Int32) (htx : ∀ p q i, cq_id (a 20 0) x = some p → cq_id (a 20 0) y = some q → gq_place a p q j = some i → (gq_text a i % 8 = 1 → gq_text a i / 2 ^ 10 % 256 < 8) ∧ (gq_text a i % 8 = 2 ∨ gq_text a i % 8 = 3 ∨ gq_text a i % 8 = 4 → 1 ≤ gq_text a i / 2 ^ 6 % 16 ∧ gq_text a i / 2 ^ 6 % 16 ≤ 10)) (hgo : ∀ p q i, cq_id (a 20 0) x = some p → cq_id (a 20 0) y = some q → ¬ p = q → a 11 q = 0 → gq_place a p q j = some i → ∀ d, gq_sok n (gq_go q d (gq_d0 a p q i)) q) : cq_CI l zy_C_deliver zw_C_deliver ({ frames := 6, cells := 0, slots := 0, locals := 145 }) (dC, dI) cq_cl (wC n ad cI cA) (tysC cI cA) a [.ref (ad 0), .int x, .int y, .int j] (fun r0 u => (r0, u) = gq_deliver a x y j) := by
  refine cq_CI.of (cc := zc_C_deliver) (maxL := 6) (ret := (some .int)) (by decide) rfl (Nat.le_of_ble_eq_true rfl) ?_
  intro pr ev s mt args below meth cd A ls hx hb hrt hts hown hlocks hml hP hK hD hA hS hl
  have hown : s.vm.findClass zR_C = some mt.cls := hown
  have hl : lv_has ls 6 [(0, .ref (ad 0)), (1, .int x), (2, .int y), (3, .int j)] := hl
  obtain ⟨hB, hn3, hn5, h20, hcr, hmde, hgn, hpp, hvd⟩ := hbas
  have hB20 : a 20 0 < 2147483648 := by omega
  refine lv_aload_n hx hb zd_C_deliver_0 rfl (lv_at hl 0 rfl) ?_
  refine lv_iload_n hx hb zd_C_deliver_1 rfl (lv_at hl 1 rfl) ?_
  refine cq_callI (C := zR_C) (As := [.int x]) (rest := []) ⟨hx, hb, hml, hown, hts⟩ (cC_C_isProcess l dC dI n ad cI cA a x hn3) (cq_cw 1 hts zm_C_isProcess zl_C_45 zs_C_isProcess ze_C_isProcess zz_C rfl rfl (by decide +kernel) ⟨Nat.le_of_ble_eq_true rfl, Nat.le_of_ble_eq_true rfl⟩) hK hP hD hS hA 0 (wC_at 0 (by omega)) rfl rfl hl.1 rfl (Nat.le_of_ble_eq_true rfl) zd_C_deliver_2 ⟨Nat.zero_le _, Nat.zero_le _⟩ (fun r0 u H locs hu hP hD hS => ?_)
  obtain ⟨hr0, hue⟩ := hu
  subst hr0
  rw [hue] at hP hD
  clear hue
  refine cn_if_eq (tgt := 21) hx hb zd_C_deliver_5 (by decide) (gq_is_2 _ _) (fun c1 => ?_) (fun c1 => ?_)
  · refine lv_iconst (v := -1) hx hb zd_C_deliver_21 (by decide) ?_
    have hst : gq_deliver a x y j = ((-1), a) := by simp only [gq_deliver, gq_is_0 c1]
    exact cq_ret (u := a) hx hb hrt ⟨_, rfl, rfl⟩ hlocks hK hP hD hS hst.symm zd_C_deliver_22
  · obtain ⟨p, hp0, rfl⟩ := gq_is_1 hB20 c1
    have hp : p < n := by omega
    refine lv_aload_n hx hb zd_C_deliver_8 rfl (lv_at hl 0 rfl) ?_
    refine lv_iload_n hx hb zd_C_deliver_9 rfl (lv_at hl 2 rfl) ?_
    refine cq_callI (C := zR_C) (As := [.int y]) (rest := []) ⟨hx, hb, hml, hown, hts⟩ (cC_C_isProcess l dC dI n ad cI cA a y hn3) (cq_cw 1 hts zm_C_isProcess zl_C_45 zs_C_isProcess ze_C_isProcess zz_C rfl rfl (by decide +kernel) ⟨Nat.le_of_ble_eq_true rfl, Nat.le_of_ble_eq_true rfl⟩) hK hP hD hS hA 0 (wC_at 0 (by omega)) rfl rfl hl.1 rfl (Nat.le_of_ble_eq_true rfl) zd_C_deliver_10 ⟨Nat.zero_le _, Nat.zero_le _⟩ (fun r0 u H locs hu hP hD hS => ?_)
    obtain ⟨hr0, hue⟩ := hu
    subst hr0
    rw [hue] at hP hD
    clear hue
    refine cn_if_eq (tgt := 21) hx hb zd_C_deliver_13 (by decide) (gq_is_2 _ _) (fun c2 => ?_) (fun c2 => ?_)
    · refine lv_iconst (v := -1) hx hb zd_C_deliver_21 (by decide) ?_
      have hst : gq_deliver a (nI p) y j = ((-1), a) := by simp only [gq_deliver, cq_id_nI hp0 hB20, gq_is_0 c2]
      exact cq_ret (u := a) hx hb hrt ⟨_, rfl, rfl⟩ hlocks hK hP hD hS hst.symm zd_C_deliver_22
    · obtain ⟨q, hq0, rfl⟩ := gq_is_1 hB20 c2
      have hq : q < n := by omega
      refine lv_iload_n hx hb zd_C_deliver_16 rfl (lv_at hl 1 rfl) ?_
      refine lv_iload_n hx hb zd_C_deliver_17 rfl (lv_at hl 2 rfl) ?_
      refine cn_icmp_ne (tgt := 23) hx hb zd_C_deliver_18 (by decide) (by omega) (by omega) (fun c3 => ?_) (fun c3 => ?_)
      · refine lv_aload_n hx hb zd_C_deliver_23 rfl (lv_at hl 0 rfl) ?_
        refine va_get (D := (dC, dI)) (ci := 0) (v := .ref (ad 1)) (C := zR_C) (T := zT_C) (N := 6) hx hb hts zi_C hown hK hP 0 (wC_at 0 (by omega)) rfl 1 (by decide) (hts _ zf_C_24) (fun _ h9 => h9) rfl zd_C_deliver_24 ?_
        refine lv_iload_n hx hb zd_C_deliver_27 rfl (lv_at hl 2 rfl) ?_
        refine cn_aald hx hb hK hP 1 1 (wC_at 1 (by omega)) rfl hq (by omega) zd_C_deliver_28 ?_
        refine va_get (D := (dC, dI)) (ci := 1) (v := .int (nI (a 11 q))) (C := zR_M) (T := zT_M) (N := 12) hx hb hts zi_M hown hK hP (9 + 3 * q) (wC_m hq) rfl 11 (by decide) (hts _ zf_C_49) (fun _ h9 => h9) rfl zd_C_deliver_29 ?_
        refine cn_if_eq (tgt := 38) hx hb zd_C_deliver_32 (by decide) (hB _ _ (by decide)) (fun c4 => ?_) (fun c4 => ?_)
        · refine lv_aload_n hx hb zd_C_deliver_38 rfl (lv_at hl 0 rfl) ?_
          refine va_get (D := (dC, dI)) (ci := 0) (v := .ref (ad 2)) (C := zR_C) (T := zT_C) (N := 6) hx hb hts zi_C hown hK hP 0 (wC_at 0 (by omega)) rfl 2 (by decide) (hts _ zf_C_34) (fun _ h9 => h9) rfl zd_C_deliver_39 ?_
          refine lv_iload_n hx hb zd_C_deliver_42 rfl (lv_at hl 1 rfl) ?_
          refine lv_iload_n hx hb zd_C_deliver_43 rfl (lv_at hl 2 rfl) ?_
          refine lv_iload_n hx hb zd_C_deliver_44 rfl (lv_at hl 3 rfl) ?_
          refine cq_callI (C := zR_P) (As := [.int (nI p), .int (nI q), .int j]) (rest := []) ⟨hx, hb, hml, hown, hts⟩ (cC_P_placeOf l dC dI n ad cI cA a hB hn3 hn5 h20 p q j (by omega) (by omega) hcr) (cq_cw 3 hts zm_P_placeOf zl_C_63 zs_P_placeOf ze_P_placeOf zz_P rfl rfl (by decide +kernel) ⟨Nat.le_of_ble_eq_true rfl, Nat.le_of_ble_eq_true rfl⟩) hK hP hD hS hA 2 (wC_at 2 (by omega)) rfl rfl hl.1 rfl (Nat.le_of_ble_eq_true rfl) zd_C_deliver_45 ⟨Nat.zero_le _, Nat.zero_le _⟩ (fun r0 u H locs hu hP hD hS => ?_)
          obtain ⟨hr0, hue⟩ := hu
          subst hr0
          rw [hue] at hP hD
          clear hue
          refine lv_istore hx hb zd_C_deliver_48 hl (by decide) rfl (fun ls hl => ?_)
          have hl : lv_has ls 6 [(4, .int (mq_oi (gq_place a p q j))), (0, .ref (ad 0)), (1, .int (nI p)), (2, .int (nI q)), (3, .int j)] := hl
          refine lv_iload hx hb zd_C_deliver_50 (lv_at hl 0 rfl) ?_
          refine lv_if_ge (tgt := 58) hx hb zd_C_deliver_52 (by decide) (fun c5 => ?_) (fun c5 => ?_)
          · cases ho : gq_place a p q j with
            | none =>
              rw [ho] at hl c5
              have hl : lv_has ls 6 [(4, .int (-1)), (0, .ref (ad 0)), (1, .int (nI p)), (2, .int (nI q)), (3, .int j)] := hl
              exact absurd c5 (by decide)
            | some i =>
              rw [ho] at hl c5
              have hl : lv_has ls 6 [(4, .int (nI i)), (0, .ref (ad 0)), (1, .int (nI p)), (2, .int (nI q)), (3, .int j)] := hl
              have hi : i < a 23 0 := gq_place_lt ho
              have htxi := htx p q i (cq_id_nI hp0 hB20) (cq_id_nI hq0 hB20) ho
              have htl : gq_text a i < 2147483648 := Nat.lt_trans (Nat.mod_lt _ (by decide)) (by decide)
              refine lv_aload_n hx hb zd_C_deliver_58 rfl (lv_at hl 1 rfl) ?_
              refine va_get (D := (dC, dI)) (ci := 0) (v := .ref (ad 2)) (C := zR_C) (T := zT_C) (N := 6) hx hb hts zi_C hown hK hP 0 (wC_at 0 (by omega)) rfl 2 (by decide) (hts _ zf_C_34) (fun _ h9 => h9) rfl zd_C_deliver_59 ?_
              refine lv_iload hx hb zd_C_deliver_62 (lv_at hl 0 rfl) ?_
              refine cq_callI (C := zR_P) (As := [.int (nI i)]) (rest := []) ⟨hx, hb, hml, hown, hts⟩ (cC_P_textAt l dC dI n ad cI cA a hB hn3 hn5 h20 i (by omega)) (cq_cw 1 hts zm_P_textAt zl_C_67 zs_P_textAt ze_P_textAt zz_P rfl rfl (by decide +kernel) ⟨Nat.le_of_ble_eq_true rfl, Nat.le_of_ble_eq_true rfl⟩) hK hP hD hS hA 2 (wC_at 2 (by omega)) rfl rfl hl.1 rfl (Nat.le_of_ble_eq_true rfl) zd_C_deliver_64 ⟨Nat.zero_le _, Nat.zero_le _⟩ (fun r0 u H locs hu hP hD hS => ?_)
              obtain ⟨hr0, hue⟩ := hu
              subst hr0
              rw [hue] at hP hD
              clear hue
              refine lv_istore hx hb zd_C_deliver_67 hl (by decide) rfl (fun ls hl => ?_)
              have hl : lv_has ls 6 [(5, .int (nI (gq_text a i))), (4, .int (nI i)), (0, .ref (ad 0)), (1, .int (nI p)), (2, .int (nI q)), (3, .int j)] := hl
              refine lv_aload_n hx hb zd_C_deliver_69 rfl (lv_at hl 2 rfl) ?_
              refine va_get (D := (dC, dI)) (ci := 0) (v := .ref (ad 2)) (C := zR_C) (T := zT_C) (N := 6) hx hb hts zi_C hown hK hP 0 (wC_at 0 (by omega)) rfl 2 (by decide) (hts _ zf_C_34) (fun _ h9 => h9) rfl zd_C_deliver_70 ?_
              refine lv_iload hx hb zd_C_deliver_73 (lv_at hl 1 rfl) ?_
              refine cq_callV (C := zR_P) (As := [.int (nI i)]) (rest := []) ⟨hx, hb, hml, hown, hts⟩ (cC_P_takeAway l dC dI n ad cI cA a hB hn3 hn5 h20 i hi hcr) (cq_cw 1 hts zm_P_takeAway zl_C_71 zs_P_takeAway ze_P_takeAway zz_P rfl rfl (by decide +kernel) ⟨Nat.le_of_ble_eq_true rfl, Nat.le_of_ble_eq_true rfl⟩) hK hP hD hS hA 2 (wC_at 2 (by omega)) rfl rfl hl.1 rfl (Nat.le_of_ble_eq_true rfl) zd_C_deliver_75 ⟨Nat.zero_le _, Nat.zero_le _⟩ (fun u H locs hu hP hD hS => ?_)
              rw [show u = _ from hu] at hP hD
              clear hu
              refine lv_aload_n hx hb zd_C_deliver_78 rfl (lv_at hl 2 rfl) ?_
              refine lv_iload_n hx hb zd_C_deliver_79 rfl (lv_at hl 3 rfl) ?_
              refine lv_iload_n hx hb zd_C_deliver_80 rfl (lv_at hl 4 rfl) ?_
              refine lv_iload hx hb zd_C_deliver_81 (lv_at hl 0 rfl) ?_
              refine cq_callV (C := zR_C) (As := [.int (nI p), .int (nI q), .int (nI (gq_text a i))]) (rest := []) ⟨hx, hb, hml, hown, hts⟩ (cC_C_receive l dC dI n ad cI cA ((gq_take a i)) (gq_take_B hB) hn3 hn5 (by rw [gq_take_k _ _ _ _ (by decide)]; exact h20) p q (gq_text a i) hp hq htl htxi.1 htxi.2 (fun c hc => by rw [gq_take_k _ _ _ _ (by omega)]; exact Nat.lt_trans (hvd q c hq hc) (by decide))) (cq_cw 3 hts zm_C_receive zl_C_74 zs_C_receive ze_C_receive zz_C rfl rfl (by decide +kernel) ⟨Nat.le_of_ble_eq_true rfl, Nat.le_of_ble_eq_true rfl⟩) hK hP hD hS hA 0 (wC_at 0 (by omega)) rfl rfl hl.1 rfl (Nat.le_of_ble_eq_true rfl) zd_C_deliver_83 ⟨Nat.zero_le _, Nat.zero_le _⟩ (fun u H locs hu hP hD hS => ?_)
              rw [show u = _ from hu] at hP hD
              clear hu
              refine lv_aload_n hx hb zd_C_deliver_86 rfl (lv_at hl 2 rfl) ?_
              refine lv_iload_n hx hb zd_C_deliver_87 rfl (lv_at hl 4 rfl) ?_
              refine cq_callV (C := zR_C) (As := [.int (nI q)]) (rest := []) ⟨hx, hb, hml, hown, hts⟩ (cC_C_goOn l dC dI n ad cI cA ((gq_d0 a p q i)) q hn3 (hgo p q i (cq_id_nI hp0 hB20) (cq_id_nI hq0 hB20) c3 c4 ho)) (cq_cw 1 hts zm_C_goOn zl_C_60 zs_C_goOn ze_C_goOn zz_C rfl rfl (by decide +kernel) ⟨Nat.le_of_ble_eq_true rfl, Nat.le_of_ble_eq_true rfl⟩) hK hP hD hS hA 0 (wC_at 0 (by omega)) rfl rfl hl.1 rfl (Nat.le_of_ble_eq_true rfl) zd_C_deliver_88 ⟨Nat.zero_le _, Nat.zero_le _⟩ (fun u H locs hu hP hD hS => ?_)
              rw [show u = _ from hu] at hP hD
              clear hu
              refine lv_iload hx hb zd_C_deliver_91 (lv_at hl 0 rfl) ?_
              refine cq_callSI (As := [.int (nI (gq_text a i))]) (rest := []) ⟨hx, hb, hml, hown, hts⟩ (cC_L_kindOf l dC dI n ad cI cA ((gq_go q 1000 (gq_d0 a p q i))) (gq_text a i) htl) (cq_cwS 1 hts zm_L_kindOf zl_C_78 zs_L_kindOf zz_L rfl rfl (by decide +kernel) ⟨Nat.le_of_ble_eq_true rfl, Nat.le_of_ble_eq_true rfl⟩) hK hP hD hS hA rfl hl.1 rfl (Nat.le_of_ble_eq_true rfl) zd_C_deliver_93 ⟨Nat.zero_le _, Nat.zero_le _⟩ (fun r0 u H locs hu hP hD hS => ?_)
              obtain ⟨hr0, hue⟩ := hu
              subst hr0
              rw [hue] at hP hD
              clear hue
              have hst : gq_deliver a (nI p) (nI q) j = ((nI (gq_text a i % 8)), (gq_go q 1000 (gq_d0 a p q i))) := by simp only [gq_deliver, cq_id_nI hp0 hB20, cq_id_nI hq0 hB20, ho]; rw [if_neg c3, if_pos c4]
              exact cq_ret (u := (gq_go q 1000 (gq_d0 a p q i))) hx hb hrt ⟨_, rfl, rfl⟩ hlocks hK hP hD hS hst.symm zd_C_deliver_96
          · cases ho : gq_place a p q j with
            | none =>
              rw [ho] at hl c5
              have hl : lv_has ls 6 [(4, .int (-1)), (0, .ref (ad 0)), (1, .int (nI p)), (2, .int (nI q)), (3, .int j)] := hl
              refine lv_bipush (v := -3) hx hb zd_C_deliver_55 (by decide) ?_
              have hst : gq_deliver a (nI p) (nI q) j = ((-3), a) := by simp only [gq_deliver, cq_id_nI hp0 hB20, cq_id_nI hq0 hB20, ho]; rw [if_neg c3, if_pos c4]
              exact cq_ret (u := a) hx hb hrt ⟨_, rfl, rfl⟩ hlocks hK hP hD hS hst.symm zd_C_deliver_57
            | some i =>
              rw [ho] at hl c5
              have hl : lv_has ls 6 [(4, .int (nI i)), (0, .ref (ad 0)), (1, .int (nI p)), (2, .int (nI q)), (3, .int j)] := hl
              have hi : i < a 23 0 := gq_place_lt ho
              have htxi := htx p q i (cq_id_nI hp0 hB20) (cq_id_nI hq0 hB20) ho
              have htl : gq_text a i < 2147483648 := Nat.lt_trans (Nat.mod_lt _ (by decide)) (by decide)
              exact absurd (nI_pos' (by have := gq_room_lt hn5; omega)) c5
        · refine lv_bipush (v := -2) hx hb zd_C_deliver_35 (by decide) ?_
          have hst : gq_deliver a (nI p) (nI q) j = ((-2), a) := by simp only [gq_deliver, cq_id_nI hp0 hB20, cq_id_nI hq0 hB20]; rw [if_neg c3, if_neg c4]
          exact cq_ret (u := a) hx hb hrt ⟨_, rfl, rfl⟩ hlocks hK hP hD hS hst.symm zd_C_deliver_37
      · refine lv_iconst (v := -1) hx hb zd_C_deliver_21 (by decide) ?_
        have hst : gq_deliver a (nI p) (nI q) j = ((-1), a) := by simp only [gq_deliver, cq_id_nI hp0 hB20, cq_id_nI hq0 hB20]; rw [if_pos c3]
        exact cq_ret (u := a) hx hb hrt ⟨_, rfl, rfl⟩ hlocks hK hP hD hS hst.symm zd_C_deliver_22

set_option maxHeartbeats 4000000 in
set_option maxRecDepth 100000 in
theorem cC_C_crash (l : Launch) (dC : Nat → ClassId) (dI : Nat → Nat → Nat) (n : Nat) (ad : Nat → Nat) (cI cA : ClassId) (a : cq_S) (hbas : gq_bas n a) (x y : Int32) : cq_CI l zy_C_crash zw_C_crash ({ frames := 3, cells := 0, slots := 0, locals := 63 }) (dC, dI) cq_cl (wC n ad cI cA) (tysC cI cA) a [.ref (ad 0), .int x, .int y] (fun r0 u => (r0, u) = gq_crash a x y) := by
  refine cq_CI.of (cc := zc_C_crash) (maxL := 3) (ret := (some .boolean)) (by decide) rfl (Nat.le_of_ble_eq_true rfl) ?_
  intro pr ev s mt args below meth cd A ls hx hb hrt hts hown hlocks hml hP hK hD hA hS hl
  have hown : s.vm.findClass zR_C = some mt.cls := hown
  have hl : lv_has ls 3 [(0, .ref (ad 0)), (1, .int x), (2, .int y)] := hl
  obtain ⟨hB, hn3, hn5, h20, hcr, hmde, hgn, hpp, hvd⟩ := hbas
  have hB20 : a 20 0 < 2147483648 := by omega
  refine lv_aload_n hx hb zd_C_crash_0 rfl (lv_at hl 0 rfl) ?_
  refine lv_iload_n hx hb zd_C_crash_1 rfl (lv_at hl 1 rfl) ?_
  refine cq_callI (C := zR_C) (As := [.int x]) (rest := []) ⟨hx, hb, hml, hown, hts⟩ (cC_C_isProcess l dC dI n ad cI cA a x hn3) (cq_cw 1 hts zm_C_isProcess zl_C_45 zs_C_isProcess ze_C_isProcess zz_C rfl rfl (by decide +kernel) ⟨Nat.le_of_ble_eq_true rfl, Nat.le_of_ble_eq_true rfl⟩) hK hP hD hS hA 0 (wC_at 0 (by omega)) rfl rfl hl.1 rfl (Nat.le_of_ble_eq_true rfl) zd_C_crash_2 ⟨Nat.zero_le _, Nat.zero_le _⟩ (fun r0 u H locs hu hP hD hS => ?_)
  obtain ⟨hr0, hue⟩ := hu
  subst hr0
  rw [hue] at hP hD
  clear hue
  refine cn_if_eq (tgt := 31) hx hb zd_C_crash_5 (by decide) (gq_is_2 _ _) (fun c1 => ?_) (fun c1 => ?_)
  · refine lv_iconst (v := nI 0) hx hb zd_C_crash_31 (by decide) ?_
    have hst : gq_crash a x y = (nI 0, a) := by simp only [gq_crash, gq_is_0 c1]
    exact cq_ret (u := a) hx hb hrt ⟨_, rfl, rfl⟩ hlocks hK hP hD hS hst.symm zd_C_crash_32
  · obtain ⟨p, hp0, rfl⟩ := gq_is_1 hB20 c1
    have hp : p < n := by omega
    refine lv_aload_n hx hb zd_C_crash_8 rfl (lv_at hl 0 rfl) ?_
    refine va_get (D := (dC, dI)) (ci := 0) (v := .ref (ad 1)) (C := zR_C) (T := zT_C) (N := 6) hx hb hts zi_C hown hK hP 0 (wC_at 0 (by omega)) rfl 1 (by decide) (hts _ zf_C_24) (fun _ h9 => h9) rfl zd_C_crash_9 ?_
    refine lv_iload_n hx hb zd_C_crash_12 rfl (lv_at hl 1 rfl) ?_
    refine cn_aald hx hb hK hP 1 1 (wC_at 1 (by omega)) rfl hp (by omega) zd_C_crash_13 ?_
    refine va_get (D := (dC, dI)) (ci := 1) (v := .int (nI (a 11 p))) (C := zR_M) (T := zT_M) (N := 12) hx hb hts zi_M hown hK hP (9 + 3 * p) (wC_m hp) rfl 11 (by decide) (hts _ zf_C_49) (fun _ h9 => h9) rfl zd_C_crash_14 ?_
    refine cn_if_ne (tgt := 31) hx hb zd_C_crash_17 (by decide) (hB _ _ (by decide)) (fun c2 => ?_) (fun c2 => ?_)
    · refine lv_iconst (v := nI 0) hx hb zd_C_crash_31 (by decide) ?_
      have hst : gq_crash a (nI p) y = (nI 0, a) := by simp only [gq_crash, cq_id_nI hp0 hB20]; cases cq_id 21 y <;> simp [c2]
      exact cq_ret (u := a) hx hb hrt ⟨_, rfl, rfl⟩ hlocks hK hP hD hS hst.symm zd_C_crash_32
    · refine lv_aload_n hx hb zd_C_crash_20 rfl (lv_at hl 0 rfl) ?_
      refine va_get (D := (dC, dI)) (ci := 0) (v := .int (nI (a 22 0))) (C := zR_C) (T := zT_C) (N := 6) hx hb hts zi_C hown hK hP 0 (wC_at 0 (by omega)) rfl 5 (by decide) (hts _ zf_C_87) (fun _ h9 => h9) rfl zd_C_crash_21 ?_
      refine lv_aload_n hx hb zd_C_crash_24 rfl (lv_at hl 0 rfl) ?_
      refine cq_callI (C := zR_C) (As := []) (rest := [.int (nI (a 22 0))]) ⟨hx, hb, hml, hown, hts⟩ (cC_C_mostCrashes l dC dI n ad cI cA a hB (by omega)) (cq_cw 0 hts zm_C_mostCrashes zl_C_90 zs_C_mostCrashes ze_C_mostCrashes zz_C rfl rfl (by decide +kernel) ⟨Nat.le_of_ble_eq_true rfl, Nat.le_of_ble_eq_true rfl⟩) hK hP hD hS hA 0 (wC_at 0 (by omega)) rfl rfl hl.1 rfl (Nat.le_of_ble_eq_true rfl) zd_C_crash_25 ⟨Nat.zero_le _, Nat.zero_le _⟩ (fun r0 u H locs hu hP hD hS => ?_)
      obtain ⟨hr0, hue⟩ := hu
      subst hr0
      rw [hue] at hP hD
      clear hue
      refine cn_icmp_ne (tgt := 33) hx hb zd_C_crash_28 (by decide) (hB _ _ (by decide)) (by omega) (fun c3 => ?_) (fun c3 => ?_)
      · refine lv_iload_n hx hb zd_C_crash_33 rfl (lv_at hl 2 rfl) ?_
        refine lv_if_lt (tgt := 43) hx hb zd_C_crash_34 (by decide) (fun c4 => ?_) (fun c4 => ?_)
        · refine lv_iconst (v := nI 0) hx hb zd_C_crash_43 (by decide) ?_
          have hst : gq_crash a (nI p) y = (nI 0, a) := by simp only [gq_crash, cq_id_nI hp0 hB20, cq_id_neg c4]
          exact cq_ret (u := a) hx hb hrt ⟨_, rfl, rfl⟩ hlocks hK hP hD hS hst.symm zd_C_crash_44
        · refine lv_iload_n hx hb zd_C_crash_37 rfl (lv_at hl 2 rfl) ?_
          refine lv_bipush (v := nI 20) hx hb zd_C_crash_38 (by decide) ?_
          refine lv_icmp_le (tgt := 45) hx hb zd_C_crash_40 (by decide) (fun c5 => ?_) (fun c5 => ?_)
          · obtain ⟨m0, hm0, rfl⟩ := cq_id_le c4 c5 (by omega)
            refine lv_aload_n hx hb zd_C_crash_45 rfl (lv_at hl 0 rfl) ?_
            refine va_get (D := (dC, dI)) (ci := 0) (v := .ref (ad 1)) (C := zR_C) (T := zT_C) (N := 6) hx hb hts zi_C hown hK hP 0 (wC_at 0 (by omega)) rfl 1 (by decide) (hts _ zf_C_24) (fun _ h9 => h9) rfl zd_C_crash_46 ?_
            refine lv_iload_n hx hb zd_C_crash_49 rfl (lv_at hl 1 rfl) ?_
            refine cn_aald hx hb hK hP 1 1 (wC_at 1 (by omega)) rfl hp (by omega) zd_C_crash_50 ?_
            refine lv_iconst (v := nI 1) hx hb zd_C_crash_51 (by decide) ?_
            refine va_put (D := (dC, dI)) (ci := 1) (v := .int (nI 1)) (ty := .boolean) (C := zR_M) (T := zT_M) (N := 12) hx hb hts zi_M zt_M zo_M zn_M hown hK hP hD hS (9 + 3 * p) (wC_m hp) rfl 11 (by decide) (hts _ zf_C_49) (fun _ h9 => h9) rfl (by decide +kernel) rfl rfl (Nat.le_of_ble_eq_true rfl) zd_C_crash_52 (fun H locs hP hD hS => ?_)
            have hP : va_P (dC, dI) cq_cl (wC n ad cI cA (cq_p a 11 p 1)) H := (wC_sm11 hp) ▸ hP
            have hD : va_D A (wC n ad cI cA (cq_p a 11 p 1)) := (wC_sm11 hp) ▸ hD
            refine lv_aload_n hx hb zd_C_crash_55 rfl (lv_at hl 0 rfl) ?_
            refine lv_dup hx hb zd_C_crash_56 rfl ?_
            refine va_get (D := (dC, dI)) (ci := 0) (v := .int (nI (a 22 0))) (C := zR_C) (T := zT_C) (N := 6) hx hb hts zi_C hown hK hP 0 (wC_at 0 (by omega)) rfl 5 (by decide) (hts _ zf_C_87) (fun _ h9 => h9) rfl zd_C_crash_57 ?_
            refine lv_iconst (v := nI 1) hx hb zd_C_crash_60 (by decide) ?_
            refine cn_iadd hx hb zd_C_crash_61 ?_
            refine va_put (D := (dC, dI)) (ci := 0) (v := .int (nI ((a 22 0) + 1))) (ty := .int) (C := zR_C) (T := zT_C) (N := 6) hx hb hts zi_C zt_C zo_C zn_C hown hK hP hD hS 0 (wC_at 0 (by omega)) rfl 5 (by decide) (hts _ zf_C_87) (fun _ h9 => h9) rfl (by decide +kernel) rfl rfl (Nat.le_of_ble_eq_true rfl) zd_C_crash_62 (fun H locs hP hD hS => ?_)
            have hP : va_P (dC, dI) cq_cl (wC n ad cI cA (cq_p (cq_p a 11 p 1) 22 0 ((a 22 0) + 1))) H := (wC_sc22) ▸ hP
            have hD : va_D A (wC n ad cI cA (cq_p (cq_p a 11 p 1) 22 0 ((a 22 0) + 1))) := (wC_sc22) ▸ hD
            refine lv_aload_n hx hb zd_C_crash_65 rfl (lv_at hl 0 rfl) ?_
            refine va_get (D := (dC, dI)) (ci := 0) (v := .ref (ad 2)) (C := zR_C) (T := zT_C) (N := 6) hx hb hts zi_C hown hK hP 0 (wC_at 0 (by omega)) rfl 2 (by decide) (hts _ zf_C_34) (fun _ h9 => h9) rfl zd_C_crash_66 ?_
            refine lv_iload_n hx hb zd_C_crash_69 rfl (lv_at hl 1 rfl) ?_
            refine lv_iload_n hx hb zd_C_crash_70 rfl (lv_at hl 2 rfl) ?_
            refine cq_callV (C := zR_P) (As := [.int (nI p), .int (nI m0)]) (rest := []) ⟨hx, hb, hml, hown, hts⟩ (cC_P_loseLatest l dC dI n ad cI cA ((cq_p (cq_p a 11 p 1) 22 0 ((a 22 0) + 1))) ((hB.put (by decide)).put (by omega)) hn3 hn5 h20 p m0 (by omega) (by omega) hcr) (cq_cw 2 hts zm_P_loseLatest zl_C_94 zs_P_loseLatest ze_P_loseLatest zz_P rfl rfl (by decide +kernel) ⟨Nat.le_of_ble_eq_true rfl, Nat.le_of_ble_eq_true rfl⟩) hK hP hD hS hA 2 (wC_at 2 (by omega)) rfl rfl hl.1 rfl (Nat.le_of_ble_eq_true rfl) zd_C_crash_71 ⟨Nat.zero_le _, Nat.zero_le _⟩ (fun u H locs hu hP hD hS => ?_)
            rw [show u = _ from hu] at hP hD
            clear hu
            refine lv_iconst (v := nI 1) hx hb zd_C_crash_74 (by decide) ?_
            have hst : gq_crash a (nI p) (nI m0) = (nI 1, (gq_lose p (a 23 0) m0 (cq_p (cq_p a 11 p 1) 22 0 (a 22 0 + 1)))) := by simp only [gq_crash, cq_id_nI hp0 hB20, cq_id_nI hm0 (show 21 < 2147483648 by omega)]; rw [if_pos ⟨c2, c3⟩]
            exact cq_ret (u := (gq_lose p (a 23 0) m0 (cq_p (cq_p a 11 p 1) 22 0 (a 22 0 + 1)))) hx hb hrt ⟨_, rfl, rfl⟩ hlocks hK hP hD hS hst.symm zd_C_crash_75
          · refine lv_iconst (v := nI 0) hx hb zd_C_crash_43 (by decide) ?_
            have hst : gq_crash a (nI p) y = (nI 0, a) := by simp only [gq_crash, cq_id_nI hp0 hB20, cq_id_len c5 (by omega)]
            exact cq_ret (u := a) hx hb hrt ⟨_, rfl, rfl⟩ hlocks hK hP hD hS hst.symm zd_C_crash_44
      · refine lv_iconst (v := nI 0) hx hb zd_C_crash_31 (by decide) ?_
        have hst : gq_crash a (nI p) y = (nI 0, a) := by simp only [gq_crash, cq_id_nI hp0 hB20]; cases cq_id 21 y <;> simp [c3]
        exact cq_ret (u := a) hx hb hrt ⟨_, rfl, rfl⟩ hlocks hK hP hD hS hst.symm zd_C_crash_32

