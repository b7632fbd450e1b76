set_option maxHeartbeats 4000000 in
set_option maxRecDepth 100000 in
theorem cC_C_makeOffer (l : Launch) (dC : Nat → ClassId) (dI : Nat → Nat → Nat) (n : Nat) (ad : Nat → Nat) (cI cA : ClassId) (a : cq_S) (hB : cq_B2 a) (hn3 : 3 ≤ n) (hn5 : n ≤ 5) (h20 : a 20 0 = n) (p : Nat) (hp : p < n) (h4 : a 4 p < 8) (h81 : 1 ≤ a 8 p) (h8 : a 8 p ≤ 10) : cq_CI l zy_C_makeOffer zw_C_makeOffer ({ frames := 2, cells := 0, slots := 0, locals := 48 }) (dC, dI) cq_cl (wC n ad cI cA) (tysC cI cA) a [.ref (ad 0), .int (nI p), .ref (ad (9 + 3 * p))] (fun r0 u => r0 = nI (gq_mk a p).2 ∧ u = (gq_mk a p).1) := by
  refine cq_CI.of (cc := zc_C_makeOffer) (maxL := 5) (ret := (some .boolean)) (by decide) rfl (Nat.le_of_ble_eq_true rfl) ?_
  intro pr ev s mt args below meth cd A ls hx hb hrt hts hown hlocks hml hP hK hD hA hS hl
  have hown : s.vm.findClass zR_C = some mt.cls := hown
  have hl : lv_has ls 5 [(0, .ref (ad 0)), (1, .int (nI p)), (2, .ref (ad (9 + 3 * p)))] := hl
  have hmj : gq_maj a < 4 := by unfold gq_maj; omega
  have heo := gq_eOf_le a (a 4 p) (a 8 p) (a 20 0)
  refine lv_aload_n hx hb zd_C_makeOffer_0 rfl (lv_at hl 2 rfl) ?_
  refine va_get (D := (dC, dI)) (ci := 1) (v := .int (nI (a 4 p))) (C := zR_M) (T := zT_M) (N := 12) hx hb hts zi_M hown hK hP (9 + 3 * p) (wC_m hp) rfl 6 (by decide) (hts _ zf_C_106) (fun _ h9 => h9) rfl zd_C_makeOffer_1 ?_
  refine lv_istore_n hx hb zd_C_makeOffer_4 rfl hl (by decide) rfl (fun ls hl => ?_)
  have hl : lv_has ls 5 [(3, .int (nI (a 4 p))), (0, .ref (ad 0)), (1, .int (nI p)), (2, .ref (ad (9 + 3 * p)))] := hl
  refine lv_aload_n hx hb zd_C_makeOffer_5 rfl (lv_at hl 3 rfl) ?_
  refine va_get (D := (dC, dI)) (ci := 1) (v := .int (nI (a 8 p))) (C := zR_M) (T := zT_M) (N := 12) hx hb hts zi_M hown hK hP (9 + 3 * p) (wC_m hp) rfl 8 (by decide) (hts _ zf_C_109) (fun _ h9 => h9) rfl zd_C_makeOffer_6 ?_
  refine lv_istore hx hb zd_C_makeOffer_9 hl (by decide) rfl (fun ls hl => ?_)
  have hl : lv_has ls 5 [(4, .int (nI (a 8 p))), (3, .int (nI (a 4 p))), (0, .ref (ad 0)), (1, .int (nI p)), (2, .ref (ad (9 + 3 * p)))] := hl
  refine lv_aload_n hx hb zd_C_makeOffer_11 rfl (lv_at hl 2 rfl) ?_
  refine va_get (D := (dC, dI)) (ci := 0) (v := .ref (ad 4)) (C := zR_C) (T := zT_C) (N := 6) hx hb hts zi_C hown hK hP 0 (wC_at 0 (by omega)) rfl 3 (by decide) (hts _ zf_C_41) (fun _ h9 => h9) rfl zd_C_makeOffer_12 ?_
  refine lv_iload_n hx hb zd_C_makeOffer_15 rfl (lv_at hl 1 rfl) ?_
  refine lv_iload hx hb zd_C_makeOffer_16 (lv_at hl 0 rfl) ?_
  refine cq_callI (C := zR_Q) (As := [.int (nI (a 4 p)), .int (nI (a 8 p))]) (rest := []) ⟨hx, hb, hml, hown, hts⟩ (cC_Q_estimatesOf l dC dI n ad cI cA a hB hn3 hn5 h20 (a 4 p) (a 8 p) h4 h81 h8) (cq_cw 2 hts zm_Q_estimatesOf zl_C_203 zs_Q_estimatesOf ze_Q_estimatesOf zz_Q rfl rfl (by decide +kernel) ⟨Nat.le_of_ble_eq_true rfl, Nat.le_of_ble_eq_true rfl⟩) hK hP hD hS hA 4 (wC_at 4 (by omega)) rfl rfl hl.1 rfl (Nat.le_of_ble_eq_true rfl) zd_C_makeOffer_18 ⟨Nat.zero_le _, Nat.zero_le _⟩ (fun r0 u H locs hu hP hD hS => ?_)
  obtain ⟨hr0, hue⟩ := hu
  subst hr0
  rw [hue] at hP hD
  clear hue
  refine lv_aload_n hx hb zd_C_makeOffer_21 rfl (lv_at hl 2 rfl) ?_
  refine cq_callI (C := zR_C) (As := []) (rest := [.int (nI (gq_eOf a (a 4 p) (a 8 p) (a 20 0)))]) ⟨hx, hb, hml, hown, hts⟩ (cC_C_majority l dC dI n ad cI cA a hB) (cq_cw 0 hts zm_C_majority zl_C_206 zs_C_majority ze_C_majority zz_C rfl rfl (by decide +kernel) ⟨Nat.le_of_ble_eq_true rfl, Nat.le_of_ble_eq_true rfl⟩) hK hP hD hS hA 0 (wC_at 0 (by omega)) rfl rfl hl.1 rfl (Nat.le_of_ble_eq_true rfl) zd_C_makeOffer_22 ⟨Nat.zero_le _, Nat.zero_le _⟩ (fun r0 u H locs hu hP hD hS => ?_)
  obtain ⟨hr0, hue⟩ := hu
  subst hr0
  rw [hue] at hP hD
  clear hue
  refine cn_icmp_ge (tgt := 30) hx hb zd_C_makeOffer_25 (by decide) (by omega) (by omega) (fun c1 => ?_) (fun c1 => ?_)
  · refine lv_aload_n hx hb zd_C_makeOffer_30 rfl (lv_at hl 4 rfl) ?_
    refine lv_aload_n hx hb zd_C_makeOffer_31 rfl (lv_at hl 2 rfl) ?_
    refine va_get (D := (dC, dI)) (ci := 0) (v := .ref (ad 4)) (C := zR_C) (T := zT_C) (N := 6) hx hb hts zi_C hown hK hP 0 (wC_at 0 (by omega)) rfl 3 (by decide) (hts _ zf_C_41) (fun _ h9 => h9) rfl zd_C_makeOffer_32 ?_
    refine lv_iload_n hx hb zd_C_makeOffer_35 rfl (lv_at hl 1 rfl) ?_
    refine lv_iload hx hb zd_C_makeOffer_36 (lv_at hl 0 rfl) ?_
    refine cq_callI (C := zR_Q) (As := [.int (nI (a 4 p)), .int (nI (a 8 p))]) (rest := [.ref (ad (9 + 3 * p))]) ⟨hx, hb, hml, hown, hts⟩ (cC_Q_bestBatch l dC dI n ad cI cA a hB hn3 hn5 h20 (a 4 p) (a 8 p) h4 h81 h8) (cq_cw 2 hts zm_Q_bestBatch zl_C_209 zs_Q_bestBatch ze_Q_bestBatch zz_Q rfl rfl (by decide +kernel) ⟨Nat.le_of_ble_eq_true rfl, Nat.le_of_ble_eq_true rfl⟩) hK hP hD hS hA 4 (wC_at 4 (by omega)) rfl rfl hl.1 rfl (Nat.le_of_ble_eq_true rfl) zd_C_makeOffer_38 ⟨Nat.zero_le _, Nat.zero_le _⟩ (fun r0 u H locs hu hP hD hS => ?_)
    obtain ⟨hr0, hue⟩ := hu
    subst hr0
    rw [hue] at hP hD
    clear hue
    refine cq_callV (C := zR_M) (As := [.int (nI (gq_bB a (a 4 p) (a 8 p) (a 20 0) % 256))]) (rest := []) ⟨hx, hb, hml, hown, hts⟩ (cC_M_adopt l dC dI n ad cI cA a hB p hp (gq_bB a (a 4 p) (a 8 p) (a 20 0) % 256)) (cq_cw 1 hts zm_M_adopt zl_C_212 zs_M_adopt ze_M_adopt zz_M rfl rfl (by decide +kernel) ⟨Nat.le_of_ble_eq_true rfl, Nat.le_of_ble_eq_true rfl⟩) hK hP hD hS hA (9 + 3 * p) (wC_m hp) rfl rfl hl.1 rfl (Nat.le_of_ble_eq_true rfl) zd_C_makeOffer_41 ⟨Nat.zero_le _, Nat.zero_le _⟩ (fun u H locs hu hP hD hS => ?_)
    rw [show u = _ from hu] at hP hD
    clear hu
    have hz9 : (gq_adopt a p (gq_bB a (a 4 p) (a 8 p) (a 20 0) % 256)) 9 p = (gq_bB a (a 4 p) (a 8 p) (a 20 0) % 256) := by simp [gq_adopt, cq_p]
    refine lv_aload_n hx hb zd_C_makeOffer_44 rfl (lv_at hl 2 rfl) ?_
    refine lv_iload_n hx hb zd_C_makeOffer_45 rfl (lv_at hl 3 rfl) ?_
    refine lv_iconst (v := nI 3) hx hb zd_C_makeOffer_46 (by decide) ?_
    refine lv_iload_n hx hb zd_C_makeOffer_47 rfl (lv_at hl 1 rfl) ?_
    refine lv_iload hx hb zd_C_makeOffer_48 (lv_at hl 0 rfl) ?_
    refine lv_aload_n hx hb zd_C_makeOffer_50 rfl (lv_at hl 4 rfl) ?_
    refine va_get (D := (dC, dI)) (ci := 1) (v := .int (nI ((gq_adopt a p (gq_bB a (a 4 p) (a 8 p) (a 20 0) % 256)) 9 p))) (C := zR_M) (T := zT_M) (N := 12) hx hb hts zi_M hown hK hP (9 + 3 * p) (wC_m hp) rfl 9 (by decide) (hts _ zf_C_112) (fun _ h9 => h9) rfl zd_C_makeOffer_51 ?_
    refine cn_top (show nI ((gq_adopt a p (gq_bB a (a 4 p) (a 8 p) (a 20 0) % 256)) 9 p) = nI (gq_bB a (a 4 p) (a 8 p) (a 20 0) % 256) by rw [hz9]) ?_
    refine lv_iconst (v := nI 0) hx hb zd_C_makeOffer_54 (by decide) ?_
    refine cq_callSI (As := [.int (nI 3), .int (nI (a 4 p)), .int (nI (a 8 p)), .int (nI (gq_bB a (a 4 p) (a 8 p) (a 20 0) % 256)), .int (nI 0)]) (rest := [.int (nI p), .ref (ad 0)]) ⟨hx, hb, hml, hown, hts⟩ (cC_L_write l dC dI n ad cI cA ((gq_adopt a p (gq_bB a (a 4 p) (a 8 p) (a 20 0) % 256))) 3 (a 4 p) (a 8 p) (gq_bB a (a 4 p) (a 8 p) (a 20 0) % 256) 0 (by omega) (by omega) (by omega) (by omega)) (cq_cwS 5 hts zm_L_write zl_C_166 zs_L_write zz_L rfl rfl (by decide +kernel) ⟨Nat.le_of_ble_eq_true rfl, Nat.le_of_ble_eq_true rfl⟩) hK hP hD hS hA rfl hl.1 rfl (Nat.le_of_ble_eq_true rfl) zd_C_makeOffer_55 ⟨Nat.zero_le _, Nat.zero_le _⟩ (fun r0 u H locs hu hP hD hS => ?_)
    obtain ⟨hr0, hue⟩ := hu
    subst hr0
    rw [hue] at hP hD
    clear hue
    refine cq_callV (C := zR_C) (As := [.int (nI p), .int (nI (gq_tx 3 (a 4 p) (a 8 p) (gq_bB a (a 4 p) (a 8 p) (a 20 0) % 256) 0))]) (rest := []) ⟨hx, hb, hml, hown, hts⟩ (cC_C_sendToAllOthers l dC dI n ad cI cA ((gq_adopt a p (gq_bB a (a 4 p) (a 8 p) (a 20 0) % 256))) (gq_adopt_B hB (by omega)) hn3 hn5 h20 p (gq_tx 3 (a 4 p) (a 8 p) (gq_bB a (a 4 p) (a 8 p) (a 20 0) % 256) 0) hp (gq_tx_lt (by decide) h4 (by omega) (by omega) (by decide))) (cq_cw 2 hts zm_C_sendToAllOthers zl_C_170 zs_C_sendToAllOthers ze_C_sendToAllOthers zz_C rfl rfl (by decide +kernel) ⟨Nat.le_of_ble_eq_true rfl, Nat.le_of_ble_eq_true rfl⟩) hK hP hD hS hA 0 (wC_at 0 (by omega)) rfl rfl hl.1 rfl (Nat.le_of_ble_eq_true rfl) zd_C_makeOffer_58 ⟨Nat.zero_le _, Nat.zero_le _⟩ (fun u H locs hu hP hD hS => ?_)
    rw [show u = _ from hu] at hP hD
    clear hu
    have hz20 : (gq_toAll (gq_adopt a p (gq_bB a (a 4 p) (a 8 p) (a 20 0) % 256)) p (gq_tx 3 (a 4 p) (a 8 p) (gq_bB a (a 4 p) (a 8 p) (a 20 0) % 256) 0)) 20 0 = n := (gq_all_k _ _ _ _ _ _ (by decide)).trans h20
    refine lv_aload_n hx hb zd_C_makeOffer_61 rfl (lv_at hl 2 rfl) ?_
    refine va_get (D := (dC, dI)) (ci := 0) (v := .ref (ad 4)) (C := zR_C) (T := zT_C) (N := 6) hx hb hts zi_C hown hK hP 0 (wC_at 0 (by omega)) rfl 3 (by decide) (hts _ zf_C_41) (fun _ h9 => h9) rfl zd_C_makeOffer_62 ?_
    refine lv_iload_n hx hb zd_C_makeOffer_65 rfl (lv_at hl 1 rfl) ?_
    refine lv_iload hx hb zd_C_makeOffer_66 (lv_at hl 0 rfl) ?_
    refine lv_iload_n hx hb zd_C_makeOffer_68 rfl (lv_at hl 3 rfl) ?_
    refine lv_iconst (v := nI 1) hx hb zd_C_makeOffer_69 (by decide) ?_
    refine cq_callV (C := zR_Q) (As := [.int (nI (a 4 p)), .int (nI (a 8 p)), .int (nI p), .int (nI 1)]) (rest := []) ⟨hx, hb, hml, hown, hts⟩ (cC_Q_keepVote l dC dI n ad cI cA ((gq_toAll (gq_adopt a p (gq_bB a (a 4 p) (a 8 p) (a 20 0) % 256)) p (gq_tx 3 (a 4 p) (a 8 p) (gq_bB a (a 4 p) (a 8 p) (a 20 0) % 256) 0))) (gq_all_B (gq_adopt_B hB (by omega)) (by omega) (gq_tx_lt (by decide) h4 (by omega) (by omega) (by decide)) h20 hn5 _ (show a 20 0 ≤ 5 by omega)) hn3 hn5 hz20 (a 4 p) (a 8 p) p 1 (by omega) (by decide) h4 h81 h8) (cq_cw 4 hts zm_Q_keepVote zl_C_154 zs_Q_keepVote ze_Q_keepVote zz_Q rfl rfl (by decide +kernel) ⟨Nat.le_of_ble_eq_true rfl, Nat.le_of_ble_eq_true rfl⟩) hK hP hD hS hA 4 (wC_at 4 (by omega)) rfl rfl hl.1 rfl (Nat.le_of_ble_eq_true rfl) zd_C_makeOffer_70 ⟨Nat.zero_le _, Nat.zero_le _⟩ (fun u H locs hu hP hD hS => ?_)
    rw [show u = _ from hu] at hP hD
    clear hu
    refine lv_aload_n hx hb zd_C_makeOffer_73 rfl (lv_at hl 4 rfl) ?_
    refine lv_iconst (v := nI 3) hx hb zd_C_makeOffer_74 (by decide) ?_
    refine va_put (D := (dC, dI)) (ci := 1) (v := .int (nI 3)) (ty := .int) (C := zR_M) (T := zT_M) (N := 12) hx hb hts zi_M zt_M zo_M zn_M hown hK hP hD hS (9 + 3 * p) (wC_m hp) rfl 7 (by decide) (hts _ zf_C_103) (fun _ h9 => h9) rfl (by decide +kernel) rfl rfl (Nat.le_of_ble_eq_true rfl) zd_C_makeOffer_75 (fun H locs hP hD hS => ?_)
    have hP : va_P (dC, dI) cq_cl (wC n ad cI cA (cq_p (gq_kV (gq_toAll (gq_adopt a p (gq_bB a (a 4 p) (a 8 p) (a 20 0) % 256)) p (gq_tx 3 (a 4 p) (a 8 p) (gq_bB a (a 4 p) (a 8 p) (a 20 0) % 256) 0)) (a 4 p) (a 8 p) p 1) 7 p 3)) H := (wC_sm7 hp) ▸ hP
    have hD : va_D A (wC n ad cI cA (cq_p (gq_kV (gq_toAll (gq_adopt a p (gq_bB a (a 4 p) (a 8 p) (a 20 0) % 256)) p (gq_tx 3 (a 4 p) (a 8 p) (gq_bB a (a 4 p) (a 8 p) (a 20 0) % 256) 0)) (a 4 p) (a 8 p) p 1) 7 p 3)) := (wC_sm7 hp) ▸ hD
    refine lv_iconst (v := nI 1) hx hb zd_C_makeOffer_78 (by decide) ?_
    have hst : gq_mk a p = ((cq_p (gq_kV (gq_toAll (gq_adopt a p (gq_bB a (a 4 p) (a 8 p) (a 20 0) % 256)) p (gq_tx 3 (a 4 p) (a 8 p) (gq_bB a (a 4 p) (a 8 p) (a 20 0) % 256) 0)) (a 4 p) (a 8 p) p 1) 7 p 3), 1) := by unfold gq_mk; rw [if_pos (by omega)]
    exact cq_ret (u := (cq_p (gq_kV (gq_toAll (gq_adopt a p (gq_bB a (a 4 p) (a 8 p) (a 20 0) % 256)) p (gq_tx 3 (a 4 p) (a 8 p) (gq_bB a (a 4 p) (a 8 p) (a 20 0) % 256) 0)) (a 4 p) (a 8 p) p 1) 7 p 3)) hx hb hrt ⟨_, rfl, rfl⟩ hlocks hK hP hD hS (by rw [hst]; exact ⟨rfl, rfl⟩) zd_C_makeOffer_79
  · refine lv_iconst (v := nI 0) hx hb zd_C_makeOffer_28 (by decide) ?_
    have hst : gq_mk a p = (a, 0) := by unfold gq_mk; rw [if_neg (by omega)]
    exact cq_ret (u := a) hx hb hrt ⟨_, rfl, rfl⟩ hlocks hK hP hD hS (by rw [hst]; exact ⟨rfl, rfl⟩) zd_C_makeOffer_29

set_option maxHeartbeats 4000000 in
set_option maxRecDepth 100000 in
theorem cC_C_countVotes (l : Launch) (dC : Nat → ClassId) (dI : Nat → Nat → Nat) (n : Nat) (ad : Nat → Nat) (cI cA : ClassId) (a : cq_S) (hB : cq_B2 a) (hn3 : 3 ≤ n) (hn5 : n ≤ 5) (h20 : a 20 0 = n) (p : Nat) (hp : p < n) (h4 : a 4 p < 8) (h81 : 1 ≤ a 8 p) (h8 : a 8 p ≤ 10) (h9 : a 9 p < 256) (h10 : a 10 p < 16) (hy : a 27 (a 4 p * 10 + a 8 p - 1) < 32) (hz : a 28 (a 4 p * 10 + a 8 p - 1) < 32) (hv : a (60 + p) (a 4 p) < 2147483648) : cq_CI l zy_C_countVotes zw_C_countVotes ({ frames := 3, cells := 0, slots := 0, locals := 74 }) (dC, dI) cq_cl (wC n ad cI cA) (tysC cI cA) a [.ref (ad 0), .int (nI p), .ref (ad (9 + 3 * p))] (fun r0 u => r0 = nI (gq_count a p).2 ∧ u = (gq_count a p).1) := by
  refine cq_CI.of (cc := zc_C_countVotes) (maxL := 5) (ret := (some .boolean)) (by decide) rfl (Nat.le_of_ble_eq_true rfl) ?_
  intro pr ev s mt args below meth cd A ls hx hb hrt hts hown hlocks hml hP hK hD hA hS hl
  have hown : s.vm.findClass zR_C = some mt.cls := hown
  have hl : lv_has ls 5 [(0, .ref (ad 0)), (1, .int (nI p)), (2, .ref (ad (9 + 3 * p)))] := hl
  have hmj : gq_maj a < 4 := by unfold gq_maj; omega
  have hvo : gq_vOf a (a 4 p) (a 8 p) < 6 := gq_pc_lt _
  refine lv_aload_n hx hb zd_C_countVotes_0 rfl (lv_at hl 2 rfl) ?_
  refine va_get (D := (dC, dI)) (ci := 1) (v := .int (nI (a 4 p))) (C := zR_M) (T := zT_M) (N := 12) hx hb hts zi_M hown hK hP (9 + 3 * p) (wC_m hp) rfl 6 (by decide) (hts _ zf_C_106) (fun _ h9 => h9) rfl zd_C_countVotes_1 ?_
  refine lv_istore_n hx hb zd_C_countVotes_4 rfl hl (by decide) rfl (fun ls hl => ?_)
  have hl : lv_has ls 5 [(3, .int (nI (a 4 p))), (0, .ref (ad 0)), (1, .int (nI p)), (2, .ref (ad (9 + 3 * p)))] := hl
  refine lv_aload_n hx hb zd_C_countVotes_5 rfl (lv_at hl 3 rfl) ?_
  refine va_get (D := (dC, dI)) (ci := 1) (v := .int (nI (a 8 p))) (C := zR_M) (T := zT_M) (N := 12) hx hb hts zi_M hown hK hP (9 + 3 * p) (wC_m hp) rfl 8 (by decide) (hts _ zf_C_109) (fun _ h9 => h9) rfl zd_C_countVotes_6 ?_
  refine lv_istore hx hb zd_C_countVotes_9 hl (by decide) rfl (fun ls hl => ?_)
  have hl : lv_has ls 5 [(4, .int (nI (a 8 p))), (3, .int (nI (a 4 p))), (0, .ref (ad 0)), (1, .int (nI p)), (2, .ref (ad (9 + 3 * p)))] := hl
  refine lv_aload_n hx hb zd_C_countVotes_11 rfl (lv_at hl 2 rfl) ?_
  refine va_get (D := (dC, dI)) (ci := 0) (v := .ref (ad 4)) (C := zR_C) (T := zT_C) (N := 6) hx hb hts zi_C hown hK hP 0 (wC_at 0 (by omega)) rfl 3 (by decide) (hts _ zf_C_41) (fun _ h9 => h9) rfl zd_C_countVotes_12 ?_
  refine lv_iload_n hx hb zd_C_countVotes_15 rfl (lv_at hl 1 rfl) ?_
  refine lv_iload hx hb zd_C_countVotes_16 (lv_at hl 0 rfl) ?_
  refine cq_callI (C := zR_Q) (As := [.int (nI (a 4 p)), .int (nI (a 8 p))]) (rest := []) ⟨hx, hb, hml, hown, hts⟩ (cC_Q_votesOf l dC dI n ad cI cA a hB hn3 hn5 h20 (a 4 p) (a 8 p) h4 h81 h8 hy hz) (cq_cw 2 hts zm_Q_votesOf zl_C_221 zs_Q_votesOf ze_Q_votesOf zz_Q rfl rfl (by decide +kernel) ⟨Nat.le_of_ble_eq_true rfl, Nat.le_of_ble_eq_true rfl⟩) hK hP hD hS hA 4 (wC_at 4 (by omega)) rfl rfl hl.1 rfl (Nat.le_of_ble_eq_true rfl) zd_C_countVotes_18 ⟨Nat.zero_le _, Nat.zero_le _⟩ (fun r0 u H locs hu hP hD hS => ?_)
  obtain ⟨hr0, hue⟩ := hu
  subst hr0
  rw [hue] at hP hD
  clear hue
  refine lv_aload_n hx hb zd_C_countVotes_21 rfl (lv_at hl 2 rfl) ?_
  refine cq_callI (C := zR_C) (As := []) (rest := [.int (nI (gq_vOf a (a 4 p) (a 8 p)))]) ⟨hx, hb, hml, hown, hts⟩ (cC_C_majority l dC dI n ad cI cA a hB) (cq_cw 0 hts zm_C_majority zl_C_206 zs_C_majority ze_C_majority zz_C rfl rfl (by decide +kernel) ⟨Nat.le_of_ble_eq_true rfl, Nat.le_of_ble_eq_true rfl⟩) hK hP hD hS hA 0 (wC_at 0 (by omega)) rfl rfl hl.1 rfl (Nat.le_of_ble_eq_true rfl) zd_C_countVotes_22 ⟨Nat.zero_le _, Nat.zero_le _⟩ (fun r0 u H locs hu hP hD hS => ?_)
  obtain ⟨hr0, hue⟩ := hu
  subst hr0
  rw [hue] at hP hD
  clear hue
  refine cn_icmp_ge (tgt := 30) hx hb zd_C_countVotes_25 (by decide) (by omega) (by omega) (fun c1 => ?_) (fun c1 => ?_)
  · refine lv_aload_n hx hb zd_C_countVotes_30 rfl (lv_at hl 2 rfl) ?_
    refine va_get (D := (dC, dI)) (ci := 0) (v := .ref (ad 4)) (C := zR_C) (T := zT_C) (N := 6) hx hb hts zi_C hown hK hP 0 (wC_at 0 (by omega)) rfl 3 (by decide) (hts _ zf_C_41) (fun _ h9 => h9) rfl zd_C_countVotes_31 ?_
    refine lv_iload_n hx hb zd_C_countVotes_34 rfl (lv_at hl 1 rfl) ?_
    refine lv_iload hx hb zd_C_countVotes_35 (lv_at hl 0 rfl) ?_
    refine cq_callI (C := zR_Q) (As := [.int (nI (a 4 p)), .int (nI (a 8 p))]) (rest := []) ⟨hx, hb, hml, hown, hts⟩ (cC_Q_allYes l dC dI n ad cI cA a hB hn3 hn5 h20 (a 4 p) (a 8 p) h4 h81 h8) (cq_cw 2 hts zm_Q_allYes zl_C_224 zs_Q_allYes ze_Q_allYes zz_Q rfl rfl (by decide +kernel) ⟨Nat.le_of_ble_eq_true rfl, Nat.le_of_ble_eq_true rfl⟩) hK hP hD hS hA 4 (wC_at 4 (by omega)) rfl rfl hl.1 rfl (Nat.le_of_ble_eq_true rfl) zd_C_countVotes_37 ⟨Nat.zero_le _, Nat.zero_le _⟩ (fun r0 u H locs hu hP hD hS => ?_)
    obtain ⟨hr0, hue⟩ := hu
    subst hr0
    rw [hue] at hP hD
    clear hue
    refine cn_if_eq (tgt := 56) hx hb zd_C_countVotes_40 (by decide) (by split <;> decide) (fun c2 => ?_) (fun c2 => ?_)
    · refine lv_aload_n hx hb zd_C_countVotes_56 rfl (lv_at hl 2 rfl) ?_
      refine lv_iload_n hx hb zd_C_countVotes_57 rfl (lv_at hl 3 rfl) ?_
      refine lv_aload_n hx hb zd_C_countVotes_58 rfl (lv_at hl 4 rfl) ?_
      refine lv_iload hx hb zd_C_countVotes_59 (lv_at hl 0 rfl) ?_
      refine lv_iconst (v := nI 1) hx hb zd_C_countVotes_61 (by decide) ?_
      refine cn_iadd hx hb zd_C_countVotes_62 ?_
      refine cq_callV (C := zR_C) (As := [.int (nI p), .ref (ad (9 + 3 * p)), .int (nI ((a 8 p) + 1))]) (rest := []) ⟨hx, hb, hml, hown, hts⟩ (cC_C_enter l dC dI n ad cI cA a hB hn3 hn5 h20 p (a 8 p + 1) hp (by omega) (by omega) h4 h9 h10) (cq_cw 3 hts zm_C_enter zl_C_199 zs_C_enter ze_C_enter zz_C rfl rfl (by decide +kernel) ⟨Nat.le_of_ble_eq_true rfl, Nat.le_of_ble_eq_true rfl⟩) hK hP hD hS hA 0 (wC_at 0 (by omega)) rfl rfl hl.1 rfl (Nat.le_of_ble_eq_true rfl) zd_C_countVotes_63 ⟨Nat.zero_le _, Nat.zero_le _⟩ (fun u H locs hu hP hD hS => ?_)
      rw [show u = _ from hu] at hP hD
      clear hu
      refine lv_iconst (v := nI 1) hx hb zd_C_countVotes_66 (by decide) ?_
      have hst : gq_count a p = ((gq_enter a p (a 8 p + 1)), 1) := by unfold gq_count; rw [if_pos (by omega), if_neg (fun h => absurd c2 (by rw [if_pos h]; decide))]
      exact cq_ret (u := (gq_enter a p (a 8 p + 1))) hx hb hrt ⟨_, rfl, rfl⟩ hlocks hK hP hD hS (by rw [hst]; exact ⟨rfl, rfl⟩) zd_C_countVotes_67
    · refine lv_aload_n hx hb zd_C_countVotes_43 rfl (lv_at hl 2 rfl) ?_
      refine lv_iload_n hx hb zd_C_countVotes_44 rfl (lv_at hl 3 rfl) ?_
      refine lv_iload_n hx hb zd_C_countVotes_45 rfl (lv_at hl 1 rfl) ?_
      refine lv_aload_n hx hb zd_C_countVotes_46 rfl (lv_at hl 4 rfl) ?_
      refine va_get (D := (dC, dI)) (ci := 1) (v := .int (nI (a 9 p))) (C := zR_M) (T := zT_M) (N := 12) hx hb hts zi_M hown hK hP (9 + 3 * p) (wC_m hp) rfl 9 (by decide) (hts _ zf_C_112) (fun _ h9 => h9) rfl zd_C_countVotes_47 ?_
      refine cq_callV (C := zR_C) (As := [.int (nI p), .int (nI (a 4 p)), .int (nI (a 9 p))]) (rest := []) ⟨hx, hb, hml, hown, hts⟩ (cC_C_accept l dC dI n ad cI cA a hB hn3 hn5 h20 p (a 4 p) (a 9 p) hp h4 h9 hv) (cq_cw 3 hts zm_C_accept zl_C_157 zs_C_accept ze_C_accept zz_C rfl rfl (by decide +kernel) ⟨Nat.le_of_ble_eq_true rfl, Nat.le_of_ble_eq_true rfl⟩) hK hP hD hS hA 0 (wC_at 0 (by omega)) rfl rfl hl.1 rfl (Nat.le_of_ble_eq_true rfl) zd_C_countVotes_50 ⟨Nat.zero_le _, Nat.zero_le _⟩ (fun u H locs hu hP hD hS => ?_)
      rw [show u = _ from hu] at hP hD
      clear hu
      refine lv_goto (tgt := 66) hx hb zd_C_countVotes_53 (by decide) ?_
      refine lv_iconst (v := nI 1) hx hb zd_C_countVotes_66 (by decide) ?_
      have hst : gq_count a p = ((gq_accept a p (a 4 p) (a 9 p)), 1) := by unfold gq_count; rw [if_pos (by omega), if_pos (Decidable.byContradiction (fun h => c2 (if_neg h)))]
      exact cq_ret (u := (gq_accept a p (a 4 p) (a 9 p))) hx hb hrt ⟨_, rfl, rfl⟩ hlocks hK hP hD hS (by rw [hst]; exact ⟨rfl, rfl⟩) zd_C_countVotes_67
  · refine lv_iconst (v := nI 0) hx hb zd_C_countVotes_28 (by decide) ?_
    have hst : gq_count a p = (a, 0) := by unfold gq_count; rw [if_neg (by omega)]
    exact cq_ret (u := a) hx hb hrt ⟨_, rfl, rfl⟩ hlocks hK hP hD hS (by rw [hst]; exact ⟨rfl, rfl⟩) zd_C_countVotes_29

set_option maxHeartbeats 4000000 in
set_option maxRecDepth 100000 in
theorem cC_C_answerLeader (l : Launch) (dC : Nat → ClassId) (dI : Nat → Nat → Nat) (n : Nat) (ad : Nat → Nat) (cI cA : ClassId) (a : cq_S) (hB : cq_B2 a) (hn3 : 3 ≤ n) (hn5 : n ≤ 5) (h20 : a 20 0 = n) (p : Nat) (hp : p < n) (h4 : a 4 p < 8) (h81 : 1 ≤ a 8 p) (h8 : a 8 p ≤ 10) (h9 : a 9 p < 256) (h10 : a 10 p < 16) (hof : a 26 (gq_cell (a 20 0) (a 4 p) (a 8 p) p) < 256) : cq_CI l zy_C_answerLeader zw_C_answerLeader ({ frames := 3, cells := 0, slots := 0, locals := 74 }) (dC, dI) cq_cl (wC n ad cI cA) (tysC cI cA) a [.ref (ad 0), .int (nI p), .ref (ad (9 + 3 * p))] (fun r0 u => r0 = nI (gq_answer a p).2 ∧ u = (gq_answer a p).1) := by
  refine cq_CI.of (cc := zc_C_answerLeader) (maxL := 8) (ret := (some .boolean)) (by decide) rfl (Nat.le_of_ble_eq_true rfl) ?_
  intro pr ev s mt args below meth cd A ls hx hb hrt hts hown hlocks hml hP hK hD hA hS hl
  have hown : s.vm.findClass zR_C = some mt.cls := hown
  have hl : lv_has ls 8 [(0, .ref (ad 0)), (1, .int (nI p)), (2, .ref (ad (9 + 3 * p)))] := hl
  have hld : gq_ldr a (a 8 p) < n := by rw [← h20]; exact Nat.mod_lt _ (by omega)
  refine lv_aload_n hx hb zd_C_answerLeader_0 rfl (lv_at hl 2 rfl) ?_
  refine va_get (D := (dC, dI)) (ci := 1) (v := .int (nI (a 4 p))) (C := zR_M) (T := zT_M) (N := 12) hx hb hts zi_M hown hK hP (9 + 3 * p) (wC_m hp) rfl 6 (by decide) (hts _ zf_C_106) (fun _ h9 => h9) rfl zd_C_answerLeader_1 ?_
  refine lv_istore_n hx hb zd_C_answerLeader_4 rfl hl (by decide) rfl (fun ls hl => ?_)
  have hl : lv_has ls 8 [(3, .int (nI (a 4 p))), (0, .ref (ad 0)), (1, .int (nI p)), (2, .ref (ad (9 + 3 * p)))] := hl
  refine lv_aload_n hx hb zd_C_answerLeader_5 rfl (lv_at hl 3 rfl) ?_
  refine va_get (D := (dC, dI)) (ci := 1) (v := .int (nI (a 8 p))) (C := zR_M) (T := zT_M) (N := 12) hx hb hts zi_M hown hK hP (9 + 3 * p) (wC_m hp) rfl 8 (by decide) (hts _ zf_C_109) (fun _ h9 => h9) rfl zd_C_answerLeader_6 ?_
  refine lv_istore hx hb zd_C_answerLeader_9 hl (by decide) rfl (fun ls hl => ?_)
  have hl : lv_has ls 8 [(4, .int (nI (a 8 p))), (3, .int (nI (a 4 p))), (0, .ref (ad 0)), (1, .int (nI p)), (2, .ref (ad (9 + 3 * p)))] := hl
  refine lv_aload_n hx hb zd_C_answerLeader_11 rfl (lv_at hl 2 rfl) ?_
  refine lv_iload hx hb zd_C_answerLeader_12 (lv_at hl 0 rfl) ?_
  refine cq_callI (C := zR_C) (As := [.int (nI (a 8 p))]) (rest := []) ⟨hx, hb, hml, hown, hts⟩ (cC_C_leaderOf l dC dI n ad cI cA a hB (by omega) (a 8 p) h81 (by omega)) (cq_cw 1 hts zm_C_leaderOf zl_C_215 zs_C_leaderOf ze_C_leaderOf zz_C rfl rfl (by decide +kernel) ⟨Nat.le_of_ble_eq_true rfl, Nat.le_of_ble_eq_true rfl⟩) hK hP hD hS hA 0 (wC_at 0 (by omega)) rfl rfl hl.1 rfl (Nat.le_of_ble_eq_true rfl) zd_C_answerLeader_14 ⟨Nat.zero_le _, Nat.zero_le _⟩ (fun r0 u H locs hu hP hD hS => ?_)
  obtain ⟨hr0, hue⟩ := hu
  subst hr0
  rw [hue] at hP hD
  clear hue
  refine lv_istore hx hb zd_C_answerLeader_17 hl (by decide) rfl (fun ls hl => ?_)
  have hl : lv_has ls 8 [(5, .int (nI (gq_ldr a (a 8 p)))), (4, .int (nI (a 8 p))), (3, .int (nI (a 4 p))), (0, .ref (ad 0)), (1, .int (nI p)), (2, .ref (ad (9 + 3 * p)))] := hl
  refine lv_aload_n hx hb zd_C_answerLeader_19 rfl (lv_at hl 3 rfl) ?_
  refine va_get (D := (dC, dI)) (ci := 0) (v := .ref (ad 4)) (C := zR_C) (T := zT_C) (N := 6) hx hb hts zi_C hown hK hP 0 (wC_at 0 (by omega)) rfl 3 (by decide) (hts _ zf_C_41) (fun _ h9 => h9) rfl zd_C_answerLeader_20 ?_
  refine lv_iload_n hx hb zd_C_answerLeader_23 rfl (lv_at hl 2 rfl) ?_
  refine lv_iload hx hb zd_C_answerLeader_24 (lv_at hl 1 rfl) ?_
  refine lv_iload_n hx hb zd_C_answerLeader_26 rfl (lv_at hl 4 rfl) ?_
  refine cq_callI (C := zR_Q) (As := [.int (nI (a 4 p)), .int (nI (a 8 p)), .int (nI p)]) (rest := []) ⟨hx, hb, hml, hown, hts⟩ (cC_Q_offerTo l dC dI n ad cI cA a hB hn3 hn5 h20 (a 4 p) (a 8 p) p hp h4 h81 h8) (cq_cw 3 hts zm_Q_offerTo zl_C_218 zs_Q_offerTo ze_Q_offerTo zz_Q rfl rfl (by decide +kernel) ⟨Nat.le_of_ble_eq_true rfl, Nat.le_of_ble_eq_true rfl⟩) hK hP hD hS hA 4 (wC_at 4 (by omega)) rfl rfl hl.1 rfl (Nat.le_of_ble_eq_true rfl) zd_C_answerLeader_27 ⟨Nat.zero_le _, Nat.zero_le _⟩ (fun r0 u H locs hu hP hD hS => ?_)
  obtain ⟨hr0, hue⟩ := hu
  subst hr0
  rw [hue] at hP hD
  clear hue
  refine lv_istore hx hb zd_C_answerLeader_30 hl (by decide) rfl (fun ls hl => ?_)
  have hl : lv_has ls 8 [(6, .int (nI (a 26 (gq_cell (a 20 0) (a 4 p) (a 8 p) p)))), (5, .int (nI (gq_ldr a (a 8 p)))), (4, .int (nI (a 8 p))), (3, .int (nI (a 4 p))), (0, .ref (ad 0)), (1, .int (nI p)), (2, .ref (ad (9 + 3 * p)))] := hl
  refine lv_iload hx hb zd_C_answerLeader_32 (lv_at hl 0 rfl) ?_
  refine cn_if_ne (tgt := 48) hx hb zd_C_answerLeader_34 (by decide) (hB _ _ (by decide)) (fun c1 => ?_) (fun c1 => ?_)
  · refine lv_iconst (v := nI 0) hx hb zd_C_answerLeader_48 (by decide) ?_
    refine lv_istore hx hb zd_C_answerLeader_49 hl (by decide) rfl (fun ls hl => ?_)
    have hl : lv_has ls 8 [(7, .int (nI 0)), (6, .int (nI (a 26 (gq_cell (a 20 0) (a 4 p) (a 8 p) p)))), (5, .int (nI (gq_ldr a (a 8 p)))), (4, .int (nI (a 8 p))), (3, .int (nI (a 4 p))), (0, .ref (ad 0)), (1, .int (nI p)), (2, .ref (ad (9 + 3 * p)))] := hl
    refine lv_iload hx hb zd_C_answerLeader_51 (lv_at hl 1 rfl) ?_
    refine cn_if_eq (tgt := 65) hx hb zd_C_answerLeader_53 (by decide) (hB _ _ (by decide)) (fun c2 => ?_) (fun c2 => ?_)
    · exact absurd c2 c1
    · refine lv_aload_n hx hb zd_C_answerLeader_56 rfl (lv_at hl 7 rfl) ?_
      refine lv_iload hx hb zd_C_answerLeader_57 (lv_at hl 1 rfl) ?_
      refine cq_callV (C := zR_M) (As := [.int (nI (a 26 (gq_cell (a 20 0) (a 4 p) (a 8 p) p)))]) (rest := []) ⟨hx, hb, hml, hown, hts⟩ (cC_M_adopt l dC dI n ad cI cA a hB p hp (a 26 (gq_cell (a 20 0) (a 4 p) (a 8 p) p))) (cq_cw 1 hts zm_M_adopt zl_C_212 zs_M_adopt ze_M_adopt zz_M rfl rfl (by decide +kernel) ⟨Nat.le_of_ble_eq_true rfl, Nat.le_of_ble_eq_true rfl⟩) hK hP hD hS hA (9 + 3 * p) (wC_m hp) rfl rfl hl.1 rfl (Nat.le_of_ble_eq_true rfl) zd_C_answerLeader_59 ⟨Nat.zero_le _, Nat.zero_le _⟩ (fun u H locs hu hP hD hS => ?_)
      rw [show u = _ from hu] at hP hD
      clear hu
      refine lv_iconst (v := nI 1) hx hb zd_C_answerLeader_62 (by decide) ?_
      refine lv_istore hx hb zd_C_answerLeader_63 hl (by decide) rfl (fun ls hl => ?_)
      have hl : lv_has ls 8 [(7, .int (nI 1)), (6, .int (nI (a 26 (gq_cell (a 20 0) (a 4 p) (a 8 p) p)))), (5, .int (nI (gq_ldr a (a 8 p)))), (4, .int (nI (a 8 p))), (3, .int (nI (a 4 p))), (0, .ref (ad 0)), (1, .int (nI p)), (2, .ref (ad (9 + 3 * p)))] := hl
      refine lv_aload_n hx hb zd_C_answerLeader_65 rfl (lv_at hl 5 rfl) ?_
      refine va_get (D := (dC, dI)) (ci := 0) (v := .ref (ad 2)) (C := zR_C) (T := zT_C) (N := 6) hx hb hts zi_C hown hK hP 0 (wC_at 0 (by omega)) rfl 2 (by decide) (hts _ zf_C_34) (fun _ h9 => h9) rfl zd_C_answerLeader_66 ?_
      refine lv_iload_n hx hb zd_C_answerLeader_69 rfl (lv_at hl 6 rfl) ?_
      refine lv_iload hx hb zd_C_answerLeader_70 (lv_at hl 2 rfl) ?_
      refine lv_iconst (v := nI 4) hx hb zd_C_answerLeader_72 (by decide) ?_
      refine lv_iload_n hx hb zd_C_answerLeader_73 rfl (lv_at hl 4 rfl) ?_
      refine lv_iload hx hb zd_C_answerLeader_74 (lv_at hl 3 rfl) ?_
      refine lv_iload hx hb zd_C_answerLeader_76 (lv_at hl 0 rfl) ?_
      refine lv_iconst (v := nI 0) hx hb zd_C_answerLeader_78 (by decide) ?_
      refine cq_callSI (As := [.int (nI 4), .int (nI (a 4 p)), .int (nI (a 8 p)), .int (nI 1), .int (nI 0)]) (rest := [.int (nI (gq_ldr a (a 8 p))), .int (nI p), .ref (ad 2)]) ⟨hx, hb, hml, hown, hts⟩ (cC_L_write l dC dI n ad cI cA ((gq_adopt a p (a 26 (gq_cell (a 20 0) (a 4 p) (a 8 p) p)))) 4 (a 4 p) (a 8 p) 1 0 (by omega) (by omega) (by omega) (by omega)) (cq_cwS 5 hts zm_L_write zl_C_166 zs_L_write zz_L rfl rfl (by decide +kernel) ⟨Nat.le_of_ble_eq_true rfl, Nat.le_of_ble_eq_true rfl⟩) hK hP hD hS hA rfl hl.1 rfl (Nat.le_of_ble_eq_true rfl) zd_C_answerLeader_79 ⟨Nat.zero_le _, Nat.zero_le _⟩ (fun r0 u H locs hu hP hD hS => ?_)
      obtain ⟨hr0, hue⟩ := hu
      subst hr0
      rw [hue] at hP hD
      clear hue
      refine cq_callV (C := zR_P) (As := [.int (nI p), .int (nI (gq_ldr a (a 8 p))), .int (nI (gq_tx 4 (a 4 p) (a 8 p) 1 0))]) (rest := []) ⟨hx, hb, hml, hown, hts⟩ (cC_P_send l dC dI n ad cI cA ((gq_adopt a p (a 26 (gq_cell (a 20 0) (a 4 p) (a 8 p) p)))) (gq_adopt_B hB (by omega)) hn3 hn5 h20 p (gq_ldr a (a 8 p)) (gq_tx 4 (a 4 p) (a 8 p) 1 0) (by omega) (by omega)) (cq_cw 3 hts zm_P_send zl_C_131 zs_P_send ze_P_send zz_P rfl rfl (by decide +kernel) ⟨Nat.le_of_ble_eq_true rfl, Nat.le_of_ble_eq_true rfl⟩) hK hP hD hS hA 2 (wC_at 2 (by omega)) rfl rfl hl.1 rfl (Nat.le_of_ble_eq_true rfl) zd_C_answerLeader_82 ⟨Nat.zero_le _, Nat.zero_le _⟩ (fun u H locs hu hP hD hS => ?_)
      rw [show u = _ from hu] at hP hD
      clear hu
      refine lv_aload_n hx hb zd_C_answerLeader_85 rfl (lv_at hl 5 rfl) ?_
      refine lv_iload_n hx hb zd_C_answerLeader_86 rfl (lv_at hl 6 rfl) ?_
      refine lv_aload_n hx hb zd_C_answerLeader_87 rfl (lv_at hl 7 rfl) ?_
      refine lv_iload hx hb zd_C_answerLeader_88 (lv_at hl 3 rfl) ?_
      refine lv_iconst (v := nI 1) hx hb zd_C_answerLeader_90 (by decide) ?_
      refine cn_iadd hx hb zd_C_answerLeader_91 ?_
      refine cq_callV (C := zR_C) (As := [.int (nI p), .ref (ad (9 + 3 * p)), .int (nI ((a 8 p) + 1))]) (rest := []) ⟨hx, hb, hml, hown, hts⟩ (cC_C_enter l dC dI n ad cI cA ((gq_send (gq_adopt a p (a 26 (gq_cell (a 20 0) (a 4 p) (a 8 p) p))) p (gq_ldr a (a 8 p)) (gq_tx 4 (a 4 p) (a 8 p) 1 0))) (gq_send_B (gq_adopt_B hB (by omega)) (by omega) (by omega) (gq_tx_lt (by decide) h4 (by omega) (by decide) (by decide)) (show a 20 0 ≤ 5 by omega)) hn3 hn5 (by rw [gq_send_k _ _ _ _ _ _ (by decide)]; exact h20) p (a 8 p + 1) hp (by omega) (by omega) (by rw [gq_send_k _ _ _ _ _ _ (by decide)]; exact h4) (by rw [gq_send_k _ _ _ _ _ _ (by decide)]; simp [gq_adopt, cq_p]; exact hof) (by rw [gq_send_k _ _ _ _ _ _ (by decide)]; simp [gq_adopt, cq_p]; omega)) (cq_cw 3 hts zm_C_enter zl_C_199 zs_C_enter ze_C_enter zz_C rfl rfl (by decide +kernel) ⟨Nat.le_of_ble_eq_true rfl, Nat.le_of_ble_eq_true rfl⟩) hK hP hD hS hA 0 (wC_at 0 (by omega)) rfl rfl hl.1 rfl (Nat.le_of_ble_eq_true rfl) zd_C_answerLeader_92 ⟨Nat.zero_le _, Nat.zero_le _⟩ (fun u H locs hu hP hD hS => ?_)
      rw [show u = _ from hu] at hP hD
      clear hu
      refine lv_iconst (v := nI 1) hx hb zd_C_answerLeader_95 (by decide) ?_
      have hst : gq_answer a p = ((gq_enter (gq_send (gq_adopt a p (a 26 (gq_cell (a 20 0) (a 4 p) (a 8 p) p))) p (gq_ldr a (a 8 p)) (gq_tx 4 (a 4 p) (a 8 p) 1 0)) p (a 8 p + 1)), 1) := by unfold gq_answer; rw [if_neg c1]
      exact cq_ret (u := (gq_enter (gq_send (gq_adopt a p (a 26 (gq_cell (a 20 0) (a 4 p) (a 8 p) p))) p (gq_ldr a (a 8 p)) (gq_tx 4 (a 4 p) (a 8 p) 1 0)) p (a 8 p + 1))) hx hb hrt ⟨_, rfl, rfl⟩ hlocks hK hP hD hS (by rw [hst]; exact ⟨rfl, rfl⟩) zd_C_answerLeader_96
  · refine lv_aload_n hx hb zd_C_answerLeader_37 rfl (lv_at hl 6 rfl) ?_
    refine lv_iload hx hb zd_C_answerLeader_38 (lv_at hl 1 rfl) ?_
    refine cq_callI (C := zR_M) (As := [.int (nI (gq_ldr a (a 8 p)))]) (rest := []) ⟨hx, hb, hml, hown, hts⟩ (cC_M_hasSuspicion l dC dI n ad cI cA a hB p hp (gq_ldr a (a 8 p)) (by omega)) (cq_cw 1 hts zm_M_hasSuspicion zl_C_100 zs_M_hasSuspicion ze_M_hasSuspicion zz_M rfl rfl (by decide +kernel) ⟨Nat.le_of_ble_eq_true rfl, Nat.le_of_ble_eq_true rfl⟩) hK hP hD hS hA (9 + 3 * p) (wC_m hp) rfl rfl hl.1 rfl (Nat.le_of_ble_eq_true rfl) zd_C_answerLeader_40 ⟨Nat.zero_le _, Nat.zero_le _⟩ (fun r0 u H locs hu hP hD hS => ?_)
    obtain ⟨hr0, hue⟩ := hu
    subst hr0
    rw [hue] at hP hD
    clear hue
    refine cn_if_ne (tgt := 48) hx hb zd_C_answerLeader_43 (by decide) (by split <;> decide) (fun c3 => ?_) (fun c3 => ?_)
    · refine lv_iconst (v := nI 0) hx hb zd_C_answerLeader_48 (by decide) ?_
      refine lv_istore hx hb zd_C_answerLeader_49 hl (by decide) rfl (fun ls hl => ?_)
      have hl : lv_has ls 8 [(7, .int (nI 0)), (6, .int (nI (a 26 (gq_cell (a 20 0) (a 4 p) (a 8 p) p)))), (5, .int (nI (gq_ldr a (a 8 p)))), (4, .int (nI (a 8 p))), (3, .int (nI (a 4 p))), (0, .ref (ad 0)), (1, .int (nI p)), (2, .ref (ad (9 + 3 * p)))] := hl
      refine lv_iload hx hb zd_C_answerLeader_51 (lv_at hl 1 rfl) ?_
      refine cn_if_eq (tgt := 65) hx hb zd_C_answerLeader_53 (by decide) (hB _ _ (by decide)) (fun c4 => ?_) (fun c4 => ?_)
      · refine lv_aload_n hx hb zd_C_answerLeader_65 rfl (lv_at hl 5 rfl) ?_
        refine va_get (D := (dC, dI)) (ci := 0) (v := .ref (ad 2)) (C := zR_C) (T := zT_C) (N := 6) hx hb hts zi_C hown hK hP 0 (wC_at 0 (by omega)) rfl 2 (by decide) (hts _ zf_C_34) (fun _ h9 => h9) rfl zd_C_answerLeader_66 ?_
        refine lv_iload_n hx hb zd_C_answerLeader_69 rfl (lv_at hl 6 rfl) ?_
        refine lv_iload hx hb zd_C_answerLeader_70 (lv_at hl 2 rfl) ?_
        refine lv_iconst (v := nI 4) hx hb zd_C_answerLeader_72 (by decide) ?_
        refine lv_iload_n hx hb zd_C_answerLeader_73 rfl (lv_at hl 4 rfl) ?_
        refine lv_iload hx hb zd_C_answerLeader_74 (lv_at hl 3 rfl) ?_
        refine lv_iload hx hb zd_C_answerLeader_76 (lv_at hl 0 rfl) ?_
        refine lv_iconst (v := nI 0) hx hb zd_C_answerLeader_78 (by decide) ?_
        refine cq_callSI (As := [.int (nI 4), .int (nI (a 4 p)), .int (nI (a 8 p)), .int (nI 0), .int (nI 0)]) (rest := [.int (nI (gq_ldr a (a 8 p))), .int (nI p), .ref (ad 2)]) ⟨hx, hb, hml, hown, hts⟩ (cC_L_write l dC dI n ad cI cA a 4 (a 4 p) (a 8 p) 0 0 (by omega) (by omega) (by omega) (by omega)) (cq_cwS 5 hts zm_L_write zl_C_166 zs_L_write zz_L rfl rfl (by decide +kernel) ⟨Nat.le_of_ble_eq_true rfl, Nat.le_of_ble_eq_true rfl⟩) hK hP hD hS hA rfl hl.1 rfl (Nat.le_of_ble_eq_true rfl) zd_C_answerLeader_79 ⟨Nat.zero_le _, Nat.zero_le _⟩ (fun r0 u H locs hu hP hD hS => ?_)
        obtain ⟨hr0, hue⟩ := hu
        subst hr0
        rw [hue] at hP hD
        clear hue
        refine cq_callV (C := zR_P) (As := [.int (nI p), .int (nI (gq_ldr a (a 8 p))), .int (nI (gq_tx 4 (a 4 p) (a 8 p) 0 0))]) (rest := []) ⟨hx, hb, hml, hown, hts⟩ (cC_P_send l dC dI n ad cI cA a hB hn3 hn5 h20 p (gq_ldr a (a 8 p)) (gq_tx 4 (a 4 p) (a 8 p) 0 0) (by omega) (by omega)) (cq_cw 3 hts zm_P_send zl_C_131 zs_P_send ze_P_send zz_P rfl rfl (by decide +kernel) ⟨Nat.le_of_ble_eq_true rfl, Nat.le_of_ble_eq_true rfl⟩) hK hP hD hS hA 2 (wC_at 2 (by omega)) rfl rfl hl.1 rfl (Nat.le_of_ble_eq_true rfl) zd_C_answerLeader_82 ⟨Nat.zero_le _, Nat.zero_le _⟩ (fun u H locs hu hP hD hS => ?_)
        rw [show u = _ from hu] at hP hD
        clear hu
        refine lv_aload_n hx hb zd_C_answerLeader_85 rfl (lv_at hl 5 rfl) ?_
        refine lv_iload_n hx hb zd_C_answerLeader_86 rfl (lv_at hl 6 rfl) ?_
        refine lv_aload_n hx hb zd_C_answerLeader_87 rfl (lv_at hl 7 rfl) ?_
        refine lv_iload hx hb zd_C_answerLeader_88 (lv_at hl 3 rfl) ?_
        refine lv_iconst (v := nI 1) hx hb zd_C_answerLeader_90 (by decide) ?_
        refine cn_iadd hx hb zd_C_answerLeader_91 ?_
        refine cq_callV (C := zR_C) (As := [.int (nI p), .ref (ad (9 + 3 * p)), .int (nI ((a 8 p) + 1))]) (rest := []) ⟨hx, hb, hml, hown, hts⟩ (cC_C_enter l dC dI n ad cI cA ((gq_send a p (gq_ldr a (a 8 p)) (gq_tx 4 (a 4 p) (a 8 p) 0 0))) (gq_send_B hB (by omega) (by omega) (gq_tx_lt (by decide) h4 (by omega) (by decide) (by decide)) (show a 20 0 ≤ 5 by omega)) hn3 hn5 (by rw [gq_send_k _ _ _ _ _ _ (by decide)]; exact h20) p (a 8 p + 1) hp (by omega) (by omega) (by rw [gq_send_k _ _ _ _ _ _ (by decide)]; exact h4) (by rw [gq_send_k _ _ _ _ _ _ (by decide)]; exact h9) (by rw [gq_send_k _ _ _ _ _ _ (by decide)]; exact h10)) (cq_cw 3 hts zm_C_enter zl_C_199 zs_C_enter ze_C_enter zz_C rfl rfl (by decide +kernel) ⟨Nat.le_of_ble_eq_true rfl, Nat.le_of_ble_eq_true rfl⟩) hK hP hD hS hA 0 (wC_at 0 (by omega)) rfl rfl hl.1 rfl (Nat.le_of_ble_eq_true rfl) zd_C_answerLeader_92 ⟨Nat.zero_le _, Nat.zero_le _⟩ (fun u H locs hu hP hD hS => ?_)
        rw [show u = _ from hu] at hP hD
        clear hu
        refine lv_iconst (v := nI 1) hx hb zd_C_answerLeader_95 (by decide) ?_
        have hst : gq_answer a p = ((gq_enter (gq_send a p (gq_ldr a (a 8 p)) (gq_tx 4 (a 4 p) (a 8 p) 0 0)) p (a 8 p + 1)), 1) := by unfold gq_answer; rw [if_pos c1, if_neg (cq_n1 c3)]
        exact cq_ret (u := (gq_enter (gq_send a p (gq_ldr a (a 8 p)) (gq_tx 4 (a 4 p) (a 8 p) 0 0)) p (a 8 p + 1))) hx hb hrt ⟨_, rfl, rfl⟩ hlocks hK hP hD hS (by rw [hst]; exact ⟨rfl, rfl⟩) zd_C_answerLeader_96
      · exact absurd c1 c4
    · refine lv_iconst (v := nI 0) hx hb zd_C_answerLeader_46 (by decide) ?_
      have hst : gq_answer a p = (a, 0) := by unfold gq_answer; rw [if_pos c1, if_pos (cq_n0 c3)]
      exact cq_ret (u := a) hx hb hrt ⟨_, rfl, rfl⟩ hlocks hK hP hD hS (by rw [hst]; exact ⟨rfl, rfl⟩) zd_C_answerLeader_47

