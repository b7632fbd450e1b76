set_option maxHeartbeats 4000000 in
set_option maxRecDepth 100000 in
theorem cC_M_deliverBatch (l : Launch) (dC : Nat → ClassId) (dI : Nat → Nat → Nat) (n : Nat) (ad : Nat → Nat) (cI cA : ClassId) (a : cq_S) (hB : cq_B2 a) (hn3 : 3 ≤ n) (hn5 : n ≤ 5) (h20 : a 20 0 = n) (p : Nat) (hp : p < n) (b0 : Nat) (hb0 : b0 < 2147483648) (h2 : a 2 p ≤ 8) (hq : ∀ m, m < 8 → ¬ cq_an b0 (a 1 p) / 2 ^ m % 2 = 0 → (gq_del (cq_an b0 (a 1 p)) p a m) 2 p < 8) : cq_CV l zy_M_deliverBatch zw_M_deliverBatch ({ frames := 0, cells := 0, slots := 0, locals := 0 }) (dC, dI) cq_cl (wC n ad cI cA) (tysC cI cA) a [.ref (ad (9 + 3 * p)), .int (nI b0)] (fun u => u = gq_batch a p b0) := by
  refine cq_CV.of (cc := zc_M_deliverBatch) (maxL := 4) (ret := none) (by decide) rfl (Nat.le_of_ble_eq_true rfl) ?_
  intro pr ev s mt args below meth cd A ls hx hb hrt hts hown hlocks hml hP hK hD hA hS hl
  have hown : s.vm.findClass zR_M = some mt.cls := hown
  have hl : lv_has ls 4 [(0, .ref (ad (9 + 3 * p))), (1, .int (nI b0))] := hl
  refine lv_iload_n hx hb zd_M_deliverBatch_0 rfl (lv_at hl 1 rfl) ?_
  refine lv_aload_n hx hb zd_M_deliverBatch_1 rfl (lv_at hl 0 rfl) ?_
  refine va_get (D := (dC, dI)) (ci := 1) (v := .int (nI (a 1 p))) (C := zR_M) (T := zT_M) (N := 12) hx hb hts zi_M hown hK hP (9 + 3 * p) (wC_m hp) rfl 3 (by decide) (hts _ zf_M_22) (fun _ h9 => h9) rfl zd_M_deliverBatch_2 ?_
  refine lv_iconst (v := -1) hx hb zd_M_deliverBatch_5 (by decide) ?_
  refine lv_ixor hx hb zd_M_deliverBatch_6 ?_
  refine cn_andn hx hb zd_M_deliverBatch_7 ?_
  refine lv_istore_n hx hb zd_M_deliverBatch_8 rfl hl (by decide) rfl (fun ls hl => ?_)
  have hl : lv_has ls 4 [(2, .int (nI (cq_an b0 (a 1 p)))), (0, .ref (ad (9 + 3 * p))), (1, .int (nI b0))] := hl
  refine lv_iconst (v := nI 0) hx hb zd_M_deliverBatch_9 (by decide) ?_
  refine lv_istore_n hx hb zd_M_deliverBatch_10 rfl hl (by decide) rfl (fun ls hl => ?_)
  have hl : lv_has ls 4 [(3, .int (nI 0)), (2, .int (nI (cq_an b0 (a 1 p)))), (0, .ref (ad (9 + 3 * p))), (1, .int (nI b0))] := hl
  have LOOP : ∀ (d : Nat) (i : Nat) (b : cq_S) (H : Heap) (locs : List Loc) (ls : Array Slot), i + d = 8 → b = gq_del (cq_an b0 (a 1 p)) p a i →  va_P (dC, dI) cq_cl (wC n ad cI cA b) H → va_D A (wC n ad cI cA b) → va_S A s.heap H locs → lv_has ls 4 [(3, .int (nI i)), (2, .int (nI (cq_an b0 (a 1 p)))), (0, .ref (ad (9 + 3 * p))), (1, .int (nI b0))] → W pr l ev ({ frames := 0, cells := 0, slots := 0, locals := 0 }) s mt args below meth cd H locs 0 0 (MQ below (va_Qv (fun u => u = gq_batch a p b0) (cq_at (dC, dI) cq_cl (wC n ad cI cA) (tysC cI cA) A) A) args s 0 0 A) (F0 mt 11 ls []) := by
    intro d
    induction d with
    | zero =>
      intro i b H locs ls hm0 hbe hP hD hS hl
      have hBb : cq_B2 b := by rw [hbe]; exact gq_del_B hB h2 i (by omega)
      have hb1 : b 1 p = a 1 p := by rw [hbe]; exact gq_del_k _ _ _ _ _ _ (by omega) (by decide)
      have hb2 : i < 8 → ¬ cq_an b0 (a 1 p) / 2 ^ i % 2 = 0 → b 2 p < 8 := by rw [hbe]; exact fun x y => hq i x y
      refine lv_iload_n hx hb zd_M_deliverBatch_11 rfl (lv_at hl 0 rfl) ?_
      refine lv_bipush (v := nI 8) hx hb zd_M_deliverBatch_12 (by decide) ?_
      refine cn_icmp_ge (tgt := 51) hx hb zd_M_deliverBatch_14 (by decide) (by omega) (by omega) (fun c1 => ?_) (fun c1 => ?_)
      · refine lv_aload_n hx hb zd_M_deliverBatch_51 rfl (lv_at hl 2 rfl) ?_
        refine lv_dup hx hb zd_M_deliverBatch_52 rfl ?_
        refine va_get (D := (dC, dI)) (ci := 1) (v := .int (nI (b 1 p))) (C := zR_M) (T := zT_M) (N := 12) hx hb hts zi_M hown hK hP (9 + 3 * p) (wC_m hp) rfl 3 (by decide) (hts _ zf_M_22) (fun _ h9 => h9) rfl zd_M_deliverBatch_53 ?_
        refine cn_top (show nI (b 1 p) = nI (a 1 p) by rw [hb1]) ?_
        refine lv_iload_n hx hb zd_M_deliverBatch_56 rfl (lv_at hl 1 rfl) ?_
        refine cn_ior hx hb zd_M_deliverBatch_57 ?_
        refine va_put (D := (dC, dI)) (ci := 1) (v := .int (nI ((a 1 p) ||| (cq_an b0 (a 1 p))))) (ty := .int) (C := zR_M) (T := zT_M) (N := 12) hx hb hts zi_M zt_M zo_M zn_M hown hK hP hD hS (9 + 3 * p) (wC_m hp) rfl 3 (by decide) (hts _ zf_M_22) (fun _ h9 => h9) rfl (by decide +kernel) rfl rfl (Nat.le_of_ble_eq_true rfl) zd_M_deliverBatch_58 (fun H locs hP hD hS => ?_)
        have hP : va_P (dC, dI) cq_cl (wC n ad cI cA (cq_p b 1 p ((a 1 p) ||| (cq_an b0 (a 1 p))))) H := (wC_sm1 hp) ▸ hP
        have hD : va_D A (wC n ad cI cA (cq_p b 1 p ((a 1 p) ||| (cq_an b0 (a 1 p))))) := (wC_sm1 hp) ▸ hD
        have hie : i = 8 := by omega
        subst hie
        exact cq_vret (u := (cq_p b 1 p ((a 1 p) ||| (cq_an b0 (a 1 p))))) hx hb hrt hlocks hK hP hD hS (by rw [hbe]; rfl) zd_M_deliverBatch_61
      · exact absurd hm0 (by omega)
    | succ d ih =>
      intro i b H locs ls hm0 hbe hP hD hS hl
      have hBb : cq_B2 b := by rw [hbe]; exact gq_del_B hB h2 i (by omega)
      have hb1 : b 1 p = a 1 p := by rw [hbe]; exact gq_del_k _ _ _ _ _ _ (by omega) (by decide)
      have hb2 : i < 8 → ¬ cq_an b0 (a 1 p) / 2 ^ i % 2 = 0 → b 2 p < 8 := by rw [hbe]; exact fun x y => hq i x y
      refine lv_iload_n hx hb zd_M_deliverBatch_11 rfl (lv_at hl 0 rfl) ?_
      refine lv_bipush (v := nI 8) hx hb zd_M_deliverBatch_12 (by decide) ?_
      refine cn_icmp_ge (tgt := 51) hx hb zd_M_deliverBatch_14 (by decide) (by omega) (by omega) (fun c1 => ?_) (fun c1 => ?_)
      · exact absurd hm0 (by omega)
      · refine lv_iload_n hx hb zd_M_deliverBatch_17 rfl (lv_at hl 1 rfl) ?_
        refine lv_iload_n hx hb zd_M_deliverBatch_18 rfl (lv_at hl 0 rfl) ?_
        refine cn_ishr hx hb zd_M_deliverBatch_19 (cq_an_lt hb0) (by omega) ?_
        refine lv_iconst (v := nI 1) hx hb zd_M_deliverBatch_20 (by decide) ?_
        refine cn_mask 2 1 (by decide) (Nat.lt_of_le_of_lt (Nat.div_le_self _ _) (cq_an_lt hb0)) (by decide) (by decide) hx hb zd_M_deliverBatch_21 ?_
        refine cn_if_eq (tgt := 45) hx hb zd_M_deliverBatch_22 (by decide) (by omega) (fun c2 => ?_) (fun c2 => ?_)
        · refine lv_iinc (k := 0) (v := nI (i + 1)) hx hb zd_M_deliverBatch_45 hl rfl (cn_inc _) (by decide) rfl (fun ls hl => ?_)
          have hl : lv_has ls 4 [(3, .int (nI (i + 1))), (2, .int (nI (cq_an b0 (a 1 p)))), (0, .ref (ad (9 + 3 * p))), (1, .int (nI b0))] := hl
          refine lv_goto (tgt := 11) hx hb zd_M_deliverBatch_48 (by decide) ?_
          exact ih (i + 1) _ H locs ls (by omega) (by rw [gq_del, ← hbe, if_pos c2]) hP hD hS (lv_sub hl [0, 1, 2, 3] rfl)
        · have hb3 := hb2 (by omega) c2
          refine lv_aload_n hx hb zd_M_deliverBatch_25 rfl (lv_at hl 2 rfl) ?_
          refine va_get (D := (dC, dI)) (ci := 1) (v := .ref (ad (10 + 3 * p))) (C := zR_M) (T := zT_M) (N := 12) hx hb hts zi_M hown hK hP (9 + 3 * p) (wC_m hp) rfl 0 (by decide) (hts _ zf_M_9) (fun _ h9 => h9) rfl zd_M_deliverBatch_26 ?_
          refine lv_aload_n hx hb zd_M_deliverBatch_29 rfl (lv_at hl 2 rfl) ?_
          refine va_get (D := (dC, dI)) (ci := 1) (v := .int (nI (b 2 p))) (C := zR_M) (T := zT_M) (N := 12) hx hb hts zi_M hown hK hP (9 + 3 * p) (wC_m hp) rfl 4 (by decide) (hts _ zf_M_47) (fun _ h9 => h9) rfl zd_M_deliverBatch_30 ?_
          refine lv_iload_n hx hb zd_M_deliverBatch_33 rfl (lv_at hl 0 rfl) ?_
          refine cn_iast (f := b (40 + p)) hx hb hK hP hD hS (10 + 3 * p) 0 (wC_o hp) rfl (by omega) (by omega) zd_M_deliverBatch_34 (fun H locs hP hD hS => ?_)
          have hP : va_P (dC, dI) cq_cl (wC n ad cI cA (cq_p b (40 + p) (b 2 p) i)) H := (wC_so hp hn5) ▸ hP
          have hD : va_D A (wC n ad cI cA (cq_p b (40 + p) (b 2 p) i)) := (wC_so hp hn5) ▸ hD
          refine lv_aload_n hx hb zd_M_deliverBatch_35 rfl (lv_at hl 2 rfl) ?_
          refine lv_dup hx hb zd_M_deliverBatch_36 rfl ?_
          refine va_get (D := (dC, dI)) (ci := 1) (v := .int (nI ((cq_p b (40 + p) (b 2 p) i) 2 p))) (C := zR_M) (T := zT_M) (N := 12) hx hb hts zi_M hown hK hP (9 + 3 * p) (wC_m hp) rfl 4 (by decide) (hts _ zf_M_47) (fun _ h9 => h9) rfl zd_M_deliverBatch_37 ?_
          refine cn_top (show nI ((cq_p b (40 + p) (b 2 p) i) 2 p) = nI (b 2 p) by simp [cq_p, show ¬ 2 = 40 + p by omega]) ?_
          refine lv_iconst (v := nI 1) hx hb zd_M_deliverBatch_40 (by decide) ?_
          refine cn_iadd hx hb zd_M_deliverBatch_41 ?_
          refine va_put (D := (dC, dI)) (ci := 1) (v := .int (nI ((b 2 p) + 1))) (ty := .int) (C := zR_M) (T := zT_M) (N := 12) hx hb hts zi_M zt_M zo_M zn_M hown hK hP hD hS (9 + 3 * p) (wC_m hp) rfl 4 (by decide) (hts _ zf_M_47) (fun _ h9 => h9) rfl (by decide +kernel) rfl rfl (Nat.le_of_ble_eq_true rfl) zd_M_deliverBatch_42 (fun H locs hP hD hS => ?_)
          have hP : va_P (dC, dI) cq_cl (wC n ad cI cA (cq_p (cq_p b (40 + p) (b 2 p) i) 2 p ((b 2 p) + 1))) H := (wC_sm2 hp) ▸ hP
          have hD : va_D A (wC n ad cI cA (cq_p (cq_p b (40 + p) (b 2 p) i) 2 p ((b 2 p) + 1))) := (wC_sm2 hp) ▸ hD
          refine lv_iinc (k := 0) (v := nI (i + 1)) hx hb zd_M_deliverBatch_45 hl rfl (cn_inc _) (by decide) rfl (fun ls hl => ?_)
          have hl : lv_has ls 4 [(3, .int (nI (i + 1))), (2, .int (nI (cq_an b0 (a 1 p)))), (0, .ref (ad (9 + 3 * p))), (1, .int (nI b0))] := hl
          refine lv_goto (tgt := 11) hx hb zd_M_deliverBatch_48 (by decide) ?_
          exact ih (i + 1) _ H locs ls (by omega) (by rw [gq_del, ← hbe, if_neg c2]) hP hD hS (lv_sub hl [0, 1, 2, 3] rfl)
  exact LOOP 8 0 a _ _ ls (by omega) rfl hP hD hS (lv_sub hl [0, 1, 2, 3] rfl)

set_option maxHeartbeats 4000000 in
set_option maxRecDepth 100000 in
theorem cC_M_finishCouncil (l : Launch) (dC : Nat → ClassId) (dI : Nat → Nat → Nat) (n : Nat) (ad : Nat → Nat) (cI cA : ClassId) (a : cq_S) (hB : cq_B2 a) (hn3 : 3 ≤ n) (hn5 : n ≤ 5) (h20 : a 20 0 = n) (p : Nat) (hp : p < n) (h4 : a 4 p < 8) (hb0 : a (60 + p) (a 4 p) < 2147483648) (h2 : a 2 p ≤ 8) (hq : ∀ m, m < 8 → ¬ cq_an (a (60 + p) (a 4 p)) (a 1 p) / 2 ^ m % 2 = 0 → (gq_del (cq_an (a (60 + p) (a 4 p)) (a 1 p)) p a m) 2 p < 8) : cq_CV l zy_M_finishCouncil zw_M_finishCouncil ({ frames := 1, cells := 0, slots := 0, locals := 23 }) (dC, dI) cq_cl (wC n ad cI cA) (tysC cI cA) a [.ref (ad (9 + 3 * p))] (fun u => u = gq_finish a p) := by
  refine cq_CV.of (cc := zc_M_finishCouncil) (maxL := 1) (ret := none) (by decide) rfl (Nat.le_of_ble_eq_true rfl) ?_
  intro pr ev s mt args below meth cd A ls hx hb hrt hts hown hlocks hml hP hK hD hA hS hl
  have hown : s.vm.findClass zR_M = some mt.cls := hown
  have hl : lv_has ls 1 [(0, .ref (ad (9 + 3 * p)))] := hl
  refine lv_aload_n hx hb zd_M_finishCouncil_0 rfl (lv_at hl 0 rfl) ?_
  refine lv_aload_n hx hb zd_M_finishCouncil_1 rfl (lv_at hl 0 rfl) ?_
  refine va_get (D := (dC, dI)) (ci := 1) (v := .ref (ad (11 + 3 * p))) (C := zR_M) (T := zT_M) (N := 12) hx hb hts zi_M hown hK hP (9 + 3 * p) (wC_m hp) rfl 1 (by decide) (hts _ zf_M_15) (fun _ h9 => h9) rfl zd_M_finishCouncil_2 ?_
  refine lv_aload_n hx hb zd_M_finishCouncil_5 rfl (lv_at hl 0 rfl) ?_
  refine va_get (D := (dC, dI)) (ci := 1) (v := .int (nI (a 4 p))) (C := zR_M) (T := zT_M) (N := 12) hx hb hts zi_M hown hK hP (9 + 3 * p) (wC_m hp) rfl 6 (by decide) (hts _ zf_M_28) (fun _ h9 => h9) rfl zd_M_finishCouncil_6 ?_
  refine cn_iald (f := a (60 + p)) hx hb hK hP (11 + 3 * p) 0 (wC_v hp) rfl (by omega) (by omega) zd_M_finishCouncil_9 ?_
  refine cq_callV (C := zR_M) (As := [.int (nI (a (60 + p) (a 4 p)))]) (rest := []) ⟨hx, hb, hml, hown, hts⟩ (cC_M_deliverBatch l dC dI n ad cI cA a hB hn3 hn5 h20 p hp (a (60 + p) (a 4 p)) hb0 h2 hq) (cq_cw 1 hts zm_M_deliverBatch zl_M_31 zs_M_deliverBatch ze_M_deliverBatch zz_M rfl rfl (by decide +kernel) ⟨Nat.le_of_ble_eq_true rfl, Nat.le_of_ble_eq_true rfl⟩) hK hP hD hS hA (9 + 3 * p) (wC_m hp) rfl rfl hl.1 rfl (Nat.le_of_ble_eq_true rfl) zd_M_finishCouncil_10 ⟨Nat.zero_le _, Nat.zero_le _⟩ (fun u H locs hu hP hD hS => ?_)
  rw [show u = _ from hu] at hP hD
  clear hu
  have hz4 : (gq_batch a p (a (60 + p) (a 4 p))) 4 p = a 4 p := gq_batch_k _ _ _ _ _ (by omega) (by decide)
  refine lv_aload_n hx hb zd_M_finishCouncil_13 rfl (lv_at hl 0 rfl) ?_
  refine lv_dup hx hb zd_M_finishCouncil_14 rfl ?_
  refine va_get (D := (dC, dI)) (ci := 1) (v := .int (nI ((gq_batch a p (a (60 + p) (a 4 p))) 4 p))) (C := zR_M) (T := zT_M) (N := 12) hx hb hts zi_M hown hK hP (9 + 3 * p) (wC_m hp) rfl 6 (by decide) (hts _ zf_M_28) (fun _ h9 => h9) rfl zd_M_finishCouncil_15 ?_
  refine cn_top (show nI ((gq_batch a p (a (60 + p) (a 4 p))) 4 p) = nI (a 4 p) by rw [hz4]) ?_
  refine lv_iconst (v := nI 1) hx hb zd_M_finishCouncil_18 (by decide) ?_
  refine cn_iadd hx hb zd_M_finishCouncil_19 ?_
  refine va_put (D := (dC, dI)) (ci := 1) (v := .int (nI ((a 4 p) + 1))) (ty := .int) (C := zR_M) (T := zT_M) (N := 12) hx hb hts zi_M zt_M zo_M zn_M hown hK hP hD hS (9 + 3 * p) (wC_m hp) rfl 6 (by decide) (hts _ zf_M_28) (fun _ h9 => h9) rfl (by decide +kernel) rfl rfl (Nat.le_of_ble_eq_true rfl) zd_M_finishCouncil_20 (fun H locs hP hD hS => ?_)
  have hP : va_P (dC, dI) cq_cl (wC n ad cI cA (cq_p (gq_batch a p (a (60 + p) (a 4 p))) 4 p ((a 4 p) + 1))) H := (wC_sm4 hp) ▸ hP
  have hD : va_D A (wC n ad cI cA (cq_p (gq_batch a p (a (60 + p) (a 4 p))) 4 p ((a 4 p) + 1))) := (wC_sm4 hp) ▸ hD
  refine lv_aload_n hx hb zd_M_finishCouncil_23 rfl (lv_at hl 0 rfl) ?_
  refine lv_iconst (v := nI 0) hx hb zd_M_finishCouncil_24 (by decide) ?_
  refine va_put (D := (dC, dI)) (ci := 1) (v := .int (nI 0)) (ty := .int) (C := zR_M) (T := zT_M) (N := 12) hx hb hts zi_M zt_M zo_M zn_M hown hK hP hD hS (9 + 3 * p) (wC_m hp) rfl 7 (by decide) (hts _ zf_M_35) (fun _ h9 => h9) rfl (by decide +kernel) rfl rfl (Nat.le_of_ble_eq_true rfl) zd_M_finishCouncil_25 (fun H locs hP hD hS => ?_)
  have hP : va_P (dC, dI) cq_cl (wC n ad cI cA (cq_p (cq_p (gq_batch a p (a (60 + p) (a 4 p))) 4 p ((a 4 p) + 1)) 7 p 0)) H := (wC_sm7 hp) ▸ hP
  have hD : va_D A (wC n ad cI cA (cq_p (cq_p (gq_batch a p (a (60 + p) (a 4 p))) 4 p ((a 4 p) + 1)) 7 p 0)) := (wC_sm7 hp) ▸ hD
  refine lv_aload_n hx hb zd_M_finishCouncil_28 rfl (lv_at hl 0 rfl) ?_
  refine lv_iconst (v := nI 0) hx hb zd_M_finishCouncil_29 (by decide) ?_
  refine va_put (D := (dC, dI)) (ci := 1) (v := .int (nI 0)) (ty := .int) (C := zR_M) (T := zT_M) (N := 12) hx hb hts zi_M zt_M zo_M zn_M hown hK hP hD hS (9 + 3 * p) (wC_m hp) rfl 8 (by decide) (hts _ zf_M_38) (fun _ h9 => h9) rfl (by decide +kernel) rfl rfl (Nat.le_of_ble_eq_true rfl) zd_M_finishCouncil_30 (fun H locs hP hD hS => ?_)
  have hP : va_P (dC, dI) cq_cl (wC n ad cI cA (cq_p (cq_p (cq_p (gq_batch a p (a (60 + p) (a 4 p))) 4 p ((a 4 p) + 1)) 7 p 0) 8 p 0)) H := (wC_sm8 hp) ▸ hP
  have hD : va_D A (wC n ad cI cA (cq_p (cq_p (cq_p (gq_batch a p (a (60 + p) (a 4 p))) 4 p ((a 4 p) + 1)) 7 p 0) 8 p 0)) := (wC_sm8 hp) ▸ hD
  refine lv_aload_n hx hb zd_M_finishCouncil_33 rfl (lv_at hl 0 rfl) ?_
  refine lv_iconst (v := nI 0) hx hb zd_M_finishCouncil_34 (by decide) ?_
  refine va_put (D := (dC, dI)) (ci := 1) (v := .int (nI 0)) (ty := .int) (C := zR_M) (T := zT_M) (N := 12) hx hb hts zi_M zt_M zo_M zn_M hown hK hP hD hS (9 + 3 * p) (wC_m hp) rfl 9 (by decide) (hts _ zf_M_41) (fun _ h9 => h9) rfl (by decide +kernel) rfl rfl (Nat.le_of_ble_eq_true rfl) zd_M_finishCouncil_35 (fun H locs hP hD hS => ?_)
  have hP : va_P (dC, dI) cq_cl (wC n ad cI cA (cq_p (cq_p (cq_p (cq_p (gq_batch a p (a (60 + p) (a 4 p))) 4 p ((a 4 p) + 1)) 7 p 0) 8 p 0) 9 p 0)) H := (wC_sm9 hp) ▸ hP
  have hD : va_D A (wC n ad cI cA (cq_p (cq_p (cq_p (cq_p (gq_batch a p (a (60 + p) (a 4 p))) 4 p ((a 4 p) + 1)) 7 p 0) 8 p 0) 9 p 0)) := (wC_sm9 hp) ▸ hD
  refine lv_aload_n hx hb zd_M_finishCouncil_38 rfl (lv_at hl 0 rfl) ?_
  refine lv_iconst (v := nI 0) hx hb zd_M_finishCouncil_39 (by decide) ?_
  refine va_put (D := (dC, dI)) (ci := 1) (v := .int (nI 0)) (ty := .int) (C := zR_M) (T := zT_M) (N := 12) hx hb hts zi_M zt_M zo_M zn_M hown hK hP hD hS (9 + 3 * p) (wC_m hp) rfl 10 (by decide) (hts _ zf_M_44) (fun _ h9 => h9) rfl (by decide +kernel) rfl rfl (Nat.le_of_ble_eq_true rfl) zd_M_finishCouncil_40 (fun H locs hP hD hS => ?_)
  have hP : va_P (dC, dI) cq_cl (wC n ad cI cA (cq_p (cq_p (cq_p (cq_p (cq_p (gq_batch a p (a (60 + p) (a 4 p))) 4 p ((a 4 p) + 1)) 7 p 0) 8 p 0) 9 p 0) 10 p 0)) H := (wC_sm10 hp) ▸ hP
  have hD : va_D A (wC n ad cI cA (cq_p (cq_p (cq_p (cq_p (cq_p (gq_batch a p (a (60 + p) (a 4 p))) 4 p ((a 4 p) + 1)) 7 p 0) 8 p 0) 9 p 0) 10 p 0)) := (wC_sm10 hp) ▸ hD
  exact cq_vret (u := (cq_p (cq_p (cq_p (cq_p (cq_p (gq_batch a p (a (60 + p) (a 4 p))) 4 p ((a 4 p) + 1)) 7 p 0) 8 p 0) 9 p 0) 10 p 0)) hx hb hrt hlocks hK hP hD hS rfl zd_M_finishCouncil_43

set_option maxHeartbeats 4000000 in
set_option maxRecDepth 100000 in
theorem cC_Q_votesOf (l : Launch) (dC : Nat → ClassId) (dI : Nat → Nat → Nat) (n : Nat) (ad : Nat → Nat) (cI cA : ClassId) (a : cq_S) (hB : cq_B2 a) (hn3 : 3 ≤ n) (hn5 : n ≤ 5) (h20 : a 20 0 = n) (c r : Nat) (hc : c < 8) (hr1 : 1 ≤ r) (hr : r ≤ 10) (hy : a 27 (c * 10 + r - 1) < 32) (hz : a 28 (c * 10 + r - 1) < 32) : cq_CI l zy_Q_votesOf zw_Q_votesOf ({ frames := 1, cells := 0, slots := 0, locals := 21 }) (dC, dI) cq_cl (wC n ad cI cA) (tysC cI cA) a [.ref (ad 4), .int (nI c), .int (nI r)] (fun r0 u => r0 = nI (gq_vOf a c r) ∧ u = a) := by
  refine cq_CI.of (cc := zc_Q_votesOf) (maxL := 4) (ret := (some .int)) (by decide) rfl (Nat.le_of_ble_eq_true rfl) ?_
  intro pr ev s mt args below meth cd A ls hx hb hrt hts hown hlocks hml hP hK hD hA hS hl
  have hown : s.vm.findClass zR_Q = some mt.cls := hown
  have hl : lv_has ls 4 [(0, .ref (ad 4)), (1, .int (nI c)), (2, .int (nI r))] := hl
  refine lv_iload_n hx hb zd_Q_votesOf_0 rfl (lv_at hl 1 rfl) ?_
  refine lv_iload_n hx hb zd_Q_votesOf_1 rfl (lv_at hl 2 rfl) ?_
  refine cq_callSI (As := [.int (nI c), .int (nI r)]) (rest := []) ⟨hx, hb, hml, hown, hts⟩ (cC_Q_row l dC dI n ad cI cA a c r hr1) (cq_cwS 2 hts zm_Q_row zl_Q_32 zs_Q_row zz_Q rfl rfl (by decide +kernel) ⟨Nat.le_of_ble_eq_true rfl, Nat.le_of_ble_eq_true rfl⟩) hK hP hD hS hA rfl hl.1 rfl (Nat.le_of_ble_eq_true rfl) zd_Q_votesOf_2 ⟨Nat.zero_le _, Nat.zero_le _⟩ (fun r0 u H locs hu hP hD hS => ?_)
  obtain ⟨hr0, hue⟩ := hu
  subst hr0
  rw [hue] at hP hD
  clear hue
  refine lv_istore_n hx hb zd_Q_votesOf_5 rfl hl (by decide) rfl (fun ls hl => ?_)
  have hl : lv_has ls 4 [(3, .int (nI (c * 10 + r - 1))), (0, .ref (ad 4)), (1, .int (nI c)), (2, .int (nI r))] := hl
  refine lv_aload_n hx hb zd_Q_votesOf_6 rfl (lv_at hl 1 rfl) ?_
  refine va_get (D := (dC, dI)) (ci := 3) (v := .ref (ad 7)) (C := zR_Q) (T := zT_Q) (N := 5) hx hb hts zi_Q hown hK hP 4 (wC_at 4 (by omega)) rfl 3 (by decide) (hts _ zf_Q_22) (fun _ h9 => h9) rfl zd_Q_votesOf_7 ?_
  refine lv_iload_n hx hb zd_Q_votesOf_10 rfl (lv_at hl 0 rfl) ?_
  refine cn_iald (f := a 27) hx hb hK hP 7 0 (wC_at 7 (by omega)) rfl (by omega) (by omega) zd_Q_votesOf_11 ?_
  refine lv_aload_n hx hb zd_Q_votesOf_12 rfl (lv_at hl 1 rfl) ?_
  refine va_get (D := (dC, dI)) (ci := 3) (v := .ref (ad 8)) (C := zR_Q) (T := zT_Q) (N := 5) hx hb hts zi_Q hown hK hP 4 (wC_at 4 (by omega)) rfl 4 (by decide) (hts _ zf_Q_25) (fun _ h9 => h9) rfl zd_Q_votesOf_13 ?_
  refine lv_iload_n hx hb zd_Q_votesOf_16 rfl (lv_at hl 0 rfl) ?_
  refine cn_iald (f := a 28) hx hb hK hP 8 0 (wC_at 8 (by omega)) rfl (by omega) (by omega) zd_Q_votesOf_17 ?_
  refine cn_ior hx hb zd_Q_votesOf_18 ?_
  refine cq_callSI (As := [.int (nI ((a 27 (c * 10 + r - 1)) ||| (a 28 (c * 10 + r - 1))))]) (rest := []) ⟨hx, hb, hml, hown, hts⟩ (cC_I_bitCount l dC dI n ad cI cA a ((a 27 (c * 10 + r - 1)) ||| (a 28 (c * 10 + r - 1))) (Nat.or_lt_two_pow (n := 5) hy hz)) (cq_cwS 1 hts zm_I_bitCount zl_Q_36 zs_I_bitCount zz_I rfl rfl (by decide +kernel) ⟨Nat.le_of_ble_eq_true rfl, Nat.le_of_ble_eq_true rfl⟩) hK hP hD hS hA rfl hl.1 rfl (Nat.le_of_ble_eq_true rfl) zd_Q_votesOf_19 ⟨Nat.zero_le _, Nat.zero_le _⟩ (fun r0 u H locs hu hP hD hS => ?_)
  obtain ⟨hr0, hue⟩ := hu
  subst hr0
  rw [hue] at hP hD
  clear hue
  exact cq_ret (u := a) hx hb hrt ⟨_, rfl, rfl⟩ hlocks hK hP hD hS ⟨rfl, rfl⟩ zd_Q_votesOf_22

set_option maxHeartbeats 4000000 in
set_option maxRecDepth 100000 in
theorem cC_P_loseLatest (l : Launch) (dC : Nat → ClassId) (dI : Nat → Nat → Nat) (n : Nat) (ad : Nat → Nat) (cI cA : ClassId) (a : cq_S) (hB : cq_B2 a) (hn3 : 3 ≤ n) (hn5 : n ≤ 5) (h20 : a 20 0 = n) (p m0 : Nat) (hp : p < 8) (hm0 : m0 ≤ 20) (hc : a 23 0 ≤ gq_room n) : cq_CV l zy_P_loseLatest zw_P_loseLatest ({ frames := 2, cells := 0, slots := 0, locals := 39 }) (dC, dI) cq_cl (wC n ad cI cA) (tysC cI cA) a [.ref (ad 2), .int (nI p), .int (nI m0)] (fun u => u = gq_lose p (a 23 0) m0 a) := by
  refine cq_CV.of (cc := zc_P_loseLatest) (maxL := 5) (ret := none) (by decide) rfl (Nat.le_of_ble_eq_true rfl) ?_
  intro pr ev s mt args below meth cd A ls hx hb hrt hts hown hlocks hml hP hK hD hA hS hl
  have hown : s.vm.findClass zR_P = some mt.cls := hown
  have hl : lv_has ls 5 [(0, .ref (ad 2)), (1, .int (nI p)), (2, .int (nI m0))] := hl
  have hroom : gq_room n < 2147483648 := gq_room_lt hn5
  refine lv_iload_n hx hb zd_P_loseLatest_0 rfl (lv_at hl 2 rfl) ?_
  refine lv_istore_n hx hb zd_P_loseLatest_1 rfl hl (by decide) rfl (fun ls hl => ?_)
  have hl : lv_has ls 5 [(3, .int (nI m0)), (0, .ref (ad 2)), (1, .int (nI p)), (2, .int (nI m0))] := hl
  refine lv_aload_n hx hb zd_P_loseLatest_2 rfl (lv_at hl 1 rfl) ?_
  refine va_get (D := (dC, dI)) (ci := 2) (v := .int (nI (a 23 0))) (C := zR_P) (T := zT_P) (N := 2) hx hb hts zi_P hown hK hP 2 (wC_at 2 (by omega)) rfl 1 (by decide) (hts _ zf_P_19) (fun _ h9 => h9) rfl zd_P_loseLatest_3 ?_
  refine lv_iconst (v := nI 1) hx hb zd_P_loseLatest_6 (by decide) ?_
  refine lv_isub hx hb zd_P_loseLatest_7 ?_
  refine cn_top (cq_dn_0 _) ?_
  refine lv_istore hx hb zd_P_loseLatest_8 hl (by decide) rfl (fun ls hl => ?_)
  have hl : lv_has ls 5 [(4, .int (cq_dn (a 23 0))), (3, .int (nI m0)), (0, .ref (ad 2)), (1, .int (nI p)), (2, .int (nI m0))] := hl
  have LOOP : ∀ (d m : Nat) (b : cq_S) (H : Heap) (locs : List Loc) (ls : Array Slot), d ≤ b 23 0 → m ≤ 20 → cq_B2 b → b 20 0 = n → b 23 0 ≤ gq_room n → va_P (dC, dI) cq_cl (wC n ad cI cA b) H → va_D A (wC n ad cI cA b) → va_S A s.heap H locs → lv_has ls 5 [(4, .int (cq_dn d)), (3, .int (nI m)), (0, .ref (ad 2)), (1, .int (nI p)), (2, .int (nI m0))] → gq_lose p d m b = gq_lose p (a 23 0) m0 a → W pr l ev ({ frames := 2, cells := 0, slots := 0, locals := 39 }) s mt args below meth cd H locs 0 0 (MQ below (va_Qv (fun u => u = gq_lose p (a 23 0) m0 a) (cq_at (dC, dI) cq_cl (wC n ad cI cA) (tysC cI cA) A) A) args s 0 0 A) (F0 mt 10 ls []) := by
    intro d
    induction d with
    | zero =>
      intro m b H locs ls hd hm20 hBb hb20 hbr hP hD hS hl hfin
      refine lv_iload hx hb zd_P_loseLatest_10 (lv_at hl 0 rfl) ?_
      refine lv_if_lt (tgt := 44) hx hb zd_P_loseLatest_12 (by decide) (fun c1 => ?_) (fun c1 => ?_)
      · exact cq_vret (u := b) hx hb hrt hlocks hK hP hD hS hfin zd_P_loseLatest_44
      · exact absurd (by decide) c1
    | succ d ih =>
      intro m b H locs ls hd hm20 hBb hb20 hbr hP hD hS hl hfin
      have hl : lv_has ls 5 [(4, .int (nI d)), (3, .int (nI m)), (0, .ref (ad 2)), (1, .int (nI p)), (2, .int (nI m0))] := hl
      refine lv_iload hx hb zd_P_loseLatest_10 (lv_at hl 0 rfl) ?_
      refine lv_if_lt (tgt := 44) hx hb zd_P_loseLatest_12 (by decide) (fun c1 => ?_) (fun c1 => ?_)
      · exact absurd c1 (nI_pos (by omega))
      · refine lv_iload_n hx hb zd_P_loseLatest_15 rfl (lv_at hl 1 rfl) ?_
        refine lv_if_le (tgt := 44) hx hb zd_P_loseLatest_16 (by decide) (fun c2 => ?_) (fun c2 => ?_)
        · have hm1 : m = 0 := Decidable.byContradiction (fun hz => nI_nle (by omega) (by omega) c2)
          exact cq_vret (u := b) hx hb hrt hlocks hK hP hD hS (by rw [gq_lose, if_pos hm1] at hfin; exact hfin) zd_P_loseLatest_44
        · have hm1 : ¬ m = 0 := fun hz => c2 (by rw [hz]; decide)
          refine lv_aload_n hx hb zd_P_loseLatest_19 rfl (lv_at hl 2 rfl) ?_
          refine lv_iload hx hb zd_P_loseLatest_20 (lv_at hl 0 rfl) ?_
          refine lv_iload_n hx hb zd_P_loseLatest_22 rfl (lv_at hl 3 rfl) ?_
          refine cq_callI (C := zR_P) (As := [.int (nI d), .int (nI p)]) (rest := []) ⟨hx, hb, hml, hown, hts⟩ (cC_P_comesFrom l dC dI n ad cI cA b hBb hn3 hn5 hb20 d p (by omega) hp) (cq_cw 2 hts zm_P_comesFrom zl_P_36 zs_P_comesFrom ze_P_comesFrom zz_P rfl rfl (by decide +kernel) ⟨Nat.le_of_ble_eq_true rfl, Nat.le_of_ble_eq_true rfl⟩) hK hP hD hS hA 2 (wC_at 2 (by omega)) rfl rfl hl.1 rfl (Nat.le_of_ble_eq_true rfl) zd_P_loseLatest_23 ⟨Nat.zero_le _, Nat.zero_le _⟩ (fun r0 u H locs hu hP hD hS => ?_)
          obtain ⟨hr0, hue⟩ := hu
          subst hr0
          rw [hue] at hP hD
          clear hue
          refine cn_if_eq (tgt := 38) hx hb zd_P_loseLatest_26 (by decide) (Nat.lt_trans (gq_from_2 _ _ _) (by decide)) (fun c3 => ?_) (fun c3 => ?_)
          · refine lv_iinc (k := 0) (v := (cq_dn d)) hx hb zd_P_loseLatest_38 hl rfl (cq_dn_1 d) (by decide) rfl (fun ls hl => ?_)
            have hl : lv_has ls 5 [(4, .int (cq_dn d)), (3, .int (nI m)), (0, .ref (ad 2)), (1, .int (nI p)), (2, .int (nI m0))] := hl
            refine lv_goto (tgt := 10) hx hb zd_P_loseLatest_41 (by decide) ?_
            exact ih _ _ H locs ls (by omega) hm20 hBb hb20 hbr hP hD hS (lv_sub hl [0, 1, 2, 3, 4] rfl) (by rw [gq_lose, if_neg hm1, if_pos c3] at hfin; exact hfin)
          · refine lv_aload_n hx hb zd_P_loseLatest_29 rfl (lv_at hl 2 rfl) ?_
            refine lv_iload hx hb zd_P_loseLatest_30 (lv_at hl 0 rfl) ?_
            refine cq_callV (C := zR_P) (As := [.int (nI d)]) (rest := []) ⟨hx, hb, hml, hown, hts⟩ (cC_P_takeAway l dC dI n ad cI cA b hBb hn3 hn5 hb20 d (by omega) (by omega)) (cq_cw 1 hts zm_P_takeAway zl_P_40 zs_P_takeAway ze_P_takeAway zz_P rfl rfl (by decide +kernel) ⟨Nat.le_of_ble_eq_true rfl, Nat.le_of_ble_eq_true rfl⟩) hK hP hD hS hA 2 (wC_at 2 (by omega)) rfl rfl hl.1 rfl (Nat.le_of_ble_eq_true rfl) zd_P_loseLatest_32 ⟨Nat.zero_le _, Nat.zero_le _⟩ (fun u H locs hu hP hD hS => ?_)
            rw [show u = _ from hu] at hP hD
            clear hu
            refine lv_iinc (k := 1) (v := (nI (m - 1))) hx hb zd_P_loseLatest_35 hl rfl (cn_dec c2) (by decide) rfl (fun ls hl => ?_)
            have hl : lv_has ls 5 [(3, .int (nI (m - 1))), (4, .int (nI d)), (0, .ref (ad 2)), (1, .int (nI p)), (2, .int (nI m0))] := hl
            refine lv_iinc (k := 1) (v := (cq_dn d)) hx hb zd_P_loseLatest_38 hl rfl (cq_dn_1 d) (by decide) rfl (fun ls hl => ?_)
            have hl : lv_has ls 5 [(4, .int (cq_dn d)), (3, .int (nI (m - 1))), (0, .ref (ad 2)), (1, .int (nI p)), (2, .int (nI m0))] := hl
            refine lv_goto (tgt := 10) hx hb zd_P_loseLatest_41 (by decide) ?_
            exact ih _ _ H locs ls (by rw [gq_take_n]; omega) (by omega) (gq_take_B hBb) (by rw [gq_take_k _ _ _ _ (by decide)]; exact hb20) (by rw [gq_take_n]; omega) hP hD hS (lv_sub hl [0, 1, 2, 3, 4] rfl) (by rw [gq_lose, if_neg hm1, if_neg c3] at hfin; exact hfin)
  exact LOOP (a 23 0) m0 a _ _ ls (Nat.le_refl _) hm0 hB h20 hc hP hD hS (lv_sub hl [0, 1, 2, 3, 4] rfl) rfl

