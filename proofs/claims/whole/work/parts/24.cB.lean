set_option maxHeartbeats 4000000 in
set_option maxRecDepth 100000 in
theorem cC_P_send (l : Launch) (dC : Nat → ClassId) (dI : Nat → Nat → Nat) (n : Nat) (ad : Nat → Nat) (cI cA : ClassId) (a : cq_S) (hB : cq_B2 a) (hn3 : 3 ≤ n) (hn5 : n ≤ 5) (h20 : a 20 0 = n) (p q t : Nat) (hp : p < 8) (hq : q < 8) : cq_CV l zy_P_send zw_P_send ({ frames := 0, cells := 0, slots := 0, locals := 0 }) (dC, dI) cq_cl (wC n ad cI cA) (tysC cI cA) a [.ref (ad 2), .int (nI p), .int (nI q), .int (nI t)] (fun u => u = gq_send a p q t) := by
  refine cq_CV.of (cc := zc_P_send) (maxL := 4) (ret := none) (by decide) rfl (Nat.le_of_ble_eq_true rfl) ?_
  intro pr ev s mt args below meth cd A ls hx hb hrt hts hown hlocks hml hP hK hD hA hS hl
  have hown : s.vm.findClass zR_P = some mt.cls := hown
  have hl : lv_has ls 4 [(0, .ref (ad 2)), (1, .int (nI p)), (2, .int (nI q)), (3, .int (nI t))] := hl
  have hroom : gq_room n < 2147483648 := gq_room_lt hn5
  have hpq : (p * 2 ^ 3 ||| q) < 64 := Nat.or_lt_two_pow (n := 6) (by omega) (by omega)
  refine lv_aload_n hx hb zd_P_send_0 rfl (lv_at hl 0 rfl) ?_
  refine va_get (D := (dC, dI)) (ci := 2) (v := .int (nI (a 23 0))) (C := zR_P) (T := zT_P) (N := 2) hx hb hts zi_P hown hK hP 2 (wC_at 2 (by omega)) rfl 1 (by decide) (hts _ zf_P_19) (fun _ h9 => h9) rfl zd_P_send_1 ?_
  refine lv_aload_n hx hb zd_P_send_4 rfl (lv_at hl 0 rfl) ?_
  refine va_get (D := (dC, dI)) (ci := 2) (v := .ref (ad 3)) (C := zR_P) (T := zT_P) (N := 2) hx hb hts zi_P hown hK hP 2 (wC_at 2 (by omega)) rfl 0 (by decide) (hts _ zf_P_15) (fun _ h9 => h9) rfl zd_P_send_5 ?_
  refine va_alen (v := nI (gq_room n)) hx hb hK hP 3 0 (wC_at 3 (by omega)) rfl rfl zd_P_send_8 ?_
  refine cn_icmp_ge (tgt := 41) hx hb zd_P_send_9 (by decide) (hB _ _ (by decide)) (by omega) (fun c1 => ?_) (fun c1 => ?_)
  · exact cq_vret (u := a) hx hb hrt hlocks hK hP hD hS (by unfold gq_send; rw [h20, if_pos c1]) zd_P_send_41
  · refine lv_aload_n hx hb zd_P_send_12 rfl (lv_at hl 0 rfl) ?_
    refine va_get (D := (dC, dI)) (ci := 2) (v := .ref (ad 3)) (C := zR_P) (T := zT_P) (N := 2) hx hb hts zi_P hown hK hP 2 (wC_at 2 (by omega)) rfl 0 (by decide) (hts _ zf_P_15) (fun _ h9 => h9) rfl zd_P_send_13 ?_
    refine lv_aload_n hx hb zd_P_send_16 rfl (lv_at hl 0 rfl) ?_
    refine va_get (D := (dC, dI)) (ci := 2) (v := .int (nI (a 23 0))) (C := zR_P) (T := zT_P) (N := 2) hx hb hts zi_P hown hK hP 2 (wC_at 2 (by omega)) rfl 1 (by decide) (hts _ zf_P_19) (fun _ h9 => h9) rfl zd_P_send_17 ?_
    refine lv_iload_n hx hb zd_P_send_20 rfl (lv_at hl 1 rfl) ?_
    refine lv_iconst (v := nI 3) hx hb zd_P_send_21 (by decide) ?_
    refine cn_ishl hx hb zd_P_send_22 (by omega) (by omega) ?_
    refine lv_iload_n hx hb zd_P_send_23 rfl (lv_at hl 2 rfl) ?_
    refine cn_ior hx hb zd_P_send_24 ?_
    refine lv_bipush (v := nI 22) hx hb zd_P_send_25 (by decide) ?_
    refine cn_ishl hx hb zd_P_send_27 (by omega) (by omega) ?_
    refine lv_iload_n hx hb zd_P_send_28 rfl (lv_at hl 3 rfl) ?_
    refine cn_ior hx hb zd_P_send_29 ?_
    refine cn_iast (f := a 24) hx hb hK hP hD hS 3 0 (wC_at 3 (by omega)) rfl (by omega) (by first | omega | exact hroom) zd_P_send_30 (fun H locs hP hD hS => ?_)
    have hP : va_P (dC, dI) cq_cl (wC n ad cI cA (cq_p a 24 (a 23 0) ((((p * 2 ^ 3) ||| q) * 2 ^ 22) ||| t))) H := (wC_sa24) ▸ hP
    have hD : va_D A (wC n ad cI cA (cq_p a 24 (a 23 0) ((((p * 2 ^ 3) ||| q) * 2 ^ 22) ||| t))) := (wC_sa24) ▸ hD
    refine lv_aload_n hx hb zd_P_send_31 rfl (lv_at hl 0 rfl) ?_
    refine lv_dup hx hb zd_P_send_32 rfl ?_
    refine va_get (D := (dC, dI)) (ci := 2) (v := .int (nI (a 23 0))) (C := zR_P) (T := zT_P) (N := 2) hx hb hts zi_P hown hK hP 2 (wC_at 2 (by omega)) rfl 1 (by decide) (hts _ zf_P_19) (fun _ h9 => h9) rfl zd_P_send_33 ?_
    refine lv_iconst (v := nI 1) hx hb zd_P_send_36 (by decide) ?_
    refine cn_iadd hx hb zd_P_send_37 ?_
    refine va_put (D := (dC, dI)) (ci := 2) (v := .int (nI ((a 23 0) + 1))) (ty := .int) (C := zR_P) (T := zT_P) (N := 2) hx hb hts zi_P zt_P zo_P zn_P hown hK hP hD hS 2 (wC_at 2 (by omega)) rfl 1 (by decide) (hts _ zf_P_19) (fun _ h9 => h9) rfl (by decide +kernel) rfl rfl (Nat.le_of_ble_eq_true rfl) zd_P_send_38 (fun H locs hP hD hS => ?_)
    have hP : va_P (dC, dI) cq_cl (wC n ad cI cA (cq_p (cq_p a 24 (a 23 0) ((((p * 2 ^ 3) ||| q) * 2 ^ 22) ||| t)) 23 0 ((a 23 0) + 1))) H := (wC_sc23) ▸ hP
    have hD : va_D A (wC n ad cI cA (cq_p (cq_p a 24 (a 23 0) ((((p * 2 ^ 3) ||| q) * 2 ^ 22) ||| t)) 23 0 ((a 23 0) + 1))) := (wC_sc23) ▸ hD
    exact cq_vret (u := (cq_p (cq_p a 24 (a 23 0) ((((p * 2 ^ 3) ||| q) * 2 ^ 22) ||| t)) 23 0 ((a 23 0) + 1))) hx hb hrt hlocks hK hP hD hS (by unfold gq_send; rw [h20, if_neg c1]; rfl) zd_P_send_41

set_option maxHeartbeats 4000000 in
set_option maxRecDepth 100000 in
theorem cC_P_goes (l : Launch) (dC : Nat → ClassId) (dI : Nat → Nat → Nat) (n : Nat) (ad : Nat → Nat) (cI cA : ClassId) (a : cq_S) (hB : cq_B2 a) (hn3 : 3 ≤ n) (hn5 : n ≤ 5) (h20 : a 20 0 = n) (i p q : Nat) (hi : i < gq_room n) (hp : p < 8) (hq : q < 8) : cq_CI l zy_P_goes zw_P_goes ({ frames := 0, cells := 0, slots := 0, locals := 0 }) (dC, dI) cq_cl (wC n ad cI cA) (tysC cI cA) a [.ref (ad 2), .int (nI i), .int (nI p), .int (nI q)] (fun r0 u => r0 = nI (gq_goes a i p q) ∧ u = a) := by
  refine cq_CI.of (cc := zc_P_goes) (maxL := 4) (ret := (some .boolean)) (by decide) rfl (Nat.le_of_ble_eq_true rfl) ?_
  intro pr ev s mt args below meth cd A ls hx hb hrt hts hown hlocks hml hP hK hD hA hS hl
  have hown : s.vm.findClass zR_P = some mt.cls := hown
  have hl : lv_has ls 4 [(0, .ref (ad 2)), (1, .int (nI i)), (2, .int (nI p)), (3, .int (nI q))] := hl
  have hroom : gq_room n < 2147483648 := gq_room_lt hn5
  have hpq : (p * 2 ^ 3 ||| q) < 64 := Nat.or_lt_two_pow (n := 6) (by omega) (by omega)
  refine lv_aload_n hx hb zd_P_goes_0 rfl (lv_at hl 0 rfl) ?_
  refine va_get (D := (dC, dI)) (ci := 2) (v := .ref (ad 3)) (C := zR_P) (T := zT_P) (N := 2) hx hb hts zi_P hown hK hP 2 (wC_at 2 (by omega)) rfl 0 (by decide) (hts _ zf_P_15) (fun _ h9 => h9) rfl zd_P_goes_1 ?_
  refine lv_iload_n hx hb zd_P_goes_4 rfl (lv_at hl 1 rfl) ?_
  refine cn_iald (f := a 24) hx hb hK hP 3 0 (wC_at 3 (by omega)) rfl (by omega) (by first | omega | exact hroom) zd_P_goes_5 ?_
  refine lv_bipush (v := nI 22) hx hb zd_P_goes_6 (by decide) ?_
  refine cn_ishr hx hb zd_P_goes_8 (hB _ _ (by decide)) (by omega) ?_
  refine lv_iload_n hx hb zd_P_goes_9 rfl (lv_at hl 2 rfl) ?_
  refine lv_iconst (v := nI 3) hx hb zd_P_goes_10 (by decide) ?_
  refine cn_ishl hx hb zd_P_goes_11 (by omega) (by omega) ?_
  refine lv_iload_n hx hb zd_P_goes_12 rfl (lv_at hl 3 rfl) ?_
  refine cn_ior hx hb zd_P_goes_13 ?_
  refine cn_icmp_ne (tgt := 21) hx hb zd_P_goes_14 (by decide) (Nat.lt_of_le_of_lt (Nat.div_le_self _ _) (hB _ _ (by decide))) (by omega) (fun c1 => ?_) (fun c1 => ?_)
  · refine lv_iconst (v := nI 0) hx hb zd_P_goes_21 (by decide) ?_
    exact cq_ret (u := a) hx hb hrt ⟨_, rfl, rfl⟩ hlocks hK hP hD hS ⟨by simp [gq_goes, c1], rfl⟩ zd_P_goes_22
  · refine lv_iconst (v := nI 1) hx hb zd_P_goes_17 (by decide) ?_
    refine lv_goto (tgt := 22) hx hb zd_P_goes_18 (by decide) ?_
    exact cq_ret (u := a) hx hb hrt ⟨_, rfl, rfl⟩ hlocks hK hP hD hS ⟨by simp [gq_goes, c1], rfl⟩ zd_P_goes_22

set_option maxHeartbeats 4000000 in
set_option maxRecDepth 100000 in
theorem cC_P_comesFrom (l : Launch) (dC : Nat → ClassId) (dI : Nat → Nat → Nat) (n : Nat) (ad : Nat → Nat) (cI cA : ClassId) (a : cq_S) (hB : cq_B2 a) (hn3 : 3 ≤ n) (hn5 : n ≤ 5) (h20 : a 20 0 = n) (i p : Nat) (hi : i < gq_room n) (hp : p < 8) : cq_CI l zy_P_comesFrom zw_P_comesFrom ({ frames := 0, cells := 0, slots := 0, locals := 0 }) (dC, dI) cq_cl (wC n ad cI cA) (tysC cI cA) a [.ref (ad 2), .int (nI i), .int (nI p)] (fun r0 u => r0 = nI (gq_from a i p) ∧ u = a) := by
  refine cq_CI.of (cc := zc_P_comesFrom) (maxL := 3) (ret := (some .boolean)) (by decide) rfl (Nat.le_of_ble_eq_true rfl) ?_
  intro pr ev s mt args below meth cd A ls hx hb hrt hts hown hlocks hml hP hK hD hA hS hl
  have hown : s.vm.findClass zR_P = some mt.cls := hown
  have hl : lv_has ls 3 [(0, .ref (ad 2)), (1, .int (nI i)), (2, .int (nI p))] := hl
  have hroom : gq_room n < 2147483648 := gq_room_lt hn5
  refine lv_aload_n hx hb zd_P_comesFrom_0 rfl (lv_at hl 0 rfl) ?_
  refine va_get (D := (dC, dI)) (ci := 2) (v := .ref (ad 3)) (C := zR_P) (T := zT_P) (N := 2) hx hb hts zi_P hown hK hP 2 (wC_at 2 (by omega)) rfl 0 (by decide) (hts _ zf_P_15) (fun _ h9 => h9) rfl zd_P_comesFrom_1 ?_
  refine lv_iload_n hx hb zd_P_comesFrom_4 rfl (lv_at hl 1 rfl) ?_
  refine cn_iald (f := a 24) hx hb hK hP 3 0 (wC_at 3 (by omega)) rfl (by omega) (by first | omega | exact hroom) zd_P_comesFrom_5 ?_
  refine lv_bipush (v := nI 22) hx hb zd_P_comesFrom_6 (by decide) ?_
  refine cn_ishr hx hb zd_P_comesFrom_8 (hB _ _ (by decide)) (by omega) ?_
  refine lv_iconst (v := nI 3) hx hb zd_P_comesFrom_9 (by decide) ?_
  refine cn_ishr hx hb zd_P_comesFrom_10 (Nat.lt_of_le_of_lt (Nat.div_le_self _ _) (hB _ _ (by decide))) (by omega) ?_
  refine lv_iload_n hx hb zd_P_comesFrom_11 rfl (lv_at hl 2 rfl) ?_
  refine cn_icmp_ne (tgt := 19) hx hb zd_P_comesFrom_12 (by decide) (Nat.lt_of_le_of_lt (Nat.div_le_self _ _) (Nat.lt_of_le_of_lt (Nat.div_le_self _ _) (hB _ _ (by decide)))) (by omega) (fun c1 => ?_) (fun c1 => ?_)
  · refine lv_iconst (v := nI 0) hx hb zd_P_comesFrom_19 (by decide) ?_
    exact cq_ret (u := a) hx hb hrt ⟨_, rfl, rfl⟩ hlocks hK hP hD hS ⟨by simp [gq_from, c1], rfl⟩ zd_P_comesFrom_20
  · refine lv_iconst (v := nI 1) hx hb zd_P_comesFrom_15 (by decide) ?_
    refine lv_goto (tgt := 20) hx hb zd_P_comesFrom_16 (by decide) ?_
    exact cq_ret (u := a) hx hb hrt ⟨_, rfl, rfl⟩ hlocks hK hP hD hS ⟨by simp [gq_from, c1], rfl⟩ zd_P_comesFrom_20

set_option maxHeartbeats 4000000 in
set_option maxRecDepth 100000 in
theorem cC_P_howMany (l : Launch) (dC : Nat → ClassId) (dI : Nat → Nat → Nat) (n : Nat) (ad : Nat → Nat) (cI cA : ClassId) (a : cq_S) (hB : cq_B2 a) (hn3 : 3 ≤ n) (hn5 : n ≤ 5) (h20 : a 20 0 = n) (p q : Nat) (hp : p < 8) (hq : q < 8) (hc : a 23 0 ≤ gq_room n) : cq_CI l zy_P_howMany zw_P_howMany ({ frames := 1, cells := 0, slots := 0, locals := 23 }) (dC, dI) cq_cl (wC n ad cI cA) (tysC cI cA) a [.ref (ad 2), .int (nI p), .int (nI q)] (fun r0 u => r0 = nI (gq_cnt a p q (a 23 0)) ∧ u = a) := by
  refine cq_CI.of (cc := zc_P_howMany) (maxL := 5) (ret := (some .int)) (by decide) rfl (Nat.le_of_ble_eq_true rfl) ?_
  intro pr ev s mt args below meth cd A ls hx hb hrt hts hown hlocks hml hP hK hD hA hS hl
  have hown : s.vm.findClass zR_P = some mt.cls := hown
  have hl : lv_has ls 5 [(0, .ref (ad 2)), (1, .int (nI p)), (2, .int (nI q))] := hl
  have hroom : gq_room n < 2147483648 := gq_room_lt hn5
  refine lv_iconst (v := nI 0) hx hb zd_P_howMany_0 (by decide) ?_
  refine lv_istore_n hx hb zd_P_howMany_1 rfl hl (by decide) rfl (fun ls hl => ?_)
  have hl : lv_has ls 5 [(3, .int (nI 0)), (0, .ref (ad 2)), (1, .int (nI p)), (2, .int (nI q))] := hl
  refine lv_iconst (v := nI 0) hx hb zd_P_howMany_2 (by decide) ?_
  refine lv_istore hx hb zd_P_howMany_3 hl (by decide) rfl (fun ls hl => ?_)
  have hl : lv_has ls 5 [(4, .int (nI 0)), (3, .int (nI 0)), (0, .ref (ad 2)), (1, .int (nI p)), (2, .int (nI q))] := hl
  have LOOP : ∀ (d : Nat) (i m : Nat) (H : Heap) (locs : List Loc) (ls : Array Slot), i + d = a 23 0 → m = gq_cnt a p q i →  va_P (dC, dI) cq_cl (wC n ad cI cA a) H → va_D A (wC n ad cI cA a) → va_S A s.heap H locs → lv_has ls 5 [(4, .int (nI i)), (3, .int (nI m)), (0, .ref (ad 2)), (1, .int (nI p)), (2, .int (nI q))] → W pr l ev ({ frames := 1, cells := 0, slots := 0, locals := 23 }) s mt args below meth cd H locs 0 0 (MQ below (va_Qi (fun r0 u => r0 = nI (gq_cnt a p q (a 23 0)) ∧ u = a) (cq_at (dC, dI) cq_cl (wC n ad cI cA) (tysC cI cA) A) A) args s 0 0 A) (F0 mt 5 ls []) := by
    intro d
    induction d with
    | zero =>
      intro i m H locs ls hm0 hm hP hD hS hl
      refine lv_iload hx hb zd_P_howMany_5 (lv_at hl 0 rfl) ?_
      refine lv_aload_n hx hb zd_P_howMany_7 rfl (lv_at hl 2 rfl) ?_
      refine va_get (D := (dC, dI)) (ci := 2) (v := .int (nI (a 23 0))) (C := zR_P) (T := zT_P) (N := 2) hx hb hts zi_P hown hK hP 2 (wC_at 2 (by omega)) rfl 1 (by decide) (hts _ zf_P_19) (fun _ h9 => h9) rfl zd_P_howMany_8 ?_
      refine cn_icmp_ge (tgt := 34) hx hb zd_P_howMany_11 (by decide) (by omega) (hB _ _ (by decide)) (fun c1 => ?_) (fun c1 => ?_)
      · refine lv_iload_n hx hb zd_P_howMany_34 rfl (lv_at hl 1 rfl) ?_
        have hie : i = a 23 0 := by omega
        subst hie
        exact cq_ret (u := a) hx hb hrt ⟨_, rfl, rfl⟩ hlocks hK hP hD hS ⟨by rw [hm], rfl⟩ zd_P_howMany_35
      · exact absurd hm0 (by omega)
    | succ d ih =>
      intro i m H locs ls hm0 hm hP hD hS hl
      refine lv_iload hx hb zd_P_howMany_5 (lv_at hl 0 rfl) ?_
      refine lv_aload_n hx hb zd_P_howMany_7 rfl (lv_at hl 2 rfl) ?_
      refine va_get (D := (dC, dI)) (ci := 2) (v := .int (nI (a 23 0))) (C := zR_P) (T := zT_P) (N := 2) hx hb hts zi_P hown hK hP 2 (wC_at 2 (by omega)) rfl 1 (by decide) (hts _ zf_P_19) (fun _ h9 => h9) rfl zd_P_howMany_8 ?_
      refine cn_icmp_ge (tgt := 34) hx hb zd_P_howMany_11 (by decide) (by omega) (hB _ _ (by decide)) (fun c1 => ?_) (fun c1 => ?_)
      · exact absurd hm0 (by omega)
      · refine lv_aload_n hx hb zd_P_howMany_14 rfl (lv_at hl 2 rfl) ?_
        refine lv_iload hx hb zd_P_howMany_15 (lv_at hl 0 rfl) ?_
        refine lv_iload_n hx hb zd_P_howMany_17 rfl (lv_at hl 3 rfl) ?_
        refine lv_iload_n hx hb zd_P_howMany_18 rfl (lv_at hl 4 rfl) ?_
        refine cq_callI (C := zR_P) (As := [.int (nI i), .int (nI p), .int (nI q)]) (rest := []) ⟨hx, hb, hml, hown, hts⟩ (cC_P_goes l dC dI n ad cI cA a hB hn3 hn5 h20 i p q (by omega) hp hq) (cq_cw 3 hts zm_P_goes zl_P_25 zs_P_goes ze_P_goes zz_P rfl rfl (by decide +kernel) ⟨Nat.le_of_ble_eq_true rfl, Nat.le_of_ble_eq_true rfl⟩) hK hP hD hS hA 2 (wC_at 2 (by omega)) rfl rfl hl.1 rfl (Nat.le_of_ble_eq_true rfl) zd_P_howMany_19 ⟨Nat.zero_le _, Nat.zero_le _⟩ (fun r0 u H locs hu hP hD hS => ?_)
        obtain ⟨hr0, hue⟩ := hu
        subst hr0
        rw [hue] at hP hD
        clear hue
        refine cn_if_eq (tgt := 28) hx hb zd_P_howMany_22 (by decide) (gq_goes_lt _ _ _ _) (fun c2 => ?_) (fun c2 => ?_)
        · refine lv_iinc (k := 0) (v := nI (i + 1)) hx hb zd_P_howMany_28 hl rfl (cn_inc _) (by decide) rfl (fun ls hl => ?_)
          have hl : lv_has ls 5 [(4, .int (nI (i + 1))), (3, .int (nI m)), (0, .ref (ad 2)), (1, .int (nI p)), (2, .int (nI q))] := hl
          refine lv_goto (tgt := 5) hx hb zd_P_howMany_31 (by decide) ?_
          exact ih (i + 1) _ H locs ls (by omega) (by rw [gq_cnt, ← hm]; have := gq_goes_2 a i p q; omega) hP hD hS (lv_sub hl [0, 1, 2, 3, 4] rfl)
        · refine lv_iinc (k := 1) (v := nI (m + 1)) hx hb zd_P_howMany_25 hl rfl (cn_inc _) (by decide) rfl (fun ls hl => ?_)
          have hl : lv_has ls 5 [(3, .int (nI (m + 1))), (4, .int (nI i)), (0, .ref (ad 2)), (1, .int (nI p)), (2, .int (nI q))] := hl
          refine lv_iinc (k := 1) (v := nI (i + 1)) hx hb zd_P_howMany_28 hl rfl (cn_inc _) (by decide) rfl (fun ls hl => ?_)
          have hl : lv_has ls 5 [(4, .int (nI (i + 1))), (3, .int (nI (m + 1))), (0, .ref (ad 2)), (1, .int (nI p)), (2, .int (nI q))] := hl
          refine lv_goto (tgt := 5) hx hb zd_P_howMany_31 (by decide) ?_
          exact ih (i + 1) _ H locs ls (by omega) (by rw [gq_cnt, ← hm]; have := gq_goes_2 a i p q; omega) hP hD hS (lv_sub hl [0, 1, 2, 3, 4] rfl)
  exact LOOP (a 23 0) 0 0 _ _ ls (by omega) rfl hP hD hS (lv_sub hl [0, 1, 2, 3, 4] rfl)

set_option maxHeartbeats 4000000 in
set_option maxRecDepth 100000 in
theorem cC_P_placeOf (l : Launch) (dC : Nat → ClassId) (dI : Nat → Nat → Nat) (n : Nat) (ad : Nat → Nat) (cI cA : ClassId) (a : cq_S) (hB : cq_B2 a) (hn3 : 3 ≤ n) (hn5 : n ≤ 5) (h20 : a 20 0 = n) (p q : Nat) (j : Int32) (hp : p < 8) (hq : q < 8) (hc : a 23 0 ≤ gq_room n) : cq_CI l zy_P_placeOf zw_P_placeOf ({ frames := 1, cells := 0, slots := 0, locals := 23 }) (dC, dI) cq_cl (wC n ad cI cA) (tysC cI cA) a [.ref (ad 2), .int (nI p), .int (nI q), .int j] (fun r0 u => r0 = mq_oi (gq_place a p q j) ∧ u = a) := by
  refine cq_CI.of (cc := zc_P_placeOf) (maxL := 6) (ret := (some .int)) (by decide) rfl (Nat.le_of_ble_eq_true rfl) ?_
  intro pr ev s mt args below meth cd A ls hx hb hrt hts hown hlocks hml hP hK hD hA hS hl
  have hown : s.vm.findClass zR_P = some mt.cls := hown
  have hl : lv_has ls 6 [(0, .ref (ad 2)), (1, .int (nI p)), (2, .int (nI q)), (3, .int j)] := hl
  have hroom : gq_room n < 2147483648 := gq_room_lt hn5
  refine lv_iconst (v := nI 0) hx hb zd_P_placeOf_0 (by decide) ?_
  refine lv_istore hx hb zd_P_placeOf_1 hl (by decide) rfl (fun ls hl => ?_)
  have hl : lv_has ls 6 [(4, .int (nI 0)), (0, .ref (ad 2)), (1, .int (nI p)), (2, .int (nI q)), (3, .int j)] := hl
  refine lv_iconst (v := nI 0) hx hb zd_P_placeOf_3 (by decide) ?_
  refine lv_istore hx hb zd_P_placeOf_4 hl (by decide) rfl (fun ls hl => ?_)
  have hl : lv_has ls 6 [(5, .int (nI 0)), (4, .int (nI 0)), (0, .ref (ad 2)), (1, .int (nI p)), (2, .int (nI q)), (3, .int j)] := hl
  have LOOP : ∀ (d : Nat) (i m : Nat) (H : Heap) (locs : List Loc) (ls : Array Slot), i + d = a 23 0 → gq_place a p q j = gq_pl a p q j d i m →  va_P (dC, dI) cq_cl (wC n ad cI cA a) H → va_D A (wC n ad cI cA a) → va_S A s.heap H locs → lv_has ls 6 [(5, .int (nI i)), (4, .int (nI m)), (0, .ref (ad 2)), (1, .int (nI p)), (2, .int (nI q)), (3, .int j)] → W pr l ev ({ frames := 1, cells := 0, slots := 0, locals := 23 }) s mt args below meth cd H locs 0 0 (MQ below (va_Qi (fun r0 u => r0 = mq_oi (gq_place a p q j) ∧ u = a) (cq_at (dC, dI) cq_cl (wC n ad cI cA) (tysC cI cA) A) A) args s 0 0 A) (F0 mt 6 ls []) := by
    intro d
    induction d with
    | zero =>
      intro i m H locs ls hm0 hI hP hD hS hl
      refine lv_iload hx hb zd_P_placeOf_6 (lv_at hl 0 rfl) ?_
      refine lv_aload_n hx hb zd_P_placeOf_8 rfl (lv_at hl 2 rfl) ?_
      refine va_get (D := (dC, dI)) (ci := 2) (v := .int (nI (a 23 0))) (C := zR_P) (T := zT_P) (N := 2) hx hb hts zi_P hown hK hP 2 (wC_at 2 (by omega)) rfl 1 (by decide) (hts _ zf_P_19) (fun _ h9 => h9) rfl zd_P_placeOf_9 ?_
      refine cn_icmp_ge (tgt := 44) hx hb zd_P_placeOf_12 (by decide) (by omega) (hB _ _ (by decide)) (fun c1 => ?_) (fun c1 => ?_)
      · refine lv_iconst (v := -1) hx hb zd_P_placeOf_44 (by decide) ?_
        exact cq_ret (u := a) hx hb hrt ⟨_, rfl, rfl⟩ hlocks hK hP hD hS ⟨by rw [hI]; rfl, rfl⟩ zd_P_placeOf_45
      · exact absurd hm0 (by omega)
    | succ d ih =>
      intro i m H locs ls hm0 hI hP hD hS hl
      refine lv_iload hx hb zd_P_placeOf_6 (lv_at hl 0 rfl) ?_
      refine lv_aload_n hx hb zd_P_placeOf_8 rfl (lv_at hl 2 rfl) ?_
      refine va_get (D := (dC, dI)) (ci := 2) (v := .int (nI (a 23 0))) (C := zR_P) (T := zT_P) (N := 2) hx hb hts zi_P hown hK hP 2 (wC_at 2 (by omega)) rfl 1 (by decide) (hts _ zf_P_19) (fun _ h9 => h9) rfl zd_P_placeOf_9 ?_
      refine cn_icmp_ge (tgt := 44) hx hb zd_P_placeOf_12 (by decide) (by omega) (hB _ _ (by decide)) (fun c1 => ?_) (fun c1 => ?_)
      · exact absurd hm0 (by omega)
      · refine lv_aload_n hx hb zd_P_placeOf_15 rfl (lv_at hl 2 rfl) ?_
        refine lv_iload hx hb zd_P_placeOf_16 (lv_at hl 0 rfl) ?_
        refine lv_iload_n hx hb zd_P_placeOf_18 rfl (lv_at hl 3 rfl) ?_
        refine lv_iload_n hx hb zd_P_placeOf_19 rfl (lv_at hl 4 rfl) ?_
        refine cq_callI (C := zR_P) (As := [.int (nI i), .int (nI p), .int (nI q)]) (rest := []) ⟨hx, hb, hml, hown, hts⟩ (cC_P_goes l dC dI n ad cI cA a hB hn3 hn5 h20 i p q (by omega) hp hq) (cq_cw 3 hts zm_P_goes zl_P_25 zs_P_goes ze_P_goes zz_P rfl rfl (by decide +kernel) ⟨Nat.le_of_ble_eq_true rfl, Nat.le_of_ble_eq_true rfl⟩) hK hP hD hS hA 2 (wC_at 2 (by omega)) rfl rfl hl.1 rfl (Nat.le_of_ble_eq_true rfl) zd_P_placeOf_20 ⟨Nat.zero_le _, Nat.zero_le _⟩ (fun r0 u H locs hu hP hD hS => ?_)
        obtain ⟨hr0, hue⟩ := hu
        subst hr0
        rw [hue] at hP hD
        clear hue
        refine cn_if_eq (tgt := 38) hx hb zd_P_placeOf_23 (by decide) (gq_goes_lt _ _ _ _) (fun c2 => ?_) (fun c2 => ?_)
        · refine lv_iinc (k := 0) (v := nI (i + 1)) hx hb zd_P_placeOf_38 hl rfl (cn_inc _) (by decide) rfl (fun ls hl => ?_)
          have hl : lv_has ls 6 [(5, .int (nI (i + 1))), (4, .int (nI m)), (0, .ref (ad 2)), (1, .int (nI p)), (2, .int (nI q)), (3, .int j)] := hl
          refine lv_goto (tgt := 6) hx hb zd_P_placeOf_41 (by decide) ?_
          exact ih (i + 1) _ H locs ls (by omega) (by rw [hI, gq_pl]; simp [c2]) hP hD hS (lv_sub hl [0, 1, 2, 3, 4, 5] rfl)
        · refine lv_iload hx hb zd_P_placeOf_26 (lv_at hl 1 rfl) ?_
          refine lv_iload_n hx hb zd_P_placeOf_28 rfl (lv_at hl 5 rfl) ?_
          refine lv_icmp_ne (tgt := 35) hx hb zd_P_placeOf_29 (by decide) (fun c3 => ?_) (fun c3 => ?_)
          · refine lv_iinc (k := 1) (v := nI (m + 1)) hx hb zd_P_placeOf_35 hl rfl (cn_inc _) (by decide) rfl (fun ls hl => ?_)
            have hl : lv_has ls 6 [(4, .int (nI (m + 1))), (5, .int (nI i)), (0, .ref (ad 2)), (1, .int (nI p)), (2, .int (nI q)), (3, .int j)] := hl
            refine lv_iinc (k := 1) (v := nI (i + 1)) hx hb zd_P_placeOf_38 hl rfl (cn_inc _) (by decide) rfl (fun ls hl => ?_)
            have hl : lv_has ls 6 [(5, .int (nI (i + 1))), (4, .int (nI (m + 1))), (0, .ref (ad 2)), (1, .int (nI p)), (2, .int (nI q)), (3, .int j)] := hl
            refine lv_goto (tgt := 6) hx hb zd_P_placeOf_41 (by decide) ?_
            exact ih (i + 1) _ H locs ls (by omega) (by rw [hI, gq_pl]; simp [c2, c3]) hP hD hS (lv_sub hl [0, 1, 2, 3, 4, 5] rfl)
          · refine lv_iload hx hb zd_P_placeOf_32 (lv_at hl 0 rfl) ?_
            exact cq_ret (u := a) hx hb hrt ⟨_, rfl, rfl⟩ hlocks hK hP hD hS ⟨by rw [hI, gq_pl]; simp [c2, c3, mq_oi], rfl⟩ zd_P_placeOf_34
  exact LOOP (a 23 0) 0 0 _ _ ls (by omega) rfl hP hD hS (lv_sub hl [0, 1, 2, 3, 4, 5] rfl)

set_option maxHeartbeats 4000000 in
set_option maxRecDepth 100000 in
theorem cC_Q_row (l : Launch) (dC : Nat → ClassId) (dI : Nat → Nat → Nat) (n : Nat) (ad : Nat → Nat) (cI cA : ClassId) (a : cq_S) (c r : Nat) (hr1 : 1 ≤ r) : cq_CI l zy_Q_row zw_Q_row ({ frames := 0, cells := 0, slots := 0, locals := 0 }) (dC, dI) cq_cl (wC n ad cI cA) (tysC cI cA) a [.int (nI c), .int (nI r)] (fun r0 u => r0 = nI (c * 10 + r - 1) ∧ u = a) := by
  refine cq_CI.of (cc := zc_Q_row) (maxL := 2) (ret := (some .int)) (by decide) rfl (Nat.le_of_ble_eq_true rfl) ?_
  intro pr ev s mt args below meth cd A ls hx hb hrt hts hown hlocks hml hP hK hD hA hS hl
  have hown : s.vm.findClass zR_Q = some mt.cls := hown
  have hl : lv_has ls 2 [(0, .int (nI c)), (1, .int (nI r))] := hl
  refine lv_iload_n hx hb zd_Q_row_0 rfl (lv_at hl 0 rfl) ?_
  refine lv_bipush (v := nI 10) hx hb zd_Q_row_1 (by decide) ?_
  refine cn_imul hx hb zd_Q_row_3 ?_
  refine lv_iload_n hx hb zd_Q_row_4 rfl (lv_at hl 1 rfl) ?_
  refine cn_iadd hx hb zd_Q_row_5 ?_
  refine lv_iconst (v := nI 1) hx hb zd_Q_row_6 (by decide) ?_
  refine cn_isub hx hb zd_Q_row_7 (by omega) ?_
  exact cq_ret (u := a) hx hb hrt ⟨_, rfl, rfl⟩ hlocks hK hP hD hS ⟨rfl, rfl⟩ zd_Q_row_8

set_option maxHeartbeats 4000000 in
set_option maxRecDepth 100000 in
theorem cC_Q_cell (l : Launch) (dC : Nat → ClassId) (dI : Nat → Nat → Nat) (n : Nat) (ad : Nat → Nat) (cI cA : ClassId) (a : cq_S) (c r p : Nat) (hr1 : 1 ≤ r) : cq_CI l zy_Q_cell zw_Q_cell ({ frames := 0, cells := 0, slots := 0, locals := 0 }) (dC, dI) cq_cl (wC n ad cI cA) (tysC cI cA) a [.ref (ad 4), .int (nI c), .int (nI r), .int (nI p)] (fun r0 u => r0 = nI (gq_cell (a 20 0) c r p) ∧ u = a) := by
  refine cq_CI.of (cc := zc_Q_cell) (maxL := 4) (ret := (some .int)) (by decide) rfl (Nat.le_of_ble_eq_true rfl) ?_
  intro pr ev s mt args below meth cd A ls hx hb hrt hts hown hlocks hml hP hK hD hA hS hl
  have hown : s.vm.findClass zR_Q = some mt.cls := hown
  have hl : lv_has ls 4 [(0, .ref (ad 4)), (1, .int (nI c)), (2, .int (nI r)), (3, .int (nI p))] := hl
  refine lv_iload_n hx hb zd_Q_cell_0 rfl (lv_at hl 1 rfl) ?_
  refine lv_bipush (v := nI 10) hx hb zd_Q_cell_1 (by decide) ?_
  refine cn_imul hx hb zd_Q_cell_3 ?_
  refine lv_iload_n hx hb zd_Q_cell_4 rfl (lv_at hl 2 rfl) ?_
  refine cn_iadd hx hb zd_Q_cell_5 ?_
  refine lv_iconst (v := nI 1) hx hb zd_Q_cell_6 (by decide) ?_
  refine cn_isub hx hb zd_Q_cell_7 (by omega) ?_
  refine lv_aload_n hx hb zd_Q_cell_8 rfl (lv_at hl 0 rfl) ?_
  refine va_get (D := (dC, dI)) (ci := 3) (v := .int (nI (a 20 0))) (C := zR_Q) (T := zT_Q) (N := 5) hx hb hts zi_Q hown hK hP 4 (wC_at 4 (by omega)) rfl 0 (by decide) (hts _ zf_Q_9) (fun _ h9 => h9) rfl zd_Q_cell_9 ?_
  refine cn_imul hx hb zd_Q_cell_12 ?_
  refine lv_iload_n hx hb zd_Q_cell_13 rfl (lv_at hl 3 rfl) ?_
  refine cn_iadd hx hb zd_Q_cell_14 ?_
  exact cq_ret (u := a) hx hb hrt ⟨_, rfl, rfl⟩ hlocks hK hP hD hS ⟨rfl, rfl⟩ zd_Q_cell_15

set_option maxHeartbeats 4000000 in
set_option maxRecDepth 100000 in
theorem cC_Q_keepEstimate (l : Launch) (dC : Nat → ClassId) (dI : Nat → Nat → Nat) (n : Nat) (ad : Nat → Nat) (cI cA : ClassId) (a : cq_S) (hB : cq_B2 a) (hn3 : 3 ≤ n) (hn5 : n ≤ 5) (h20 : a 20 0 = n) (c r p w s0 : Nat) (hp : p < n) (hc : c < 8) (hr1 : 1 ≤ r) (hr : r ≤ 10) (hs0 : s0 < 16) : cq_CV l zy_Q_keepEstimate zw_Q_keepEstimate ({ frames := 1, cells := 0, slots := 0, locals := 23 }) (dC, dI) cq_cl (wC n ad cI cA) (tysC cI cA) a [.ref (ad 4), .int (nI c), .int (nI r), .int (nI p), .int (nI w), .int (nI s0)] (fun u => u = gq_kE a c r p w s0) := by
  refine cq_CV.of (cc := zc_Q_keepEstimate) (maxL := 6) (ret := none) (by decide) rfl (Nat.le_of_ble_eq_true rfl) ?_
  intro pr ev s mt args below meth cd A ls hx hb hrt hts hown hlocks hml hP hK hD hA hS hl
  have hown : s.vm.findClass zR_Q = some mt.cls := hown
  have hl : lv_has ls 6 [(0, .ref (ad 4)), (1, .int (nI c)), (2, .int (nI r)), (3, .int (nI p)), (4, .int (nI w)), (5, .int (nI s0))] := hl
  have hcl : gq_cell (a 20 0) c r p < 80 * n := by rw [h20]; exact gq_cell_lt hc hr1 hr hp
  refine lv_aload_n hx hb zd_Q_keepEstimate_0 rfl (lv_at hl 0 rfl) ?_
  refine va_get (D := (dC, dI)) (ci := 3) (v := .ref (ad 5)) (C := zR_Q) (T := zT_Q) (N := 5) hx hb hts zi_Q hown hK hP 4 (wC_at 4 (by omega)) rfl 1 (by decide) (hts _ zf_Q_15) (fun _ h9 => h9) rfl zd_Q_keepEstimate_1 ?_
  refine lv_aload_n hx hb zd_Q_keepEstimate_4 rfl (lv_at hl 0 rfl) ?_
  refine lv_iload_n hx hb zd_Q_keepEstimate_5 rfl (lv_at hl 1 rfl) ?_
  refine lv_iload_n hx hb zd_Q_keepEstimate_6 rfl (lv_at hl 2 rfl) ?_
  refine lv_iload_n hx hb zd_Q_keepEstimate_7 rfl (lv_at hl 3 rfl) ?_
  refine cq_callI (C := zR_Q) (As := [.int (nI c), .int (nI r), .int (nI p)]) (rest := [.ref (ad 5)]) ⟨hx, hb, hml, hown, hts⟩ (cC_Q_cell l dC dI n ad cI cA a c r p hr1) (cq_cw 3 hts zm_Q_cell zl_Q_28 zs_Q_cell ze_Q_cell zz_Q rfl rfl (by decide +kernel) ⟨Nat.le_of_ble_eq_true rfl, Nat.le_of_ble_eq_true rfl⟩) hK hP hD hS hA 4 (wC_at 4 (by omega)) rfl rfl hl.1 rfl (Nat.le_of_ble_eq_true rfl) zd_Q_keepEstimate_8 ⟨Nat.zero_le _, Nat.zero_le _⟩ (fun r0 u H locs hu hP hD hS => ?_)
  obtain ⟨hr0, hue⟩ := hu
  subst hr0
  rw [hue] at hP hD
  clear hue
  refine lv_iload hx hb zd_Q_keepEstimate_11 (lv_at hl 5 rfl) ?_
  refine lv_bipush (v := nI 8) hx hb zd_Q_keepEstimate_13 (by decide) ?_
  refine cn_ishl hx hb zd_Q_keepEstimate_15 (by omega) (by omega) ?_
  refine lv_iload hx hb zd_Q_keepEstimate_16 (lv_at hl 4 rfl) ?_
  refine cn_ior hx hb zd_Q_keepEstimate_18 ?_
  refine cn_iast (f := a 25) hx hb hK hP hD hS 5 0 (wC_at 5 (by omega)) rfl (by omega) (by first | omega | exact hroom) zd_Q_keepEstimate_19 (fun H locs hP hD hS => ?_)
  have hP : va_P (dC, dI) cq_cl (wC n ad cI cA (cq_p a 25 (gq_cell (a 20 0) c r p) ((s0 * 2 ^ 8) ||| w))) H := (wC_sa25) ▸ hP
  have hD : va_D A (wC n ad cI cA (cq_p a 25 (gq_cell (a 20 0) c r p) ((s0 * 2 ^ 8) ||| w))) := (wC_sa25) ▸ hD
  exact cq_vret (u := (cq_p a 25 (gq_cell (a 20 0) c r p) ((s0 * 2 ^ 8) ||| w))) hx hb hrt hlocks hK hP hD hS rfl zd_Q_keepEstimate_20

set_option maxHeartbeats 4000000 in
set_option maxRecDepth 100000 in
theorem cC_Q_keepOffer (l : Launch) (dC : Nat → ClassId) (dI : Nat → Nat → Nat) (n : Nat) (ad : Nat → Nat) (cI cA : ClassId) (a : cq_S) (hB : cq_B2 a) (hn3 : 3 ≤ n) (hn5 : n ≤ 5) (h20 : a 20 0 = n) (c r p w : Nat) (hp : p < n) (hc : c < 8) (hr1 : 1 ≤ r) (hr : r ≤ 10) : cq_CV l zy_Q_keepOffer zw_Q_keepOffer ({ frames := 1, cells := 0, slots := 0, locals := 23 }) (dC, dI) cq_cl (wC n ad cI cA) (tysC cI cA) a [.ref (ad 4), .int (nI c), .int (nI r), .int (nI p), .int (nI w)] (fun u => u = gq_kO a c r p w) := by
  refine cq_CV.of (cc := zc_Q_keepOffer) (maxL := 5) (ret := none) (by decide) rfl (Nat.le_of_ble_eq_true rfl) ?_
  intro pr ev s mt args below meth cd A ls hx hb hrt hts hown hlocks hml hP hK hD hA hS hl
  have hown : s.vm.findClass zR_Q = some mt.cls := hown
  have hl : lv_has ls 5 [(0, .ref (ad 4)), (1, .int (nI c)), (2, .int (nI r)), (3, .int (nI p)), (4, .int (nI w))] := hl
  have hcl : gq_cell (a 20 0) c r p < 80 * n := by rw [h20]; exact gq_cell_lt hc hr1 hr hp
  refine lv_aload_n hx hb zd_Q_keepOffer_0 rfl (lv_at hl 0 rfl) ?_
  refine va_get (D := (dC, dI)) (ci := 3) (v := .ref (ad 6)) (C := zR_Q) (T := zT_Q) (N := 5) hx hb hts zi_Q hown hK hP 4 (wC_at 4 (by omega)) rfl 2 (by decide) (hts _ zf_Q_19) (fun _ h9 => h9) rfl zd_Q_keepOffer_1 ?_
  refine lv_aload_n hx hb zd_Q_keepOffer_4 rfl (lv_at hl 0 rfl) ?_
  refine lv_iload_n hx hb zd_Q_keepOffer_5 rfl (lv_at hl 1 rfl) ?_
  refine lv_iload_n hx hb zd_Q_keepOffer_6 rfl (lv_at hl 2 rfl) ?_
  refine lv_iload_n hx hb zd_Q_keepOffer_7 rfl (lv_at hl 3 rfl) ?_
  refine cq_callI (C := zR_Q) (As := [.int (nI c), .int (nI r), .int (nI p)]) (rest := [.ref (ad 6)]) ⟨hx, hb, hml, hown, hts⟩ (cC_Q_cell l dC dI n ad cI cA a c r p hr1) (cq_cw 3 hts zm_Q_cell zl_Q_28 zs_Q_cell ze_Q_cell zz_Q rfl rfl (by decide +kernel) ⟨Nat.le_of_ble_eq_true rfl, Nat.le_of_ble_eq_true rfl⟩) hK hP hD hS hA 4 (wC_at 4 (by omega)) rfl rfl hl.1 rfl (Nat.le_of_ble_eq_true rfl) zd_Q_keepOffer_8 ⟨Nat.zero_le _, Nat.zero_le _⟩ (fun r0 u H locs hu hP hD hS => ?_)
  obtain ⟨hr0, hue⟩ := hu
  subst hr0
  rw [hue] at hP hD
  clear hue
  refine lv_iload hx hb zd_Q_keepOffer_11 (lv_at hl 4 rfl) ?_
  refine cn_iast (f := a 26) hx hb hK hP hD hS 6 0 (wC_at 6 (by omega)) rfl (by omega) (by first | omega | exact hroom) zd_Q_keepOffer_13 (fun H locs hP hD hS => ?_)
  have hP : va_P (dC, dI) cq_cl (wC n ad cI cA (cq_p a 26 (gq_cell (a 20 0) c r p) w)) H := (wC_sa26) ▸ hP
  have hD : va_D A (wC n ad cI cA (cq_p a 26 (gq_cell (a 20 0) c r p) w)) := (wC_sa26) ▸ hD
  exact cq_vret (u := (cq_p a 26 (gq_cell (a 20 0) c r p) w)) hx hb hrt hlocks hK hP hD hS rfl zd_Q_keepOffer_14

set_option maxHeartbeats 4000000 in
set_option maxRecDepth 100000 in
theorem cC_Q_offerTo (l : Launch) (dC : Nat → ClassId) (dI : Nat → Nat → Nat) (n : Nat) (ad : Nat → Nat) (cI cA : ClassId) (a : cq_S) (hB : cq_B2 a) (hn3 : 3 ≤ n) (hn5 : n ≤ 5) (h20 : a 20 0 = n) (c r p : Nat) (hp : p < n) (hc : c < 8) (hr1 : 1 ≤ r) (hr : r ≤ 10) : cq_CI l zy_Q_offerTo zw_Q_offerTo ({ frames := 1, cells := 0, slots := 0, locals := 23 }) (dC, dI) cq_cl (wC n ad cI cA) (tysC cI cA) a [.ref (ad 4), .int (nI c), .int (nI r), .int (nI p)] (fun r0 u => r0 = nI (a 26 (gq_cell (a 20 0) c r p)) ∧ u = a) := by
  refine cq_CI.of (cc := zc_Q_offerTo) (maxL := 4) (ret := (some .int)) (by decide) rfl (Nat.le_of_ble_eq_true rfl) ?_
  intro pr ev s mt args below meth cd A ls hx hb hrt hts hown hlocks hml hP hK hD hA hS hl
  have hown : s.vm.findClass zR_Q = some mt.cls := hown
  have hl : lv_has ls 4 [(0, .ref (ad 4)), (1, .int (nI c)), (2, .int (nI r)), (3, .int (nI p))] := hl
  have hcl : gq_cell (a 20 0) c r p < 80 * n := by rw [h20]; exact gq_cell_lt hc hr1 hr hp
  refine lv_aload_n hx hb zd_Q_offerTo_0 rfl (lv_at hl 0 rfl) ?_
  refine va_get (D := (dC, dI)) (ci := 3) (v := .ref (ad 6)) (C := zR_Q) (T := zT_Q) (N := 5) hx hb hts zi_Q hown hK hP 4 (wC_at 4 (by omega)) rfl 2 (by decide) (hts _ zf_Q_19) (fun _ h9 => h9) rfl zd_Q_offerTo_1 ?_
  refine lv_aload_n hx hb zd_Q_offerTo_4 rfl (lv_at hl 0 rfl) ?_
  refine lv_iload_n hx hb zd_Q_offerTo_5 rfl (lv_at hl 1 rfl) ?_
  refine lv_iload_n hx hb zd_Q_offerTo_6 rfl (lv_at hl 2 rfl) ?_
  refine lv_iload_n hx hb zd_Q_offerTo_7 rfl (lv_at hl 3 rfl) ?_
  refine cq_callI (C := zR_Q) (As := [.int (nI c), .int (nI r), .int (nI p)]) (rest := [.ref (ad 6)]) ⟨hx, hb, hml, hown, hts⟩ (cC_Q_cell l dC dI n ad cI cA a c r p hr1) (cq_cw 3 hts zm_Q_cell zl_Q_28 zs_Q_cell ze_Q_cell zz_Q rfl rfl (by decide +kernel) ⟨Nat.le_of_ble_eq_true rfl, Nat.le_of_ble_eq_true rfl⟩) hK hP hD hS hA 4 (wC_at 4 (by omega)) rfl rfl hl.1 rfl (Nat.le_of_ble_eq_true rfl) zd_Q_offerTo_8 ⟨Nat.zero_le _, Nat.zero_le _⟩ (fun r0 u H locs hu hP hD hS => ?_)
  obtain ⟨hr0, hue⟩ := hu
  subst hr0
  rw [hue] at hP hD
  clear hue
  refine cn_iald (f := a 26) hx hb hK hP 6 0 (wC_at 6 (by omega)) rfl (by omega) (by first | omega | exact hroom) zd_Q_offerTo_11 ?_
  exact cq_ret (u := a) hx hb hrt ⟨_, rfl, rfl⟩ hlocks hK hP hD hS ⟨rfl, rfl⟩ zd_Q_offerTo_12

set_option maxHeartbeats 4000000 in
set_option maxRecDepth 100000 in
theorem cC_Q_keepVote (l : Launch) (dC : Nat → ClassId) (dI : Nat → Nat → Nat) (n : Nat) (ad : Nat → Nat) (cI cA : ClassId) (a : cq_S) (hB : cq_B2 a) (hn3 : 3 ≤ n) (hn5 : n ≤ 5) (h20 : a 20 0 = n) (c r p v : Nat) (hp : p < 32) (hv : v < 2147483648) (hc : c < 8) (hr1 : 1 ≤ r) (hr : r ≤ 10) : cq_CV l zy_Q_keepVote zw_Q_keepVote ({ frames := 1, cells := 0, slots := 0, locals := 21 }) (dC, dI) cq_cl (wC n ad cI cA) (tysC cI cA) a [.ref (ad 4), .int (nI c), .int (nI r), .int (nI p), .int (nI v)] (fun u => u = gq_kV a c r p v) := by
  refine cq_CV.of (cc := zc_Q_keepVote) (maxL := 5) (ret := none) (by decide) rfl (Nat.le_of_ble_eq_true rfl) ?_
  intro pr ev s mt args below meth cd A ls hx hb hrt hts hown hlocks hml hP hK hD hA hS hl
  have hown : s.vm.findClass zR_Q = some mt.cls := hown
  have hl : lv_has ls 5 [(0, .ref (ad 4)), (1, .int (nI c)), (2, .int (nI r)), (3, .int (nI p)), (4, .int (nI v))] := hl
  refine lv_iload hx hb zd_Q_keepVote_0 (lv_at hl 4 rfl) ?_
  refine lv_iconst (v := nI 1) hx hb zd_Q_keepVote_2 (by decide) ?_
  refine cn_icmp_ne (tgt := 25) hx hb zd_Q_keepVote_3 (by decide) (by omega) (by omega) (fun c1 => ?_) (fun c1 => ?_)
  · refine lv_aload_n hx hb zd_Q_keepVote_25 rfl (lv_at hl 0 rfl) ?_
    refine va_get (D := (dC, dI)) (ci := 3) (v := .ref (ad 8)) (C := zR_Q) (T := zT_Q) (N := 5) hx hb hts zi_Q hown hK hP 4 (wC_at 4 (by omega)) rfl 4 (by decide) (hts _ zf_Q_25) (fun _ h9 => h9) rfl zd_Q_keepVote_26 ?_
    refine lv_iload_n hx hb zd_Q_keepVote_29 rfl (lv_at hl 1 rfl) ?_
    refine lv_iload_n hx hb zd_Q_keepVote_30 rfl (lv_at hl 2 rfl) ?_
    refine cq_callSI (As := [.int (nI c), .int (nI r)]) (rest := [.ref (ad 8)]) ⟨hx, hb, hml, hown, hts⟩ (cC_Q_row l dC dI n ad cI cA a c r hr1) (cq_cwS 2 hts zm_Q_row zl_Q_32 zs_Q_row zz_Q rfl rfl (by decide +kernel) ⟨Nat.le_of_ble_eq_true rfl, Nat.le_of_ble_eq_true rfl⟩) hK hP hD hS hA rfl hl.1 rfl (Nat.le_of_ble_eq_true rfl) zd_Q_keepVote_31 ⟨Nat.zero_le _, Nat.zero_le _⟩ (fun r0 u H locs hu hP hD hS => ?_)
    obtain ⟨hr0, hue⟩ := hu
    subst hr0
    rw [hue] at hP hD
    clear hue
    refine lv_dup2_11 hx hb zd_Q_keepVote_34 rfl rfl ?_
    refine cn_iald (f := a 28) hx hb hK hP 8 0 (wC_at 8 (by omega)) rfl (by omega) (by omega) zd_Q_keepVote_35 ?_
    refine lv_iconst (v := nI 1) hx hb zd_Q_keepVote_36 (by decide) ?_
    refine lv_iload_n hx hb zd_Q_keepVote_37 rfl (lv_at hl 3 rfl) ?_
    refine cn_ishl1 hx hb zd_Q_keepVote_38 (by omega) ?_
    refine cn_ior hx hb zd_Q_keepVote_39 ?_
    refine cn_iast (f := a 28) hx hb hK hP hD hS 8 0 (wC_at 8 (by omega)) rfl (by omega) (by omega) zd_Q_keepVote_40 (fun H locs hP hD hS => ?_)
    have hP : va_P (dC, dI) cq_cl (wC n ad cI cA (cq_p a 28 (c * 10 + r - 1) ((a 28 (c * 10 + r - 1)) ||| (2 ^ p)))) H := (wC_sa28) ▸ hP
    have hD : va_D A (wC n ad cI cA (cq_p a 28 (c * 10 + r - 1) ((a 28 (c * 10 + r - 1)) ||| (2 ^ p)))) := (wC_sa28) ▸ hD
    exact cq_vret (u := (cq_p a 28 (c * 10 + r - 1) ((a 28 (c * 10 + r - 1)) ||| (2 ^ p)))) hx hb hrt hlocks hK hP hD hS (by unfold gq_kV; rw [if_neg c1]) zd_Q_keepVote_41
  · refine lv_aload_n hx hb zd_Q_keepVote_6 rfl (lv_at hl 0 rfl) ?_
    refine va_get (D := (dC, dI)) (ci := 3) (v := .ref (ad 7)) (C := zR_Q) (T := zT_Q) (N := 5) hx hb hts zi_Q hown hK hP 4 (wC_at 4 (by omega)) rfl 3 (by decide) (hts _ zf_Q_22) (fun _ h9 => h9) rfl zd_Q_keepVote_7 ?_
    refine lv_iload_n hx hb zd_Q_keepVote_10 rfl (lv_at hl 1 rfl) ?_
    refine lv_iload_n hx hb zd_Q_keepVote_11 rfl (lv_at hl 2 rfl) ?_
    refine cq_callSI (As := [.int (nI c), .int (nI r)]) (rest := [.ref (ad 7)]) ⟨hx, hb, hml, hown, hts⟩ (cC_Q_row l dC dI n ad cI cA a c r hr1) (cq_cwS 2 hts zm_Q_row zl_Q_32 zs_Q_row zz_Q rfl rfl (by decide +kernel) ⟨Nat.le_of_ble_eq_true rfl, Nat.le_of_ble_eq_true rfl⟩) hK hP hD hS hA rfl hl.1 rfl (Nat.le_of_ble_eq_true rfl) zd_Q_keepVote_12 ⟨Nat.zero_le _, Nat.zero_le _⟩ (fun r0 u H locs hu hP hD hS => ?_)
    obtain ⟨hr0, hue⟩ := hu
    subst hr0
    rw [hue] at hP hD
    clear hue
    refine lv_dup2_11 hx hb zd_Q_keepVote_15 rfl rfl ?_
    refine cn_iald (f := a 27) hx hb hK hP 7 0 (wC_at 7 (by omega)) rfl (by omega) (by omega) zd_Q_keepVote_16 ?_
    refine lv_iconst (v := nI 1) hx hb zd_Q_keepVote_17 (by decide) ?_
    refine lv_iload_n hx hb zd_Q_keepVote_18 rfl (lv_at hl 3 rfl) ?_
    refine cn_ishl1 hx hb zd_Q_keepVote_19 (by omega) ?_
    refine cn_ior hx hb zd_Q_keepVote_20 ?_
    refine cn_iast (f := a 27) hx hb hK hP hD hS 7 0 (wC_at 7 (by omega)) rfl (by omega) (by omega) zd_Q_keepVote_21 (fun H locs hP hD hS => ?_)
    have hP : va_P (dC, dI) cq_cl (wC n ad cI cA (cq_p a 27 (c * 10 + r - 1) ((a 27 (c * 10 + r - 1)) ||| (2 ^ p)))) H := (wC_sa27) ▸ hP
    have hD : va_D A (wC n ad cI cA (cq_p a 27 (c * 10 + r - 1) ((a 27 (c * 10 + r - 1)) ||| (2 ^ p)))) := (wC_sa27) ▸ hD
    refine lv_goto (tgt := 41) hx hb zd_Q_keepVote_22 (by decide) ?_
    exact cq_vret (u := (cq_p a 27 (c * 10 + r - 1) ((a 27 (c * 10 + r - 1)) ||| (2 ^ p)))) hx hb hrt hlocks hK hP hD hS (by unfold gq_kV; rw [if_pos c1]) zd_Q_keepVote_41

set_option maxHeartbeats 4000000 in
set_option maxRecDepth 100000 in
theorem cC_Q_allYes (l : Launch) (dC : Nat → ClassId) (dI : Nat → Nat → Nat) (n : Nat) (ad : Nat → Nat) (cI cA : ClassId) (a : cq_S) (hB : cq_B2 a) (hn3 : 3 ≤ n) (hn5 : n ≤ 5) (h20 : a 20 0 = n) (c r : Nat) (hc : c < 8) (hr1 : 1 ≤ r) (hr : r ≤ 10) : cq_CI l zy_Q_allYes zw_Q_allYes ({ frames := 1, cells := 0, slots := 0, locals := 21 }) (dC, dI) cq_cl (wC n ad cI cA) (tysC cI cA) a [.ref (ad 4), .int (nI c), .int (nI r)] (fun r0 u => r0 = nI (if a 28 (c * 10 + r - 1) = 0 then 1 else 0) ∧ u = a) := by
  refine cq_CI.of (cc := zc_Q_allYes) (maxL := 3) (ret := (some .boolean)) (by decide) rfl (Nat.le_of_ble_eq_true rfl) ?_
  intro pr ev s mt args below meth cd A ls hx hb hrt hts hown hlocks hml hP hK hD hA hS hl
  have hown : s.vm.findClass zR_Q = some mt.cls := hown
  have hl : lv_has ls 3 [(0, .ref (ad 4)), (1, .int (nI c)), (2, .int (nI r))] := hl
  refine lv_aload_n hx hb zd_Q_allYes_0 rfl (lv_at hl 0 rfl) ?_
  refine va_get (D := (dC, dI)) (ci := 3) (v := .ref (ad 8)) (C := zR_Q) (T := zT_Q) (N := 5) hx hb hts zi_Q hown hK hP 4 (wC_at 4 (by omega)) rfl 4 (by decide) (hts _ zf_Q_25) (fun _ h9 => h9) rfl zd_Q_allYes_1 ?_
  refine lv_iload_n hx hb zd_Q_allYes_4 rfl (lv_at hl 1 rfl) ?_
  refine lv_iload_n hx hb zd_Q_allYes_5 rfl (lv_at hl 2 rfl) ?_
  refine cq_callSI (As := [.int (nI c), .int (nI r)]) (rest := [.ref (ad 8)]) ⟨hx, hb, hml, hown, hts⟩ (cC_Q_row l dC dI n ad cI cA a c r hr1) (cq_cwS 2 hts zm_Q_row zl_Q_32 zs_Q_row zz_Q rfl rfl (by decide +kernel) ⟨Nat.le_of_ble_eq_true rfl, Nat.le_of_ble_eq_true rfl⟩) hK hP hD hS hA rfl hl.1 rfl (Nat.le_of_ble_eq_true rfl) zd_Q_allYes_6 ⟨Nat.zero_le _, Nat.zero_le _⟩ (fun r0 u H locs hu hP hD hS => ?_)
  obtain ⟨hr0, hue⟩ := hu
  subst hr0
  rw [hue] at hP hD
  clear hue
  refine cn_iald (f := a 28) hx hb hK hP 8 0 (wC_at 8 (by omega)) rfl (by omega) (by omega) zd_Q_allYes_9 ?_
  refine cn_if_ne (tgt := 17) hx hb zd_Q_allYes_10 (by decide) (hB _ _ (by decide)) (fun c1 => ?_) (fun c1 => ?_)
  · refine lv_iconst (v := nI 0) hx hb zd_Q_allYes_17 (by decide) ?_
    exact cq_ret (u := a) hx hb hrt ⟨_, rfl, rfl⟩ hlocks hK hP hD hS ⟨by simp [c1], rfl⟩ zd_Q_allYes_18
  · refine lv_iconst (v := nI 1) hx hb zd_Q_allYes_13 (by decide) ?_
    refine lv_goto (tgt := 18) hx hb zd_Q_allYes_14 (by decide) ?_
    exact cq_ret (u := a) hx hb hrt ⟨_, rfl, rfl⟩ hlocks hK hP hD hS ⟨by simp [c1], rfl⟩ zd_Q_allYes_18

set_option maxHeartbeats 4000000 in
set_option maxRecDepth 100000 in
theorem cC_Q_estimatesOf (l : Launch) (dC : Nat → ClassId) (dI : Nat → Nat → Nat) (n : Nat) (ad : Nat → Nat) (cI cA : ClassId) (a : cq_S) (hB : cq_B2 a) (hn3 : 3 ≤ n) (hn5 : n ≤ 5) (h20 : a 20 0 = n) (c r : Nat) (hc : c < 8) (hr1 : 1 ≤ r) (hr : r ≤ 10) : cq_CI l zy_Q_estimatesOf zw_Q_estimatesOf ({ frames := 1, cells := 0, slots := 0, locals := 23 }) (dC, dI) cq_cl (wC n ad cI cA) (tysC cI cA) a [.ref (ad 4), .int (nI c), .int (nI r)] (fun r0 u => r0 = nI (gq_eOf a c r (a 20 0)) ∧ u = a) := by
  refine cq_CI.of (cc := zc_Q_estimatesOf) (maxL := 5) (ret := (some .int)) (by decide) rfl (Nat.le_of_ble_eq_true rfl) ?_
  intro pr ev s mt args below meth cd A ls hx hb hrt hts hown hlocks hml hP hK hD hA hS hl
  have hown : s.vm.findClass zR_Q = some mt.cls := hown
  have hl : lv_has ls 5 [(0, .ref (ad 4)), (1, .int (nI c)), (2, .int (nI r))] := hl
  refine lv_iconst (v := nI 0) hx hb zd_Q_estimatesOf_0 (by decide) ?_
  refine lv_istore_n hx hb zd_Q_estimatesOf_1 rfl hl (by decide) rfl (fun ls hl => ?_)
  have hl : lv_has ls 5 [(3, .int (nI 0)), (0, .ref (ad 4)), (1, .int (nI c)), (2, .int (nI r))] := hl
  refine lv_iconst (v := nI 0) hx hb zd_Q_estimatesOf_2 (by decide) ?_
  refine lv_istore hx hb zd_Q_estimatesOf_3 hl (by decide) rfl (fun ls hl => ?_)
  have hl : lv_has ls 5 [(4, .int (nI 0)), (3, .int (nI 0)), (0, .ref (ad 4)), (1, .int (nI c)), (2, .int (nI r))] := hl
  have LOOP : ∀ (d : Nat) (i m : Nat) (H : Heap) (locs : List Loc) (ls : Array Slot), i + d = a 20 0 → m = gq_eOf a c r i →  va_P (dC, dI) cq_cl (wC n ad cI cA a) H → va_D A (wC n ad cI cA a) → va_S A s.heap H locs → lv_has ls 5 [(4, .int (nI i)), (3, .int (nI m)), (0, .ref (ad 4)), (1, .int (nI c)), (2, .int (nI r))] → W pr l ev ({ frames := 1, cells := 0, slots := 0, locals := 23 }) s mt args below meth cd H locs 0 0 (MQ below (va_Qi (fun r0 u => r0 = nI (gq_eOf a c r (a 20 0)) ∧ u = a) (cq_at (dC, dI) cq_cl (wC n ad cI cA) (tysC cI cA) A) A) args s 0 0 A) (F0 mt 5 ls []) := by
    intro d
    induction d with
    | zero =>
      intro i m H locs ls hm0 hm hP hD hS hl
      refine lv_iload hx hb zd_Q_estimatesOf_5 (lv_at hl 0 rfl) ?_
      refine lv_aload_n hx hb zd_Q_estimatesOf_7 rfl (lv_at hl 2 rfl) ?_
      refine va_get (D := (dC, dI)) (ci := 3) (v := .int (nI (a 20 0))) (C := zR_Q) (T := zT_Q) (N := 5) hx hb hts zi_Q hown hK hP 4 (wC_at 4 (by omega)) rfl 0 (by decide) (hts _ zf_Q_9) (fun _ h9 => h9) rfl zd_Q_estimatesOf_8 ?_
      refine cn_icmp_ge (tgt := 39) hx hb zd_Q_estimatesOf_11 (by decide) (by omega) (hB _ _ (by decide)) (fun c1 => ?_) (fun c1 => ?_)
      · refine lv_iload_n hx hb zd_Q_estimatesOf_39 rfl (lv_at hl 1 rfl) ?_
        have hie : i = a 20 0 := by omega
        subst hie
        exact cq_ret (u := a) hx hb hrt ⟨_, rfl, rfl⟩ hlocks hK hP hD hS ⟨by rw [hm], rfl⟩ zd_Q_estimatesOf_40
      · exact absurd hm0 (by omega)
    | succ d ih =>
      intro i m H locs ls hm0 hm hP hD hS hl
      refine lv_iload hx hb zd_Q_estimatesOf_5 (lv_at hl 0 rfl) ?_
      refine lv_aload_n hx hb zd_Q_estimatesOf_7 rfl (lv_at hl 2 rfl) ?_
      refine va_get (D := (dC, dI)) (ci := 3) (v := .int (nI (a 20 0))) (C := zR_Q) (T := zT_Q) (N := 5) hx hb hts zi_Q hown hK hP 4 (wC_at 4 (by omega)) rfl 0 (by decide) (hts _ zf_Q_9) (fun _ h9 => h9) rfl zd_Q_estimatesOf_8 ?_
      refine cn_icmp_ge (tgt := 39) hx hb zd_Q_estimatesOf_11 (by decide) (by omega) (hB _ _ (by decide)) (fun c1 => ?_) (fun c1 => ?_)
      · exact absurd hm0 (by omega)
      · have hcl : gq_cell (a 20 0) c r i < 80 * n := by rw [h20]; exact gq_cell_lt hc hr1 hr (by omega)
        refine lv_aload_n hx hb zd_Q_estimatesOf_14 rfl (lv_at hl 2 rfl) ?_
        refine va_get (D := (dC, dI)) (ci := 3) (v := .ref (ad 5)) (C := zR_Q) (T := zT_Q) (N := 5) hx hb hts zi_Q hown hK hP 4 (wC_at 4 (by omega)) rfl 1 (by decide) (hts _ zf_Q_15) (fun _ h9 => h9) rfl zd_Q_estimatesOf_15 ?_
        refine lv_aload_n hx hb zd_Q_estimatesOf_18 rfl (lv_at hl 2 rfl) ?_
        refine lv_iload_n hx hb zd_Q_estimatesOf_19 rfl (lv_at hl 3 rfl) ?_
        refine lv_iload_n hx hb zd_Q_estimatesOf_20 rfl (lv_at hl 4 rfl) ?_
        refine lv_iload hx hb zd_Q_estimatesOf_21 (lv_at hl 0 rfl) ?_
        refine cq_callI (C := zR_Q) (As := [.int (nI c), .int (nI r), .int (nI i)]) (rest := [.ref (ad 5)]) ⟨hx, hb, hml, hown, hts⟩ (cC_Q_cell l dC dI n ad cI cA a c r i hr1) (cq_cw 3 hts zm_Q_cell zl_Q_28 zs_Q_cell ze_Q_cell zz_Q rfl rfl (by decide +kernel) ⟨Nat.le_of_ble_eq_true rfl, Nat.le_of_ble_eq_true rfl⟩) hK hP hD hS hA 4 (wC_at 4 (by omega)) rfl rfl hl.1 rfl (Nat.le_of_ble_eq_true rfl) zd_Q_estimatesOf_23 ⟨Nat.zero_le _, Nat.zero_le _⟩ (fun r0 u H locs hu hP hD hS => ?_)
        obtain ⟨hr0, hue⟩ := hu
        subst hr0
        rw [hue] at hP hD
        clear hue
        refine cn_iald (f := a 25) hx hb hK hP 5 0 (wC_at 5 (by omega)) rfl (by omega) (by first | omega | exact hroom) zd_Q_estimatesOf_26 ?_
        refine cn_if_eq (tgt := 33) hx hb zd_Q_estimatesOf_27 (by decide) (hB _ _ (by decide)) (fun c2 => ?_) (fun c2 => ?_)
        · refine lv_iinc (k := 0) (v := nI (i + 1)) hx hb zd_Q_estimatesOf_33 hl rfl (cn_inc _) (by decide) rfl (fun ls hl => ?_)
          have hl : lv_has ls 5 [(4, .int (nI (i + 1))), (3, .int (nI m)), (0, .ref (ad 4)), (1, .int (nI c)), (2, .int (nI r))] := hl
          refine lv_goto (tgt := 5) hx hb zd_Q_estimatesOf_36 (by decide) ?_
          exact ih (i + 1) _ H locs ls (by omega) (by rw [gq_eOf, ← hm, if_pos c2, Nat.add_zero]) hP hD hS (lv_sub hl [0, 1, 2, 3, 4] rfl)
        · refine lv_iinc (k := 1) (v := nI (m + 1)) hx hb zd_Q_estimatesOf_30 hl rfl (cn_inc _) (by decide) rfl (fun ls hl => ?_)
          have hl : lv_has ls 5 [(3, .int (nI (m + 1))), (4, .int (nI i)), (0, .ref (ad 4)), (1, .int (nI c)), (2, .int (nI r))] := hl
          refine lv_iinc (k := 1) (v := nI (i + 1)) hx hb zd_Q_estimatesOf_33 hl rfl (cn_inc _) (by decide) rfl (fun ls hl => ?_)
          have hl : lv_has ls 5 [(4, .int (nI (i + 1))), (3, .int (nI (m + 1))), (0, .ref (ad 4)), (1, .int (nI c)), (2, .int (nI r))] := hl
          refine lv_goto (tgt := 5) hx hb zd_Q_estimatesOf_36 (by decide) ?_
          exact ih (i + 1) _ H locs ls (by omega) (by rw [gq_eOf, ← hm, if_neg c2]) hP hD hS (lv_sub hl [0, 1, 2, 3, 4] rfl)
  exact LOOP (a 20 0) 0 0 _ _ ls (by omega) rfl hP hD hS (lv_sub hl [0, 1, 2, 3, 4] rfl)

set_option maxHeartbeats 4000000 in
set_option maxRecDepth 100000 in
theorem cC_Q_bestBatch (l : Launch) (dC : Nat → ClassId) (dI : Nat → Nat → Nat) (n : Nat) (ad : Nat → Nat) (cI cA : ClassId) (a : cq_S) (hB : cq_B2 a) (hn3 : 3 ≤ n) (hn5 : n ≤ 5) (h20 : a 20 0 = n) (c r : Nat) (hc : c < 8) (hr1 : 1 ≤ r) (hr : r ≤ 10) : cq_CI l zy_Q_bestBatch zw_Q_bestBatch ({ frames := 1, cells := 0, slots := 0, locals := 23 }) (dC, dI) cq_cl (wC n ad cI cA) (tysC cI cA) a [.ref (ad 4), .int (nI c), .int (nI r)] (fun r0 u => r0 = nI (gq_bB a c r (a 20 0) % 256) ∧ u = a) := by
  refine cq_CI.of (cc := zc_Q_bestBatch) (maxL := 6) (ret := (some .int)) (by decide) rfl (Nat.le_of_ble_eq_true rfl) ?_
  intro pr ev s mt args below meth cd A ls hx hb hrt hts hown hlocks hml hP hK hD hA hS hl
  have hown : s.vm.findClass zR_Q = some mt.cls := hown
  have hl : lv_has ls 6 [(0, .ref (ad 4)), (1, .int (nI c)), (2, .int (nI r))] := hl
  refine lv_iconst (v := nI 0) hx hb zd_Q_bestBatch_0 (by decide) ?_
  refine lv_istore_n hx hb zd_Q_bestBatch_1 rfl hl (by decide) rfl (fun ls hl => ?_)
  have hl : lv_has ls 6 [(3, .int (nI 0)), (0, .ref (ad 4)), (1, .int (nI c)), (2, .int (nI r))] := hl
  refine lv_iconst (v := nI 0) hx hb zd_Q_bestBatch_2 (by decide) ?_
  refine lv_istore hx hb zd_Q_bestBatch_3 hl (by decide) rfl (fun ls hl => ?_)
  have hl : lv_has ls 6 [(4, .int (nI 0)), (3, .int (nI 0)), (0, .ref (ad 4)), (1, .int (nI c)), (2, .int (nI r))] := hl
  have LOOP : ∀ (d : Nat) (i b : Nat) (H : Heap) (locs : List Loc) (ls : Array Slot), i + d = a 20 0 → b = gq_bB a c r i →  va_P (dC, dI) cq_cl (wC n ad cI cA a) H → va_D A (wC n ad cI cA a) → va_S A s.heap H locs → lv_has ls 6 [(4, .int (nI i)), (3, .int (nI b)), (0, .ref (ad 4)), (1, .int (nI c)), (2, .int (nI r))] → W pr l ev ({ frames := 1, cells := 0, slots := 0, locals := 23 }) s mt args below meth cd H locs 0 0 (MQ below (va_Qi (fun r0 u => r0 = nI (gq_bB a c r (a 20 0) % 256) ∧ u = a) (cq_at (dC, dI) cq_cl (wC n ad cI cA) (tysC cI cA) A) A) args s 0 0 A) (F0 mt 5 ls []) := by
    intro d
    induction d with
    | zero =>
      intro i b H locs ls hm0 hm hP hD hS hl
      have hbb : b < 2147483648 := by rw [hm]; exact gq_bB_lt hB c r i
      refine lv_iload hx hb zd_Q_bestBatch_5 (lv_at hl 0 rfl) ?_
      refine lv_aload_n hx hb zd_Q_bestBatch_7 rfl (lv_at hl 2 rfl) ?_
      refine va_get (D := (dC, dI)) (ci := 3) (v := .int (nI (a 20 0))) (C := zR_Q) (T := zT_Q) (N := 5) hx hb hts zi_Q hown hK hP 4 (wC_at 4 (by omega)) rfl 0 (by decide) (hts _ zf_Q_9) (fun _ h9 => h9) rfl zd_Q_bestBatch_8 ?_
      refine cn_icmp_ge (tgt := 59) hx hb zd_Q_bestBatch_11 (by decide) (by omega) (hB _ _ (by decide)) (fun c1 => ?_) (fun c1 => ?_)
      · refine lv_iload_n hx hb zd_Q_bestBatch_59 rfl (lv_at hl 1 rfl) ?_
        refine lv_sipush (v := nI 255) hx hb zd_Q_bestBatch_60 (by decide) ?_
        refine cn_mask 256 8 (by decide) hbb (by decide) (by decide) hx hb zd_Q_bestBatch_63 ?_
        have hie : i = a 20 0 := by omega
        subst hie
        exact cq_ret (u := a) hx hb hrt ⟨_, rfl, rfl⟩ hlocks hK hP hD hS ⟨by rw [hm], rfl⟩ zd_Q_bestBatch_64
      · exact absurd hm0 (by omega)
    | succ d ih =>
      intro i b H locs ls hm0 hm hP hD hS hl
      have hbb : b < 2147483648 := by rw [hm]; exact gq_bB_lt hB c r i
      refine lv_iload hx hb zd_Q_bestBatch_5 (lv_at hl 0 rfl) ?_
      refine lv_aload_n hx hb zd_Q_bestBatch_7 rfl (lv_at hl 2 rfl) ?_
      refine va_get (D := (dC, dI)) (ci := 3) (v := .int (nI (a 20 0))) (C := zR_Q) (T := zT_Q) (N := 5) hx hb hts zi_Q hown hK hP 4 (wC_at 4 (by omega)) rfl 0 (by decide) (hts _ zf_Q_9) (fun _ h9 => h9) rfl zd_Q_bestBatch_8 ?_
      refine cn_icmp_ge (tgt := 59) hx hb zd_Q_bestBatch_11 (by decide) (by omega) (hB _ _ (by decide)) (fun c1 => ?_) (fun c1 => ?_)
      · exact absurd hm0 (by omega)
      · have hcl : gq_cell (a 20 0) c r i < 80 * n := by rw [h20]; exact gq_cell_lt hc hr1 hr (by omega)
        refine lv_aload_n hx hb zd_Q_bestBatch_14 rfl (lv_at hl 2 rfl) ?_
        refine va_get (D := (dC, dI)) (ci := 3) (v := .ref (ad 5)) (C := zR_Q) (T := zT_Q) (N := 5) hx hb hts zi_Q hown hK hP 4 (wC_at 4 (by omega)) rfl 1 (by decide) (hts _ zf_Q_15) (fun _ h9 => h9) rfl zd_Q_bestBatch_15 ?_
        refine lv_aload_n hx hb zd_Q_bestBatch_18 rfl (lv_at hl 2 rfl) ?_
        refine lv_iload_n hx hb zd_Q_bestBatch_19 rfl (lv_at hl 3 rfl) ?_
        refine lv_iload_n hx hb zd_Q_bestBatch_20 rfl (lv_at hl 4 rfl) ?_
        refine lv_iload hx hb zd_Q_bestBatch_21 (lv_at hl 0 rfl) ?_
        refine cq_callI (C := zR_Q) (As := [.int (nI c), .int (nI r), .int (nI i)]) (rest := [.ref (ad 5)]) ⟨hx, hb, hml, hown, hts⟩ (cC_Q_cell l dC dI n ad cI cA a c r i hr1) (cq_cw 3 hts zm_Q_cell zl_Q_28 zs_Q_cell ze_Q_cell zz_Q rfl rfl (by decide +kernel) ⟨Nat.le_of_ble_eq_true rfl, Nat.le_of_ble_eq_true rfl⟩) hK hP hD hS hA 4 (wC_at 4 (by omega)) rfl rfl hl.1 rfl (Nat.le_of_ble_eq_true rfl) zd_Q_bestBatch_23 ⟨Nat.zero_le _, Nat.zero_le _⟩ (fun r0 u H locs hu hP hD hS => ?_)
        obtain ⟨hr0, hue⟩ := hu
        subst hr0
        rw [hue] at hP hD
        clear hue
        refine cn_iald (f := a 25) hx hb hK hP 5 0 (wC_at 5 (by omega)) rfl (by omega) (by first | omega | exact hroom) zd_Q_bestBatch_26 ?_
        refine lv_istore hx hb zd_Q_bestBatch_27 hl (by decide) rfl (fun ls hl => ?_)
        have hl : lv_has ls 6 [(5, .int (nI (a 25 (gq_cell (a 20 0) c r i)))), (4, .int (nI i)), (3, .int (nI b)), (0, .ref (ad 4)), (1, .int (nI c)), (2, .int (nI r))] := hl
        refine lv_iload hx hb zd_Q_bestBatch_29 (lv_at hl 0 rfl) ?_
        refine cn_if_eq (tgt := 53) hx hb zd_Q_bestBatch_31 (by decide) (hB _ _ (by decide)) (fun c2 => ?_) (fun c2 => ?_)
        · refine lv_iinc (k := 1) (v := nI (i + 1)) hx hb zd_Q_bestBatch_53 hl rfl (cn_inc _) (by decide) rfl (fun ls hl => ?_)
          have hl : lv_has ls 6 [(4, .int (nI (i + 1))), (5, .int (nI (a 25 (gq_cell (a 20 0) c r i)))), (3, .int (nI b)), (0, .ref (ad 4)), (1, .int (nI c)), (2, .int (nI r))] := hl
          refine lv_goto (tgt := 5) hx hb zd_Q_bestBatch_56 (by decide) ?_
          exact ih (i + 1) _ H locs ls (by omega) (by rw [gq_bB, ← hm]; simp [c2]) hP hD hS (lv_sub hl [0, 2, 3, 4, 5] rfl)
        · refine lv_iload_n hx hb zd_Q_bestBatch_34 rfl (lv_at hl 2 rfl) ?_
          refine cn_if_eq (tgt := 50) hx hb zd_Q_bestBatch_35 (by decide) hbb (fun c3 => ?_) (fun c3 => ?_)
          · refine lv_iload hx hb zd_Q_bestBatch_50 (lv_at hl 0 rfl) ?_
            refine lv_istore_n hx hb zd_Q_bestBatch_52 rfl hl (by decide) rfl (fun ls hl => ?_)
            have hl : lv_has ls 6 [(3, .int (nI (a 25 (gq_cell (a 20 0) c r i)))), (5, .int (nI (a 25 (gq_cell (a 20 0) c r i)))), (4, .int (nI i)), (0, .ref (ad 4)), (1, .int (nI c)), (2, .int (nI r))] := hl
            refine lv_iinc (k := 2) (v := nI (i + 1)) hx hb zd_Q_bestBatch_53 hl rfl (cn_inc _) (by decide) rfl (fun ls hl => ?_)
            have hl : lv_has ls 6 [(4, .int (nI (i + 1))), (3, .int (nI (a 25 (gq_cell (a 20 0) c r i)))), (5, .int (nI (a 25 (gq_cell (a 20 0) c r i)))), (0, .ref (ad 4)), (1, .int (nI c)), (2, .int (nI r))] := hl
            refine lv_goto (tgt := 5) hx hb zd_Q_bestBatch_56 (by decide) ?_
            exact ih (i + 1) _ H locs ls (by omega) (by rw [gq_bB, ← hm]; simp [c2, c3]) hP hD hS (lv_sub hl [0, 1, 3, 4, 5] rfl)
          · refine lv_iload hx hb zd_Q_bestBatch_38 (lv_at hl 0 rfl) ?_
            refine lv_bipush (v := nI 8) hx hb zd_Q_bestBatch_40 (by decide) ?_
            refine cn_ishr hx hb zd_Q_bestBatch_42 (hB _ _ (by decide)) (by omega) ?_
            refine lv_iload_n hx hb zd_Q_bestBatch_43 rfl (lv_at hl 2 rfl) ?_
            refine lv_bipush (v := nI 8) hx hb zd_Q_bestBatch_44 (by decide) ?_
            refine cn_ishr hx hb zd_Q_bestBatch_46 hbb (by omega) ?_
            refine cn_icmp_le (tgt := 53) hx hb zd_Q_bestBatch_47 (by decide) (Nat.lt_of_le_of_lt (Nat.div_le_self _ _) (hB _ _ (by decide))) (Nat.lt_of_le_of_lt (Nat.div_le_self _ _) hbb) (fun c4 => ?_) (fun c4 => ?_)
            · refine lv_iinc (k := 1) (v := nI (i + 1)) hx hb zd_Q_bestBatch_53 hl rfl (cn_inc _) (by decide) rfl (fun ls hl => ?_)
              have hl : lv_has ls 6 [(4, .int (nI (i + 1))), (5, .int (nI (a 25 (gq_cell (a 20 0) c r i)))), (3, .int (nI b)), (0, .ref (ad 4)), (1, .int (nI c)), (2, .int (nI r))] := hl
              refine lv_goto (tgt := 5) hx hb zd_Q_bestBatch_56 (by decide) ?_
              exact ih (i + 1) _ H locs ls (by omega) (by rw [gq_bB, ← hm]; simp [c2, c3, c4]) hP hD hS (lv_sub hl [0, 2, 3, 4, 5] rfl)
            · refine lv_iload hx hb zd_Q_bestBatch_50 (lv_at hl 0 rfl) ?_
              refine lv_istore_n hx hb zd_Q_bestBatch_52 rfl hl (by decide) rfl (fun ls hl => ?_)
              have hl : lv_has ls 6 [(3, .int (nI (a 25 (gq_cell (a 20 0) c r i)))), (5, .int (nI (a 25 (gq_cell (a 20 0) c r i)))), (4, .int (nI i)), (0, .ref (ad 4)), (1, .int (nI c)), (2, .int (nI r))] := hl
              refine lv_iinc (k := 2) (v := nI (i + 1)) hx hb zd_Q_bestBatch_53 hl rfl (cn_inc _) (by decide) rfl (fun ls hl => ?_)
              have hl : lv_has ls 6 [(4, .int (nI (i + 1))), (3, .int (nI (a 25 (gq_cell (a 20 0) c r i)))), (5, .int (nI (a 25 (gq_cell (a 20 0) c r i)))), (0, .ref (ad 4)), (1, .int (nI c)), (2, .int (nI r))] := hl
              refine lv_goto (tgt := 5) hx hb zd_Q_bestBatch_56 (by decide) ?_
              exact ih (i + 1) _ H locs ls (by omega) (by rw [gq_bB, ← hm]; simp [c2, c3, c4]) hP hD hS (lv_sub hl [0, 1, 3, 4, 5] rfl)
  exact LOOP (a 20 0) 0 0 _ _ ls (by omega) rfl hP hD hS (lv_sub hl [0, 1, 2, 3, 4] rfl)

set_option maxHeartbeats 4000000 in
set_option maxRecDepth 100000 in
theorem cC_P_textAt (l : Launch) (dC : Nat → ClassId) (dI : Nat → Nat → Nat) (n : Nat) (ad : Nat → Nat) (cI cA : ClassId) (a : cq_S) (hB : cq_B2 a) (hn3 : 3 ≤ n) (hn5 : n ≤ 5) (h20 : a 20 0 = n) (i : Nat) (hi : i < gq_room n) : cq_CI l zy_P_textAt zw_P_textAt ({ frames := 0, cells := 0, slots := 0, locals := 0 }) (dC, dI) cq_cl (wC n ad cI cA) (tysC cI cA) a [.ref (ad 2), .int (nI i)] (fun r0 u => r0 = nI (gq_text a i) ∧ u = a) := by
  refine cq_CI.of (cc := zc_P_textAt) (maxL := 2) (ret := (some .int)) (by decide) rfl (Nat.le_of_ble_eq_true rfl) ?_
  intro pr ev s mt args below meth cd A ls hx hb hrt hts hown hlocks hml hP hK hD hA hS hl
  have hown : s.vm.findClass zR_P = some mt.cls := hown
  have hl : lv_has ls 2 [(0, .ref (ad 2)), (1, .int (nI i))] := hl
  have hroom : gq_room n < 2147483648 := gq_room_lt hn5
  refine lv_aload_n hx hb zd_P_textAt_0 rfl (lv_at hl 0 rfl) ?_
  refine va_get (D := (dC, dI)) (ci := 2) (v := .ref (ad 3)) (C := zR_P) (T := zT_P) (N := 2) hx hb hts zi_P hown hK hP 2 (wC_at 2 (by omega)) rfl 0 (by decide) (hts _ zf_P_15) (fun _ h9 => h9) rfl zd_P_textAt_1 ?_
  refine lv_iload_n hx hb zd_P_textAt_4 rfl (lv_at hl 1 rfl) ?_
  refine cn_iald (f := a 24) hx hb hK hP 3 0 (wC_at 3 (by omega)) rfl (by omega) (by first | omega | exact hroom) zd_P_textAt_5 ?_
  refine lv_ldc (v := 4194303) hx hb hown (hts _ zk_P_29) zd_P_textAt_6 ?_
  refine cn_top (show (4194303 : Int32) = nI 4194303 by decide) ?_
  refine cn_mask 4194304 22 (by decide) (hB _ _ (by decide)) (by decide) (by decide) hx hb zd_P_textAt_8 ?_
  exact cq_ret (u := a) hx hb hrt ⟨_, rfl, rfl⟩ hlocks hK hP hD hS ⟨rfl, rfl⟩ zd_P_textAt_9

