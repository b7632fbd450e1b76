set_option maxHeartbeats 4000000 in
set_option maxRecDepth 100000 in
theorem cC_C_isProcess (l : Launch) (dC : Nat → ClassId) (dI : Nat → Nat → Nat) (n : Nat) (ad : Nat → Nat) (cI cA : ClassId) (a : cq_S) (x : Int32) (hn3 : 3 ≤ n) : cq_CI l zy_C_isProcess zw_C_isProcess ({ frames := 0, cells := 0, slots := 0, locals := 0 }) (dC, dI) cq_cl (wC n ad cI cA) (tysC cI cA) a [.ref (ad 0), .int x] (fun r0 u => r0 = nI (gq_is a x) ∧ u = a) := by
  refine cq_CI.of (cc := zc_C_isProcess) (maxL := 2) (ret := (some .boolean)) (by decide) rfl (Nat.le_of_ble_eq_true rfl) ?_
  intro pr ev s mt args below meth cd A ls hx hb hrt hts hown hlocks hml hP hK hD hA hS hl
  have hown : s.vm.findClass zR_C = some mt.cls := hown
  have hl : lv_has ls 2 [(0, .ref (ad 0)), (1, .int x)] := hl
  refine lv_iload_n hx hb zd_C_isProcess_0 rfl (lv_at hl 1 rfl) ?_
  refine lv_if_lt (tgt := 16) hx hb zd_C_isProcess_1 (by decide) (fun c1 => ?_) (fun c1 => ?_)
  · refine lv_iconst (v := nI 0) hx hb zd_C_isProcess_16 (by decide) ?_
    exact cq_ret (u := a) hx hb hrt ⟨_, rfl, rfl⟩ hlocks hK hP hD hS ⟨by simp [gq_is, c1], rfl⟩ zd_C_isProcess_17
  · refine lv_iload_n hx hb zd_C_isProcess_4 rfl (lv_at hl 1 rfl) ?_
    refine lv_aload_n hx hb zd_C_isProcess_5 rfl (lv_at hl 0 rfl) ?_
    refine va_get (D := (dC, dI)) (ci := 0) (v := .int (nI (a 20 0))) (C := zR_C) (T := zT_C) (N := 6) hx hb hts zi_C hown hK hP 0 (wC_at 0 (by omega)) rfl 0 (by decide) (hts _ zf_C_18) (fun _ h9 => h9) rfl zd_C_isProcess_6 ?_
    refine lv_icmp_ge (tgt := 16) hx hb zd_C_isProcess_9 (by decide) (fun c2 => ?_) (fun c2 => ?_)
    · refine lv_iconst (v := nI 0) hx hb zd_C_isProcess_16 (by decide) ?_
      exact cq_ret (u := a) hx hb hrt ⟨_, rfl, rfl⟩ hlocks hK hP hD hS ⟨by simp [gq_is, c1, c2], rfl⟩ zd_C_isProcess_17
    · refine lv_iconst (v := nI 1) hx hb zd_C_isProcess_12 (by decide) ?_
      refine lv_goto (tgt := 17) hx hb zd_C_isProcess_13 (by decide) ?_
      exact cq_ret (u := a) hx hb hrt ⟨_, rfl, rfl⟩ hlocks hK hP hD hS ⟨by simp [gq_is, c1, c2], rfl⟩ zd_C_isProcess_17

set_option maxHeartbeats 4000000 in
set_option maxRecDepth 100000 in
theorem cC_C_majority (l : Launch) (dC : Nat → ClassId) (dI : Nat → Nat → Nat) (n : Nat) (ad : Nat → Nat) (cI cA : ClassId) (a : cq_S) (hB : cq_B2 a) : cq_CI l zy_C_majority zw_C_majority ({ frames := 0, cells := 0, slots := 0, locals := 0 }) (dC, dI) cq_cl (wC n ad cI cA) (tysC cI cA) a [.ref (ad 0)] (fun r0 u => r0 = nI (gq_maj a) ∧ u = a) := by
  refine cq_CI.of (cc := zc_C_majority) (maxL := 1) (ret := (some .int)) (by decide) rfl (Nat.le_of_ble_eq_true rfl) ?_
  intro pr ev s mt args below meth cd A ls hx hb hrt hts hown hlocks hml hP hK hD hA hS hl
  have hown : s.vm.findClass zR_C = some mt.cls := hown
  have hl : lv_has ls 1 [(0, .ref (ad 0))] := hl
  refine lv_aload_n hx hb zd_C_majority_0 rfl (lv_at hl 0 rfl) ?_
  refine va_get (D := (dC, dI)) (ci := 0) (v := .int (nI (a 20 0))) (C := zR_C) (T := zT_C) (N := 6) hx hb hts zi_C hown hK hP 0 (wC_at 0 (by omega)) rfl 0 (by decide) (hts _ zf_C_18) (fun _ h9 => h9) rfl zd_C_majority_1 ?_
  refine lv_iconst (v := nI 2) hx hb zd_C_majority_4 (by decide) ?_
  refine cn_idiv hx hb zd_C_majority_5 (hB _ _ (by decide)) (by omega) (by omega) ?_
  refine lv_iconst (v := nI 1) hx hb zd_C_majority_6 (by decide) ?_
  refine cn_iadd hx hb zd_C_majority_7 ?_
  exact cq_ret (u := a) hx hb hrt ⟨_, rfl, rfl⟩ hlocks hK hP hD hS ⟨rfl, rfl⟩ zd_C_majority_8

set_option maxHeartbeats 4000000 in
set_option maxRecDepth 100000 in
theorem cC_C_messages (l : Launch) (dC : Nat → ClassId) (dI : Nat → Nat → Nat) (n : Nat) (ad : Nat → Nat) (cI cA : ClassId) (a : cq_S)  : cq_CI l zy_C_messages zw_C_messages ({ frames := 0, cells := 0, slots := 0, locals := 0 }) (dC, dI) cq_cl (wC n ad cI cA) (tysC cI cA) a [.ref (ad 0)] (fun r0 u => r0 = nI (a 21 0) ∧ u = a) := by
  refine cq_CI.of (cc := zc_C_messages) (maxL := 1) (ret := (some .int)) (by decide) rfl (Nat.le_of_ble_eq_true rfl) ?_
  intro pr ev s mt args below meth cd A ls hx hb hrt hts hown hlocks hml hP hK hD hA hS hl
  have hown : s.vm.findClass zR_C = some mt.cls := hown
  have hl : lv_has ls 1 [(0, .ref (ad 0))] := hl
  refine lv_aload_n hx hb zd_C_messages_0 rfl (lv_at hl 0 rfl) ?_
  refine va_get (D := (dC, dI)) (ci := 0) (v := .int (nI (a 21 0))) (C := zR_C) (T := zT_C) (N := 6) hx hb hts zi_C hown hK hP 0 (wC_at 0 (by omega)) rfl 4 (by decide) (hts _ zf_C_53) (fun _ h9 => h9) rfl zd_C_messages_1 ?_
  exact cq_ret (u := a) hx hb hrt ⟨_, rfl, rfl⟩ hlocks hK hP hD hS ⟨rfl, rfl⟩ zd_C_messages_4

set_option maxHeartbeats 4000000 in
set_option maxRecDepth 100000 in
theorem cC_C_mostCrashes (l : Launch) (dC : Nat → ClassId) (dI : Nat → Nat → Nat) (n : Nat) (ad : Nat → Nat) (cI cA : ClassId) (a : cq_S) (hB : cq_B2 a) (h1 : 1 ≤ a 20 0) : cq_CI l zy_C_mostCrashes zw_C_mostCrashes ({ frames := 0, cells := 0, slots := 0, locals := 0 }) (dC, dI) cq_cl (wC n ad cI cA) (tysC cI cA) a [.ref (ad 0)] (fun r0 u => r0 = nI ((a 20 0 - 1) / 2) ∧ u = a) := by
  refine cq_CI.of (cc := zc_C_mostCrashes) (maxL := 1) (ret := (some .int)) (by decide) rfl (Nat.le_of_ble_eq_true rfl) ?_
  intro pr ev s mt args below meth cd A ls hx hb hrt hts hown hlocks hml hP hK hD hA hS hl
  have hown : s.vm.findClass zR_C = some mt.cls := hown
  have hl : lv_has ls 1 [(0, .ref (ad 0))] := hl
  have hB20 := hB 20 0 (by decide)
  refine lv_aload_n hx hb zd_C_mostCrashes_0 rfl (lv_at hl 0 rfl) ?_
  refine va_get (D := (dC, dI)) (ci := 0) (v := .int (nI (a 20 0))) (C := zR_C) (T := zT_C) (N := 6) hx hb hts zi_C hown hK hP 0 (wC_at 0 (by omega)) rfl 0 (by decide) (hts _ zf_C_18) (fun _ h9 => h9) rfl zd_C_mostCrashes_1 ?_
  refine lv_iconst (v := nI 1) hx hb zd_C_mostCrashes_4 (by decide) ?_
  refine cn_isub hx hb zd_C_mostCrashes_5 (by omega) ?_
  refine lv_iconst (v := nI 2) hx hb zd_C_mostCrashes_6 (by decide) ?_
  refine cn_idiv hx hb zd_C_mostCrashes_7 (by omega) (by omega) (by omega) ?_
  exact cq_ret (u := a) hx hb hrt ⟨_, rfl, rfl⟩ hlocks hK hP hD hS ⟨rfl, rfl⟩ zd_C_mostCrashes_8

set_option maxHeartbeats 4000000 in
set_option maxRecDepth 100000 in
theorem cC_C_leaderOf (l : Launch) (dC : Nat → ClassId) (dI : Nat → Nat → Nat) (n : Nat) (ad : Nat → Nat) (cI cA : ClassId) (a : cq_S) (hB : cq_B2 a) (h1 : 1 ≤ a 20 0) (r : Nat) (hr1 : 1 ≤ r) (hr2 : r < 2147483648) : cq_CI l zy_C_leaderOf zw_C_leaderOf ({ frames := 0, cells := 0, slots := 0, locals := 0 }) (dC, dI) cq_cl (wC n ad cI cA) (tysC cI cA) a [.ref (ad 0), .int (nI r)] (fun r0 u => r0 = nI (gq_ldr a r) ∧ u = a) := by
  refine cq_CI.of (cc := zc_C_leaderOf) (maxL := 2) (ret := (some .int)) (by decide) rfl (Nat.le_of_ble_eq_true rfl) ?_
  intro pr ev s mt args below meth cd A ls hx hb hrt hts hown hlocks hml hP hK hD hA hS hl
  have hown : s.vm.findClass zR_C = some mt.cls := hown
  have hl : lv_has ls 2 [(0, .ref (ad 0)), (1, .int (nI r))] := hl
  have hB20 := hB 20 0 (by decide)
  refine lv_iload_n hx hb zd_C_leaderOf_0 rfl (lv_at hl 1 rfl) ?_
  refine lv_iconst (v := nI 1) hx hb zd_C_leaderOf_1 (by decide) ?_
  refine cn_isub hx hb zd_C_leaderOf_2 (by omega) ?_
  refine lv_aload_n hx hb zd_C_leaderOf_3 rfl (lv_at hl 0 rfl) ?_
  refine va_get (D := (dC, dI)) (ci := 0) (v := .int (nI (a 20 0))) (C := zR_C) (T := zT_C) (N := 6) hx hb hts zi_C hown hK hP 0 (wC_at 0 (by omega)) rfl 0 (by decide) (hts _ zf_C_18) (fun _ h9 => h9) rfl zd_C_leaderOf_4 ?_
  refine cn_irem hx hb zd_C_leaderOf_7 (by omega) (by omega) (by omega) ?_
  exact cq_ret (u := a) hx hb hrt ⟨_, rfl, rfl⟩ hlocks hK hP hD hS ⟨rfl, rfl⟩ zd_C_leaderOf_8

set_option maxHeartbeats 4000000 in
set_option maxRecDepth 100000 in
theorem cC_C_sendToAllOthers (l : Launch) (dC : Nat → ClassId) (dI : Nat → Nat → Nat) (n : Nat) (ad : Nat → Nat) (cI cA : ClassId) (a : cq_S) (hB : cq_B2 a) (hn3 : 3 ≤ n) (hn5 : n ≤ 5) (h20 : a 20 0 = n) (p t : Nat) (hp : p < n) (ht : t < 4194304) : cq_CV l zy_C_sendToAllOthers zw_C_sendToAllOthers ({ frames := 1, cells := 0, slots := 0, locals := 23 }) (dC, dI) cq_cl (wC n ad cI cA) (tysC cI cA) a [.ref (ad 0), .int (nI p), .int (nI t)] (fun u => u = gq_toAll a p t) := by
  refine cq_CV.of (cc := zc_C_sendToAllOthers) (maxL := 4) (ret := none) (by decide) rfl (Nat.le_of_ble_eq_true rfl) ?_
  intro pr ev s mt args below meth cd A ls hx hb hrt hts hown hlocks hml hP hK hD hA hS hl
  have hown : s.vm.findClass zR_C = some mt.cls := hown
  have hl : lv_has ls 4 [(0, .ref (ad 0)), (1, .int (nI p)), (2, .int (nI t))] := hl
  refine lv_iconst (v := nI 0) hx hb zd_C_sendToAllOthers_0 (by decide) ?_
  refine lv_istore_n hx hb zd_C_sendToAllOthers_1 rfl hl (by decide) rfl (fun ls hl => ?_)
  have hl : lv_has ls 4 [(3, .int (nI 0)), (0, .ref (ad 0)), (1, .int (nI p)), (2, .int (nI t))] := hl
  have LOOP : ∀ (d : Nat) (i : Nat) (b : cq_S) (H : Heap) (locs : List Loc) (ls : Array Slot), i + d = a 20 0 → b = gq_all a p t i →  va_P (dC, dI) cq_cl (wC n ad cI cA b) H → va_D A (wC n ad cI cA b) → va_S A s.heap H locs → lv_has ls 4 [(3, .int (nI i)), (0, .ref (ad 0)), (1, .int (nI p)), (2, .int (nI t))] → W pr l ev ({ frames := 1, cells := 0, slots := 0, locals := 23 }) s mt args below meth cd H locs 0 0 (MQ below (va_Qv (fun u => u = gq_toAll a p t) (cq_at (dC, dI) cq_cl (wC n ad cI cA) (tysC cI cA) A) A) args s 0 0 A) (F0 mt 2 ls []) := by
    intro d
    induction d with
    | zero =>
      intro i b H locs ls hm0 hbe hP hD hS hl
      have hb20 : b 20 0 = n := by rw [hbe, gq_all_k _ _ _ _ _ _ (by decide)]; exact h20
      have hBb : cq_B2 b := by rw [hbe]; exact gq_all_B hB (by omega) ht h20 hn5 i (by omega)
      refine lv_iload_n hx hb zd_C_sendToAllOthers_2 rfl (lv_at hl 0 rfl) ?_
      refine lv_aload_n hx hb zd_C_sendToAllOthers_3 rfl (lv_at hl 1 rfl) ?_
      refine va_get (D := (dC, dI)) (ci := 0) (v := .int (nI (b 20 0))) (C := zR_C) (T := zT_C) (N := 6) hx hb hts zi_C hown hK hP 0 (wC_at 0 (by omega)) rfl 0 (by decide) (hts _ zf_C_18) (fun _ h9 => h9) rfl zd_C_sendToAllOthers_4 ?_
      refine cn_icmp_ge (tgt := 31) hx hb zd_C_sendToAllOthers_7 (by decide) (by omega) (hBb _ _ (by decide)) (fun c1 => ?_) (fun c1 => ?_)
      · have hie : i = a 20 0 := by omega
        subst hie
        exact cq_vret (u := b) hx hb hrt hlocks hK hP hD hS hbe zd_C_sendToAllOthers_31
      · exact absurd hb20 (by omega)
    | succ d ih =>
      intro i b H locs ls hm0 hbe hP hD hS hl
      have hb20 : b 20 0 = n := by rw [hbe, gq_all_k _ _ _ _ _ _ (by decide)]; exact h20
      have hBb : cq_B2 b := by rw [hbe]; exact gq_all_B hB (by omega) ht h20 hn5 i (by omega)
      refine lv_iload_n hx hb zd_C_sendToAllOthers_2 rfl (lv_at hl 0 rfl) ?_
      refine lv_aload_n hx hb zd_C_sendToAllOthers_3 rfl (lv_at hl 1 rfl) ?_
      refine va_get (D := (dC, dI)) (ci := 0) (v := .int (nI (b 20 0))) (C := zR_C) (T := zT_C) (N := 6) hx hb hts zi_C hown hK hP 0 (wC_at 0 (by omega)) rfl 0 (by decide) (hts _ zf_C_18) (fun _ h9 => h9) rfl zd_C_sendToAllOthers_4 ?_
      refine cn_icmp_ge (tgt := 31) hx hb zd_C_sendToAllOthers_7 (by decide) (by omega) (hBb _ _ (by decide)) (fun c1 => ?_) (fun c1 => ?_)
      · exact absurd hb20 (by omega)
      · refine lv_iload_n hx hb zd_C_sendToAllOthers_10 rfl (lv_at hl 0 rfl) ?_
        refine lv_iload_n hx hb zd_C_sendToAllOthers_11 rfl (lv_at hl 2 rfl) ?_
        refine cn_icmp_eq (tgt := 25) hx hb zd_C_sendToAllOthers_12 (by decide) (by omega) (by omega) (fun c2 => ?_) (fun c2 => ?_)
        · refine lv_iinc (k := 0) (v := nI (i + 1)) hx hb zd_C_sendToAllOthers_25 hl rfl (cn_inc _) (by decide) rfl (fun ls hl => ?_)
          have hl : lv_has ls 4 [(3, .int (nI (i + 1))), (0, .ref (ad 0)), (1, .int (nI p)), (2, .int (nI t))] := hl
          refine lv_goto (tgt := 2) hx hb zd_C_sendToAllOthers_28 (by decide) ?_
          exact ih (i + 1) _ H locs ls (by omega) (by rw [gq_all, if_pos c2, hbe]) hP hD hS (lv_sub hl [0, 1, 2, 3] rfl)
        · refine lv_aload_n hx hb zd_C_sendToAllOthers_15 rfl (lv_at hl 1 rfl) ?_
          refine va_get (D := (dC, dI)) (ci := 0) (v := .ref (ad 2)) (C := zR_C) (T := zT_C) (N := 6) hx hb hts zi_C hown hK hP 0 (wC_at 0 (by omega)) rfl 2 (by decide) (hts _ zf_C_34) (fun _ h9 => h9) rfl zd_C_sendToAllOthers_16 ?_
          refine lv_iload_n hx hb zd_C_sendToAllOthers_19 rfl (lv_at hl 2 rfl) ?_
          refine lv_iload_n hx hb zd_C_sendToAllOthers_20 rfl (lv_at hl 0 rfl) ?_
          refine lv_iload_n hx hb zd_C_sendToAllOthers_21 rfl (lv_at hl 3 rfl) ?_
          refine cq_callV (C := zR_P) (As := [.int (nI p), .int (nI i), .int (nI t)]) (rest := []) ⟨hx, hb, hml, hown, hts⟩ (cC_P_send l dC dI n ad cI cA b hBb hn3 hn5 hb20 p i t (by omega) (by omega)) (cq_cw 3 hts zm_P_send zl_C_131 zs_P_send ze_P_send zz_P rfl rfl (by decide +kernel) ⟨Nat.le_of_ble_eq_true rfl, Nat.le_of_ble_eq_true rfl⟩) hK hP hD hS hA 2 (wC_at 2 (by omega)) rfl rfl hl.1 rfl (Nat.le_of_ble_eq_true rfl) zd_C_sendToAllOthers_22 ⟨Nat.zero_le _, Nat.zero_le _⟩ (fun u H locs hu hP hD hS => ?_)
          rw [show u = _ from hu] at hP hD
          clear hu
          refine lv_iinc (k := 0) (v := nI (i + 1)) hx hb zd_C_sendToAllOthers_25 hl rfl (cn_inc _) (by decide) rfl (fun ls hl => ?_)
          have hl : lv_has ls 4 [(3, .int (nI (i + 1))), (0, .ref (ad 0)), (1, .int (nI p)), (2, .int (nI t))] := hl
          refine lv_goto (tgt := 2) hx hb zd_C_sendToAllOthers_28 (by decide) ?_
          exact ih (i + 1) _ H locs ls (by omega) (by rw [gq_all, if_neg c2, hbe]) hP hD hS (lv_sub hl [0, 1, 2, 3] rfl)
  exact LOOP (a 20 0) 0 a _ _ ls (by omega) rfl hP hD hS (lv_sub hl [0, 1, 2, 3] rfl)

set_option maxHeartbeats 4000000 in
set_option maxRecDepth 100000 in
theorem cC_C_learn (l : Launch) (dC : Nat → ClassId) (dI : Nat → Nat → Nat) (n : Nat) (ad : Nat → Nat) (cI cA : ClassId) (a : cq_S) (hB : cq_B2 a) (hn3 : 3 ≤ n) (hn5 : n ≤ 5) (h20 : a 20 0 = n) (p m : Nat) (hp : p < n) (hm : m < 8) : cq_CV l zy_C_learn zw_C_learn ({ frames := 2, cells := 0, slots := 0, locals := 46 }) (dC, dI) cq_cl (wC n ad cI cA) (tysC cI cA) a [.ref (ad 0), .int (nI p), .int (nI m)] (fun u => u = gq_learn a p m) := by
  refine cq_CV.of (cc := zc_C_learn) (maxL := 3) (ret := none) (by decide) rfl (Nat.le_of_ble_eq_true rfl) ?_
  intro pr ev s mt args below meth cd A ls hx hb hrt hts hown hlocks hml hP hK hD hA hS hl
  have hown : s.vm.findClass zR_C = some mt.cls := hown
  have hl : lv_has ls 3 [(0, .ref (ad 0)), (1, .int (nI p)), (2, .int (nI m))] := hl
  refine lv_aload_n hx hb zd_C_learn_0 rfl (lv_at hl 0 rfl) ?_
  refine va_get (D := (dC, dI)) (ci := 0) (v := .ref (ad 1)) (C := zR_C) (T := zT_C) (N := 6) hx hb hts zi_C hown hK hP 0 (wC_at 0 (by omega)) rfl 1 (by decide) (hts _ zf_C_24) (fun _ h9 => h9) rfl zd_C_learn_1 ?_
  refine lv_iload_n hx hb zd_C_learn_4 rfl (lv_at hl 1 rfl) ?_
  refine cn_aald hx hb hK hP 1 1 (wC_at 1 (by omega)) rfl hp (by omega) zd_C_learn_5 ?_
  refine lv_iload_n hx hb zd_C_learn_6 rfl (lv_at hl 2 rfl) ?_
  refine cq_callI (C := zR_M) (As := [.int (nI m)]) (rest := []) ⟨hx, hb, hml, hown, hts⟩ (cC_M_knows l dC dI n ad cI cA a hB p hp m (by omega)) (cq_cw 1 hts zm_M_knows zl_C_160 zs_M_knows ze_M_knows zz_M rfl rfl (by decide +kernel) ⟨Nat.le_of_ble_eq_true rfl, Nat.le_of_ble_eq_true rfl⟩) hK hP hD hS hA (9 + 3 * p) (wC_m hp) rfl rfl hl.1 rfl (Nat.le_of_ble_eq_true rfl) zd_C_learn_7 ⟨Nat.zero_le _, Nat.zero_le _⟩ (fun r0 u H locs hu hP hD hS => ?_)
  obtain ⟨hr0, hue⟩ := hu
  subst hr0
  rw [hue] at hP hD
  clear hue
  refine cn_if_ne (tgt := 36) hx hb zd_C_learn_10 (by decide) (by split <;> decide) (fun c1 => ?_) (fun c1 => ?_)
  · exact cq_vret (u := a) hx hb hrt hlocks hK hP hD hS (by unfold gq_learn; rw [if_neg (fun h => c1 ((cq_ite0 _).mpr h))]) zd_C_learn_36
  · refine lv_aload_n hx hb zd_C_learn_13 rfl (lv_at hl 0 rfl) ?_
    refine va_get (D := (dC, dI)) (ci := 0) (v := .ref (ad 1)) (C := zR_C) (T := zT_C) (N := 6) hx hb hts zi_C hown hK hP 0 (wC_at 0 (by omega)) rfl 1 (by decide) (hts _ zf_C_24) (fun _ h9 => h9) rfl zd_C_learn_14 ?_
    refine lv_iload_n hx hb zd_C_learn_17 rfl (lv_at hl 1 rfl) ?_
    refine cn_aald hx hb hK hP 1 1 (wC_at 1 (by omega)) rfl hp (by omega) zd_C_learn_18 ?_
    refine lv_iload_n hx hb zd_C_learn_19 rfl (lv_at hl 2 rfl) ?_
    refine cq_callV (C := zR_M) (As := [.int (nI m)]) (rest := []) ⟨hx, hb, hml, hown, hts⟩ (cC_M_addKnown l dC dI n ad cI cA a hB p hp m (by omega)) (cq_cw 1 hts zm_M_addKnown zl_C_163 zs_M_addKnown ze_M_addKnown zz_M rfl rfl (by decide +kernel) ⟨Nat.le_of_ble_eq_true rfl, Nat.le_of_ble_eq_true rfl⟩) hK hP hD hS hA (9 + 3 * p) (wC_m hp) rfl rfl hl.1 rfl (Nat.le_of_ble_eq_true rfl) zd_C_learn_20 ⟨Nat.zero_le _, Nat.zero_le _⟩ (fun u H locs hu hP hD hS => ?_)
    rw [show u = _ from hu] at hP hD
    clear hu
    refine lv_aload_n hx hb zd_C_learn_23 rfl (lv_at hl 0 rfl) ?_
    refine lv_iload_n hx hb zd_C_learn_24 rfl (lv_at hl 1 rfl) ?_
    refine lv_iconst (v := nI 1) hx hb zd_C_learn_25 (by decide) ?_
    refine lv_iconst (v := nI 0) hx hb zd_C_learn_26 (by decide) ?_
    refine lv_iconst (v := nI 0) hx hb zd_C_learn_27 (by decide) ?_
    refine lv_iload_n hx hb zd_C_learn_28 rfl (lv_at hl 2 rfl) ?_
    refine lv_iconst (v := nI 0) hx hb zd_C_learn_29 (by decide) ?_
    refine cq_callSI (As := [.int (nI 1), .int (nI 0), .int (nI 0), .int (nI m), .int (nI 0)]) (rest := [.int (nI p), .ref (ad 0)]) ⟨hx, hb, hml, hown, hts⟩ (cC_L_write l dC dI n ad cI cA ((cq_p a 0 p (a 0 p ||| 2 ^ m))) 1 0 0 m 0 (by omega) (by omega) (by omega) (by omega)) (cq_cwS 5 hts zm_L_write zl_C_166 zs_L_write zz_L rfl rfl (by decide +kernel) ⟨Nat.le_of_ble_eq_true rfl, Nat.le_of_ble_eq_true rfl⟩) hK hP hD hS hA rfl hl.1 rfl (Nat.le_of_ble_eq_true rfl) zd_C_learn_30 ⟨Nat.zero_le _, Nat.zero_le _⟩ (fun r0 u H locs hu hP hD hS => ?_)
    obtain ⟨hr0, hue⟩ := hu
    subst hr0
    rw [hue] at hP hD
    clear hue
    refine cq_callV (C := zR_C) (As := [.int (nI p), .int (nI (gq_tx 1 0 0 m 0))]) (rest := []) ⟨hx, hb, hml, hown, hts⟩ (cC_C_sendToAllOthers l dC dI n ad cI cA ((cq_p a 0 p (a 0 p ||| 2 ^ m))) (hB.put (Nat.or_lt_two_pow (n := 31) (hB _ _ (by decide)) (Nat.pow_lt_pow_right (by decide) (by omega)))) hn3 hn5 h20 p (gq_tx 1 0 0 m 0) hp (gq_tx_lt (by decide) (by decide) (by decide) (by omega) (by decide))) (cq_cw 2 hts zm_C_sendToAllOthers zl_C_170 zs_C_sendToAllOthers ze_C_sendToAllOthers zz_C rfl rfl (by decide +kernel) ⟨Nat.le_of_ble_eq_true rfl, Nat.le_of_ble_eq_true rfl⟩) hK hP hD hS hA 0 (wC_at 0 (by omega)) rfl rfl hl.1 rfl (Nat.le_of_ble_eq_true rfl) zd_C_learn_33 ⟨Nat.zero_le _, Nat.zero_le _⟩ (fun u H locs hu hP hD hS => ?_)
    rw [show u = _ from hu] at hP hD
    clear hu
    exact cq_vret (u := (gq_toAll (cq_p a 0 p (a 0 p ||| 2 ^ m)) p (gq_tx 1 0 0 m 0))) hx hb hrt hlocks hK hP hD hS (by unfold gq_learn; rw [if_pos ((cq_ite0 _).mp c1)]) zd_C_learn_36

set_option maxHeartbeats 4000000 in
set_option maxRecDepth 100000 in
theorem cC_C_accept (l : Launch) (dC : Nat → ClassId) (dI : Nat → Nat → Nat) (n : Nat) (ad : Nat → Nat) (cI cA : ClassId) (a : cq_S) (hB : cq_B2 a) (hn3 : 3 ≤ n) (hn5 : n ≤ 5) (h20 : a 20 0 = n) (p c b : Nat) (hp : p < n) (hc : c < 8) (hb2 : b < 256) (hv : a (60 + p) c < 2147483648) : cq_CV l zy_C_accept zw_C_accept ({ frames := 2, cells := 0, slots := 0, locals := 46 }) (dC, dI) cq_cl (wC n ad cI cA) (tysC cI cA) a [.ref (ad 0), .int (nI p), .int (nI c), .int (nI b)] (fun u => u = gq_accept a p c b) := by
  refine cq_CV.of (cc := zc_C_accept) (maxL := 4) (ret := none) (by decide) rfl (Nat.le_of_ble_eq_true rfl) ?_
  intro pr ev s mt args below meth cd A ls hx hb hrt hts hown hlocks hml hP hK hD hA hS hl
  have hown : s.vm.findClass zR_C = some mt.cls := hown
  have hl : lv_has ls 4 [(0, .ref (ad 0)), (1, .int (nI p)), (2, .int (nI c)), (3, .int (nI b))] := hl
  refine lv_aload_n hx hb zd_C_accept_0 rfl (lv_at hl 0 rfl) ?_
  refine va_get (D := (dC, dI)) (ci := 0) (v := .ref (ad 1)) (C := zR_C) (T := zT_C) (N := 6) hx hb hts zi_C hown hK hP 0 (wC_at 0 (by omega)) rfl 1 (by decide) (hts _ zf_C_24) (fun _ h9 => h9) rfl zd_C_accept_1 ?_
  refine lv_iload_n hx hb zd_C_accept_4 rfl (lv_at hl 1 rfl) ?_
  refine cn_aald hx hb hK hP 1 1 (wC_at 1 (by omega)) rfl hp (by omega) zd_C_accept_5 ?_
  refine va_get (D := (dC, dI)) (ci := 1) (v := .ref (ad (11 + 3 * p))) (C := zR_M) (T := zT_M) (N := 12) hx hb hts zi_M hown hK hP (9 + 3 * p) (wC_m hp) rfl 1 (by decide) (hts _ zf_C_128) (fun _ h9 => h9) rfl zd_C_accept_6 ?_
  refine lv_iload_n hx hb zd_C_accept_9 rfl (lv_at hl 2 rfl) ?_
  refine cn_iald (f := a (60 + p)) hx hb hK hP (11 + 3 * p) 0 (wC_v hp) rfl (by omega) (by omega) zd_C_accept_10 ?_
  refine cn_if_ne (tgt := 39) hx hb zd_C_accept_11 (by decide) hv (fun c1 => ?_) (fun c1 => ?_)
  · exact cq_vret (u := a) hx hb hrt hlocks hK hP hD hS (by unfold gq_accept; simp [c1]) zd_C_accept_39
  · refine lv_aload_n hx hb zd_C_accept_14 rfl (lv_at hl 0 rfl) ?_
    refine va_get (D := (dC, dI)) (ci := 0) (v := .ref (ad 1)) (C := zR_C) (T := zT_C) (N := 6) hx hb hts zi_C hown hK hP 0 (wC_at 0 (by omega)) rfl 1 (by decide) (hts _ zf_C_24) (fun _ h9 => h9) rfl zd_C_accept_15 ?_
    refine lv_iload_n hx hb zd_C_accept_18 rfl (lv_at hl 1 rfl) ?_
    refine cn_aald hx hb hK hP 1 1 (wC_at 1 (by omega)) rfl hp (by omega) zd_C_accept_19 ?_
    refine va_get (D := (dC, dI)) (ci := 1) (v := .ref (ad (11 + 3 * p))) (C := zR_M) (T := zT_M) (N := 12) hx hb hts zi_M hown hK hP (9 + 3 * p) (wC_m hp) rfl 1 (by decide) (hts _ zf_C_128) (fun _ h9 => h9) rfl zd_C_accept_20 ?_
    refine lv_iload_n hx hb zd_C_accept_23 rfl (lv_at hl 2 rfl) ?_
    refine lv_iload_n hx hb zd_C_accept_24 rfl (lv_at hl 3 rfl) ?_
    refine cn_iast (f := a (60 + p)) hx hb hK hP hD hS (11 + 3 * p) 0 (wC_v hp) rfl (by omega) (by omega) zd_C_accept_25 (fun H locs hP hD hS => ?_)
    have hP : va_P (dC, dI) cq_cl (wC n ad cI cA (cq_p a (60 + p) c b)) H := (wC_sv hp hn5) ▸ hP
    have hD : va_D A (wC n ad cI cA (cq_p a (60 + p) c b)) := (wC_sv hp hn5) ▸ hD
    refine lv_aload_n hx hb zd_C_accept_26 rfl (lv_at hl 0 rfl) ?_
    refine lv_iload_n hx hb zd_C_accept_27 rfl (lv_at hl 1 rfl) ?_
    refine lv_iconst (v := nI 5) hx hb zd_C_accept_28 (by decide) ?_
    refine lv_iload_n hx hb zd_C_accept_29 rfl (lv_at hl 2 rfl) ?_
    refine lv_iconst (v := nI 0) hx hb zd_C_accept_30 (by decide) ?_
    refine lv_iload_n hx hb zd_C_accept_31 rfl (lv_at hl 3 rfl) ?_
    refine lv_iconst (v := nI 0) hx hb zd_C_accept_32 (by decide) ?_
    refine cq_callSI (As := [.int (nI 5), .int (nI c), .int (nI 0), .int (nI b), .int (nI 0)]) (rest := [.int (nI p), .ref (ad 0)]) ⟨hx, hb, hml, hown, hts⟩ (cC_L_write l dC dI n ad cI cA ((cq_p a (60 + p) c b)) 5 c 0 b 0 (by omega) (by omega) (by omega) (by omega)) (cq_cwS 5 hts zm_L_write zl_C_166 zs_L_write zz_L rfl rfl (by decide +kernel) ⟨Nat.le_of_ble_eq_true rfl, Nat.le_of_ble_eq_true rfl⟩) hK hP hD hS hA rfl hl.1 rfl (Nat.le_of_ble_eq_true rfl) zd_C_accept_33 ⟨Nat.zero_le _, Nat.zero_le _⟩ (fun r0 u H locs hu hP hD hS => ?_)
    obtain ⟨hr0, hue⟩ := hu
    subst hr0
    rw [hue] at hP hD
    clear hue
    refine cq_callV (C := zR_C) (As := [.int (nI p), .int (nI (gq_tx 5 c 0 b 0))]) (rest := []) ⟨hx, hb, hml, hown, hts⟩ (cC_C_sendToAllOthers l dC dI n ad cI cA ((cq_p a (60 + p) c b)) (hB.put (by omega)) hn3 hn5 (by rw [cq_p_k _ (by omega)]; exact h20) p (gq_tx 5 c 0 b 0) hp (gq_tx_lt (by decide) (by omega) (by decide) (by omega) (by decide))) (cq_cw 2 hts zm_C_sendToAllOthers zl_C_170 zs_C_sendToAllOthers ze_C_sendToAllOthers zz_C rfl rfl (by decide +kernel) ⟨Nat.le_of_ble_eq_true rfl, Nat.le_of_ble_eq_true rfl⟩) hK hP hD hS hA 0 (wC_at 0 (by omega)) rfl rfl hl.1 rfl (Nat.le_of_ble_eq_true rfl) zd_C_accept_36 ⟨Nat.zero_le _, Nat.zero_le _⟩ (fun u H locs hu hP hD hS => ?_)
    rw [show u = _ from hu] at hP hD
    clear hu
    exact cq_vret (u := (gq_toAll (cq_p a (60 + p) c b) p (gq_tx 5 c 0 b 0))) hx hb hrt hlocks hK hP hD hS (by unfold gq_accept; simp [c1]) zd_C_accept_39

set_option maxHeartbeats 4000000 in
set_option maxRecDepth 100000 in
theorem cC_C_enter (l : Launch) (dC : Nat → ClassId) (dI : Nat → Nat → Nat) (n : Nat) (ad : Nat → Nat) (cI cA : ClassId) (a : cq_S) (hB : cq_B2 a) (hn3 : 3 ≤ n) (hn5 : n ≤ 5) (h20 : a 20 0 = n) (p r : Nat) (hp : p < n) (hr1 : 1 ≤ r) (hr : r < 128) (h4 : a 4 p < 8) (h9 : a 9 p < 256) (h10 : a 10 p < 16) : cq_CV l zy_C_enter zw_C_enter ({ frames := 2, cells := 0, slots := 0, locals := 48 }) (dC, dI) cq_cl (wC n ad cI cA) (tysC cI cA) a [.ref (ad 0), .int (nI p), .ref (ad (9 + 3 * p)), .int (nI r)] (fun u => u = gq_enter a p r) := by
  refine cq_CV.of (cc := zc_C_enter) (maxL := 7) (ret := none) (by decide) rfl (Nat.le_of_ble_eq_true rfl) ?_
  intro pr ev s mt args below meth cd A ls hx hb hrt hts hown hlocks hml hP hK hD hA hS hl
  have hown : s.vm.findClass zR_C = some mt.cls := hown
  have hl : lv_has ls 7 [(0, .ref (ad 0)), (1, .int (nI p)), (2, .ref (ad (9 + 3 * p))), (3, .int (nI r))] := hl
  have hld : gq_ldr a r < n := by rw [← h20]; exact Nat.mod_lt _ (by omega)
  refine lv_aload_n hx hb zd_C_enter_0 rfl (lv_at hl 2 rfl) ?_
  refine lv_iload_n hx hb zd_C_enter_1 rfl (lv_at hl 3 rfl) ?_
  refine va_put (D := (dC, dI)) (ci := 1) (v := .int (nI r)) (ty := .int) (C := zR_M) (T := zT_M) (N := 12) hx hb hts zi_M zt_M zo_M zn_M hown hK hP hD hS (9 + 3 * p) (wC_m hp) rfl 8 (by decide) (hts _ zf_C_109) (fun _ h9 => h9) rfl (by decide +kernel) rfl rfl (Nat.le_of_ble_eq_true rfl) zd_C_enter_2 (fun H locs hP hD hS => ?_)
  have hP : va_P (dC, dI) cq_cl (wC n ad cI cA (cq_p a 8 p r)) H := (wC_sm8 hp) ▸ hP
  have hD : va_D A (wC n ad cI cA (cq_p a 8 p r)) := (wC_sm8 hp) ▸ hD
  refine lv_iload_n hx hb zd_C_enter_5 rfl (lv_at hl 3 rfl) ?_
  refine lv_bipush (v := nI 10) hx hb zd_C_enter_6 (by decide) ?_
  refine cn_icmp_le (tgt := 17) hx hb zd_C_enter_8 (by decide) (by omega) (by omega) (fun c1 => ?_) (fun c1 => ?_)
  · refine lv_aload_n hx hb zd_C_enter_17 rfl (lv_at hl 2 rfl) ?_
    refine va_get (D := (dC, dI)) (ci := 1) (v := .int (nI (a 4 p))) (C := zR_M) (T := zT_M) (N := 12) hx hb hts zi_M hown hK hP (9 + 3 * p) (wC_m hp) rfl 6 (by decide) (hts _ zf_C_106) (fun _ h9 => h9) rfl zd_C_enter_18 ?_
    refine lv_istore hx hb zd_C_enter_21 hl (by decide) rfl (fun ls hl => ?_)
    have hl : lv_has ls 7 [(4, .int (nI (a 4 p))), (0, .ref (ad 0)), (1, .int (nI p)), (2, .ref (ad (9 + 3 * p))), (3, .int (nI r))] := hl
    refine lv_aload_n hx hb zd_C_enter_23 rfl (lv_at hl 1 rfl) ?_
    refine lv_iload_n hx hb zd_C_enter_24 rfl (lv_at hl 4 rfl) ?_
    refine cq_callI (C := zR_C) (As := [.int (nI r)]) (rest := []) ⟨hx, hb, hml, hown, hts⟩ (cC_C_leaderOf l dC dI n ad cI cA ((cq_p a 8 p r)) (hB.put (by omega)) (show 1 ≤ a 20 0 by omega) r hr1 (by omega)) (cq_cw 1 hts zm_C_leaderOf zl_C_215 zs_C_leaderOf ze_C_leaderOf zz_C rfl rfl (by decide +kernel) ⟨Nat.le_of_ble_eq_true rfl, Nat.le_of_ble_eq_true rfl⟩) hK hP hD hS hA 0 (wC_at 0 (by omega)) rfl rfl hl.1 rfl (Nat.le_of_ble_eq_true rfl) zd_C_enter_25 ⟨Nat.zero_le _, Nat.zero_le _⟩ (fun r0 u H locs hu hP hD hS => ?_)
    obtain ⟨hr0, hue⟩ := hu
    subst hr0
    rw [hue] at hP hD
    clear hue
    refine lv_istore hx hb zd_C_enter_28 hl (by decide) rfl (fun ls hl => ?_)
    have hl : lv_has ls 7 [(5, .int (nI (gq_ldr a r))), (4, .int (nI (a 4 p))), (0, .ref (ad 0)), (1, .int (nI p)), (2, .ref (ad (9 + 3 * p))), (3, .int (nI r))] := hl
    refine lv_iload_n hx hb zd_C_enter_30 rfl (lv_at hl 3 rfl) ?_
    refine lv_iload hx hb zd_C_enter_31 (lv_at hl 0 rfl) ?_
    refine cn_icmp_ne (tgt := 63) hx hb zd_C_enter_33 (by decide) (by omega) (by omega) (fun c2 => ?_) (fun c2 => ?_)
    · refine lv_iconst (v := nI 2) hx hb zd_C_enter_63 (by decide) ?_
      refine lv_iload hx hb zd_C_enter_64 (lv_at hl 1 rfl) ?_
      refine lv_iload_n hx hb zd_C_enter_66 rfl (lv_at hl 5 rfl) ?_
      refine lv_aload_n hx hb zd_C_enter_67 rfl (lv_at hl 4 rfl) ?_
      refine va_get (D := (dC, dI)) (ci := 1) (v := .int (nI (a 9 p))) (C := zR_M) (T := zT_M) (N := 12) hx hb hts zi_M hown hK hP (9 + 3 * p) (wC_m hp) rfl 9 (by decide) (hts _ zf_C_112) (fun _ h9 => h9) rfl zd_C_enter_68 ?_
      refine lv_aload_n hx hb zd_C_enter_71 rfl (lv_at hl 4 rfl) ?_
      refine va_get (D := (dC, dI)) (ci := 1) (v := .int (nI (a 10 p))) (C := zR_M) (T := zT_M) (N := 12) hx hb hts zi_M hown hK hP (9 + 3 * p) (wC_m hp) rfl 10 (by decide) (hts _ zf_C_115) (fun _ h9 => h9) rfl zd_C_enter_72 ?_
      refine cq_callSI (As := [.int (nI 2), .int (nI (a 4 p)), .int (nI r), .int (nI (a 9 p)), .int (nI (a 10 p))]) (rest := []) ⟨hx, hb, hml, hown, hts⟩ (cC_L_write l dC dI n ad cI cA ((cq_p a 8 p r)) 2 (a 4 p) r (a 9 p) (a 10 p) (by omega) (by omega) (by omega) (by omega)) (cq_cwS 5 hts zm_L_write zl_C_166 zs_L_write zz_L rfl rfl (by decide +kernel) ⟨Nat.le_of_ble_eq_true rfl, Nat.le_of_ble_eq_true rfl⟩) hK hP hD hS hA rfl hl.1 rfl (Nat.le_of_ble_eq_true rfl) zd_C_enter_75 ⟨Nat.zero_le _, Nat.zero_le _⟩ (fun r0 u H locs hu hP hD hS => ?_)
      obtain ⟨hr0, hue⟩ := hu
      subst hr0
      rw [hue] at hP hD
      clear hue
      refine lv_istore hx hb zd_C_enter_78 hl (by decide) rfl (fun ls hl => ?_)
      have hl : lv_has ls 7 [(6, .int (nI (gq_tx 2 (a 4 p) r (a 9 p) (a 10 p)))), (5, .int (nI (gq_ldr a r))), (4, .int (nI (a 4 p))), (0, .ref (ad 0)), (1, .int (nI p)), (2, .ref (ad (9 + 3 * p))), (3, .int (nI r))] := hl
      refine lv_aload_n hx hb zd_C_enter_80 rfl (lv_at hl 3 rfl) ?_
      refine va_get (D := (dC, dI)) (ci := 0) (v := .ref (ad 2)) (C := zR_C) (T := zT_C) (N := 6) hx hb hts zi_C hown hK hP 0 (wC_at 0 (by omega)) rfl 2 (by decide) (hts _ zf_C_34) (fun _ h9 => h9) rfl zd_C_enter_81 ?_
      refine lv_iload_n hx hb zd_C_enter_84 rfl (lv_at hl 4 rfl) ?_
      refine lv_iload hx hb zd_C_enter_85 (lv_at hl 1 rfl) ?_
      refine lv_iload hx hb zd_C_enter_87 (lv_at hl 0 rfl) ?_
      refine cq_callV (C := zR_P) (As := [.int (nI p), .int (nI (gq_ldr a r)), .int (nI (gq_tx 2 (a 4 p) r (a 9 p) (a 10 p)))]) (rest := []) ⟨hx, hb, hml, hown, hts⟩ (cC_P_send l dC dI n ad cI cA ((cq_p a 8 p r)) (hB.put (by omega)) hn3 hn5 h20 p (gq_ldr a r) (gq_tx 2 (a 4 p) r (a 9 p) (a 10 p)) (by omega) (by omega)) (cq_cw 3 hts zm_P_send zl_C_131 zs_P_send ze_P_send zz_P rfl rfl (by decide +kernel) ⟨Nat.le_of_ble_eq_true rfl, Nat.le_of_ble_eq_true rfl⟩) hK hP hD hS hA 2 (wC_at 2 (by omega)) rfl rfl hl.1 rfl (Nat.le_of_ble_eq_true rfl) zd_C_enter_89 ⟨Nat.zero_le _, Nat.zero_le _⟩ (fun u H locs hu hP hD hS => ?_)
      rw [show u = _ from hu] at hP hD
      clear hu
      refine lv_aload_n hx hb zd_C_enter_92 rfl (lv_at hl 5 rfl) ?_
      refine lv_iconst (v := nI 2) hx hb zd_C_enter_93 (by decide) ?_
      refine va_put (D := (dC, dI)) (ci := 1) (v := .int (nI 2)) (ty := .int) (C := zR_M) (T := zT_M) (N := 12) hx hb hts zi_M zt_M zo_M zn_M hown hK hP hD hS (9 + 3 * p) (wC_m hp) rfl 7 (by decide) (hts _ zf_C_103) (fun _ h9 => h9) rfl (by decide +kernel) rfl rfl (Nat.le_of_ble_eq_true rfl) zd_C_enter_94 (fun H locs hP hD hS => ?_)
      have hP : va_P (dC, dI) cq_cl (wC n ad cI cA (cq_p (gq_send (cq_p a 8 p r) p (gq_ldr a r) (gq_tx 2 (a 4 p) r (a 9 p) (a 10 p))) 7 p 2)) H := (wC_sm7 hp) ▸ hP
      have hD : va_D A (wC n ad cI cA (cq_p (gq_send (cq_p a 8 p r) p (gq_ldr a r) (gq_tx 2 (a 4 p) r (a 9 p) (a 10 p))) 7 p 2)) := (wC_sm7 hp) ▸ hD
      exact cq_vret (u := (cq_p (gq_send (cq_p a 8 p r) p (gq_ldr a r) (gq_tx 2 (a 4 p) r (a 9 p) (a 10 p))) 7 p 2)) hx hb hrt hlocks hK hP hD hS (by unfold gq_enter; simp [c1, c2]) zd_C_enter_97
    · refine lv_aload_n hx hb zd_C_enter_36 rfl (lv_at hl 2 rfl) ?_
      refine va_get (D := (dC, dI)) (ci := 0) (v := .ref (ad 4)) (C := zR_C) (T := zT_C) (N := 6) hx hb hts zi_C hown hK hP 0 (wC_at 0 (by omega)) rfl 3 (by decide) (hts _ zf_C_41) (fun _ h9 => h9) rfl zd_C_enter_37 ?_
      refine lv_iload hx hb zd_C_enter_40 (lv_at hl 1 rfl) ?_
      refine lv_iload_n hx hb zd_C_enter_42 rfl (lv_at hl 5 rfl) ?_
      refine lv_iload_n hx hb zd_C_enter_43 rfl (lv_at hl 3 rfl) ?_
      refine lv_aload_n hx hb zd_C_enter_44 rfl (lv_at hl 4 rfl) ?_
      refine va_get (D := (dC, dI)) (ci := 1) (v := .int (nI (a 9 p))) (C := zR_M) (T := zT_M) (N := 12) hx hb hts zi_M hown hK hP (9 + 3 * p) (wC_m hp) rfl 9 (by decide) (hts _ zf_C_112) (fun _ h9 => h9) rfl zd_C_enter_45 ?_
      refine lv_aload_n hx hb zd_C_enter_48 rfl (lv_at hl 4 rfl) ?_
      refine va_get (D := (dC, dI)) (ci := 1) (v := .int (nI (a 10 p))) (C := zR_M) (T := zT_M) (N := 12) hx hb hts zi_M hown hK hP (9 + 3 * p) (wC_m hp) rfl 10 (by decide) (hts _ zf_C_115) (fun _ h9 => h9) rfl zd_C_enter_49 ?_
      refine cq_callV (C := zR_Q) (As := [.int (nI (a 4 p)), .int (nI r), .int (nI p), .int (nI (a 9 p)), .int (nI (a 10 p))]) (rest := []) ⟨hx, hb, hml, hown, hts⟩ (cC_Q_keepEstimate l dC dI n ad cI cA ((cq_p a 8 p r)) (hB.put (by omega)) hn3 hn5 h20 (a 4 p) r p (a 9 p) (a 10 p) hp h4 hr1 (by omega) h10) (cq_cw 5 hts zm_Q_keepEstimate zl_C_146 zs_Q_keepEstimate ze_Q_keepEstimate zz_Q rfl rfl (by decide +kernel) ⟨Nat.le_of_ble_eq_true rfl, Nat.le_of_ble_eq_true rfl⟩) hK hP hD hS hA 4 (wC_at 4 (by omega)) rfl rfl hl.1 rfl (Nat.le_of_ble_eq_true rfl) zd_C_enter_52 ⟨Nat.zero_le _, Nat.zero_le _⟩ (fun u H locs hu hP hD hS => ?_)
      rw [show u = _ from hu] at hP hD
      clear hu
      refine lv_aload_n hx hb zd_C_enter_55 rfl (lv_at hl 4 rfl) ?_
      refine lv_iconst (v := nI 1) hx hb zd_C_enter_56 (by decide) ?_
      refine va_put (D := (dC, dI)) (ci := 1) (v := .int (nI 1)) (ty := .int) (C := zR_M) (T := zT_M) (N := 12) hx hb hts zi_M zt_M zo_M zn_M hown hK hP hD hS (9 + 3 * p) (wC_m hp) rfl 7 (by decide) (hts _ zf_C_103) (fun _ h9 => h9) rfl (by decide +kernel) rfl rfl (Nat.le_of_ble_eq_true rfl) zd_C_enter_57 (fun H locs hP hD hS => ?_)
      have hP : va_P (dC, dI) cq_cl (wC n ad cI cA (cq_p (gq_kE (cq_p a 8 p r) (a 4 p) r p (a 9 p) (a 10 p)) 7 p 1)) H := (wC_sm7 hp) ▸ hP
      have hD : va_D A (wC n ad cI cA (cq_p (gq_kE (cq_p a 8 p r) (a 4 p) r p (a 9 p) (a 10 p)) 7 p 1)) := (wC_sm7 hp) ▸ hD
      refine lv_goto (tgt := 97) hx hb zd_C_enter_60 (by decide) ?_
      exact cq_vret (u := (cq_p (gq_kE (cq_p a 8 p r) (a 4 p) r p (a 9 p) (a 10 p)) 7 p 1)) hx hb hrt hlocks hK hP hD hS (by unfold gq_enter; simp [c1, c2]) zd_C_enter_97
  · refine lv_aload_n hx hb zd_C_enter_11 rfl (lv_at hl 2 rfl) ?_
    refine lv_iconst (v := nI 4) hx hb zd_C_enter_12 (by decide) ?_
    refine va_put (D := (dC, dI)) (ci := 1) (v := .int (nI 4)) (ty := .int) (C := zR_M) (T := zT_M) (N := 12) hx hb hts zi_M zt_M zo_M zn_M hown hK hP hD hS (9 + 3 * p) (wC_m hp) rfl 7 (by decide) (hts _ zf_C_103) (fun _ h9 => h9) rfl (by decide +kernel) rfl rfl (Nat.le_of_ble_eq_true rfl) zd_C_enter_13 (fun H locs hP hD hS => ?_)
    have hP : va_P (dC, dI) cq_cl (wC n ad cI cA (cq_p (cq_p a 8 p r) 7 p 4)) H := (wC_sm7 hp) ▸ hP
    have hD : va_D A (wC n ad cI cA (cq_p (cq_p a 8 p r) 7 p 4)) := (wC_sm7 hp) ▸ hD
    exact cq_vret (u := (cq_p (cq_p a 8 p r) 7 p 4)) hx hb hrt hlocks hK hP hD hS (by unfold gq_enter; simp [c1]) zd_C_enter_16

set_option maxHeartbeats 4000000 in
set_option maxRecDepth 100000 in
theorem cC_C_openCouncil (l : Launch) (dC : Nat → ClassId) (dI : Nat → Nat → Nat) (n : Nat) (ad : Nat → Nat) (cI cA : ClassId) (a : cq_S) (hB : cq_B2 a) (hn3 : 3 ≤ n) (hn5 : n ≤ 5) (h20 : a 20 0 = n) (p : Nat) (hp : p < n) (h0 : a 0 p < 256) : cq_CI l zy_C_openCouncil zw_C_openCouncil ({ frames := 3, cells := 0, slots := 0, locals := 74 }) (dC, dI) cq_cl (wC n ad cI cA) (tysC cI cA) a [.ref (ad 0), .int (nI p), .ref (ad (9 + 3 * p))] (fun r0 u => r0 = nI (gq_open a p).2 ∧ u = (gq_open a p).1) := by
  refine cq_CI.of (cc := zc_C_openCouncil) (maxL := 4) (ret := (some .boolean)) (by decide) rfl (Nat.le_of_ble_eq_true rfl) ?_
  intro pr ev s mt args below meth cd A ls hx hb hrt hts hown hlocks hml hP hK hD hA hS hl
  have hown : s.vm.findClass zR_C = some mt.cls := hown
  have hl : lv_has ls 4 [(0, .ref (ad 0)), (1, .int (nI p)), (2, .ref (ad (9 + 3 * p)))] := hl
  have han : cq_an (a 0 p) (a 1 p) < 256 := cq_an_256 h0
  refine lv_aload_n hx hb zd_C_openCouncil_0 rfl (lv_at hl 2 rfl) ?_
  refine cq_callI (C := zR_M) (As := []) (rest := []) ⟨hx, hb, hml, hown, hts⟩ (cC_M_undelivered l dC dI n ad cI cA a hB p hp) (cq_cw 0 hts zm_M_undelivered zl_C_196 zs_M_undelivered ze_M_undelivered zz_M rfl rfl (by decide +kernel) ⟨Nat.le_of_ble_eq_true rfl, Nat.le_of_ble_eq_true rfl⟩) hK hP hD hS hA (9 + 3 * p) (wC_m hp) rfl rfl hl.1 rfl (Nat.le_of_ble_eq_true rfl) zd_C_openCouncil_1 ⟨Nat.zero_le _, Nat.zero_le _⟩ (fun r0 u H locs hu hP hD hS => ?_)
  obtain ⟨hr0, hue⟩ := hu
  subst hr0
  rw [hue] at hP hD
  clear hue
  refine lv_istore_n hx hb zd_C_openCouncil_4 rfl hl (by decide) rfl (fun ls hl => ?_)
  have hl : lv_has ls 4 [(3, .int (nI (cq_an (a 0 p) (a 1 p)))), (0, .ref (ad 0)), (1, .int (nI p)), (2, .ref (ad (9 + 3 * p)))] := hl
  refine lv_iload_n hx hb zd_C_openCouncil_5 rfl (lv_at hl 0 rfl) ?_
  refine cn_if_eq (tgt := 18) hx hb zd_C_openCouncil_6 (by decide) (by omega) (fun c1 => ?_) (fun c1 => ?_)
  · refine lv_iconst (v := nI 0) hx hb zd_C_openCouncil_18 (by decide) ?_
    exact cq_ret (u := a) hx hb hrt ⟨_, rfl, rfl⟩ hlocks hK hP hD hS (by rw [show gq_open a p = (a, 0) by unfold gq_open; rw [if_pos (by omega)]]; exact ⟨rfl, rfl⟩) zd_C_openCouncil_19
  · refine lv_aload_n hx hb zd_C_openCouncil_9 rfl (lv_at hl 3 rfl) ?_
    refine va_get (D := (dC, dI)) (ci := 1) (v := .int (nI (a 4 p))) (C := zR_M) (T := zT_M) (N := 12) hx hb hts zi_M hown hK hP (9 + 3 * p) (wC_m hp) rfl 6 (by decide) (hts _ zf_C_106) (fun _ h9 => h9) rfl zd_C_openCouncil_10 ?_
    refine lv_bipush (v := nI 8) hx hb zd_C_openCouncil_13 (by decide) ?_
    refine cn_icmp_lt (tgt := 20) hx hb zd_C_openCouncil_15 (by decide) (hB _ _ (by decide)) (by omega) (fun c2 => ?_) (fun c2 => ?_)
    · refine lv_aload_n hx hb zd_C_openCouncil_20 rfl (lv_at hl 3 rfl) ?_
      refine lv_iload_n hx hb zd_C_openCouncil_21 rfl (lv_at hl 0 rfl) ?_
      refine va_put (D := (dC, dI)) (ci := 1) (v := .int (nI (cq_an (a 0 p) (a 1 p)))) (ty := .int) (C := zR_M) (T := zT_M) (N := 12) hx hb hts zi_M zt_M zo_M zn_M hown hK hP hD hS (9 + 3 * p) (wC_m hp) rfl 9 (by decide) (hts _ zf_C_112) (fun _ h9 => h9) rfl (by decide +kernel) rfl rfl (Nat.le_of_ble_eq_true rfl) zd_C_openCouncil_22 (fun H locs hP hD hS => ?_)
      have hP : va_P (dC, dI) cq_cl (wC n ad cI cA (cq_p a 9 p (cq_an (a 0 p) (a 1 p)))) H := (wC_sm9 hp) ▸ hP
      have hD : va_D A (wC n ad cI cA (cq_p a 9 p (cq_an (a 0 p) (a 1 p)))) := (wC_sm9 hp) ▸ hD
      refine lv_aload_n hx hb zd_C_openCouncil_25 rfl (lv_at hl 3 rfl) ?_
      refine lv_iconst (v := nI 0) hx hb zd_C_openCouncil_26 (by decide) ?_
      refine va_put (D := (dC, dI)) (ci := 1) (v := .int (nI 0)) (ty := .int) (C := zR_M) (T := zT_M) (N := 12) hx hb hts zi_M zt_M zo_M zn_M hown hK hP hD hS (9 + 3 * p) (wC_m hp) rfl 10 (by decide) (hts _ zf_C_115) (fun _ h9 => h9) rfl (by decide +kernel) rfl rfl (Nat.le_of_ble_eq_true rfl) zd_C_openCouncil_27 (fun H locs hP hD hS => ?_)
      have hP : va_P (dC, dI) cq_cl (wC n ad cI cA (cq_p (cq_p a 9 p (cq_an (a 0 p) (a 1 p))) 10 p 0)) H := (wC_sm10 hp) ▸ hP
      have hD : va_D A (wC n ad cI cA (cq_p (cq_p a 9 p (cq_an (a 0 p) (a 1 p))) 10 p 0)) := (wC_sm10 hp) ▸ hD
      refine lv_aload_n hx hb zd_C_openCouncil_30 rfl (lv_at hl 1 rfl) ?_
      refine lv_iload_n hx hb zd_C_openCouncil_31 rfl (lv_at hl 2 rfl) ?_
      refine lv_aload_n hx hb zd_C_openCouncil_32 rfl (lv_at hl 3 rfl) ?_
      refine lv_iconst (v := nI 1) hx hb zd_C_openCouncil_33 (by decide) ?_
      refine cq_callV (C := zR_C) (As := [.int (nI p), .ref (ad (9 + 3 * p)), .int (nI 1)]) (rest := []) ⟨hx, hb, hml, hown, hts⟩ (cC_C_enter l dC dI n ad cI cA ((cq_p (cq_p a 9 p (cq_an (a 0 p) (a 1 p))) 10 p 0)) ((hB.put (by omega)).put (by decide)) hn3 hn5 h20 p 1 hp (by decide) (by decide) (show a 4 p < 8 by omega) (show cq_p (cq_p a 9 p (cq_an (a 0 p) (a 1 p))) 10 p 0 9 p < 256 by simp [cq_p]; exact han) (show cq_p (cq_p a 9 p (cq_an (a 0 p) (a 1 p))) 10 p 0 10 p < 16 by simp [cq_p])) (cq_cw 3 hts zm_C_enter zl_C_199 zs_C_enter ze_C_enter zz_C rfl rfl (by decide +kernel) ⟨Nat.le_of_ble_eq_true rfl, Nat.le_of_ble_eq_true rfl⟩) hK hP hD hS hA 0 (wC_at 0 (by omega)) rfl rfl hl.1 rfl (Nat.le_of_ble_eq_true rfl) zd_C_openCouncil_34 ⟨Nat.zero_le _, Nat.zero_le _⟩ (fun u H locs hu hP hD hS => ?_)
      rw [show u = _ from hu] at hP hD
      clear hu
      refine lv_iconst (v := nI 1) hx hb zd_C_openCouncil_37 (by decide) ?_
      exact cq_ret (u := (gq_enter (cq_p (cq_p a 9 p (cq_an (a 0 p) (a 1 p))) 10 p 0) p 1)) hx hb hrt ⟨_, rfl, rfl⟩ hlocks hK hP hD hS (by rw [show gq_open a p = ((gq_enter (cq_p (cq_p a 9 p (cq_an (a 0 p) (a 1 p))) 10 p 0) p 1), 1) by unfold gq_open; rw [if_neg (by omega)]]; exact ⟨rfl, rfl⟩) zd_C_openCouncil_38
    · refine lv_iconst (v := nI 0) hx hb zd_C_openCouncil_18 (by decide) ?_
      exact cq_ret (u := a) hx hb hrt ⟨_, rfl, rfl⟩ hlocks hK hP hD hS (by rw [show gq_open a p = (a, 0) by unfold gq_open; rw [if_pos (by omega)]]; exact ⟨rfl, rfl⟩) zd_C_openCouncil_19

