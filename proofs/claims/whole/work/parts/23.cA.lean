set_option maxHeartbeats 4000000 in
set_option maxRecDepth 100000 in
theorem cC_L_kindOf (l : Launch) (dC : Nat → ClassId) (dI : Nat → Nat → Nat) (n : Nat) (ad : Nat → Nat) (cI cA : ClassId) (a : cq_S) (t : Nat) (ht : t < 2147483648) : cq_CI l zy_L_kindOf zw_L_kindOf ({ frames := 0, cells := 0, slots := 0, locals := 0 }) (dC, dI) cq_cl (wC n ad cI cA) (tysC cI cA) a [.int (nI t)] (fun r0 u => r0 = nI (t % 8) ∧ u = a) := by
  refine cq_CI.of (cc := zc_L_kindOf) (maxL := 1) (ret := (some .int)) (by decide) rfl (Nat.le_of_ble_eq_true rfl) ?_
  intro pr ev s mt args below meth cd A ls hx hb hrt hts hown hlocks hml hP hK hD hA hS hl
  have hown : s.vm.findClass zR_L = some mt.cls := hown
  have hl : lv_has ls 1 [(0, .int (nI t))] := hl
  refine lv_iload_n hx hb zd_L_kindOf_0 rfl (lv_at hl 0 rfl) ?_
  refine lv_bipush (v := nI 7) hx hb zd_L_kindOf_1 (by decide) ?_
  refine cn_mask 8 3 (by decide) (by omega) (by decide) (by decide) hx hb zd_L_kindOf_3 ?_
  exact cq_ret (u := a) hx hb hrt ⟨_, rfl, rfl⟩ hlocks hK hP hD hS ⟨rfl, rfl⟩ zd_L_kindOf_4

set_option maxHeartbeats 4000000 in
set_option maxRecDepth 100000 in
theorem cC_L_councilOf (l : Launch) (dC : Nat → ClassId) (dI : Nat → Nat → Nat) (n : Nat) (ad : Nat → Nat) (cI cA : ClassId) (a : cq_S) (t : Nat) (ht : t < 2147483648) : cq_CI l zy_L_councilOf zw_L_councilOf ({ frames := 0, cells := 0, slots := 0, locals := 0 }) (dC, dI) cq_cl (wC n ad cI cA) (tysC cI cA) a [.int (nI t)] (fun r0 u => r0 = nI (t / 2 ^ 3 % 8) ∧ u = a) := by
  refine cq_CI.of (cc := zc_L_councilOf) (maxL := 1) (ret := (some .int)) (by decide) rfl (Nat.le_of_ble_eq_true rfl) ?_
  intro pr ev s mt args below meth cd A ls hx hb hrt hts hown hlocks hml hP hK hD hA hS hl
  have hown : s.vm.findClass zR_L = some mt.cls := hown
  have hl : lv_has ls 1 [(0, .int (nI t))] := hl
  refine lv_iload_n hx hb zd_L_councilOf_0 rfl (lv_at hl 0 rfl) ?_
  refine lv_iconst (v := nI 3) hx hb zd_L_councilOf_1 (by decide) ?_
  refine cn_ishr hx hb zd_L_councilOf_2 ht (by omega) ?_
  refine lv_bipush (v := nI 7) hx hb zd_L_councilOf_3 (by decide) ?_
  refine cn_mask 8 3 (by decide) (Nat.lt_of_le_of_lt (Nat.div_le_self _ _) ht) (by decide) (by decide) hx hb zd_L_councilOf_5 ?_
  exact cq_ret (u := a) hx hb hrt ⟨_, rfl, rfl⟩ hlocks hK hP hD hS ⟨rfl, rfl⟩ zd_L_councilOf_6

set_option maxHeartbeats 4000000 in
set_option maxRecDepth 100000 in
theorem cC_L_roundOf (l : Launch) (dC : Nat → ClassId) (dI : Nat → Nat → Nat) (n : Nat) (ad : Nat → Nat) (cI cA : ClassId) (a : cq_S) (t : Nat) (ht : t < 2147483648) : cq_CI l zy_L_roundOf zw_L_roundOf ({ frames := 0, cells := 0, slots := 0, locals := 0 }) (dC, dI) cq_cl (wC n ad cI cA) (tysC cI cA) a [.int (nI t)] (fun r0 u => r0 = nI (t / 2 ^ 6 % 16) ∧ u = a) := by
  refine cq_CI.of (cc := zc_L_roundOf) (maxL := 1) (ret := (some .int)) (by decide) rfl (Nat.le_of_ble_eq_true rfl) ?_
  intro pr ev s mt args below meth cd A ls hx hb hrt hts hown hlocks hml hP hK hD hA hS hl
  have hown : s.vm.findClass zR_L = some mt.cls := hown
  have hl : lv_has ls 1 [(0, .int (nI t))] := hl
  refine lv_iload_n hx hb zd_L_roundOf_0 rfl (lv_at hl 0 rfl) ?_
  refine lv_bipush (v := nI 6) hx hb zd_L_roundOf_1 (by decide) ?_
  refine cn_ishr hx hb zd_L_roundOf_3 ht (by omega) ?_
  refine lv_bipush (v := nI 15) hx hb zd_L_roundOf_4 (by decide) ?_
  refine cn_mask 16 4 (by decide) (Nat.lt_of_le_of_lt (Nat.div_le_self _ _) ht) (by decide) (by decide) hx hb zd_L_roundOf_6 ?_
  exact cq_ret (u := a) hx hb hrt ⟨_, rfl, rfl⟩ hlocks hK hP hD hS ⟨rfl, rfl⟩ zd_L_roundOf_7

set_option maxHeartbeats 4000000 in
set_option maxRecDepth 100000 in
theorem cC_L_wordOf (l : Launch) (dC : Nat → ClassId) (dI : Nat → Nat → Nat) (n : Nat) (ad : Nat → Nat) (cI cA : ClassId) (a : cq_S) (t : Nat) (ht : t < 2147483648) : cq_CI l zy_L_wordOf zw_L_wordOf ({ frames := 0, cells := 0, slots := 0, locals := 0 }) (dC, dI) cq_cl (wC n ad cI cA) (tysC cI cA) a [.int (nI t)] (fun r0 u => r0 = nI (t / 2 ^ 10 % 256) ∧ u = a) := by
  refine cq_CI.of (cc := zc_L_wordOf) (maxL := 1) (ret := (some .int)) (by decide) rfl (Nat.le_of_ble_eq_true rfl) ?_
  intro pr ev s mt args below meth cd A ls hx hb hrt hts hown hlocks hml hP hK hD hA hS hl
  have hown : s.vm.findClass zR_L = some mt.cls := hown
  have hl : lv_has ls 1 [(0, .int (nI t))] := hl
  refine lv_iload_n hx hb zd_L_wordOf_0 rfl (lv_at hl 0 rfl) ?_
  refine lv_bipush (v := nI 10) hx hb zd_L_wordOf_1 (by decide) ?_
  refine cn_ishr hx hb zd_L_wordOf_3 ht (by omega) ?_
  refine lv_sipush (v := nI 255) hx hb zd_L_wordOf_4 (by decide) ?_
  refine cn_mask 256 8 (by decide) (Nat.lt_of_le_of_lt (Nat.div_le_self _ _) ht) (by decide) (by decide) hx hb zd_L_wordOf_7 ?_
  exact cq_ret (u := a) hx hb hrt ⟨_, rfl, rfl⟩ hlocks hK hP hD hS ⟨rfl, rfl⟩ zd_L_wordOf_8

set_option maxHeartbeats 4000000 in
set_option maxRecDepth 100000 in
theorem cC_L_stampOf (l : Launch) (dC : Nat → ClassId) (dI : Nat → Nat → Nat) (n : Nat) (ad : Nat → Nat) (cI cA : ClassId) (a : cq_S) (t : Nat) (ht : t < 2147483648) : cq_CI l zy_L_stampOf zw_L_stampOf ({ frames := 0, cells := 0, slots := 0, locals := 0 }) (dC, dI) cq_cl (wC n ad cI cA) (tysC cI cA) a [.int (nI t)] (fun r0 u => r0 = nI (t / 2 ^ 18 % 16) ∧ u = a) := by
  refine cq_CI.of (cc := zc_L_stampOf) (maxL := 1) (ret := (some .int)) (by decide) rfl (Nat.le_of_ble_eq_true rfl) ?_
  intro pr ev s mt args below meth cd A ls hx hb hrt hts hown hlocks hml hP hK hD hA hS hl
  have hown : s.vm.findClass zR_L = some mt.cls := hown
  have hl : lv_has ls 1 [(0, .int (nI t))] := hl
  refine lv_iload_n hx hb zd_L_stampOf_0 rfl (lv_at hl 0 rfl) ?_
  refine lv_bipush (v := nI 18) hx hb zd_L_stampOf_1 (by decide) ?_
  refine cn_ishr hx hb zd_L_stampOf_3 ht (by omega) ?_
  refine lv_bipush (v := nI 15) hx hb zd_L_stampOf_4 (by decide) ?_
  refine cn_mask 16 4 (by decide) (Nat.lt_of_le_of_lt (Nat.div_le_self _ _) ht) (by decide) (by decide) hx hb zd_L_stampOf_6 ?_
  exact cq_ret (u := a) hx hb hrt ⟨_, rfl, rfl⟩ hlocks hK hP hD hS ⟨rfl, rfl⟩ zd_L_stampOf_7

set_option maxHeartbeats 4000000 in
set_option maxRecDepth 100000 in
theorem cC_L_write (l : Launch) (dC : Nat → ClassId) (dI : Nat → Nat → Nat) (n : Nat) (ad : Nat → Nat) (cI cA : ClassId) (a : cq_S) (k c r w s0 : Nat) (hc : c < 8) (hr : r < 16) (hw : w < 256) (hs0 : s0 < 16) : cq_CI l zy_L_write zw_L_write ({ frames := 0, cells := 0, slots := 0, locals := 0 }) (dC, dI) cq_cl (wC n ad cI cA) (tysC cI cA) a [.int (nI k), .int (nI c), .int (nI r), .int (nI w), .int (nI s0)] (fun r0 u => r0 = nI (gq_tx k c r w s0) ∧ u = a) := by
  refine cq_CI.of (cc := zc_L_write) (maxL := 5) (ret := (some .int)) (by decide) rfl (Nat.le_of_ble_eq_true rfl) ?_
  intro pr ev s mt args below meth cd A ls hx hb hrt hts hown hlocks hml hP hK hD hA hS hl
  have hown : s.vm.findClass zR_L = some mt.cls := hown
  have hl : lv_has ls 5 [(0, .int (nI k)), (1, .int (nI c)), (2, .int (nI r)), (3, .int (nI w)), (4, .int (nI s0))] := hl
  refine lv_iload_n hx hb zd_L_write_0 rfl (lv_at hl 0 rfl) ?_
  refine lv_iload_n hx hb zd_L_write_1 rfl (lv_at hl 1 rfl) ?_
  refine lv_iconst (v := nI 3) hx hb zd_L_write_2 (by decide) ?_
  refine cn_ishl hx hb zd_L_write_3 (by omega) (by omega) ?_
  refine cn_ior hx hb zd_L_write_4 ?_
  refine lv_iload_n hx hb zd_L_write_5 rfl (lv_at hl 2 rfl) ?_
  refine lv_bipush (v := nI 6) hx hb zd_L_write_6 (by decide) ?_
  refine cn_ishl hx hb zd_L_write_8 (by omega) (by omega) ?_
  refine cn_ior hx hb zd_L_write_9 ?_
  refine lv_iload_n hx hb zd_L_write_10 rfl (lv_at hl 3 rfl) ?_
  refine lv_bipush (v := nI 10) hx hb zd_L_write_11 (by decide) ?_
  refine cn_ishl hx hb zd_L_write_13 (by omega) (by omega) ?_
  refine cn_ior hx hb zd_L_write_14 ?_
  refine lv_iload hx hb zd_L_write_15 (lv_at hl 4 rfl) ?_
  refine lv_bipush (v := nI 18) hx hb zd_L_write_17 (by decide) ?_
  refine cn_ishl hx hb zd_L_write_19 (by omega) (by omega) ?_
  refine cn_ior hx hb zd_L_write_20 ?_
  exact cq_ret (u := a) hx hb hrt ⟨_, rfl, rfl⟩ hlocks hK hP hD hS ⟨rfl, rfl⟩ zd_L_write_21

set_option maxHeartbeats 4000000 in
set_option maxRecDepth 100000 in
theorem cC_M_knows (l : Launch) (dC : Nat → ClassId) (dI : Nat → Nat → Nat) (n : Nat) (ad : Nat → Nat) (cI cA : ClassId) (a : cq_S) (hB : cq_B2 a) (p : Nat) (hp : p < n) (m : Nat) (hm : m < 32) : cq_CI l zy_M_knows zw_M_knows ({ frames := 0, cells := 0, slots := 0, locals := 0 }) (dC, dI) cq_cl (wC n ad cI cA) (tysC cI cA) a [.ref (ad (9 + 3 * p)), .int (nI m)] (fun r0 u => r0 = nI (if a 0 p / 2 ^ m % 2 = 0 then 0 else 1) ∧ u = a) := by
  refine cq_CI.of (cc := zc_M_knows) (maxL := 2) (ret := (some .boolean)) (by decide) rfl (Nat.le_of_ble_eq_true rfl) ?_
  intro pr ev s mt args below meth cd A ls hx hb hrt hts hown hlocks hml hP hK hD hA hS hl
  have hown : s.vm.findClass zR_M = some mt.cls := hown
  have hl : lv_has ls 2 [(0, .ref (ad (9 + 3 * p))), (1, .int (nI m))] := hl
  refine lv_aload_n hx hb zd_M_knows_0 rfl (lv_at hl 0 rfl) ?_
  refine va_get (D := (dC, dI)) (ci := 1) (v := .int (nI (a 0 p))) (C := zR_M) (T := zT_M) (N := 12) hx hb hts zi_M hown hK hP (9 + 3 * p) (wC_m hp) rfl 2 (by decide) (hts _ zf_M_18) (fun _ h9 => h9) rfl zd_M_knows_1 ?_
  refine lv_iload_n hx hb zd_M_knows_4 rfl (lv_at hl 1 rfl) ?_
  refine cn_ishr hx hb zd_M_knows_5 (hB _ _ (by decide)) (by omega) ?_
  refine lv_iconst (v := nI 1) hx hb zd_M_knows_6 (by decide) ?_
  refine cn_mask 2 1 (by decide) (Nat.lt_of_le_of_lt (Nat.div_le_self _ _) (hB _ _ (by decide))) (by decide) (by decide) hx hb zd_M_knows_7 ?_
  refine cn_if_eq (tgt := 15) hx hb zd_M_knows_8 (by decide) (by omega) (fun c1 => ?_) (fun c1 => ?_)
  · refine lv_iconst (v := nI 0) hx hb zd_M_knows_15 (by decide) ?_
    exact cq_ret (u := a) hx hb hrt ⟨_, rfl, rfl⟩ hlocks hK hP hD hS ⟨by simp [c1], rfl⟩ zd_M_knows_16
  · refine lv_iconst (v := nI 1) hx hb zd_M_knows_11 (by decide) ?_
    refine lv_goto (tgt := 16) hx hb zd_M_knows_12 (by decide) ?_
    exact cq_ret (u := a) hx hb hrt ⟨_, rfl, rfl⟩ hlocks hK hP hD hS ⟨by simp [c1], rfl⟩ zd_M_knows_16

set_option maxHeartbeats 4000000 in
set_option maxRecDepth 100000 in
theorem cC_M_hasSuspicion (l : Launch) (dC : Nat → ClassId) (dI : Nat → Nat → Nat) (n : Nat) (ad : Nat → Nat) (cI cA : ClassId) (a : cq_S) (hB : cq_B2 a) (p : Nat) (hp : p < n) (q : Nat) (hq : q < 32) : cq_CI l zy_M_hasSuspicion zw_M_hasSuspicion ({ frames := 0, cells := 0, slots := 0, locals := 0 }) (dC, dI) cq_cl (wC n ad cI cA) (tysC cI cA) a [.ref (ad (9 + 3 * p)), .int (nI q)] (fun r0 u => r0 = nI (if a 5 p / 2 ^ q % 2 = 0 then 0 else 1) ∧ u = a) := by
  refine cq_CI.of (cc := zc_M_hasSuspicion) (maxL := 2) (ret := (some .boolean)) (by decide) rfl (Nat.le_of_ble_eq_true rfl) ?_
  intro pr ev s mt args below meth cd A ls hx hb hrt hts hown hlocks hml hP hK hD hA hS hl
  have hown : s.vm.findClass zR_M = some mt.cls := hown
  have hl : lv_has ls 2 [(0, .ref (ad (9 + 3 * p))), (1, .int (nI q))] := hl
  refine lv_aload_n hx hb zd_M_hasSuspicion_0 rfl (lv_at hl 0 rfl) ?_
  refine va_get (D := (dC, dI)) (ci := 1) (v := .int (nI (a 5 p))) (C := zR_M) (T := zT_M) (N := 12) hx hb hts zi_M hown hK hP (9 + 3 * p) (wC_m hp) rfl 5 (by decide) (hts _ zf_M_25) (fun _ h9 => h9) rfl zd_M_hasSuspicion_1 ?_
  refine lv_iload_n hx hb zd_M_hasSuspicion_4 rfl (lv_at hl 1 rfl) ?_
  refine cn_ishr hx hb zd_M_hasSuspicion_5 (hB _ _ (by decide)) (by omega) ?_
  refine lv_iconst (v := nI 1) hx hb zd_M_hasSuspicion_6 (by decide) ?_
  refine cn_mask 2 1 (by decide) (Nat.lt_of_le_of_lt (Nat.div_le_self _ _) (hB _ _ (by decide))) (by decide) (by decide) hx hb zd_M_hasSuspicion_7 ?_
  refine cn_if_eq (tgt := 15) hx hb zd_M_hasSuspicion_8 (by decide) (by omega) (fun c1 => ?_) (fun c1 => ?_)
  · refine lv_iconst (v := nI 0) hx hb zd_M_hasSuspicion_15 (by decide) ?_
    exact cq_ret (u := a) hx hb hrt ⟨_, rfl, rfl⟩ hlocks hK hP hD hS ⟨by simp [c1], rfl⟩ zd_M_hasSuspicion_16
  · refine lv_iconst (v := nI 1) hx hb zd_M_hasSuspicion_11 (by decide) ?_
    refine lv_goto (tgt := 16) hx hb zd_M_hasSuspicion_12 (by decide) ?_
    exact cq_ret (u := a) hx hb hrt ⟨_, rfl, rfl⟩ hlocks hK hP hD hS ⟨by simp [c1], rfl⟩ zd_M_hasSuspicion_16

set_option maxHeartbeats 4000000 in
set_option maxRecDepth 100000 in
theorem cC_M_addKnown (l : Launch) (dC : Nat → ClassId) (dI : Nat → Nat → Nat) (n : Nat) (ad : Nat → Nat) (cI cA : ClassId) (a : cq_S) (hB : cq_B2 a) (p : Nat) (hp : p < n) (m : Nat) (hm : m < 32) : cq_CV l zy_M_addKnown zw_M_addKnown ({ frames := 0, cells := 0, slots := 0, locals := 0 }) (dC, dI) cq_cl (wC n ad cI cA) (tysC cI cA) a [.ref (ad (9 + 3 * p)), .int (nI m)] (fun u => u = cq_p a 0 p (a 0 p ||| 2 ^ m)) := by
  refine cq_CV.of (cc := zc_M_addKnown) (maxL := 2) (ret := none) (by decide) rfl (Nat.le_of_ble_eq_true rfl) ?_
  intro pr ev s mt args below meth cd A ls hx hb hrt hts hown hlocks hml hP hK hD hA hS hl
  have hown : s.vm.findClass zR_M = some mt.cls := hown
  have hl : lv_has ls 2 [(0, .ref (ad (9 + 3 * p))), (1, .int (nI m))] := hl
  refine lv_aload_n hx hb zd_M_addKnown_0 rfl (lv_at hl 0 rfl) ?_
  refine lv_dup hx hb zd_M_addKnown_1 rfl ?_
  refine va_get (D := (dC, dI)) (ci := 1) (v := .int (nI (a 0 p))) (C := zR_M) (T := zT_M) (N := 12) hx hb hts zi_M hown hK hP (9 + 3 * p) (wC_m hp) rfl 2 (by decide) (hts _ zf_M_18) (fun _ h9 => h9) rfl zd_M_addKnown_2 ?_
  refine lv_iconst (v := nI 1) hx hb zd_M_addKnown_5 (by decide) ?_
  refine lv_iload_n hx hb zd_M_addKnown_6 rfl (lv_at hl 1 rfl) ?_
  refine cn_ishl1 hx hb zd_M_addKnown_7 (by omega) ?_
  refine cn_ior hx hb zd_M_addKnown_8 ?_
  refine va_put (D := (dC, dI)) (ci := 1) (v := .int (nI ((a 0 p) ||| (2 ^ m)))) (ty := .int) (C := zR_M) (T := zT_M) (N := 12) hx hb hts zi_M zt_M zo_M zn_M hown hK hP hD hS (9 + 3 * p) (wC_m hp) rfl 2 (by decide) (hts _ zf_M_18) (fun _ h9 => h9) rfl (by decide +kernel) rfl rfl (Nat.le_of_ble_eq_true rfl) zd_M_addKnown_9 (fun H locs hP hD hS => ?_)
  have hP : va_P (dC, dI) cq_cl (wC n ad cI cA (cq_p a 0 p ((a 0 p) ||| (2 ^ m)))) H := (wC_sm0 hp) ▸ hP
  have hD : va_D A (wC n ad cI cA (cq_p a 0 p ((a 0 p) ||| (2 ^ m)))) := (wC_sm0 hp) ▸ hD
  exact cq_vret (u := (cq_p a 0 p ((a 0 p) ||| (2 ^ m)))) hx hb hrt hlocks hK hP hD hS rfl zd_M_addKnown_12

set_option maxHeartbeats 4000000 in
set_option maxRecDepth 100000 in
theorem cC_M_undelivered (l : Launch) (dC : Nat → ClassId) (dI : Nat → Nat → Nat) (n : Nat) (ad : Nat → Nat) (cI cA : ClassId) (a : cq_S) (hB : cq_B2 a) (p : Nat) (hp : p < n) : cq_CI l zy_M_undelivered zw_M_undelivered ({ frames := 0, cells := 0, slots := 0, locals := 0 }) (dC, dI) cq_cl (wC n ad cI cA) (tysC cI cA) a [.ref (ad (9 + 3 * p))] (fun r0 u => r0 = nI (cq_an (a 0 p) (a 1 p)) ∧ u = a) := by
  refine cq_CI.of (cc := zc_M_undelivered) (maxL := 1) (ret := (some .int)) (by decide) rfl (Nat.le_of_ble_eq_true rfl) ?_
  intro pr ev s mt args below meth cd A ls hx hb hrt hts hown hlocks hml hP hK hD hA hS hl
  have hown : s.vm.findClass zR_M = some mt.cls := hown
  have hl : lv_has ls 1 [(0, .ref (ad (9 + 3 * p)))] := hl
  refine lv_aload_n hx hb zd_M_undelivered_0 rfl (lv_at hl 0 rfl) ?_
  refine va_get (D := (dC, dI)) (ci := 1) (v := .int (nI (a 0 p))) (C := zR_M) (T := zT_M) (N := 12) hx hb hts zi_M hown hK hP (9 + 3 * p) (wC_m hp) rfl 2 (by decide) (hts _ zf_M_18) (fun _ h9 => h9) rfl zd_M_undelivered_1 ?_
  refine lv_aload_n hx hb zd_M_undelivered_4 rfl (lv_at hl 0 rfl) ?_
  refine va_get (D := (dC, dI)) (ci := 1) (v := .int (nI (a 1 p))) (C := zR_M) (T := zT_M) (N := 12) hx hb hts zi_M hown hK hP (9 + 3 * p) (wC_m hp) rfl 3 (by decide) (hts _ zf_M_22) (fun _ h9 => h9) rfl zd_M_undelivered_5 ?_
  refine lv_iconst (v := -1) hx hb zd_M_undelivered_8 (by decide) ?_
  refine lv_ixor hx hb zd_M_undelivered_9 ?_
  refine cn_andn hx hb zd_M_undelivered_10 ?_
  exact cq_ret (u := a) hx hb hrt ⟨_, rfl, rfl⟩ hlocks hK hP hD hS ⟨rfl, rfl⟩ zd_M_undelivered_11

set_option maxHeartbeats 4000000 in
set_option maxRecDepth 100000 in
theorem cC_M_setSuspicion (l : Launch) (dC : Nat → ClassId) (dI : Nat → Nat → Nat) (n : Nat) (ad : Nat → Nat) (cI cA : ClassId) (a : cq_S) (hB : cq_B2 a) (p : Nat) (hp : p < n) (q y : Nat) (hq : q < 32) (hy : y < 2147483648) : cq_CV l zy_M_setSuspicion zw_M_setSuspicion ({ frames := 0, cells := 0, slots := 0, locals := 0 }) (dC, dI) cq_cl (wC n ad cI cA) (tysC cI cA) a [.ref (ad (9 + 3 * p)), .int (nI q), .int (nI y)] (fun u => u = cq_p a 5 p (if y = 0 then cq_an (a 5 p) (2 ^ q) else a 5 p ||| 2 ^ q)) := by
  refine cq_CV.of (cc := zc_M_setSuspicion) (maxL := 3) (ret := none) (by decide) rfl (Nat.le_of_ble_eq_true rfl) ?_
  intro pr ev s mt args below meth cd A ls hx hb hrt hts hown hlocks hml hP hK hD hA hS hl
  have hown : s.vm.findClass zR_M = some mt.cls := hown
  have hl : lv_has ls 3 [(0, .ref (ad (9 + 3 * p))), (1, .int (nI q)), (2, .int (nI y))] := hl
  refine lv_iload_n hx hb zd_M_setSuspicion_0 rfl (lv_at hl 2 rfl) ?_
  refine cn_if_eq (tgt := 19) hx hb zd_M_setSuspicion_1 (by decide) (by omega) (fun c1 => ?_) (fun c1 => ?_)
  · refine lv_aload_n hx hb zd_M_setSuspicion_19 rfl (lv_at hl 0 rfl) ?_
    refine lv_dup hx hb zd_M_setSuspicion_20 rfl ?_
    refine va_get (D := (dC, dI)) (ci := 1) (v := .int (nI (a 5 p))) (C := zR_M) (T := zT_M) (N := 12) hx hb hts zi_M hown hK hP (9 + 3 * p) (wC_m hp) rfl 5 (by decide) (hts _ zf_M_25) (fun _ h9 => h9) rfl zd_M_setSuspicion_21 ?_
    refine lv_iconst (v := nI 1) hx hb zd_M_setSuspicion_24 (by decide) ?_
    refine lv_iload_n hx hb zd_M_setSuspicion_25 rfl (lv_at hl 1 rfl) ?_
    refine cn_ishl1 hx hb zd_M_setSuspicion_26 (by omega) ?_
    refine lv_iconst (v := -1) hx hb zd_M_setSuspicion_27 (by decide) ?_
    refine lv_ixor hx hb zd_M_setSuspicion_28 ?_
    refine cn_andn hx hb zd_M_setSuspicion_29 ?_
    refine va_put (D := (dC, dI)) (ci := 1) (v := .int (nI (cq_an (a 5 p) (2 ^ q)))) (ty := .int) (C := zR_M) (T := zT_M) (N := 12) hx hb hts zi_M zt_M zo_M zn_M hown hK hP hD hS (9 + 3 * p) (wC_m hp) rfl 5 (by decide) (hts _ zf_M_25) (fun _ h9 => h9) rfl (by decide +kernel) rfl rfl (Nat.le_of_ble_eq_true rfl) zd_M_setSuspicion_30 (fun H locs hP hD hS => ?_)
    have hP : va_P (dC, dI) cq_cl (wC n ad cI cA (cq_p a 5 p (cq_an (a 5 p) (2 ^ q)))) H := (wC_sm5 hp) ▸ hP
    have hD : va_D A (wC n ad cI cA (cq_p a 5 p (cq_an (a 5 p) (2 ^ q)))) := (wC_sm5 hp) ▸ hD
    exact cq_vret (u := (cq_p a 5 p (cq_an (a 5 p) (2 ^ q)))) hx hb hrt hlocks hK hP hD hS (by simp [c1]) zd_M_setSuspicion_33
  · refine lv_aload_n hx hb zd_M_setSuspicion_4 rfl (lv_at hl 0 rfl) ?_
    refine lv_dup hx hb zd_M_setSuspicion_5 rfl ?_
    refine va_get (D := (dC, dI)) (ci := 1) (v := .int (nI (a 5 p))) (C := zR_M) (T := zT_M) (N := 12) hx hb hts zi_M hown hK hP (9 + 3 * p) (wC_m hp) rfl 5 (by decide) (hts _ zf_M_25) (fun _ h9 => h9) rfl zd_M_setSuspicion_6 ?_
    refine lv_iconst (v := nI 1) hx hb zd_M_setSuspicion_9 (by decide) ?_
    refine lv_iload_n hx hb zd_M_setSuspicion_10 rfl (lv_at hl 1 rfl) ?_
    refine cn_ishl1 hx hb zd_M_setSuspicion_11 (by omega) ?_
    refine cn_ior hx hb zd_M_setSuspicion_12 ?_
    refine va_put (D := (dC, dI)) (ci := 1) (v := .int (nI ((a 5 p) ||| (2 ^ q)))) (ty := .int) (C := zR_M) (T := zT_M) (N := 12) hx hb hts zi_M zt_M zo_M zn_M hown hK hP hD hS (9 + 3 * p) (wC_m hp) rfl 5 (by decide) (hts _ zf_M_25) (fun _ h9 => h9) rfl (by decide +kernel) rfl rfl (Nat.le_of_ble_eq_true rfl) zd_M_setSuspicion_13 (fun H locs hP hD hS => ?_)
    have hP : va_P (dC, dI) cq_cl (wC n ad cI cA (cq_p a 5 p ((a 5 p) ||| (2 ^ q)))) H := (wC_sm5 hp) ▸ hP
    have hD : va_D A (wC n ad cI cA (cq_p a 5 p ((a 5 p) ||| (2 ^ q)))) := (wC_sm5 hp) ▸ hD
    refine lv_goto (tgt := 33) hx hb zd_M_setSuspicion_16 (by decide) ?_
    exact cq_vret (u := (cq_p a 5 p ((a 5 p) ||| (2 ^ q)))) hx hb hrt hlocks hK hP hD hS (by simp [c1]) zd_M_setSuspicion_33

set_option maxHeartbeats 4000000 in
set_option maxRecDepth 100000 in
theorem cC_M_hasVerdictOfItsCouncil (l : Launch) (dC : Nat → ClassId) (dI : Nat → Nat → Nat) (n : Nat) (ad : Nat → Nat) (cI cA : ClassId) (a : cq_S) (hB : cq_B2 a) (p : Nat) (hp : p < n) (hv : ∀ c, c < 8 → a (60 + p) c < 2147483648) : cq_CI l zy_M_hasVerdictOfItsCouncil zw_M_hasVerdictOfItsCouncil ({ frames := 0, cells := 0, slots := 0, locals := 0 }) (dC, dI) cq_cl (wC n ad cI cA) (tysC cI cA) a [.ref (ad (9 + 3 * p))] (fun r0 u => r0 = nI (if a 4 p < 8 ∧ ¬ a (60 + p) (a 4 p) = 0 then 1 else 0) ∧ u = a) := by
  refine cq_CI.of (cc := zc_M_hasVerdictOfItsCouncil) (maxL := 1) (ret := (some .boolean)) (by decide) rfl (Nat.le_of_ble_eq_true rfl) ?_
  intro pr ev s mt args below meth cd A ls hx hb hrt hts hown hlocks hml hP hK hD hA hS hl
  have hown : s.vm.findClass zR_M = some mt.cls := hown
  have hl : lv_has ls 1 [(0, .ref (ad (9 + 3 * p)))] := hl
  refine lv_aload_n hx hb zd_M_hasVerdictOfItsCouncil_0 rfl (lv_at hl 0 rfl) ?_
  refine va_get (D := (dC, dI)) (ci := 1) (v := .int (nI (a 4 p))) (C := zR_M) (T := zT_M) (N := 12) hx hb hts zi_M hown hK hP (9 + 3 * p) (wC_m hp) rfl 6 (by decide) (hts _ zf_M_28) (fun _ h9 => h9) rfl zd_M_hasVerdictOfItsCouncil_1 ?_
  refine lv_bipush (v := nI 8) hx hb zd_M_hasVerdictOfItsCouncil_4 (by decide) ?_
  refine cn_icmp_ge (tgt := 25) hx hb zd_M_hasVerdictOfItsCouncil_6 (by decide) (hB _ _ (by decide)) (by omega) (fun c1 => ?_) (fun c1 => ?_)
  · refine lv_iconst (v := nI 0) hx hb zd_M_hasVerdictOfItsCouncil_25 (by decide) ?_
    exact cq_ret (u := a) hx hb hrt ⟨_, rfl, rfl⟩ hlocks hK hP hD hS ⟨by rw [if_neg (by omega)], rfl⟩ zd_M_hasVerdictOfItsCouncil_26
  · refine lv_aload_n hx hb zd_M_hasVerdictOfItsCouncil_9 rfl (lv_at hl 0 rfl) ?_
    refine va_get (D := (dC, dI)) (ci := 1) (v := .ref (ad (11 + 3 * p))) (C := zR_M) (T := zT_M) (N := 12) hx hb hts zi_M hown hK hP (9 + 3 * p) (wC_m hp) rfl 1 (by decide) (hts _ zf_M_15) (fun _ h9 => h9) rfl zd_M_hasVerdictOfItsCouncil_10 ?_
    refine lv_aload_n hx hb zd_M_hasVerdictOfItsCouncil_13 rfl (lv_at hl 0 rfl) ?_
    refine va_get (D := (dC, dI)) (ci := 1) (v := .int (nI (a 4 p))) (C := zR_M) (T := zT_M) (N := 12) hx hb hts zi_M hown hK hP (9 + 3 * p) (wC_m hp) rfl 6 (by decide) (hts _ zf_M_28) (fun _ h9 => h9) rfl zd_M_hasVerdictOfItsCouncil_14 ?_
    refine cn_iald (f := a (60 + p)) hx hb hK hP (11 + 3 * p) 0 (wC_v hp) rfl (by omega) (by omega) zd_M_hasVerdictOfItsCouncil_17 ?_
    refine cn_if_eq (tgt := 25) hx hb zd_M_hasVerdictOfItsCouncil_18 (by decide) (hv _ (by omega)) (fun c2 => ?_) (fun c2 => ?_)
    · refine lv_iconst (v := nI 0) hx hb zd_M_hasVerdictOfItsCouncil_25 (by decide) ?_
      exact cq_ret (u := a) hx hb hrt ⟨_, rfl, rfl⟩ hlocks hK hP hD hS ⟨by rw [if_neg (by omega)], rfl⟩ zd_M_hasVerdictOfItsCouncil_26
    · refine lv_iconst (v := nI 1) hx hb zd_M_hasVerdictOfItsCouncil_21 (by decide) ?_
      refine lv_goto (tgt := 26) hx hb zd_M_hasVerdictOfItsCouncil_22 (by decide) ?_
      exact cq_ret (u := a) hx hb hrt ⟨_, rfl, rfl⟩ hlocks hK hP hD hS ⟨by rw [if_pos (by omega)], rfl⟩ zd_M_hasVerdictOfItsCouncil_26

set_option maxHeartbeats 4000000 in
set_option maxRecDepth 100000 in
theorem cC_M_adopt (l : Launch) (dC : Nat → ClassId) (dI : Nat → Nat → Nat) (n : Nat) (ad : Nat → Nat) (cI cA : ClassId) (a : cq_S) (hB : cq_B2 a) (p : Nat) (hp : p < n) (b : Nat) : cq_CV l zy_M_adopt zw_M_adopt ({ frames := 0, cells := 0, slots := 0, locals := 0 }) (dC, dI) cq_cl (wC n ad cI cA) (tysC cI cA) a [.ref (ad (9 + 3 * p)), .int (nI b)] (fun u => u = gq_adopt a p b) := by
  refine cq_CV.of (cc := zc_M_adopt) (maxL := 2) (ret := none) (by decide) rfl (Nat.le_of_ble_eq_true rfl) ?_
  intro pr ev s mt args below meth cd A ls hx hb hrt hts hown hlocks hml hP hK hD hA hS hl
  have hown : s.vm.findClass zR_M = some mt.cls := hown
  have hl : lv_has ls 2 [(0, .ref (ad (9 + 3 * p))), (1, .int (nI b))] := hl
  refine lv_aload_n hx hb zd_M_adopt_0 rfl (lv_at hl 0 rfl) ?_
  refine lv_iload_n hx hb zd_M_adopt_1 rfl (lv_at hl 1 rfl) ?_
  refine va_put (D := (dC, dI)) (ci := 1) (v := .int (nI b)) (ty := .int) (C := zR_M) (T := zT_M) (N := 12) hx hb hts zi_M zt_M zo_M zn_M hown hK hP hD hS (9 + 3 * p) (wC_m hp) rfl 9 (by decide) (hts _ zf_M_41) (fun _ h9 => h9) rfl (by decide +kernel) rfl rfl (Nat.le_of_ble_eq_true rfl) zd_M_adopt_2 (fun H locs hP hD hS => ?_)
  have hP : va_P (dC, dI) cq_cl (wC n ad cI cA (cq_p a 9 p b)) H := (wC_sm9 hp) ▸ hP
  have hD : va_D A (wC n ad cI cA (cq_p a 9 p b)) := (wC_sm9 hp) ▸ hD
  refine lv_aload_n hx hb zd_M_adopt_5 rfl (lv_at hl 0 rfl) ?_
  refine lv_aload_n hx hb zd_M_adopt_6 rfl (lv_at hl 0 rfl) ?_
  refine va_get (D := (dC, dI)) (ci := 1) (v := .int (nI (a 8 p))) (C := zR_M) (T := zT_M) (N := 12) hx hb hts zi_M hown hK hP (9 + 3 * p) (wC_m hp) rfl 8 (by decide) (hts _ zf_M_38) (fun _ h9 => h9) rfl zd_M_adopt_7 ?_
  refine va_put (D := (dC, dI)) (ci := 1) (v := .int (nI (a 8 p))) (ty := .int) (C := zR_M) (T := zT_M) (N := 12) hx hb hts zi_M zt_M zo_M zn_M hown hK hP hD hS (9 + 3 * p) (wC_m hp) rfl 10 (by decide) (hts _ zf_M_44) (fun _ h9 => h9) rfl (by decide +kernel) rfl rfl (Nat.le_of_ble_eq_true rfl) zd_M_adopt_10 (fun H locs hP hD hS => ?_)
  have hP : va_P (dC, dI) cq_cl (wC n ad cI cA (cq_p (cq_p a 9 p b) 10 p (a 8 p))) H := (wC_sm10 hp) ▸ hP
  have hD : va_D A (wC n ad cI cA (cq_p (cq_p a 9 p b) 10 p (a 8 p))) := (wC_sm10 hp) ▸ hD
  exact cq_vret (u := (cq_p (cq_p a 9 p b) 10 p (a 8 p))) hx hb hrt hlocks hK hP hD hS rfl zd_M_adopt_13

