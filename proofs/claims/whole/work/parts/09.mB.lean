set_option maxHeartbeats 4000000 in
set_option maxRecDepth 100000 in
theorem cM_holds (l : Launch) (dC : Nat → ClassId) (dI : Nat → Nat → Nat) (bd : Nat → Nat) (cs : Nat → ClassId) (a : cq_S) (hB : cq_B a) (k p : Nat) (hk : k < 2147483648) (hp : p < 5) (hn : a 23 0 ≤ 1500) : cq_CI l zy_R_holds zw_R_holds ({ frames := 1, cells := 0, slots := 0, locals := 23 }) (dC, dI) cq_cl (wM bd cs) (tysM cs) a [.ref (bd 0), .int (nI k), .int (nI p)] (fun r u => r = nI (mq_holds a k p (a 23 0)) ∧ u = a) := by
  refine cq_CI.of (cc := zc_R_holds) (maxL := 5) (ret := (some .int)) (by decide) rfl (Nat.le_of_ble_eq_true rfl) ?_
  intro pr ev s mt args below meth cd A ls hx hb hr hts hown hlocks hml hP hK hD hA hS hl
  have hown : s.vm.findClass zR_R = some mt.cls := hown
  have hl : lv_has ls 5 [(0, .ref (bd 0)), (1, .int (nI k)), (2, .int (nI p))] := hl
  refine lv_iconst (v := nI 0) hx hb zd_R_holds_0 (by decide) ?_
  refine lv_istore_n hx hb zd_R_holds_1 rfl hl (by decide) rfl (fun ls hl => ?_)
  have hl : lv_has ls 5 [(3, .int (nI 0)), (0, .ref (bd 0)), (1, .int (nI k)), (2, .int (nI p))] := hl
  refine lv_iconst (v := nI 0) hx hb zd_R_holds_2 (by decide) ?_
  refine lv_istore hx hb zd_R_holds_3 hl (by decide) rfl (fun ls hl => ?_)
  have hl : lv_has ls 5 [(4, .int (nI 0)), (3, .int (nI 0)), (0, .ref (bd 0)), (1, .int (nI k)), (2, .int (nI p))] := hl
  have LOOP : ∀ (d : Nat) (i m : Nat) (H : Heap) (locs : List Loc) (ls : Array Slot), i + d = a 23 0 → m = mq_holds a k p i →  va_P (dC, dI) cq_cl (wM bd cs a) H → va_D A (wM bd cs a) → va_S A s.heap H locs → lv_has ls 5 [(4, .int (nI i)), (3, .int (nI m)), (0, .ref (bd 0)), (1, .int (nI k)), (2, .int (nI p))] → W pr l ev ({ frames := 1, cells := 0, slots := 0, locals := 23 }) s mt args below meth cd H locs 0 0 (MQ below (va_Qi (fun r u => r = nI (mq_holds a k p (a 23 0)) ∧ u = a) (cq_at (dC, dI) cq_cl (wM bd cs) (tysM cs) A) A) args s 0 0 A) (F0 mt 5 ls []) := by
    intro d
    induction d with
    | zero =>
      intro i m H locs ls hm0 hm hP hD hS hl
      refine lv_iload hx hb zd_R_holds_5 (lv_at hl 0 rfl) ?_
      refine lv_aload_n hx hb zd_R_holds_7 rfl (lv_at hl 2 rfl) ?_
      refine va_get (D := (dC, dI)) (ci := 4) (v := .int (nI (a 23 0))) (C := zR_R) (T := zT_R) (N := 24) hx hb hts zi_R hown hK hP 0 rfl rfl 15 (by decide) (hts _ zf_R_77) (fun _ h9 => h9) rfl zd_R_holds_8 ?_
      refine cn_icmp_ge (tgt := 39) hx hb zd_R_holds_11 (by decide) (by omega) (hB _ _ (by decide)) (fun c1 => ?_) (fun c1 => ?_)
      · refine lv_iload_n hx hb zd_R_holds_39 rfl (lv_at hl 1 rfl) ?_
        have hie : i = a 23 0 := by omega
        subst hie
        exact cq_ret (u := a) hx hb hr ⟨_, rfl, rfl⟩ hlocks hK hP hD hS ⟨by rw [hm], rfl⟩ zd_R_holds_40
      · exact absurd hm0 (by omega)
    | succ d ih =>
      intro i m H locs ls hm0 hm hP hD hS hl
      refine lv_iload hx hb zd_R_holds_5 (lv_at hl 0 rfl) ?_
      refine lv_aload_n hx hb zd_R_holds_7 rfl (lv_at hl 2 rfl) ?_
      refine va_get (D := (dC, dI)) (ci := 4) (v := .int (nI (a 23 0))) (C := zR_R) (T := zT_R) (N := 24) hx hb hts zi_R hown hK hP 0 rfl rfl 15 (by decide) (hts _ zf_R_77) (fun _ h9 => h9) rfl zd_R_holds_8 ?_
      refine cn_icmp_ge (tgt := 39) hx hb zd_R_holds_11 (by decide) (by omega) (hB _ _ (by decide)) (fun c1 => ?_) (fun c1 => ?_)
      · exact absurd hm0 (by omega)
      · refine lv_iload_n hx hb zd_R_holds_14 rfl (lv_at hl 1 rfl) ?_
        refine lv_aload_n hx hb zd_R_holds_15 rfl (lv_at hl 2 rfl) ?_
        refine lv_iload hx hb zd_R_holds_16 (lv_at hl 0 rfl) ?_
        refine lv_iload_n hx hb zd_R_holds_18 rfl (lv_at hl 3 rfl) ?_
        refine lv_iload_n hx hb zd_R_holds_19 rfl (lv_at hl 4 rfl) ?_
        refine cq_callI (C := zR_R) (As := [.int (nI i), .int (nI k), .int (nI p)]) (rest := [.int (nI m)]) ⟨hx, hb, hml, hown, hts⟩ (cM_here l dC dI bd cs a hB i k p (by omega) (by omega) hp) (cq_cw 3 hts zm_R_here zl_R_93 zs_R_here ze_R_here zz_R rfl rfl (by decide +kernel) ⟨Nat.le_of_ble_eq_true rfl, Nat.le_of_ble_eq_true rfl⟩) hK hP hD hS hA 0 rfl rfl rfl hl.1 rfl (Nat.le_of_ble_eq_true rfl) zd_R_holds_20 ⟨Nat.zero_le _, Nat.zero_le _⟩ (fun r0 u H locs hu hP hD hS => ?_)
        obtain ⟨hr0, hue⟩ := hu
        subst hr0
        rw [hue] at hP hD
        clear hue
        refine cn_if_eq (tgt := 30) hx hb zd_R_holds_23 (by decide) (mq_hn_lt _ _ _ _) (fun c2 => ?_) (fun c2 => ?_)
        · refine lv_iconst (v := nI 0) hx hb zd_R_holds_30 (by decide) ?_
          refine cn_iadd hx hb zd_R_holds_31 ?_
          refine lv_istore_n hx hb zd_R_holds_32 rfl hl (by decide) rfl (fun ls hl => ?_)
          have hl : lv_has ls 5 [(3, .int (nI (m + 0))), (4, .int (nI i)), (0, .ref (bd 0)), (1, .int (nI k)), (2, .int (nI p))] := hl
          refine lv_iinc (k := 1) (v := nI (i + 1)) hx hb zd_R_holds_33 hl rfl (cn_inc _) (by decide) rfl (fun ls hl => ?_)
          have hl : lv_has ls 5 [(4, .int (nI (i + 1))), (3, .int (nI (m + 0))), (0, .ref (bd 0)), (1, .int (nI k)), (2, .int (nI p))] := hl
          refine lv_goto (tgt := 5) hx hb zd_R_holds_36 (by decide) ?_
          exact ih (i + 1) _ H locs ls (by omega) (by rw [mq_holds, ← hm]; have := mq_hn_2 a i k p; omega) hP hD hS (lv_sub hl [0, 1, 2, 3, 4] rfl)
        · refine lv_iconst (v := nI 1) hx hb zd_R_holds_26 (by decide) ?_
          refine lv_goto (tgt := 31) hx hb zd_R_holds_27 (by decide) ?_
          refine cn_iadd hx hb zd_R_holds_31 ?_
          refine lv_istore_n hx hb zd_R_holds_32 rfl hl (by decide) rfl (fun ls hl => ?_)
          have hl : lv_has ls 5 [(3, .int (nI (m + 1))), (4, .int (nI i)), (0, .ref (bd 0)), (1, .int (nI k)), (2, .int (nI p))] := hl
          refine lv_iinc (k := 1) (v := nI (i + 1)) hx hb zd_R_holds_33 hl rfl (cn_inc _) (by decide) rfl (fun ls hl => ?_)
          have hl : lv_has ls 5 [(4, .int (nI (i + 1))), (3, .int (nI (m + 1))), (0, .ref (bd 0)), (1, .int (nI k)), (2, .int (nI p))] := hl
          refine lv_goto (tgt := 5) hx hb zd_R_holds_36 (by decide) ?_
          exact ih (i + 1) _ H locs ls (by omega) (by rw [mq_holds, ← hm]; have := mq_hn_2 a i k p; omega) hP hD hS (lv_sub hl [0, 1, 2, 3, 4] rfl)
  exact LOOP (a 23 0) 0 0 _ _ ls (by omega) rfl hP hD hS (lv_sub hl [0, 1, 2, 3, 4] rfl)

set_option maxHeartbeats 4000000 in
set_option maxRecDepth 100000 in
theorem cM_offer (l : Launch) (dC : Nat → ClassId) (dI : Nat → Nat → Nat) (bd : Nat → Nat) (cs : Nat → ClassId) (a : cq_S) (hB : cq_B a) (p : Nat) (hp : p < 5) (hn : a 23 0 ≤ 1500) : cq_CI l zy_R_offer zw_R_offer ({ frames := 1, cells := 0, slots := 0, locals := 23 }) (dC, dI) cq_cl (wM bd cs) (tysM cs) a [.ref (bd 0), .int (nI p)] (fun r u => r = mq_oi (mq_offer a p (a 23 0)) ∧ u = a) := by
  refine cq_CI.of (cc := zc_R_offer) (maxL := 4) (ret := (some .int)) (by decide) rfl (Nat.le_of_ble_eq_true rfl) ?_
  intro pr ev s mt args below meth cd A ls hx hb hr hts hown hlocks hml hP hK hD hA hS hl
  have hown : s.vm.findClass zR_R = some mt.cls := hown
  have hl : lv_has ls 4 [(0, .ref (bd 0)), (1, .int (nI p))] := hl
  refine lv_iconst (v := -1) hx hb zd_R_offer_0 (by decide) ?_
  refine lv_istore_n hx hb zd_R_offer_1 rfl hl (by decide) rfl (fun ls hl => ?_)
  have hl : lv_has ls 4 [(2, .int (-1)), (0, .ref (bd 0)), (1, .int (nI p))] := hl
  refine lv_iconst (v := nI 0) hx hb zd_R_offer_2 (by decide) ?_
  refine lv_istore_n hx hb zd_R_offer_3 rfl hl (by decide) rfl (fun ls hl => ?_)
  have hl : lv_has ls 4 [(3, .int (nI 0)), (2, .int (-1)), (0, .ref (bd 0)), (1, .int (nI p))] := hl
  have LOOP : ∀ (d : Nat) (i : Nat) (o : Option Nat) (H : Heap) (locs : List Loc) (ls : Array Slot), i + d = a 23 0 → o = mq_offer a p i →  va_P (dC, dI) cq_cl (wM bd cs a) H → va_D A (wM bd cs a) → va_S A s.heap H locs → lv_has ls 4 [(3, .int (nI i)), (2, .int (mq_oi o)), (0, .ref (bd 0)), (1, .int (nI p))] → W pr l ev ({ frames := 1, cells := 0, slots := 0, locals := 23 }) s mt args below meth cd H locs 0 0 (MQ below (va_Qi (fun r u => r = mq_oi (mq_offer a p (a 23 0)) ∧ u = a) (cq_at (dC, dI) cq_cl (wM bd cs) (tysM cs) A) A) args s 0 0 A) (F0 mt 4 ls []) := by
    intro d
    induction d with
    | zero =>
      intro i o H locs ls hm0 ho hP hD hS hl
      refine lv_iload_n hx hb zd_R_offer_4 rfl (lv_at hl 0 rfl) ?_
      refine lv_aload_n hx hb zd_R_offer_5 rfl (lv_at hl 2 rfl) ?_
      refine va_get (D := (dC, dI)) (ci := 4) (v := .int (nI (a 23 0))) (C := zR_R) (T := zT_R) (N := 24) hx hb hts zi_R hown hK hP 0 rfl rfl 15 (by decide) (hts _ zf_R_77) (fun _ h9 => h9) rfl zd_R_offer_6 ?_
      refine cn_icmp_ge (tgt := 34) hx hb zd_R_offer_9 (by decide) (by omega) (hB _ _ (by decide)) (fun c1 => ?_) (fun c1 => ?_)
      · refine lv_iload_n hx hb zd_R_offer_34 rfl (lv_at hl 1 rfl) ?_
        have hie : i = a 23 0 := by omega
        subst hie
        exact cq_ret (u := a) hx hb hr ⟨_, rfl, rfl⟩ hlocks hK hP hD hS ⟨by rw [ho], rfl⟩ zd_R_offer_35
      · exact absurd hm0 (by omega)
    | succ d ih =>
      intro i o H locs ls hm0 ho hP hD hS hl
      refine lv_iload_n hx hb zd_R_offer_4 rfl (lv_at hl 0 rfl) ?_
      refine lv_aload_n hx hb zd_R_offer_5 rfl (lv_at hl 2 rfl) ?_
      refine va_get (D := (dC, dI)) (ci := 4) (v := .int (nI (a 23 0))) (C := zR_R) (T := zT_R) (N := 24) hx hb hts zi_R hown hK hP 0 rfl rfl 15 (by decide) (hts _ zf_R_77) (fun _ h9 => h9) rfl zd_R_offer_6 ?_
      refine cn_icmp_ge (tgt := 34) hx hb zd_R_offer_9 (by decide) (by omega) (hB _ _ (by decide)) (fun c1 => ?_) (fun c1 => ?_)
      · exact absurd hm0 (by omega)
      · refine lv_aload_n hx hb zd_R_offer_12 rfl (lv_at hl 2 rfl) ?_
        refine lv_iload_n hx hb zd_R_offer_13 rfl (lv_at hl 0 rfl) ?_
        refine lv_iconst (v := nI 3) hx hb zd_R_offer_14 (by decide) ?_
        refine lv_iload_n hx hb zd_R_offer_15 rfl (lv_at hl 3 rfl) ?_
        refine cq_callI (C := zR_R) (As := [.int (nI i), .int (nI 3), .int (nI p)]) (rest := []) ⟨hx, hb, hml, hown, hts⟩ (cM_here l dC dI bd cs a hB i 3 p (by omega) (by decide) hp) (cq_cw 3 hts zm_R_here zl_R_93 zs_R_here ze_R_here zz_R rfl rfl (by decide +kernel) ⟨Nat.le_of_ble_eq_true rfl, Nat.le_of_ble_eq_true rfl⟩) hK hP hD hS hA 0 rfl rfl rfl hl.1 rfl (Nat.le_of_ble_eq_true rfl) zd_R_offer_16 ⟨Nat.zero_le _, Nat.zero_le _⟩ (fun r0 u H locs hu hP hD hS => ?_)
        obtain ⟨hr0, hue⟩ := hu
        subst hr0
        rw [hue] at hP hD
        clear hue
        refine cn_if_eq (tgt := 26) hx hb zd_R_offer_19 (by decide) (mq_hn_lt _ _ _ _) (fun c2 => ?_) (fun c2 => ?_)
        · refine lv_iload_n hx hb zd_R_offer_26 rfl (lv_at hl 1 rfl) ?_
          refine lv_istore_n hx hb zd_R_offer_27 rfl hl (by decide) rfl (fun ls hl => ?_)
          have hl : lv_has ls 4 [(2, .int (mq_oi o)), (3, .int (nI i)), (0, .ref (bd 0)), (1, .int (nI p))] := hl
          refine lv_iinc (k := 1) (v := nI (i + 1)) hx hb zd_R_offer_28 hl rfl (cn_inc _) (by decide) rfl (fun ls hl => ?_)
          have hl : lv_has ls 4 [(3, .int (nI (i + 1))), (2, .int (mq_oi o)), (0, .ref (bd 0)), (1, .int (nI p))] := hl
          refine lv_goto (tgt := 4) hx hb zd_R_offer_31 (by decide) ?_
          exact ih (i + 1) o H locs ls (by omega) (by rw [mq_offer, if_pos c2, ho]) hP hD hS (lv_sub hl [0, 1, 2, 3] rfl)
        · refine lv_iload_n hx hb zd_R_offer_22 rfl (lv_at hl 0 rfl) ?_
          refine lv_goto (tgt := 27) hx hb zd_R_offer_23 (by decide) ?_
          refine lv_istore_n hx hb zd_R_offer_27 rfl hl (by decide) rfl (fun ls hl => ?_)
          have hl : lv_has ls 4 [(2, .int (nI i)), (3, .int (nI i)), (0, .ref (bd 0)), (1, .int (nI p))] := hl
          refine lv_iinc (k := 1) (v := nI (i + 1)) hx hb zd_R_offer_28 hl rfl (cn_inc _) (by decide) rfl (fun ls hl => ?_)
          have hl : lv_has ls 4 [(3, .int (nI (i + 1))), (2, .int (nI i)), (0, .ref (bd 0)), (1, .int (nI p))] := hl
          refine lv_goto (tgt := 4) hx hb zd_R_offer_31 (by decide) ?_
          exact ih (i + 1) (some i) H locs ls (by omega) (by rw [mq_offer, if_neg c2]) hP hD hS (lv_sub hl [0, 1, 2, 3] rfl)
  exact LOOP (a 23 0) 0 none _ _ ls (by omega) rfl hP hD hS (lv_sub hl [0, 1, 2, 3] rfl)

set_option maxHeartbeats 4000000 in
set_option maxRecDepth 100000 in
theorem cM_allYes (l : Launch) (dC : Nat → ClassId) (dI : Nat → Nat → Nat) (bd : Nat → Nat) (cs : Nat → ClassId) (a : cq_S) (hB : cq_B a) (p : Nat) (hp : p < 5) (hn : a 23 0 ≤ 1500) : cq_CI l zy_R_allYes zw_R_allYes ({ frames := 1, cells := 0, slots := 0, locals := 23 }) (dC, dI) cq_cl (wM bd cs) (tysM cs) a [.ref (bd 0), .int (nI p)] (fun r u => r = nI (mq_ay a p (a 23 0)) ∧ u = a) := by
  refine cq_CI.of (cc := zc_R_allYes) (maxL := 4) (ret := (some .boolean)) (by decide) rfl (Nat.le_of_ble_eq_true rfl) ?_
  intro pr ev s mt args below meth cd A ls hx hb hr hts hown hlocks hml hP hK hD hA hS hl
  have hown : s.vm.findClass zR_R = some mt.cls := hown
  have hl : lv_has ls 4 [(0, .ref (bd 0)), (1, .int (nI p))] := hl
  refine lv_iconst (v := nI 1) hx hb zd_R_allYes_0 (by decide) ?_
  refine lv_istore_n hx hb zd_R_allYes_1 rfl hl (by decide) rfl (fun ls hl => ?_)
  have hl : lv_has ls 4 [(2, .int (nI 1)), (0, .ref (bd 0)), (1, .int (nI p))] := hl
  refine lv_iconst (v := nI 0) hx hb zd_R_allYes_2 (by decide) ?_
  refine lv_istore_n hx hb zd_R_allYes_3 rfl hl (by decide) rfl (fun ls hl => ?_)
  have hl : lv_has ls 4 [(3, .int (nI 0)), (2, .int (nI 1)), (0, .ref (bd 0)), (1, .int (nI p))] := hl
  have LOOP : ∀ (d : Nat) (i y : Nat) (H : Heap) (locs : List Loc) (ls : Array Slot), i + d = a 23 0 → y = mq_ay a p i →  va_P (dC, dI) cq_cl (wM bd cs a) H → va_D A (wM bd cs a) → va_S A s.heap H locs → lv_has ls 4 [(3, .int (nI i)), (2, .int (nI y)), (0, .ref (bd 0)), (1, .int (nI p))] → W pr l ev ({ frames := 1, cells := 0, slots := 0, locals := 23 }) s mt args below meth cd H locs 0 0 (MQ below (va_Qi (fun r u => r = nI (mq_ay a p (a 23 0)) ∧ u = a) (cq_at (dC, dI) cq_cl (wM bd cs) (tysM cs) A) A) args s 0 0 A) (F0 mt 4 ls []) := by
    intro d
    induction d with
    | zero =>
      intro i y H locs ls hm0 hy hP hD hS hl
      have hy2 : y < 2 := by rw [hy]; exact mq_ay_2 a p i
      refine lv_iload_n hx hb zd_R_allYes_4 rfl (lv_at hl 0 rfl) ?_
      refine lv_aload_n hx hb zd_R_allYes_5 rfl (lv_at hl 2 rfl) ?_
      refine va_get (D := (dC, dI)) (ci := 4) (v := .int (nI (a 23 0))) (C := zR_R) (T := zT_R) (N := 24) hx hb hts zi_R hown hK hP 0 rfl rfl 15 (by decide) (hts _ zf_R_77) (fun _ h9 => h9) rfl zd_R_allYes_6 ?_
      refine cn_icmp_ge (tgt := 48) hx hb zd_R_allYes_9 (by decide) (by omega) (hB _ _ (by decide)) (fun c1 => ?_) (fun c1 => ?_)
      · refine lv_iload_n hx hb zd_R_allYes_48 rfl (lv_at hl 1 rfl) ?_
        have hie : i = a 23 0 := by omega
        subst hie
        exact cq_ret (u := a) hx hb hr ⟨_, rfl, cn_nbool _ hy2⟩ hlocks hK hP hD hS ⟨by rw [hy], rfl⟩ zd_R_allYes_49
      · exact absurd hm0 (by omega)
    | succ d ih =>
      intro i y H locs ls hm0 hy hP hD hS hl
      have hy2 : y < 2 := by rw [hy]; exact mq_ay_2 a p i
      refine lv_iload_n hx hb zd_R_allYes_4 rfl (lv_at hl 0 rfl) ?_
      refine lv_aload_n hx hb zd_R_allYes_5 rfl (lv_at hl 2 rfl) ?_
      refine va_get (D := (dC, dI)) (ci := 4) (v := .int (nI (a 23 0))) (C := zR_R) (T := zT_R) (N := 24) hx hb hts zi_R hown hK hP 0 rfl rfl 15 (by decide) (hts _ zf_R_77) (fun _ h9 => h9) rfl zd_R_allYes_6 ?_
      refine cn_icmp_ge (tgt := 48) hx hb zd_R_allYes_9 (by decide) (by omega) (hB _ _ (by decide)) (fun c1 => ?_) (fun c1 => ?_)
      · exact absurd hm0 (by omega)
      · refine lv_iload_n hx hb zd_R_allYes_12 rfl (lv_at hl 1 rfl) ?_
        refine cn_if_eq (tgt := 40) hx hb zd_R_allYes_13 (by decide) (by omega) (fun c2 => ?_) (fun c2 => ?_)
        · refine lv_iconst (v := nI 0) hx hb zd_R_allYes_40 (by decide) ?_
          refine lv_istore_n hx hb zd_R_allYes_41 rfl hl (by decide) rfl (fun ls hl => ?_)
          have hl : lv_has ls 4 [(2, .int (nI 0)), (3, .int (nI i)), (0, .ref (bd 0)), (1, .int (nI p))] := hl
          refine lv_iinc (k := 1) (v := nI (i + 1)) hx hb zd_R_allYes_42 hl rfl (cn_inc _) (by decide) rfl (fun ls hl => ?_)
          have hl : lv_has ls 4 [(3, .int (nI (i + 1))), (2, .int (nI 0)), (0, .ref (bd 0)), (1, .int (nI p))] := hl
          refine lv_goto (tgt := 4) hx hb zd_R_allYes_45 (by decide) ?_
          exact ih (i + 1) _ H locs ls (by omega) (by simp [mq_ay, ← hy, c2]) hP hD hS (lv_sub hl [0, 1, 2, 3] rfl)
        · refine lv_aload_n hx hb zd_R_allYes_16 rfl (lv_at hl 2 rfl) ?_
          refine lv_iload_n hx hb zd_R_allYes_17 rfl (lv_at hl 0 rfl) ?_
          refine lv_iconst (v := nI 4) hx hb zd_R_allYes_18 (by decide) ?_
          refine lv_iload_n hx hb zd_R_allYes_19 rfl (lv_at hl 3 rfl) ?_
          refine cq_callI (C := zR_R) (As := [.int (nI i), .int (nI 4), .int (nI p)]) (rest := []) ⟨hx, hb, hml, hown, hts⟩ (cM_here l dC dI bd cs a hB i 4 p (by omega) (by decide) hp) (cq_cw 3 hts zm_R_here zl_R_93 zs_R_here ze_R_here zz_R rfl rfl (by decide +kernel) ⟨Nat.le_of_ble_eq_true rfl, Nat.le_of_ble_eq_true rfl⟩) hK hP hD hS hA 0 rfl rfl rfl hl.1 rfl (Nat.le_of_ble_eq_true rfl) zd_R_allYes_20 ⟨Nat.zero_le _, Nat.zero_le _⟩ (fun r0 u H locs hu hP hD hS => ?_)
          obtain ⟨hr0, hue⟩ := hu
          subst hr0
          rw [hue] at hP hD
          clear hue
          refine cn_if_eq (tgt := 36) hx hb zd_R_allYes_23 (by decide) (mq_hn_lt _ _ _ _) (fun c3 => ?_) (fun c3 => ?_)
          · refine lv_iconst (v := nI 1) hx hb zd_R_allYes_36 (by decide) ?_
            refine lv_goto (tgt := 41) hx hb zd_R_allYes_37 (by decide) ?_
            refine lv_istore_n hx hb zd_R_allYes_41 rfl hl (by decide) rfl (fun ls hl => ?_)
            have hl : lv_has ls 4 [(2, .int (nI 1)), (3, .int (nI i)), (0, .ref (bd 0)), (1, .int (nI p))] := hl
            refine lv_iinc (k := 1) (v := nI (i + 1)) hx hb zd_R_allYes_42 hl rfl (cn_inc _) (by decide) rfl (fun ls hl => ?_)
            have hl : lv_has ls 4 [(3, .int (nI (i + 1))), (2, .int (nI 1)), (0, .ref (bd 0)), (1, .int (nI p))] := hl
            refine lv_goto (tgt := 4) hx hb zd_R_allYes_45 (by decide) ?_
            exact ih (i + 1) _ H locs ls (by omega) (by simp [mq_ay, ← hy, c2, c3]) hP hD hS (lv_sub hl [0, 1, 2, 3] rfl)
          · refine lv_aload_n hx hb zd_R_allYes_26 rfl (lv_at hl 2 rfl) ?_
            refine va_get (D := (dC, dI)) (ci := 4) (v := .ref (bd 18)) (C := zR_R) (T := zT_R) (N := 24) hx hb hts zi_R hown hK hP 0 rfl rfl 21 (by decide) (hts _ zf_R_63) (fun _ h9 => h9) rfl zd_R_allYes_27 ?_
            refine lv_iload_n hx hb zd_R_allYes_30 rfl (lv_at hl 0 rfl) ?_
            refine cn_sald (f := a 17) hx hb hK hP 18 17 rfl rfl (by omega) (by decide) zd_R_allYes_31 ?_
            refine lv_iconst (v := nI 1) hx hb zd_R_allYes_32 (by decide) ?_
            refine cn_icmp_ne (tgt := 40) hx hb zd_R_allYes_33 (by decide) (hB _ _ (by decide)) (by omega) (fun c4 => ?_) (fun c4 => ?_)
            · refine lv_iconst (v := nI 0) hx hb zd_R_allYes_40 (by decide) ?_
              refine lv_istore_n hx hb zd_R_allYes_41 rfl hl (by decide) rfl (fun ls hl => ?_)
              have hl : lv_has ls 4 [(2, .int (nI 0)), (3, .int (nI i)), (0, .ref (bd 0)), (1, .int (nI p))] := hl
              refine lv_iinc (k := 1) (v := nI (i + 1)) hx hb zd_R_allYes_42 hl rfl (cn_inc _) (by decide) rfl (fun ls hl => ?_)
              have hl : lv_has ls 4 [(3, .int (nI (i + 1))), (2, .int (nI 0)), (0, .ref (bd 0)), (1, .int (nI p))] := hl
              refine lv_goto (tgt := 4) hx hb zd_R_allYes_45 (by decide) ?_
              exact ih (i + 1) _ H locs ls (by omega) (by simp [mq_ay, ← hy, c2, c3, c4]) hP hD hS (lv_sub hl [0, 1, 2, 3] rfl)
            · refine lv_iconst (v := nI 1) hx hb zd_R_allYes_36 (by decide) ?_
              refine lv_goto (tgt := 41) hx hb zd_R_allYes_37 (by decide) ?_
              refine lv_istore_n hx hb zd_R_allYes_41 rfl hl (by decide) rfl (fun ls hl => ?_)
              have hl : lv_has ls 4 [(2, .int (nI 1)), (3, .int (nI i)), (0, .ref (bd 0)), (1, .int (nI p))] := hl
              refine lv_iinc (k := 1) (v := nI (i + 1)) hx hb zd_R_allYes_42 hl rfl (cn_inc _) (by decide) rfl (fun ls hl => ?_)
              have hl : lv_has ls 4 [(3, .int (nI (i + 1))), (2, .int (nI 1)), (0, .ref (bd 0)), (1, .int (nI p))] := hl
              refine lv_goto (tgt := 4) hx hb zd_R_allYes_45 (by decide) ?_
              exact ih (i + 1) _ H locs ls (by omega) (by simp [mq_ay, ← hy, c2, c3, c4]) hP hD hS (lv_sub hl [0, 1, 2, 3] rfl)
  exact LOOP (a 23 0) 0 1 _ _ ls (by omega) rfl hP hD hS (lv_sub hl [0, 1, 2, 3] rfl)

set_option maxHeartbeats 4000000 in
set_option maxRecDepth 100000 in
theorem cM_best (l : Launch) (dC : Nat → ClassId) (dI : Nat → Nat → Nat) (bd : Nat → Nat) (cs : Nat → ClassId) (a : cq_S) (hB : cq_B a) (p : Nat) (hp : p < 5) (hn : a 23 0 ≤ 1500) : cq_CI l zy_R_best zw_R_best ({ frames := 1, cells := 0, slots := 0, locals := 23 }) (dC, dI) cq_cl (wM bd cs) (tysM cs) a [.ref (bd 0), .int (nI p)] (fun r u => r = mq_oi (mq_best a p (a 23 0)) ∧ u = a) := by
  refine cq_CI.of (cc := zc_R_best) (maxL := 4) (ret := (some .int)) (by decide) rfl (Nat.le_of_ble_eq_true rfl) ?_
  intro pr ev s mt args below meth cd A ls hx hb hr hts hown hlocks hml hP hK hD hA hS hl
  have hown : s.vm.findClass zR_R = some mt.cls := hown
  have hl : lv_has ls 4 [(0, .ref (bd 0)), (1, .int (nI p))] := hl
  refine lv_iconst (v := -1) hx hb zd_R_best_0 (by decide) ?_
  refine lv_istore_n hx hb zd_R_best_1 rfl hl (by decide) rfl (fun ls hl => ?_)
  have hl : lv_has ls 4 [(2, .int (-1)), (0, .ref (bd 0)), (1, .int (nI p))] := hl
  refine lv_iconst (v := nI 0) hx hb zd_R_best_2 (by decide) ?_
  refine lv_istore_n hx hb zd_R_best_3 rfl hl (by decide) rfl (fun ls hl => ?_)
  have hl : lv_has ls 4 [(3, .int (nI 0)), (2, .int (-1)), (0, .ref (bd 0)), (1, .int (nI p))] := hl
  have LOOP : ∀ (d : Nat) (i : Nat) (o : Option Nat) (H : Heap) (locs : List Loc) (ls : Array Slot), i + d = a 23 0 → o = mq_best a p i →  va_P (dC, dI) cq_cl (wM bd cs a) H → va_D A (wM bd cs a) → va_S A s.heap H locs → lv_has ls 4 [(3, .int (nI i)), (2, .int (mq_oi o)), (0, .ref (bd 0)), (1, .int (nI p))] → W pr l ev ({ frames := 1, cells := 0, slots := 0, locals := 23 }) s mt args below meth cd H locs 0 0 (MQ below (va_Qi (fun r u => r = mq_oi (mq_best a p (a 23 0)) ∧ u = a) (cq_at (dC, dI) cq_cl (wM bd cs) (tysM cs) A) A) args s 0 0 A) (F0 mt 4 ls []) := by
    intro d
    induction d with
    | zero =>
      intro i o H locs ls hm0 ho hP hD hS hl
      refine lv_iload_n hx hb zd_R_best_4 rfl (lv_at hl 0 rfl) ?_
      refine lv_aload_n hx hb zd_R_best_5 rfl (lv_at hl 2 rfl) ?_
      refine va_get (D := (dC, dI)) (ci := 4) (v := .int (nI (a 23 0))) (C := zR_R) (T := zT_R) (N := 24) hx hb hts zi_R hown hK hP 0 rfl rfl 15 (by decide) (hts _ zf_R_77) (fun _ h9 => h9) rfl zd_R_best_6 ?_
      refine cn_icmp_ge (tgt := 79) hx hb zd_R_best_9 (by decide) (by omega) (hB _ _ (by decide)) (fun c1 => ?_) (fun c1 => ?_)
      · refine lv_iload_n hx hb zd_R_best_79 rfl (lv_at hl 1 rfl) ?_
        have hie : i = a 23 0 := by omega
        subst hie
        exact cq_ret (u := a) hx hb hr ⟨_, rfl, rfl⟩ hlocks hK hP hD hS ⟨by rw [ho], rfl⟩ zd_R_best_80
      · exact absurd hm0 (by omega)
    | succ d ih =>
      intro i o H locs ls hm0 ho hP hD hS hl
      refine lv_iload_n hx hb zd_R_best_4 rfl (lv_at hl 0 rfl) ?_
      refine lv_aload_n hx hb zd_R_best_5 rfl (lv_at hl 2 rfl) ?_
      refine va_get (D := (dC, dI)) (ci := 4) (v := .int (nI (a 23 0))) (C := zR_R) (T := zT_R) (N := 24) hx hb hts zi_R hown hK hP 0 rfl rfl 15 (by decide) (hts _ zf_R_77) (fun _ h9 => h9) rfl zd_R_best_6 ?_
      refine cn_icmp_ge (tgt := 79) hx hb zd_R_best_9 (by decide) (by omega) (hB _ _ (by decide)) (fun c1 => ?_) (fun c1 => ?_)
      · exact absurd hm0 (by omega)
      · refine lv_aload_n hx hb zd_R_best_12 rfl (lv_at hl 2 rfl) ?_
        refine lv_iload_n hx hb zd_R_best_13 rfl (lv_at hl 0 rfl) ?_
        refine lv_iconst (v := nI 2) hx hb zd_R_best_14 (by decide) ?_
        refine lv_iload_n hx hb zd_R_best_15 rfl (lv_at hl 3 rfl) ?_
        refine cq_callI (C := zR_R) (As := [.int (nI i), .int (nI 2), .int (nI p)]) (rest := []) ⟨hx, hb, hml, hown, hts⟩ (cM_here l dC dI bd cs a hB i 2 p (by omega) (by decide) hp) (cq_cw 3 hts zm_R_here zl_R_93 zs_R_here ze_R_here zz_R rfl rfl (by decide +kernel) ⟨Nat.le_of_ble_eq_true rfl, Nat.le_of_ble_eq_true rfl⟩) hK hP hD hS hA 0 rfl rfl rfl hl.1 rfl (Nat.le_of_ble_eq_true rfl) zd_R_best_16 ⟨Nat.zero_le _, Nat.zero_le _⟩ (fun r0 u H locs hu hP hD hS => ?_)
        obtain ⟨hr0, hue⟩ := hu
        subst hr0
        rw [hue] at hP hD
        clear hue
        refine cn_if_eq (tgt := 73) hx hb zd_R_best_19 (by decide) (mq_hn_lt _ _ _ _) (fun c2 => ?_) (fun c2 => ?_)
        · refine lv_iinc (k := 0) (v := nI (i + 1)) hx hb zd_R_best_73 hl rfl (cn_inc _) (by decide) rfl (fun ls hl => ?_)
          have hl : lv_has ls 4 [(3, .int (nI (i + 1))), (2, .int (mq_oi o)), (0, .ref (bd 0)), (1, .int (nI p))] := hl
          refine lv_goto (tgt := 4) hx hb zd_R_best_76 (by decide) ?_
          exact ih (i + 1) (o) H locs ls (by omega) (by simp only [mq_best, ← ho]; simp [c2]) hP hD hS (lv_sub hl [0, 1, 2, 3] rfl)
        · cases o with
          | none =>
            have hl : lv_has ls 4 [(3, .int (nI i)), (2, .int (-1)), (0, .ref (bd 0)), (1, .int (nI p))] := hl
            refine lv_iload_n hx hb zd_R_best_22 rfl (lv_at hl 1 rfl) ?_
            refine lv_if_lt (tgt := 71) hx hb zd_R_best_23 (by decide) (fun c3 => ?_) (fun c3 => ?_)
            · refine lv_iload_n hx hb zd_R_best_71 rfl (lv_at hl 0 rfl) ?_
              refine lv_istore_n hx hb zd_R_best_72 rfl hl (by decide) rfl (fun ls hl => ?_)
              have hl : lv_has ls 4 [(2, .int (nI i)), (3, .int (nI i)), (0, .ref (bd 0)), (1, .int (nI p))] := hl
              refine lv_iinc (k := 1) (v := nI (i + 1)) hx hb zd_R_best_73 hl rfl (cn_inc _) (by decide) rfl (fun ls hl => ?_)
              have hl : lv_has ls 4 [(3, .int (nI (i + 1))), (2, .int (nI i)), (0, .ref (bd 0)), (1, .int (nI p))] := hl
              refine lv_goto (tgt := 4) hx hb zd_R_best_76 (by decide) ?_
              exact ih (i + 1) (some i) H locs ls (by omega) (by simp only [mq_best, ← ho]; simp [c2]) hP hD hS (lv_sub hl [0, 1, 2, 3] rfl)
            · exact absurd (by decide) c3
          | some b =>
            have hbi : b < i := mq_best_lt a p i b ho.symm
            have hl : lv_has ls 4 [(3, .int (nI i)), (2, .int (nI b)), (0, .ref (bd 0)), (1, .int (nI p))] := hl
            refine lv_iload_n hx hb zd_R_best_22 rfl (lv_at hl 1 rfl) ?_
            refine lv_if_lt (tgt := 71) hx hb zd_R_best_23 (by decide) (fun c4 => ?_) (fun c4 => ?_)
            · exact absurd c4 (nI_pos (by omega))
            · refine lv_aload_n hx hb zd_R_best_26 rfl (lv_at hl 2 rfl) ?_
              refine va_get (D := (dC, dI)) (ci := 4) (v := .ref (bd 19)) (C := zR_R) (T := zT_R) (N := 24) hx hb hts zi_R hown hK hP 0 rfl rfl 22 (by decide) (hts _ zf_R_67) (fun _ h9 => h9) rfl zd_R_best_27 ?_
              refine lv_iload_n hx hb zd_R_best_30 rfl (lv_at hl 0 rfl) ?_
              refine cn_bald (f := a 18) hx hb hK hP 19 18 rfl rfl (by omega) (by decide) zd_R_best_31 ?_
              refine lv_aload_n hx hb zd_R_best_32 rfl (lv_at hl 2 rfl) ?_
              refine va_get (D := (dC, dI)) (ci := 4) (v := .ref (bd 19)) (C := zR_R) (T := zT_R) (N := 24) hx hb hts zi_R hown hK hP 0 rfl rfl 22 (by decide) (hts _ zf_R_67) (fun _ h9 => h9) rfl zd_R_best_33 ?_
              refine lv_iload_n hx hb zd_R_best_36 rfl (lv_at hl 1 rfl) ?_
              refine cn_bald (f := a 18) hx hb hK hP 19 18 rfl rfl (by omega) (by decide) zd_R_best_37 ?_
              refine cn_icmp_gt (tgt := 71) hx hb zd_R_best_38 (by decide) (hB _ _ (by decide)) (hB _ _ (by decide)) (fun c5 => ?_) (fun c5 => ?_)
              · refine lv_iload_n hx hb zd_R_best_71 rfl (lv_at hl 0 rfl) ?_
                refine lv_istore_n hx hb zd_R_best_72 rfl hl (by decide) rfl (fun ls hl => ?_)
                have hl : lv_has ls 4 [(2, .int (nI i)), (3, .int (nI i)), (0, .ref (bd 0)), (1, .int (nI p))] := hl
                refine lv_iinc (k := 1) (v := nI (i + 1)) hx hb zd_R_best_73 hl rfl (cn_inc _) (by decide) rfl (fun ls hl => ?_)
                have hl : lv_has ls 4 [(3, .int (nI (i + 1))), (2, .int (nI i)), (0, .ref (bd 0)), (1, .int (nI p))] := hl
                refine lv_goto (tgt := 4) hx hb zd_R_best_76 (by decide) ?_
                exact ih (i + 1) (some i) H locs ls (by omega) (by simp only [mq_best, ← ho]; simp [c2, c5]) hP hD hS (lv_sub hl [0, 1, 2, 3] rfl)
              · refine lv_aload_n hx hb zd_R_best_41 rfl (lv_at hl 2 rfl) ?_
                refine va_get (D := (dC, dI)) (ci := 4) (v := .ref (bd 19)) (C := zR_R) (T := zT_R) (N := 24) hx hb hts zi_R hown hK hP 0 rfl rfl 22 (by decide) (hts _ zf_R_67) (fun _ h9 => h9) rfl zd_R_best_42 ?_
                refine lv_iload_n hx hb zd_R_best_45 rfl (lv_at hl 0 rfl) ?_
                refine cn_bald (f := a 18) hx hb hK hP 19 18 rfl rfl (by omega) (by decide) zd_R_best_46 ?_
                refine lv_aload_n hx hb zd_R_best_47 rfl (lv_at hl 2 rfl) ?_
                refine va_get (D := (dC, dI)) (ci := 4) (v := .ref (bd 19)) (C := zR_R) (T := zT_R) (N := 24) hx hb hts zi_R hown hK hP 0 rfl rfl 22 (by decide) (hts _ zf_R_67) (fun _ h9 => h9) rfl zd_R_best_48 ?_
                refine lv_iload_n hx hb zd_R_best_51 rfl (lv_at hl 1 rfl) ?_
                refine cn_bald (f := a 18) hx hb hK hP 19 18 rfl rfl (by omega) (by decide) zd_R_best_52 ?_
                refine cn_icmp_ne (tgt := 73) hx hb zd_R_best_53 (by decide) (hB _ _ (by decide)) (hB _ _ (by decide)) (fun c6 => ?_) (fun c6 => ?_)
                · refine lv_iinc (k := 0) (v := nI (i + 1)) hx hb zd_R_best_73 hl rfl (cn_inc _) (by decide) rfl (fun ls hl => ?_)
                  have hl : lv_has ls 4 [(3, .int (nI (i + 1))), (2, .int (nI b)), (0, .ref (bd 0)), (1, .int (nI p))] := hl
                  refine lv_goto (tgt := 4) hx hb zd_R_best_76 (by decide) ?_
                  exact ih (i + 1) (some b) H locs ls (by omega) (by simp only [mq_best, ← ho]; simp [c2, c5, c6]) hP hD hS (lv_sub hl [0, 1, 2, 3] rfl)
                · refine lv_aload_n hx hb zd_R_best_56 rfl (lv_at hl 2 rfl) ?_
                  refine va_get (D := (dC, dI)) (ci := 4) (v := .ref (bd 14)) (C := zR_R) (T := zT_R) (N := 24) hx hb hts zi_R hown hK hP 0 rfl rfl 17 (by decide) (hts _ zf_R_51) (fun _ h9 => h9) rfl zd_R_best_57 ?_
                  refine lv_iload_n hx hb zd_R_best_60 rfl (lv_at hl 0 rfl) ?_
                  refine cn_bald (f := a 13) hx hb hK hP 14 13 rfl rfl (by omega) (by decide) zd_R_best_61 ?_
                  refine lv_aload_n hx hb zd_R_best_62 rfl (lv_at hl 2 rfl) ?_
                  refine va_get (D := (dC, dI)) (ci := 4) (v := .ref (bd 14)) (C := zR_R) (T := zT_R) (N := 24) hx hb hts zi_R hown hK hP 0 rfl rfl 17 (by decide) (hts _ zf_R_51) (fun _ h9 => h9) rfl zd_R_best_63 ?_
                  refine lv_iload_n hx hb zd_R_best_66 rfl (lv_at hl 1 rfl) ?_
                  refine cn_bald (f := a 13) hx hb hK hP 14 13 rfl rfl (by omega) (by decide) zd_R_best_67 ?_
                  refine cn_icmp_ge (tgt := 73) hx hb zd_R_best_68 (by decide) (hB _ _ (by decide)) (hB _ _ (by decide)) (fun c7 => ?_) (fun c7 => ?_)
                  · refine lv_iinc (k := 0) (v := nI (i + 1)) hx hb zd_R_best_73 hl rfl (cn_inc _) (by decide) rfl (fun ls hl => ?_)
                    have hl : lv_has ls 4 [(3, .int (nI (i + 1))), (2, .int (nI b)), (0, .ref (bd 0)), (1, .int (nI p))] := hl
                    refine lv_goto (tgt := 4) hx hb zd_R_best_76 (by decide) ?_
                    exact ih (i + 1) (some b) H locs ls (by omega) (by simp only [mq_best, ← ho]; simp [c2, c5, c6, c7]) hP hD hS (lv_sub hl [0, 1, 2, 3] rfl)
                  · refine lv_iload_n hx hb zd_R_best_71 rfl (lv_at hl 0 rfl) ?_
                    refine lv_istore_n hx hb zd_R_best_72 rfl hl (by decide) rfl (fun ls hl => ?_)
                    have hl : lv_has ls 4 [(2, .int (nI i)), (3, .int (nI i)), (0, .ref (bd 0)), (1, .int (nI p))] := hl
                    refine lv_iinc (k := 1) (v := nI (i + 1)) hx hb zd_R_best_73 hl rfl (cn_inc _) (by decide) rfl (fun ls hl => ?_)
                    have hl : lv_has ls 4 [(3, .int (nI (i + 1))), (2, .int (nI i)), (0, .ref (bd 0)), (1, .int (nI p))] := hl
                    refine lv_goto (tgt := 4) hx hb zd_R_best_76 (by decide) ?_
                    exact ih (i + 1) (some i) H locs ls (by omega) (by simp only [mq_best, ← ho]; simp [c2, c5, c6, c7]) hP hD hS (lv_sub hl [0, 1, 2, 3] rfl)
  exact LOOP (a 23 0) 0 none _ _ ls (by omega) rfl hP hD hS (lv_sub hl [0, 1, 2, 3] rfl)

set_option maxHeartbeats 4000000 in
set_option maxRecDepth 100000 in
theorem cM_seek (l : Launch) (dC : Nat → ClassId) (dI : Nat → Nat → Nat) (bd : Nat → Nat) (cs : Nat → ClassId) (a : cq_S) (hB : cq_B a) (p q : Nat) (j : Int32) (hp : p < 2147483648) (hq : q < 2147483648) (hn : a 23 0 ≤ 1500) : cq_CI l zy_R_seek zw_R_seek ({ frames := 0, cells := 0, slots := 0, locals := 0 }) (dC, dI) cq_cl (wM bd cs) (tysM cs) a [.ref (bd 0), .int (nI p), .int (nI q), .int j] (fun r u => r = mq_oi (mq_seek a p q j) ∧ u = a) := by
  refine cq_CI.of (cc := zc_R_seek) (maxL := 6) (ret := (some .int)) (by decide) rfl (Nat.le_of_ble_eq_true rfl) ?_
  intro pr ev s mt args below meth cd A ls hx hb hr hts hown hlocks hml hP hK hD hA hS hl
  have hown : s.vm.findClass zR_R = some mt.cls := hown
  have hl : lv_has ls 6 [(0, .ref (bd 0)), (1, .int (nI p)), (2, .int (nI q)), (3, .int j)] := hl
  refine lv_iconst (v := nI 0) hx hb zd_R_seek_0 (by decide) ?_
  refine lv_istore hx hb zd_R_seek_1 hl (by decide) rfl (fun ls hl => ?_)
  have hl : lv_has ls 6 [(4, .int (nI 0)), (0, .ref (bd 0)), (1, .int (nI p)), (2, .int (nI q)), (3, .int j)] := hl
  refine lv_iconst (v := nI 0) hx hb zd_R_seek_3 (by decide) ?_
  refine lv_istore hx hb zd_R_seek_4 hl (by decide) rfl (fun ls hl => ?_)
  have hl : lv_has ls 6 [(5, .int (nI 0)), (4, .int (nI 0)), (0, .ref (bd 0)), (1, .int (nI p)), (2, .int (nI q)), (3, .int j)] := hl
  have LOOP : ∀ (d : Nat) (i m : Nat) (H : Heap) (locs : List Loc) (ls : Array Slot), i + d = a 23 0 → mq_seek a p q j = mq_sk a p q j d i m →  va_P (dC, dI) cq_cl (wM bd cs a) H → va_D A (wM bd cs a) → va_S A s.heap H locs → lv_has ls 6 [(5, .int (nI i)), (4, .int (nI m)), (0, .ref (bd 0)), (1, .int (nI p)), (2, .int (nI q)), (3, .int j)] → W pr l ev ({ frames := 0, cells := 0, slots := 0, locals := 0 }) s mt args below meth cd H locs 0 0 (MQ below (va_Qi (fun r u => r = mq_oi (mq_seek a p q j) ∧ u = a) (cq_at (dC, dI) cq_cl (wM bd cs) (tysM cs) A) A) args s 0 0 A) (F0 mt 6 ls []) := by
    intro d
    induction d with
    | zero =>
      intro i m H locs ls hm0 hI hP hD hS hl
      refine lv_iload hx hb zd_R_seek_6 (lv_at hl 0 rfl) ?_
      refine lv_aload_n hx hb zd_R_seek_8 rfl (lv_at hl 2 rfl) ?_
      refine va_get (D := (dC, dI)) (ci := 4) (v := .int (nI (a 23 0))) (C := zR_R) (T := zT_R) (N := 24) hx hb hts zi_R hown hK hP 0 rfl rfl 15 (by decide) (hts _ zf_R_77) (fun _ h9 => h9) rfl zd_R_seek_9 ?_
      refine cn_icmp_ge (tgt := 65) hx hb zd_R_seek_12 (by decide) (by omega) (hB _ _ (by decide)) (fun c1 => ?_) (fun c1 => ?_)
      · refine lv_iconst (v := -1) hx hb zd_R_seek_65 (by decide) ?_
        exact cq_ret (u := a) hx hb hr ⟨_, rfl, rfl⟩ hlocks hK hP hD hS ⟨by rw [hI]; rfl, rfl⟩ zd_R_seek_66
      · exact absurd hm0 (by omega)
    | succ d ih =>
      intro i m H locs ls hm0 hI hP hD hS hl
      refine lv_iload hx hb zd_R_seek_6 (lv_at hl 0 rfl) ?_
      refine lv_aload_n hx hb zd_R_seek_8 rfl (lv_at hl 2 rfl) ?_
      refine va_get (D := (dC, dI)) (ci := 4) (v := .int (nI (a 23 0))) (C := zR_R) (T := zT_R) (N := 24) hx hb hts zi_R hown hK hP 0 rfl rfl 15 (by decide) (hts _ zf_R_77) (fun _ h9 => h9) rfl zd_R_seek_9 ?_
      refine cn_icmp_ge (tgt := 65) hx hb zd_R_seek_12 (by decide) (by omega) (hB _ _ (by decide)) (fun c1 => ?_) (fun c1 => ?_)
      · exact absurd hm0 (by omega)
      · refine lv_aload_n hx hb zd_R_seek_15 rfl (lv_at hl 2 rfl) ?_
        refine va_get (D := (dC, dI)) (ci := 4) (v := .ref (bd 20)) (C := zR_R) (T := zT_R) (N := 24) hx hb hts zi_R hown hK hP 0 rfl rfl 23 (by decide) (hts _ zf_R_70) (fun _ h9 => h9) rfl zd_R_seek_16 ?_
        refine lv_iload hx hb zd_R_seek_19 (lv_at hl 0 rfl) ?_
        refine cn_bald (f := a 19) hx hb hK hP 20 19 rfl rfl (by omega) (by decide) zd_R_seek_21 ?_
        refine cn_if_ne (tgt := 59) hx hb zd_R_seek_22 (by decide) (hB _ _ (by decide)) (fun c2 => ?_) (fun c2 => ?_)
        · refine lv_iinc (k := 0) (v := nI (i + 1)) hx hb zd_R_seek_59 hl rfl (cn_inc _) (by decide) rfl (fun ls hl => ?_)
          have hl : lv_has ls 6 [(5, .int (nI (i + 1))), (4, .int (nI m)), (0, .ref (bd 0)), (1, .int (nI p)), (2, .int (nI q)), (3, .int j)] := hl
          refine lv_goto (tgt := 6) hx hb zd_R_seek_62 (by decide) ?_
          exact ih (i + 1) _ H locs ls (by omega) (by rw [hI, mq_sk]; simp [c2]) hP hD hS (lv_sub hl [0, 1, 2, 3, 4, 5] rfl)
        · refine lv_aload_n hx hb zd_R_seek_25 rfl (lv_at hl 2 rfl) ?_
          refine va_get (D := (dC, dI)) (ci := 4) (v := .ref (bd 14)) (C := zR_R) (T := zT_R) (N := 24) hx hb hts zi_R hown hK hP 0 rfl rfl 17 (by decide) (hts _ zf_R_51) (fun _ h9 => h9) rfl zd_R_seek_26 ?_
          refine lv_iload hx hb zd_R_seek_29 (lv_at hl 0 rfl) ?_
          refine cn_bald (f := a 13) hx hb hK hP 14 13 rfl rfl (by omega) (by decide) zd_R_seek_31 ?_
          refine lv_iload_n hx hb zd_R_seek_32 rfl (lv_at hl 3 rfl) ?_
          refine cn_icmp_ne (tgt := 59) hx hb zd_R_seek_33 (by decide) (hB _ _ (by decide)) (by omega) (fun c3 => ?_) (fun c3 => ?_)
          · refine lv_iinc (k := 0) (v := nI (i + 1)) hx hb zd_R_seek_59 hl rfl (cn_inc _) (by decide) rfl (fun ls hl => ?_)
            have hl : lv_has ls 6 [(5, .int (nI (i + 1))), (4, .int (nI m)), (0, .ref (bd 0)), (1, .int (nI p)), (2, .int (nI q)), (3, .int j)] := hl
            refine lv_goto (tgt := 6) hx hb zd_R_seek_62 (by decide) ?_
            exact ih (i + 1) _ H locs ls (by omega) (by rw [hI, mq_sk]; simp [c2, c3]) hP hD hS (lv_sub hl [0, 1, 2, 3, 4, 5] rfl)
          · refine lv_aload_n hx hb zd_R_seek_36 rfl (lv_at hl 2 rfl) ?_
            refine va_get (D := (dC, dI)) (ci := 4) (v := .ref (bd 15)) (C := zR_R) (T := zT_R) (N := 24) hx hb hts zi_R hown hK hP 0 rfl rfl 18 (by decide) (hts _ zf_R_54) (fun _ h9 => h9) rfl zd_R_seek_37 ?_
            refine lv_iload hx hb zd_R_seek_40 (lv_at hl 0 rfl) ?_
            refine cn_bald (f := a 14) hx hb hK hP 15 14 rfl rfl (by omega) (by decide) zd_R_seek_42 ?_
            refine lv_iload_n hx hb zd_R_seek_43 rfl (lv_at hl 4 rfl) ?_
            refine cn_icmp_ne (tgt := 59) hx hb zd_R_seek_44 (by decide) (hB _ _ (by decide)) (by omega) (fun c4 => ?_) (fun c4 => ?_)
            · refine lv_iinc (k := 0) (v := nI (i + 1)) hx hb zd_R_seek_59 hl rfl (cn_inc _) (by decide) rfl (fun ls hl => ?_)
              have hl : lv_has ls 6 [(5, .int (nI (i + 1))), (4, .int (nI m)), (0, .ref (bd 0)), (1, .int (nI p)), (2, .int (nI q)), (3, .int j)] := hl
              refine lv_goto (tgt := 6) hx hb zd_R_seek_62 (by decide) ?_
              exact ih (i + 1) _ H locs ls (by omega) (by rw [hI, mq_sk]; simp [c2, c3, c4]) hP hD hS (lv_sub hl [0, 1, 2, 3, 4, 5] rfl)
            · refine lv_iload hx hb zd_R_seek_47 (lv_at hl 1 rfl) ?_
              refine lv_iload_n hx hb zd_R_seek_49 rfl (lv_at hl 5 rfl) ?_
              refine lv_icmp_ne (tgt := 56) hx hb zd_R_seek_50 (by decide) (fun c5 => ?_) (fun c5 => ?_)
              · refine lv_iinc (k := 1) (v := nI (m + 1)) hx hb zd_R_seek_56 hl rfl (cn_inc _) (by decide) rfl (fun ls hl => ?_)
                have hl : lv_has ls 6 [(4, .int (nI (m + 1))), (5, .int (nI i)), (0, .ref (bd 0)), (1, .int (nI p)), (2, .int (nI q)), (3, .int j)] := hl
                refine lv_iinc (k := 1) (v := nI (i + 1)) hx hb zd_R_seek_59 hl rfl (cn_inc _) (by decide) rfl (fun ls hl => ?_)
                have hl : lv_has ls 6 [(5, .int (nI (i + 1))), (4, .int (nI (m + 1))), (0, .ref (bd 0)), (1, .int (nI p)), (2, .int (nI q)), (3, .int j)] := hl
                refine lv_goto (tgt := 6) hx hb zd_R_seek_62 (by decide) ?_
                exact ih (i + 1) _ H locs ls (by omega) (by rw [hI, mq_sk]; simp [c2, c3, c4, c5]) hP hD hS (lv_sub hl [0, 1, 2, 3, 4, 5] rfl)
              · refine lv_iload hx hb zd_R_seek_53 (lv_at hl 0 rfl) ?_
                exact cq_ret (u := a) hx hb hr ⟨_, rfl, rfl⟩ hlocks hK hP hD hS ⟨by rw [hI, mq_sk]; simp [c2, c3, c4, c5, mq_oi], rfl⟩ zd_R_seek_55
  exact LOOP (a 23 0) 0 0 _ _ ls (by omega) rfl hP hD hS (lv_sub hl [0, 1, 2, 3, 4, 5] rfl)

