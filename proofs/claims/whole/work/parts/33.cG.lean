set_option maxHeartbeats 4000000 in
set_option maxRecDepth 100000 in
theorem cC_C_takeStep (l : Launch) (dC : Nat → ClassId) (dI : Nat → Nat → Nat) (n : Nat) (ad : Nat → Nat) (cI cA : ClassId) (a : cq_S) (p : Nat) (hok : gq_sok n a p) : cq_CI l zy_C_takeStep zw_C_takeStep ({ frames := 4, cells := 0, slots := 0, locals := 101 }) (dC, dI) cq_cl (wC n ad cI cA) (tysC cI cA) a [.ref (ad 0), .int (nI p)] (fun r0 u => r0 = nI (gq_step a p).2 ∧ u = (gq_step a p).1) := by
  refine cq_CI.of (cc := zc_C_takeStep) (maxL := 3) (ret := (some .boolean)) (by decide) rfl (Nat.le_of_ble_eq_true rfl) ?_
  intro pr ev s mt args below meth cd A ls hx hb hrt hts hown hlocks hml hP hK hD hA hS hl
  have hown : s.vm.findClass zR_C = some mt.cls := hown
  have hl : lv_has ls 3 [(0, .ref (ad 0)), (1, .int (nI p))] := hl
  obtain ⟨hB, hn3, hn5, h20, hp, h0, h2, h9, h10, hvd, hmd, hrw, hfin⟩ := hok
  refine lv_aload_n hx hb zd_C_takeStep_0 rfl (lv_at hl 0 rfl) ?_
  refine va_get (D := (dC, dI)) (ci := 0) (v := .ref (ad 1)) (C := zR_C) (T := zT_C) (N := 6) hx hb hts zi_C hown hK hP 0 (wC_at 0 (by omega)) rfl 1 (by decide) (hts _ zf_C_24) (fun _ h9 => h9) rfl zd_C_takeStep_1 ?_
  refine lv_iload_n hx hb zd_C_takeStep_4 rfl (lv_at hl 1 rfl) ?_
  refine cn_aald hx hb hK hP 1 1 (wC_at 1 (by omega)) rfl hp (by omega) zd_C_takeStep_5 ?_
  refine lv_astore_n hx hb zd_C_takeStep_6 rfl hl (by decide) rfl (fun ls hl => ?_)
  have hl : lv_has ls 3 [(2, .ref (ad (9 + 3 * p))), (0, .ref (ad 0)), (1, .int (nI p))] := hl
  refine lv_aload_n hx hb zd_C_takeStep_7 rfl (lv_at hl 0 rfl) ?_
  refine cq_callI (C := zR_M) (As := []) (rest := []) ⟨hx, hb, hml, hown, hts⟩ (cC_M_hasVerdictOfItsCouncil l dC dI n ad cI cA a hB p hp (fun c hc => Nat.lt_trans (hvd c hc) (by decide))) (cq_cw 0 hts zm_M_hasVerdictOfItsCouncil zl_C_176 zs_M_hasVerdictOfItsCouncil ze_M_hasVerdictOfItsCouncil zz_M rfl rfl (by decide +kernel) ⟨Nat.le_of_ble_eq_true rfl, Nat.le_of_ble_eq_true rfl⟩) hK hP hD hS hA (9 + 3 * p) (wC_m hp) rfl rfl hl.1 rfl (Nat.le_of_ble_eq_true rfl) zd_C_takeStep_8 ⟨Nat.zero_le _, Nat.zero_le _⟩ (fun r0 u H locs hu hP hD hS => ?_)
  obtain ⟨hr0, hue⟩ := hu
  subst hr0
  rw [hue] at hP hD
  clear hue
  refine cn_if_eq (tgt := 20) hx hb zd_C_takeStep_11 (by decide) (by split <;> decide) (fun c1 => ?_) (fun c1 => ?_)
  · have hcd : ¬ (a 4 p < 8 ∧ ¬ a (60 + p) (a 4 p) = 0) := fun h => absurd c1 (by rw [if_pos h]; decide)
    refine lv_aload_n hx hb zd_C_takeStep_20 rfl (lv_at hl 0 rfl) ?_
    refine va_get (D := (dC, dI)) (ci := 1) (v := .int (nI (a 7 p))) (C := zR_M) (T := zT_M) (N := 12) hx hb hts zi_M hown hK hP (9 + 3 * p) (wC_m hp) rfl 7 (by decide) (hts _ zf_C_103) (fun _ h9 => h9) rfl zd_C_takeStep_21 ?_
    by_cases t0 : a 7 p = 0
    · refine cn_top (show nI (a 7 p) = nI 0 by rw [t0]) ?_
      refine lv_tableIn (off := 32) (tgt := 56) hx hb zd_C_takeStep_24 (by decide) (by decide) (by decide) (by decide) ?_
      refine lv_aload_n hx hb zd_C_takeStep_56 rfl (lv_at hl 1 rfl) ?_
      refine lv_iload_n hx hb zd_C_takeStep_57 rfl (lv_at hl 2 rfl) ?_
      refine lv_aload_n hx hb zd_C_takeStep_58 rfl (lv_at hl 0 rfl) ?_
      refine cq_callI (C := zR_C) (As := [.int (nI p), .ref (ad (9 + 3 * p))]) (rest := []) ⟨hx, hb, hml, hown, hts⟩ (cC_C_openCouncil l dC dI n ad cI cA a hB hn3 hn5 h20 p hp h0) (cq_cw 2 hts zm_C_openCouncil zl_C_183 zs_C_openCouncil ze_C_openCouncil zz_C rfl rfl (by decide +kernel) ⟨Nat.le_of_ble_eq_true rfl, Nat.le_of_ble_eq_true rfl⟩) hK hP hD hS hA 0 (wC_at 0 (by omega)) rfl rfl hl.1 rfl (Nat.le_of_ble_eq_true rfl) zd_C_takeStep_59 ⟨Nat.zero_le _, Nat.zero_le _⟩ (fun r0 u H locs hu hP hD hS => ?_)
      obtain ⟨hr0, hue⟩ := hu
      subst hr0
      rw [hue] at hP hD
      clear hue
      have hst : gq_step a p = gq_open a p := by unfold gq_step; rw [if_neg hcd, if_pos t0]
      exact cq_ret (u := (gq_open a p).1) hx hb hrt ⟨_, rfl, cn_nbool _ (gq_open_2 a p)⟩ hlocks hK hP hD hS (by rw [hst]; exact ⟨rfl, rfl⟩) zd_C_takeStep_62
    · by_cases t1 : a 7 p = 1
      · refine cn_top (show nI (a 7 p) = nI 1 by rw [t1]) ?_
        refine lv_tableIn (off := 39) (tgt := 63) hx hb zd_C_takeStep_24 (by decide) (by decide) (by decide) (by decide) ?_
        refine lv_aload_n hx hb zd_C_takeStep_63 rfl (lv_at hl 1 rfl) ?_
        refine lv_iload_n hx hb zd_C_takeStep_64 rfl (lv_at hl 2 rfl) ?_
        refine lv_aload_n hx hb zd_C_takeStep_65 rfl (lv_at hl 0 rfl) ?_
        refine cq_callI (C := zR_C) (As := [.int (nI p), .ref (ad (9 + 3 * p))]) (rest := []) ⟨hx, hb, hml, hown, hts⟩ (cC_C_makeOffer l dC dI n ad cI cA a hB hn3 hn5 h20 p hp (hmd (by omega)).1 (hmd (by omega)).2.1 (hmd (by omega)).2.2) (cq_cw 2 hts zm_C_makeOffer zl_C_187 zs_C_makeOffer ze_C_makeOffer zz_C rfl rfl (by decide +kernel) ⟨Nat.le_of_ble_eq_true rfl, Nat.le_of_ble_eq_true rfl⟩) hK hP hD hS hA 0 (wC_at 0 (by omega)) rfl rfl hl.1 rfl (Nat.le_of_ble_eq_true rfl) zd_C_takeStep_66 ⟨Nat.zero_le _, Nat.zero_le _⟩ (fun r0 u H locs hu hP hD hS => ?_)
        obtain ⟨hr0, hue⟩ := hu
        subst hr0
        rw [hue] at hP hD
        clear hue
        have hst : gq_step a p = gq_mk a p := by unfold gq_step; rw [if_neg hcd, if_neg t0, if_pos t1]
        exact cq_ret (u := (gq_mk a p).1) hx hb hrt ⟨_, rfl, cn_nbool _ (gq_mk_2 a p)⟩ hlocks hK hP hD hS (by rw [hst]; exact ⟨rfl, rfl⟩) zd_C_takeStep_69
      · by_cases t2 : a 7 p = 2
        · refine cn_top (show nI (a 7 p) = nI 2 by rw [t2]) ?_
          refine lv_tableIn (off := 46) (tgt := 70) hx hb zd_C_takeStep_24 (by decide) (by decide) (by decide) (by decide) ?_
          refine lv_aload_n hx hb zd_C_takeStep_70 rfl (lv_at hl 1 rfl) ?_
          refine lv_iload_n hx hb zd_C_takeStep_71 rfl (lv_at hl 2 rfl) ?_
          refine lv_aload_n hx hb zd_C_takeStep_72 rfl (lv_at hl 0 rfl) ?_
          refine cq_callI (C := zR_C) (As := [.int (nI p), .ref (ad (9 + 3 * p))]) (rest := []) ⟨hx, hb, hml, hown, hts⟩ (cC_C_answerLeader l dC dI n ad cI cA a hB hn3 hn5 h20 p hp (hmd (by omega)).1 (hmd (by omega)).2.1 (hmd (by omega)).2.2 h9 h10 (hrw _).2.2) (cq_cw 2 hts zm_C_answerLeader zl_C_190 zs_C_answerLeader ze_C_answerLeader zz_C rfl rfl (by decide +kernel) ⟨Nat.le_of_ble_eq_true rfl, Nat.le_of_ble_eq_true rfl⟩) hK hP hD hS hA 0 (wC_at 0 (by omega)) rfl rfl hl.1 rfl (Nat.le_of_ble_eq_true rfl) zd_C_takeStep_73 ⟨Nat.zero_le _, Nat.zero_le _⟩ (fun r0 u H locs hu hP hD hS => ?_)
          obtain ⟨hr0, hue⟩ := hu
          subst hr0
          rw [hue] at hP hD
          clear hue
          have hst : gq_step a p = gq_answer a p := by unfold gq_step; rw [if_neg hcd, if_neg t0, if_neg t1, if_pos t2]
          exact cq_ret (u := (gq_answer a p).1) hx hb hrt ⟨_, rfl, cn_nbool _ (gq_answer_2 a p)⟩ hlocks hK hP hD hS (by rw [hst]; exact ⟨rfl, rfl⟩) zd_C_takeStep_76
        · by_cases t3 : a 7 p = 3
          · refine cn_top (show nI (a 7 p) = nI 3 by rw [t3]) ?_
            refine lv_tableIn (off := 53) (tgt := 77) hx hb zd_C_takeStep_24 (by decide) (by decide) (by decide) (by decide) ?_
            refine lv_aload_n hx hb zd_C_takeStep_77 rfl (lv_at hl 1 rfl) ?_
            refine lv_iload_n hx hb zd_C_takeStep_78 rfl (lv_at hl 2 rfl) ?_
            refine lv_aload_n hx hb zd_C_takeStep_79 rfl (lv_at hl 0 rfl) ?_
            refine cq_callI (C := zR_C) (As := [.int (nI p), .ref (ad (9 + 3 * p))]) (rest := []) ⟨hx, hb, hml, hown, hts⟩ (cC_C_countVotes l dC dI n ad cI cA a hB hn3 hn5 h20 p hp (hmd (by omega)).1 (hmd (by omega)).2.1 (hmd (by omega)).2.2 h9 h10 (hrw _).1 (hrw _).2.1 (Nat.lt_trans (hvd _ (hmd (by omega)).1) (by decide))) (cq_cw 2 hts zm_C_countVotes zl_C_193 zs_C_countVotes ze_C_countVotes zz_C rfl rfl (by decide +kernel) ⟨Nat.le_of_ble_eq_true rfl, Nat.le_of_ble_eq_true rfl⟩) hK hP hD hS hA 0 (wC_at 0 (by omega)) rfl rfl hl.1 rfl (Nat.le_of_ble_eq_true rfl) zd_C_takeStep_80 ⟨Nat.zero_le _, Nat.zero_le _⟩ (fun r0 u H locs hu hP hD hS => ?_)
            obtain ⟨hr0, hue⟩ := hu
            subst hr0
            rw [hue] at hP hD
            clear hue
            have hst : gq_step a p = gq_count a p := by unfold gq_step; rw [if_neg hcd, if_neg t0, if_neg t1, if_neg t2, if_pos t3]
            exact cq_ret (u := (gq_count a p).1) hx hb hrt ⟨_, rfl, cn_nbool _ (gq_count_2 a p)⟩ hlocks hK hP hD hS (by rw [hst]; exact ⟨rfl, rfl⟩) zd_C_takeStep_83
          · refine lv_tableOut (tgt := 84) hx hb zd_C_takeStep_24 (Or.inr (by rw [nI_toInt (hB 7 p (by decide))]; omega)) (by decide) ?_
            refine lv_iconst (v := nI 0) hx hb zd_C_takeStep_84 (by decide) ?_
            have hst : gq_step a p = (a, 0) := by unfold gq_step; rw [if_neg hcd, if_neg t0, if_neg t1, if_neg t2, if_neg t3]
            exact cq_ret (u := a) hx hb hrt ⟨_, rfl, rfl⟩ hlocks hK hP hD hS (by rw [hst]; exact ⟨rfl, rfl⟩) zd_C_takeStep_85
  · have hcd : a 4 p < 8 ∧ ¬ a (60 + p) (a 4 p) = 0 := Decidable.byContradiction (fun h => c1 (if_neg h))
    refine lv_aload_n hx hb zd_C_takeStep_14 rfl (lv_at hl 0 rfl) ?_
    refine cq_callV (C := zR_M) (As := []) (rest := []) ⟨hx, hb, hml, hown, hts⟩ (cC_M_finishCouncil l dC dI n ad cI cA a hB hn3 hn5 h20 p hp hcd.1 (Nat.lt_trans (hvd _ hcd.1) (by decide)) h2 (hfin hcd.1 hcd.2)) (cq_cw 0 hts zm_M_finishCouncil zl_C_180 zs_M_finishCouncil ze_M_finishCouncil zz_M rfl rfl (by decide +kernel) ⟨Nat.le_of_ble_eq_true rfl, Nat.le_of_ble_eq_true rfl⟩) hK hP hD hS hA (9 + 3 * p) (wC_m hp) rfl rfl hl.1 rfl (Nat.le_of_ble_eq_true rfl) zd_C_takeStep_15 ⟨Nat.zero_le _, Nat.zero_le _⟩ (fun u H locs hu hP hD hS => ?_)
    rw [show u = _ from hu] at hP hD
    clear hu
    refine lv_iconst (v := nI 1) hx hb zd_C_takeStep_18 (by decide) ?_
    have hst : gq_step a p = (gq_finish a p, 1) := by unfold gq_step; rw [if_pos hcd]
    exact cq_ret (u := (gq_finish a p)) hx hb hrt ⟨_, rfl, rfl⟩ hlocks hK hP hD hS (by rw [hst]; exact ⟨rfl, rfl⟩) zd_C_takeStep_19

set_option maxHeartbeats 4000000 in
set_option maxRecDepth 100000 in
theorem cC_C_goOn (l : Launch) (dC : Nat → ClassId) (dI : Nat → Nat → Nat) (n : Nat) (ad : Nat → Nat) (cI cA : ClassId) (a : cq_S) (p : Nat) (hn3 : 3 ≤ n) (hok : ∀ d, gq_sok n (gq_go p d a) p) : cq_CV l zy_C_goOn zw_C_goOn ({ frames := 5, cells := 0, slots := 0, locals := 123 }) (dC, dI) cq_cl (wC n ad cI cA) (tysC cI cA) a [.ref (ad 0), .int (nI p)] (fun u => u = gq_go p 1000 a) := by
  refine cq_CV.of (cc := zc_C_goOn) (maxL := 3) (ret := none) (by decide) rfl (Nat.le_of_ble_eq_true rfl) ?_
  intro pr ev s mt args below meth cd A ls hx hb hrt hts hown hlocks hml hP hK hD hA hS hl
  have hown : s.vm.findClass zR_C = some mt.cls := hown
  have hl : lv_has ls 3 [(0, .ref (ad 0)), (1, .int (nI p))] := hl
  refine lv_iconst (v := nI 0) hx hb zd_C_goOn_0 (by decide) ?_
  refine lv_istore_n hx hb zd_C_goOn_1 rfl hl (by decide) rfl (fun ls hl => ?_)
  have hl : lv_has ls 3 [(2, .int (nI 0)), (0, .ref (ad 0)), (1, .int (nI p))] := hl
  have LOOP : ∀ (d : Nat) (i : Nat) (b : cq_S) (H : Heap) (locs : List Loc) (ls : Array Slot), i + d = 1000 → b = gq_go p i a →  va_P (dC, dI) cq_cl (wC n ad cI cA b) H → va_D A (wC n ad cI cA b) → va_S A s.heap H locs → lv_has ls 3 [(2, .int (nI i)), (0, .ref (ad 0)), (1, .int (nI p))] → W pr l ev ({ frames := 5, cells := 0, slots := 0, locals := 123 }) s mt args below meth cd H locs 0 0 (MQ below (va_Qv (fun u => u = gq_go p 1000 a) (cq_at (dC, dI) cq_cl (wC n ad cI cA) (tysC cI cA) A) A) args s 0 0 A) (F0 mt 2 ls []) := by
    intro d
    induction d with
    | zero =>
      intro i b H locs ls hm0 hbe hP hD hS hl
      refine lv_iload_n hx hb zd_C_goOn_2 rfl (lv_at hl 0 rfl) ?_
      refine lv_sipush (v := nI 1000) hx hb zd_C_goOn_3 (by decide) ?_
      refine cn_icmp_ge (tgt := 23) hx hb zd_C_goOn_6 (by decide) (by omega) (by omega) (fun c1 => ?_) (fun c1 => ?_)
      · exact cq_vret (u := b) hx hb hrt hlocks hK hP hD hS (hbe.trans (by rw [show i = 1000 by omega])) zd_C_goOn_23
      · exact absurd hm0 (by omega)
    | succ d ih =>
      intro i b H locs ls hm0 hbe hP hD hS hl
      refine lv_iload_n hx hb zd_C_goOn_2 rfl (lv_at hl 0 rfl) ?_
      refine lv_sipush (v := nI 1000) hx hb zd_C_goOn_3 (by decide) ?_
      refine cn_icmp_ge (tgt := 23) hx hb zd_C_goOn_6 (by decide) (by omega) (by omega) (fun c1 => ?_) (fun c1 => ?_)
      · exact absurd hm0 (by omega)
      · refine lv_aload_n hx hb zd_C_goOn_9 rfl (lv_at hl 1 rfl) ?_
        refine lv_iload_n hx hb zd_C_goOn_10 rfl (lv_at hl 2 rfl) ?_
        refine cq_callI (C := zR_C) (As := [.int (nI p)]) (rest := []) ⟨hx, hb, hml, hown, hts⟩ (cC_C_takeStep l dC dI n ad cI cA b p (by rw [hbe]; exact hok i)) (cq_cw 1 hts zm_C_takeStep zl_C_173 zs_C_takeStep ze_C_takeStep zz_C rfl rfl (by decide +kernel) ⟨Nat.le_of_ble_eq_true rfl, Nat.le_of_ble_eq_true rfl⟩) hK hP hD hS hA 0 (wC_at 0 (by omega)) rfl rfl hl.1 rfl (Nat.le_of_ble_eq_true rfl) zd_C_goOn_11 ⟨Nat.zero_le _, Nat.zero_le _⟩ (fun r0 u H locs hu hP hD hS => ?_)
        obtain ⟨hr0, hue⟩ := hu
        subst hr0
        rw [hue] at hP hD
        clear hue
        refine cn_if_eq (tgt := 23) hx hb zd_C_goOn_14 (by decide) (Nat.lt_trans (gq_step_2 b p) (by decide)) (fun c2 => ?_) (fun c2 => ?_)
        · exact cq_vret (u := (gq_step b p).1) hx hb hrt hlocks hK hP hD hS ((gq_step_0 b p c2).trans (hbe.trans (gq_go_fix p a i (by rw [← hbe]; exact c2) 1000 (by omega)).symm)) zd_C_goOn_23
        · refine lv_iinc (k := 0) (v := nI (i + 1)) hx hb zd_C_goOn_17 hl rfl (cn_inc _) (by decide) rfl (fun ls hl => ?_)
          have hl : lv_has ls 3 [(2, .int (nI (i + 1))), (0, .ref (ad 0)), (1, .int (nI p))] := hl
          refine lv_goto (tgt := 2) hx hb zd_C_goOn_20 (by decide) ?_
          exact ih (i + 1) _ H locs ls (by omega) (by rw [gq_go, ← hbe]) hP hD hS (lv_sub hl [0, 1, 2] rfl)
  exact LOOP 1000 0 a _ _ ls (by omega) rfl hP hD hS (lv_sub hl [0, 1, 2] rfl)

set_option maxHeartbeats 4000000 in
set_option maxRecDepth 100000 in
theorem cC_C_receive (l : Launch) (dC : Nat → ClassId) (dI : Nat → Nat → Nat) (n : Nat) (ad : Nat → Nat) (cI cA : ClassId) (a : cq_S) (hB : cq_B2 a) (hn3 : 3 ≤ n) (hn5 : n ≤ 5) (h20 : a 20 0 = n) (p q t : Nat) (hp : p < n) (hq : q < n) (ht : t < 2147483648) (h1 : t % 8 = 1 → t / 2 ^ 10 % 256 < 8) (h2 : t % 8 = 2 ∨ t % 8 = 3 ∨ t % 8 = 4 → 1 ≤ t / 2 ^ 6 % 16 ∧ t / 2 ^ 6 % 16 ≤ 10) (hv : ∀ c, c < 8 → a (60 + q) c < 2147483648) : cq_CV l zy_C_receive zw_C_receive ({ frames := 3, cells := 0, slots := 0, locals := 69 }) (dC, dI) cq_cl (wC n ad cI cA) (tysC cI cA) a [.ref (ad 0), .int (nI p), .int (nI q), .int (nI t)] (fun u => u = gq_receive a p q t) := by
  refine cq_CV.of (cc := zc_C_receive) (maxL := 7) (ret := none) (by decide) rfl (Nat.le_of_ble_eq_true rfl) ?_
  intro pr ev s mt args below meth cd A ls hx hb hrt hts hown hlocks hml hP hK hD hA hS hl
  have hown : s.vm.findClass zR_C = some mt.cls := hown
  have hl : lv_has ls 7 [(0, .ref (ad 0)), (1, .int (nI p)), (2, .int (nI q)), (3, .int (nI t))] := hl
  refine lv_iload_n hx hb zd_C_receive_0 rfl (lv_at hl 3 rfl) ?_
  refine cq_callSI (As := [.int (nI t)]) (rest := []) ⟨hx, hb, hml, hown, hts⟩ (cC_L_councilOf l dC dI n ad cI cA a t ht) (cq_cwS 1 hts zm_L_councilOf zl_C_134 zs_L_councilOf zz_L rfl rfl (by decide +kernel) ⟨Nat.le_of_ble_eq_true rfl, Nat.le_of_ble_eq_true rfl⟩) hK hP hD hS hA rfl hl.1 rfl (Nat.le_of_ble_eq_true rfl) zd_C_receive_1 ⟨Nat.zero_le _, Nat.zero_le _⟩ (fun r0 u H locs hu hP hD hS => ?_)
  obtain ⟨hr0, hue⟩ := hu
  subst hr0
  rw [hue] at hP hD
  clear hue
  refine lv_istore hx hb zd_C_receive_4 hl (by decide) rfl (fun ls hl => ?_)
  have hl : lv_has ls 7 [(4, .int (nI (t / 2 ^ 3 % 8))), (0, .ref (ad 0)), (1, .int (nI p)), (2, .int (nI q)), (3, .int (nI t))] := hl
  refine lv_iload_n hx hb zd_C_receive_6 rfl (lv_at hl 4 rfl) ?_
  refine cq_callSI (As := [.int (nI t)]) (rest := []) ⟨hx, hb, hml, hown, hts⟩ (cC_L_roundOf l dC dI n ad cI cA a t ht) (cq_cwS 1 hts zm_L_roundOf zl_C_137 zs_L_roundOf zz_L rfl rfl (by decide +kernel) ⟨Nat.le_of_ble_eq_true rfl, Nat.le_of_ble_eq_true rfl⟩) hK hP hD hS hA rfl hl.1 rfl (Nat.le_of_ble_eq_true rfl) zd_C_receive_7 ⟨Nat.zero_le _, Nat.zero_le _⟩ (fun r0 u H locs hu hP hD hS => ?_)
  obtain ⟨hr0, hue⟩ := hu
  subst hr0
  rw [hue] at hP hD
  clear hue
  refine lv_istore hx hb zd_C_receive_10 hl (by decide) rfl (fun ls hl => ?_)
  have hl : lv_has ls 7 [(5, .int (nI (t / 2 ^ 6 % 16))), (4, .int (nI (t / 2 ^ 3 % 8))), (0, .ref (ad 0)), (1, .int (nI p)), (2, .int (nI q)), (3, .int (nI t))] := hl
  refine lv_iload_n hx hb zd_C_receive_12 rfl (lv_at hl 5 rfl) ?_
  refine cq_callSI (As := [.int (nI t)]) (rest := []) ⟨hx, hb, hml, hown, hts⟩ (cC_L_wordOf l dC dI n ad cI cA a t ht) (cq_cwS 1 hts zm_L_wordOf zl_C_140 zs_L_wordOf zz_L rfl rfl (by decide +kernel) ⟨Nat.le_of_ble_eq_true rfl, Nat.le_of_ble_eq_true rfl⟩) hK hP hD hS hA rfl hl.1 rfl (Nat.le_of_ble_eq_true rfl) zd_C_receive_13 ⟨Nat.zero_le _, Nat.zero_le _⟩ (fun r0 u H locs hu hP hD hS => ?_)
  obtain ⟨hr0, hue⟩ := hu
  subst hr0
  rw [hue] at hP hD
  clear hue
  refine lv_istore hx hb zd_C_receive_16 hl (by decide) rfl (fun ls hl => ?_)
  have hl : lv_has ls 7 [(6, .int (nI (t / 2 ^ 10 % 256))), (5, .int (nI (t / 2 ^ 6 % 16))), (4, .int (nI (t / 2 ^ 3 % 8))), (0, .ref (ad 0)), (1, .int (nI p)), (2, .int (nI q)), (3, .int (nI t))] := hl
  refine lv_iload_n hx hb zd_C_receive_18 rfl (lv_at hl 6 rfl) ?_
  refine cq_callSI (As := [.int (nI t)]) (rest := []) ⟨hx, hb, hml, hown, hts⟩ (cC_L_kindOf l dC dI n ad cI cA a t ht) (cq_cwS 1 hts zm_L_kindOf zl_C_78 zs_L_kindOf zz_L rfl rfl (by decide +kernel) ⟨Nat.le_of_ble_eq_true rfl, Nat.le_of_ble_eq_true rfl⟩) hK hP hD hS hA rfl hl.1 rfl (Nat.le_of_ble_eq_true rfl) zd_C_receive_19 ⟨Nat.zero_le _, Nat.zero_le _⟩ (fun r0 u H locs hu hP hD hS => ?_)
  obtain ⟨hr0, hue⟩ := hu
  subst hr0
  rw [hue] at hP hD
  clear hue
  by_cases t1 : t % 8 = 1
  · refine cn_top (show nI (t % 8) = nI 1 by rw [t1]) ?_
    refine lv_tableIn (off := 30) (tgt := 52) hx hb zd_C_receive_22 (by decide) (by decide) (by decide) (by decide) ?_
    refine lv_aload_n hx hb zd_C_receive_52 rfl (lv_at hl 3 rfl) ?_
    refine lv_iload_n hx hb zd_C_receive_53 rfl (lv_at hl 5 rfl) ?_
    refine lv_iload hx hb zd_C_receive_54 (lv_at hl 0 rfl) ?_
    refine cq_callV (C := zR_C) (As := [.int (nI q), .int (nI (t / 2 ^ 10 % 256))]) (rest := []) ⟨hx, hb, hml, hown, hts⟩ (cC_C_learn l dC dI n ad cI cA a hB hn3 hn5 h20 q (t / 2 ^ 10 % 256) hq (h1 t1)) (cq_cw 2 hts zm_C_learn zl_C_56 zs_C_learn ze_C_learn zz_C rfl rfl (by decide +kernel) ⟨Nat.le_of_ble_eq_true rfl, Nat.le_of_ble_eq_true rfl⟩) hK hP hD hS hA 0 (wC_at 0 (by omega)) rfl rfl hl.1 rfl (Nat.le_of_ble_eq_true rfl) zd_C_receive_56 ⟨Nat.zero_le _, Nat.zero_le _⟩ (fun u H locs hu hP hD hS => ?_)
    rw [show u = _ from hu] at hP hD
    clear hu
    refine lv_goto (tgt := 126) hx hb zd_C_receive_59 (by decide) ?_
    exact cq_vret (u := (gq_learn a q (t / 2 ^ 10 % 256))) hx hb hrt hlocks hK hP hD hS (by unfold gq_receive; rw [if_pos t1]) zd_C_receive_126
  · by_cases t2 : t % 8 = 2
    · refine cn_top (show nI (t % 8) = nI 2 by rw [t2]) ?_
      refine lv_tableIn (off := 40) (tgt := 62) hx hb zd_C_receive_22 (by decide) (by decide) (by decide) (by decide) ?_
      refine lv_aload_n hx hb zd_C_receive_62 rfl (lv_at hl 3 rfl) ?_
      refine va_get (D := (dC, dI)) (ci := 0) (v := .ref (ad 4)) (C := zR_C) (T := zT_C) (N := 6) hx hb hts zi_C hown hK hP 0 (wC_at 0 (by omega)) rfl 3 (by decide) (hts _ zf_C_41) (fun _ h9 => h9) rfl zd_C_receive_63 ?_
      refine lv_iload hx hb zd_C_receive_66 (lv_at hl 2 rfl) ?_
      refine lv_iload hx hb zd_C_receive_68 (lv_at hl 1 rfl) ?_
      refine lv_iload_n hx hb zd_C_receive_70 rfl (lv_at hl 4 rfl) ?_
      refine lv_iload hx hb zd_C_receive_71 (lv_at hl 0 rfl) ?_
      refine lv_iload_n hx hb zd_C_receive_73 rfl (lv_at hl 6 rfl) ?_
      refine cq_callSI (As := [.int (nI t)]) (rest := [.int (nI (t / 2 ^ 10 % 256)), .int (nI p), .int (nI (t / 2 ^ 6 % 16)), .int (nI (t / 2 ^ 3 % 8)), .ref (ad 4)]) ⟨hx, hb, hml, hown, hts⟩ (cC_L_stampOf l dC dI n ad cI cA a t ht) (cq_cwS 1 hts zm_L_stampOf zl_C_143 zs_L_stampOf zz_L rfl rfl (by decide +kernel) ⟨Nat.le_of_ble_eq_true rfl, Nat.le_of_ble_eq_true rfl⟩) hK hP hD hS hA rfl hl.1 rfl (Nat.le_of_ble_eq_true rfl) zd_C_receive_74 ⟨Nat.zero_le _, Nat.zero_le _⟩ (fun r0 u H locs hu hP hD hS => ?_)
      obtain ⟨hr0, hue⟩ := hu
      subst hr0
      rw [hue] at hP hD
      clear hue
      refine cq_callV (C := zR_Q) (As := [.int (nI (t / 2 ^ 3 % 8)), .int (nI (t / 2 ^ 6 % 16)), .int (nI p), .int (nI (t / 2 ^ 10 % 256)), .int (nI (t / 2 ^ 18 % 16))]) (rest := []) ⟨hx, hb, hml, hown, hts⟩ (cC_Q_keepEstimate l dC dI n ad cI cA a hB hn3 hn5 h20 (t / 2 ^ 3 % 8) (t / 2 ^ 6 % 16) p (t / 2 ^ 10 % 256) (t / 2 ^ 18 % 16) hp (by omega) (h2 (by omega)).1 (h2 (by omega)).2 (by omega)) (cq_cw 5 hts zm_Q_keepEstimate zl_C_146 zs_Q_keepEstimate ze_Q_keepEstimate zz_Q rfl rfl (by decide +kernel) ⟨Nat.le_of_ble_eq_true rfl, Nat.le_of_ble_eq_true rfl⟩) hK hP hD hS hA 4 (wC_at 4 (by omega)) rfl rfl hl.1 rfl (Nat.le_of_ble_eq_true rfl) zd_C_receive_77 ⟨Nat.zero_le _, Nat.zero_le _⟩ (fun u H locs hu hP hD hS => ?_)
      rw [show u = _ from hu] at hP hD
      clear hu
      refine lv_goto (tgt := 126) hx hb zd_C_receive_80 (by decide) ?_
      exact cq_vret (u := (gq_kE a (t / 2 ^ 3 % 8) (t / 2 ^ 6 % 16) p (t / 2 ^ 10 % 256) (t / 2 ^ 18 % 16))) hx hb hrt hlocks hK hP hD hS (by unfold gq_receive; rw [if_neg t1, if_pos t2]) zd_C_receive_126
    · by_cases t3 : t % 8 = 3
      · refine cn_top (show nI (t % 8) = nI 3 by rw [t3]) ?_
        refine lv_tableIn (off := 61) (tgt := 83) hx hb zd_C_receive_22 (by decide) (by decide) (by decide) (by decide) ?_
        refine lv_aload_n hx hb zd_C_receive_83 rfl (lv_at hl 3 rfl) ?_
        refine va_get (D := (dC, dI)) (ci := 0) (v := .ref (ad 4)) (C := zR_C) (T := zT_C) (N := 6) hx hb hts zi_C hown hK hP 0 (wC_at 0 (by omega)) rfl 3 (by decide) (hts _ zf_C_41) (fun _ h9 => h9) rfl zd_C_receive_84 ?_
        refine lv_iload hx hb zd_C_receive_87 (lv_at hl 2 rfl) ?_
        refine lv_iload hx hb zd_C_receive_89 (lv_at hl 1 rfl) ?_
        refine lv_iload_n hx hb zd_C_receive_91 rfl (lv_at hl 5 rfl) ?_
        refine lv_iload hx hb zd_C_receive_92 (lv_at hl 0 rfl) ?_
        refine cq_callV (C := zR_Q) (As := [.int (nI (t / 2 ^ 3 % 8)), .int (nI (t / 2 ^ 6 % 16)), .int (nI q), .int (nI (t / 2 ^ 10 % 256))]) (rest := []) ⟨hx, hb, hml, hown, hts⟩ (cC_Q_keepOffer l dC dI n ad cI cA a hB hn3 hn5 h20 (t / 2 ^ 3 % 8) (t / 2 ^ 6 % 16) q (t / 2 ^ 10 % 256) hq (by omega) (h2 (by omega)).1 (h2 (by omega)).2) (cq_cw 4 hts zm_Q_keepOffer zl_C_150 zs_Q_keepOffer ze_Q_keepOffer zz_Q rfl rfl (by decide +kernel) ⟨Nat.le_of_ble_eq_true rfl, Nat.le_of_ble_eq_true rfl⟩) hK hP hD hS hA 4 (wC_at 4 (by omega)) rfl rfl hl.1 rfl (Nat.le_of_ble_eq_true rfl) zd_C_receive_94 ⟨Nat.zero_le _, Nat.zero_le _⟩ (fun u H locs hu hP hD hS => ?_)
        rw [show u = _ from hu] at hP hD
        clear hu
        refine lv_goto (tgt := 126) hx hb zd_C_receive_97 (by decide) ?_
        exact cq_vret (u := (gq_kO a (t / 2 ^ 3 % 8) (t / 2 ^ 6 % 16) q (t / 2 ^ 10 % 256))) hx hb hrt hlocks hK hP hD hS (by unfold gq_receive; rw [if_neg t1, if_neg t2, if_pos t3]) zd_C_receive_126
      · by_cases t4 : t % 8 = 4
        · refine cn_top (show nI (t % 8) = nI 4 by rw [t4]) ?_
          refine lv_tableIn (off := 78) (tgt := 100) hx hb zd_C_receive_22 (by decide) (by decide) (by decide) (by decide) ?_
          refine lv_aload_n hx hb zd_C_receive_100 rfl (lv_at hl 3 rfl) ?_
          refine va_get (D := (dC, dI)) (ci := 0) (v := .ref (ad 4)) (C := zR_C) (T := zT_C) (N := 6) hx hb hts zi_C hown hK hP 0 (wC_at 0 (by omega)) rfl 3 (by decide) (hts _ zf_C_41) (fun _ h9 => h9) rfl zd_C_receive_101 ?_
          refine lv_iload hx hb zd_C_receive_104 (lv_at hl 2 rfl) ?_
          refine lv_iload hx hb zd_C_receive_106 (lv_at hl 1 rfl) ?_
          refine lv_iload_n hx hb zd_C_receive_108 rfl (lv_at hl 4 rfl) ?_
          refine lv_iload hx hb zd_C_receive_109 (lv_at hl 0 rfl) ?_
          refine cq_callV (C := zR_Q) (As := [.int (nI (t / 2 ^ 3 % 8)), .int (nI (t / 2 ^ 6 % 16)), .int (nI p), .int (nI (t / 2 ^ 10 % 256))]) (rest := []) ⟨hx, hb, hml, hown, hts⟩ (cC_Q_keepVote l dC dI n ad cI cA a hB hn3 hn5 h20 (t / 2 ^ 3 % 8) (t / 2 ^ 6 % 16) p (t / 2 ^ 10 % 256) (by omega) (by omega) (by omega) (h2 (by omega)).1 (h2 (by omega)).2) (cq_cw 4 hts zm_Q_keepVote zl_C_154 zs_Q_keepVote ze_Q_keepVote zz_Q rfl rfl (by decide +kernel) ⟨Nat.le_of_ble_eq_true rfl, Nat.le_of_ble_eq_true rfl⟩) hK hP hD hS hA 4 (wC_at 4 (by omega)) rfl rfl hl.1 rfl (Nat.le_of_ble_eq_true rfl) zd_C_receive_111 ⟨Nat.zero_le _, Nat.zero_le _⟩ (fun u H locs hu hP hD hS => ?_)
          rw [show u = _ from hu] at hP hD
          clear hu
          refine lv_goto (tgt := 126) hx hb zd_C_receive_114 (by decide) ?_
          exact cq_vret (u := (gq_kV a (t / 2 ^ 3 % 8) (t / 2 ^ 6 % 16) p (t / 2 ^ 10 % 256))) hx hb hrt hlocks hK hP hD hS (by unfold gq_receive; rw [if_neg t1, if_neg t2, if_neg t3, if_pos t4]) zd_C_receive_126
        · refine lv_tableOut (tgt := 117) hx hb zd_C_receive_22 ((by rw [nI_toInt (by omega)]; omega)) (by decide) ?_
          refine lv_aload_n hx hb zd_C_receive_117 rfl (lv_at hl 3 rfl) ?_
          refine lv_iload_n hx hb zd_C_receive_118 rfl (lv_at hl 5 rfl) ?_
          refine lv_iload hx hb zd_C_receive_119 (lv_at hl 2 rfl) ?_
          refine lv_iload hx hb zd_C_receive_121 (lv_at hl 0 rfl) ?_
          refine cq_callV (C := zR_C) (As := [.int (nI q), .int (nI (t / 2 ^ 3 % 8)), .int (nI (t / 2 ^ 10 % 256))]) (rest := []) ⟨hx, hb, hml, hown, hts⟩ (cC_C_accept l dC dI n ad cI cA a hB hn3 hn5 h20 q (t / 2 ^ 3 % 8) (t / 2 ^ 10 % 256) hq (by omega) (by omega) (hv _ (by omega))) (cq_cw 3 hts zm_C_accept zl_C_157 zs_C_accept ze_C_accept zz_C rfl rfl (by decide +kernel) ⟨Nat.le_of_ble_eq_true rfl, Nat.le_of_ble_eq_true rfl⟩) hK hP hD hS hA 0 (wC_at 0 (by omega)) rfl rfl hl.1 rfl (Nat.le_of_ble_eq_true rfl) zd_C_receive_123 ⟨Nat.zero_le _, Nat.zero_le _⟩ (fun u H locs hu hP hD hS => ?_)
          rw [show u = _ from hu] at hP hD
          clear hu
          exact cq_vret (u := (gq_accept a q (t / 2 ^ 3 % 8) (t / 2 ^ 10 % 256))) hx hb hrt hlocks hK hP hD hS (by unfold gq_receive; rw [if_neg t1, if_neg t2, if_neg t3, if_neg t4]) zd_C_receive_126

