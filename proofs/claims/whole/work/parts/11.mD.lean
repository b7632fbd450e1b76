set_option maxHeartbeats 4000000 in
set_option maxRecDepth 100000 in
theorem cM_step (l : Launch) (dC : Nat → ClassId) (dI : Nat → Nat → Nat) (bd : Nat → Nat) (cs : Nat → ClassId) (a : cq_S) (p : Nat) (hok : mq_sok a p) : cq_CI l zy_R_step zw_R_step ({ frames := 4, cells := 0, slots := 0, locals := 94 }) (dC, dI) cq_cl (wM bd cs) (tysM cs) a [.ref (bd 0), .int (nI p)] (fun r u => r = nI (mq_step a p).2 ∧ u = (mq_step a p).1) := by
  refine cq_CI.of (cc := zc_R_step) (maxL := 3) (ret := (some .boolean)) (by decide) rfl (Nat.le_of_ble_eq_true rfl) ?_
  intro pr ev s mt args below meth cd A ls hx hb hrt hts hown hlocks hml hP hK hD hA hS hl
  have hown : s.vm.findClass zR_R = some mt.cls := hown
  have hl : lv_has ls 3 [(0, .ref (bd 0)), (1, .int (nI p))] := hl
  obtain ⟨hB, hp, hn, hn5, hc, h0, h1, h2, h4, h9, h10, hmd, hw, hfin⟩ := hok
  have han : cq_an (a 0 p) (a 1 p) < 256 := cq_an_256 h0
  have hB6 := hB 6 (8 * p + a 4 p) (by decide)
  have hmj : mq_maj a < 4 := by unfold mq_maj; omega
  have hh2 := mq_holds_le a 2 p (a 23 0)
  have hh4 := mq_holds_le a 4 p (a 23 0)
  have hay := mq_ay_2 a p (a 23 0)
  refine lv_aload_n hx hb zd_R_step_0 rfl (lv_at hl 0 rfl) ?_
  refine va_get (D := (dC, dI)) (ci := 4) (v := .ref (bd 5)) (C := zR_R) (T := zT_R) (N := 24) hx hb hts zi_R hown hK hP 0 rfl rfl 7 (by decide) (hts _ zf_R_22) (fun _ h9 => h9) rfl zd_R_step_1 ?_
  refine lv_iload_n hx hb zd_R_step_4 rfl (lv_at hl 1 rfl) ?_
  refine cn_iald (f := a 4) hx hb hK hP 5 4 rfl rfl (by omega) (by decide) zd_R_step_5 ?_
  refine lv_bipush (v := nI 8) hx hb zd_R_step_6 (by decide) ?_
  refine cn_icmp_ge (tgt := 37) hx hb zd_R_step_8 (by decide) (hB _ _ (by decide)) (by omega) (fun c1 => ?_) (fun c1 => ?_)
  · refine lv_aload_n hx hb zd_R_step_37 rfl (lv_at hl 0 rfl) ?_
    refine va_get (D := (dC, dI)) (ci := 4) (v := .ref (bd 1)) (C := zR_R) (T := zT_R) (N := 24) hx hb hts zi_R hown hK hP 0 rfl rfl 3 (by decide) (hts _ zf_R_7) (fun _ h9 => h9) rfl zd_R_step_38 ?_
    refine lv_iload_n hx hb zd_R_step_41 rfl (lv_at hl 1 rfl) ?_
    refine cn_iald (f := a 0) hx hb hK hP 1 0 rfl rfl (by omega) (by decide) zd_R_step_42 ?_
    refine lv_aload_n hx hb zd_R_step_43 rfl (lv_at hl 0 rfl) ?_
    refine va_get (D := (dC, dI)) (ci := 4) (v := .ref (bd 2)) (C := zR_R) (T := zT_R) (N := 24) hx hb hts zi_R hown hK hP 0 rfl rfl 4 (by decide) (hts _ zf_R_13) (fun _ h9 => h9) rfl zd_R_step_44 ?_
    refine lv_iload_n hx hb zd_R_step_47 rfl (lv_at hl 1 rfl) ?_
    refine cn_iald (f := a 1) hx hb hK hP 2 1 rfl rfl (by omega) (by decide) zd_R_step_48 ?_
    refine lv_iconst (v := -1) hx hb zd_R_step_49 (by decide) ?_
    refine lv_ixor hx hb zd_R_step_50 ?_
    refine cn_andn hx hb zd_R_step_51 ?_
    refine lv_istore_n hx hb zd_R_step_52 rfl hl (by decide) rfl (fun ls hl => ?_)
    have hl : lv_has ls 3 [(2, .int (nI (cq_an (a 0 p) (a 1 p)))), (0, .ref (bd 0)), (1, .int (nI p))] := hl
    refine lv_aload_n hx hb zd_R_step_53 rfl (lv_at hl 1 rfl) ?_
    refine va_get (D := (dC, dI)) (ci := 4) (v := .ref (bd 8)) (C := zR_R) (T := zT_R) (N := 24) hx hb hts zi_R hown hK hP 0 rfl rfl 10 (by decide) (hts _ zf_R_31) (fun _ h9 => h9) rfl zd_R_step_54 ?_
    refine lv_iload_n hx hb zd_R_step_57 rfl (lv_at hl 2 rfl) ?_
    refine cn_iald (f := a 7) hx hb hK hP 8 7 rfl rfl (by omega) (by decide) zd_R_step_58 ?_
    refine cn_if_ne (tgt := 88) hx hb zd_R_step_59 (by decide) (hB _ _ (by decide)) (fun c2 => ?_) (fun c2 => ?_)
    · refine lv_aload_n hx hb zd_R_step_88 rfl (lv_at hl 1 rfl) ?_
      refine va_get (D := (dC, dI)) (ci := 4) (v := .ref (bd 8)) (C := zR_R) (T := zT_R) (N := 24) hx hb hts zi_R hown hK hP 0 rfl rfl 10 (by decide) (hts _ zf_R_31) (fun _ h9 => h9) rfl zd_R_step_89 ?_
      refine lv_iload_n hx hb zd_R_step_92 rfl (lv_at hl 2 rfl) ?_
      refine cn_iald (f := a 7) hx hb hK hP 8 7 rfl rfl (by omega) (by decide) zd_R_step_93 ?_
      refine lv_iconst (v := nI 1) hx hb zd_R_step_94 (by decide) ?_
      refine cn_icmp_ne (tgt := 192) hx hb zd_R_step_95 (by decide) (hB _ _ (by decide)) (by omega) (fun c3 => ?_) (fun c3 => ?_)
      · refine lv_aload_n hx hb zd_R_step_192 rfl (lv_at hl 1 rfl) ?_
        refine va_get (D := (dC, dI)) (ci := 4) (v := .ref (bd 8)) (C := zR_R) (T := zT_R) (N := 24) hx hb hts zi_R hown hK hP 0 rfl rfl 10 (by decide) (hts _ zf_R_31) (fun _ h9 => h9) rfl zd_R_step_193 ?_
        refine lv_iload_n hx hb zd_R_step_196 rfl (lv_at hl 2 rfl) ?_
        refine cn_iald (f := a 7) hx hb hK hP 8 7 rfl rfl (by omega) (by decide) zd_R_step_197 ?_
        refine lv_iconst (v := nI 2) hx hb zd_R_step_198 (by decide) ?_
        refine cn_icmp_ne (tgt := 208) hx hb zd_R_step_199 (by decide) (hB _ _ (by decide)) (by omega) (fun c4 => ?_) (fun c4 => ?_)
        · refine lv_aload_n hx hb zd_R_step_208 rfl (lv_at hl 1 rfl) ?_
          refine va_get (D := (dC, dI)) (ci := 4) (v := .ref (bd 8)) (C := zR_R) (T := zT_R) (N := 24) hx hb hts zi_R hown hK hP 0 rfl rfl 10 (by decide) (hts _ zf_R_31) (fun _ h9 => h9) rfl zd_R_step_209 ?_
          refine lv_iload_n hx hb zd_R_step_212 rfl (lv_at hl 2 rfl) ?_
          refine cn_iald (f := a 7) hx hb hK hP 8 7 rfl rfl (by omega) (by decide) zd_R_step_213 ?_
          refine lv_iconst (v := nI 3) hx hb zd_R_step_214 (by decide) ?_
          refine cn_icmp_ne (tgt := 274) hx hb zd_R_step_215 (by decide) (hB _ _ (by decide)) (by omega) (fun c5 => ?_) (fun c5 => ?_)
          · refine lv_iconst (v := nI 0) hx hb zd_R_step_274 (by decide) ?_
            have hst : mq_step a p = (a, 0) := by unfold mq_step; rw [if_neg (by omega), if_neg (by omega), if_neg (by omega), if_neg (by omega), if_neg (by omega)]
            exact cq_ret (u := a) hx hb hrt ⟨_, rfl, rfl⟩ hlocks hK hP hD hS (by rw [hst]; exact ⟨rfl, rfl⟩) zd_R_step_275
          · refine lv_aload_n hx hb zd_R_step_218 rfl (lv_at hl 1 rfl) ?_
            refine lv_iconst (v := nI 4) hx hb zd_R_step_219 (by decide) ?_
            refine lv_iload_n hx hb zd_R_step_220 rfl (lv_at hl 2 rfl) ?_
            refine cq_callI (C := zR_R) (As := [.int (nI 4), .int (nI p)]) (rest := []) ⟨hx, hb, hml, hown, hts⟩ (cM_holds l dC dI bd cs a hB 4 p (by decide) hp (by omega)) (cq_cw 2 hts zm_R_holds zl_R_113 zs_R_holds ze_R_holds zz_R rfl rfl (by decide +kernel) ⟨Nat.le_of_ble_eq_true rfl, Nat.le_of_ble_eq_true rfl⟩) hK hP hD hS hA 0 rfl rfl rfl hl.1 rfl (Nat.le_of_ble_eq_true rfl) zd_R_step_221 ⟨Nat.zero_le _, Nat.zero_le _⟩ (fun r0 u H locs hu hP hD hS => ?_)
            obtain ⟨hr0, hue⟩ := hu
            subst hr0
            rw [hue] at hP hD
            clear hue
            refine lv_aload_n hx hb zd_R_step_224 rfl (lv_at hl 1 rfl) ?_
            refine cq_callI (C := zR_R) (As := []) (rest := [.int (nI (mq_holds a 4 p (a 23 0)))]) ⟨hx, hb, hml, hown, hts⟩ (cM_majority l dC dI bd cs a hB) (cq_cw 0 hts zm_R_majority zl_R_117 zs_R_majority ze_R_majority zz_R rfl rfl (by decide +kernel) ⟨Nat.le_of_ble_eq_true rfl, Nat.le_of_ble_eq_true rfl⟩) hK hP hD hS hA 0 rfl rfl rfl hl.1 rfl (Nat.le_of_ble_eq_true rfl) zd_R_step_225 ⟨Nat.zero_le _, Nat.zero_le _⟩ (fun r0 u H locs hu hP hD hS => ?_)
            obtain ⟨hr0, hue⟩ := hu
            subst hr0
            rw [hue] at hP hD
            clear hue
            refine cn_icmp_lt (tgt := 274) hx hb zd_R_step_228 (by decide) (by omega) (by omega) (fun c6 => ?_) (fun c6 => ?_)
            · refine lv_iconst (v := nI 0) hx hb zd_R_step_274 (by decide) ?_
              have hst : mq_step a p = (a, 0) := by unfold mq_step; rw [if_neg (by omega), if_neg (by omega), if_neg (by omega), if_neg (by omega), if_neg (by omega)]
              exact cq_ret (u := a) hx hb hrt ⟨_, rfl, rfl⟩ hlocks hK hP hD hS (by rw [hst]; exact ⟨rfl, rfl⟩) zd_R_step_275
            · refine lv_aload_n hx hb zd_R_step_231 rfl (lv_at hl 1 rfl) ?_
              refine lv_iload_n hx hb zd_R_step_232 rfl (lv_at hl 2 rfl) ?_
              refine cq_callI (C := zR_R) (As := [.int (nI p)]) (rest := []) ⟨hx, hb, hml, hown, hts⟩ (cM_allYes l dC dI bd cs a hB p hp (by omega)) (cq_cw 1 hts zm_R_allYes zl_R_127 zs_R_allYes ze_R_allYes zz_R rfl rfl (by decide +kernel) ⟨Nat.le_of_ble_eq_true rfl, Nat.le_of_ble_eq_true rfl⟩) hK hP hD hS hA 0 rfl rfl rfl hl.1 rfl (Nat.le_of_ble_eq_true rfl) zd_R_step_233 ⟨Nat.zero_le _, Nat.zero_le _⟩ (fun r0 u H locs hu hP hD hS => ?_)
              obtain ⟨hr0, hue⟩ := hu
              subst hr0
              rw [hue] at hP hD
              clear hue
              refine cn_if_eq (tgt := 259) hx hb zd_R_step_236 (by decide) (by omega) (fun c7 => ?_) (fun c7 => ?_)
              · refine lv_aload_n hx hb zd_R_step_259 rfl (lv_at hl 1 rfl) ?_
                refine lv_iload_n hx hb zd_R_step_260 rfl (lv_at hl 2 rfl) ?_
                refine lv_aload_n hx hb zd_R_step_261 rfl (lv_at hl 1 rfl) ?_
                refine va_get (D := (dC, dI)) (ci := 4) (v := .ref (bd 9)) (C := zR_R) (T := zT_R) (N := 24) hx hb hts zi_R hown hK hP 0 rfl rfl 11 (by decide) (hts _ zf_R_34) (fun _ h9 => h9) rfl zd_R_step_262 ?_
                refine lv_iload_n hx hb zd_R_step_265 rfl (lv_at hl 2 rfl) ?_
                refine cn_iald (f := a 8) hx hb hK hP 9 8 rfl rfl (by omega) (by decide) zd_R_step_266 ?_
                refine lv_iconst (v := nI 1) hx hb zd_R_step_267 (by decide) ?_
                refine cn_iadd hx hb zd_R_step_268 ?_
                refine cq_callV (C := zR_R) (As := [.int (nI p), .int (nI ((a 8 p) + 1))]) (rest := []) ⟨hx, hb, hml, hown, hts⟩ (cM_enter l dC dI bd cs a hB p (a 8 p + 1) hp (by omega) (by omega) hn hn5 (by omega) (by omega) h10 (by omega)) (cq_cw 2 hts zm_R_enter zl_R_105 zs_R_enter ze_R_enter zz_R rfl rfl (by decide +kernel) ⟨Nat.le_of_ble_eq_true rfl, Nat.le_of_ble_eq_true rfl⟩) hK hP hD hS hA 0 rfl rfl rfl hl.1 rfl (Nat.le_of_ble_eq_true rfl) zd_R_step_269 ⟨Nat.zero_le _, Nat.zero_le _⟩ (fun u H locs hu hP hD hS => ?_)
                subst hu
                refine lv_iconst (v := nI 1) hx hb zd_R_step_272 (by decide) ?_
                have hst : mq_step a p = ((mq_enter a p (a 8 p + 1)), 1) := by unfold mq_step; rw [if_neg (by omega), if_neg (by omega), if_neg (by omega), if_neg (by omega), if_pos (by omega), if_pos (by omega)]
                exact cq_ret (u := (mq_enter a p (a 8 p + 1))) hx hb hrt ⟨_, rfl, rfl⟩ hlocks hK hP hD hS (by rw [hst]; exact ⟨rfl, rfl⟩) zd_R_step_273
              · refine lv_aload_n hx hb zd_R_step_239 rfl (lv_at hl 1 rfl) ?_
                refine lv_iload_n hx hb zd_R_step_240 rfl (lv_at hl 2 rfl) ?_
                refine lv_aload_n hx hb zd_R_step_241 rfl (lv_at hl 1 rfl) ?_
                refine va_get (D := (dC, dI)) (ci := 4) (v := .ref (bd 5)) (C := zR_R) (T := zT_R) (N := 24) hx hb hts zi_R hown hK hP 0 rfl rfl 7 (by decide) (hts _ zf_R_22) (fun _ h9 => h9) rfl zd_R_step_242 ?_
                refine lv_iload_n hx hb zd_R_step_245 rfl (lv_at hl 2 rfl) ?_
                refine cn_iald (f := a 4) hx hb hK hP 5 4 rfl rfl (by omega) (by decide) zd_R_step_246 ?_
                refine lv_aload_n hx hb zd_R_step_247 rfl (lv_at hl 1 rfl) ?_
                refine va_get (D := (dC, dI)) (ci := 4) (v := .ref (bd 10)) (C := zR_R) (T := zT_R) (N := 24) hx hb hts zi_R hown hK hP 0 rfl rfl 12 (by decide) (hts _ zf_R_37) (fun _ h9 => h9) rfl zd_R_step_248 ?_
                refine lv_iload_n hx hb zd_R_step_251 rfl (lv_at hl 2 rfl) ?_
                refine cn_iald (f := a 9) hx hb hK hP 10 9 rfl rfl (by omega) (by decide) zd_R_step_252 ?_
                refine cq_callV (C := zR_R) (As := [.int (nI p), .int (nI (a 4 p)), .int (nI (a 9 p))]) (rest := []) ⟨hx, hb, hml, hown, hts⟩ (cM_learn l dC dI bd cs a hB p (a 4 p) (a 9 p) hp (by omega) (by omega) hn5 h10 (by omega)) (cq_cw 3 hts zm_R_learn zl_R_130 zs_R_learn ze_R_learn zz_R rfl rfl (by decide +kernel) ⟨Nat.le_of_ble_eq_true rfl, Nat.le_of_ble_eq_true rfl⟩) hK hP hD hS hA 0 rfl rfl rfl hl.1 rfl (Nat.le_of_ble_eq_true rfl) zd_R_step_253 ⟨Nat.zero_le _, Nat.zero_le _⟩ (fun u H locs hu hP hD hS => ?_)
                subst hu
                refine lv_goto (tgt := 272) hx hb zd_R_step_256 (by decide) ?_
                refine lv_iconst (v := nI 1) hx hb zd_R_step_272 (by decide) ?_
                have hst : mq_step a p = ((mq_learn a p (a 4 p) (a 9 p)), 1) := by unfold mq_step; rw [if_neg (by omega), if_neg (by omega), if_neg (by omega), if_neg (by omega), if_pos (by omega), if_neg (by omega)]
                exact cq_ret (u := (mq_learn a p (a 4 p) (a 9 p))) hx hb hrt ⟨_, rfl, rfl⟩ hlocks hK hP hD hS (by rw [hst]; exact ⟨rfl, rfl⟩) zd_R_step_273
        · refine lv_aload_n hx hb zd_R_step_202 rfl (lv_at hl 1 rfl) ?_
          refine lv_iload_n hx hb zd_R_step_203 rfl (lv_at hl 2 rfl) ?_
          refine cq_callI (C := zR_R) (As := [.int (nI p)]) (rest := []) ⟨hx, hb, hml, hown, hts⟩ (cM_await l dC dI bd cs a hB p hp (by omega) (by omega) hn hn5 (by omega) (by omega) h10 (by omega) hw) (cq_cw 1 hts zm_R_await zl_R_124 zs_R_await ze_R_await zz_R rfl rfl (by decide +kernel) ⟨Nat.le_of_ble_eq_true rfl, Nat.le_of_ble_eq_true rfl⟩) hK hP hD hS hA 0 rfl rfl rfl hl.1 rfl (Nat.le_of_ble_eq_true rfl) zd_R_step_204 ⟨Nat.zero_le _, Nat.zero_le _⟩ (fun r0 u H locs hu hP hD hS => ?_)
          obtain ⟨hr0, hue⟩ := hu
          subst hr0
          rw [hue] at hP hD
          clear hue
          have hst : mq_step a p = ((mq_await a p).1, (mq_await a p).2) := by unfold mq_step; rw [if_neg (by omega), if_neg (by omega), if_neg (by omega), if_pos (by omega)]
          exact cq_ret (u := (mq_await a p).1) hx hb hrt ⟨_, rfl, cn_nbool _ (mq_await_2 a p)⟩ hlocks hK hP hD hS (by rw [hst]; exact ⟨rfl, rfl⟩) zd_R_step_207
      · refine lv_aload_n hx hb zd_R_step_98 rfl (lv_at hl 1 rfl) ?_
        refine lv_iconst (v := nI 2) hx hb zd_R_step_99 (by decide) ?_
        refine lv_iload_n hx hb zd_R_step_100 rfl (lv_at hl 2 rfl) ?_
        refine cq_callI (C := zR_R) (As := [.int (nI 2), .int (nI p)]) (rest := []) ⟨hx, hb, hml, hown, hts⟩ (cM_holds l dC dI bd cs a hB 2 p (by decide) hp (by omega)) (cq_cw 2 hts zm_R_holds zl_R_113 zs_R_holds ze_R_holds zz_R rfl rfl (by decide +kernel) ⟨Nat.le_of_ble_eq_true rfl, Nat.le_of_ble_eq_true rfl⟩) hK hP hD hS hA 0 rfl rfl rfl hl.1 rfl (Nat.le_of_ble_eq_true rfl) zd_R_step_101 ⟨Nat.zero_le _, Nat.zero_le _⟩ (fun r0 u H locs hu hP hD hS => ?_)
        obtain ⟨hr0, hue⟩ := hu
        subst hr0
        rw [hue] at hP hD
        clear hue
        refine lv_aload_n hx hb zd_R_step_104 rfl (lv_at hl 1 rfl) ?_
        refine cq_callI (C := zR_R) (As := []) (rest := [.int (nI (mq_holds a 2 p (a 23 0)))]) ⟨hx, hb, hml, hown, hts⟩ (cM_majority l dC dI bd cs a hB) (cq_cw 0 hts zm_R_majority zl_R_117 zs_R_majority ze_R_majority zz_R rfl rfl (by decide +kernel) ⟨Nat.le_of_ble_eq_true rfl, Nat.le_of_ble_eq_true rfl⟩) hK hP hD hS hA 0 rfl rfl rfl hl.1 rfl (Nat.le_of_ble_eq_true rfl) zd_R_step_105 ⟨Nat.zero_le _, Nat.zero_le _⟩ (fun r0 u H locs hu hP hD hS => ?_)
        obtain ⟨hr0, hue⟩ := hu
        subst hr0
        rw [hue] at hP hD
        clear hue
        refine cn_icmp_lt (tgt := 192) hx hb zd_R_step_108 (by decide) (by omega) (by omega) (fun c8 => ?_) (fun c8 => ?_)
        · refine lv_aload_n hx hb zd_R_step_192 rfl (lv_at hl 1 rfl) ?_
          refine va_get (D := (dC, dI)) (ci := 4) (v := .ref (bd 8)) (C := zR_R) (T := zT_R) (N := 24) hx hb hts zi_R hown hK hP 0 rfl rfl 10 (by decide) (hts _ zf_R_31) (fun _ h9 => h9) rfl zd_R_step_193 ?_
          refine lv_iload_n hx hb zd_R_step_196 rfl (lv_at hl 2 rfl) ?_
          refine cn_iald (f := a 7) hx hb hK hP 8 7 rfl rfl (by omega) (by decide) zd_R_step_197 ?_
          refine lv_iconst (v := nI 2) hx hb zd_R_step_198 (by decide) ?_
          refine cn_icmp_ne (tgt := 208) hx hb zd_R_step_199 (by decide) (hB _ _ (by decide)) (by omega) (fun c9 => ?_) (fun c9 => ?_)
          · refine lv_aload_n hx hb zd_R_step_208 rfl (lv_at hl 1 rfl) ?_
            refine va_get (D := (dC, dI)) (ci := 4) (v := .ref (bd 8)) (C := zR_R) (T := zT_R) (N := 24) hx hb hts zi_R hown hK hP 0 rfl rfl 10 (by decide) (hts _ zf_R_31) (fun _ h9 => h9) rfl zd_R_step_209 ?_
            refine lv_iload_n hx hb zd_R_step_212 rfl (lv_at hl 2 rfl) ?_
            refine cn_iald (f := a 7) hx hb hK hP 8 7 rfl rfl (by omega) (by decide) zd_R_step_213 ?_
            refine lv_iconst (v := nI 3) hx hb zd_R_step_214 (by decide) ?_
            refine cn_icmp_ne (tgt := 274) hx hb zd_R_step_215 (by decide) (hB _ _ (by decide)) (by omega) (fun c10 => ?_) (fun c10 => ?_)
            · refine lv_iconst (v := nI 0) hx hb zd_R_step_274 (by decide) ?_
              have hst : mq_step a p = (a, 0) := by unfold mq_step; rw [if_neg (by omega), if_neg (by omega), if_neg (by omega), if_neg (by omega), if_neg (by omega)]
              exact cq_ret (u := a) hx hb hrt ⟨_, rfl, rfl⟩ hlocks hK hP hD hS (by rw [hst]; exact ⟨rfl, rfl⟩) zd_R_step_275
            · exact absurd c10 (by omega)
          · exact absurd c9 (by omega)
        · refine lv_aload_n hx hb zd_R_step_111 rfl (lv_at hl 1 rfl) ?_
          refine va_get (D := (dC, dI)) (ci := 4) (v := .ref (bd 10)) (C := zR_R) (T := zT_R) (N := 24) hx hb hts zi_R hown hK hP 0 rfl rfl 12 (by decide) (hts _ zf_R_37) (fun _ h9 => h9) rfl zd_R_step_112 ?_
          refine lv_iload_n hx hb zd_R_step_115 rfl (lv_at hl 2 rfl) ?_
          refine lv_aload_n hx hb zd_R_step_116 rfl (lv_at hl 1 rfl) ?_
          refine va_get (D := (dC, dI)) (ci := 4) (v := .ref (bd 18)) (C := zR_R) (T := zT_R) (N := 24) hx hb hts zi_R hown hK hP 0 rfl rfl 21 (by decide) (hts _ zf_R_63) (fun _ h9 => h9) rfl zd_R_step_117 ?_
          refine lv_aload_n hx hb zd_R_step_120 rfl (lv_at hl 1 rfl) ?_
          refine lv_iload_n hx hb zd_R_step_121 rfl (lv_at hl 2 rfl) ?_
          refine cq_callI (C := zR_R) (As := [.int (nI p)]) (rest := [.ref (bd 18), .int (nI p), .ref (bd 10)]) ⟨hx, hb, hml, hown, hts⟩ (cM_best l dC dI bd cs a hB p hp (by omega)) (cq_cw 1 hts zm_R_best zl_R_121 zs_R_best ze_R_best zz_R rfl rfl (by decide +kernel) ⟨Nat.le_of_ble_eq_true rfl, Nat.le_of_ble_eq_true rfl⟩) hK hP hD hS hA 0 rfl rfl rfl hl.1 rfl (Nat.le_of_ble_eq_true rfl) zd_R_step_122 ⟨Nat.zero_le _, Nat.zero_le _⟩ (fun r0 u H locs hu hP hD hS => ?_)
          obtain ⟨hr0, hue⟩ := hu
          subst hr0
          rw [hue] at hP hD
          clear hue
          obtain ⟨i, hbi⟩ : ∃ i, mq_best a p (a 23 0) = some i := mq_best_some a p _ (by have := mq_maj_pos a; omega)
          have hi : i < a 23 0 := mq_best_lt a p _ i hbi
          have hwi := hw i hi
          rw [hbi]
          refine cn_top (show mq_oi (some i) = nI i from rfl) ?_
          refine cn_sald (f := a 17) hx hb hK hP 18 17 rfl rfl (by omega) (by decide) zd_R_step_125 ?_
          refine cn_iast (f := a 9) hx hb hK hP hD hS 10 9 rfl rfl (by omega) (by decide) zd_R_step_126 (fun H locs hP hD hS => ?_)
          have hP : va_P (dC, dI) cq_cl (wM bd cs (cq_p a 9 p (a 17 i))) H := hP
          have hD : va_D A (wM bd cs (cq_p a 9 p (a 17 i))) := hD
          refine lv_aload_n hx hb zd_R_step_127 rfl (lv_at hl 1 rfl) ?_
          refine va_get (D := (dC, dI)) (ci := 4) (v := .ref (bd 11)) (C := zR_R) (T := zT_R) (N := 24) hx hb hts zi_R hown hK hP 0 rfl rfl 13 (by decide) (hts _ zf_R_40) (fun _ h9 => h9) rfl zd_R_step_128 ?_
          refine lv_iload_n hx hb zd_R_step_131 rfl (lv_at hl 2 rfl) ?_
          refine lv_aload_n hx hb zd_R_step_132 rfl (lv_at hl 1 rfl) ?_
          refine va_get (D := (dC, dI)) (ci := 4) (v := .ref (bd 9)) (C := zR_R) (T := zT_R) (N := 24) hx hb hts zi_R hown hK hP 0 rfl rfl 11 (by decide) (hts _ zf_R_34) (fun _ h9 => h9) rfl zd_R_step_133 ?_
          refine lv_iload_n hx hb zd_R_step_136 rfl (lv_at hl 2 rfl) ?_
          refine cn_iald (f := a 8) hx hb hK hP 9 8 rfl rfl (by omega) (by decide) zd_R_step_137 ?_
          refine cn_iast (f := a 10) hx hb hK hP hD hS 11 10 rfl rfl (by omega) (by decide) zd_R_step_138 (fun H locs hP hD hS => ?_)
          have hP : va_P (dC, dI) cq_cl (wM bd cs (cq_p (cq_p a 9 p (a 17 i)) 10 p (a 8 p))) H := hP
          have hD : va_D A (wM bd cs (cq_p (cq_p a 9 p (a 17 i)) 10 p (a 8 p))) := hD
          refine lv_aload_n hx hb zd_R_step_139 rfl (lv_at hl 1 rfl) ?_
          refine lv_iconst (v := nI 3) hx hb zd_R_step_140 (by decide) ?_
          refine lv_iload_n hx hb zd_R_step_141 rfl (lv_at hl 2 rfl) ?_
          refine lv_aload_n hx hb zd_R_step_142 rfl (lv_at hl 1 rfl) ?_
          refine va_get (D := (dC, dI)) (ci := 4) (v := .ref (bd 5)) (C := zR_R) (T := zT_R) (N := 24) hx hb hts zi_R hown hK hP 0 rfl rfl 7 (by decide) (hts _ zf_R_22) (fun _ h9 => h9) rfl zd_R_step_143 ?_
          refine lv_iload_n hx hb zd_R_step_146 rfl (lv_at hl 2 rfl) ?_
          refine cn_iald (f := a 4) hx hb hK hP 5 4 rfl rfl (by omega) (by decide) zd_R_step_147 ?_
          refine lv_aload_n hx hb zd_R_step_148 rfl (lv_at hl 1 rfl) ?_
          refine va_get (D := (dC, dI)) (ci := 4) (v := .ref (bd 9)) (C := zR_R) (T := zT_R) (N := 24) hx hb hts zi_R hown hK hP 0 rfl rfl 11 (by decide) (hts _ zf_R_34) (fun _ h9 => h9) rfl zd_R_step_149 ?_
          refine lv_iload_n hx hb zd_R_step_152 rfl (lv_at hl 2 rfl) ?_
          refine cn_iald (f := a 8) hx hb hK hP 9 8 rfl rfl (by omega) (by decide) zd_R_step_153 ?_
          refine lv_aload_n hx hb zd_R_step_154 rfl (lv_at hl 1 rfl) ?_
          refine va_get (D := (dC, dI)) (ci := 4) (v := .ref (bd 10)) (C := zR_R) (T := zT_R) (N := 24) hx hb hts zi_R hown hK hP 0 rfl rfl 12 (by decide) (hts _ zf_R_37) (fun _ h9 => h9) rfl zd_R_step_155 ?_
          refine lv_iload_n hx hb zd_R_step_158 rfl (lv_at hl 2 rfl) ?_
          refine cn_iald (f := (cq_p (cq_p a 9 p (a 17 i)) 10 p (a 8 p)) 9) hx hb hK hP 10 9 rfl rfl (by omega) (by decide) zd_R_step_159 ?_
          refine cn_top (show nI ((cq_p (cq_p a 9 p (a 17 i)) 10 p (a 8 p)) 9 p) = nI (a 17 i) by simp [cq_p]) ?_
          refine cq_callV (C := zR_R) (As := [.int (nI 3), .int (nI p), .int (nI (a 4 p)), .int (nI (a 8 p)), .int (nI (a 17 i))]) (rest := []) ⟨hx, hb, hml, hown, hts⟩ (cM_toAll l dC dI bd cs ((cq_p (cq_p a 9 p (a 17 i)) 10 p (a 8 p))) ((hB.put (by omega)).put (by omega)) 3 p (a 4 p) (a 8 p) (a 17 i) (by decide) hp (by omega) (by omega) hwi (show (cq_p (cq_p a 9 p (a 17 i)) 10 p (a 8 p)) 10 p < 128 by simp [cq_p]; omega) hn5 (show a 23 0 + 5 ≤ 1500 by omega)) (cq_cw 5 hts zm_R_toAll zl_R_101 zs_R_toAll ze_R_toAll zz_R rfl rfl (by decide +kernel) ⟨Nat.le_of_ble_eq_true rfl, Nat.le_of_ble_eq_true rfl⟩) hK hP hD hS hA 0 rfl rfl rfl hl.1 rfl (Nat.le_of_ble_eq_true rfl) zd_R_step_160 ⟨Nat.zero_le _, Nat.zero_le _⟩ (fun u H locs hu hP hD hS => ?_)
          subst hu
          have hz : ∀ k i', k < 12 → mq_toAll (cq_p (cq_p a 9 p (a 17 i)) 10 p (a 8 p)) 3 p (a 4 p) (a 8 p) (a 17 i) k i' = (cq_p (cq_p a 9 p (a 17 i)) 10 p (a 8 p)) k i' := fun k i' h => mq_all_k _ _ _ _ _ _ _ _ _ (Or.inl h)
          have hz4 : mq_toAll (cq_p (cq_p a 9 p (a 17 i)) 10 p (a 8 p)) 3 p (a 4 p) (a 8 p) (a 17 i) 4 p = a 4 p := hz 4 p (by decide)
          have hz8 : mq_toAll (cq_p (cq_p a 9 p (a 17 i)) 10 p (a 8 p)) 3 p (a 4 p) (a 8 p) (a 17 i) 8 p = a 8 p := hz 8 p (by decide)
          have hz10 : mq_toAll (cq_p (cq_p a 9 p (a 17 i)) 10 p (a 8 p)) 3 p (a 4 p) (a 8 p) (a 17 i) 10 p = a 8 p := (hz 10 p (by decide)).trans (by simp [cq_p])
          have hz23 : mq_toAll (cq_p (cq_p a 9 p (a 17 i)) 10 p (a 8 p)) 3 p (a 4 p) (a 8 p) (a 17 i) 23 0 ≤ a 23 0 + a 20 0 := mq_all_n _ _ _ _ _ _ _
          refine lv_aload_n hx hb zd_R_step_163 rfl (lv_at hl 1 rfl) ?_
          refine lv_iconst (v := nI 4) hx hb zd_R_step_164 (by decide) ?_
          refine lv_iload_n hx hb zd_R_step_165 rfl (lv_at hl 2 rfl) ?_
          refine lv_iload_n hx hb zd_R_step_166 rfl (lv_at hl 2 rfl) ?_
          refine lv_aload_n hx hb zd_R_step_167 rfl (lv_at hl 1 rfl) ?_
          refine va_get (D := (dC, dI)) (ci := 4) (v := .ref (bd 5)) (C := zR_R) (T := zT_R) (N := 24) hx hb hts zi_R hown hK hP 0 rfl rfl 7 (by decide) (hts _ zf_R_22) (fun _ h9 => h9) rfl zd_R_step_168 ?_
          refine lv_iload_n hx hb zd_R_step_171 rfl (lv_at hl 2 rfl) ?_
          refine cn_iald (f := (mq_toAll (cq_p (cq_p a 9 p (a 17 i)) 10 p (a 8 p)) 3 p (a 4 p) (a 8 p) (a 17 i)) 4) hx hb hK hP 5 4 rfl rfl (by omega) (by decide) zd_R_step_172 ?_
          refine cn_top (show nI ((mq_toAll (cq_p (cq_p a 9 p (a 17 i)) 10 p (a 8 p)) 3 p (a 4 p) (a 8 p) (a 17 i)) 4 p) = nI (a 4 p) by rw [hz4]) ?_
          refine lv_aload_n hx hb zd_R_step_173 rfl (lv_at hl 1 rfl) ?_
          refine va_get (D := (dC, dI)) (ci := 4) (v := .ref (bd 9)) (C := zR_R) (T := zT_R) (N := 24) hx hb hts zi_R hown hK hP 0 rfl rfl 11 (by decide) (hts _ zf_R_34) (fun _ h9 => h9) rfl zd_R_step_174 ?_
          refine lv_iload_n hx hb zd_R_step_177 rfl (lv_at hl 2 rfl) ?_
          refine cn_iald (f := (mq_toAll (cq_p (cq_p a 9 p (a 17 i)) 10 p (a 8 p)) 3 p (a 4 p) (a 8 p) (a 17 i)) 8) hx hb hK hP 9 8 rfl rfl (by omega) (by decide) zd_R_step_178 ?_
          refine cn_top (show nI ((mq_toAll (cq_p (cq_p a 9 p (a 17 i)) 10 p (a 8 p)) 3 p (a 4 p) (a 8 p) (a 17 i)) 8 p) = nI (a 8 p) by rw [hz8]) ?_
          refine lv_iconst (v := nI 1) hx hb zd_R_step_179 (by decide) ?_
          refine cq_callV (C := zR_R) (As := [.int (nI 4), .int (nI p), .int (nI p), .int (nI (a 4 p)), .int (nI (a 8 p)), .int (nI 1)]) (rest := []) ⟨hx, hb, hml, hown, hts⟩ (cM_put l dC dI bd cs ((mq_toAll (cq_p (cq_p a 9 p (a 17 i)) 10 p (a 8 p)) 3 p (a 4 p) (a 8 p) (a 17 i))) (mq_all_B (a := (cq_p (cq_p a 9 p (a 17 i)) 10 p (a 8 p))) ((hB.put (by omega)).put (by omega)) (by decide) (by omega) (by omega) (by omega) (by omega) (show a 23 0 ≤ 1000000 by omega) _ (show a 20 0 ≤ 1000000 by omega)) 4 p p (a 4 p) (a 8 p) 1 (by decide) hp (by omega) (by omega) (by omega) (by decide) (by rw [hz10]; omega) (by omega)) (cq_cw 6 hts zm_R_put zl_R_80 zs_R_put ze_R_put zz_R rfl rfl (by decide +kernel) ⟨Nat.le_of_ble_eq_true rfl, Nat.le_of_ble_eq_true rfl⟩) hK hP hD hS hA 0 rfl rfl rfl hl.1 rfl (Nat.le_of_ble_eq_true rfl) zd_R_step_180 ⟨Nat.zero_le _, Nat.zero_le _⟩ (fun u H locs hu hP hD hS => ?_)
          subst hu
          refine lv_aload_n hx hb zd_R_step_183 rfl (lv_at hl 1 rfl) ?_
          refine va_get (D := (dC, dI)) (ci := 4) (v := .ref (bd 8)) (C := zR_R) (T := zT_R) (N := 24) hx hb hts zi_R hown hK hP 0 rfl rfl 10 (by decide) (hts _ zf_R_31) (fun _ h9 => h9) rfl zd_R_step_184 ?_
          refine lv_iload_n hx hb zd_R_step_187 rfl (lv_at hl 2 rfl) ?_
          refine lv_iconst (v := nI 3) hx hb zd_R_step_188 (by decide) ?_
          refine cn_iast (f := (mq_put (mq_toAll (cq_p (cq_p a 9 p (a 17 i)) 10 p (a 8 p)) 3 p (a 4 p) (a 8 p) (a 17 i)) 4 p p (a 4 p) (a 8 p) 1) 7) hx hb hK hP hD hS 8 7 rfl rfl (by omega) (by decide) zd_R_step_189 (fun H locs hP hD hS => ?_)
          have hP : va_P (dC, dI) cq_cl (wM bd cs (cq_p (mq_put (mq_toAll (cq_p (cq_p a 9 p (a 17 i)) 10 p (a 8 p)) 3 p (a 4 p) (a 8 p) (a 17 i)) 4 p p (a 4 p) (a 8 p) 1) 7 p 3)) H := hP
          have hD : va_D A (wM bd cs (cq_p (mq_put (mq_toAll (cq_p (cq_p a 9 p (a 17 i)) 10 p (a 8 p)) 3 p (a 4 p) (a 8 p) (a 17 i)) 4 p p (a 4 p) (a 8 p) 1) 7 p 3)) := hD
          refine lv_iconst (v := nI 1) hx hb zd_R_step_190 (by decide) ?_
          have hst : mq_step a p = ((cq_p (mq_put (mq_toAll (cq_p (cq_p a 9 p (a 17 i)) 10 p (a 8 p)) 3 p (a 4 p) (a 8 p) (a 17 i)) 4 p p (a 4 p) (a 8 p) 1) 7 p 3), 1) := by unfold mq_step; rw [if_neg (by omega), if_neg (by omega), if_pos (by omega), hbi]; rfl
          exact cq_ret (u := (cq_p (mq_put (mq_toAll (cq_p (cq_p a 9 p (a 17 i)) 10 p (a 8 p)) 3 p (a 4 p) (a 8 p) (a 17 i)) 4 p p (a 4 p) (a 8 p) 1) 7 p 3)) hx hb hrt ⟨_, rfl, rfl⟩ hlocks hK hP hD hS (by rw [hst]; exact ⟨rfl, rfl⟩) zd_R_step_191
    · refine lv_iload_n hx hb zd_R_step_62 rfl (lv_at hl 0 rfl) ?_
      refine cn_if_eq (tgt := 88) hx hb zd_R_step_63 (by decide) (cq_an_lt (hB _ _ (by decide))) (fun c11 => ?_) (fun c11 => ?_)
      · refine lv_aload_n hx hb zd_R_step_88 rfl (lv_at hl 1 rfl) ?_
        refine va_get (D := (dC, dI)) (ci := 4) (v := .ref (bd 8)) (C := zR_R) (T := zT_R) (N := 24) hx hb hts zi_R hown hK hP 0 rfl rfl 10 (by decide) (hts _ zf_R_31) (fun _ h9 => h9) rfl zd_R_step_89 ?_
        refine lv_iload_n hx hb zd_R_step_92 rfl (lv_at hl 2 rfl) ?_
        refine cn_iald (f := a 7) hx hb hK hP 8 7 rfl rfl (by omega) (by decide) zd_R_step_93 ?_
        refine lv_iconst (v := nI 1) hx hb zd_R_step_94 (by decide) ?_
        refine cn_icmp_ne (tgt := 192) hx hb zd_R_step_95 (by decide) (hB _ _ (by decide)) (by omega) (fun c12 => ?_) (fun c12 => ?_)
        · refine lv_aload_n hx hb zd_R_step_192 rfl (lv_at hl 1 rfl) ?_
          refine va_get (D := (dC, dI)) (ci := 4) (v := .ref (bd 8)) (C := zR_R) (T := zT_R) (N := 24) hx hb hts zi_R hown hK hP 0 rfl rfl 10 (by decide) (hts _ zf_R_31) (fun _ h9 => h9) rfl zd_R_step_193 ?_
          refine lv_iload_n hx hb zd_R_step_196 rfl (lv_at hl 2 rfl) ?_
          refine cn_iald (f := a 7) hx hb hK hP 8 7 rfl rfl (by omega) (by decide) zd_R_step_197 ?_
          refine lv_iconst (v := nI 2) hx hb zd_R_step_198 (by decide) ?_
          refine cn_icmp_ne (tgt := 208) hx hb zd_R_step_199 (by decide) (hB _ _ (by decide)) (by omega) (fun c13 => ?_) (fun c13 => ?_)
          · refine lv_aload_n hx hb zd_R_step_208 rfl (lv_at hl 1 rfl) ?_
            refine va_get (D := (dC, dI)) (ci := 4) (v := .ref (bd 8)) (C := zR_R) (T := zT_R) (N := 24) hx hb hts zi_R hown hK hP 0 rfl rfl 10 (by decide) (hts _ zf_R_31) (fun _ h9 => h9) rfl zd_R_step_209 ?_
            refine lv_iload_n hx hb zd_R_step_212 rfl (lv_at hl 2 rfl) ?_
            refine cn_iald (f := a 7) hx hb hK hP 8 7 rfl rfl (by omega) (by decide) zd_R_step_213 ?_
            refine lv_iconst (v := nI 3) hx hb zd_R_step_214 (by decide) ?_
            refine cn_icmp_ne (tgt := 274) hx hb zd_R_step_215 (by decide) (hB _ _ (by decide)) (by omega) (fun c14 => ?_) (fun c14 => ?_)
            · refine lv_iconst (v := nI 0) hx hb zd_R_step_274 (by decide) ?_
              have hst : mq_step a p = (a, 0) := by unfold mq_step; rw [if_neg (by omega), if_neg (by omega), if_neg (by omega), if_neg (by omega), if_neg (by omega)]
              exact cq_ret (u := a) hx hb hrt ⟨_, rfl, rfl⟩ hlocks hK hP hD hS (by rw [hst]; exact ⟨rfl, rfl⟩) zd_R_step_275
            · exact absurd c14 (by omega)
          · exact absurd c13 (by omega)
        · exact absurd c12 (by omega)
      · refine lv_aload_n hx hb zd_R_step_66 rfl (lv_at hl 1 rfl) ?_
        refine va_get (D := (dC, dI)) (ci := 4) (v := .ref (bd 10)) (C := zR_R) (T := zT_R) (N := 24) hx hb hts zi_R hown hK hP 0 rfl rfl 12 (by decide) (hts _ zf_R_37) (fun _ h9 => h9) rfl zd_R_step_67 ?_
        refine lv_iload_n hx hb zd_R_step_70 rfl (lv_at hl 2 rfl) ?_
        refine lv_iload_n hx hb zd_R_step_71 rfl (lv_at hl 0 rfl) ?_
        refine cn_iast (f := a 9) hx hb hK hP hD hS 10 9 rfl rfl (by omega) (by decide) zd_R_step_72 (fun H locs hP hD hS => ?_)
        have hP : va_P (dC, dI) cq_cl (wM bd cs (cq_p a 9 p (cq_an (a 0 p) (a 1 p)))) H := hP
        have hD : va_D A (wM bd cs (cq_p a 9 p (cq_an (a 0 p) (a 1 p)))) := hD
        refine lv_aload_n hx hb zd_R_step_73 rfl (lv_at hl 1 rfl) ?_
        refine va_get (D := (dC, dI)) (ci := 4) (v := .ref (bd 11)) (C := zR_R) (T := zT_R) (N := 24) hx hb hts zi_R hown hK hP 0 rfl rfl 13 (by decide) (hts _ zf_R_40) (fun _ h9 => h9) rfl zd_R_step_74 ?_
        refine lv_iload_n hx hb zd_R_step_77 rfl (lv_at hl 2 rfl) ?_
        refine lv_iconst (v := nI 0) hx hb zd_R_step_78 (by decide) ?_
        refine cn_iast (f := a 10) hx hb hK hP hD hS 11 10 rfl rfl (by omega) (by decide) zd_R_step_79 (fun H locs hP hD hS => ?_)
        have hP : va_P (dC, dI) cq_cl (wM bd cs (cq_p (cq_p a 9 p (cq_an (a 0 p) (a 1 p))) 10 p 0)) H := hP
        have hD : va_D A (wM bd cs (cq_p (cq_p a 9 p (cq_an (a 0 p) (a 1 p))) 10 p 0)) := hD
        refine lv_aload_n hx hb zd_R_step_80 rfl (lv_at hl 1 rfl) ?_
        refine lv_iload_n hx hb zd_R_step_81 rfl (lv_at hl 2 rfl) ?_
        refine lv_iconst (v := nI 1) hx hb zd_R_step_82 (by decide) ?_
        refine cq_callV (C := zR_R) (As := [.int (nI p), .int (nI 1)]) (rest := []) ⟨hx, hb, hml, hown, hts⟩ (cM_enter l dC dI bd cs ((cq_p (cq_p a 9 p (cq_an (a 0 p) (a 1 p))) 10 p 0)) ((hB.put (by omega)).put (by decide)) p 1 hp (by decide) (by decide) hn hn5 (show a 4 p < 128 by omega) (show cq_p (cq_p a 9 p (cq_an (a 0 p) (a 1 p))) 10 p 0 9 p < 32768 by simp [cq_p]; omega) (show cq_p (cq_p a 9 p (cq_an (a 0 p) (a 1 p))) 10 p 0 10 p < 128 by simp [cq_p]) (show a 23 0 < 1500 by omega)) (cq_cw 2 hts zm_R_enter zl_R_105 zs_R_enter ze_R_enter zz_R rfl rfl (by decide +kernel) ⟨Nat.le_of_ble_eq_true rfl, Nat.le_of_ble_eq_true rfl⟩) hK hP hD hS hA 0 rfl rfl rfl hl.1 rfl (Nat.le_of_ble_eq_true rfl) zd_R_step_83 ⟨Nat.zero_le _, Nat.zero_le _⟩ (fun u H locs hu hP hD hS => ?_)
        subst hu
        refine lv_iconst (v := nI 1) hx hb zd_R_step_86 (by decide) ?_
        have hst : mq_step a p = ((mq_enter (cq_p (cq_p a 9 p (cq_an (a 0 p) (a 1 p))) 10 p 0) p 1), 1) := by unfold mq_step; rw [if_neg (by omega), if_pos (by omega)]
        exact cq_ret (u := (mq_enter (cq_p (cq_p a 9 p (cq_an (a 0 p) (a 1 p))) 10 p 0) p 1)) hx hb hrt ⟨_, rfl, rfl⟩ hlocks hK hP hD hS (by rw [hst]; exact ⟨rfl, rfl⟩) zd_R_step_87
  · refine lv_aload_n hx hb zd_R_step_11 rfl (lv_at hl 0 rfl) ?_
    refine va_get (D := (dC, dI)) (ci := 4) (v := .ref (bd 7)) (C := zR_R) (T := zT_R) (N := 24) hx hb hts zi_R hown hK hP 0 rfl rfl 9 (by decide) (hts _ zf_R_28) (fun _ h9 => h9) rfl zd_R_step_12 ?_
    refine lv_bipush (v := nI 8) hx hb zd_R_step_15 (by decide) ?_
    refine lv_iload_n hx hb zd_R_step_17 rfl (lv_at hl 1 rfl) ?_
    refine cn_imul hx hb zd_R_step_18 ?_
    refine lv_aload_n hx hb zd_R_step_19 rfl (lv_at hl 0 rfl) ?_
    refine va_get (D := (dC, dI)) (ci := 4) (v := .ref (bd 5)) (C := zR_R) (T := zT_R) (N := 24) hx hb hts zi_R hown hK hP 0 rfl rfl 7 (by decide) (hts _ zf_R_22) (fun _ h9 => h9) rfl zd_R_step_20 ?_
    refine lv_iload_n hx hb zd_R_step_23 rfl (lv_at hl 1 rfl) ?_
    refine cn_iald (f := a 4) hx hb hK hP 5 4 rfl rfl (by omega) (by decide) zd_R_step_24 ?_
    refine cn_iadd hx hb zd_R_step_25 ?_
    refine cn_iald (f := a 6) hx hb hK hP 7 6 rfl rfl (by omega) (by decide) zd_R_step_26 ?_
    refine cn_if_eq (tgt := 37) hx hb zd_R_step_27 (by decide) (by omega) (fun c15 => ?_) (fun c15 => ?_)
    · refine lv_aload_n hx hb zd_R_step_37 rfl (lv_at hl 0 rfl) ?_
      refine va_get (D := (dC, dI)) (ci := 4) (v := .ref (bd 1)) (C := zR_R) (T := zT_R) (N := 24) hx hb hts zi_R hown hK hP 0 rfl rfl 3 (by decide) (hts _ zf_R_7) (fun _ h9 => h9) rfl zd_R_step_38 ?_
      refine lv_iload_n hx hb zd_R_step_41 rfl (lv_at hl 1 rfl) ?_
      refine cn_iald (f := a 0) hx hb hK hP 1 0 rfl rfl (by omega) (by decide) zd_R_step_42 ?_
      refine lv_aload_n hx hb zd_R_step_43 rfl (lv_at hl 0 rfl) ?_
      refine va_get (D := (dC, dI)) (ci := 4) (v := .ref (bd 2)) (C := zR_R) (T := zT_R) (N := 24) hx hb hts zi_R hown hK hP 0 rfl rfl 4 (by decide) (hts _ zf_R_13) (fun _ h9 => h9) rfl zd_R_step_44 ?_
      refine lv_iload_n hx hb zd_R_step_47 rfl (lv_at hl 1 rfl) ?_
      refine cn_iald (f := a 1) hx hb hK hP 2 1 rfl rfl (by omega) (by decide) zd_R_step_48 ?_
      refine lv_iconst (v := -1) hx hb zd_R_step_49 (by decide) ?_
      refine lv_ixor hx hb zd_R_step_50 ?_
      refine cn_andn hx hb zd_R_step_51 ?_
      refine lv_istore_n hx hb zd_R_step_52 rfl hl (by decide) rfl (fun ls hl => ?_)
      have hl : lv_has ls 3 [(2, .int (nI (cq_an (a 0 p) (a 1 p)))), (0, .ref (bd 0)), (1, .int (nI p))] := hl
      refine lv_aload_n hx hb zd_R_step_53 rfl (lv_at hl 1 rfl) ?_
      refine va_get (D := (dC, dI)) (ci := 4) (v := .ref (bd 8)) (C := zR_R) (T := zT_R) (N := 24) hx hb hts zi_R hown hK hP 0 rfl rfl 10 (by decide) (hts _ zf_R_31) (fun _ h9 => h9) rfl zd_R_step_54 ?_
      refine lv_iload_n hx hb zd_R_step_57 rfl (lv_at hl 2 rfl) ?_
      refine cn_iald (f := a 7) hx hb hK hP 8 7 rfl rfl (by omega) (by decide) zd_R_step_58 ?_
      refine cn_if_ne (tgt := 88) hx hb zd_R_step_59 (by decide) (hB _ _ (by decide)) (fun c16 => ?_) (fun c16 => ?_)
      · refine lv_aload_n hx hb zd_R_step_88 rfl (lv_at hl 1 rfl) ?_
        refine va_get (D := (dC, dI)) (ci := 4) (v := .ref (bd 8)) (C := zR_R) (T := zT_R) (N := 24) hx hb hts zi_R hown hK hP 0 rfl rfl 10 (by decide) (hts _ zf_R_31) (fun _ h9 => h9) rfl zd_R_step_89 ?_
        refine lv_iload_n hx hb zd_R_step_92 rfl (lv_at hl 2 rfl) ?_
        refine cn_iald (f := a 7) hx hb hK hP 8 7 rfl rfl (by omega) (by decide) zd_R_step_93 ?_
        refine lv_iconst (v := nI 1) hx hb zd_R_step_94 (by decide) ?_
        refine cn_icmp_ne (tgt := 192) hx hb zd_R_step_95 (by decide) (hB _ _ (by decide)) (by omega) (fun c17 => ?_) (fun c17 => ?_)
        · refine lv_aload_n hx hb zd_R_step_192 rfl (lv_at hl 1 rfl) ?_
          refine va_get (D := (dC, dI)) (ci := 4) (v := .ref (bd 8)) (C := zR_R) (T := zT_R) (N := 24) hx hb hts zi_R hown hK hP 0 rfl rfl 10 (by decide) (hts _ zf_R_31) (fun _ h9 => h9) rfl zd_R_step_193 ?_
          refine lv_iload_n hx hb zd_R_step_196 rfl (lv_at hl 2 rfl) ?_
          refine cn_iald (f := a 7) hx hb hK hP 8 7 rfl rfl (by omega) (by decide) zd_R_step_197 ?_
          refine lv_iconst (v := nI 2) hx hb zd_R_step_198 (by decide) ?_
          refine cn_icmp_ne (tgt := 208) hx hb zd_R_step_199 (by decide) (hB _ _ (by decide)) (by omega) (fun c18 => ?_) (fun c18 => ?_)
          · refine lv_aload_n hx hb zd_R_step_208 rfl (lv_at hl 1 rfl) ?_
            refine va_get (D := (dC, dI)) (ci := 4) (v := .ref (bd 8)) (C := zR_R) (T := zT_R) (N := 24) hx hb hts zi_R hown hK hP 0 rfl rfl 10 (by decide) (hts _ zf_R_31) (fun _ h9 => h9) rfl zd_R_step_209 ?_
            refine lv_iload_n hx hb zd_R_step_212 rfl (lv_at hl 2 rfl) ?_
            refine cn_iald (f := a 7) hx hb hK hP 8 7 rfl rfl (by omega) (by decide) zd_R_step_213 ?_
            refine lv_iconst (v := nI 3) hx hb zd_R_step_214 (by decide) ?_
            refine cn_icmp_ne (tgt := 274) hx hb zd_R_step_215 (by decide) (hB _ _ (by decide)) (by omega) (fun c19 => ?_) (fun c19 => ?_)
            · refine lv_iconst (v := nI 0) hx hb zd_R_step_274 (by decide) ?_
              have hst : mq_step a p = (a, 0) := by unfold mq_step; rw [if_neg (by omega), if_neg (by omega), if_neg (by omega), if_neg (by omega), if_neg (by omega)]
              exact cq_ret (u := a) hx hb hrt ⟨_, rfl, rfl⟩ hlocks hK hP hD hS (by rw [hst]; exact ⟨rfl, rfl⟩) zd_R_step_275
            · refine lv_aload_n hx hb zd_R_step_218 rfl (lv_at hl 1 rfl) ?_
              refine lv_iconst (v := nI 4) hx hb zd_R_step_219 (by decide) ?_
              refine lv_iload_n hx hb zd_R_step_220 rfl (lv_at hl 2 rfl) ?_
              refine cq_callI (C := zR_R) (As := [.int (nI 4), .int (nI p)]) (rest := []) ⟨hx, hb, hml, hown, hts⟩ (cM_holds l dC dI bd cs a hB 4 p (by decide) hp (by omega)) (cq_cw 2 hts zm_R_holds zl_R_113 zs_R_holds ze_R_holds zz_R rfl rfl (by decide +kernel) ⟨Nat.le_of_ble_eq_true rfl, Nat.le_of_ble_eq_true rfl⟩) hK hP hD hS hA 0 rfl rfl rfl hl.1 rfl (Nat.le_of_ble_eq_true rfl) zd_R_step_221 ⟨Nat.zero_le _, Nat.zero_le _⟩ (fun r0 u H locs hu hP hD hS => ?_)
              obtain ⟨hr0, hue⟩ := hu
              subst hr0
              rw [hue] at hP hD
              clear hue
              refine lv_aload_n hx hb zd_R_step_224 rfl (lv_at hl 1 rfl) ?_
              refine cq_callI (C := zR_R) (As := []) (rest := [.int (nI (mq_holds a 4 p (a 23 0)))]) ⟨hx, hb, hml, hown, hts⟩ (cM_majority l dC dI bd cs a hB) (cq_cw 0 hts zm_R_majority zl_R_117 zs_R_majority ze_R_majority zz_R rfl rfl (by decide +kernel) ⟨Nat.le_of_ble_eq_true rfl, Nat.le_of_ble_eq_true rfl⟩) hK hP hD hS hA 0 rfl rfl rfl hl.1 rfl (Nat.le_of_ble_eq_true rfl) zd_R_step_225 ⟨Nat.zero_le _, Nat.zero_le _⟩ (fun r0 u H locs hu hP hD hS => ?_)
              obtain ⟨hr0, hue⟩ := hu
              subst hr0
              rw [hue] at hP hD
              clear hue
              refine cn_icmp_lt (tgt := 274) hx hb zd_R_step_228 (by decide) (by omega) (by omega) (fun c20 => ?_) (fun c20 => ?_)
              · refine lv_iconst (v := nI 0) hx hb zd_R_step_274 (by decide) ?_
                have hst : mq_step a p = (a, 0) := by unfold mq_step; rw [if_neg (by omega), if_neg (by omega), if_neg (by omega), if_neg (by omega), if_neg (by omega)]
                exact cq_ret (u := a) hx hb hrt ⟨_, rfl, rfl⟩ hlocks hK hP hD hS (by rw [hst]; exact ⟨rfl, rfl⟩) zd_R_step_275
              · refine lv_aload_n hx hb zd_R_step_231 rfl (lv_at hl 1 rfl) ?_
                refine lv_iload_n hx hb zd_R_step_232 rfl (lv_at hl 2 rfl) ?_
                refine cq_callI (C := zR_R) (As := [.int (nI p)]) (rest := []) ⟨hx, hb, hml, hown, hts⟩ (cM_allYes l dC dI bd cs a hB p hp (by omega)) (cq_cw 1 hts zm_R_allYes zl_R_127 zs_R_allYes ze_R_allYes zz_R rfl rfl (by decide +kernel) ⟨Nat.le_of_ble_eq_true rfl, Nat.le_of_ble_eq_true rfl⟩) hK hP hD hS hA 0 rfl rfl rfl hl.1 rfl (Nat.le_of_ble_eq_true rfl) zd_R_step_233 ⟨Nat.zero_le _, Nat.zero_le _⟩ (fun r0 u H locs hu hP hD hS => ?_)
                obtain ⟨hr0, hue⟩ := hu
                subst hr0
                rw [hue] at hP hD
                clear hue
                refine cn_if_eq (tgt := 259) hx hb zd_R_step_236 (by decide) (by omega) (fun c21 => ?_) (fun c21 => ?_)
                · refine lv_aload_n hx hb zd_R_step_259 rfl (lv_at hl 1 rfl) ?_
                  refine lv_iload_n hx hb zd_R_step_260 rfl (lv_at hl 2 rfl) ?_
                  refine lv_aload_n hx hb zd_R_step_261 rfl (lv_at hl 1 rfl) ?_
                  refine va_get (D := (dC, dI)) (ci := 4) (v := .ref (bd 9)) (C := zR_R) (T := zT_R) (N := 24) hx hb hts zi_R hown hK hP 0 rfl rfl 11 (by decide) (hts _ zf_R_34) (fun _ h9 => h9) rfl zd_R_step_262 ?_
                  refine lv_iload_n hx hb zd_R_step_265 rfl (lv_at hl 2 rfl) ?_
                  refine cn_iald (f := a 8) hx hb hK hP 9 8 rfl rfl (by omega) (by decide) zd_R_step_266 ?_
                  refine lv_iconst (v := nI 1) hx hb zd_R_step_267 (by decide) ?_
                  refine cn_iadd hx hb zd_R_step_268 ?_
                  refine cq_callV (C := zR_R) (As := [.int (nI p), .int (nI ((a 8 p) + 1))]) (rest := []) ⟨hx, hb, hml, hown, hts⟩ (cM_enter l dC dI bd cs a hB p (a 8 p + 1) hp (by omega) (by omega) hn hn5 (by omega) (by omega) h10 (by omega)) (cq_cw 2 hts zm_R_enter zl_R_105 zs_R_enter ze_R_enter zz_R rfl rfl (by decide +kernel) ⟨Nat.le_of_ble_eq_true rfl, Nat.le_of_ble_eq_true rfl⟩) hK hP hD hS hA 0 rfl rfl rfl hl.1 rfl (Nat.le_of_ble_eq_true rfl) zd_R_step_269 ⟨Nat.zero_le _, Nat.zero_le _⟩ (fun u H locs hu hP hD hS => ?_)
                  subst hu
                  refine lv_iconst (v := nI 1) hx hb zd_R_step_272 (by decide) ?_
                  have hst : mq_step a p = ((mq_enter a p (a 8 p + 1)), 1) := by unfold mq_step; rw [if_neg (by omega), if_neg (by omega), if_neg (by omega), if_neg (by omega), if_pos (by omega), if_pos (by omega)]
                  exact cq_ret (u := (mq_enter a p (a 8 p + 1))) hx hb hrt ⟨_, rfl, rfl⟩ hlocks hK hP hD hS (by rw [hst]; exact ⟨rfl, rfl⟩) zd_R_step_273
                · refine lv_aload_n hx hb zd_R_step_239 rfl (lv_at hl 1 rfl) ?_
                  refine lv_iload_n hx hb zd_R_step_240 rfl (lv_at hl 2 rfl) ?_
                  refine lv_aload_n hx hb zd_R_step_241 rfl (lv_at hl 1 rfl) ?_
                  refine va_get (D := (dC, dI)) (ci := 4) (v := .ref (bd 5)) (C := zR_R) (T := zT_R) (N := 24) hx hb hts zi_R hown hK hP 0 rfl rfl 7 (by decide) (hts _ zf_R_22) (fun _ h9 => h9) rfl zd_R_step_242 ?_
                  refine lv_iload_n hx hb zd_R_step_245 rfl (lv_at hl 2 rfl) ?_
                  refine cn_iald (f := a 4) hx hb hK hP 5 4 rfl rfl (by omega) (by decide) zd_R_step_246 ?_
                  refine lv_aload_n hx hb zd_R_step_247 rfl (lv_at hl 1 rfl) ?_
                  refine va_get (D := (dC, dI)) (ci := 4) (v := .ref (bd 10)) (C := zR_R) (T := zT_R) (N := 24) hx hb hts zi_R hown hK hP 0 rfl rfl 12 (by decide) (hts _ zf_R_37) (fun _ h9 => h9) rfl zd_R_step_248 ?_
                  refine lv_iload_n hx hb zd_R_step_251 rfl (lv_at hl 2 rfl) ?_
                  refine cn_iald (f := a 9) hx hb hK hP 10 9 rfl rfl (by omega) (by decide) zd_R_step_252 ?_
                  refine cq_callV (C := zR_R) (As := [.int (nI p), .int (nI (a 4 p)), .int (nI (a 9 p))]) (rest := []) ⟨hx, hb, hml, hown, hts⟩ (cM_learn l dC dI bd cs a hB p (a 4 p) (a 9 p) hp (by omega) (by omega) hn5 h10 (by omega)) (cq_cw 3 hts zm_R_learn zl_R_130 zs_R_learn ze_R_learn zz_R rfl rfl (by decide +kernel) ⟨Nat.le_of_ble_eq_true rfl, Nat.le_of_ble_eq_true rfl⟩) hK hP hD hS hA 0 rfl rfl rfl hl.1 rfl (Nat.le_of_ble_eq_true rfl) zd_R_step_253 ⟨Nat.zero_le _, Nat.zero_le _⟩ (fun u H locs hu hP hD hS => ?_)
                  subst hu
                  refine lv_goto (tgt := 272) hx hb zd_R_step_256 (by decide) ?_
                  refine lv_iconst (v := nI 1) hx hb zd_R_step_272 (by decide) ?_
                  have hst : mq_step a p = ((mq_learn a p (a 4 p) (a 9 p)), 1) := by unfold mq_step; rw [if_neg (by omega), if_neg (by omega), if_neg (by omega), if_neg (by omega), if_pos (by omega), if_neg (by omega)]
                  exact cq_ret (u := (mq_learn a p (a 4 p) (a 9 p))) hx hb hrt ⟨_, rfl, rfl⟩ hlocks hK hP hD hS (by rw [hst]; exact ⟨rfl, rfl⟩) zd_R_step_273
          · refine lv_aload_n hx hb zd_R_step_202 rfl (lv_at hl 1 rfl) ?_
            refine lv_iload_n hx hb zd_R_step_203 rfl (lv_at hl 2 rfl) ?_
            refine cq_callI (C := zR_R) (As := [.int (nI p)]) (rest := []) ⟨hx, hb, hml, hown, hts⟩ (cM_await l dC dI bd cs a hB p hp (by omega) (by omega) hn hn5 (by omega) (by omega) h10 (by omega) hw) (cq_cw 1 hts zm_R_await zl_R_124 zs_R_await ze_R_await zz_R rfl rfl (by decide +kernel) ⟨Nat.le_of_ble_eq_true rfl, Nat.le_of_ble_eq_true rfl⟩) hK hP hD hS hA 0 rfl rfl rfl hl.1 rfl (Nat.le_of_ble_eq_true rfl) zd_R_step_204 ⟨Nat.zero_le _, Nat.zero_le _⟩ (fun r0 u H locs hu hP hD hS => ?_)
            obtain ⟨hr0, hue⟩ := hu
            subst hr0
            rw [hue] at hP hD
            clear hue
            have hst : mq_step a p = ((mq_await a p).1, (mq_await a p).2) := by unfold mq_step; rw [if_neg (by omega), if_neg (by omega), if_neg (by omega), if_pos (by omega)]
            exact cq_ret (u := (mq_await a p).1) hx hb hrt ⟨_, rfl, cn_nbool _ (mq_await_2 a p)⟩ hlocks hK hP hD hS (by rw [hst]; exact ⟨rfl, rfl⟩) zd_R_step_207
        · refine lv_aload_n hx hb zd_R_step_98 rfl (lv_at hl 1 rfl) ?_
          refine lv_iconst (v := nI 2) hx hb zd_R_step_99 (by decide) ?_
          refine lv_iload_n hx hb zd_R_step_100 rfl (lv_at hl 2 rfl) ?_
          refine cq_callI (C := zR_R) (As := [.int (nI 2), .int (nI p)]) (rest := []) ⟨hx, hb, hml, hown, hts⟩ (cM_holds l dC dI bd cs a hB 2 p (by decide) hp (by omega)) (cq_cw 2 hts zm_R_holds zl_R_113 zs_R_holds ze_R_holds zz_R rfl rfl (by decide +kernel) ⟨Nat.le_of_ble_eq_true rfl, Nat.le_of_ble_eq_true rfl⟩) hK hP hD hS hA 0 rfl rfl rfl hl.1 rfl (Nat.le_of_ble_eq_true rfl) zd_R_step_101 ⟨Nat.zero_le _, Nat.zero_le _⟩ (fun r0 u H locs hu hP hD hS => ?_)
          obtain ⟨hr0, hue⟩ := hu
          subst hr0
          rw [hue] at hP hD
          clear hue
          refine lv_aload_n hx hb zd_R_step_104 rfl (lv_at hl 1 rfl) ?_
          refine cq_callI (C := zR_R) (As := []) (rest := [.int (nI (mq_holds a 2 p (a 23 0)))]) ⟨hx, hb, hml, hown, hts⟩ (cM_majority l dC dI bd cs a hB) (cq_cw 0 hts zm_R_majority zl_R_117 zs_R_majority ze_R_majority zz_R rfl rfl (by decide +kernel) ⟨Nat.le_of_ble_eq_true rfl, Nat.le_of_ble_eq_true rfl⟩) hK hP hD hS hA 0 rfl rfl rfl hl.1 rfl (Nat.le_of_ble_eq_true rfl) zd_R_step_105 ⟨Nat.zero_le _, Nat.zero_le _⟩ (fun r0 u H locs hu hP hD hS => ?_)
          obtain ⟨hr0, hue⟩ := hu
          subst hr0
          rw [hue] at hP hD
          clear hue
          refine cn_icmp_lt (tgt := 192) hx hb zd_R_step_108 (by decide) (by omega) (by omega) (fun c22 => ?_) (fun c22 => ?_)
          · refine lv_aload_n hx hb zd_R_step_192 rfl (lv_at hl 1 rfl) ?_
            refine va_get (D := (dC, dI)) (ci := 4) (v := .ref (bd 8)) (C := zR_R) (T := zT_R) (N := 24) hx hb hts zi_R hown hK hP 0 rfl rfl 10 (by decide) (hts _ zf_R_31) (fun _ h9 => h9) rfl zd_R_step_193 ?_
            refine lv_iload_n hx hb zd_R_step_196 rfl (lv_at hl 2 rfl) ?_
            refine cn_iald (f := a 7) hx hb hK hP 8 7 rfl rfl (by omega) (by decide) zd_R_step_197 ?_
            refine lv_iconst (v := nI 2) hx hb zd_R_step_198 (by decide) ?_
            refine cn_icmp_ne (tgt := 208) hx hb zd_R_step_199 (by decide) (hB _ _ (by decide)) (by omega) (fun c23 => ?_) (fun c23 => ?_)
            · refine lv_aload_n hx hb zd_R_step_208 rfl (lv_at hl 1 rfl) ?_
              refine va_get (D := (dC, dI)) (ci := 4) (v := .ref (bd 8)) (C := zR_R) (T := zT_R) (N := 24) hx hb hts zi_R hown hK hP 0 rfl rfl 10 (by decide) (hts _ zf_R_31) (fun _ h9 => h9) rfl zd_R_step_209 ?_
              refine lv_iload_n hx hb zd_R_step_212 rfl (lv_at hl 2 rfl) ?_
              refine cn_iald (f := a 7) hx hb hK hP 8 7 rfl rfl (by omega) (by decide) zd_R_step_213 ?_
              refine lv_iconst (v := nI 3) hx hb zd_R_step_214 (by decide) ?_
              refine cn_icmp_ne (tgt := 274) hx hb zd_R_step_215 (by decide) (hB _ _ (by decide)) (by omega) (fun c24 => ?_) (fun c24 => ?_)
              · refine lv_iconst (v := nI 0) hx hb zd_R_step_274 (by decide) ?_
                have hst : mq_step a p = (a, 0) := by unfold mq_step; rw [if_neg (by omega), if_neg (by omega), if_neg (by omega), if_neg (by omega), if_neg (by omega)]
                exact cq_ret (u := a) hx hb hrt ⟨_, rfl, rfl⟩ hlocks hK hP hD hS (by rw [hst]; exact ⟨rfl, rfl⟩) zd_R_step_275
              · exact absurd c24 (by omega)
            · exact absurd c23 (by omega)
          · refine lv_aload_n hx hb zd_R_step_111 rfl (lv_at hl 1 rfl) ?_
            refine va_get (D := (dC, dI)) (ci := 4) (v := .ref (bd 10)) (C := zR_R) (T := zT_R) (N := 24) hx hb hts zi_R hown hK hP 0 rfl rfl 12 (by decide) (hts _ zf_R_37) (fun _ h9 => h9) rfl zd_R_step_112 ?_
            refine lv_iload_n hx hb zd_R_step_115 rfl (lv_at hl 2 rfl) ?_
            refine lv_aload_n hx hb zd_R_step_116 rfl (lv_at hl 1 rfl) ?_
            refine va_get (D := (dC, dI)) (ci := 4) (v := .ref (bd 18)) (C := zR_R) (T := zT_R) (N := 24) hx hb hts zi_R hown hK hP 0 rfl rfl 21 (by decide) (hts _ zf_R_63) (fun _ h9 => h9) rfl zd_R_step_117 ?_
            refine lv_aload_n hx hb zd_R_step_120 rfl (lv_at hl 1 rfl) ?_
            refine lv_iload_n hx hb zd_R_step_121 rfl (lv_at hl 2 rfl) ?_
            refine cq_callI (C := zR_R) (As := [.int (nI p)]) (rest := [.ref (bd 18), .int (nI p), .ref (bd 10)]) ⟨hx, hb, hml, hown, hts⟩ (cM_best l dC dI bd cs a hB p hp (by omega)) (cq_cw 1 hts zm_R_best zl_R_121 zs_R_best ze_R_best zz_R rfl rfl (by decide +kernel) ⟨Nat.le_of_ble_eq_true rfl, Nat.le_of_ble_eq_true rfl⟩) hK hP hD hS hA 0 rfl rfl rfl hl.1 rfl (Nat.le_of_ble_eq_true rfl) zd_R_step_122 ⟨Nat.zero_le _, Nat.zero_le _⟩ (fun r0 u H locs hu hP hD hS => ?_)
            obtain ⟨hr0, hue⟩ := hu
            subst hr0
            rw [hue] at hP hD
            clear hue
            obtain ⟨i, hbi⟩ : ∃ i, mq_best a p (a 23 0) = some i := mq_best_some a p _ (by have := mq_maj_pos a; omega)
            have hi : i < a 23 0 := mq_best_lt a p _ i hbi
            have hwi := hw i hi
            rw [hbi]
            refine cn_top (show mq_oi (some i) = nI i from rfl) ?_
            refine cn_sald (f := a 17) hx hb hK hP 18 17 rfl rfl (by omega) (by decide) zd_R_step_125 ?_
            refine cn_iast (f := a 9) hx hb hK hP hD hS 10 9 rfl rfl (by omega) (by decide) zd_R_step_126 (fun H locs hP hD hS => ?_)
            have hP : va_P (dC, dI) cq_cl (wM bd cs (cq_p a 9 p (a 17 i))) H := hP
            have hD : va_D A (wM bd cs (cq_p a 9 p (a 17 i))) := hD
            refine lv_aload_n hx hb zd_R_step_127 rfl (lv_at hl 1 rfl) ?_
            refine va_get (D := (dC, dI)) (ci := 4) (v := .ref (bd 11)) (C := zR_R) (T := zT_R) (N := 24) hx hb hts zi_R hown hK hP 0 rfl rfl 13 (by decide) (hts _ zf_R_40) (fun _ h9 => h9) rfl zd_R_step_128 ?_
            refine lv_iload_n hx hb zd_R_step_131 rfl (lv_at hl 2 rfl) ?_
            refine lv_aload_n hx hb zd_R_step_132 rfl (lv_at hl 1 rfl) ?_
            refine va_get (D := (dC, dI)) (ci := 4) (v := .ref (bd 9)) (C := zR_R) (T := zT_R) (N := 24) hx hb hts zi_R hown hK hP 0 rfl rfl 11 (by decide) (hts _ zf_R_34) (fun _ h9 => h9) rfl zd_R_step_133 ?_
            refine lv_iload_n hx hb zd_R_step_136 rfl (lv_at hl 2 rfl) ?_
            refine cn_iald (f := a 8) hx hb hK hP 9 8 rfl rfl (by omega) (by decide) zd_R_step_137 ?_
            refine cn_iast (f := a 10) hx hb hK hP hD hS 11 10 rfl rfl (by omega) (by decide) zd_R_step_138 (fun H locs hP hD hS => ?_)
            have hP : va_P (dC, dI) cq_cl (wM bd cs (cq_p (cq_p a 9 p (a 17 i)) 10 p (a 8 p))) H := hP
            have hD : va_D A (wM bd cs (cq_p (cq_p a 9 p (a 17 i)) 10 p (a 8 p))) := hD
            refine lv_aload_n hx hb zd_R_step_139 rfl (lv_at hl 1 rfl) ?_
            refine lv_iconst (v := nI 3) hx hb zd_R_step_140 (by decide) ?_
            refine lv_iload_n hx hb zd_R_step_141 rfl (lv_at hl 2 rfl) ?_
            refine lv_aload_n hx hb zd_R_step_142 rfl (lv_at hl 1 rfl) ?_
            refine va_get (D := (dC, dI)) (ci := 4) (v := .ref (bd 5)) (C := zR_R) (T := zT_R) (N := 24) hx hb hts zi_R hown hK hP 0 rfl rfl 7 (by decide) (hts _ zf_R_22) (fun _ h9 => h9) rfl zd_R_step_143 ?_
            refine lv_iload_n hx hb zd_R_step_146 rfl (lv_at hl 2 rfl) ?_
            refine cn_iald (f := a 4) hx hb hK hP 5 4 rfl rfl (by omega) (by decide) zd_R_step_147 ?_
            refine lv_aload_n hx hb zd_R_step_148 rfl (lv_at hl 1 rfl) ?_
            refine va_get (D := (dC, dI)) (ci := 4) (v := .ref (bd 9)) (C := zR_R) (T := zT_R) (N := 24) hx hb hts zi_R hown hK hP 0 rfl rfl 11 (by decide) (hts _ zf_R_34) (fun _ h9 => h9) rfl zd_R_step_149 ?_
            refine lv_iload_n hx hb zd_R_step_152 rfl (lv_at hl 2 rfl) ?_
            refine cn_iald (f := a 8) hx hb hK hP 9 8 rfl rfl (by omega) (by decide) zd_R_step_153 ?_
            refine lv_aload_n hx hb zd_R_step_154 rfl (lv_at hl 1 rfl) ?_
            refine va_get (D := (dC, dI)) (ci := 4) (v := .ref (bd 10)) (C := zR_R) (T := zT_R) (N := 24) hx hb hts zi_R hown hK hP 0 rfl rfl 12 (by decide) (hts _ zf_R_37) (fun _ h9 => h9) rfl zd_R_step_155 ?_
            refine lv_iload_n hx hb zd_R_step_158 rfl (lv_at hl 2 rfl) ?_
            refine cn_iald (f := (cq_p (cq_p a 9 p (a 17 i)) 10 p (a 8 p)) 9) hx hb hK hP 10 9 rfl rfl (by omega) (by decide) zd_R_step_159 ?_
            refine cn_top (show nI ((cq_p (cq_p a 9 p (a 17 i)) 10 p (a 8 p)) 9 p) = nI (a 17 i) by simp [cq_p]) ?_
            refine cq_callV (C := zR_R) (As := [.int (nI 3), .int (nI p), .int (nI (a 4 p)), .int (nI (a 8 p)), .int (nI (a 17 i))]) (rest := []) ⟨hx, hb, hml, hown, hts⟩ (cM_toAll l dC dI bd cs ((cq_p (cq_p a 9 p (a 17 i)) 10 p (a 8 p))) ((hB.put (by omega)).put (by omega)) 3 p (a 4 p) (a 8 p) (a 17 i) (by decide) hp (by omega) (by omega) hwi (show (cq_p (cq_p a 9 p (a 17 i)) 10 p (a 8 p)) 10 p < 128 by simp [cq_p]; omega) hn5 (show a 23 0 + 5 ≤ 1500 by omega)) (cq_cw 5 hts zm_R_toAll zl_R_101 zs_R_toAll ze_R_toAll zz_R rfl rfl (by decide +kernel) ⟨Nat.le_of_ble_eq_true rfl, Nat.le_of_ble_eq_true rfl⟩) hK hP hD hS hA 0 rfl rfl rfl hl.1 rfl (Nat.le_of_ble_eq_true rfl) zd_R_step_160 ⟨Nat.zero_le _, Nat.zero_le _⟩ (fun u H locs hu hP hD hS => ?_)
            subst hu
            have hz : ∀ k i', k < 12 → mq_toAll (cq_p (cq_p a 9 p (a 17 i)) 10 p (a 8 p)) 3 p (a 4 p) (a 8 p) (a 17 i) k i' = (cq_p (cq_p a 9 p (a 17 i)) 10 p (a 8 p)) k i' := fun k i' h => mq_all_k _ _ _ _ _ _ _ _ _ (Or.inl h)
            have hz4 : mq_toAll (cq_p (cq_p a 9 p (a 17 i)) 10 p (a 8 p)) 3 p (a 4 p) (a 8 p) (a 17 i) 4 p = a 4 p := hz 4 p (by decide)
            have hz8 : mq_toAll (cq_p (cq_p a 9 p (a 17 i)) 10 p (a 8 p)) 3 p (a 4 p) (a 8 p) (a 17 i) 8 p = a 8 p := hz 8 p (by decide)
            have hz10 : mq_toAll (cq_p (cq_p a 9 p (a 17 i)) 10 p (a 8 p)) 3 p (a 4 p) (a 8 p) (a 17 i) 10 p = a 8 p := (hz 10 p (by decide)).trans (by simp [cq_p])
            have hz23 : mq_toAll (cq_p (cq_p a 9 p (a 17 i)) 10 p (a 8 p)) 3 p (a 4 p) (a 8 p) (a 17 i) 23 0 ≤ a 23 0 + a 20 0 := mq_all_n _ _ _ _ _ _ _
            refine lv_aload_n hx hb zd_R_step_163 rfl (lv_at hl 1 rfl) ?_
            refine lv_iconst (v := nI 4) hx hb zd_R_step_164 (by decide) ?_
            refine lv_iload_n hx hb zd_R_step_165 rfl (lv_at hl 2 rfl) ?_
            refine lv_iload_n hx hb zd_R_step_166 rfl (lv_at hl 2 rfl) ?_
            refine lv_aload_n hx hb zd_R_step_167 rfl (lv_at hl 1 rfl) ?_
            refine va_get (D := (dC, dI)) (ci := 4) (v := .ref (bd 5)) (C := zR_R) (T := zT_R) (N := 24) hx hb hts zi_R hown hK hP 0 rfl rfl 7 (by decide) (hts _ zf_R_22) (fun _ h9 => h9) rfl zd_R_step_168 ?_
            refine lv_iload_n hx hb zd_R_step_171 rfl (lv_at hl 2 rfl) ?_
            refine cn_iald (f := (mq_toAll (cq_p (cq_p a 9 p (a 17 i)) 10 p (a 8 p)) 3 p (a 4 p) (a 8 p) (a 17 i)) 4) hx hb hK hP 5 4 rfl rfl (by omega) (by decide) zd_R_step_172 ?_
            refine cn_top (show nI ((mq_toAll (cq_p (cq_p a 9 p (a 17 i)) 10 p (a 8 p)) 3 p (a 4 p) (a 8 p) (a 17 i)) 4 p) = nI (a 4 p) by rw [hz4]) ?_
            refine lv_aload_n hx hb zd_R_step_173 rfl (lv_at hl 1 rfl) ?_
            refine va_get (D := (dC, dI)) (ci := 4) (v := .ref (bd 9)) (C := zR_R) (T := zT_R) (N := 24) hx hb hts zi_R hown hK hP 0 rfl rfl 11 (by decide) (hts _ zf_R_34) (fun _ h9 => h9) rfl zd_R_step_174 ?_
            refine lv_iload_n hx hb zd_R_step_177 rfl (lv_at hl 2 rfl) ?_
            refine cn_iald (f := (mq_toAll (cq_p (cq_p a 9 p (a 17 i)) 10 p (a 8 p)) 3 p (a 4 p) (a 8 p) (a 17 i)) 8) hx hb hK hP 9 8 rfl rfl (by omega) (by decide) zd_R_step_178 ?_
            refine cn_top (show nI ((mq_toAll (cq_p (cq_p a 9 p (a 17 i)) 10 p (a 8 p)) 3 p (a 4 p) (a 8 p) (a 17 i)) 8 p) = nI (a 8 p) by rw [hz8]) ?_
            refine lv_iconst (v := nI 1) hx hb zd_R_step_179 (by decide) ?_
            refine cq_callV (C := zR_R) (As := [.int (nI 4), .int (nI p), .int (nI p), .int (nI (a 4 p)), .int (nI (a 8 p)), .int (nI 1)]) (rest := []) ⟨hx, hb, hml, hown, hts⟩ (cM_put l dC dI bd cs ((mq_toAll (cq_p (cq_p a 9 p (a 17 i)) 10 p (a 8 p)) 3 p (a 4 p) (a 8 p) (a 17 i))) (mq_all_B (a := (cq_p (cq_p a 9 p (a 17 i)) 10 p (a 8 p))) ((hB.put (by omega)).put (by omega)) (by decide) (by omega) (by omega) (by omega) (by omega) (show a 23 0 ≤ 1000000 by omega) _ (show a 20 0 ≤ 1000000 by omega)) 4 p p (a 4 p) (a 8 p) 1 (by decide) hp (by omega) (by omega) (by omega) (by decide) (by rw [hz10]; omega) (by omega)) (cq_cw 6 hts zm_R_put zl_R_80 zs_R_put ze_R_put zz_R rfl rfl (by decide +kernel) ⟨Nat.le_of_ble_eq_true rfl, Nat.le_of_ble_eq_true rfl⟩) hK hP hD hS hA 0 rfl rfl rfl hl.1 rfl (Nat.le_of_ble_eq_true rfl) zd_R_step_180 ⟨Nat.zero_le _, Nat.zero_le _⟩ (fun u H locs hu hP hD hS => ?_)
            subst hu
            refine lv_aload_n hx hb zd_R_step_183 rfl (lv_at hl 1 rfl) ?_
            refine va_get (D := (dC, dI)) (ci := 4) (v := .ref (bd 8)) (C := zR_R) (T := zT_R) (N := 24) hx hb hts zi_R hown hK hP 0 rfl rfl 10 (by decide) (hts _ zf_R_31) (fun _ h9 => h9) rfl zd_R_step_184 ?_
            refine lv_iload_n hx hb zd_R_step_187 rfl (lv_at hl 2 rfl) ?_
            refine lv_iconst (v := nI 3) hx hb zd_R_step_188 (by decide) ?_
            refine cn_iast (f := (mq_put (mq_toAll (cq_p (cq_p a 9 p (a 17 i)) 10 p (a 8 p)) 3 p (a 4 p) (a 8 p) (a 17 i)) 4 p p (a 4 p) (a 8 p) 1) 7) hx hb hK hP hD hS 8 7 rfl rfl (by omega) (by decide) zd_R_step_189 (fun H locs hP hD hS => ?_)
            have hP : va_P (dC, dI) cq_cl (wM bd cs (cq_p (mq_put (mq_toAll (cq_p (cq_p a 9 p (a 17 i)) 10 p (a 8 p)) 3 p (a 4 p) (a 8 p) (a 17 i)) 4 p p (a 4 p) (a 8 p) 1) 7 p 3)) H := hP
            have hD : va_D A (wM bd cs (cq_p (mq_put (mq_toAll (cq_p (cq_p a 9 p (a 17 i)) 10 p (a 8 p)) 3 p (a 4 p) (a 8 p) (a 17 i)) 4 p p (a 4 p) (a 8 p) 1) 7 p 3)) := hD
            refine lv_iconst (v := nI 1) hx hb zd_R_step_190 (by decide) ?_
            have hst : mq_step a p = ((cq_p (mq_put (mq_toAll (cq_p (cq_p a 9 p (a 17 i)) 10 p (a 8 p)) 3 p (a 4 p) (a 8 p) (a 17 i)) 4 p p (a 4 p) (a 8 p) 1) 7 p 3), 1) := by unfold mq_step; rw [if_neg (by omega), if_neg (by omega), if_pos (by omega), hbi]; rfl
            exact cq_ret (u := (cq_p (mq_put (mq_toAll (cq_p (cq_p a 9 p (a 17 i)) 10 p (a 8 p)) 3 p (a 4 p) (a 8 p) (a 17 i)) 4 p p (a 4 p) (a 8 p) 1) 7 p 3)) hx hb hrt ⟨_, rfl, rfl⟩ hlocks hK hP hD hS (by rw [hst]; exact ⟨rfl, rfl⟩) zd_R_step_191
      · refine lv_iload_n hx hb zd_R_step_62 rfl (lv_at hl 0 rfl) ?_
        refine cn_if_eq (tgt := 88) hx hb zd_R_step_63 (by decide) (cq_an_lt (hB _ _ (by decide))) (fun c25 => ?_) (fun c25 => ?_)
        · refine lv_aload_n hx hb zd_R_step_88 rfl (lv_at hl 1 rfl) ?_
          refine va_get (D := (dC, dI)) (ci := 4) (v := .ref (bd 8)) (C := zR_R) (T := zT_R) (N := 24) hx hb hts zi_R hown hK hP 0 rfl rfl 10 (by decide) (hts _ zf_R_31) (fun _ h9 => h9) rfl zd_R_step_89 ?_
          refine lv_iload_n hx hb zd_R_step_92 rfl (lv_at hl 2 rfl) ?_
          refine cn_iald (f := a 7) hx hb hK hP 8 7 rfl rfl (by omega) (by decide) zd_R_step_93 ?_
          refine lv_iconst (v := nI 1) hx hb zd_R_step_94 (by decide) ?_
          refine cn_icmp_ne (tgt := 192) hx hb zd_R_step_95 (by decide) (hB _ _ (by decide)) (by omega) (fun c26 => ?_) (fun c26 => ?_)
          · refine lv_aload_n hx hb zd_R_step_192 rfl (lv_at hl 1 rfl) ?_
            refine va_get (D := (dC, dI)) (ci := 4) (v := .ref (bd 8)) (C := zR_R) (T := zT_R) (N := 24) hx hb hts zi_R hown hK hP 0 rfl rfl 10 (by decide) (hts _ zf_R_31) (fun _ h9 => h9) rfl zd_R_step_193 ?_
            refine lv_iload_n hx hb zd_R_step_196 rfl (lv_at hl 2 rfl) ?_
            refine cn_iald (f := a 7) hx hb hK hP 8 7 rfl rfl (by omega) (by decide) zd_R_step_197 ?_
            refine lv_iconst (v := nI 2) hx hb zd_R_step_198 (by decide) ?_
            refine cn_icmp_ne (tgt := 208) hx hb zd_R_step_199 (by decide) (hB _ _ (by decide)) (by omega) (fun c27 => ?_) (fun c27 => ?_)
            · refine lv_aload_n hx hb zd_R_step_208 rfl (lv_at hl 1 rfl) ?_
              refine va_get (D := (dC, dI)) (ci := 4) (v := .ref (bd 8)) (C := zR_R) (T := zT_R) (N := 24) hx hb hts zi_R hown hK hP 0 rfl rfl 10 (by decide) (hts _ zf_R_31) (fun _ h9 => h9) rfl zd_R_step_209 ?_
              refine lv_iload_n hx hb zd_R_step_212 rfl (lv_at hl 2 rfl) ?_
              refine cn_iald (f := a 7) hx hb hK hP 8 7 rfl rfl (by omega) (by decide) zd_R_step_213 ?_
              refine lv_iconst (v := nI 3) hx hb zd_R_step_214 (by decide) ?_
              refine cn_icmp_ne (tgt := 274) hx hb zd_R_step_215 (by decide) (hB _ _ (by decide)) (by omega) (fun c28 => ?_) (fun c28 => ?_)
              · refine lv_iconst (v := nI 0) hx hb zd_R_step_274 (by decide) ?_
                have hst : mq_step a p = (a, 0) := by unfold mq_step; rw [if_neg (by omega), if_neg (by omega), if_neg (by omega), if_neg (by omega), if_neg (by omega)]
                exact cq_ret (u := a) hx hb hrt ⟨_, rfl, rfl⟩ hlocks hK hP hD hS (by rw [hst]; exact ⟨rfl, rfl⟩) zd_R_step_275
              · exact absurd c28 (by omega)
            · exact absurd c27 (by omega)
          · exact absurd c26 (by omega)
        · refine lv_aload_n hx hb zd_R_step_66 rfl (lv_at hl 1 rfl) ?_
          refine va_get (D := (dC, dI)) (ci := 4) (v := .ref (bd 10)) (C := zR_R) (T := zT_R) (N := 24) hx hb hts zi_R hown hK hP 0 rfl rfl 12 (by decide) (hts _ zf_R_37) (fun _ h9 => h9) rfl zd_R_step_67 ?_
          refine lv_iload_n hx hb zd_R_step_70 rfl (lv_at hl 2 rfl) ?_
          refine lv_iload_n hx hb zd_R_step_71 rfl (lv_at hl 0 rfl) ?_
          refine cn_iast (f := a 9) hx hb hK hP hD hS 10 9 rfl rfl (by omega) (by decide) zd_R_step_72 (fun H locs hP hD hS => ?_)
          have hP : va_P (dC, dI) cq_cl (wM bd cs (cq_p a 9 p (cq_an (a 0 p) (a 1 p)))) H := hP
          have hD : va_D A (wM bd cs (cq_p a 9 p (cq_an (a 0 p) (a 1 p)))) := hD
          refine lv_aload_n hx hb zd_R_step_73 rfl (lv_at hl 1 rfl) ?_
          refine va_get (D := (dC, dI)) (ci := 4) (v := .ref (bd 11)) (C := zR_R) (T := zT_R) (N := 24) hx hb hts zi_R hown hK hP 0 rfl rfl 13 (by decide) (hts _ zf_R_40) (fun _ h9 => h9) rfl zd_R_step_74 ?_
          refine lv_iload_n hx hb zd_R_step_77 rfl (lv_at hl 2 rfl) ?_
          refine lv_iconst (v := nI 0) hx hb zd_R_step_78 (by decide) ?_
          refine cn_iast (f := a 10) hx hb hK hP hD hS 11 10 rfl rfl (by omega) (by decide) zd_R_step_79 (fun H locs hP hD hS => ?_)
          have hP : va_P (dC, dI) cq_cl (wM bd cs (cq_p (cq_p a 9 p (cq_an (a 0 p) (a 1 p))) 10 p 0)) H := hP
          have hD : va_D A (wM bd cs (cq_p (cq_p a 9 p (cq_an (a 0 p) (a 1 p))) 10 p 0)) := hD
          refine lv_aload_n hx hb zd_R_step_80 rfl (lv_at hl 1 rfl) ?_
          refine lv_iload_n hx hb zd_R_step_81 rfl (lv_at hl 2 rfl) ?_
          refine lv_iconst (v := nI 1) hx hb zd_R_step_82 (by decide) ?_
          refine cq_callV (C := zR_R) (As := [.int (nI p), .int (nI 1)]) (rest := []) ⟨hx, hb, hml, hown, hts⟩ (cM_enter l dC dI bd cs ((cq_p (cq_p a 9 p (cq_an (a 0 p) (a 1 p))) 10 p 0)) ((hB.put (by omega)).put (by decide)) p 1 hp (by decide) (by decide) hn hn5 (show a 4 p < 128 by omega) (show cq_p (cq_p a 9 p (cq_an (a 0 p) (a 1 p))) 10 p 0 9 p < 32768 by simp [cq_p]; omega) (show cq_p (cq_p a 9 p (cq_an (a 0 p) (a 1 p))) 10 p 0 10 p < 128 by simp [cq_p]) (show a 23 0 < 1500 by omega)) (cq_cw 2 hts zm_R_enter zl_R_105 zs_R_enter ze_R_enter zz_R rfl rfl (by decide +kernel) ⟨Nat.le_of_ble_eq_true rfl, Nat.le_of_ble_eq_true rfl⟩) hK hP hD hS hA 0 rfl rfl rfl hl.1 rfl (Nat.le_of_ble_eq_true rfl) zd_R_step_83 ⟨Nat.zero_le _, Nat.zero_le _⟩ (fun u H locs hu hP hD hS => ?_)
          subst hu
          refine lv_iconst (v := nI 1) hx hb zd_R_step_86 (by decide) ?_
          have hst : mq_step a p = ((mq_enter (cq_p (cq_p a 9 p (cq_an (a 0 p) (a 1 p))) 10 p 0) p 1), 1) := by unfold mq_step; rw [if_neg (by omega), if_pos (by omega)]
          exact cq_ret (u := (mq_enter (cq_p (cq_p a 9 p (cq_an (a 0 p) (a 1 p))) 10 p 0) p 1)) hx hb hrt ⟨_, rfl, rfl⟩ hlocks hK hP hD hS (by rw [hst]; exact ⟨rfl, rfl⟩) zd_R_step_87
    · have c1x : a 4 p < 8 := by omega
      have c2f := c15
      refine lv_aload_n hx hb zd_R_step_30 rfl (lv_at hl 0 rfl) ?_
      refine lv_iload_n hx hb zd_R_step_31 rfl (lv_at hl 1 rfl) ?_
      refine cq_callV (C := zR_R) (As := [.int (nI p)]) (rest := []) ⟨hx, hb, hml, hown, hts⟩ (cM_finish l dC dI bd cs a hB p hp c1x h1 h2 (hfin c1x c2f)) (cq_cw 1 hts zm_R_finish zl_R_109 zs_R_finish ze_R_finish zz_R rfl rfl (by decide +kernel) ⟨Nat.le_of_ble_eq_true rfl, Nat.le_of_ble_eq_true rfl⟩) hK hP hD hS hA 0 rfl rfl rfl hl.1 rfl (Nat.le_of_ble_eq_true rfl) zd_R_step_32 ⟨Nat.zero_le _, Nat.zero_le _⟩ (fun u H locs hu hP hD hS => ?_)
      subst hu
      refine lv_iconst (v := nI 1) hx hb zd_R_step_35 (by decide) ?_
      have hst : mq_step a p = ((mq_finish a p), 1) := by unfold mq_step; rw [if_pos ⟨c1x, c2f⟩]
      exact cq_ret (u := (mq_finish a p)) hx hb hrt ⟨_, rfl, rfl⟩ hlocks hK hP hD hS (by rw [hst]; exact ⟨rfl, rfl⟩) zd_R_step_36

set_option maxHeartbeats 4000000 in
set_option maxRecDepth 100000 in
theorem cM_goOn (l : Launch) (dC : Nat → ClassId) (dI : Nat → Nat → Nat) (bd : Nat → Nat) (cs : Nat → ClassId) (a : cq_S) (p : Nat) (hok : ∀ d, mq_sok (mq_go p d a) p) : cq_CV l zy_R_goOn zw_R_goOn ({ frames := 5, cells := 0, slots := 0, locals := 116 }) (dC, dI) cq_cl (wM bd cs) (tysM cs) a [.ref (bd 0), .int (nI p)] (fun u => u = mq_go p 1000 a) := by
  refine cq_CV.of (cc := zc_R_goOn) (maxL := 4) (ret := none) (by decide) rfl (Nat.le_of_ble_eq_true rfl) ?_
  intro pr ev s mt args below meth cd A ls hx hb hrt hts hown hlocks hml hP hK hD hA hS hl
  have hown : s.vm.findClass zR_R = some mt.cls := hown
  have hl : lv_has ls 4 [(0, .ref (bd 0)), (1, .int (nI p))] := hl
  refine lv_iconst (v := nI 1) hx hb zd_R_goOn_0 (by decide) ?_
  refine lv_istore_n hx hb zd_R_goOn_1 rfl hl (by decide) rfl (fun ls hl => ?_)
  have hl : lv_has ls 4 [(2, .int (nI 1)), (0, .ref (bd 0)), (1, .int (nI p))] := hl
  refine lv_iconst (v := nI 0) hx hb zd_R_goOn_2 (by decide) ?_
  refine lv_istore_n hx hb zd_R_goOn_3 rfl hl (by decide) rfl (fun ls hl => ?_)
  have hl : lv_has ls 4 [(3, .int (nI 0)), (2, .int (nI 1)), (0, .ref (bd 0)), (1, .int (nI p))] := hl
  have LOOP : ∀ (d : Nat) (i y : Nat) (b : cq_S) (H : Heap) (locs : List Loc) (ls : Array Slot), i + d = 1000 → b = mq_go p i a → y < 2 → (y = 0 → mq_go p 1000 a = b) →  va_P (dC, dI) cq_cl (wM bd cs b) H → va_D A (wM bd cs b) → va_S A s.heap H locs → lv_has ls 4 [(3, .int (nI i)), (2, .int (nI y)), (0, .ref (bd 0)), (1, .int (nI p))] → W pr l ev ({ frames := 5, cells := 0, slots := 0, locals := 116 }) s mt args below meth cd H locs 0 0 (MQ below (va_Qv (fun u => u = mq_go p 1000 a) (cq_at (dC, dI) cq_cl (wM bd cs) (tysM cs) A) A) args s 0 0 A) (F0 mt 4 ls []) := by
    intro d
    induction d with
    | zero =>
      intro i y b H locs ls hm0 hbe hy2 hy hP hD hS hl
      refine lv_iload_n hx hb zd_R_goOn_4 rfl (lv_at hl 0 rfl) ?_
      refine lv_sipush (v := nI 1000) hx hb zd_R_goOn_5 (by decide) ?_
      refine cn_icmp_ge (tgt := 27) hx hb zd_R_goOn_8 (by decide) (by omega) (by omega) (fun c1 => ?_) (fun c1 => ?_)
      · refine cq_vret (u := b) hx hb hrt hlocks hK hP hD hS ?_ zd_R_goOn_27
        first | exact (hy (by assumption)).symm | exact hbe.trans (by rw [show i = 1000 by omega])
      · exact absurd hm0 (by omega)
    | succ d ih =>
      intro i y b H locs ls hm0 hbe hy2 hy hP hD hS hl
      refine lv_iload_n hx hb zd_R_goOn_4 rfl (lv_at hl 0 rfl) ?_
      refine lv_sipush (v := nI 1000) hx hb zd_R_goOn_5 (by decide) ?_
      refine cn_icmp_ge (tgt := 27) hx hb zd_R_goOn_8 (by decide) (by omega) (by omega) (fun c1 => ?_) (fun c1 => ?_)
      · exact absurd hm0 (by omega)
      · refine lv_iload_n hx hb zd_R_goOn_11 rfl (lv_at hl 1 rfl) ?_
        refine cn_if_eq (tgt := 27) hx hb zd_R_goOn_12 (by decide) (by omega) (fun c2 => ?_) (fun c2 => ?_)
        · refine cq_vret (u := b) hx hb hrt hlocks hK hP hD hS ?_ zd_R_goOn_27
          first | exact (hy (by assumption)).symm | exact hbe.trans (by rw [show i = 1000 by omega])
        · refine lv_aload_n hx hb zd_R_goOn_15 rfl (lv_at hl 2 rfl) ?_
          refine lv_iload_n hx hb zd_R_goOn_16 rfl (lv_at hl 3 rfl) ?_
          refine cq_callI (C := zR_R) (As := [.int (nI p)]) (rest := []) ⟨hx, hb, hml, hown, hts⟩ (cM_step l dC dI bd cs b p (by rw [hbe]; exact hok i)) (cq_cw 1 hts zm_R_step zl_R_140 zs_R_step ze_R_step zz_R rfl rfl (by decide +kernel) ⟨Nat.le_of_ble_eq_true rfl, Nat.le_of_ble_eq_true rfl⟩) hK hP hD hS hA 0 rfl rfl rfl hl.1 rfl (Nat.le_of_ble_eq_true rfl) zd_R_goOn_17 ⟨Nat.zero_le _, Nat.zero_le _⟩ (fun r0 u H locs hu hP hD hS => ?_)
          obtain ⟨hr0, hue⟩ := hu
          subst hr0
          rw [hue] at hP hD
          clear hue
          refine lv_istore_n hx hb zd_R_goOn_20 rfl hl (by decide) rfl (fun ls hl => ?_)
          have hl : lv_has ls 4 [(2, .int (nI ((mq_step b p).2))), (3, .int (nI i)), (0, .ref (bd 0)), (1, .int (nI p))] := hl
          refine lv_iinc (k := 1) (v := nI (i + 1)) hx hb zd_R_goOn_21 hl rfl (cn_inc _) (by decide) rfl (fun ls hl => ?_)
          have hl : lv_has ls 4 [(3, .int (nI (i + 1))), (2, .int (nI ((mq_step b p).2))), (0, .ref (bd 0)), (1, .int (nI p))] := hl
          refine lv_goto (tgt := 4) hx hb zd_R_goOn_24 (by decide) ?_
          exact ih (i + 1) _ _ H locs ls (by omega) (by rw [mq_go, ← hbe]) (mq_step_2 b p) (fun h0 => by rw [mq_go_fix p a i (by rw [← hbe]; exact h0) 1000 (by omega), ← hbe]; exact (mq_step_0 b p h0).symm) hP hD hS (lv_sub hl [0, 1, 2, 3] rfl)
  exact LOOP 1000 0 1 a _ _ ls (by omega) rfl (by decide) (fun h => absurd h (by decide)) hP hD hS (lv_sub hl [0, 1, 2, 3] rfl)

