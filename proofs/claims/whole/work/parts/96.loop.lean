/-! The law's loop, and its start. -/
theorem cq_gt {i L : Nat} (hL : L < 2000000000) (hi : i < 2000000100) (h : L < i + 4) : Int32.ofNat L - 4 < nI i := by
  apply Int32.lt_iff_toInt_lt.mpr
  have e1 : (Int32.ofNat L).toInt = (L : Int) := nI_toInt (n := L) (by omega)
  have e2 : (4 : Int32).toInt = 4 := by decide
  rw [nI_toInt (by omega), Int32.toInt_sub, e1, e2, Int.bmod_def]
  omega
set_option maxHeartbeats 4000000 in
set_option maxRecDepth 100000 in
theorem cq_law_loop {p : Program} {l : Launch} {e : Env} {s : State} {m : MethodId} {below : List Frame} {meth : Method} {c : Code} {b L : Nat} {xs : Nat → Int32} {dC : Nat → ClassId} {dI : Nat → Nat → Nat} {n : Nat} {ad : Nat → Nat} {cI cA : ClassId} {bd : Nat → Nat} {cs : Nat → ClassId} (X : cq_cx p s m meth c b L xs dC dI cI cA cs) (hr : meth.sig.returnType = ret) (hlocks : meth.locks = false) :
    ∀ (d i : Nat) (g a : cq_S) (H : Heap) (locs : List Loc) (ls : Array Slot), L ≤ i + d → 1 ≤ i → i ≤ L + 4 → cq_LS s dC dI n ad cI cA bd cs g a H locs → lv_has ls 4 [(3, .int (nI i)), (2, .ref (bd 0)), (1, .ref (ad 0)), (0, .ref b)] → W p l e room_1 s m #[Value.ref b] below meth c H locs 45 14552 (lw_Z below #[Value.ref b] s) (F0 m 28 ls []) := by
  obtain ⟨hx, hb, hml, hown, hts, hX, hbl, hKC, hKR, hL⟩ := X
  have X : cq_cx p s m meth c b L xs dC dI cI cA cs := ⟨hx, hb, hml, hown, hts, hX, hbl, hKC, hKR, hL⟩
  have hbA : ¬ s.heap.size ≤ b := Nat.not_le.mpr hbl
  intro d
  induction d with
  | zero =>
    intro i g a H locs ls h1 h2 h3 B hl
    have hS := B.2.2
    refine lv_iload_n hx hb zd_W_law_28 rfl (lv_at hl 0 rfl) ?_
    refine lv_aload_n hx hb zd_W_law_29 rfl (lv_at hl 3 rfl) ?_
    refine va_slen hx hb hX hbl hbA hS zd_W_law_30 ?_
    refine lv_iconst (v := 4) hx hb zd_W_law_31 (by decide) ?_
    refine lv_isub hx hb zd_W_law_32 ?_
    refine lv_icmp_gt (tgt := 654) hx hb zd_W_law_33 (by decide) (fun q => ?_) (fun q => absurd (cq_gt hL (by omega) (by omega)) q)
    refine lv_iconst (v := 1) hx hb zd_W_law_654 (by decide) ?_
    refine va_forget (fun q hq => hS.2.2 q hq) ?_
    refine W.widen (k := 600000) (n := 7302250) (Nat.le_of_ble_eq_true rfl) (Nat.le_of_ble_eq_true rfl) ?_
    exact lw_ret hx hb hr hlocks zd_W_law_655
  | succ d ih =>
    intro i g a H locs ls h1 h2 h3 B hl
    have hS := B.2.2
    refine lv_iload_n hx hb zd_W_law_28 rfl (lv_at hl 0 rfl) ?_
    refine lv_aload_n hx hb zd_W_law_29 rfl (lv_at hl 3 rfl) ?_
    refine va_slen hx hb hX hbl hbA hS zd_W_law_30 ?_
    refine lv_iconst (v := 4) hx hb zd_W_law_31 (by decide) ?_
    refine lv_isub hx hb zd_W_law_32 ?_
    refine lv_icmp_gt (tgt := 654) hx hb zd_W_law_33 (by decide) (fun q => ?_) (fun q => ?_)
    · refine lv_iconst (v := 1) hx hb zd_W_law_654 (by decide) ?_
      refine va_forget (fun q hq => hS.2.2 q hq) ?_
      refine W.widen (k := 600000) (n := 7302250) (Nat.le_of_ble_eq_true rfl) (Nat.le_of_ble_eq_true rfl) ?_
      exact lw_ret hx hb hr hlocks zd_W_law_655
    · have hi : i + 4 ≤ L := Nat.not_lt.mp (fun h => q (cq_gt hL (by omega) h))
      have kk : ∀ (g a : cq_S) (H : Heap) (locs : List Loc), cq_LS s dC dI n ad cI cA bd cs g a H locs → W p l e room_1 s m #[Value.ref b] below meth c H locs 45 14552 (lw_Z below #[Value.ref b] s) (F0 m 648 ls []) := by
        intro g a H locs B
        refine lv_iinc (k := 0) (v := nI (i + 4)) hx hb zd_W_law_648 hl rfl (cn_inc4 _) (by decide) rfl (fun ls hl => ?_)
        refine lv_goto (tgt := 28) hx hb zd_W_law_651 (by decide) ?_
        exact ih (i + 4) g a H locs ls (by omega) (by omega) (by omega) B hl
      refine lv_aload_n hx hb zd_W_law_36 rfl (lv_at hl 3 rfl) ?_
      refine lv_iload_n hx hb zd_W_law_37 rfl (lv_at hl 0 rfl) ?_
      refine va_sld hx hb hX hbl hbA hS (vp_in_nI (show i < L by omega) (by omega)) zd_W_law_38 ?_
      refine lv_bipush (v := 31) hx hb zd_W_law_39 (by decide) ?_
      refine lv_iand hx hb zd_W_law_41 ?_
      obtain ⟨k, hk, ek⟩ := cq_and31 (xs (nI i).toNatClampNeg)
      rw [ek]
      by_cases h18 : k < 18
      · rcases (show k = 0 ∨ k = 1 ∨ k = 2 ∨ k = 3 ∨ k = 4 ∨ k = 5 ∨ k = 6 ∨ k = 7 ∨ k = 8 ∨ k = 9 ∨ k = 10 ∨ k = 11 ∨ k = 12 ∨ k = 13 ∨ k = 14 ∨ k = 15 ∨ k = 16 ∨ k = 17 by omega) with rfl | rfl | rfl | rfl | rfl | rfl | rfl | rfl | rfl | rfl | rfl | rfl | rfl | rfl | rfl | rfl | rfl | rfl
        · exact lv_tableIn (off := 86) (tgt := 128) hx hb zd_W_law_42 (by decide) (by decide) (by decide) (by decide) (cq_case_0 X hi B hl kk)
        · exact lv_tableIn (off := 109) (tgt := 151) hx hb zd_W_law_42 (by decide) (by decide) (by decide) (by decide) (cq_case_1 X hi B hl kk)
        · exact lv_tableIn (off := 152) (tgt := 194) hx hb zd_W_law_42 (by decide) (by decide) (by decide) (by decide) (cq_case_2 X hi B hl kk)
        · exact lv_tableIn (off := 211) (tgt := 253) hx hb zd_W_law_42 (by decide) (by decide) (by decide) (by decide) (cq_case_3 X hi B hl kk)
        · exact lv_tableIn (off := 244) (tgt := 286) hx hb zd_W_law_42 (by decide) (by decide) (by decide) (by decide) (cq_case_4 X hi B hl kk)
        · exact lv_tableIn (off := 277) (tgt := 319) hx hb zd_W_law_42 (by decide) (by decide) (by decide) (by decide) (cq_case_5 X hi B hl kk)
        · exact lv_tableIn (off := 320) (tgt := 362) hx hb zd_W_law_42 (by decide) (by decide) (by decide) (by decide) (cq_case_6 X hi B hl kk)
        · exact lv_tableIn (off := 353) (tgt := 395) hx hb zd_W_law_42 (by decide) (by decide) (by decide) (by decide) (cq_case_7 X hi B hl kk)
        · exact lv_tableIn (off := 376) (tgt := 418) hx hb zd_W_law_42 (by decide) (by decide) (by decide) (by decide) (cq_case_8 X hi B hl kk)
        · exact lv_tableIn (off := 399) (tgt := 441) hx hb zd_W_law_42 (by decide) (by decide) (by decide) (by decide) (cq_case_9 X hi B hl kk)
        · exact lv_tableIn (off := 422) (tgt := 464) hx hb zd_W_law_42 (by decide) (by decide) (by decide) (by decide) (cq_case_10 X hi B hl kk)
        · exact lv_tableIn (off := 445) (tgt := 487) hx hb zd_W_law_42 (by decide) (by decide) (by decide) (by decide) (cq_case_11 X hi B hl kk)
        · exact lv_tableIn (off := 468) (tgt := 510) hx hb zd_W_law_42 (by decide) (by decide) (by decide) (by decide) (cq_case_12 X hi B hl kk)
        · exact lv_tableIn (off := 491) (tgt := 533) hx hb zd_W_law_42 (by decide) (by decide) (by decide) (by decide) (cq_case_13 X hi B hl kk)
        · exact lv_tableIn (off := 514) (tgt := 556) hx hb zd_W_law_42 (by decide) (by decide) (by decide) (by decide) (cq_case_14 X hi B hl kk)
        · exact lv_tableIn (off := 547) (tgt := 589) hx hb zd_W_law_42 (by decide) (by decide) (by decide) (by decide) (cq_case_15 X hi B hl kk)
        · exact lv_tableIn (off := 580) (tgt := 622) hx hb zd_W_law_42 (by decide) (by decide) (by decide) (by decide) (cq_case_16 X hi B hl kk)
        · exact lv_tableIn (off := 593) (tgt := 635) hx hb zd_W_law_42 (by decide) (by decide) (by decide) (by decide) (cq_case_17 X hi B hl kk)
      · exact lv_tableOut (tgt := 648) hx hb zd_W_law_42 (Or.inr (by rw [nI_toInt (by omega)]; omega)) (by decide) (kk g a H locs B)
