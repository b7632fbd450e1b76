/-! The law's start. -/
theorem cC_init (l : Launch) (dC : Nat → ClassId) (dI : Nat → Nat → Nat) (x : Int32) (n : Nat) (h3 : 3 ≤ n) (h5 : n ≤ 5) (hcl : cq_clamp x = nI n) (h0 : Nat) (sz : Nat) : Met l zy_C_init zw_C_init ({ frames := 2, cells := 23, slots := 2392, locals := 60 }) (va_Pc [.ref h0, .int x] (fun U => U.heap.size = sz ∧ va_P (dC, dI) cq_cl [(h0, .inr (0, cq_C0))] U.heap ∧ va_K (dC, dI) cq_cl [] U ∧ va_D (fun _ => True) [(h0, .inr (0, cq_C0))] ∧ va_AO zR_M U ∧ va_Nw (.methodLinkNest zR_C 28 zy_M_init zR_C) U)) (va_Qv (fun _ : Unit => True) (cq_atC n dC dI (va_A [(h0, .inr (0, cq_C0))] sz) h0) (va_A [(h0, .inr (0, cq_C0))] sz)) 23 2392 (va_A [(h0, .inr (0, cq_C0))] sz) := by
  rcases (show n = 3 ∨ n = 4 ∨ n = 5 by omega) with rfl | rfl | rfl
  · exact cC_init_3 l dC dI x hcl h0 sz
  · exact cC_init_4 l dC dI x hcl h0 sz
  · exact cC_init_5 l dC dI x hcl h0 sz
theorem cq_fsC : ∀ j, j < 6 → defaultValue (zt_C j) = vp_V cq_C0 j := by
  intro j hj
  match j, hj with
  | 0, _ => rfl
  | 1, _ => rfl
  | 2, _ => rfl
  | 3, _ => rfl
  | 4, _ => rfl
  | 5, _ => rfl
  | j + 6, h => exact absurd h (by omega)
theorem cq_fsR : ∀ j, j < 24 → defaultValue (zt_R j) = vp_V cq_R0 j := by
  intro j hj
  match j, hj with
  | 0, _ => rfl
  | 1, _ => rfl
  | 2, _ => rfl
  | 3, _ => rfl
  | 4, _ => rfl
  | 5, _ => rfl
  | 6, _ => rfl
  | 7, _ => rfl
  | 8, _ => rfl
  | 9, _ => rfl
  | 10, _ => rfl
  | 11, _ => rfl
  | 12, _ => rfl
  | 13, _ => rfl
  | 14, _ => rfl
  | 15, _ => rfl
  | 16, _ => rfl
  | 17, _ => rfl
  | 18, _ => rfl
  | 19, _ => rfl
  | 20, _ => rfl
  | 21, _ => rfl
  | 22, _ => rfl
  | 23, _ => rfl
  | j + 24, h => exact absurd h (by omega)
theorem cq_known {s : State} {b : Nat} (hts : ∀ w ∈ cq_ws, w.before #[Value.ref b] s = true) : ∃ (dC : Nat → ClassId) (dI : Nat → Nat → Nat), va_K (dC, dI) cq_cl [] s := by
  obtain ⟨k0, i0, h0⟩ := u_known hts zi_C (hts _ zx_nC)
  obtain ⟨k1, i1, h1⟩ := u_known hts zi_M (hts _ zx_nM)
  obtain ⟨k2, i2, h2⟩ := u_known hts zi_P (hts _ zx_nP)
  obtain ⟨k3, i3, h3⟩ := u_known hts zi_Q (hts _ zx_nQ)
  obtain ⟨k4, i4, h4⟩ := u_known hts zi_R (hts _ zx_nR)
  refine ⟨fun k => [k0, k1, k2, k3, k4].getD k k0, fun k => [i0, i1, i2, i3, i4].getD k i0, fun c q hq => ?_, fun k q h => by cases h⟩
  have hc : c < 5 := (List.getElem?_eq_some_iff.mp hq).1
  rcases (show c = 0 ∨ c = 1 ∨ c = 2 ∨ c = 3 ∨ c = 4 by omega) with rfl | rfl | rfl | rfl | rfl
  · cases hq; exact h0
  · cases hq; exact h1
  · cases hq; exact h2
  · cases hq; exact h3
  · cases hq; exact h4
set_option maxHeartbeats 4000000 in
set_option maxRecDepth 100000 in
theorem whole_start {p : Program} {e : Env} {s : State} {m : MethodId} {below : List Frame} {meth : Method} {c : Code} (l : Launch) {b L : Nat} {xs : Nat → Int32} (hL : L ≤ 2049) (C0 : lw_At p s m meth c b L xs) : W p l e room_1 s m #[Value.ref b] below meth c s.heap [] 0 0 (lw_Z below #[Value.ref b] s) (entryFrame m ([Value.ref b] : List Value).toArray 4) := by
  obtain ⟨hx, hb, hr, hml, hown, htb, hX, hbl, hlocks, -⟩ := C0
  have hown : s.vm.findClass zR_W = some m.cls := hown
  have hL2 : L < 2000000000 := by omega
  have hts : ∀ w ∈ cq_ws, w.before #[Value.ref b] s = true := fun w h => htb w (cq_wsT w h)
  have hAO : va_AO zR_M s := va_AO.of (htb (.arrayOver (.object zR_M)) (List.mem_append_right _ (List.mem_of_getElem? (i := 25) (by decide +kernel))))
  have hNw : va_Nw (.methodLinkNest zR_C 28 zy_M_init zR_C) s := va_Nw.of rfl (htb (.methodLinkNest zR_C 28 zy_M_init zR_C) (List.mem_append_right _ (List.mem_of_getElem? (i := 27) (by decide +kernel))))
  obtain ⟨dC, dI, hK⟩ := cq_known hts
  have hbA : ¬ s.heap.size ≤ b := Nat.not_le.mpr hbl
  have hA : ∀ q : Nat, s.heap.size ≤ q → s.heap.size ≤ q := fun _ h => h
  have hP : va_P (dC, dI) cq_cl [] s.heap := fun k q h => by cases h
  have hD : va_D (fun q => s.heap.size ≤ q) [] := ⟨(fun i j p q h => by cases h), (fun k q h => by cases h)⟩
  have hS : va_S (fun q => s.heap.size ≤ q) s.heap s.heap [] := va_S.rf
  have hl := lv_entry ([.ref b]) (n := 4) (Nat.le_of_ble_eq_true rfl)
  rw [lg_entry_eq]
  generalize (lg_sl ([.ref b]) ++ List.replicate (4 - (lg_sl ([.ref b])).length) Slot.unset).toArray = ls at hl ⊢
  have hl : lv_has ls 4 [(0, .ref b)] := hl
  obtain ⟨n, h3, h5, hcl⟩ := cq_clamp_n (cq_x0 L xs)
  refine va_new (ci := 0) (fs := cq_C0) (C := zR_C) (T := zT_C) (N := 6) hx hb hts zi_C zt_C zo_C hown (hts _ zx_cC) (hts _ zx_nC) (hts _ zz_C) hK hP hD hS hA rfl cq_fsC (Nat.le_of_ble_eq_true rfl) (Nat.le_of_ble_eq_true rfl) zd_W_law_0 (fun hC H hP hD hS => ?_)
  have hP : va_P (dC, dI) cq_cl [(hC, .inr (0, cq_C0))] H := hP
  have hD : va_D (fun q => s.heap.size ≤ q) [(hC, .inr (0, cq_C0))] := hD
  refine W.widen (k := 1) (n := 6) (Nat.le_of_ble_eq_true rfl) (Nat.le_of_ble_eq_true rfl) ?_
  refine lv_dup hx hb zd_W_law_3 rfl ?_
  refine lv_aload_n hx hb zd_W_law_4 rfl (lv_at hl 0 rfl) ?_
  refine lv_iconst (v := 0) hx hb zd_W_law_5 (by decide) ?_
  refine va_calli (va_runS (As := [.ref b, .int 0]) (rest := [.ref hC, .ref hC]) ⟨hx, hb, hml, hown, hts⟩ (cW_cell l b L xs hL2) (cq_cwS 2 hts zm_W_cell zl_W_9 zs_W_cell zz_W rfl rfl (by decide +kernel) ⟨Nat.le_of_ble_eq_true rfl, Nat.le_of_ble_eq_true rfl⟩) ⟨fun a U g mk q => ⟨q.1, va_X.moved (u := U) (U := U.calling g mk a) (Vm.Alike.refl U.vm) q.2⟩, fun U hU hW => ⟨rfl, by show va_X b L xs U U.heap; rw [hU]; exact va_X.moved hW.alike (hX.kept (hS.2.1 b hbl hbA))⟩⟩ rfl rfl hl.1 rfl (lv_room (Nat.le_of_ble_eq_true rfl)) zd_W_law_6 ⟨Nat.le_of_ble_eq_true rfl, Nat.le_of_ble_eq_true rfl⟩) hS (fun q _ h => absurd h id) (fun q h => absurd h id) (fun r u t H1 locs ht hvm hp hB hz1 hk1 hS => ?_)
  have hP : va_P (dC, dI) cq_cl [(hC, .inr (0, cq_C0))] H1 := hP.kept (fun k q hk => hk1 q.1 (hP k q hk).lt id)
  rw [hp]
  clear hk1 hz1 hB hp u r
  generalize H1 = H at hP hS ⊢
  refine W.widen (k := 1) (n := 6) (Nat.le_of_ble_eq_true rfl) (Nat.le_of_ble_eq_true rfl) ?_
  have hFc := cq_sub hD hS hA
  refine va_callv (va_runI (As := [.int (cq_x0 L xs)]) (rest := [.ref hC]) ⟨hx, hb, hml, hown, hts⟩ (cC_init l dC dI (cq_x0 L xs) n h3 h5 hcl hC H.size) (cq_cwI 1 hts zm_C_init zl_W_15 zs_C_init zz_C rfl rfl rfl (by decide +kernel) ⟨Nat.le_of_ble_eq_true rfl, Nat.le_of_ble_eq_true rfl⟩) ⟨fun a U g mk q => by obtain ⟨q0, q1, qP, qK, qD, qO, qN⟩ := q; exact ⟨q0, q1, qP, va_K.moved (u := U) (U := U.calling g mk a) (Vm.Alike.refl U.vm) qK, qD, va_AO.moved (u := U) (U := U.calling g mk a) (Vm.Alike.refl U.vm) qO, va_Nw.same (u := U) (U := U.calling g mk a) rfl rfl qN⟩, fun U hU hW => ⟨rfl, by rw [hU], by rw [hU]; exact hP, va_K.moved hW.alike hK, hD.weaken (fun _ _ _ _ => trivial), hAO.moved hW.alike, va_Nw.warmM hW hNw⟩⟩ rfl rfl hl.1 rfl (lv_room (Nat.le_of_ble_eq_true rfl)) zd_W_law_9 ⟨Nat.le_of_ble_eq_true rfl, Nat.le_of_ble_eq_true rfl⟩) hS (fun q _ h => hFc q h) hFc (fun u t H1 locs ht hvm hw hB hz1 hk1 hS => ?_)
  obtain ⟨ad, cI, cA, had, hP1, hK1, hD1⟩ := hB
  rw [ht] at hP1
  have hKC := va_K.moved hvm.symm hK1
  have hDC := hD1.weaken (fun _ _ _ h => hFc _ h)
  rw [← had]
  clear hk1 hz1 hK1 hD1 hFc hP hD
  refine W.widen (k := 24) (n := 2398) (Nat.le_of_ble_eq_true rfl) (Nat.le_of_ble_eq_true rfl) ?_
  refine lv_astore_n hx hb zd_W_law_12 rfl hl (by decide) rfl (fun ls hl => ?_)
  have hl : lv_has ls 4 [(1, .ref (ad 0)), (0, .ref b)] := hl
  refine va_new (ci := 4) (fs := cq_R0) (C := zR_R) (T := zT_R) (N := 24) hx hb hts zi_R zt_R zo_R hown (hts _ zx_cR) (hts _ zx_nR) (hts _ zz_R) hK hP1 hDC hS hA rfl cq_fsR (Nat.le_of_ble_eq_true rfl) (Nat.le_of_ble_eq_true rfl) zd_W_law_13 (fun hR H hP hD hS => ?_)
  have hPC := cq_PL hP
  have hPR := cq_PR hP
  have hDR := cq_DR hD
  have hXR := cq_DX hD
  clear hP hD
  refine W.widen (k := 25) (n := 2422) (Nat.le_of_ble_eq_true rfl) (Nat.le_of_ble_eq_true rfl) ?_
  refine lv_dup hx hb zd_W_law_16 rfl ?_
  refine lv_aload_n hx hb zd_W_law_17 rfl (lv_at hl 1 rfl) ?_
  refine lv_iconst (v := 0) hx hb zd_W_law_18 (by decide) ?_
  refine va_calli (va_runS (As := [.ref b, .int 0]) (rest := [.ref hR, .ref hR]) ⟨hx, hb, hml, hown, hts⟩ (cW_cell l b L xs hL2) (cq_cwS 2 hts zm_W_cell zl_W_9 zs_W_cell zz_W rfl rfl (by decide +kernel) ⟨Nat.le_of_ble_eq_true rfl, Nat.le_of_ble_eq_true rfl⟩) ⟨fun a U g mk q => ⟨q.1, va_X.moved (u := U) (U := U.calling g mk a) (Vm.Alike.refl U.vm) q.2⟩, fun U hU hW => ⟨rfl, by show va_X b L xs U U.heap; rw [hU]; exact va_X.moved hW.alike (hX.kept (hS.2.1 b hbl hbA))⟩⟩ rfl rfl hl.1 rfl (lv_room (Nat.le_of_ble_eq_true rfl)) zd_W_law_19 ⟨Nat.le_of_ble_eq_true rfl, Nat.le_of_ble_eq_true rfl⟩) hS (fun q _ h => absurd h id) (fun q h => absurd h id) (fun r u t H1 locs ht hvm hp hB hz1 hk1 hS => ?_)
  have hPR := hPR.kept (fun k q hk => hk1 q.1 (hPR k q hk).lt id)
  have hPC := hPC.kept (fun k q hk => hk1 q.1 (hPC k q hk).lt id)
  rw [hp]
  clear hk1 hz1 hB hp u r
  generalize H1 = H at hPR hPC hS ⊢
  refine W.widen (k := 25) (n := 2422) (Nat.le_of_ble_eq_true rfl) (Nat.le_of_ble_eq_true rfl) ?_
  have hFc := cq_sub hDR hS hA
  refine va_callv (va_runI (As := [.int (cq_x0 L xs)]) (rest := [.ref hR]) ⟨hx, hb, hml, hown, hts⟩ (cM_init l dC dI (cq_x0 L xs) hR H.size) (cq_cwI 1 hts zm_R_init zl_W_20 zs_R_init zz_R rfl rfl rfl (by decide +kernel) ⟨Nat.le_of_ble_eq_true rfl, Nat.le_of_ble_eq_true rfl⟩) ⟨fun a U g mk q => by obtain ⟨q0, q1, qP, qK, qD⟩ := q; exact ⟨q0, q1, qP, va_K.moved (u := U) (U := U.calling g mk a) (Vm.Alike.refl U.vm) qK, qD⟩, fun U hU hW => ⟨rfl, by rw [hU], by rw [hU]; exact hPR, va_K.moved hW.alike hK, hDR.weaken (fun _ _ _ _ => trivial)⟩⟩ rfl rfl hl.1 rfl (lv_room (Nat.le_of_ble_eq_true rfl)) zd_W_law_22 ⟨Nat.le_of_ble_eq_true rfl, Nat.le_of_ble_eq_true rfl⟩) hS (fun q _ h => hFc q h) hFc (fun u t H1 locs ht hvm hw hB hz1 hk1 hS => ?_)
  obtain ⟨q0, q1, q2, q3, q4, q5, q6, q7, q8, q9, q10, q11, q12, q13, q14, q15, q16, q17, q18, q19, c0, c1, c2, c3, c4, c5, c6, c7, c8, c9, c10, c11, c12, c13, c14, c15, c16, c17, c18, c19, hP1, hK1, hD1⟩ := hB
  rw [ht] at hP1
  have hKR := va_K.moved hvm.symm hK1
  obtain ⟨hPC, hXC⟩ := cq_fr hPC hXR hk1 hD1
  have hDM := hD1.weaken (fun _ _ _ h => hFc _ h)
  rw [hcl, cq_Rw_wM] at hP1 hDM hXC
  refine W.widen (k := 45) (n := 14552) (Nat.le_of_ble_eq_true rfl) (Nat.le_of_ble_eq_true rfl) ?_
  refine lv_astore_n hx hb zd_W_law_25 rfl hl (by decide) rfl (fun ls hl => ?_)
  refine lv_iconst (v := nI 1) hx hb zd_W_law_26 (by decide) ?_
  refine lv_istore_n hx hb zd_W_law_27 rfl hl (by decide) rfl (fun ls hl => ?_)
  exact cq_law_loop (n := n) (ad := ad) (cI := cI) (cA := cA) (bd := fun k => [hR, q0, q1, q2, q3, q4, q5, q6, q7, q8, q9, q10, q11, q12, q13, q14, q15, q16, q17, q18, q19].getD k 0) (cs := fun k => [c0, c1, c2, c3, c4, c5, c6, c7, c8, c9, c10, c11, c12, c13, c14, c15, c16, c17, c18, c19].getD k c0) ⟨hx, hb, hml, hown, hts, hX, hbl, hKC, hKR, hL2⟩ hr hlocks L 1 _ _ H1 locs ls (by omega) (by omega) (by omega) ⟨rq_new h3 h5, ⟨hPC, hDC, hP1, hDM, hXC.symm⟩, hS⟩ hl
