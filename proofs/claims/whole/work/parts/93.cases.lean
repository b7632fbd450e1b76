/-! The law's cases. -/
def cq_cx (p : Program) (s : State) (m : MethodId) (meth : Method) (c : Code) (b L : Nat) (xs : Nat → Int32) (dC : Nat → ClassId) (dI : Nat → Nat → Nat) (cI cA : ClassId) (cs : Nat → ClassId) : Prop :=
  p.tables.exec = Jvm.exec ∧ c.code = code ∧ c.maxLocals = 4 ∧ s.vm.findClass zR_W = some m.cls ∧ (∀ w ∈ cq_ws, w.before #[Value.ref b] s = true) ∧ va_X b L xs s s.heap ∧ b < s.heap.size ∧ va_K (dC, dI) cq_cl (tysC cI cA) s ∧ va_K (dC, dI) cq_cl (tysM cs) s ∧ L < 2000000000
def cq_LS (s : State) (dC : Nat → ClassId) (dI : Nat → Nat → Nat) (n : Nat) (ad : Nat → Nat) (cI cA : ClassId) (bd : Nat → Nat) (cs : Nat → ClassId) (g a : cq_S) (H : Heap) (locs : List Loc) : Prop :=
  rq_Z n g a ∧ cq_LW (dC, dI) (fun q => s.heap.size ≤ q) n ad cI cA bd cs g a H ∧ va_S (fun q => s.heap.size ≤ q) s.heap H locs
theorem rq_maj {n : Nat} {g a : cq_S} (Z : rq_Z n g a) : nI (gq_maj g) = nI (mq_maj a) := by
  unfold gq_maj mq_maj
  rw [Z.1.1.1, Z.1.1.2.1]
theorem rq_msg {n : Nat} {g a : cq_S} (Z : rq_Z n g a) : nI (g 21 0) = nI (a 21 0) := by
  rw [Z.1.1.2.2.1]
set_option maxHeartbeats 4000000 in
set_option maxRecDepth 100000 in
theorem cq_case_4 {p : Program} {l : Launch} {e : Env} {s : State} {m : MethodId} {below : List Frame} {meth : Method} {c : Code} {b L : Nat} {xs : Nat → Int32} {dC : Nat → ClassId} {dI : Nat → Nat → Nat} {n : Nat} {ad : Nat → Nat} {cI cA : ClassId} {bd : Nat → Nat} {cs : Nat → ClassId} {Q : State → Prop} {i : Nat} {g a : cq_S} {H : Heap} {locs : List Loc} {ls : Array Slot} (X : cq_cx p s m meth c b L xs dC dI cI cA cs) (hi : i + 4 ≤ L) (B : cq_LS s dC dI n ad cI cA bd cs g a H locs) (hl : lv_has ls 4 [(3, .int (nI i)), (2, .ref (bd 0)), (1, .ref (ad 0)), (0, .ref b)])
    (kk : ∀ (g a : cq_S) (H : Heap) (locs : List Loc), cq_LS s dC dI n ad cI cA bd cs g a H locs → W p l e room_1 s m #[Value.ref b] below meth c H locs 45 14552 Q (F0 m 648 ls [])) : W p l e room_1 s m #[Value.ref b] below meth c H locs 45 14552 Q (F0 m 286 ls []) := by
  obtain ⟨hx, hb, hml, hown, hts, hX, hbl, hKC, hKR, hL⟩ := X
  obtain ⟨Z, hW, hS⟩ := B
  have hA : ∀ q : Nat, s.heap.size ≤ q → s.heap.size ≤ q := fun _ h => h
  have hbA : ¬ s.heap.size ≤ b := Nat.not_le.mpr hbl
  refine lv_aload_n hx hb zd_W_law_286 rfl (lv_at hl 2 rfl) ?_
  refine lv_aload_n hx hb zd_W_law_287 rfl (lv_at hl 3 rfl) ?_
  refine lv_iload_n hx hb zd_W_law_288 rfl (lv_at hl 0 rfl) ?_
  refine lv_iconst (v := nI 1) hx hb zd_W_law_289 (by decide) ?_
  refine cn_iadd hx hb zd_W_law_290 ?_
  refine va_sld hx hb hX hbl hbA hS (vp_in_nI (show i + 1 < L by omega) (by omega)) zd_W_law_291 ?_
  refine lv_aload_n hx hb zd_W_law_292 rfl (lv_at hl 3 rfl) ?_
  refine lv_iload_n hx hb zd_W_law_293 rfl (lv_at hl 0 rfl) ?_
  refine lv_iconst (v := nI 2) hx hb zd_W_law_294 (by decide) ?_
  refine cn_iadd hx hb zd_W_law_295 ?_
  refine va_sld hx hb hX hbl hbA hS (vp_in_nI (show i + 2 < L by omega) (by omega)) zd_W_law_296 ?_
  refine cq_callC (As := [.int (xs (nI (i + 1)).toNatClampNeg), .int (xs (nI (i + 2)).toNatClampNeg)]) (rest := []) ⟨hx, hb, hml, hown, hts⟩ (cC_C_letters l dC dI n ad cI cA g (rq_bas Z) (xs (nI (i + 1)).toNatClampNeg) (xs (nI (i + 2)).toNatClampNeg)) (cq_cw 2 hts zm_C_letters zl_W_41 zs_C_letters ze_C_letters zz_C rfl rfl (by decide +kernel) ⟨Nat.le_of_ble_eq_true rfl, Nat.le_of_ble_eq_true rfl⟩) hKC hW hS hA rfl hl.1 rfl (Nat.le_of_ble_eq_true rfl) zd_W_law_297 ⟨Nat.le_of_ble_eq_true rfl, Nat.le_of_ble_eq_true rfl⟩ (fun r1 u1 H locs hu1 hW hS => ?_)
  refine lv_aload_n hx hb zd_W_law_300 rfl (lv_at hl 1 rfl) ?_
  refine lv_aload_n hx hb zd_W_law_301 rfl (lv_at hl 3 rfl) ?_
  refine lv_iload_n hx hb zd_W_law_302 rfl (lv_at hl 0 rfl) ?_
  refine lv_iconst (v := nI 1) hx hb zd_W_law_303 (by decide) ?_
  refine cn_iadd hx hb zd_W_law_304 ?_
  refine va_sld hx hb hX hbl hbA hS (vp_in_nI (show i + 1 < L by omega) (by omega)) zd_W_law_305 ?_
  refine lv_aload_n hx hb zd_W_law_306 rfl (lv_at hl 3 rfl) ?_
  refine lv_iload_n hx hb zd_W_law_307 rfl (lv_at hl 0 rfl) ?_
  refine lv_iconst (v := nI 2) hx hb zd_W_law_308 (by decide) ?_
  refine cn_iadd hx hb zd_W_law_309 ?_
  refine va_sld hx hb hX hbl hbA hS (vp_in_nI (show i + 2 < L by omega) (by omega)) zd_W_law_310 ?_
  refine cq_callR (As := [.int (xs (nI (i + 1)).toNatClampNeg), .int (xs (nI (i + 2)).toNatClampNeg)]) (rest := [.int r1]) ⟨hx, hb, hml, hown, hts⟩ (cM_letters l dC dI bd cs a (xq_bas Z.2) (xs (nI (i + 1)).toNatClampNeg) (xs (nI (i + 2)).toNatClampNeg)) (cq_cw 2 hts zm_R_letters zl_W_45 zs_R_letters ze_R_letters zz_R rfl rfl (by decide +kernel) ⟨Nat.le_of_ble_eq_true rfl, Nat.le_of_ble_eq_true rfl⟩) hKR hW hS hA rfl hl.1 rfl (Nat.le_of_ble_eq_true rfl) zd_W_law_311 ⟨Nat.le_of_ble_eq_true rfl, Nat.le_of_ble_eq_true rfl⟩ (fun r2 u2 H locs hu2 hW hS => ?_)
  obtain ⟨e1, f1⟩ := hu1
  obtain ⟨e2, f2⟩ := hu2
  have hz : rq_Z n u1 u2 := by rw [f1, f2]; exact Z
  have he : r1 = r2 := by rw [e1, e2]; exact rq_letters Z (xs (nI (i + 1)).toNatClampNeg) (xs (nI (i + 2)).toNatClampNeg)
  exact lv_icmp_eq (tgt := 648) hx hb zd_W_law_314 (by decide) (fun _ => kk u1 u2 H locs ⟨hz, hW, hS⟩) (fun h => absurd he h)
set_option maxHeartbeats 4000000 in
set_option maxRecDepth 100000 in
theorem cq_case_5 {p : Program} {l : Launch} {e : Env} {s : State} {m : MethodId} {below : List Frame} {meth : Method} {c : Code} {b L : Nat} {xs : Nat → Int32} {dC : Nat → ClassId} {dI : Nat → Nat → Nat} {n : Nat} {ad : Nat → Nat} {cI cA : ClassId} {bd : Nat → Nat} {cs : Nat → ClassId} {Q : State → Prop} {i : Nat} {g a : cq_S} {H : Heap} {locs : List Loc} {ls : Array Slot} (X : cq_cx p s m meth c b L xs dC dI cI cA cs) (hi : i + 4 ≤ L) (B : cq_LS s dC dI n ad cI cA bd cs g a H locs) (hl : lv_has ls 4 [(3, .int (nI i)), (2, .ref (bd 0)), (1, .ref (ad 0)), (0, .ref b)])
    (kk : ∀ (g a : cq_S) (H : Heap) (locs : List Loc), cq_LS s dC dI n ad cI cA bd cs g a H locs → W p l e room_1 s m #[Value.ref b] below meth c H locs 45 14552 Q (F0 m 648 ls [])) : W p l e room_1 s m #[Value.ref b] below meth c H locs 45 14552 Q (F0 m 319 ls []) := by
  obtain ⟨hx, hb, hml, hown, hts, hX, hbl, hKC, hKR, hL⟩ := X
  obtain ⟨Z, hW, hS⟩ := B
  have hA : ∀ q : Nat, s.heap.size ≤ q → s.heap.size ≤ q := fun _ h => h
  have hbA : ¬ s.heap.size ≤ b := Nat.not_le.mpr hbl
  refine lv_aload_n hx hb zd_W_law_319 rfl (lv_at hl 2 rfl) ?_
  refine lv_aload_n hx hb zd_W_law_320 rfl (lv_at hl 3 rfl) ?_
  refine lv_iload_n hx hb zd_W_law_321 rfl (lv_at hl 0 rfl) ?_
  refine lv_iconst (v := nI 1) hx hb zd_W_law_322 (by decide) ?_
  refine cn_iadd hx hb zd_W_law_323 ?_
  refine va_sld hx hb hX hbl hbA hS (vp_in_nI (show i + 1 < L by omega) (by omega)) zd_W_law_324 ?_
  refine lv_aload_n hx hb zd_W_law_325 rfl (lv_at hl 3 rfl) ?_
  refine lv_iload_n hx hb zd_W_law_326 rfl (lv_at hl 0 rfl) ?_
  refine lv_iconst (v := nI 2) hx hb zd_W_law_327 (by decide) ?_
  refine cn_iadd hx hb zd_W_law_328 ?_
  refine va_sld hx hb hX hbl hbA hS (vp_in_nI (show i + 2 < L by omega) (by omega)) zd_W_law_329 ?_
  refine lv_aload_n hx hb zd_W_law_330 rfl (lv_at hl 3 rfl) ?_
  refine lv_iload_n hx hb zd_W_law_331 rfl (lv_at hl 0 rfl) ?_
  refine lv_iconst (v := nI 3) hx hb zd_W_law_332 (by decide) ?_
  refine cn_iadd hx hb zd_W_law_333 ?_
  refine va_sld hx hb hX hbl hbA hS (vp_in_nI (show i + 3 < L by omega) (by omega)) zd_W_law_334 ?_
  refine cq_callC (As := [.int (xs (nI (i + 1)).toNatClampNeg), .int (xs (nI (i + 2)).toNatClampNeg), .int (xs (nI (i + 3)).toNatClampNeg)]) (rest := []) ⟨hx, hb, hml, hown, hts⟩ (cC_C_letter l dC dI n ad cI cA g (rq_bas Z) (xs (nI (i + 1)).toNatClampNeg) (xs (nI (i + 2)).toNatClampNeg) (xs (nI (i + 3)).toNatClampNeg)) (cq_cw 3 hts zm_C_letter zl_W_46 zs_C_letter ze_C_letter zz_C rfl rfl (by decide +kernel) ⟨Nat.le_of_ble_eq_true rfl, Nat.le_of_ble_eq_true rfl⟩) hKC hW hS hA rfl hl.1 rfl (Nat.le_of_ble_eq_true rfl) zd_W_law_335 ⟨Nat.le_of_ble_eq_true rfl, Nat.le_of_ble_eq_true rfl⟩ (fun r1 u1 H locs hu1 hW hS => ?_)
  refine lv_aload_n hx hb zd_W_law_338 rfl (lv_at hl 1 rfl) ?_
  refine lv_aload_n hx hb zd_W_law_339 rfl (lv_at hl 3 rfl) ?_
  refine lv_iload_n hx hb zd_W_law_340 rfl (lv_at hl 0 rfl) ?_
  refine lv_iconst (v := nI 1) hx hb zd_W_law_341 (by decide) ?_
  refine cn_iadd hx hb zd_W_law_342 ?_
  refine va_sld hx hb hX hbl hbA hS (vp_in_nI (show i + 1 < L by omega) (by omega)) zd_W_law_343 ?_
  refine lv_aload_n hx hb zd_W_law_344 rfl (lv_at hl 3 rfl) ?_
  refine lv_iload_n hx hb zd_W_law_345 rfl (lv_at hl 0 rfl) ?_
  refine lv_iconst (v := nI 2) hx hb zd_W_law_346 (by decide) ?_
  refine cn_iadd hx hb zd_W_law_347 ?_
  refine va_sld hx hb hX hbl hbA hS (vp_in_nI (show i + 2 < L by omega) (by omega)) zd_W_law_348 ?_
  refine lv_aload_n hx hb zd_W_law_349 rfl (lv_at hl 3 rfl) ?_
  refine lv_iload_n hx hb zd_W_law_350 rfl (lv_at hl 0 rfl) ?_
  refine lv_iconst (v := nI 3) hx hb zd_W_law_351 (by decide) ?_
  refine cn_iadd hx hb zd_W_law_352 ?_
  refine va_sld hx hb hX hbl hbA hS (vp_in_nI (show i + 3 < L by omega) (by omega)) zd_W_law_353 ?_
  refine cq_callR (As := [.int (xs (nI (i + 1)).toNatClampNeg), .int (xs (nI (i + 2)).toNatClampNeg), .int (xs (nI (i + 3)).toNatClampNeg)]) (rest := [.int r1]) ⟨hx, hb, hml, hown, hts⟩ (cM_letter l dC dI bd cs a (xq_bas Z.2) (xs (nI (i + 1)).toNatClampNeg) (xs (nI (i + 2)).toNatClampNeg) (xs (nI (i + 3)).toNatClampNeg)) (cq_cw 3 hts zm_R_letter zl_W_49 zs_R_letter ze_R_letter zz_R rfl rfl (by decide +kernel) ⟨Nat.le_of_ble_eq_true rfl, Nat.le_of_ble_eq_true rfl⟩) hKR hW hS hA rfl hl.1 rfl (Nat.le_of_ble_eq_true rfl) zd_W_law_354 ⟨Nat.le_of_ble_eq_true rfl, Nat.le_of_ble_eq_true rfl⟩ (fun r2 u2 H locs hu2 hW hS => ?_)
  obtain ⟨e1, f1⟩ := hu1
  obtain ⟨e2, f2⟩ := hu2
  have hz : rq_Z n u1 u2 := by rw [f1, f2]; exact Z
  have he : r1 = r2 := by rw [e1, e2]; exact rq_letter Z (xs (nI (i + 1)).toNatClampNeg) (xs (nI (i + 2)).toNatClampNeg) (xs (nI (i + 3)).toNatClampNeg)
  exact lv_icmp_eq (tgt := 648) hx hb zd_W_law_357 (by decide) (fun _ => kk u1 u2 H locs ⟨hz, hW, hS⟩) (fun h => absurd he h)
set_option maxHeartbeats 4000000 in
set_option maxRecDepth 100000 in
theorem cq_case_6 {p : Program} {l : Launch} {e : Env} {s : State} {m : MethodId} {below : List Frame} {meth : Method} {c : Code} {b L : Nat} {xs : Nat → Int32} {dC : Nat → ClassId} {dI : Nat → Nat → Nat} {n : Nat} {ad : Nat → Nat} {cI cA : ClassId} {bd : Nat → Nat} {cs : Nat → ClassId} {Q : State → Prop} {i : Nat} {g a : cq_S} {H : Heap} {locs : List Loc} {ls : Array Slot} (X : cq_cx p s m meth c b L xs dC dI cI cA cs) (hi : i + 4 ≤ L) (B : cq_LS s dC dI n ad cI cA bd cs g a H locs) (hl : lv_has ls 4 [(3, .int (nI i)), (2, .ref (bd 0)), (1, .ref (ad 0)), (0, .ref b)])
    (kk : ∀ (g a : cq_S) (H : Heap) (locs : List Loc), cq_LS s dC dI n ad cI cA bd cs g a H locs → W p l e room_1 s m #[Value.ref b] below meth c H locs 45 14552 Q (F0 m 648 ls [])) : W p l e room_1 s m #[Value.ref b] below meth c H locs 45 14552 Q (F0 m 362 ls []) := by
  obtain ⟨hx, hb, hml, hown, hts, hX, hbl, hKC, hKR, hL⟩ := X
  obtain ⟨Z, hW, hS⟩ := B
  have hA : ∀ q : Nat, s.heap.size ≤ q → s.heap.size ≤ q := fun _ h => h
  have hbA : ¬ s.heap.size ≤ b := Nat.not_le.mpr hbl
  refine lv_aload_n hx hb zd_W_law_362 rfl (lv_at hl 2 rfl) ?_
  refine lv_aload_n hx hb zd_W_law_363 rfl (lv_at hl 3 rfl) ?_
  refine lv_iload_n hx hb zd_W_law_364 rfl (lv_at hl 0 rfl) ?_
  refine lv_iconst (v := nI 1) hx hb zd_W_law_365 (by decide) ?_
  refine cn_iadd hx hb zd_W_law_366 ?_
  refine va_sld hx hb hX hbl hbA hS (vp_in_nI (show i + 1 < L by omega) (by omega)) zd_W_law_367 ?_
  refine lv_aload_n hx hb zd_W_law_368 rfl (lv_at hl 3 rfl) ?_
  refine lv_iload_n hx hb zd_W_law_369 rfl (lv_at hl 0 rfl) ?_
  refine lv_iconst (v := nI 2) hx hb zd_W_law_370 (by decide) ?_
  refine cn_iadd hx hb zd_W_law_371 ?_
  refine va_sld hx hb hX hbl hbA hS (vp_in_nI (show i + 2 < L by omega) (by omega)) zd_W_law_372 ?_
  refine cq_callC (As := [.int (xs (nI (i + 1)).toNatClampNeg), .int (xs (nI (i + 2)).toNatClampNeg)]) (rest := []) ⟨hx, hb, hml, hown, hts⟩ (cC_C_suspects l dC dI n ad cI cA g (rq_bas Z) (xs (nI (i + 1)).toNatClampNeg) (xs (nI (i + 2)).toNatClampNeg)) (cq_cw 2 hts zm_C_suspects zl_W_50 zs_C_suspects ze_C_suspects zz_C rfl rfl (by decide +kernel) ⟨Nat.le_of_ble_eq_true rfl, Nat.le_of_ble_eq_true rfl⟩) hKC hW hS hA rfl hl.1 rfl (Nat.le_of_ble_eq_true rfl) zd_W_law_373 ⟨Nat.le_of_ble_eq_true rfl, Nat.le_of_ble_eq_true rfl⟩ (fun r1 u1 H locs hu1 hW hS => ?_)
  refine lv_aload_n hx hb zd_W_law_376 rfl (lv_at hl 1 rfl) ?_
  refine lv_aload_n hx hb zd_W_law_377 rfl (lv_at hl 3 rfl) ?_
  refine lv_iload_n hx hb zd_W_law_378 rfl (lv_at hl 0 rfl) ?_
  refine lv_iconst (v := nI 1) hx hb zd_W_law_379 (by decide) ?_
  refine cn_iadd hx hb zd_W_law_380 ?_
  refine va_sld hx hb hX hbl hbA hS (vp_in_nI (show i + 1 < L by omega) (by omega)) zd_W_law_381 ?_
  refine lv_aload_n hx hb zd_W_law_382 rfl (lv_at hl 3 rfl) ?_
  refine lv_iload_n hx hb zd_W_law_383 rfl (lv_at hl 0 rfl) ?_
  refine lv_iconst (v := nI 2) hx hb zd_W_law_384 (by decide) ?_
  refine cn_iadd hx hb zd_W_law_385 ?_
  refine va_sld hx hb hX hbl hbA hS (vp_in_nI (show i + 2 < L by omega) (by omega)) zd_W_law_386 ?_
  refine cq_callR (As := [.int (xs (nI (i + 1)).toNatClampNeg), .int (xs (nI (i + 2)).toNatClampNeg)]) (rest := [.int r1]) ⟨hx, hb, hml, hown, hts⟩ (cM_suspects l dC dI bd cs a (xq_bas Z.2) (xs (nI (i + 1)).toNatClampNeg) (xs (nI (i + 2)).toNatClampNeg)) (cq_cw 2 hts zm_R_suspects zl_W_53 zs_R_suspects ze_R_suspects zz_R rfl rfl (by decide +kernel) ⟨Nat.le_of_ble_eq_true rfl, Nat.le_of_ble_eq_true rfl⟩) hKR hW hS hA rfl hl.1 rfl (Nat.le_of_ble_eq_true rfl) zd_W_law_387 ⟨Nat.le_of_ble_eq_true rfl, Nat.le_of_ble_eq_true rfl⟩ (fun r2 u2 H locs hu2 hW hS => ?_)
  obtain ⟨e1, f1⟩ := hu1
  obtain ⟨e2, f2⟩ := hu2
  have hz : rq_Z n u1 u2 := by rw [f1, f2]; exact Z
  have he : r1 = r2 := by rw [e1, e2]; exact rq_suspects Z (xs (nI (i + 1)).toNatClampNeg) (xs (nI (i + 2)).toNatClampNeg)
  exact lv_icmp_eq (tgt := 648) hx hb zd_W_law_390 (by decide) (fun _ => kk u1 u2 H locs ⟨hz, hW, hS⟩) (fun h => absurd he h)
set_option maxHeartbeats 4000000 in
set_option maxRecDepth 100000 in
theorem cq_case_7 {p : Program} {l : Launch} {e : Env} {s : State} {m : MethodId} {below : List Frame} {meth : Method} {c : Code} {b L : Nat} {xs : Nat → Int32} {dC : Nat → ClassId} {dI : Nat → Nat → Nat} {n : Nat} {ad : Nat → Nat} {cI cA : ClassId} {bd : Nat → Nat} {cs : Nat → ClassId} {Q : State → Prop} {i : Nat} {g a : cq_S} {H : Heap} {locs : List Loc} {ls : Array Slot} (X : cq_cx p s m meth c b L xs dC dI cI cA cs) (hi : i + 4 ≤ L) (B : cq_LS s dC dI n ad cI cA bd cs g a H locs) (hl : lv_has ls 4 [(3, .int (nI i)), (2, .ref (bd 0)), (1, .ref (ad 0)), (0, .ref b)])
    (kk : ∀ (g a : cq_S) (H : Heap) (locs : List Loc), cq_LS s dC dI n ad cI cA bd cs g a H locs → W p l e room_1 s m #[Value.ref b] below meth c H locs 45 14552 Q (F0 m 648 ls [])) : W p l e room_1 s m #[Value.ref b] below meth c H locs 45 14552 Q (F0 m 395 ls []) := by
  obtain ⟨hx, hb, hml, hown, hts, hX, hbl, hKC, hKR, hL⟩ := X
  obtain ⟨Z, hW, hS⟩ := B
  have hA : ∀ q : Nat, s.heap.size ≤ q → s.heap.size ≤ q := fun _ h => h
  have hbA : ¬ s.heap.size ≤ b := Nat.not_le.mpr hbl
  refine lv_aload_n hx hb zd_W_law_395 rfl (lv_at hl 2 rfl) ?_
  refine lv_aload_n hx hb zd_W_law_396 rfl (lv_at hl 3 rfl) ?_
  refine lv_iload_n hx hb zd_W_law_397 rfl (lv_at hl 0 rfl) ?_
  refine lv_iconst (v := nI 1) hx hb zd_W_law_398 (by decide) ?_
  refine cn_iadd hx hb zd_W_law_399 ?_
  refine va_sld hx hb hX hbl hbA hS (vp_in_nI (show i + 1 < L by omega) (by omega)) zd_W_law_400 ?_
  refine cq_callC (As := [.int (xs (nI (i + 1)).toNatClampNeg)]) (rest := []) ⟨hx, hb, hml, hown, hts⟩ (cC_C_state l dC dI n ad cI cA g (rq_bas Z) (xs (nI (i + 1)).toNatClampNeg)) (cq_cw 1 hts zm_C_state zl_W_54 zs_C_state ze_C_state zz_C rfl rfl (by decide +kernel) ⟨Nat.le_of_ble_eq_true rfl, Nat.le_of_ble_eq_true rfl⟩) hKC hW hS hA rfl hl.1 rfl (Nat.le_of_ble_eq_true rfl) zd_W_law_401 ⟨Nat.le_of_ble_eq_true rfl, Nat.le_of_ble_eq_true rfl⟩ (fun r1 u1 H locs hu1 hW hS => ?_)
  refine lv_aload_n hx hb zd_W_law_404 rfl (lv_at hl 1 rfl) ?_
  refine lv_aload_n hx hb zd_W_law_405 rfl (lv_at hl 3 rfl) ?_
  refine lv_iload_n hx hb zd_W_law_406 rfl (lv_at hl 0 rfl) ?_
  refine lv_iconst (v := nI 1) hx hb zd_W_law_407 (by decide) ?_
  refine cn_iadd hx hb zd_W_law_408 ?_
  refine va_sld hx hb hX hbl hbA hS (vp_in_nI (show i + 1 < L by omega) (by omega)) zd_W_law_409 ?_
  refine cq_callR (As := [.int (xs (nI (i + 1)).toNatClampNeg)]) (rest := [.int r1]) ⟨hx, hb, hml, hown, hts⟩ (cM_state l dC dI bd cs a (xq_bas Z.2) (xs (nI (i + 1)).toNatClampNeg)) (cq_cw 1 hts zm_R_state zl_W_57 zs_R_state ze_R_state zz_R rfl rfl (by decide +kernel) ⟨Nat.le_of_ble_eq_true rfl, Nat.le_of_ble_eq_true rfl⟩) hKR hW hS hA rfl hl.1 rfl (Nat.le_of_ble_eq_true rfl) zd_W_law_410 ⟨Nat.le_of_ble_eq_true rfl, Nat.le_of_ble_eq_true rfl⟩ (fun r2 u2 H locs hu2 hW hS => ?_)
  obtain ⟨e1, f1⟩ := hu1
  obtain ⟨e2, f2⟩ := hu2
  have hz : rq_Z n u1 u2 := by rw [f1, f2]; exact Z
  have he : r1 = r2 := by rw [e1, e2]; exact rq_state Z (xs (nI (i + 1)).toNatClampNeg)
  exact lv_icmp_eq (tgt := 648) hx hb zd_W_law_413 (by decide) (fun _ => kk u1 u2 H locs ⟨hz, hW, hS⟩) (fun h => absurd he h)
set_option maxHeartbeats 4000000 in
set_option maxRecDepth 100000 in
theorem cq_case_8 {p : Program} {l : Launch} {e : Env} {s : State} {m : MethodId} {below : List Frame} {meth : Method} {c : Code} {b L : Nat} {xs : Nat → Int32} {dC : Nat → ClassId} {dI : Nat → Nat → Nat} {n : Nat} {ad : Nat → Nat} {cI cA : ClassId} {bd : Nat → Nat} {cs : Nat → ClassId} {Q : State → Prop} {i : Nat} {g a : cq_S} {H : Heap} {locs : List Loc} {ls : Array Slot} (X : cq_cx p s m meth c b L xs dC dI cI cA cs) (hi : i + 4 ≤ L) (B : cq_LS s dC dI n ad cI cA bd cs g a H locs) (hl : lv_has ls 4 [(3, .int (nI i)), (2, .ref (bd 0)), (1, .ref (ad 0)), (0, .ref b)])
    (kk : ∀ (g a : cq_S) (H : Heap) (locs : List Loc), cq_LS s dC dI n ad cI cA bd cs g a H locs → W p l e room_1 s m #[Value.ref b] below meth c H locs 45 14552 Q (F0 m 648 ls [])) : W p l e room_1 s m #[Value.ref b] below meth c H locs 45 14552 Q (F0 m 418 ls []) := by
  obtain ⟨hx, hb, hml, hown, hts, hX, hbl, hKC, hKR, hL⟩ := X
  obtain ⟨Z, hW, hS⟩ := B
  have hA : ∀ q : Nat, s.heap.size ≤ q → s.heap.size ≤ q := fun _ h => h
  have hbA : ¬ s.heap.size ≤ b := Nat.not_le.mpr hbl
  refine lv_aload_n hx hb zd_W_law_418 rfl (lv_at hl 2 rfl) ?_
  refine lv_aload_n hx hb zd_W_law_419 rfl (lv_at hl 3 rfl) ?_
  refine lv_iload_n hx hb zd_W_law_420 rfl (lv_at hl 0 rfl) ?_
  refine lv_iconst (v := nI 1) hx hb zd_W_law_421 (by decide) ?_
  refine cn_iadd hx hb zd_W_law_422 ?_
  refine va_sld hx hb hX hbl hbA hS (vp_in_nI (show i + 1 < L by omega) (by omega)) zd_W_law_423 ?_
  refine cq_callC (As := [.int (xs (nI (i + 1)).toNatClampNeg)]) (rest := []) ⟨hx, hb, hml, hown, hts⟩ (cC_C_finished l dC dI n ad cI cA g (rq_bas Z) (xs (nI (i + 1)).toNatClampNeg)) (cq_cw 1 hts zm_C_finished zl_W_58 zs_C_finished ze_C_finished zz_C rfl rfl (by decide +kernel) ⟨Nat.le_of_ble_eq_true rfl, Nat.le_of_ble_eq_true rfl⟩) hKC hW hS hA rfl hl.1 rfl (Nat.le_of_ble_eq_true rfl) zd_W_law_424 ⟨Nat.le_of_ble_eq_true rfl, Nat.le_of_ble_eq_true rfl⟩ (fun r1 u1 H locs hu1 hW hS => ?_)
  refine lv_aload_n hx hb zd_W_law_427 rfl (lv_at hl 1 rfl) ?_
  refine lv_aload_n hx hb zd_W_law_428 rfl (lv_at hl 3 rfl) ?_
  refine lv_iload_n hx hb zd_W_law_429 rfl (lv_at hl 0 rfl) ?_
  refine lv_iconst (v := nI 1) hx hb zd_W_law_430 (by decide) ?_
  refine cn_iadd hx hb zd_W_law_431 ?_
  refine va_sld hx hb hX hbl hbA hS (vp_in_nI (show i + 1 < L by omega) (by omega)) zd_W_law_432 ?_
  refine cq_callR (As := [.int (xs (nI (i + 1)).toNatClampNeg)]) (rest := [.int r1]) ⟨hx, hb, hml, hown, hts⟩ (cM_finished l dC dI bd cs a (xq_bas Z.2) (xs (nI (i + 1)).toNatClampNeg)) (cq_cw 1 hts zm_R_finished zl_W_61 zs_R_finished ze_R_finished zz_R rfl rfl (by decide +kernel) ⟨Nat.le_of_ble_eq_true rfl, Nat.le_of_ble_eq_true rfl⟩) hKR hW hS hA rfl hl.1 rfl (Nat.le_of_ble_eq_true rfl) zd_W_law_433 ⟨Nat.le_of_ble_eq_true rfl, Nat.le_of_ble_eq_true rfl⟩ (fun r2 u2 H locs hu2 hW hS => ?_)
  obtain ⟨e1, f1⟩ := hu1
  obtain ⟨e2, f2⟩ := hu2
  have hz : rq_Z n u1 u2 := by rw [f1, f2]; exact Z
  have he : r1 = r2 := by rw [e1, e2]; exact rq_get Z (by unfold rq_K; omega) (xs (nI (i + 1)).toNatClampNeg)
  exact lv_icmp_eq (tgt := 648) hx hb zd_W_law_436 (by decide) (fun _ => kk u1 u2 H locs ⟨hz, hW, hS⟩) (fun h => absurd he h)
set_option maxHeartbeats 4000000 in
set_option maxRecDepth 100000 in
theorem cq_case_9 {p : Program} {l : Launch} {e : Env} {s : State} {m : MethodId} {below : List Frame} {meth : Method} {c : Code} {b L : Nat} {xs : Nat → Int32} {dC : Nat → ClassId} {dI : Nat → Nat → Nat} {n : Nat} {ad : Nat → Nat} {cI cA : ClassId} {bd : Nat → Nat} {cs : Nat → ClassId} {Q : State → Prop} {i : Nat} {g a : cq_S} {H : Heap} {locs : List Loc} {ls : Array Slot} (X : cq_cx p s m meth c b L xs dC dI cI cA cs) (hi : i + 4 ≤ L) (B : cq_LS s dC dI n ad cI cA bd cs g a H locs) (hl : lv_has ls 4 [(3, .int (nI i)), (2, .ref (bd 0)), (1, .ref (ad 0)), (0, .ref b)])
    (kk : ∀ (g a : cq_S) (H : Heap) (locs : List Loc), cq_LS s dC dI n ad cI cA bd cs g a H locs → W p l e room_1 s m #[Value.ref b] below meth c H locs 45 14552 Q (F0 m 648 ls [])) : W p l e room_1 s m #[Value.ref b] below meth c H locs 45 14552 Q (F0 m 441 ls []) := by
  obtain ⟨hx, hb, hml, hown, hts, hX, hbl, hKC, hKR, hL⟩ := X
  obtain ⟨Z, hW, hS⟩ := B
  have hA : ∀ q : Nat, s.heap.size ≤ q → s.heap.size ≤ q := fun _ h => h
  have hbA : ¬ s.heap.size ≤ b := Nat.not_le.mpr hbl
  refine lv_aload_n hx hb zd_W_law_441 rfl (lv_at hl 2 rfl) ?_
  refine lv_aload_n hx hb zd_W_law_442 rfl (lv_at hl 3 rfl) ?_
  refine lv_iload_n hx hb zd_W_law_443 rfl (lv_at hl 0 rfl) ?_
  refine lv_iconst (v := nI 1) hx hb zd_W_law_444 (by decide) ?_
  refine cn_iadd hx hb zd_W_law_445 ?_
  refine va_sld hx hb hX hbl hbA hS (vp_in_nI (show i + 1 < L by omega) (by omega)) zd_W_law_446 ?_
  refine cq_callC (As := [.int (xs (nI (i + 1)).toNatClampNeg)]) (rest := []) ⟨hx, hb, hml, hown, hts⟩ (cC_C_round l dC dI n ad cI cA g (rq_bas Z) (xs (nI (i + 1)).toNatClampNeg)) (cq_cw 1 hts zm_C_round zl_W_62 zs_C_round ze_C_round zz_C rfl rfl (by decide +kernel) ⟨Nat.le_of_ble_eq_true rfl, Nat.le_of_ble_eq_true rfl⟩) hKC hW hS hA rfl hl.1 rfl (Nat.le_of_ble_eq_true rfl) zd_W_law_447 ⟨Nat.le_of_ble_eq_true rfl, Nat.le_of_ble_eq_true rfl⟩ (fun r1 u1 H locs hu1 hW hS => ?_)
  refine lv_aload_n hx hb zd_W_law_450 rfl (lv_at hl 1 rfl) ?_
  refine lv_aload_n hx hb zd_W_law_451 rfl (lv_at hl 3 rfl) ?_
  refine lv_iload_n hx hb zd_W_law_452 rfl (lv_at hl 0 rfl) ?_
  refine lv_iconst (v := nI 1) hx hb zd_W_law_453 (by decide) ?_
  refine cn_iadd hx hb zd_W_law_454 ?_
  refine va_sld hx hb hX hbl hbA hS (vp_in_nI (show i + 1 < L by omega) (by omega)) zd_W_law_455 ?_
  refine cq_callR (As := [.int (xs (nI (i + 1)).toNatClampNeg)]) (rest := [.int r1]) ⟨hx, hb, hml, hown, hts⟩ (cM_round l dC dI bd cs a (xq_bas Z.2) (xs (nI (i + 1)).toNatClampNeg)) (cq_cw 1 hts zm_R_round zl_W_65 zs_R_round ze_R_round zz_R rfl rfl (by decide +kernel) ⟨Nat.le_of_ble_eq_true rfl, Nat.le_of_ble_eq_true rfl⟩) hKR hW hS hA rfl hl.1 rfl (Nat.le_of_ble_eq_true rfl) zd_W_law_456 ⟨Nat.le_of_ble_eq_true rfl, Nat.le_of_ble_eq_true rfl⟩ (fun r2 u2 H locs hu2 hW hS => ?_)
  obtain ⟨e1, f1⟩ := hu1
  obtain ⟨e2, f2⟩ := hu2
  have hz : rq_Z n u1 u2 := by rw [f1, f2]; exact Z
  have he : r1 = r2 := by rw [e1, e2]; exact rq_get Z (by unfold rq_K; omega) (xs (nI (i + 1)).toNatClampNeg)
  exact lv_icmp_eq (tgt := 648) hx hb zd_W_law_459 (by decide) (fun _ => kk u1 u2 H locs ⟨hz, hW, hS⟩) (fun h => absurd he h)
set_option maxHeartbeats 4000000 in
set_option maxRecDepth 100000 in
theorem cq_case_10 {p : Program} {l : Launch} {e : Env} {s : State} {m : MethodId} {below : List Frame} {meth : Method} {c : Code} {b L : Nat} {xs : Nat → Int32} {dC : Nat → ClassId} {dI : Nat → Nat → Nat} {n : Nat} {ad : Nat → Nat} {cI cA : ClassId} {bd : Nat → Nat} {cs : Nat → ClassId} {Q : State → Prop} {i : Nat} {g a : cq_S} {H : Heap} {locs : List Loc} {ls : Array Slot} (X : cq_cx p s m meth c b L xs dC dI cI cA cs) (hi : i + 4 ≤ L) (B : cq_LS s dC dI n ad cI cA bd cs g a H locs) (hl : lv_has ls 4 [(3, .int (nI i)), (2, .ref (bd 0)), (1, .ref (ad 0)), (0, .ref b)])
    (kk : ∀ (g a : cq_S) (H : Heap) (locs : List Loc), cq_LS s dC dI n ad cI cA bd cs g a H locs → W p l e room_1 s m #[Value.ref b] below meth c H locs 45 14552 Q (F0 m 648 ls [])) : W p l e room_1 s m #[Value.ref b] below meth c H locs 45 14552 Q (F0 m 464 ls []) := by
  obtain ⟨hx, hb, hml, hown, hts, hX, hbl, hKC, hKR, hL⟩ := X
  obtain ⟨Z, hW, hS⟩ := B
  have hA : ∀ q : Nat, s.heap.size ≤ q → s.heap.size ≤ q := fun _ h => h
  have hbA : ¬ s.heap.size ≤ b := Nat.not_le.mpr hbl
  refine lv_aload_n hx hb zd_W_law_464 rfl (lv_at hl 2 rfl) ?_
  refine lv_aload_n hx hb zd_W_law_465 rfl (lv_at hl 3 rfl) ?_
  refine lv_iload_n hx hb zd_W_law_466 rfl (lv_at hl 0 rfl) ?_
  refine lv_iconst (v := nI 1) hx hb zd_W_law_467 (by decide) ?_
  refine cn_iadd hx hb zd_W_law_468 ?_
  refine va_sld hx hb hX hbl hbA hS (vp_in_nI (show i + 1 < L by omega) (by omega)) zd_W_law_469 ?_
  refine cq_callC (As := [.int (xs (nI (i + 1)).toNatClampNeg)]) (rest := []) ⟨hx, hb, hml, hown, hts⟩ (cC_C_estimate l dC dI n ad cI cA g (rq_bas Z) (xs (nI (i + 1)).toNatClampNeg)) (cq_cw 1 hts zm_C_estimate zl_W_66 zs_C_estimate ze_C_estimate zz_C rfl rfl (by decide +kernel) ⟨Nat.le_of_ble_eq_true rfl, Nat.le_of_ble_eq_true rfl⟩) hKC hW hS hA rfl hl.1 rfl (Nat.le_of_ble_eq_true rfl) zd_W_law_470 ⟨Nat.le_of_ble_eq_true rfl, Nat.le_of_ble_eq_true rfl⟩ (fun r1 u1 H locs hu1 hW hS => ?_)
  refine lv_aload_n hx hb zd_W_law_473 rfl (lv_at hl 1 rfl) ?_
  refine lv_aload_n hx hb zd_W_law_474 rfl (lv_at hl 3 rfl) ?_
  refine lv_iload_n hx hb zd_W_law_475 rfl (lv_at hl 0 rfl) ?_
  refine lv_iconst (v := nI 1) hx hb zd_W_law_476 (by decide) ?_
  refine cn_iadd hx hb zd_W_law_477 ?_
  refine va_sld hx hb hX hbl hbA hS (vp_in_nI (show i + 1 < L by omega) (by omega)) zd_W_law_478 ?_
  refine cq_callR (As := [.int (xs (nI (i + 1)).toNatClampNeg)]) (rest := [.int r1]) ⟨hx, hb, hml, hown, hts⟩ (cM_estimate l dC dI bd cs a (xq_bas Z.2) (xs (nI (i + 1)).toNatClampNeg)) (cq_cw 1 hts zm_R_estimate zl_W_69 zs_R_estimate ze_R_estimate zz_R rfl rfl (by decide +kernel) ⟨Nat.le_of_ble_eq_true rfl, Nat.le_of_ble_eq_true rfl⟩) hKR hW hS hA rfl hl.1 rfl (Nat.le_of_ble_eq_true rfl) zd_W_law_479 ⟨Nat.le_of_ble_eq_true rfl, Nat.le_of_ble_eq_true rfl⟩ (fun r2 u2 H locs hu2 hW hS => ?_)
  obtain ⟨e1, f1⟩ := hu1
  obtain ⟨e2, f2⟩ := hu2
  have hz : rq_Z n u1 u2 := by rw [f1, f2]; exact Z
  have he : r1 = r2 := by rw [e1, e2]; exact rq_get Z (by unfold rq_K; omega) (xs (nI (i + 1)).toNatClampNeg)
  exact lv_icmp_eq (tgt := 648) hx hb zd_W_law_482 (by decide) (fun _ => kk u1 u2 H locs ⟨hz, hW, hS⟩) (fun h => absurd he h)
set_option maxHeartbeats 4000000 in
set_option maxRecDepth 100000 in
theorem cq_case_11 {p : Program} {l : Launch} {e : Env} {s : State} {m : MethodId} {below : List Frame} {meth : Method} {c : Code} {b L : Nat} {xs : Nat → Int32} {dC : Nat → ClassId} {dI : Nat → Nat → Nat} {n : Nat} {ad : Nat → Nat} {cI cA : ClassId} {bd : Nat → Nat} {cs : Nat → ClassId} {Q : State → Prop} {i : Nat} {g a : cq_S} {H : Heap} {locs : List Loc} {ls : Array Slot} (X : cq_cx p s m meth c b L xs dC dI cI cA cs) (hi : i + 4 ≤ L) (B : cq_LS s dC dI n ad cI cA bd cs g a H locs) (hl : lv_has ls 4 [(3, .int (nI i)), (2, .ref (bd 0)), (1, .ref (ad 0)), (0, .ref b)])
    (kk : ∀ (g a : cq_S) (H : Heap) (locs : List Loc), cq_LS s dC dI n ad cI cA bd cs g a H locs → W p l e room_1 s m #[Value.ref b] below meth c H locs 45 14552 Q (F0 m 648 ls [])) : W p l e room_1 s m #[Value.ref b] below meth c H locs 45 14552 Q (F0 m 487 ls []) := by
  obtain ⟨hx, hb, hml, hown, hts, hX, hbl, hKC, hKR, hL⟩ := X
  obtain ⟨Z, hW, hS⟩ := B
  have hA : ∀ q : Nat, s.heap.size ≤ q → s.heap.size ≤ q := fun _ h => h
  have hbA : ¬ s.heap.size ≤ b := Nat.not_le.mpr hbl
  refine lv_aload_n hx hb zd_W_law_487 rfl (lv_at hl 2 rfl) ?_
  refine lv_aload_n hx hb zd_W_law_488 rfl (lv_at hl 3 rfl) ?_
  refine lv_iload_n hx hb zd_W_law_489 rfl (lv_at hl 0 rfl) ?_
  refine lv_iconst (v := nI 1) hx hb zd_W_law_490 (by decide) ?_
  refine cn_iadd hx hb zd_W_law_491 ?_
  refine va_sld hx hb hX hbl hbA hS (vp_in_nI (show i + 1 < L by omega) (by omega)) zd_W_law_492 ?_
  refine cq_callC (As := [.int (xs (nI (i + 1)).toNatClampNeg)]) (rest := []) ⟨hx, hb, hml, hown, hts⟩ (cC_C_stamp l dC dI n ad cI cA g (rq_bas Z) (xs (nI (i + 1)).toNatClampNeg)) (cq_cw 1 hts zm_C_stamp zl_W_70 zs_C_stamp ze_C_stamp zz_C rfl rfl (by decide +kernel) ⟨Nat.le_of_ble_eq_true rfl, Nat.le_of_ble_eq_true rfl⟩) hKC hW hS hA rfl hl.1 rfl (Nat.le_of_ble_eq_true rfl) zd_W_law_493 ⟨Nat.le_of_ble_eq_true rfl, Nat.le_of_ble_eq_true rfl⟩ (fun r1 u1 H locs hu1 hW hS => ?_)
  refine lv_aload_n hx hb zd_W_law_496 rfl (lv_at hl 1 rfl) ?_
  refine lv_aload_n hx hb zd_W_law_497 rfl (lv_at hl 3 rfl) ?_
  refine lv_iload_n hx hb zd_W_law_498 rfl (lv_at hl 0 rfl) ?_
  refine lv_iconst (v := nI 1) hx hb zd_W_law_499 (by decide) ?_
  refine cn_iadd hx hb zd_W_law_500 ?_
  refine va_sld hx hb hX hbl hbA hS (vp_in_nI (show i + 1 < L by omega) (by omega)) zd_W_law_501 ?_
  refine cq_callR (As := [.int (xs (nI (i + 1)).toNatClampNeg)]) (rest := [.int r1]) ⟨hx, hb, hml, hown, hts⟩ (cM_stamp l dC dI bd cs a (xq_bas Z.2) (xs (nI (i + 1)).toNatClampNeg)) (cq_cw 1 hts zm_R_stamp zl_W_73 zs_R_stamp ze_R_stamp zz_R rfl rfl (by decide +kernel) ⟨Nat.le_of_ble_eq_true rfl, Nat.le_of_ble_eq_true rfl⟩) hKR hW hS hA rfl hl.1 rfl (Nat.le_of_ble_eq_true rfl) zd_W_law_502 ⟨Nat.le_of_ble_eq_true rfl, Nat.le_of_ble_eq_true rfl⟩ (fun r2 u2 H locs hu2 hW hS => ?_)
  obtain ⟨e1, f1⟩ := hu1
  obtain ⟨e2, f2⟩ := hu2
  have hz : rq_Z n u1 u2 := by rw [f1, f2]; exact Z
  have he : r1 = r2 := by rw [e1, e2]; exact rq_get Z (by unfold rq_K; omega) (xs (nI (i + 1)).toNatClampNeg)
  exact lv_icmp_eq (tgt := 648) hx hb zd_W_law_505 (by decide) (fun _ => kk u1 u2 H locs ⟨hz, hW, hS⟩) (fun h => absurd he h)
set_option maxHeartbeats 4000000 in
set_option maxRecDepth 100000 in
theorem cq_case_12 {p : Program} {l : Launch} {e : Env} {s : State} {m : MethodId} {below : List Frame} {meth : Method} {c : Code} {b L : Nat} {xs : Nat → Int32} {dC : Nat → ClassId} {dI : Nat → Nat → Nat} {n : Nat} {ad : Nat → Nat} {cI cA : ClassId} {bd : Nat → Nat} {cs : Nat → ClassId} {Q : State → Prop} {i : Nat} {g a : cq_S} {H : Heap} {locs : List Loc} {ls : Array Slot} (X : cq_cx p s m meth c b L xs dC dI cI cA cs) (hi : i + 4 ≤ L) (B : cq_LS s dC dI n ad cI cA bd cs g a H locs) (hl : lv_has ls 4 [(3, .int (nI i)), (2, .ref (bd 0)), (1, .ref (ad 0)), (0, .ref b)])
    (kk : ∀ (g a : cq_S) (H : Heap) (locs : List Loc), cq_LS s dC dI n ad cI cA bd cs g a H locs → W p l e room_1 s m #[Value.ref b] below meth c H locs 45 14552 Q (F0 m 648 ls [])) : W p l e room_1 s m #[Value.ref b] below meth c H locs 45 14552 Q (F0 m 510 ls []) := by
  obtain ⟨hx, hb, hml, hown, hts, hX, hbl, hKC, hKR, hL⟩ := X
  obtain ⟨Z, hW, hS⟩ := B
  have hA : ∀ q : Nat, s.heap.size ≤ q → s.heap.size ≤ q := fun _ h => h
  have hbA : ¬ s.heap.size ≤ b := Nat.not_le.mpr hbl
  refine lv_aload_n hx hb zd_W_law_510 rfl (lv_at hl 2 rfl) ?_
  refine lv_aload_n hx hb zd_W_law_511 rfl (lv_at hl 3 rfl) ?_
  refine lv_iload_n hx hb zd_W_law_512 rfl (lv_at hl 0 rfl) ?_
  refine lv_iconst (v := nI 1) hx hb zd_W_law_513 (by decide) ?_
  refine cn_iadd hx hb zd_W_law_514 ?_
  refine va_sld hx hb hX hbl hbA hS (vp_in_nI (show i + 1 < L by omega) (by omega)) zd_W_law_515 ?_
  refine cq_callC (As := [.int (xs (nI (i + 1)).toNatClampNeg)]) (rest := []) ⟨hx, hb, hml, hown, hts⟩ (cC_C_known l dC dI n ad cI cA g (rq_bas Z) (xs (nI (i + 1)).toNatClampNeg)) (cq_cw 1 hts zm_C_known zl_W_74 zs_C_known ze_C_known zz_C rfl rfl (by decide +kernel) ⟨Nat.le_of_ble_eq_true rfl, Nat.le_of_ble_eq_true rfl⟩) hKC hW hS hA rfl hl.1 rfl (Nat.le_of_ble_eq_true rfl) zd_W_law_516 ⟨Nat.le_of_ble_eq_true rfl, Nat.le_of_ble_eq_true rfl⟩ (fun r1 u1 H locs hu1 hW hS => ?_)
  refine lv_aload_n hx hb zd_W_law_519 rfl (lv_at hl 1 rfl) ?_
  refine lv_aload_n hx hb zd_W_law_520 rfl (lv_at hl 3 rfl) ?_
  refine lv_iload_n hx hb zd_W_law_521 rfl (lv_at hl 0 rfl) ?_
  refine lv_iconst (v := nI 1) hx hb zd_W_law_522 (by decide) ?_
  refine cn_iadd hx hb zd_W_law_523 ?_
  refine va_sld hx hb hX hbl hbA hS (vp_in_nI (show i + 1 < L by omega) (by omega)) zd_W_law_524 ?_
  refine cq_callR (As := [.int (xs (nI (i + 1)).toNatClampNeg)]) (rest := [.int r1]) ⟨hx, hb, hml, hown, hts⟩ (cM_known l dC dI bd cs a (xq_bas Z.2) (xs (nI (i + 1)).toNatClampNeg)) (cq_cw 1 hts zm_R_known zl_W_77 zs_R_known ze_R_known zz_R rfl rfl (by decide +kernel) ⟨Nat.le_of_ble_eq_true rfl, Nat.le_of_ble_eq_true rfl⟩) hKR hW hS hA rfl hl.1 rfl (Nat.le_of_ble_eq_true rfl) zd_W_law_525 ⟨Nat.le_of_ble_eq_true rfl, Nat.le_of_ble_eq_true rfl⟩ (fun r2 u2 H locs hu2 hW hS => ?_)
  obtain ⟨e1, f1⟩ := hu1
  obtain ⟨e2, f2⟩ := hu2
  have hz : rq_Z n u1 u2 := by rw [f1, f2]; exact Z
  have he : r1 = r2 := by rw [e1, e2]; exact rq_get Z (by unfold rq_K; omega) (xs (nI (i + 1)).toNatClampNeg)
  exact lv_icmp_eq (tgt := 648) hx hb zd_W_law_528 (by decide) (fun _ => kk u1 u2 H locs ⟨hz, hW, hS⟩) (fun h => absurd he h)
set_option maxHeartbeats 4000000 in
set_option maxRecDepth 100000 in
theorem cq_case_13 {p : Program} {l : Launch} {e : Env} {s : State} {m : MethodId} {below : List Frame} {meth : Method} {c : Code} {b L : Nat} {xs : Nat → Int32} {dC : Nat → ClassId} {dI : Nat → Nat → Nat} {n : Nat} {ad : Nat → Nat} {cI cA : ClassId} {bd : Nat → Nat} {cs : Nat → ClassId} {Q : State → Prop} {i : Nat} {g a : cq_S} {H : Heap} {locs : List Loc} {ls : Array Slot} (X : cq_cx p s m meth c b L xs dC dI cI cA cs) (hi : i + 4 ≤ L) (B : cq_LS s dC dI n ad cI cA bd cs g a H locs) (hl : lv_has ls 4 [(3, .int (nI i)), (2, .ref (bd 0)), (1, .ref (ad 0)), (0, .ref b)])
    (kk : ∀ (g a : cq_S) (H : Heap) (locs : List Loc), cq_LS s dC dI n ad cI cA bd cs g a H locs → W p l e room_1 s m #[Value.ref b] below meth c H locs 45 14552 Q (F0 m 648 ls [])) : W p l e room_1 s m #[Value.ref b] below meth c H locs 45 14552 Q (F0 m 533 ls []) := by
  obtain ⟨hx, hb, hml, hown, hts, hX, hbl, hKC, hKR, hL⟩ := X
  obtain ⟨Z, hW, hS⟩ := B
  have hA : ∀ q : Nat, s.heap.size ≤ q → s.heap.size ≤ q := fun _ h => h
  have hbA : ¬ s.heap.size ≤ b := Nat.not_le.mpr hbl
  refine lv_aload_n hx hb zd_W_law_533 rfl (lv_at hl 2 rfl) ?_
  refine lv_aload_n hx hb zd_W_law_534 rfl (lv_at hl 3 rfl) ?_
  refine lv_iload_n hx hb zd_W_law_535 rfl (lv_at hl 0 rfl) ?_
  refine lv_iconst (v := nI 1) hx hb zd_W_law_536 (by decide) ?_
  refine cn_iadd hx hb zd_W_law_537 ?_
  refine va_sld hx hb hX hbl hbA hS (vp_in_nI (show i + 1 < L by omega) (by omega)) zd_W_law_538 ?_
  refine cq_callC (As := [.int (xs (nI (i + 1)).toNatClampNeg)]) (rest := []) ⟨hx, hb, hml, hown, hts⟩ (cC_C_delivered l dC dI n ad cI cA g (rq_bas Z) (xs (nI (i + 1)).toNatClampNeg)) (cq_cw 1 hts zm_C_delivered zl_W_78 zs_C_delivered ze_C_delivered zz_C rfl rfl (by decide +kernel) ⟨Nat.le_of_ble_eq_true rfl, Nat.le_of_ble_eq_true rfl⟩) hKC hW hS hA rfl hl.1 rfl (Nat.le_of_ble_eq_true rfl) zd_W_law_539 ⟨Nat.le_of_ble_eq_true rfl, Nat.le_of_ble_eq_true rfl⟩ (fun r1 u1 H locs hu1 hW hS => ?_)
  refine lv_aload_n hx hb zd_W_law_542 rfl (lv_at hl 1 rfl) ?_
  refine lv_aload_n hx hb zd_W_law_543 rfl (lv_at hl 3 rfl) ?_
  refine lv_iload_n hx hb zd_W_law_544 rfl (lv_at hl 0 rfl) ?_
  refine lv_iconst (v := nI 1) hx hb zd_W_law_545 (by decide) ?_
  refine cn_iadd hx hb zd_W_law_546 ?_
  refine va_sld hx hb hX hbl hbA hS (vp_in_nI (show i + 1 < L by omega) (by omega)) zd_W_law_547 ?_
  refine cq_callR (As := [.int (xs (nI (i + 1)).toNatClampNeg)]) (rest := [.int r1]) ⟨hx, hb, hml, hown, hts⟩ (cM_delivered l dC dI bd cs a (xq_bas Z.2) (xs (nI (i + 1)).toNatClampNeg)) (cq_cw 1 hts zm_R_delivered zl_W_81 zs_R_delivered ze_R_delivered zz_R rfl rfl (by decide +kernel) ⟨Nat.le_of_ble_eq_true rfl, Nat.le_of_ble_eq_true rfl⟩) hKR hW hS hA rfl hl.1 rfl (Nat.le_of_ble_eq_true rfl) zd_W_law_548 ⟨Nat.le_of_ble_eq_true rfl, Nat.le_of_ble_eq_true rfl⟩ (fun r2 u2 H locs hu2 hW hS => ?_)
  obtain ⟨e1, f1⟩ := hu1
  obtain ⟨e2, f2⟩ := hu2
  have hz : rq_Z n u1 u2 := by rw [f1, f2]; exact Z
  have he : r1 = r2 := by rw [e1, e2]; exact rq_get Z (by unfold rq_K; omega) (xs (nI (i + 1)).toNatClampNeg)
  exact lv_icmp_eq (tgt := 648) hx hb zd_W_law_551 (by decide) (fun _ => kk u1 u2 H locs ⟨hz, hW, hS⟩) (fun h => absurd he h)
set_option maxHeartbeats 4000000 in
set_option maxRecDepth 100000 in
theorem cq_case_14 {p : Program} {l : Launch} {e : Env} {s : State} {m : MethodId} {below : List Frame} {meth : Method} {c : Code} {b L : Nat} {xs : Nat → Int32} {dC : Nat → ClassId} {dI : Nat → Nat → Nat} {n : Nat} {ad : Nat → Nat} {cI cA : ClassId} {bd : Nat → Nat} {cs : Nat → ClassId} {Q : State → Prop} {i : Nat} {g a : cq_S} {H : Heap} {locs : List Loc} {ls : Array Slot} (X : cq_cx p s m meth c b L xs dC dI cI cA cs) (hi : i + 4 ≤ L) (B : cq_LS s dC dI n ad cI cA bd cs g a H locs) (hl : lv_has ls 4 [(3, .int (nI i)), (2, .ref (bd 0)), (1, .ref (ad 0)), (0, .ref b)])
    (kk : ∀ (g a : cq_S) (H : Heap) (locs : List Loc), cq_LS s dC dI n ad cI cA bd cs g a H locs → W p l e room_1 s m #[Value.ref b] below meth c H locs 45 14552 Q (F0 m 648 ls [])) : W p l e room_1 s m #[Value.ref b] below meth c H locs 45 14552 Q (F0 m 556 ls []) := by
  obtain ⟨hx, hb, hml, hown, hts, hX, hbl, hKC, hKR, hL⟩ := X
  obtain ⟨Z, hW, hS⟩ := B
  have hA : ∀ q : Nat, s.heap.size ≤ q → s.heap.size ≤ q := fun _ h => h
  have hbA : ¬ s.heap.size ≤ b := Nat.not_le.mpr hbl
  refine lv_aload_n hx hb zd_W_law_556 rfl (lv_at hl 2 rfl) ?_
  refine lv_aload_n hx hb zd_W_law_557 rfl (lv_at hl 3 rfl) ?_
  refine lv_iload_n hx hb zd_W_law_558 rfl (lv_at hl 0 rfl) ?_
  refine lv_iconst (v := nI 1) hx hb zd_W_law_559 (by decide) ?_
  refine cn_iadd hx hb zd_W_law_560 ?_
  refine va_sld hx hb hX hbl hbA hS (vp_in_nI (show i + 1 < L by omega) (by omega)) zd_W_law_561 ?_
  refine lv_aload_n hx hb zd_W_law_562 rfl (lv_at hl 3 rfl) ?_
  refine lv_iload_n hx hb zd_W_law_563 rfl (lv_at hl 0 rfl) ?_
  refine lv_iconst (v := nI 2) hx hb zd_W_law_564 (by decide) ?_
  refine cn_iadd hx hb zd_W_law_565 ?_
  refine va_sld hx hb hX hbl hbA hS (vp_in_nI (show i + 2 < L by omega) (by omega)) zd_W_law_566 ?_
  refine cq_callC (As := [.int (xs (nI (i + 1)).toNatClampNeg), .int (xs (nI (i + 2)).toNatClampNeg)]) (rest := []) ⟨hx, hb, hml, hown, hts⟩ (cC_C_deliveredAt l dC dI n ad cI cA g (rq_bas Z) (xs (nI (i + 1)).toNatClampNeg) (xs (nI (i + 2)).toNatClampNeg)) (cq_cw 2 hts zm_C_deliveredAt zl_W_82 zs_C_deliveredAt ze_C_deliveredAt zz_C rfl rfl (by decide +kernel) ⟨Nat.le_of_ble_eq_true rfl, Nat.le_of_ble_eq_true rfl⟩) hKC hW hS hA rfl hl.1 rfl (Nat.le_of_ble_eq_true rfl) zd_W_law_567 ⟨Nat.le_of_ble_eq_true rfl, Nat.le_of_ble_eq_true rfl⟩ (fun r1 u1 H locs hu1 hW hS => ?_)
  refine lv_aload_n hx hb zd_W_law_570 rfl (lv_at hl 1 rfl) ?_
  refine lv_aload_n hx hb zd_W_law_571 rfl (lv_at hl 3 rfl) ?_
  refine lv_iload_n hx hb zd_W_law_572 rfl (lv_at hl 0 rfl) ?_
  refine lv_iconst (v := nI 1) hx hb zd_W_law_573 (by decide) ?_
  refine cn_iadd hx hb zd_W_law_574 ?_
  refine va_sld hx hb hX hbl hbA hS (vp_in_nI (show i + 1 < L by omega) (by omega)) zd_W_law_575 ?_
  refine lv_aload_n hx hb zd_W_law_576 rfl (lv_at hl 3 rfl) ?_
  refine lv_iload_n hx hb zd_W_law_577 rfl (lv_at hl 0 rfl) ?_
  refine lv_iconst (v := nI 2) hx hb zd_W_law_578 (by decide) ?_
  refine cn_iadd hx hb zd_W_law_579 ?_
  refine va_sld hx hb hX hbl hbA hS (vp_in_nI (show i + 2 < L by omega) (by omega)) zd_W_law_580 ?_
  refine cq_callR (As := [.int (xs (nI (i + 1)).toNatClampNeg), .int (xs (nI (i + 2)).toNatClampNeg)]) (rest := [.int r1]) ⟨hx, hb, hml, hown, hts⟩ (cM_deliveredAt l dC dI bd cs a (xq_bas Z.2) (xs (nI (i + 1)).toNatClampNeg) (xs (nI (i + 2)).toNatClampNeg)) (cq_cw 2 hts zm_R_deliveredAt zl_W_85 zs_R_deliveredAt ze_R_deliveredAt zz_R rfl rfl (by decide +kernel) ⟨Nat.le_of_ble_eq_true rfl, Nat.le_of_ble_eq_true rfl⟩) hKR hW hS hA rfl hl.1 rfl (Nat.le_of_ble_eq_true rfl) zd_W_law_581 ⟨Nat.le_of_ble_eq_true rfl, Nat.le_of_ble_eq_true rfl⟩ (fun r2 u2 H locs hu2 hW hS => ?_)
  obtain ⟨e1, f1⟩ := hu1
  obtain ⟨e2, f2⟩ := hu2
  have hz : rq_Z n u1 u2 := by rw [f1, f2]; exact Z
  have he : r1 = r2 := by rw [e1, e2]; exact rq_dAt Z (xs (nI (i + 1)).toNatClampNeg) (xs (nI (i + 2)).toNatClampNeg)
  exact lv_icmp_eq (tgt := 648) hx hb zd_W_law_584 (by decide) (fun _ => kk u1 u2 H locs ⟨hz, hW, hS⟩) (fun h => absurd he h)
set_option maxHeartbeats 4000000 in
set_option maxRecDepth 100000 in
theorem cq_case_15 {p : Program} {l : Launch} {e : Env} {s : State} {m : MethodId} {below : List Frame} {meth : Method} {c : Code} {b L : Nat} {xs : Nat → Int32} {dC : Nat → ClassId} {dI : Nat → Nat → Nat} {n : Nat} {ad : Nat → Nat} {cI cA : ClassId} {bd : Nat → Nat} {cs : Nat → ClassId} {Q : State → Prop} {i : Nat} {g a : cq_S} {H : Heap} {locs : List Loc} {ls : Array Slot} (X : cq_cx p s m meth c b L xs dC dI cI cA cs) (hi : i + 4 ≤ L) (B : cq_LS s dC dI n ad cI cA bd cs g a H locs) (hl : lv_has ls 4 [(3, .int (nI i)), (2, .ref (bd 0)), (1, .ref (ad 0)), (0, .ref b)])
    (kk : ∀ (g a : cq_S) (H : Heap) (locs : List Loc), cq_LS s dC dI n ad cI cA bd cs g a H locs → W p l e room_1 s m #[Value.ref b] below meth c H locs 45 14552 Q (F0 m 648 ls [])) : W p l e room_1 s m #[Value.ref b] below meth c H locs 45 14552 Q (F0 m 589 ls []) := by
  obtain ⟨hx, hb, hml, hown, hts, hX, hbl, hKC, hKR, hL⟩ := X
  obtain ⟨Z, hW, hS⟩ := B
  have hA : ∀ q : Nat, s.heap.size ≤ q → s.heap.size ≤ q := fun _ h => h
  have hbA : ¬ s.heap.size ≤ b := Nat.not_le.mpr hbl
  refine lv_aload_n hx hb zd_W_law_589 rfl (lv_at hl 2 rfl) ?_
  refine lv_aload_n hx hb zd_W_law_590 rfl (lv_at hl 3 rfl) ?_
  refine lv_iload_n hx hb zd_W_law_591 rfl (lv_at hl 0 rfl) ?_
  refine lv_iconst (v := nI 1) hx hb zd_W_law_592 (by decide) ?_
  refine cn_iadd hx hb zd_W_law_593 ?_
  refine va_sld hx hb hX hbl hbA hS (vp_in_nI (show i + 1 < L by omega) (by omega)) zd_W_law_594 ?_
  refine lv_aload_n hx hb zd_W_law_595 rfl (lv_at hl 3 rfl) ?_
  refine lv_iload_n hx hb zd_W_law_596 rfl (lv_at hl 0 rfl) ?_
  refine lv_iconst (v := nI 2) hx hb zd_W_law_597 (by decide) ?_
  refine cn_iadd hx hb zd_W_law_598 ?_
  refine va_sld hx hb hX hbl hbA hS (vp_in_nI (show i + 2 < L by omega) (by omega)) zd_W_law_599 ?_
  refine cq_callC (As := [.int (xs (nI (i + 1)).toNatClampNeg), .int (xs (nI (i + 2)).toNatClampNeg)]) (rest := []) ⟨hx, hb, hml, hown, hts⟩ (cC_C_verdict l dC dI n ad cI cA g (rq_bas Z) (xs (nI (i + 1)).toNatClampNeg) (xs (nI (i + 2)).toNatClampNeg)) (cq_cw 2 hts zm_C_verdict zl_W_86 zs_C_verdict ze_C_verdict zz_C rfl rfl (by decide +kernel) ⟨Nat.le_of_ble_eq_true rfl, Nat.le_of_ble_eq_true rfl⟩) hKC hW hS hA rfl hl.1 rfl (Nat.le_of_ble_eq_true rfl) zd_W_law_600 ⟨Nat.le_of_ble_eq_true rfl, Nat.le_of_ble_eq_true rfl⟩ (fun r1 u1 H locs hu1 hW hS => ?_)
  refine lv_aload_n hx hb zd_W_law_603 rfl (lv_at hl 1 rfl) ?_
  refine lv_aload_n hx hb zd_W_law_604 rfl (lv_at hl 3 rfl) ?_
  refine lv_iload_n hx hb zd_W_law_605 rfl (lv_at hl 0 rfl) ?_
  refine lv_iconst (v := nI 1) hx hb zd_W_law_606 (by decide) ?_
  refine cn_iadd hx hb zd_W_law_607 ?_
  refine va_sld hx hb hX hbl hbA hS (vp_in_nI (show i + 1 < L by omega) (by omega)) zd_W_law_608 ?_
  refine lv_aload_n hx hb zd_W_law_609 rfl (lv_at hl 3 rfl) ?_
  refine lv_iload_n hx hb zd_W_law_610 rfl (lv_at hl 0 rfl) ?_
  refine lv_iconst (v := nI 2) hx hb zd_W_law_611 (by decide) ?_
  refine cn_iadd hx hb zd_W_law_612 ?_
  refine va_sld hx hb hX hbl hbA hS (vp_in_nI (show i + 2 < L by omega) (by omega)) zd_W_law_613 ?_
  refine cq_callR (As := [.int (xs (nI (i + 1)).toNatClampNeg), .int (xs (nI (i + 2)).toNatClampNeg)]) (rest := [.int r1]) ⟨hx, hb, hml, hown, hts⟩ (cM_verdict l dC dI bd cs a (xq_bas Z.2) (xs (nI (i + 1)).toNatClampNeg) (xs (nI (i + 2)).toNatClampNeg)) (cq_cw 2 hts zm_R_verdict zl_W_89 zs_R_verdict ze_R_verdict zz_R rfl rfl (by decide +kernel) ⟨Nat.le_of_ble_eq_true rfl, Nat.le_of_ble_eq_true rfl⟩) hKR hW hS hA rfl hl.1 rfl (Nat.le_of_ble_eq_true rfl) zd_W_law_614 ⟨Nat.le_of_ble_eq_true rfl, Nat.le_of_ble_eq_true rfl⟩ (fun r2 u2 H locs hu2 hW hS => ?_)
  obtain ⟨e1, f1⟩ := hu1
  obtain ⟨e2, f2⟩ := hu2
  have hz : rq_Z n u1 u2 := by rw [f1, f2]; exact Z
  have he : r1 = r2 := by rw [e1, e2]; exact rq_verdict Z (xs (nI (i + 1)).toNatClampNeg) (xs (nI (i + 2)).toNatClampNeg)
  exact lv_icmp_eq (tgt := 648) hx hb zd_W_law_617 (by decide) (fun _ => kk u1 u2 H locs ⟨hz, hW, hS⟩) (fun h => absurd he h)
set_option maxHeartbeats 4000000 in
set_option maxRecDepth 100000 in
theorem cq_case_16 {p : Program} {l : Launch} {e : Env} {s : State} {m : MethodId} {below : List Frame} {meth : Method} {c : Code} {b L : Nat} {xs : Nat → Int32} {dC : Nat → ClassId} {dI : Nat → Nat → Nat} {n : Nat} {ad : Nat → Nat} {cI cA : ClassId} {bd : Nat → Nat} {cs : Nat → ClassId} {Q : State → Prop} {i : Nat} {g a : cq_S} {H : Heap} {locs : List Loc} {ls : Array Slot} (X : cq_cx p s m meth c b L xs dC dI cI cA cs) (hi : i + 4 ≤ L) (B : cq_LS s dC dI n ad cI cA bd cs g a H locs) (hl : lv_has ls 4 [(3, .int (nI i)), (2, .ref (bd 0)), (1, .ref (ad 0)), (0, .ref b)])
    (kk : ∀ (g a : cq_S) (H : Heap) (locs : List Loc), cq_LS s dC dI n ad cI cA bd cs g a H locs → W p l e room_1 s m #[Value.ref b] below meth c H locs 45 14552 Q (F0 m 648 ls [])) : W p l e room_1 s m #[Value.ref b] below meth c H locs 45 14552 Q (F0 m 622 ls []) := by
  obtain ⟨hx, hb, hml, hown, hts, hX, hbl, hKC, hKR, hL⟩ := X
  obtain ⟨Z, hW, hS⟩ := B
  have hA : ∀ q : Nat, s.heap.size ≤ q → s.heap.size ≤ q := fun _ h => h
  have hbA : ¬ s.heap.size ≤ b := Nat.not_le.mpr hbl
  refine lv_aload_n hx hb zd_W_law_622 rfl (lv_at hl 2 rfl) ?_
  refine cq_callC (As := []) (rest := []) ⟨hx, hb, hml, hown, hts⟩ (cC_C_majority l dC dI n ad cI cA g (rq_bas Z).1) (cq_cw 0 hts zm_C_majority zl_W_90 zs_C_majority ze_C_majority zz_C rfl rfl (by decide +kernel) ⟨Nat.le_of_ble_eq_true rfl, Nat.le_of_ble_eq_true rfl⟩) hKC hW hS hA rfl hl.1 rfl (Nat.le_of_ble_eq_true rfl) zd_W_law_623 ⟨Nat.le_of_ble_eq_true rfl, Nat.le_of_ble_eq_true rfl⟩ (fun r1 u1 H locs hu1 hW hS => ?_)
  refine lv_aload_n hx hb zd_W_law_626 rfl (lv_at hl 1 rfl) ?_
  refine cq_callR (As := []) (rest := [.int r1]) ⟨hx, hb, hml, hown, hts⟩ (cM_majority l dC dI bd cs a (xq_bas Z.2).1) (cq_cw 0 hts zm_R_majority zl_W_94 zs_R_majority ze_R_majority zz_R rfl rfl (by decide +kernel) ⟨Nat.le_of_ble_eq_true rfl, Nat.le_of_ble_eq_true rfl⟩) hKR hW hS hA rfl hl.1 rfl (Nat.le_of_ble_eq_true rfl) zd_W_law_627 ⟨Nat.le_of_ble_eq_true rfl, Nat.le_of_ble_eq_true rfl⟩ (fun r2 u2 H locs hu2 hW hS => ?_)
  obtain ⟨e1, f1⟩ := hu1
  obtain ⟨e2, f2⟩ := hu2
  have hz : rq_Z n u1 u2 := by rw [f1, f2]; exact Z
  have he : r1 = r2 := by rw [e1, e2]; exact rq_maj Z
  exact lv_icmp_eq (tgt := 648) hx hb zd_W_law_630 (by decide) (fun _ => kk u1 u2 H locs ⟨hz, hW, hS⟩) (fun h => absurd he h)
set_option maxHeartbeats 4000000 in
set_option maxRecDepth 100000 in
theorem cq_case_17 {p : Program} {l : Launch} {e : Env} {s : State} {m : MethodId} {below : List Frame} {meth : Method} {c : Code} {b L : Nat} {xs : Nat → Int32} {dC : Nat → ClassId} {dI : Nat → Nat → Nat} {n : Nat} {ad : Nat → Nat} {cI cA : ClassId} {bd : Nat → Nat} {cs : Nat → ClassId} {Q : State → Prop} {i : Nat} {g a : cq_S} {H : Heap} {locs : List Loc} {ls : Array Slot} (X : cq_cx p s m meth c b L xs dC dI cI cA cs) (hi : i + 4 ≤ L) (B : cq_LS s dC dI n ad cI cA bd cs g a H locs) (hl : lv_has ls 4 [(3, .int (nI i)), (2, .ref (bd 0)), (1, .ref (ad 0)), (0, .ref b)])
    (kk : ∀ (g a : cq_S) (H : Heap) (locs : List Loc), cq_LS s dC dI n ad cI cA bd cs g a H locs → W p l e room_1 s m #[Value.ref b] below meth c H locs 45 14552 Q (F0 m 648 ls [])) : W p l e room_1 s m #[Value.ref b] below meth c H locs 45 14552 Q (F0 m 635 ls []) := by
  obtain ⟨hx, hb, hml, hown, hts, hX, hbl, hKC, hKR, hL⟩ := X
  obtain ⟨Z, hW, hS⟩ := B
  have hA : ∀ q : Nat, s.heap.size ≤ q → s.heap.size ≤ q := fun _ h => h
  have hbA : ¬ s.heap.size ≤ b := Nat.not_le.mpr hbl
  refine lv_aload_n hx hb zd_W_law_635 rfl (lv_at hl 2 rfl) ?_
  refine cq_callC (As := []) (rest := []) ⟨hx, hb, hml, hown, hts⟩ (cC_C_messages l dC dI n ad cI cA g ) (cq_cw 0 hts zm_C_messages zl_W_95 zs_C_messages ze_C_messages zz_C rfl rfl (by decide +kernel) ⟨Nat.le_of_ble_eq_true rfl, Nat.le_of_ble_eq_true rfl⟩) hKC hW hS hA rfl hl.1 rfl (Nat.le_of_ble_eq_true rfl) zd_W_law_636 ⟨Nat.le_of_ble_eq_true rfl, Nat.le_of_ble_eq_true rfl⟩ (fun r1 u1 H locs hu1 hW hS => ?_)
  refine lv_aload_n hx hb zd_W_law_639 rfl (lv_at hl 1 rfl) ?_
  refine cq_callR (As := []) (rest := [.int r1]) ⟨hx, hb, hml, hown, hts⟩ (cM_messages l dC dI bd cs a ) (cq_cw 0 hts zm_R_messages zl_W_98 zs_R_messages ze_R_messages zz_R rfl rfl (by decide +kernel) ⟨Nat.le_of_ble_eq_true rfl, Nat.le_of_ble_eq_true rfl⟩) hKR hW hS hA rfl hl.1 rfl (Nat.le_of_ble_eq_true rfl) zd_W_law_640 ⟨Nat.le_of_ble_eq_true rfl, Nat.le_of_ble_eq_true rfl⟩ (fun r2 u2 H locs hu2 hW hS => ?_)
  obtain ⟨e1, f1⟩ := hu1
  obtain ⟨e2, f2⟩ := hu2
  have hz : rq_Z n u1 u2 := by rw [f1, f2]; exact Z
  have he : r1 = r2 := by rw [e1, e2]; exact rq_msg Z
  exact lv_icmp_eq (tgt := 648) hx hb zd_W_law_643 (by decide) (fun _ => kk u1 u2 H locs ⟨hz, hW, hS⟩) (fun h => absurd he h)
