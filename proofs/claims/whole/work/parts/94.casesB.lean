/-! The law's cases that change the group. -/
set_option maxHeartbeats 4000000 in
set_option maxRecDepth 100000 in
theorem cq_case_0 {p : Program} {l : Launch} {e : Env} {s : State} {m : MethodId} {below : List Frame} {meth : Method} {c : Code} {b L : Nat} {xs : Nat → Int32} {dC : Nat → ClassId} {dI : Nat → Nat → Nat} {n : Nat} {ad : Nat → Nat} {cI cA : ClassId} {bd : Nat → Nat} {cs : Nat → ClassId} {Q : State → Prop} {i : Nat} {g a : cq_S} {H : Heap} {locs : List Loc} {ls : Array Slot} (X : cq_cx p s m meth c b L xs dC dI cI cA cs) (hi : i + 4 ≤ L) (B : cq_LS s dC dI n ad cI cA bd cs g a H locs) (hl : lv_has ls 4 [(3, .int (nI i)), (2, .ref (bd 0)), (1, .ref (ad 0)), (0, .ref b)])
    (kk : ∀ (g a : cq_S) (H : Heap) (locs : List Loc), cq_LS s dC dI n ad cI cA bd cs g a H locs → W p l e room_1 s m #[Value.ref b] below meth c H locs 45 14552 Q (F0 m 648 ls [])) : W p l e room_1 s m #[Value.ref b] below meth c H locs 45 14552 Q (F0 m 128 ls []) := by
  obtain ⟨hx, hb, hml, hown, hts, hX, hbl, hKC, hKR, hL⟩ := X
  obtain ⟨Z, hW, hS⟩ := B
  have hA : ∀ q : Nat, s.heap.size ≤ q → s.heap.size ≤ q := fun _ h => h
  have hbA : ¬ s.heap.size ≤ b := Nat.not_le.mpr hbl
  refine lv_aload_n hx hb zd_W_law_128 rfl (lv_at hl 2 rfl) ?_
  refine lv_aload_n hx hb zd_W_law_129 rfl (lv_at hl 3 rfl) ?_
  refine lv_iload_n hx hb zd_W_law_130 rfl (lv_at hl 0 rfl) ?_
  refine lv_iconst (v := nI 1) hx hb zd_W_law_131 (by decide) ?_
  refine cn_iadd hx hb zd_W_law_132 ?_
  refine va_sld hx hb hX hbl hbA hS (vp_in_nI (show i + 1 < L by omega) (by omega)) zd_W_law_133 ?_
  refine cq_callC (As := [.int (xs (nI (i + 1)).toNatClampNeg)]) (rest := []) ⟨hx, hb, hml, hown, hts⟩ (cC_C_broadcast l dC dI n ad cI cA g (rq_bas Z) (xs (nI (i + 1)).toNatClampNeg) (rq_okb Z (xs (nI (i + 1)).toNatClampNeg)).1) (cq_cw 1 hts zm_C_broadcast zl_W_21 zs_C_broadcast ze_C_broadcast zz_C rfl rfl (by decide +kernel) ⟨Nat.le_of_ble_eq_true rfl, Nat.le_of_ble_eq_true rfl⟩) hKC hW hS hA rfl hl.1 rfl (Nat.le_of_ble_eq_true rfl) zd_W_law_134 ⟨Nat.le_of_ble_eq_true rfl, Nat.le_of_ble_eq_true rfl⟩ (fun r1 u1 H locs hu1 hW hS => ?_)
  refine lv_aload_n hx hb zd_W_law_137 rfl (lv_at hl 1 rfl) ?_
  refine lv_aload_n hx hb zd_W_law_138 rfl (lv_at hl 3 rfl) ?_
  refine lv_iload_n hx hb zd_W_law_139 rfl (lv_at hl 0 rfl) ?_
  refine lv_iconst (v := nI 1) hx hb zd_W_law_140 (by decide) ?_
  refine cn_iadd hx hb zd_W_law_141 ?_
  refine va_sld hx hb hX hbl hbA hS (vp_in_nI (show i + 1 < L by omega) (by omega)) zd_W_law_142 ?_
  refine cq_callR (As := [.int (xs (nI (i + 1)).toNatClampNeg)]) (rest := [.int r1]) ⟨hx, hb, hml, hown, hts⟩ (cM_broadcast l dC dI bd cs a (xq_bas Z.2) (xs (nI (i + 1)).toNatClampNeg) (rq_okb Z (xs (nI (i + 1)).toNatClampNeg)).2) (cq_cw 1 hts zm_R_broadcast zl_W_25 zs_R_broadcast ze_R_broadcast zz_R rfl rfl (by decide +kernel) ⟨Nat.le_of_ble_eq_true rfl, Nat.le_of_ble_eq_true rfl⟩) hKR hW hS hA rfl hl.1 rfl (Nat.le_of_ble_eq_true rfl) zd_W_law_143 ⟨Nat.le_of_ble_eq_true rfl, Nat.le_of_ble_eq_true rfl⟩ (fun r2 u2 H locs hu2 hW hS => ?_)
  have hz := rq_bcast Z (xs (nI (i + 1)).toNatClampNeg)
  rw [← hu1, ← hu2] at hz
  have he : r1 = r2 := hz.1
  have hz : rq_Z n u1 u2 := hz.2
  exact lv_icmp_eq (tgt := 648) hx hb zd_W_law_146 (by decide) (fun _ => kk u1 u2 H locs ⟨hz, hW, hS⟩) (fun h => absurd he h)
set_option maxHeartbeats 4000000 in
set_option maxRecDepth 100000 in
theorem cq_case_1 {p : Program} {l : Launch} {e : Env} {s : State} {m : MethodId} {below : List Frame} {meth : Method} {c : Code} {b L : Nat} {xs : Nat → Int32} {dC : Nat → ClassId} {dI : Nat → Nat → Nat} {n : Nat} {ad : Nat → Nat} {cI cA : ClassId} {bd : Nat → Nat} {cs : Nat → ClassId} {Q : State → Prop} {i : Nat} {g a : cq_S} {H : Heap} {locs : List Loc} {ls : Array Slot} (X : cq_cx p s m meth c b L xs dC dI cI cA cs) (hi : i + 4 ≤ L) (B : cq_LS s dC dI n ad cI cA bd cs g a H locs) (hl : lv_has ls 4 [(3, .int (nI i)), (2, .ref (bd 0)), (1, .ref (ad 0)), (0, .ref b)])
    (kk : ∀ (g a : cq_S) (H : Heap) (locs : List Loc), cq_LS s dC dI n ad cI cA bd cs g a H locs → W p l e room_1 s m #[Value.ref b] below meth c H locs 45 14552 Q (F0 m 648 ls [])) : W p l e room_1 s m #[Value.ref b] below meth c H locs 45 14552 Q (F0 m 151 ls []) := by
  obtain ⟨hx, hb, hml, hown, hts, hX, hbl, hKC, hKR, hL⟩ := X
  obtain ⟨Z, hW, hS⟩ := B
  have hA : ∀ q : Nat, s.heap.size ≤ q → s.heap.size ≤ q := fun _ h => h
  have hbA : ¬ s.heap.size ≤ b := Nat.not_le.mpr hbl
  refine lv_aload_n hx hb zd_W_law_151 rfl (lv_at hl 2 rfl) ?_
  refine lv_aload_n hx hb zd_W_law_152 rfl (lv_at hl 3 rfl) ?_
  refine lv_iload_n hx hb zd_W_law_153 rfl (lv_at hl 0 rfl) ?_
  refine lv_iconst (v := nI 1) hx hb zd_W_law_154 (by decide) ?_
  refine cn_iadd hx hb zd_W_law_155 ?_
  refine va_sld hx hb hX hbl hbA hS (vp_in_nI (show i + 1 < L by omega) (by omega)) zd_W_law_156 ?_
  refine lv_aload_n hx hb zd_W_law_157 rfl (lv_at hl 3 rfl) ?_
  refine lv_iload_n hx hb zd_W_law_158 rfl (lv_at hl 0 rfl) ?_
  refine lv_iconst (v := nI 2) hx hb zd_W_law_159 (by decide) ?_
  refine cn_iadd hx hb zd_W_law_160 ?_
  refine va_sld hx hb hX hbl hbA hS (vp_in_nI (show i + 2 < L by omega) (by omega)) zd_W_law_161 ?_
  refine lv_aload_n hx hb zd_W_law_162 rfl (lv_at hl 3 rfl) ?_
  refine lv_iload_n hx hb zd_W_law_163 rfl (lv_at hl 0 rfl) ?_
  refine lv_iconst (v := nI 3) hx hb zd_W_law_164 (by decide) ?_
  refine cn_iadd hx hb zd_W_law_165 ?_
  refine va_sld hx hb hX hbl hbA hS (vp_in_nI (show i + 3 < L by omega) (by omega)) zd_W_law_166 ?_
  refine cq_callC (As := [.int (xs (nI (i + 1)).toNatClampNeg), .int (xs (nI (i + 2)).toNatClampNeg), .int (xs (nI (i + 3)).toNatClampNeg)]) (rest := []) ⟨hx, hb, hml, hown, hts⟩ (cC_C_deliver l dC dI n ad cI cA g (rq_bas Z) (xs (nI (i + 1)).toNatClampNeg) (xs (nI (i + 2)).toNatClampNeg) (xs (nI (i + 3)).toNatClampNeg) (fun p q z h1 h2 h3 => ⟨((rq_okd Z (xs (nI (i + 1)).toNatClampNeg) (xs (nI (i + 2)).toNatClampNeg) (xs (nI (i + 3)).toNatClampNeg)).1 p q z h1 h2 h3).1, ((rq_okd Z (xs (nI (i + 1)).toNatClampNeg) (xs (nI (i + 2)).toNatClampNeg) (xs (nI (i + 3)).toNatClampNeg)).1 p q z h1 h2 h3).2.1⟩) (fun p q z h1 h2 _ _ h3 => ((rq_okd Z (xs (nI (i + 1)).toNatClampNeg) (xs (nI (i + 2)).toNatClampNeg) (xs (nI (i + 3)).toNatClampNeg)).1 p q z h1 h2 h3).2.2)) (cq_cw 3 hts zm_C_deliver zl_W_26 zs_C_deliver ze_C_deliver zz_C rfl rfl (by decide +kernel) ⟨Nat.le_of_ble_eq_true rfl, Nat.le_of_ble_eq_true rfl⟩) hKC hW hS hA rfl hl.1 rfl (Nat.le_of_ble_eq_true rfl) zd_W_law_167 ⟨Nat.le_of_ble_eq_true rfl, Nat.le_of_ble_eq_true rfl⟩ (fun r1 u1 H locs hu1 hW hS => ?_)
  refine lv_aload_n hx hb zd_W_law_170 rfl (lv_at hl 1 rfl) ?_
  refine lv_aload_n hx hb zd_W_law_171 rfl (lv_at hl 3 rfl) ?_
  refine lv_iload_n hx hb zd_W_law_172 rfl (lv_at hl 0 rfl) ?_
  refine lv_iconst (v := nI 1) hx hb zd_W_law_173 (by decide) ?_
  refine cn_iadd hx hb zd_W_law_174 ?_
  refine va_sld hx hb hX hbl hbA hS (vp_in_nI (show i + 1 < L by omega) (by omega)) zd_W_law_175 ?_
  refine lv_aload_n hx hb zd_W_law_176 rfl (lv_at hl 3 rfl) ?_
  refine lv_iload_n hx hb zd_W_law_177 rfl (lv_at hl 0 rfl) ?_
  refine lv_iconst (v := nI 2) hx hb zd_W_law_178 (by decide) ?_
  refine cn_iadd hx hb zd_W_law_179 ?_
  refine va_sld hx hb hX hbl hbA hS (vp_in_nI (show i + 2 < L by omega) (by omega)) zd_W_law_180 ?_
  refine lv_aload_n hx hb zd_W_law_181 rfl (lv_at hl 3 rfl) ?_
  refine lv_iload_n hx hb zd_W_law_182 rfl (lv_at hl 0 rfl) ?_
  refine lv_iconst (v := nI 3) hx hb zd_W_law_183 (by decide) ?_
  refine cn_iadd hx hb zd_W_law_184 ?_
  refine va_sld hx hb hX hbl hbA hS (vp_in_nI (show i + 3 < L by omega) (by omega)) zd_W_law_185 ?_
  refine cq_callR (As := [.int (xs (nI (i + 1)).toNatClampNeg), .int (xs (nI (i + 2)).toNatClampNeg), .int (xs (nI (i + 3)).toNatClampNeg)]) (rest := [.int r1]) ⟨hx, hb, hml, hown, hts⟩ (cM_deliver l dC dI bd cs a (xq_bas Z.2) (xs (nI (i + 1)).toNatClampNeg) (xs (nI (i + 2)).toNatClampNeg) (xs (nI (i + 3)).toNatClampNeg) (fun p q z h1 h2 _ _ h3 => (rq_okd Z (xs (nI (i + 1)).toNatClampNeg) (xs (nI (i + 2)).toNatClampNeg) (xs (nI (i + 3)).toNatClampNeg)).2 p q z h1 h2 h3)) (cq_cw 3 hts zm_R_deliver zl_W_30 zs_R_deliver ze_R_deliver zz_R rfl rfl (by decide +kernel) ⟨Nat.le_of_ble_eq_true rfl, Nat.le_of_ble_eq_true rfl⟩) hKR hW hS hA rfl hl.1 rfl (Nat.le_of_ble_eq_true rfl) zd_W_law_186 ⟨Nat.le_of_ble_eq_true rfl, Nat.le_of_ble_eq_true rfl⟩ (fun r2 u2 H locs hu2 hW hS => ?_)
  have hz := rq_deliver Z (xs (nI (i + 1)).toNatClampNeg) (xs (nI (i + 2)).toNatClampNeg) (xs (nI (i + 3)).toNatClampNeg)
  rw [← hu1, ← hu2] at hz
  have he : r1 = r2 := hz.1
  have hz : rq_Z n u1 u2 := hz.2
  exact lv_icmp_eq (tgt := 648) hx hb zd_W_law_189 (by decide) (fun _ => kk u1 u2 H locs ⟨hz, hW, hS⟩) (fun h => absurd he h)
set_option maxHeartbeats 4000000 in
set_option maxRecDepth 100000 in
theorem cq_case_2 {p : Program} {l : Launch} {e : Env} {s : State} {m : MethodId} {below : List Frame} {meth : Method} {c : Code} {b L : Nat} {xs : Nat → Int32} {dC : Nat → ClassId} {dI : Nat → Nat → Nat} {n : Nat} {ad : Nat → Nat} {cI cA : ClassId} {bd : Nat → Nat} {cs : Nat → ClassId} {Q : State → Prop} {i : Nat} {g a : cq_S} {H : Heap} {locs : List Loc} {ls : Array Slot} (X : cq_cx p s m meth c b L xs dC dI cI cA cs) (hi : i + 4 ≤ L) (B : cq_LS s dC dI n ad cI cA bd cs g a H locs) (hl : lv_has ls 4 [(3, .int (nI i)), (2, .ref (bd 0)), (1, .ref (ad 0)), (0, .ref b)])
    (kk : ∀ (g a : cq_S) (H : Heap) (locs : List Loc), cq_LS s dC dI n ad cI cA bd cs g a H locs → W p l e room_1 s m #[Value.ref b] below meth c H locs 45 14552 Q (F0 m 648 ls [])) : W p l e room_1 s m #[Value.ref b] below meth c H locs 45 14552 Q (F0 m 194 ls []) := by
  obtain ⟨hx, hb, hml, hown, hts, hX, hbl, hKC, hKR, hL⟩ := X
  obtain ⟨Z, hW, hS⟩ := B
  have hA : ∀ q : Nat, s.heap.size ≤ q → s.heap.size ≤ q := fun _ h => h
  have hbA : ¬ s.heap.size ≤ b := Nat.not_le.mpr hbl
  refine lv_aload_n hx hb zd_W_law_194 rfl (lv_at hl 2 rfl) ?_
  refine lv_aload_n hx hb zd_W_law_195 rfl (lv_at hl 3 rfl) ?_
  refine lv_iload_n hx hb zd_W_law_196 rfl (lv_at hl 0 rfl) ?_
  refine lv_iconst (v := nI 1) hx hb zd_W_law_197 (by decide) ?_
  refine cn_iadd hx hb zd_W_law_198 ?_
  refine va_sld hx hb hX hbl hbA hS (vp_in_nI (show i + 1 < L by omega) (by omega)) zd_W_law_199 ?_
  refine lv_aload_n hx hb zd_W_law_200 rfl (lv_at hl 3 rfl) ?_
  refine lv_iload_n hx hb zd_W_law_201 rfl (lv_at hl 0 rfl) ?_
  refine lv_iconst (v := nI 2) hx hb zd_W_law_202 (by decide) ?_
  refine cn_iadd hx hb zd_W_law_203 ?_
  refine va_sld hx hb hX hbl hbA hS (vp_in_nI (show i + 2 < L by omega) (by omega)) zd_W_law_204 ?_
  refine lv_aload_n hx hb zd_W_law_205 rfl (lv_at hl 3 rfl) ?_
  refine lv_iload_n hx hb zd_W_law_206 rfl (lv_at hl 0 rfl) ?_
  refine lv_iconst (v := nI 3) hx hb zd_W_law_207 (by decide) ?_
  refine cn_iadd hx hb zd_W_law_208 ?_
  refine va_sld hx hb hX hbl hbA hS (vp_in_nI (show i + 3 < L by omega) (by omega)) zd_W_law_209 ?_
  by_cases h3 : xs (nI (i + 3)).toNatClampNeg = 0
  · refine lv_if_eq (tgt := 217) hx hb zd_W_law_210 (by decide) (fun _ => ?_) (fun h => absurd h3 h)
    refine lv_iconst (v := nI 0) hx hb zd_W_law_217 (by decide) ?_
    refine cq_callC (As := [.int (xs (nI (i + 1)).toNatClampNeg), .int (xs (nI (i + 2)).toNatClampNeg), .int (nI 0)]) (rest := []) ⟨hx, hb, hml, hown, hts⟩ (cC_C_suspect l dC dI n ad cI cA g (rq_bas Z) (xs (nI (i + 1)).toNatClampNeg) (xs (nI (i + 2)).toNatClampNeg) 0 (by decide) (rq_oks Z (xs (nI (i + 1)).toNatClampNeg) (xs (nI (i + 2)).toNatClampNeg) 0).1) (cq_cw 3 hts zm_C_suspect zl_W_31 zs_C_suspect ze_C_suspect zz_C rfl rfl (by decide +kernel) ⟨Nat.le_of_ble_eq_true rfl, Nat.le_of_ble_eq_true rfl⟩) hKC hW hS hA rfl hl.1 rfl (Nat.le_of_ble_eq_true rfl) zd_W_law_218 ⟨Nat.le_of_ble_eq_true rfl, Nat.le_of_ble_eq_true rfl⟩ (fun r1 u1 H locs hu1 hW hS => ?_)
    refine lv_aload_n hx hb zd_W_law_221 rfl (lv_at hl 1 rfl) ?_
    refine lv_aload_n hx hb zd_W_law_222 rfl (lv_at hl 3 rfl) ?_
    refine lv_iload_n hx hb zd_W_law_223 rfl (lv_at hl 0 rfl) ?_
    refine lv_iconst (v := nI 1) hx hb zd_W_law_224 (by decide) ?_
    refine cn_iadd hx hb zd_W_law_225 ?_
    refine va_sld hx hb hX hbl hbA hS (vp_in_nI (show i + 1 < L by omega) (by omega)) zd_W_law_226 ?_
    refine lv_aload_n hx hb zd_W_law_227 rfl (lv_at hl 3 rfl) ?_
    refine lv_iload_n hx hb zd_W_law_228 rfl (lv_at hl 0 rfl) ?_
    refine lv_iconst (v := nI 2) hx hb zd_W_law_229 (by decide) ?_
    refine cn_iadd hx hb zd_W_law_230 ?_
    refine va_sld hx hb hX hbl hbA hS (vp_in_nI (show i + 2 < L by omega) (by omega)) zd_W_law_231 ?_
    refine lv_aload_n hx hb zd_W_law_232 rfl (lv_at hl 3 rfl) ?_
    refine lv_iload_n hx hb zd_W_law_233 rfl (lv_at hl 0 rfl) ?_
    refine lv_iconst (v := nI 3) hx hb zd_W_law_234 (by decide) ?_
    refine cn_iadd hx hb zd_W_law_235 ?_
    refine va_sld hx hb hX hbl hbA hS (vp_in_nI (show i + 3 < L by omega) (by omega)) zd_W_law_236 ?_
    refine lv_if_eq (tgt := 244) hx hb zd_W_law_237 (by decide) (fun _ => ?_) (fun h => absurd h3 h)
    refine lv_iconst (v := nI 0) hx hb zd_W_law_244 (by decide) ?_
    refine cq_callR (As := [.int (xs (nI (i + 1)).toNatClampNeg), .int (xs (nI (i + 2)).toNatClampNeg), .int (nI 0)]) (rest := [.int r1]) ⟨hx, hb, hml, hown, hts⟩ (cM_suspect l dC dI bd cs a (xq_bas Z.2) (xs (nI (i + 1)).toNatClampNeg) (xs (nI (i + 2)).toNatClampNeg) 0 (by decide) (rq_oks Z (xs (nI (i + 1)).toNatClampNeg) (xs (nI (i + 2)).toNatClampNeg) 0).2) (cq_cw 3 hts zm_R_suspect zl_W_35 zs_R_suspect ze_R_suspect zz_R rfl rfl (by decide +kernel) ⟨Nat.le_of_ble_eq_true rfl, Nat.le_of_ble_eq_true rfl⟩) hKR hW hS hA rfl hl.1 rfl (Nat.le_of_ble_eq_true rfl) zd_W_law_245 ⟨Nat.le_of_ble_eq_true rfl, Nat.le_of_ble_eq_true rfl⟩ (fun r2 u2 H locs hu2 hW hS => ?_)
    have hz := rq_suspect Z (xs (nI (i + 1)).toNatClampNeg) (xs (nI (i + 2)).toNatClampNeg) 0
    rw [← hu1, ← hu2] at hz
    have he : r1 = r2 := hz.1
    have hz : rq_Z n u1 u2 := hz.2
    exact lv_icmp_eq (tgt := 648) hx hb zd_W_law_248 (by decide) (fun _ => kk u1 u2 H locs ⟨hz, hW, hS⟩) (fun h => absurd he h)
  · refine lv_if_eq (tgt := 217) hx hb zd_W_law_210 (by decide) (fun h => absurd h h3) (fun _ => ?_)
    refine lv_iconst (v := nI 1) hx hb zd_W_law_213 (by decide) ?_
    refine lv_goto (tgt := 218) hx hb zd_W_law_214 (by decide) ?_
    refine cq_callC (As := [.int (xs (nI (i + 1)).toNatClampNeg), .int (xs (nI (i + 2)).toNatClampNeg), .int (nI 1)]) (rest := []) ⟨hx, hb, hml, hown, hts⟩ (cC_C_suspect l dC dI n ad cI cA g (rq_bas Z) (xs (nI (i + 1)).toNatClampNeg) (xs (nI (i + 2)).toNatClampNeg) 1 (by decide) (rq_oks Z (xs (nI (i + 1)).toNatClampNeg) (xs (nI (i + 2)).toNatClampNeg) 1).1) (cq_cw 3 hts zm_C_suspect zl_W_31 zs_C_suspect ze_C_suspect zz_C rfl rfl (by decide +kernel) ⟨Nat.le_of_ble_eq_true rfl, Nat.le_of_ble_eq_true rfl⟩) hKC hW hS hA rfl hl.1 rfl (Nat.le_of_ble_eq_true rfl) zd_W_law_218 ⟨Nat.le_of_ble_eq_true rfl, Nat.le_of_ble_eq_true rfl⟩ (fun r1 u1 H locs hu1 hW hS => ?_)
    refine lv_aload_n hx hb zd_W_law_221 rfl (lv_at hl 1 rfl) ?_
    refine lv_aload_n hx hb zd_W_law_222 rfl (lv_at hl 3 rfl) ?_
    refine lv_iload_n hx hb zd_W_law_223 rfl (lv_at hl 0 rfl) ?_
    refine lv_iconst (v := nI 1) hx hb zd_W_law_224 (by decide) ?_
    refine cn_iadd hx hb zd_W_law_225 ?_
    refine va_sld hx hb hX hbl hbA hS (vp_in_nI (show i + 1 < L by omega) (by omega)) zd_W_law_226 ?_
    refine lv_aload_n hx hb zd_W_law_227 rfl (lv_at hl 3 rfl) ?_
    refine lv_iload_n hx hb zd_W_law_228 rfl (lv_at hl 0 rfl) ?_
    refine lv_iconst (v := nI 2) hx hb zd_W_law_229 (by decide) ?_
    refine cn_iadd hx hb zd_W_law_230 ?_
    refine va_sld hx hb hX hbl hbA hS (vp_in_nI (show i + 2 < L by omega) (by omega)) zd_W_law_231 ?_
    refine lv_aload_n hx hb zd_W_law_232 rfl (lv_at hl 3 rfl) ?_
    refine lv_iload_n hx hb zd_W_law_233 rfl (lv_at hl 0 rfl) ?_
    refine lv_iconst (v := nI 3) hx hb zd_W_law_234 (by decide) ?_
    refine cn_iadd hx hb zd_W_law_235 ?_
    refine va_sld hx hb hX hbl hbA hS (vp_in_nI (show i + 3 < L by omega) (by omega)) zd_W_law_236 ?_
    refine lv_if_eq (tgt := 244) hx hb zd_W_law_237 (by decide) (fun h => absurd h h3) (fun _ => ?_)
    refine lv_iconst (v := nI 1) hx hb zd_W_law_240 (by decide) ?_
    refine lv_goto (tgt := 245) hx hb zd_W_law_241 (by decide) ?_
    refine cq_callR (As := [.int (xs (nI (i + 1)).toNatClampNeg), .int (xs (nI (i + 2)).toNatClampNeg), .int (nI 1)]) (rest := [.int r1]) ⟨hx, hb, hml, hown, hts⟩ (cM_suspect l dC dI bd cs a (xq_bas Z.2) (xs (nI (i + 1)).toNatClampNeg) (xs (nI (i + 2)).toNatClampNeg) 1 (by decide) (rq_oks Z (xs (nI (i + 1)).toNatClampNeg) (xs (nI (i + 2)).toNatClampNeg) 1).2) (cq_cw 3 hts zm_R_suspect zl_W_35 zs_R_suspect ze_R_suspect zz_R rfl rfl (by decide +kernel) ⟨Nat.le_of_ble_eq_true rfl, Nat.le_of_ble_eq_true rfl⟩) hKR hW hS hA rfl hl.1 rfl (Nat.le_of_ble_eq_true rfl) zd_W_law_245 ⟨Nat.le_of_ble_eq_true rfl, Nat.le_of_ble_eq_true rfl⟩ (fun r2 u2 H locs hu2 hW hS => ?_)
    have hz := rq_suspect Z (xs (nI (i + 1)).toNatClampNeg) (xs (nI (i + 2)).toNatClampNeg) 1
    rw [← hu1, ← hu2] at hz
    have he : r1 = r2 := hz.1
    have hz : rq_Z n u1 u2 := hz.2
    exact lv_icmp_eq (tgt := 648) hx hb zd_W_law_248 (by decide) (fun _ => kk u1 u2 H locs ⟨hz, hW, hS⟩) (fun h => absurd he h)
set_option maxHeartbeats 4000000 in
set_option maxRecDepth 100000 in
theorem cq_case_3 {p : Program} {l : Launch} {e : Env} {s : State} {m : MethodId} {below : List Frame} {meth : Method} {c : Code} {b L : Nat} {xs : Nat → Int32} {dC : Nat → ClassId} {dI : Nat → Nat → Nat} {n : Nat} {ad : Nat → Nat} {cI cA : ClassId} {bd : Nat → Nat} {cs : Nat → ClassId} {Q : State → Prop} {i : Nat} {g a : cq_S} {H : Heap} {locs : List Loc} {ls : Array Slot} (X : cq_cx p s m meth c b L xs dC dI cI cA cs) (hi : i + 4 ≤ L) (B : cq_LS s dC dI n ad cI cA bd cs g a H locs) (hl : lv_has ls 4 [(3, .int (nI i)), (2, .ref (bd 0)), (1, .ref (ad 0)), (0, .ref b)])
    (kk : ∀ (g a : cq_S) (H : Heap) (locs : List Loc), cq_LS s dC dI n ad cI cA bd cs g a H locs → W p l e room_1 s m #[Value.ref b] below meth c H locs 45 14552 Q (F0 m 648 ls [])) : W p l e room_1 s m #[Value.ref b] below meth c H locs 45 14552 Q (F0 m 253 ls []) := by
  obtain ⟨hx, hb, hml, hown, hts, hX, hbl, hKC, hKR, hL⟩ := X
  obtain ⟨Z, hW, hS⟩ := B
  have hA : ∀ q : Nat, s.heap.size ≤ q → s.heap.size ≤ q := fun _ h => h
  have hbA : ¬ s.heap.size ≤ b := Nat.not_le.mpr hbl
  refine lv_aload_n hx hb zd_W_law_253 rfl (lv_at hl 2 rfl) ?_
  refine lv_aload_n hx hb zd_W_law_254 rfl (lv_at hl 3 rfl) ?_
  refine lv_iload_n hx hb zd_W_law_255 rfl (lv_at hl 0 rfl) ?_
  refine lv_iconst (v := nI 1) hx hb zd_W_law_256 (by decide) ?_
  refine cn_iadd hx hb zd_W_law_257 ?_
  refine va_sld hx hb hX hbl hbA hS (vp_in_nI (show i + 1 < L by omega) (by omega)) zd_W_law_258 ?_
  refine lv_aload_n hx hb zd_W_law_259 rfl (lv_at hl 3 rfl) ?_
  refine lv_iload_n hx hb zd_W_law_260 rfl (lv_at hl 0 rfl) ?_
  refine lv_iconst (v := nI 2) hx hb zd_W_law_261 (by decide) ?_
  refine cn_iadd hx hb zd_W_law_262 ?_
  refine va_sld hx hb hX hbl hbA hS (vp_in_nI (show i + 2 < L by omega) (by omega)) zd_W_law_263 ?_
  refine cq_callC (As := [.int (xs (nI (i + 1)).toNatClampNeg), .int (xs (nI (i + 2)).toNatClampNeg)]) (rest := []) ⟨hx, hb, hml, hown, hts⟩ (cC_C_crash l dC dI n ad cI cA g (rq_bas Z) (xs (nI (i + 1)).toNatClampNeg) (xs (nI (i + 2)).toNatClampNeg)) (cq_cw 2 hts zm_C_crash zl_W_36 zs_C_crash ze_C_crash zz_C rfl rfl (by decide +kernel) ⟨Nat.le_of_ble_eq_true rfl, Nat.le_of_ble_eq_true rfl⟩) hKC hW hS hA rfl hl.1 rfl (Nat.le_of_ble_eq_true rfl) zd_W_law_264 ⟨Nat.le_of_ble_eq_true rfl, Nat.le_of_ble_eq_true rfl⟩ (fun r1 u1 H locs hu1 hW hS => ?_)
  refine lv_aload_n hx hb zd_W_law_267 rfl (lv_at hl 1 rfl) ?_
  refine lv_aload_n hx hb zd_W_law_268 rfl (lv_at hl 3 rfl) ?_
  refine lv_iload_n hx hb zd_W_law_269 rfl (lv_at hl 0 rfl) ?_
  refine lv_iconst (v := nI 1) hx hb zd_W_law_270 (by decide) ?_
  refine cn_iadd hx hb zd_W_law_271 ?_
  refine va_sld hx hb hX hbl hbA hS (vp_in_nI (show i + 1 < L by omega) (by omega)) zd_W_law_272 ?_
  refine lv_aload_n hx hb zd_W_law_273 rfl (lv_at hl 3 rfl) ?_
  refine lv_iload_n hx hb zd_W_law_274 rfl (lv_at hl 0 rfl) ?_
  refine lv_iconst (v := nI 2) hx hb zd_W_law_275 (by decide) ?_
  refine cn_iadd hx hb zd_W_law_276 ?_
  refine va_sld hx hb hX hbl hbA hS (vp_in_nI (show i + 2 < L by omega) (by omega)) zd_W_law_277 ?_
  refine cq_callR (As := [.int (xs (nI (i + 1)).toNatClampNeg), .int (xs (nI (i + 2)).toNatClampNeg)]) (rest := [.int r1]) ⟨hx, hb, hml, hown, hts⟩ (cM_crash l dC dI bd cs a (xq_bas Z.2) (xs (nI (i + 1)).toNatClampNeg) (xs (nI (i + 2)).toNatClampNeg)) (cq_cw 2 hts zm_R_crash zl_W_40 zs_R_crash ze_R_crash zz_R rfl rfl (by decide +kernel) ⟨Nat.le_of_ble_eq_true rfl, Nat.le_of_ble_eq_true rfl⟩) hKR hW hS hA rfl hl.1 rfl (Nat.le_of_ble_eq_true rfl) zd_W_law_278 ⟨Nat.le_of_ble_eq_true rfl, Nat.le_of_ble_eq_true rfl⟩ (fun r2 u2 H locs hu2 hW hS => ?_)
  have hz := rq_crash Z (xs (nI (i + 1)).toNatClampNeg) (xs (nI (i + 2)).toNatClampNeg)
  rw [← hu1, ← hu2] at hz
  have he : r1 = r2 := hz.1
  have hz : rq_Z n u1 u2 := hz.2
  exact lv_icmp_eq (tgt := 648) hx hb zd_W_law_281 (by decide) (fun _ => kk u1 u2 H locs ⟨hz, hW, hS⟩) (fun h => absurd he h)
