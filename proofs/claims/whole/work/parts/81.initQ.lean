/-! The papers' constructor. -/
def cq_Q0 : List Value := [.int 0, .null, .null, .null, .null]
def cq_Qw (n h0 q1 q2 q3 q4 : Nat) (c1 c2 c3 c4 : ClassId) : va_W := [(h0, .inr (3, [.int (nI n), .ref q1, .ref q2, .ref q3, .ref q4])), (q1, .inl (c1, 80 * n, .inl (fun _ => 0))), (q2, .inl (c2, 80 * n, .inl (fun _ => 0))), (q3, .inl (c3, 80, .inl (fun _ => 0))), (q4, .inl (c4, 80, .inl (fun _ => 0)))]
def cq_atQ (n : Nat) (dC : Nat → ClassId) (dI : Nat → Nat → Nat) (A : Nat → Prop) (h : Nat) (_ : Unit) (U : State) : Prop := ∃ (q1 q2 q3 q4 : Nat) (c1 c2 c3 c4 : ClassId), va_P (dC, dI) cq_cl (cq_Qw n h q1 q2 q3 q4 c1 c2 c3 c4) U.heap ∧ va_K (dC, dI) cq_cl [(c1, .int), (c2, .int), (c3, .int), (c4, .int)] U ∧ va_D A (cq_Qw n h q1 q2 q3 q4 c1 c2 c3 c4)
set_option maxHeartbeats 4000000 in
set_option maxRecDepth 100000 in
theorem cC_Q_init (l : Launch) (dC : Nat → ClassId) (dI : Nat → Nat → Nat) (n : Nat) (hn5 : n ≤ 5) (h0 : Nat) (sz : Nat) : Met l zy_Q_init zw_Q_init ({ frames := 1, cells := 4, slots := 960, locals := 26 }) (va_Pc [.ref h0, .int (nI n)] (fun U => U.heap.size = sz ∧ va_P (dC, dI) cq_cl [(h0, .inr (3, cq_Q0))] U.heap ∧ va_K (dC, dI) cq_cl [] U ∧ va_D (fun _ => True) [(h0, .inr (3, cq_Q0))])) (va_Qv (fun _ : Unit => True) (cq_atQ n dC dI (va_A [(h0, .inr (3, cq_Q0))] sz) h0) (va_A [(h0, .inr (3, cq_Q0))] sz)) 4 960 (va_A [(h0, .inr (3, cq_Q0))] sz) := by
  refine Met.ofW (cc := zc_Q_init) (maxL := 3) (ret := none) (by decide) rfl ?_
  intro p e s m args below meth c s₁ B hml hv
  obtain ⟨rfl, hsz, hP, hK, hD0⟩ := hv
  have hx := B.exec
  have hb := B.bytes
  have hr := B.returns
  have hts0 := atoms_spec (ws := zw_Q_init) B.pre
  have hts : ∀ w ∈ cq_ws, w.before _ s = true := fun w hw => hts0 w (List.mem_cons_of_mem _ (List.mem_append_left _ hw))
  have hown : s.vm.findClass zR_Q = some m.cls := findClass_of_methodNamed B.named
  have hlocks := B.notSynchronized
  have hin : meth.name = "<init>" := (name_of_methodNamed B.named B.method).1
  subst hsz
  have hD := hD0.self (sz := s.heap.size)
  generalize hAe : va_A [(h0, .inr (3, cq_Q0))] s.heap.size = A at hD ⊢
  have hA : ∀ q : Nat, s.heap.size ≤ q → A q := fun q h => by rw [← hAe]; exact Or.inr h
  have hS : va_S A s.heap s.heap [] := va_S.rf
  have hP : va_P (dC, dI) cq_cl [(h0, .inr (3, cq_Q0))] s.heap := hP
  have hl := lv_entry ([.ref h0, .int (nI n)]) (n := 3) (Nat.le_of_ble_eq_true rfl)
  rw [lg_entry_eq]
  generalize (lg_sl ([.ref h0, .int (nI n)]) ++ List.replicate (3 - (lg_sl ([.ref h0, .int (nI n)])).length) Slot.unset).toArray = ls at hl ⊢
  have hl : lv_has ls 3 [(0, .ref h0), (1, .int (nI n))] := hl
  have e80 : nI 80 * nI n = nI (80 * n) := by first | exact (nI_mul _ _).symm | exact pk_mul _ _ | (apply Int32.toBitVec_inj.1; show BitVec.ofNat 32 80 * BitVec.ofNat 32 n = BitVec.ofNat 32 (80 * n); rw [BitVec.ofNat_mul])
  refine lv_aload_n hx hb zd_Q_init_0 rfl (lv_at hl 0 rfl) ?_
  refine W.objInit hx hb hown (hts _ zx_oQ) (hts _ zx_oi) (hts _ zx_oc) rfl (by rw [hml]; exact hl.1) rfl zd_Q_init_1 (Nat.le_of_ble_eq_true rfl) (Nat.le_of_ble_eq_true rfl) ?_
  refine W.eq (g2 := F0 m 4 ls []) rfl ?_
  refine lv_aload_n hx hb zd_Q_init_4 rfl (lv_at hl 0 rfl) ?_
  refine lv_iload_n hx hb zd_Q_init_5 rfl (lv_at hl 1 rfl) ?_
  refine va_putF (D := (dC, dI)) (ci := 3) (v := .int (nI n)) (ty := .int) (C := zR_Q) (T := zT_Q) (N := 5) hx hb hts zi_Q zt_Q zo_Q zn_Q hown hK hP hD hS 0 rfl rfl 0 (by decide) (hts _ zf_Q_9) (fun _ h9 => h9) rfl hin rfl (by decide +kernel) rfl rfl (Nat.le_of_ble_eq_true rfl) zd_Q_init_6 (fun H locs hP hD hS => ?_)
  have hP : va_P (dC, dI) cq_cl [(h0, .inr (3, [.int (nI n), .null, .null, .null, .null]))] H := hP
  have hD : va_D A [(h0, .inr (3, [.int (nI n), .null, .null, .null, .null]))] := hD
  refine lv_bipush (v := nI 80) hx hb zd_Q_init_9 (by decide) ?_
  refine lv_istore_n hx hb zd_Q_init_11 rfl hl (by decide) rfl (fun ls hl => ?_)
  have hl : lv_has ls 3 [(2, .int (nI 80)), (0, .ref h0), (1, .int (nI n))] := hl
  refine lv_aload_n hx hb zd_Q_init_12 rfl (lv_at hl 1 rfl) ?_
  refine lv_iload_n hx hb zd_Q_init_13 rfl (lv_at hl 0 rfl) ?_
  refine lv_iload_n hx hb zd_Q_init_14 rfl (lv_at hl 2 rfl) ?_
  refine cn_imul hx hb zd_Q_init_15 ?_
  refine va_newa (atype := .int) (ty := .int) (N' := 80 * n) (a0 := (80 * n, .inl (fun _ => 0))) hx hb (hts _ zx_aI) rfl hK hP hD hS hA (fun _ => rfl) (nI_pos (by omega)) (nI_clamp (by omega)) (by show _ * 4 ≤ _; omega) (by show _ ≤ 4; omega) (by show _ ≤ 960; omega) zd_Q_init_16 (fun q1 c1 H hK hP hD hS => ?_)
  have hP : va_P (dC, dI) cq_cl [(h0, .inr (3, [.int (nI n), .null, .null, .null, .null])), (q1, .inl (c1, 80 * n, .inl (fun _ => 0)))] H := hP
  have hD : va_D A [(h0, .inr (3, [.int (nI n), .null, .null, .null, .null])), (q1, .inl (c1, 80 * n, .inl (fun _ => 0)))] := hD
  have hK : va_K (dC, dI) cq_cl [(c1, .int)] s := hK
  refine va_putF (D := (dC, dI)) (ci := 3) (v := .ref q1) (ty := .array .int) (C := zR_Q) (T := zT_Q) (N := 5) hx hb hts zi_Q zt_Q zo_Q zn_Q hown hK hP hD hS 0 rfl rfl 1 (by decide) (hts _ zf_Q_15) (fun _ h9 => h9) rfl hin rfl (by decide +kernel) rfl rfl (Nat.le_of_ble_eq_true rfl) zd_Q_init_18 (fun H locs hP hD hS => ?_)
  have hP : va_P (dC, dI) cq_cl [(h0, .inr (3, [.int (nI n), .ref q1, .null, .null, .null])), (q1, .inl (c1, 80 * n, .inl (fun _ => 0)))] H := hP
  have hD : va_D A [(h0, .inr (3, [.int (nI n), .ref q1, .null, .null, .null])), (q1, .inl (c1, 80 * n, .inl (fun _ => 0)))] := hD
  refine lv_aload_n hx hb zd_Q_init_21 rfl (lv_at hl 1 rfl) ?_
  refine lv_iload_n hx hb zd_Q_init_22 rfl (lv_at hl 0 rfl) ?_
  refine lv_iload_n hx hb zd_Q_init_23 rfl (lv_at hl 2 rfl) ?_
  refine cn_imul hx hb zd_Q_init_24 ?_
  refine va_newa (atype := .int) (ty := .int) (N' := 80 * n) (a0 := (80 * n, .inl (fun _ => 0))) hx hb (hts _ zx_aI) rfl hK hP hD hS hA (fun _ => rfl) (nI_pos (by omega)) (nI_clamp (by omega)) (by show _ * 4 ≤ _; omega) (by show _ ≤ 4; omega) (by show _ ≤ 960; omega) zd_Q_init_25 (fun q2 c2 H hK hP hD hS => ?_)
  have hP : va_P (dC, dI) cq_cl [(h0, .inr (3, [.int (nI n), .ref q1, .null, .null, .null])), (q1, .inl (c1, 80 * n, .inl (fun _ => 0))), (q2, .inl (c2, 80 * n, .inl (fun _ => 0)))] H := hP
  have hD : va_D A [(h0, .inr (3, [.int (nI n), .ref q1, .null, .null, .null])), (q1, .inl (c1, 80 * n, .inl (fun _ => 0))), (q2, .inl (c2, 80 * n, .inl (fun _ => 0)))] := hD
  have hK : va_K (dC, dI) cq_cl [(c1, .int), (c2, .int)] s := hK
  refine va_putF (D := (dC, dI)) (ci := 3) (v := .ref q2) (ty := .array .int) (C := zR_Q) (T := zT_Q) (N := 5) hx hb hts zi_Q zt_Q zo_Q zn_Q hown hK hP hD hS 0 rfl rfl 2 (by decide) (hts _ zf_Q_19) (fun _ h9 => h9) rfl hin rfl (by decide +kernel) rfl rfl (Nat.le_of_ble_eq_true rfl) zd_Q_init_27 (fun H locs hP hD hS => ?_)
  have hP : va_P (dC, dI) cq_cl [(h0, .inr (3, [.int (nI n), .ref q1, .ref q2, .null, .null])), (q1, .inl (c1, 80 * n, .inl (fun _ => 0))), (q2, .inl (c2, 80 * n, .inl (fun _ => 0)))] H := hP
  have hD : va_D A [(h0, .inr (3, [.int (nI n), .ref q1, .ref q2, .null, .null])), (q1, .inl (c1, 80 * n, .inl (fun _ => 0))), (q2, .inl (c2, 80 * n, .inl (fun _ => 0)))] := hD
  refine lv_aload_n hx hb zd_Q_init_30 rfl (lv_at hl 1 rfl) ?_
  refine lv_iload_n hx hb zd_Q_init_31 rfl (lv_at hl 0 rfl) ?_
  refine va_newa (atype := .int) (ty := .int) (N' := 80) (a0 := (80, .inl (fun _ => 0))) hx hb (hts _ zx_aI) rfl hK hP hD hS hA (fun _ => rfl) (nI_pos (by omega)) (nI_clamp (by omega)) (by show _ * 4 ≤ _; omega) (by show _ ≤ 4; omega) (by show _ ≤ 960; omega) zd_Q_init_32 (fun q3 c3 H hK hP hD hS => ?_)
  have hP : va_P (dC, dI) cq_cl [(h0, .inr (3, [.int (nI n), .ref q1, .ref q2, .null, .null])), (q1, .inl (c1, 80 * n, .inl (fun _ => 0))), (q2, .inl (c2, 80 * n, .inl (fun _ => 0))), (q3, .inl (c3, 80, .inl (fun _ => 0)))] H := hP
  have hD : va_D A [(h0, .inr (3, [.int (nI n), .ref q1, .ref q2, .null, .null])), (q1, .inl (c1, 80 * n, .inl (fun _ => 0))), (q2, .inl (c2, 80 * n, .inl (fun _ => 0))), (q3, .inl (c3, 80, .inl (fun _ => 0)))] := hD
  have hK : va_K (dC, dI) cq_cl [(c1, .int), (c2, .int), (c3, .int)] s := hK
  refine va_putF (D := (dC, dI)) (ci := 3) (v := .ref q3) (ty := .array .int) (C := zR_Q) (T := zT_Q) (N := 5) hx hb hts zi_Q zt_Q zo_Q zn_Q hown hK hP hD hS 0 rfl rfl 3 (by decide) (hts _ zf_Q_22) (fun _ h9 => h9) rfl hin rfl (by decide +kernel) rfl rfl (Nat.le_of_ble_eq_true rfl) zd_Q_init_34 (fun H locs hP hD hS => ?_)
  have hP : va_P (dC, dI) cq_cl [(h0, .inr (3, [.int (nI n), .ref q1, .ref q2, .ref q3, .null])), (q1, .inl (c1, 80 * n, .inl (fun _ => 0))), (q2, .inl (c2, 80 * n, .inl (fun _ => 0))), (q3, .inl (c3, 80, .inl (fun _ => 0)))] H := hP
  have hD : va_D A [(h0, .inr (3, [.int (nI n), .ref q1, .ref q2, .ref q3, .null])), (q1, .inl (c1, 80 * n, .inl (fun _ => 0))), (q2, .inl (c2, 80 * n, .inl (fun _ => 0))), (q3, .inl (c3, 80, .inl (fun _ => 0)))] := hD
  refine lv_aload_n hx hb zd_Q_init_37 rfl (lv_at hl 1 rfl) ?_
  refine lv_iload_n hx hb zd_Q_init_38 rfl (lv_at hl 0 rfl) ?_
  refine va_newa (atype := .int) (ty := .int) (N' := 80) (a0 := (80, .inl (fun _ => 0))) hx hb (hts _ zx_aI) rfl hK hP hD hS hA (fun _ => rfl) (nI_pos (by omega)) (nI_clamp (by omega)) (by show _ * 4 ≤ _; omega) (by show _ ≤ 4; omega) (by show _ ≤ 960; omega) zd_Q_init_39 (fun q4 c4 H hK hP hD hS => ?_)
  have hP : va_P (dC, dI) cq_cl [(h0, .inr (3, [.int (nI n), .ref q1, .ref q2, .ref q3, .null])), (q1, .inl (c1, 80 * n, .inl (fun _ => 0))), (q2, .inl (c2, 80 * n, .inl (fun _ => 0))), (q3, .inl (c3, 80, .inl (fun _ => 0))), (q4, .inl (c4, 80, .inl (fun _ => 0)))] H := hP
  have hD : va_D A [(h0, .inr (3, [.int (nI n), .ref q1, .ref q2, .ref q3, .null])), (q1, .inl (c1, 80 * n, .inl (fun _ => 0))), (q2, .inl (c2, 80 * n, .inl (fun _ => 0))), (q3, .inl (c3, 80, .inl (fun _ => 0))), (q4, .inl (c4, 80, .inl (fun _ => 0)))] := hD
  have hK : va_K (dC, dI) cq_cl [(c1, .int), (c2, .int), (c3, .int), (c4, .int)] s := hK
  refine va_putF (D := (dC, dI)) (ci := 3) (v := .ref q4) (ty := .array .int) (C := zR_Q) (T := zT_Q) (N := 5) hx hb hts zi_Q zt_Q zo_Q zn_Q hown hK hP hD hS 0 rfl rfl 4 (by decide) (hts _ zf_Q_25) (fun _ h9 => h9) rfl hin rfl (by decide +kernel) rfl rfl (Nat.le_of_ble_eq_true rfl) zd_Q_init_41 (fun H locs hP hD hS => ?_)
  have hP : va_P (dC, dI) cq_cl [(h0, .inr (3, [.int (nI n), .ref q1, .ref q2, .ref q3, .ref q4])), (q1, .inl (c1, 80 * n, .inl (fun _ => 0))), (q2, .inl (c2, 80 * n, .inl (fun _ => 0))), (q3, .inl (c3, 80, .inl (fun _ => 0))), (q4, .inl (c4, 80, .inl (fun _ => 0)))] H := hP
  have hD : va_D A [(h0, .inr (3, [.int (nI n), .ref q1, .ref q2, .ref q3, .ref q4])), (q1, .inl (c1, 80 * n, .inl (fun _ => 0))), (q2, .inl (c2, 80 * n, .inl (fun _ => 0))), (q3, .inl (c3, 80, .inl (fun _ => 0))), (q4, .inl (c4, 80, .inl (fun _ => 0)))] := hD
  refine W.widen (k := 4) (n := 960) (by omega) (by omega) ?_
  exact W.vret hx hb hr (fun t ht hW => ⟨⟨(), rfl, trivial, q1, q2, q3, q4, c1, c2, c3, c4, by rw [ht]; exact hP, va_K.moved hW.alike hK, hD⟩, hS.F ht⟩) hS.2.2 zd_Q_init_44
