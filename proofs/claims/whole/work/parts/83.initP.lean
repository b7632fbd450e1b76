/-! The post's constructor. -/
set_option maxHeartbeats 4000000 in
set_option maxRecDepth 100000 in
theorem cC_P_most (l : Launch) (dC : Nat → ClassId) (dI : Nat → Nat → Nat) (w : cq_S → va_W) (tys : List (ClassId × FieldType)) (a : cq_S) (n : Nat) (hn3 : 3 ≤ n) : cq_CI l zy_P_mostLetters zw_P_mostLetters ({ frames := 0, cells := 0, slots := 0, locals := 0 }) (dC, dI) cq_cl w tys a [.int (nI n)] (fun r0 u => r0 = nI (gq_room n) ∧ u = a) := by
  refine cq_CI.of (cc := zc_P_mostLetters) (maxL := 3) (ret := (some .int)) (by decide) rfl (Nat.le_of_ble_eq_true rfl) ?_
  intro pr ev s mt args below meth cd A ls hx hb hrt hts hown hlocks hml hP hK hD hA hS hl
  have hl : lv_has ls 3 [(0, .int (nI n))] := hl
  refine lv_bipush (v := nI 16) hx hb zd_P_mostLetters_0 (by decide) ?_
  refine lv_iload_n hx hb zd_P_mostLetters_2 rfl (lv_at hl 0 rfl) ?_
  refine cn_imul hx hb zd_P_mostLetters_3 ?_
  refine lv_istore_n hx hb zd_P_mostLetters_4 rfl hl (by decide) rfl (fun ls hl => ?_)
  have hl : lv_has ls 3 [(1, .int (nI (16 * n))), (0, .int (nI n))] := hl
  refine lv_sipush (v := nI 240) hx hb zd_P_mostLetters_5 (by decide) ?_
  refine lv_istore_n hx hb zd_P_mostLetters_8 rfl hl (by decide) rfl (fun ls hl => ?_)
  have hl : lv_has ls 3 [(2, .int (nI 240)), (1, .int (nI (16 * n))), (0, .int (nI n))] := hl
  refine lv_iload_n hx hb zd_P_mostLetters_9 rfl (lv_at hl 1 rfl) ?_
  refine lv_iload_n hx hb zd_P_mostLetters_10 rfl (lv_at hl 0 rfl) ?_
  refine cn_iadd hx hb zd_P_mostLetters_11 ?_
  refine lv_iload_n hx hb zd_P_mostLetters_12 rfl (lv_at hl 2 rfl) ?_
  refine lv_iconst (v := nI 1) hx hb zd_P_mostLetters_13 (by decide) ?_
  refine cn_isub hx hb zd_P_mostLetters_14 (by omega) ?_
  refine cn_imul hx hb zd_P_mostLetters_15 ?_
  exact cq_ret (u := a) hx hb hrt ⟨_, rfl, rfl⟩ hlocks hK hP hD hS ⟨rfl, rfl⟩ zd_P_mostLetters_16
def cq_Pw (n h q1 : Nat) (c1 : ClassId) : va_W := [(h, .inr (2, [.ref q1, .int 0])), (q1, .inl (c1, gq_room n, .inl (fun _ => 0)))]
def cq_atP (n : Nat) (dC : Nat → ClassId) (dI : Nat → Nat → Nat) (A : Nat → Prop) (h : Nat) (_ : Unit) (U : State) : Prop := ∃ (q1 : Nat) (c1 : ClassId), va_P (dC, dI) cq_cl (cq_Pw n h q1 c1) U.heap ∧ va_K (dC, dI) cq_cl [(c1, .int)] U ∧ va_D A (cq_Pw n h q1 c1)
def cq_P0 : List Value := [.null, .int 0]
theorem gq_room_1280 {n : Nat} (h : n ≤ 5) : gq_room n ≤ 1280 := by
  unfold gq_room
  have : (16 * n + 240) * (n - 1) ≤ 320 * 4 := Nat.mul_le_mul (by omega) (by omega)
  omega
set_option maxHeartbeats 4000000 in
set_option maxRecDepth 100000 in
theorem cC_P_init (l : Launch) (dC : Nat → ClassId) (dI : Nat → Nat → Nat) (n : Nat) (hn3 : 3 ≤ n) (hn5 : n ≤ 5) (h0 : Nat) (sz : Nat) : Met l zy_P_init zw_P_init ({ frames := 1, cells := 1, slots := 1280, locals := 26 }) (va_Pc [.ref h0, .int (nI n)] (fun U => U.heap.size = sz ∧ va_P (dC, dI) cq_cl [(h0, .inr (2, cq_P0))] U.heap ∧ va_K (dC, dI) cq_cl [] U ∧ va_D (fun _ => True) [(h0, .inr (2, cq_P0))])) (va_Qv (fun _ : Unit => True) (cq_atP n dC dI (va_A [(h0, .inr (2, cq_P0))] sz) h0) (va_A [(h0, .inr (2, cq_P0))] sz)) 1 1280 (va_A [(h0, .inr (2, cq_P0))] sz) := by
  refine Met.ofW (cc := zc_P_init) (maxL := 2) (ret := none) (by decide) rfl ?_
  intro p e s m args below meth c s₁ B hml hv
  obtain ⟨rfl, hsz, hP, hK, hD0⟩ := hv
  have hx := B.exec
  have hb := B.bytes
  have hr := B.returns
  have hts0 := atoms_spec (ws := zw_P_init) B.pre
  have hts : ∀ w ∈ cq_ws, w.before _ s = true := fun w hw => hts0 w (List.mem_cons_of_mem _ (List.mem_append_left _ hw))
  have hown : s.vm.findClass zR_P = some m.cls := findClass_of_methodNamed B.named
  have hlocks := B.notSynchronized
  have hin : meth.name = "<init>" := (name_of_methodNamed B.named B.method).1
  have hroom := gq_room_1280 hn5
  subst hsz
  have hD := hD0.self (sz := s.heap.size)
  generalize hAe : va_A [(h0, .inr (2, cq_P0))] s.heap.size = A at hD ⊢
  have hA : ∀ q : Nat, s.heap.size ≤ q → A q := fun q h => by rw [← hAe]; exact Or.inr h
  have hS : va_S A s.heap s.heap [] := va_S.rf
  have hP : va_P (dC, dI) cq_cl [(h0, .inr (2, cq_P0))] s.heap := hP
  have hl := lv_entry ([.ref h0, .int (nI n)]) (n := 2) (Nat.le_of_ble_eq_true rfl)
  rw [lg_entry_eq]
  generalize (lg_sl ([.ref h0, .int (nI n)]) ++ List.replicate (2 - (lg_sl ([.ref h0, .int (nI n)])).length) Slot.unset).toArray = ls at hl ⊢
  have hl : lv_has ls 2 [(0, .ref h0), (1, .int (nI n))] := hl
  refine lv_aload_n hx hb zd_P_init_0 rfl (lv_at hl 0 rfl) ?_
  refine W.objInit hx hb hown (hts _ zx_oP) (hts _ zx_oi) (hts _ zx_oc) rfl (by rw [hml]; exact hl.1) rfl zd_P_init_1 (Nat.le_of_ble_eq_true rfl) (Nat.le_of_ble_eq_true rfl) ?_
  refine W.eq (g2 := F0 m 4 ls []) rfl ?_
  refine lv_aload_n hx hb zd_P_init_4 rfl (lv_at hl 0 rfl) ?_
  refine lv_iload_n hx hb zd_P_init_5 rfl (lv_at hl 1 rfl) ?_
  refine cq_callSI (As := [.int (nI n)]) (rest := [.ref h0]) ⟨hx, hb, hml, hown, hts⟩ (cC_P_most l dC dI (fun _ => [(h0, .inr (2, cq_P0))]) [] (fun _ _ => 0) n hn3) (cq_cwS 1 hts zm_P_mostLetters zl_P_9 zs_P_mostLetters zz_P rfl rfl (by decide +kernel) ⟨Nat.le_of_ble_eq_true rfl, Nat.le_of_ble_eq_true rfl⟩) hK hP hD hS hA rfl hl.1 rfl (Nat.le_of_ble_eq_true rfl) zd_P_init_6 ⟨Nat.zero_le _, Nat.zero_le _⟩ (fun r0 u H locs hu hP hD hS => ?_)
  rw [hu.1]
  refine va_newa (atype := .int) (ty := .int) (N' := gq_room n) (a0 := (gq_room n, .inl (fun _ => 0))) hx hb (hts _ zx_aI) rfl hK hP hD hS hA (fun _ => rfl) (nI_pos (by omega)) (nI_clamp (by omega)) (by show _ * 4 ≤ _; omega) (by show _ ≤ 1; omega) (by show _ ≤ 1280; omega) zd_P_init_9 (fun q1 c1 H hK hP hD hS => ?_)
  have hP : va_P (dC, dI) cq_cl [(h0, .inr (2, cq_P0)), (q1, .inl (c1, gq_room n, .inl (fun _ => 0)))] H := hP
  have hD : va_D A [(h0, .inr (2, cq_P0)), (q1, .inl (c1, gq_room n, .inl (fun _ => 0)))] := hD
  have hK : va_K (dC, dI) cq_cl [(c1, .int)] s := hK
  refine va_putF (D := (dC, dI)) (ci := 2) (v := .ref q1) (ty := .array .int) (C := zR_P) (T := zT_P) (N := 2) hx hb hts zi_P zt_P zo_P zn_P hown hK hP hD hS 0 rfl rfl 0 (by decide) (hts _ zf_P_15) (fun _ h9 => h9) rfl hin rfl (by decide +kernel) rfl rfl (Nat.le_of_ble_eq_true rfl) zd_P_init_11 (fun H locs hP hD hS => ?_)
  have hP : va_P (dC, dI) cq_cl (cq_Pw n h0 q1 c1) H := hP
  have hD : va_D A (cq_Pw n h0 q1 c1) := hD
  refine W.widen (k := 1) (n := 1280) (by omega) (by omega) ?_
  exact W.vret hx hb hr (fun t ht hW => ⟨⟨(), rfl, trivial, q1, c1, by rw [ht]; exact hP, va_K.moved hW.alike hK, hD⟩, hS.F ht⟩) hS.2.2 zd_P_init_14
