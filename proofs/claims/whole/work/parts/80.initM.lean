/-! The constructors. -/
def cq_M0 : List Value := [.null, .null, .int 0, .int 0, .int 0, .int 0, .int 0, .int 0, .int 0, .int 0, .int 0, .int 0]
def cq_Mw (h q1 q2 : Nat) (c1 c2 : ClassId) : va_W := [(h, .inr (1, [.ref q1, .ref q2, .int 0, .int 0, .int 0, .int 0, .int 0, .int 0, .int 0, .int 0, .int 0, .int 0])), (q1, .inl (c1, 8, .inl (fun _ => 0))), (q2, .inl (c2, 8, .inl (fun _ => 0)))]
def cq_atM (dC : Nat → ClassId) (dI : Nat → Nat → Nat) (A : Nat → Prop) (h : Nat) (_ : Unit) (U : State) : Prop := ∃ (q1 q2 : Nat) (c1 c2 : ClassId), va_P (dC, dI) cq_cl (cq_Mw h q1 q2 c1 c2) U.heap ∧ va_K (dC, dI) cq_cl [(c1, .int), (c2, .int)] U ∧ va_D A (cq_Mw h q1 q2 c1 c2)
set_option maxHeartbeats 4000000 in
set_option maxRecDepth 100000 in
theorem cC_M_init (l : Launch) (dC : Nat → ClassId) (dI : Nat → Nat → Nat) (h0 : Nat) (sz : Nat) : Met l zy_M_init zw_M_init ({ frames := 1, cells := 2, slots := 16, locals := 26 }) (va_Pc [.ref h0] (fun U => U.heap.size = sz ∧ va_P (dC, dI) cq_cl [(h0, .inr (1, cq_M0))] U.heap ∧ va_K (dC, dI) cq_cl [] U ∧ va_D (fun _ => True) [(h0, .inr (1, cq_M0))])) (va_Qv (fun _ : Unit => True) (cq_atM dC dI (va_A [(h0, .inr (1, cq_M0))] sz) h0) (va_A [(h0, .inr (1, cq_M0))] sz)) 2 16 (va_A [(h0, .inr (1, cq_M0))] sz) := by
  refine Met.ofW (cc := zc_M_init) (maxL := 1) (ret := none) (by decide) rfl ?_
  intro p e s m args below meth c s₁ B hml hv
  obtain ⟨rfl, hsz, hP, hK, hD0⟩ := hv
  have hx := B.exec
  have hb := B.bytes
  have hr := B.returns
  have hts0 := atoms_spec (ws := zw_M_init) B.pre
  have hts : ∀ w ∈ cq_ws, w.before _ s = true := fun w hw => hts0 w (List.mem_cons_of_mem _ (List.mem_append_left _ hw))
  have hown : s.vm.findClass zR_M = some m.cls := findClass_of_methodNamed B.named
  have hlocks := B.notSynchronized
  have hin : meth.name = "<init>" := (name_of_methodNamed B.named B.method).1
  subst hsz
  have hD := hD0.self (sz := s.heap.size)
  generalize hAe : va_A [(h0, .inr (1, cq_M0))] s.heap.size = A at hD ⊢
  have hA : ∀ q : Nat, s.heap.size ≤ q → A q := fun q h => by rw [← hAe]; exact Or.inr h
  have hS : va_S A s.heap s.heap [] := va_S.rf
  have hP : va_P (dC, dI) cq_cl [(h0, .inr (1, cq_M0))] s.heap := hP
  have hl := lv_entry ([.ref h0]) (n := 1) (Nat.le_of_ble_eq_true rfl)
  rw [lg_entry_eq]
  generalize (lg_sl ([.ref h0]) ++ List.replicate (1 - (lg_sl ([.ref h0])).length) Slot.unset).toArray = ls at hl ⊢
  have hl : lv_has ls 1 [(0, .ref h0)] := hl
  refine lv_aload_n hx hb zd_M_init_0 rfl (lv_at hl 0 rfl) ?_
  refine W.objInit hx hb hown (hts _ zx_oM) (hts _ zx_oi) (hts _ zx_oc) rfl (by rw [hml]; exact hl.1) rfl zd_M_init_1 (Nat.le_of_ble_eq_true rfl) (Nat.le_of_ble_eq_true rfl) ?_
  refine W.eq (g2 := F0 m 4 ls []) rfl ?_
  refine lv_aload_n hx hb zd_M_init_4 rfl (lv_at hl 0 rfl) ?_
  refine lv_bipush (v := nI 8) hx hb zd_M_init_5 (by decide) ?_
  refine va_newa (atype := .int) (ty := .int) (N' := 8) (a0 := (8, .inl (fun _ => 0))) hx hb (hts _ zx_aI) rfl hK hP hD hS hA (fun _ => rfl) (by decide) (by decide) (by decide) (by decide) (by decide) zd_M_init_7 (fun q1 c1 H hK hP hD hS => ?_)
  have hP : va_P (dC, dI) cq_cl [(h0, .inr (1, cq_M0)), (q1, .inl (c1, 8, .inl (fun _ => 0)))] H := hP
  have hD : va_D A [(h0, .inr (1, cq_M0)), (q1, .inl (c1, 8, .inl (fun _ => 0)))] := hD
  have hK : va_K (dC, dI) cq_cl [(c1, .int)] s := hK
  refine va_putF (D := (dC, dI)) (ci := 1) (v := .ref q1) (ty := .array .int) (C := zR_M) (T := zT_M) (N := 12) hx hb hts zi_M zt_M zo_M zn_M hown hK hP hD hS 0 rfl rfl 0 (by decide) (hts _ zf_M_9) (fun _ h9 => h9) rfl hin rfl (by decide +kernel) rfl rfl (Nat.le_of_ble_eq_true rfl) zd_M_init_9 (fun H locs hP hD hS => ?_)
  have hP : va_P (dC, dI) cq_cl [(h0, .inr (1, [.ref q1, .null, .int 0, .int 0, .int 0, .int 0, .int 0, .int 0, .int 0, .int 0, .int 0, .int 0])), (q1, .inl (c1, 8, .inl (fun _ => 0)))] H := hP
  have hD : va_D A [(h0, .inr (1, [.ref q1, .null, .int 0, .int 0, .int 0, .int 0, .int 0, .int 0, .int 0, .int 0, .int 0, .int 0])), (q1, .inl (c1, 8, .inl (fun _ => 0)))] := hD
  refine lv_aload_n hx hb zd_M_init_12 rfl (lv_at hl 0 rfl) ?_
  refine lv_bipush (v := nI 8) hx hb zd_M_init_13 (by decide) ?_
  refine va_newa (atype := .int) (ty := .int) (N' := 8) (a0 := (8, .inl (fun _ => 0))) hx hb (hts _ zx_aI) rfl hK hP hD hS hA (fun _ => rfl) (by decide) (by decide) (by decide) (by decide) (by decide) zd_M_init_15 (fun q2 c2 H hK hP hD hS => ?_)
  have hP : va_P (dC, dI) cq_cl [(h0, .inr (1, [.ref q1, .null, .int 0, .int 0, .int 0, .int 0, .int 0, .int 0, .int 0, .int 0, .int 0, .int 0])), (q1, .inl (c1, 8, .inl (fun _ => 0))), (q2, .inl (c2, 8, .inl (fun _ => 0)))] H := hP
  have hD : va_D A [(h0, .inr (1, [.ref q1, .null, .int 0, .int 0, .int 0, .int 0, .int 0, .int 0, .int 0, .int 0, .int 0, .int 0])), (q1, .inl (c1, 8, .inl (fun _ => 0))), (q2, .inl (c2, 8, .inl (fun _ => 0)))] := hD
  have hK : va_K (dC, dI) cq_cl [(c1, .int), (c2, .int)] s := hK
  refine va_putF (D := (dC, dI)) (ci := 1) (v := .ref q2) (ty := .array .int) (C := zR_M) (T := zT_M) (N := 12) hx hb hts zi_M zt_M zo_M zn_M hown hK hP hD hS 0 rfl rfl 1 (by decide) (hts _ zf_M_15) (fun _ h9 => h9) rfl hin rfl (by decide +kernel) rfl rfl (Nat.le_of_ble_eq_true rfl) zd_M_init_17 (fun H locs hP hD hS => ?_)
  have hP : va_P (dC, dI) cq_cl (cq_Mw h0 q1 q2 c1 c2) H := hP
  have hD : va_D A (cq_Mw h0 q1 q2 c1 c2) := hD
  exact W.vret hx hb hr (fun t ht hW => ⟨⟨(), rfl, trivial, q1, q2, c1, c2, by rw [ht]; exact hP, va_K.moved hW.alike hK, hD⟩, hS.F ht⟩) hS.2.2 zd_M_init_20
