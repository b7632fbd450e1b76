/-! The law's cell. -/
def cq_x0 (L : Nat) (xs : Nat → Int32) : Int32 := if 0 < L then xs 0 else 0
set_option maxHeartbeats 4000000 in
set_option maxRecDepth 100000 in
theorem cW_cell (l : Launch) (b L : Nat) (xs : Nat → Int32) (hL : L < 2000000000) : Met l zy_W_cell zw_W_cell ({ frames := 0, cells := 0, slots := 0, locals := 0 }) (va_Pc [.ref b, .int 0] (fun U => va_X b L xs U U.heap)) (va_Qi (fun (r : Int32) (_ : Unit) => r = cq_x0 L xs) (fun _ _ => True) (fun _ => False)) 0 0 (fun _ => False) := by
  refine Met.ofW (cc := zc_W_cell) (maxL := 2) (ret := some .int) (by decide) rfl ?_
  intro p e s m args below meth c s₁ B hml hv
  obtain ⟨rfl, hX⟩ := hv
  have hx := B.exec
  have hb := B.bytes
  have hr := B.returns
  have hlocks := B.notSynchronized
  have hbl : b < s.heap.size := by
    obtain ⟨scr, h1, -⟩ := hX
    exact (Array.getElem?_eq_some_iff.mp h1).1
  have hbA : ¬ (fun _ : Nat => False) b := fun h => h
  have hS : va_S (fun _ : Nat => False) s.heap s.heap [] := va_S.rf
  have hl := lv_entry ([.ref b, .int 0]) (n := 2) (Nat.le_of_ble_eq_true rfl)
  rw [lg_entry_eq]
  generalize (lg_sl ([.ref b, .int 0]) ++ List.replicate (2 - (lg_sl ([.ref b, .int 0])).length) Slot.unset).toArray = ls at hl ⊢
  have hl : lv_has ls 2 [(0, .ref b), (1, .int (nI 0))] := hl
  refine lv_iload_n hx hb zd_W_cell_0 rfl (lv_at hl 1 rfl) ?_
  refine lv_aload_n hx hb zd_W_cell_1 rfl (lv_at hl 0 rfl) ?_
  refine va_slen hx hb hX hbl hbA hS zd_W_cell_2 ?_
  refine cn_icmp_ge (y := L) (tgt := 12) hx hb zd_W_cell_3 (by decide) (by decide) (by omega) (fun g => ?_) (fun g => ?_)
  · refine lv_iconst (v := 0) hx hb zd_W_cell_12 (by decide) ?_
    refine W.zret hx hb hr rfl (fun t ht hW => ⟨⟨0, (), rfl, ?_, trivial⟩, hS.F ht⟩) hS.2.2 zd_W_cell_13
    unfold cq_x0
    rw [if_neg (by omega)]
  · refine lv_aload_n hx hb zd_W_cell_6 rfl (lv_at hl 0 rfl) ?_
    refine lv_iload_n hx hb zd_W_cell_7 rfl (lv_at hl 1 rfl) ?_
    refine va_sld hx hb hX hbl hbA hS (vp_in_nI (show 0 < L by omega) (by omega)) zd_W_cell_8 ?_
    refine lv_goto (tgt := 13) hx hb zd_W_cell_9 (by decide) ?_
    refine W.zret hx hb hr rfl (fun t ht hW => ⟨⟨_, (), rfl, ?_, trivial⟩, hS.F ht⟩) hS.2.2 zd_W_cell_13
    unfold cq_x0
    rw [if_pos (by omega)]
    rfl
