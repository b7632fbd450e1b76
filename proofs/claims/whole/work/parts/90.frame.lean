/-! Calls in the law: a callee's world beside the other's. -/
theorem cq_apL {α : Type} {a b : List α} {i : Nat} {p : α} (h : a[i]? = some p) : (a ++ b)[i]? = some p := by
  rw [List.getElem?_append_left (List.getElem?_eq_some_iff.mp h).1]; exact h
theorem cq_apR {α : Type} {a b : List α} {i : Nat} {p : α} (h : b[i]? = some p) : (a ++ b)[a.length + i]? = some p := by
  rw [List.getElem?_append_right (Nat.le_add_right _ _), Nat.add_sub_cancel_left]; exact h
def cq_X (c f : va_W) : Prop := ∀ (i j : Nat) (p q : Nat × va_E), c[i]? = some p → f[j]? = some q → p.1 ≠ q.1
theorem cq_X.symm {c f : va_W} (h : cq_X c f) : cq_X f c := fun i j p q hi hj e => h j i q p hj hi e.symm
theorem cq_PL {D : va_G} {cl : List vw_C} {a b : va_W} {H : Heap} (h : va_P D cl (a ++ b) H) : va_P D cl a H := fun k q hk => h k q (cq_apL hk)
theorem cq_PR {D : va_G} {cl : List vw_C} {a b : va_W} {H : Heap} (h : va_P D cl (a ++ b) H) : va_P D cl b H := fun k q hk => h _ q (cq_apR hk)
theorem cq_DL {A : Nat → Prop} {a b : va_W} (h : va_D A (a ++ b)) : va_D A a := ⟨fun i j p q hi hj e => h.1 i j p q (cq_apL hi) (cq_apL hj) e, fun k q hk => h.2 k q (cq_apL hk)⟩
theorem cq_DR {A : Nat → Prop} {a b : va_W} (h : va_D A (a ++ b)) : va_D A b := ⟨fun i j p q hi hj e => by have := h.1 _ _ p q (cq_apR hi) (cq_apR hj) e; omega, fun k q hk => h.2 _ q (cq_apR hk)⟩
theorem cq_DX {A : Nat → Prop} {a b : va_W} (h : va_D A (a ++ b)) : cq_X b a := fun i j p q hi hj e => by
  have h1 := h.1 _ _ p q (cq_apR hi) (cq_apL hj) e
  have h2 := (List.getElem?_eq_some_iff.mp hj).1
  omega
theorem cq_fr {D : va_G} {cl : List vw_C} {f c c' : va_W} {H H1 : Heap} (hPf : va_P D cl f H) (hx : cq_X c f) (hk : ∀ q : Nat, q < H.size → ¬ va_A c H.size q → H1[q]? = H[q]?) (hD1 : va_D (va_A c H.size) c') : va_P D cl f H1 ∧ cq_X c' f := by
  have ap : ∀ (k : Nat) (q : Nat × va_E), f[k]? = some q → q.1 < H.size ∧ ¬ va_A c H.size q.1 := by
    intro k q hq
    have hl := (hPf k q hq).lt
    refine ⟨hl, fun h => ?_⟩
    rcases h with ⟨i, e, h⟩ | h
    · exact hx i k (q.1, e) q h hq rfl
    · exact absurd hl (Nat.not_lt.mpr h)
  refine ⟨hPf.kept (fun k q hq => hk q.1 (ap k q hq).1 (ap k q hq).2), fun i j p q hi hj e => ?_⟩
  exact (ap j q hj).2 (e ▸ hD1.2 i p hi)
section
variable {p : Program} {l : Launch} {e : Env} {R : Room} {s : State} {m : MethodId} {args : Array Value} {below : List Frame} {meth : Method} {c : Code} {H : Heap} {locs : List Loc} {cells slots : Nat} {Q : State → Prop}
variable {cc : ByteArray} {pc : Nat} {ls : Array Slot} {rest : List Value} {D : va_G} {cl : List vw_C} {A : Nat → Prop} {tys : List (ClassId × FieldType)} {H0 : Heap} {w : cq_S → va_W} {a : cq_S}
variable {y : MethodName} {bytes : ByteArray} {maxL nL n index : Nat} {ret : Option FieldType} {ws : List Cond} {rm : Room} {Ts : List Cond} {own C : String} {b : Addr} {As : List Value} {st0 : List Value}
theorem cq_callF {post : Int32 → cq_S → Prop} {f : va_W} (S : CallFix p m c cc nL s args Ts own) (hM : cq_CI l y ws rm D cl w tys a (.ref b :: As) post) (cw : CallW R s args own C index y bytes maxL ret ws rm 0 0 n)
    (hK : va_K D cl tys s) (hP : va_P D cl (w a) H) (hD : va_D A (w a)) (hPf : va_P D cl f H) (hX : cq_X (w a) f) (hS : va_S A H0 H locs) (hA : ∀ q, H0.size ≤ q → A q) (q0 : Nat) {ci N : Nat} {T : u_T} {fs : List Value} (he : (w a)[q0]? = some (b, .inr (ci, fs))) (hc : cl[ci]? = some (C, T, N))
    (hn : As.length = n) (hsize : ls.size = nL) (hstack : st0 = As.reverse ++ .ref b :: rest) (hW : (rest.map fun v => v.category).sum ≤ 8) (hdg : decode cc pc = .ok (.invokevirtual index, 3)) (hf : cells ≤ R.cells ∧ slots ≤ R.slots)
    (kk : ∀ (r : Int32) (u : cq_S) (H1 : Heap) (locs1 : List Loc), post r u → va_P D cl (w u) H1 → va_D A (w u) → va_P D cl f H1 → cq_X (w u) f → va_S A H0 H1 locs1 → W p l e R s m args below meth c H1 locs1 cells slots Q (F0 m (pc + 3) ls (.int r :: rest))) : W p l e R s m args below meth c H locs cells slots Q (F0 m pc ls st0) := by
  have hF := cq_sub hD hS hA
  refine va_calli (va_runV (C := C) (b := b) (As := As) (rest := rest) S (hM H.size) cw ⟨cq_blind, va_recv hK hP hc he, fun U hU hWm => ⟨rfl, by rw [hU], by rw [hU]; exact hP, va_K.moved hWm.alike hK, hD.weaken (fun _ _ _ _ => trivial)⟩⟩ rfl hn hsize hstack (lv_room hW) hdg hf) hS (fun q _ h => hF q h) hF (fun r u t H1 locs1 ht hvm hp hB hz hk hS1 => ?_)
  obtain ⟨hP1, hK1, hD1⟩ := hB
  rw [ht] at hP1
  obtain ⟨hPf1, hX1⟩ := cq_fr hPf hX hk hD1
  exact kk r u H1 locs1 hp hP1 (hD1.weaken (fun _ _ _ h => hF _ h)) hPf1 hX1 hS1
end
/-- both worlds of the law -/
def cq_LW (D : va_G) (A : Nat → Prop) (n : Nat) (ad : Nat → Nat) (cI cA : ClassId) (bd : Nat → Nat) (cs : Nat → ClassId) (g a : cq_S) (H : Heap) : Prop :=
  va_P D cq_cl (wC n ad cI cA g) H ∧ va_D A (wC n ad cI cA g) ∧ va_P D cq_cl (wM bd cs a) H ∧ va_D A (wM bd cs a) ∧ cq_X (wC n ad cI cA g) (wM bd cs a)
section
variable {p : Program} {l : Launch} {e : Env} {R : Room} {s : State} {m : MethodId} {args : Array Value} {below : List Frame} {meth : Method} {c : Code} {H : Heap} {locs : List Loc} {cells slots : Nat} {Q : State → Prop}
variable {cc : ByteArray} {pc : Nat} {ls : Array Slot} {rest : List Value} {D : va_G} {A : Nat → Prop} {H0 : Heap} {n : Nat} {ad : Nat → Nat} {cI cA : ClassId} {bd : Nat → Nat} {cs : Nat → ClassId} {g a : cq_S}
variable {y : MethodName} {bytes : ByteArray} {maxL nL na index : Nat} {ret : Option FieldType} {ws : List Cond} {rm : Room} {Ts : List Cond} {own : String} {As : List Value} {st0 : List Value}
theorem cq_callC {post : Int32 → cq_S → Prop} (S : CallFix p m c cc nL s args Ts own) (hM : cq_CI l y ws rm D cq_cl (wC n ad cI cA) (tysC cI cA) g (.ref (ad 0) :: As) post) (cw : CallW R s args own zR_C index y bytes maxL ret ws rm 0 0 na)
    (hK : va_K D cq_cl (tysC cI cA) s) (hL : cq_LW D A n ad cI cA bd cs g a H) (hS : va_S A H0 H locs) (hA : ∀ q, H0.size ≤ q → A q)
    (hn : As.length = na) (hsize : ls.size = nL) (hstack : st0 = As.reverse ++ .ref (ad 0) :: rest) (hW : (rest.map fun v => v.category).sum ≤ 8) (hdg : decode cc pc = .ok (.invokevirtual index, 3)) (hf : cells ≤ R.cells ∧ slots ≤ R.slots)
    (kk : ∀ (r : Int32) (u : cq_S) (H1 : Heap) (locs1 : List Loc), post r u → cq_LW D A n ad cI cA bd cs u a H1 → va_S A H0 H1 locs1 → W p l e R s m args below meth c H1 locs1 cells slots Q (F0 m (pc + 3) ls (.int r :: rest))) : W p l e R s m args below meth c H locs cells slots Q (F0 m pc ls st0) := by
  obtain ⟨h1, h2, h3, h4, h5⟩ := hL
  exact cq_callF S hM cw hK h1 h2 h3 h5 hS hA 0 (wC_at 0 (by omega)) rfl hn hsize hstack hW hdg hf (fun r u H1 locs1 hp a1 a2 a3 a4 a5 => kk r u H1 locs1 hp ⟨a1, a2, a3, h4, a4⟩ a5)
theorem cq_callR {post : Int32 → cq_S → Prop} (S : CallFix p m c cc nL s args Ts own) (hM : cq_CI l y ws rm D cq_cl (wM bd cs) (tysM cs) a (.ref (bd 0) :: As) post) (cw : CallW R s args own zR_R index y bytes maxL ret ws rm 0 0 na)
    (hK : va_K D cq_cl (tysM cs) s) (hL : cq_LW D A n ad cI cA bd cs g a H) (hS : va_S A H0 H locs) (hA : ∀ q, H0.size ≤ q → A q)
    (hn : As.length = na) (hsize : ls.size = nL) (hstack : st0 = As.reverse ++ .ref (bd 0) :: rest) (hW : (rest.map fun v => v.category).sum ≤ 8) (hdg : decode cc pc = .ok (.invokevirtual index, 3)) (hf : cells ≤ R.cells ∧ slots ≤ R.slots)
    (kk : ∀ (r : Int32) (u : cq_S) (H1 : Heap) (locs1 : List Loc), post r u → cq_LW D A n ad cI cA bd cs g u H1 → va_S A H0 H1 locs1 → W p l e R s m args below meth c H1 locs1 cells slots Q (F0 m (pc + 3) ls (.int r :: rest))) : W p l e R s m args below meth c H locs cells slots Q (F0 m pc ls st0) := by
  obtain ⟨h1, h2, h3, h4, h5⟩ := hL
  exact cq_callF S hM cw hK h3 h4 h1 h5.symm hS hA 0 rfl rfl hn hsize hstack hW hdg hf (fun r u H1 locs1 hp a1 a2 a3 a4 a5 => kk r u H1 locs1 hp ⟨a3, h2, a1, a2, a4.symm⟩ a5)
end
theorem cq_and31 (x : Int32) : ∃ k, k < 32 ∧ x &&& 31 = nI k := by
  refine ⟨(x.toBitVec &&& 31#32).toNat, ?_, ?_⟩
  · rw [BitVec.toNat_and]
    exact Nat.lt_of_le_of_lt Nat.and_le_right (by decide)
  · apply Int32.toBitVec_inj.1
    show x.toBitVec &&& 31#32 = BitVec.ofNat 32 _
    rw [BitVec.ofNat_toNat, BitVec.setWidth_eq]
theorem cn_inc4 (x : Nat) : nI x + Int32.ofInt 4 = nI (x + 4) := by
  rw [← nI_add]; rfl
