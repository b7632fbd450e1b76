/-! The class's constructor. -/
theorem cq_cwI {R : Room} {s : State} {args : Array Value} {own : String} {index maxL mc ms : Nat} {y : MethodName} {bytes : ByteArray} {rm : Room} (n : Nat) (ht : ∀ w ∈ cq_ws, w.before args s = true) (hm : Cond.code y bytes maxL none ∈ cq_ws) (hl : Cond.methodLink own index y ∈ cq_ws) (hi : Cond.instanceMethod y ∈ cq_ws) (hz : Cond.initialized y.cls ∈ cq_ws) (hy : y.name = "<init>") (hrc : rm.cells = mc) (hrs : rm.slots = ms)
    (hd : y.cls ≠ "java/lang/invoke/MethodHandle" ∧ y.cls ≠ "java/lang/invoke/VarHandle" ∧ (parseMethodDescriptor y.desc).map (fun d => d.parameters.length) = some n) (hR : rm.frames + 1 ≤ R.frames ∧ 8 + (maxL + 11) + rm.locals ≤ R.locals) : CallB R s args own index y bytes maxL none (Cond.code y bytes maxL none :: cq_ws) rm mc ms n ∧ y.name = "<init>" ∧ (Cond.instanceMethod y).before args s = true :=
  ⟨callB_of n ht (cq_GI hm) rfl hrc hrs (ht _ hz) (ht _ hl) hd hR, hy, ht _ hi⟩
theorem cq_cwIN {R : Room} {s : State} {args : Array Value} {own host : String} {index maxL mc ms : Nat} {y : MethodName} {bytes : ByteArray} {rm : Room} (n : Nat) (ht : ∀ w ∈ cq_ws, w.before args s = true) (hm : Cond.code y bytes maxL none ∈ cq_ws) (hl : va_Nw (.methodLinkNest own index y host) s) (hi : Cond.instanceMethod y ∈ cq_ws) (hz : Cond.initialized y.cls ∈ cq_ws) (hy : y.name = "<init>") (hrc : rm.cells = mc) (hrs : rm.slots = ms)
    (hd : y.cls ≠ "java/lang/invoke/MethodHandle" ∧ y.cls ≠ "java/lang/invoke/VarHandle" ∧ (parseMethodDescriptor y.desc).map (fun d => d.parameters.length) = some n) (hR : rm.frames + 1 ≤ R.frames ∧ 8 + (maxL + 11) + rm.locals ≤ R.locals) : va_CN R s args own index y host bytes maxL none (Cond.code y bytes maxL none :: cq_ws) rm mc ms n ∧ y.name = "<init>" ∧ (Cond.instanceMethod y).before args s = true :=
  ⟨va_cnB n ht (cq_GI hm) rfl hrc hrs hl (ht _ hz) hd hR, hy, ht _ hi⟩
def cq_C0 : List Value := [.int 0, .null, .null, .null, .int 0, .int 0]
def cq_atC (n : Nat) (dC : Nat → ClassId) (dI : Nat → Nat → Nat) (A : Nat → Prop) (h : Nat) (_ : Unit) (U : State) : Prop := ∃ (ad : Nat → Nat) (cI cA : ClassId), ad 0 = h ∧ va_P (dC, dI) cq_cl (wC n ad cI cA (cq_p (fun _ _ => 0) 20 0 n)) U.heap ∧ va_K (dC, dI) cq_cl (tysC cI cA) U ∧ va_D A (wC n ad cI cA (cq_p (fun _ _ => 0) 20 0 n))
theorem cq_fsM : ∀ j, j < 12 → defaultValue (zt_M j) = vp_V cq_M0 j := by
  intro j hj
  match j, hj with
  | 0, _ => rfl
  | 1, _ => rfl
  | 2, _ => rfl
  | 3, _ => rfl
  | 4, _ => rfl
  | 5, _ => rfl
  | 6, _ => rfl
  | 7, _ => rfl
  | 8, _ => rfl
  | 9, _ => rfl
  | 10, _ => rfl
  | 11, _ => rfl
  | j + 12, h => exact absurd h (by omega)
theorem cq_fsP : ∀ j, j < 2 → defaultValue (zt_P j) = vp_V cq_P0 j := by
  intro j hj
  match j, hj with
  | 0, _ => rfl
  | 1, _ => rfl
  | j + 2, h => exact absurd h (by omega)
theorem cq_fsQ : ∀ j, j < 5 → defaultValue (zt_Q j) = vp_V cq_Q0 j := by
  intro j hj
  match j, hj with
  | 0, _ => rfl
  | 1, _ => rfl
  | 2, _ => rfl
  | 3, _ => rfl
  | 4, _ => rfl
  | j + 5, h => exact absurd h (by omega)
theorem cq_lt3 (j : Nat) (h : j < 3) (f g : Nat → Option Nat) (h0 : f 0 = g 0) (h1 : f 1 = g 1) (h2 : f 2 = g 2) : f j = g j := by
  rcases (show j = 0 ∨ j = 1 ∨ j = 2 by omega) with rfl | rfl | rfl <;> assumption
theorem cq_lt4 (j : Nat) (h : j < 4) (f g : Nat → Option Nat) (h0 : f 0 = g 0) (h1 : f 1 = g 1) (h2 : f 2 = g 2) (h3 : f 3 = g 3) : f j = g j := by
  rcases (show j = 0 ∨ j = 1 ∨ j = 2 ∨ j = 3 by omega) with rfl | rfl | rfl | rfl <;> assumption
theorem cq_lt5 (j : Nat) (h : j < 5) (f g : Nat → Option Nat) (h0 : f 0 = g 0) (h1 : f 1 = g 1) (h2 : f 2 = g 2) (h3 : f 3 = g 3) (h4 : f 4 = g 4) : f j = g j := by
  rcases (show j = 0 ∨ j = 1 ∨ j = 2 ∨ j = 3 ∨ j = 4 by omega) with rfl | rfl | rfl | rfl | rfl <;> assumption
theorem cq_arrV {cI : ClassId} {N : Nat} {f g : Nat → Value} (h : ∀ j, j < N → f j = g j) : arrV cI N f = arrV cI N g := by
  unfold arrV
  have : (fun j : Fin N => f j.val) = fun j => g j.val := funext fun j => h j.val j.isLt
  rw [this]
/-- an array of references is what it holds within its length -/
theorem va_P.arr {D : va_G} {cl : List vw_C} {ws : va_W} {H : Heap} (h : va_P D cl ws H) {k a n : Nat} {cA : ClassId} {f : Nat → Option Nat} (hk : ws[k]? = some (a, .inl (cA, n, .inr (.inr (.inr (.inr f)))))) {f' : Nat → Option Nat} (hf : ∀ j, j < n → f j = f' j) : va_P D cl (ws.set k (a, .inl (cA, n, .inr (.inr (.inr (.inr f')))))) H := by
  intro i q hi
  by_cases e : i = k
  · subst e
    rw [List.getElem?_set_self (List.getElem?_eq_some_iff.mp hk).1] at hi
    cases hi
    have h2 : H[a]? = some (vp_cell cA (n, .inr (.inr (.inr (.inr f))))) := h i _ hk
    show H[a]? = some (vp_cell cA (n, .inr (.inr (.inr (.inr f')))))
    rw [h2, vp_cell_q, vp_cell_q, cq_arrV (fun j hj => by rw [hf j hj])]
  · rw [List.getElem?_set_ne (Ne.symm e)] at hi
    exact h i q hi
