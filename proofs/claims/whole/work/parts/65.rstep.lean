/-! A step of the class is a step of the reference. -/
theorem cq_p_twice (a : cq_S) (k i u v : Nat) : cq_p (cq_p a k i u) k i v = cq_p a k i v := by
  funext x y
  unfold cq_p
  repeat' split
  all_goals first | rfl | omega
theorem rq_n30 {a : cq_S} (L : lq_L a) {c r q : Nat} (hr : r < 16) (hq : q < a 20 0) (h : a 25 (cq_x c r q) = 0) : a 30 (cq_x c r q) = 0 := by
  refine Decidable.byContradiction (fun hne => ?_)
  obtain ⟨i, -, -, -, -, -, -, k1, k2, -⟩ := rq_kept L hr hq hne
  omega
theorem rq_n31 {a : cq_S} (L : lq_L a) {c r : Nat} (hr : r < 16) (h : a 27 (cq_x c r 0) = 0) : ∀ q, q < a 20 0 → a 31 (cq_x c r q) = 0 := by
  intro q hq
  refine Decidable.byContradiction (fun hne => ?_)
  obtain ⟨i, j1, j2, j3, j4, j5, j6⟩ := (L.2.1 c r q hr hq).2.1 hne
  obtain ⟨-, -, -, f3, -⟩ := L.1 i j1
  obtain ⟨-, -, -, t4, t5, -⟩ := f3 j2
  rw [j4, j5] at t4
  omega
/-- a batch delivered -/
theorem rq_fin {n : Nat} {g a : cq_S} (M : rq_M n g a) (hn : n ≤ 5) {p w : Nat} (hp : p < n) (hd : a 1 p &&& w = 0) (h8 : ∀ m, m < 8 → w / 2 ^ m % 2 = 1 → (mq_fin w p a m) 1 p / 2 ^ m % 2 = 0 → (mq_fin w p a m) 2 p < 8) : ∀ m, m ≤ 8 → ∀ v, rq_M n (cq_p (gq_del w p g m) 1 p v) (cq_p (mq_fin w p a m) 1 p v) := by
  intro m
  induction m with
  | zero => intro _ v; exact rq_M_p M (by unfold rq_K; omega) p v
  | succ m ih =>
    intro hm v
    have ih := ih (by omega)
    unfold gq_del mq_fin
    by_cases e : w / 2 ^ m % 2 = 0
    · rw [if_pos e, if_neg (by omega)]; exact ih v
    · have e1 : w / 2 ^ m % 2 = 1 := by omega
      have e2 : (mq_fin w p a m) 1 p / 2 ^ m % 2 = 0 := by
        rw [(jq_fin hd m).1, gq_or_bit]
        constructor
        · rw [jq_bit] at e1 ⊢
          have hb : w.testBit m = true := by
            cases hb : w.testBit m with
            | true => rfl
            | false => rw [hb] at e1; simp at e1
          have : (a 1 p &&& w).testBit m = false := by rw [hd]; simp
          rw [Nat.testBit_and, hb, Bool.and_true] at this
          rw [this]; rfl
        · rw [Nat.div_eq_of_lt (Nat.mod_lt _ (Nat.two_pow_pos m))]
      have hc := h8 m (by omega) e1 e2
      have e3 : gq_del w p g m 2 p = mq_fin w p a m 2 p := by
        have := (ih 0).2.2.2.2.1 2 p (by unfold rq_K; omega) hp
        rw [cq_p_k _ (by decide), cq_p_k _ (by decide)] at this
        exact this
      rw [if_neg e, if_pos ⟨e1, e2⟩, e3]
      have H := rq_M_p (rq_M_d (ih v) hn hp hc m) (k := 2) (by unfold rq_K; omega) p (mq_fin w p a m 2 p + 1)
      rw [cq_p_comm (k := 1) (k' := 40 + p) _ (by omega), cq_p_comm (k := 1) (k' := 2) _ (by omega), cq_p_comm (k := 1) (k' := 3) _ (by omega), cq_p_comm (k := 1) (k' := 2) _ (by omega)] at H
      rw [cq_p_comm (k := 1) (k' := 3) _ (by omega), cq_p_comm (k := 1) (k' := 2) _ (by omega), cq_p_twice]
      exact H
theorem rq_finish {n : Nat} {g a : cq_S} (R : rq_R n g a) (X : xq_I a) (hn : n ≤ 5) {p : Nat} (hp : p < n) (h48 : a 4 p < 8) (hw : a 6 (8 * p + a 4 p) ≠ 0) : rq_R n (gq_finish g p) (mq_finish a p) := by
  obtain ⟨M, W, P, B⟩ := R
  have J := X.1.1
  have h20 := M.1
  have hp' : p < a 20 0 := by omega
  have E : ∀ k, rq_K k → g k p = a k p := fun k hk => M.2.2.2.2.1 k p hk hp
  have e4 := E 4 (by unfold rq_K; omega)
  have e1 := E 1 (by unfold rq_K; omega)
  have e2 := E 2 (by unfold rq_K; omega)
  have e6 : g (60 + p) (a 4 p) = a 6 (8 * p + a 4 p) := M.2.2.2.2.2.2 p _ hp h48
  obtain ⟨dj, dl⟩ := jq_disj J hp' h48 hw
  have f8 := jq_fin8 J hp' h48 hw
  obtain ⟨-, -, -, -, ⟨-, hv⟩, -⟩ := X
  have b1 : a 1 p < 256 := (J.2.2.2.2.1 p hp').2.2.2.2.2.2.2
  unfold gq_finish mq_finish
  rw [e4, e6]
  generalize a 6 (8 * p + a 4 p) = w at *
  have an : cq_an w (g 1 p) = w := by
    rw [e1]
    unfold cq_an
    rw [Nat.and_comm, dj, Nat.xor_zero]
  have base : rq_R n (gq_batch g p w) (mq_fin w p a 8) := by
    refine ⟨?_, rq_W_o W (fun i => gq_batch_k _ _ _ _ _ (by omega) (by decide)) (fun i => gq_batch_k _ _ _ _ _ (by omega) (by decide)) (fun k i h => mq_fin_k _ _ _ _ _ _ (by omega)), rq_P_o P (fun k i h1 h2 => gq_batch_k _ _ _ _ _ (by omega) (by omega)) (fun k i h => mq_fin_k _ _ _ _ _ _ (by omega)), rq_B_o B ?_ (fun k i h1 h2 => gq_batch_k _ _ _ _ _ (by omega) (by omega))⟩
    · have := rq_fin M hn hp dj f8 8 (Nat.le_refl _) (mq_fin w p a 8 1 p)
      rw [cq_p_same, (jq_fin dj 8).1, Nat.mod_eq_of_lt (show w < 2 ^ 8 from dl)] at this
      unfold gq_batch
      rw [an, e1]
      exact this
    · unfold gq_batch
      rw [an, e1]
      have : a 1 p ||| w < 2 ^ 8 := Nat.or_lt_two_pow b1 dl
      exact (gq_del_B B.1 (by rw [e2]; exact (hv p).2.1) 8 (Nat.le_refl _)).put (by omega)
  exact rq_R_p (rq_R_p (rq_R_p (rq_R_p (rq_R_p base (by unfold rq_K; omega) p (by omega)) (by unfold rq_K; omega) p (by decide)) (by unfold rq_K; omega) p (by decide)) (by unfold rq_K; omega) p (by decide)) (by unfold rq_K; omega) p (by decide)
