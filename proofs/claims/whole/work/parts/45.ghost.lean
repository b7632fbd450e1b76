/-! What a letter that is put changes, place by place. -/
theorem mq_lg_hi (a : cq_S) (k p q c r w k' i' : Nat) (h : 24 ≤ k') : mq_lg a k p q c r w k' i' = a k' i' := by
  unfold mq_lg
  simp [cq_p, show k' ≠ 12 by omega, show k' ≠ 13 by omega, show k' ≠ 14 by omega, show k' ≠ 15 by omega, show k' ≠ 16 by omega, show k' ≠ 17 by omega, show k' ≠ 18 by omega, show k' ≠ 19 by omega, show k' ≠ 23 by omega]
theorem mq_put_25 (a : cq_S) (k p q c r w x : Nat) : mq_put a k p q c r w 25 x = if k = 2 ∧ x = cq_x c r p then w else a 25 x := by
  unfold mq_put mq_gh
  repeat' split
  all_goals simp_all [cq_p, mq_lg_hi]
theorem mq_put_26 (a : cq_S) (k p q c r w x : Nat) : mq_put a k p q c r w 26 x = if k = 2 ∧ x = cq_x c r p then a 10 p else a 26 x := by
  unfold mq_put mq_gh
  repeat' split
  all_goals simp_all [cq_p, mq_lg_hi]
theorem mq_put_27 (a : cq_S) (k p q c r w x : Nat) : mq_put a k p q c r w 27 x = if k = 3 ∧ x = cq_x c r 0 then w else a 27 x := by
  unfold mq_put mq_gh
  repeat' split
  all_goals simp_all [cq_p, mq_lg_hi]
theorem mq_put_28 (a : cq_S) (k p q c r w x : Nat) : mq_put a k p q c r w 28 x = if (k = 4 ∧ w = 1) ∧ x = cq_x c r p then 1 else a 28 x := by
  unfold mq_put mq_gh
  repeat' split
  all_goals simp_all [cq_p, mq_lg_hi]
theorem mq_put_29 (a : cq_S) (k p q c r w x : Nat) : mq_put a k p q c r w 29 x = if (k = 4 ∧ w ≠ 1) ∧ x = cq_x c r p then 1 else a 29 x := by
  unfold mq_put mq_gh
  repeat' split
  all_goals simp_all [cq_p, mq_lg_hi]
theorem mq_put_30 (a : cq_S) (k p q c r w x : Nat) : mq_put a k p q c r w 30 x = if (k = 2 ∧ p = q) ∧ x = cq_x c r p then 1 else a 30 x := by
  unfold mq_put mq_gh
  repeat' split
  all_goals simp_all [cq_p, mq_lg_hi]
theorem mq_put_31 (a : cq_S) (k p q c r w x : Nat) : mq_put a k p q c r w 31 x = a 31 x := by
  unfold mq_put mq_gh
  repeat' split
  all_goals simp_all [cq_p, mq_lg_hi]
theorem mq_put_32 (a : cq_S) (k p q c r w x : Nat) : mq_put a k p q c r w 32 x = if (k = 4 ∧ w = 1 ∧ p = q) ∧ x = cq_x c r p then 1 else a 32 x := by
  unfold mq_put mq_gh
  repeat' split
  all_goals simp_all [cq_p, mq_lg_hi]
theorem mq_put_33 (a : cq_S) (k p q c r w x : Nat) : mq_put a k p q c r w 33 x = if (k = 4 ∧ w ≠ 1 ∧ p = q) ∧ x = cq_x c r p then 1 else a 33 x := by
  unfold mq_put mq_gh
  repeat' split
  all_goals simp_all [cq_p, mq_lg_hi]
theorem mq_put_34 (a : cq_S) (k p q c r w : Nat) : mq_put a k p q c r w 34 0 = a 34 0 + (if (k = 2 ∨ k = 4) ∧ p = q then 0 else 1) := by
  unfold mq_put mq_gh
  repeat' split
  all_goals simp_all [cq_p, mq_lg_hi]
theorem mq_put_35 (a : cq_S) (k p q c r w : Nat) : mq_put a k p q c r w 35 0 = a 35 0 + (if (k = 2 ∨ k = 4) ∧ p = q then 1 else 0) := by
  unfold mq_put mq_gh
  repeat' split
  all_goals simp_all [cq_p, mq_lg_hi]
/-- the letters: those that were stay, the new one comes behind them -/
theorem mq_put_old (a : cq_S) (k p q c r w k' i : Nat) (hk : 12 ≤ k' ∧ k' < 20) (hi : i ≠ a 23 0) : mq_put a k p q c r w k' i = a k' i := by
  unfold mq_put
  rw [mq_gh_lo _ _ _ _ _ _ _ _ _ _ (by omega)]
  unfold mq_lg
  simp [cq_p, hi, show k' ≠ 23 by omega]
theorem mq_put_12 (a : cq_S) (k p q c r w : Nat) : mq_put a k p q c r w 12 (a 23 0) = k := by
  unfold mq_put; rw [mq_gh_lo _ _ _ _ _ _ _ _ _ _ (by decide)]; simp [mq_lg, cq_p]
theorem mq_put_13 (a : cq_S) (k p q c r w : Nat) : mq_put a k p q c r w 13 (a 23 0) = p := by
  unfold mq_put; rw [mq_gh_lo _ _ _ _ _ _ _ _ _ _ (by decide)]; simp [mq_lg, cq_p]
theorem mq_put_14 (a : cq_S) (k p q c r w : Nat) : mq_put a k p q c r w 14 (a 23 0) = q := by
  unfold mq_put; rw [mq_gh_lo _ _ _ _ _ _ _ _ _ _ (by decide)]; simp [mq_lg, cq_p]
theorem mq_put_15 (a : cq_S) (k p q c r w : Nat) : mq_put a k p q c r w 15 (a 23 0) = c := by
  unfold mq_put; rw [mq_gh_lo _ _ _ _ _ _ _ _ _ _ (by decide)]; simp [mq_lg, cq_p]
theorem mq_put_16 (a : cq_S) (k p q c r w : Nat) : mq_put a k p q c r w 16 (a 23 0) = r := by
  unfold mq_put; rw [mq_gh_lo _ _ _ _ _ _ _ _ _ _ (by decide)]; simp [mq_lg, cq_p]
theorem mq_put_17 (a : cq_S) (k p q c r w : Nat) : mq_put a k p q c r w 17 (a 23 0) = w := by
  unfold mq_put; rw [mq_gh_lo _ _ _ _ _ _ _ _ _ _ (by decide)]; simp [mq_lg, cq_p]
theorem mq_put_18 (a : cq_S) (k p q c r w : Nat) : mq_put a k p q c r w 18 (a 23 0) = if k = 2 then a 10 p else 0 := by
  unfold mq_put; rw [mq_gh_lo _ _ _ _ _ _ _ _ _ _ (by decide)]; simp [mq_lg, cq_p]
theorem mq_put_19 (a : cq_S) (k p q c r w : Nat) : mq_put a k p q c r w 19 (a 23 0) = if p = q then 1 else 0 := by
  unfold mq_put; rw [mq_gh_lo _ _ _ _ _ _ _ _ _ _ (by decide)]; simp [mq_lg, cq_p]
/-- many letters of one kind: our marks of kinds 1 and 5 -/
theorem mq_all_gk (a : cq_S) (k p c r w j k' x : Nat) (hk : k = 1 ∨ k = 5) (h : 25 ≤ k' ∧ k' < 34) : mq_all a k p c r w j k' x = a k' x := by
  induction j with
  | zero => rfl
  | succ j ih =>
    unfold mq_all
    split
    · exact ih
    · rw [← ih]
      unfold mq_put mq_gh
      rw [if_neg (by omega), if_neg (by omega), if_neg (by omega), cq_p_k _ (by omega)]
      exact mq_lg_hi _ _ _ _ _ _ _ _ _ (by omega)
theorem mq_all_g3 (a : cq_S) (p c r w j k' x : Nat) (h : 25 ≤ k' ∧ k' < 34 ∧ k' ≠ 27) : mq_all a 3 p c r w j k' x = a k' x := by
  induction j with
  | zero => rfl
  | succ j ih =>
    unfold mq_all
    split
    · exact ih
    · rw [← ih]
      unfold mq_put mq_gh
      rw [if_neg (by decide), if_pos rfl, cq_p_k _ (by omega), cq_p_k _ (by omega)]
      exact mq_lg_hi _ _ _ _ _ _ _ _ _ (by omega)
theorem mq_all_27 (a : cq_S) (p c r w x : Nat) : ∀ j, 2 ≤ j → mq_all a 3 p c r w j 27 x = if x = cq_x c r 0 then w else a 27 x := by
  have key : ∀ j, mq_all a 3 p c r w j 27 x = a 27 x ∨ mq_all a 3 p c r w j 27 x = if x = cq_x c r 0 then w else a 27 x := by
    intro j
    induction j with
    | zero => exact Or.inl rfl
    | succ j ih =>
      unfold mq_all
      split
      · exact ih
      · right
        rw [mq_put_27]
        by_cases hx : x = cq_x c r 0
        · simp [hx]
        · simp only [hx, and_false, if_false]
          rcases ih with h | h
          · exact h
          · rw [h, if_neg hx]
  intro j
  induction j with
  | zero => intro h; omega
  | succ j ih =>
    intro hj
    by_cases hx : x = cq_x c r 0
    · rw [if_pos hx]
      by_cases hjp : j = p
      · unfold mq_all
        rw [if_pos hjp]
        by_cases h2 : 2 ≤ j
        · rw [ih h2, if_pos hx]
        · have hj1 : j = 1 := by omega
          subst hj1
          have h0 : ¬ 0 = p := by omega
          have e : mq_all a 3 p c r w 1 = mq_put a 3 p 0 c r w := if_neg h0
          rw [e, mq_put_27, if_pos ⟨rfl, hx⟩]
      · unfold mq_all
        rw [if_neg hjp, mq_put_27, if_pos ⟨rfl, hx⟩]
    · rw [if_neg hx]
      rcases key (j + 1) with h | h
      · exact h
      · rw [h, if_neg hx]
