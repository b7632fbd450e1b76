/-! What a letter that is put leaves as it was. -/
theorem mq_put_k (a : cq_S) (k p q c r w k' i' : Nat) (h : k' < 12 ∨ (20 ≤ k' ∧ k' < 23)) : mq_put a k p q c r w k' i' = a k' i' := by
  unfold mq_put
  rw [mq_gh_lo _ _ _ _ _ _ _ _ _ _ (by omega)]
  unfold mq_lg
  simp [cq_p, show k' ≠ 12 by omega, show k' ≠ 13 by omega, show k' ≠ 14 by omega, show k' ≠ 15 by omega, show k' ≠ 16 by omega, show k' ≠ 17 by omega, show k' ≠ 18 by omega, show k' ≠ 19 by omega, show k' ≠ 23 by omega]
theorem mq_put_n (a : cq_S) (k p q c r w : Nat) : mq_put a k p q c r w 23 0 = a 23 0 + 1 := by
  unfold mq_put
  rw [mq_gh_lo _ _ _ _ _ _ _ _ _ _ (by decide)]
  simp [mq_lg, cq_p]
theorem mq_put_B {a : cq_S} (hB : cq_B a) {k p q c r w : Nat} (hk : k < 2147483648) (hp : p < 2147483648) (hq : q < 2147483648) (hc : c < 2147483648) (hr : r < 2147483648) (hw : w < 2147483648) (hn : a 23 0 < 2147483647) : cq_B (mq_put a k p q c r w) := by
  intro k' i' h
  unfold mq_put
  rw [mq_gh_lo _ _ _ _ _ _ _ _ _ _ h]
  unfold mq_lg
  have h1 : (if k = 2 then a 10 p else 0) < 2147483648 := by
    split
    · exact hB _ _ (by decide)
    · omega
  have h2 : (if p = q then 1 else 0) < 2147483648 := by split <;> omega
  exact (((((((((hB.put hk).put hp).put hq).put hc).put hr).put hw).put h1).put h2).put (show a 23 0 + 1 < 2147483648 by omega)) k' i' h
theorem mq_all_k (a : cq_S) (k p c r w k' i' j : Nat) (h : k' < 12 ∨ (20 ≤ k' ∧ k' < 23)) : mq_all a k p c r w j k' i' = a k' i' := by
  induction j with
  | zero => rfl
  | succ j ih =>
    unfold mq_all
    split
    · exact ih
    · rw [mq_put_k _ _ _ _ _ _ _ _ _ h]; exact ih
theorem mq_all_n (a : cq_S) (k p c r w j : Nat) : mq_all a k p c r w j 23 0 ≤ a 23 0 + j := by
  induction j with
  | zero => exact Nat.le_refl _
  | succ j ih =>
    unfold mq_all
    split
    · omega
    · rw [mq_put_n]; omega
theorem mq_all_B {a : cq_S} (hB : cq_B a) {k p c r w : Nat} (hk : k < 2147483648) (hp : p < 2147483648) (hc : c < 2147483648) (hr : r < 2147483648) (hw : w < 2147483648) (hn : a 23 0 ≤ 1000000) : ∀ j, j ≤ 1000000 → cq_B (mq_all a k p c r w j) := by
  intro j
  induction j with
  | zero => exact fun _ => hB
  | succ j ih =>
    intro hj
    unfold mq_all
    split
    · exact ih (by omega)
    · exact mq_put_B (ih (by omega)) hk hp (by omega) hc hr hw (by have := mq_all_n a k p c r w j; omega)
theorem mq_ldr_lt {a : cq_S} {r : Nat} (hn : 0 < a 20 0) : mq_ldr a r < a 20 0 := Nat.mod_lt _ hn
theorem mq_fin_k (b p : Nat) (a : cq_S) (m k' i' : Nat) (h : k' ≠ 1 ∧ k' ≠ 2 ∧ k' ≠ 3) : mq_fin b p a m k' i' = a k' i' := by
  induction m with
  | zero => rfl
  | succ m ih =>
    unfold mq_fin
    split
    · simp [cq_p, h.1, h.2.1, h.2.2]; exact ih
    · exact ih
theorem mq_fin_1 (b p : Nat) (a : cq_S) (h : a 1 p < 256) : ∀ m, m ≤ 8 → mq_fin b p a m 1 p < 256 := by
  intro m
  induction m with
  | zero => exact fun _ => h
  | succ m ih =>
    intro hm
    have h1 := ih (by omega)
    unfold mq_fin
    split
    · simp [cq_p]
      exact Nat.or_lt_two_pow (n := 8) h1 (Nat.pow_lt_pow_right (by decide) (by omega))
    · exact h1
theorem mq_fin_2 (b p : Nat) (a : cq_S) : ∀ m, mq_fin b p a m 2 p ≤ a 2 p + m := by
  intro m
  induction m with
  | zero => exact Nat.le_refl _
  | succ m ih =>
    unfold mq_fin
    split
    · simp [cq_p]; omega
    · omega
theorem mq_fin_B {b p : Nat} {a : cq_S} (hB : cq_B a) (h1 : a 1 p < 256) (h2 : a 2 p ≤ 8) : ∀ m, m ≤ 8 → cq_B (mq_fin b p a m) := by
  intro m
  induction m with
  | zero => exact fun _ => hB
  | succ m ih =>
    intro hm
    have h3 := ih (by omega)
    have h4 := mq_fin_1 b p a h1 (m + 1) hm
    have h5 := mq_fin_1 b p a h1 m (by omega)
    have h6 := mq_fin_2 b p a m
    have h7 : mq_fin b p a m 1 p ||| 2 ^ m < 256 := Nat.or_lt_two_pow (n := 8) h5 (Nat.pow_lt_pow_right (by decide) (by omega))
    unfold mq_fin
    split
    · exact ((h3.put (by omega)).put (by omega)).put (by omega)
    · exact h3
theorem mq_maj_pos (a : cq_S) : 0 < mq_maj a := by unfold mq_maj; omega
theorem mq_best_some (a : cq_S) (p : Nat) : ∀ i, 0 < mq_holds a 2 p i → ∃ b, mq_best a p i = some b := by
  intro i
  induction i with
  | zero => intro h; simp [mq_holds] at h
  | succ i ih =>
    intro h
    unfold mq_holds at h
    unfold mq_best
    split
    · rename_i h0; exact ih (by omega)
    · split
      · exact ⟨_, rfl⟩
      · repeat' split
        all_goals exact ⟨_, rfl⟩
/-- what a step needs -/
def mq_sok (a : cq_S) (p : Nat) : Prop := cq_B a ∧ p < 5 ∧ 0 < a 20 0 ∧ a 20 0 ≤ 5 ∧ a 23 0 + 10 ≤ 1500 ∧ a 0 p < 256 ∧ a 1 p < 256 ∧ a 2 p ≤ 8 ∧ a 4 p ≤ 8 ∧ a 9 p < 256 ∧ a 10 p < 128 ∧ (a 7 p = 1 ∨ a 7 p = 2 ∨ a 7 p = 3 → a 4 p < 8 ∧ 1 ≤ a 8 p ∧ a 8 p ≤ 10) ∧ (∀ i, i < a 23 0 → a 17 i < 32768) ∧
  (a 4 p < 8 → ¬ a 6 (8 * p + a 4 p) = 0 → ∀ m, m < 8 → a 6 (8 * p + a 4 p) / 2 ^ m % 2 = 1 → (mq_fin (a 6 (8 * p + a 4 p)) p a m) 1 p / 2 ^ m % 2 = 0 → (mq_fin (a 6 (8 * p + a 4 p)) p a m) 2 p < 8)
theorem mq_await_2 (a : cq_S) (p : Nat) : (mq_await a p).2 < 2 := by
  unfold mq_await
  repeat' split
  all_goals simp
theorem mq_await_0 (a : cq_S) (p : Nat) (h : (mq_await a p).2 = 0) : (mq_await a p).1 = a := by
  unfold mq_await at h ⊢
  split at h
  · simp at h
  · split at h
    · simp at h
    · rename_i h1 h2; simp [h1, h2]
theorem mq_step_2 (a : cq_S) (p : Nat) : (mq_step a p).2 < 2 := by
  unfold mq_step
  repeat' split
  all_goals first | exact mq_await_2 a p | simp
theorem mq_step_0 (a : cq_S) (p : Nat) (h : (mq_step a p).2 = 0) : (mq_step a p).1 = a := by
  unfold mq_step at h ⊢
  by_cases c1 : a 4 p < 8 ∧ ¬ a 6 (8 * p + a 4 p) = 0
  · rw [if_pos c1] at h; exact absurd h Nat.one_ne_zero
  · rw [if_neg c1] at h ⊢
    by_cases c2 : a 7 p = 0 ∧ ¬ cq_an (a 0 p) (a 1 p) = 0
    · rw [if_pos c2] at h; exact absurd h Nat.one_ne_zero
    · rw [if_neg c2] at h ⊢
      by_cases c3 : a 7 p = 1 ∧ mq_maj a ≤ mq_holds a 2 p (a 23 0)
      · rw [if_pos c3] at h; exact absurd h Nat.one_ne_zero
      · rw [if_neg c3] at h ⊢
        by_cases c4 : a 7 p = 2
        · rw [if_pos c4] at h ⊢; exact mq_await_0 a p h
        · rw [if_neg c4] at h ⊢
          by_cases c5 : a 7 p = 3 ∧ mq_maj a ≤ mq_holds a 4 p (a 23 0)
          · rw [if_pos c5] at h
            by_cases c6 : mq_ay a p (a 23 0) = 0
            · rw [if_pos c6] at h; exact absurd h Nat.one_ne_zero
            · rw [if_neg c6] at h; exact absurd h Nat.one_ne_zero
          · rw [if_neg c5]
theorem mq_go_fix (p : Nat) (a : cq_S) (i : Nat) (h : (mq_step (mq_go p i a) p).2 = 0) : ∀ j, i ≤ j → mq_go p j a = mq_go p i a := by
  intro j
  induction j with
  | zero => intro hj; rw [show i = 0 by omega]
  | succ j ih =>
    intro hj
    by_cases he : i = j + 1
    · rw [he]
    · have h1 := ih (by omega)
      show (mq_step (mq_go p j a) p).1 = _
      rw [h1]
      exact mq_step_0 _ p h
