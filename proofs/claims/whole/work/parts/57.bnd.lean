/-! Numbers stay small; the count of letters is that of our marks. -/
section
variable {Q : cq_S → Prop} (hc : ∀ x k i v, k ≠ 23 → k ≠ 34 → k ≠ 35 → Q x → Q (cq_p x k i v)) (hu : ∀ x k p q c r w, Q x → Q (mq_put x k p q c r w))
theorem mq_all_ind {x : cq_S} (h : Q x) (hu : ∀ x k p q c r w, Q x → Q (mq_put x k p q c r w)) (k p c r w : Nat) : ∀ j, Q (mq_all x k p c r w j) := by
  intro j
  induction j with
  | zero => exact h
  | succ j ih =>
    unfold mq_all
    split
    · exact ih
    · exact hu _ _ _ _ _ _ _ ih
theorem mq_enter_ind (hc : ∀ x k i v, k ≠ 23 → k ≠ 34 → k ≠ 35 → Q x → Q (cq_p x k i v)) (hu : ∀ x k p q c r w, Q x → Q (mq_put x k p q c r w)) {x : cq_S} (h : Q x) (p r : Nat) : Q (mq_enter x p r) := by
  unfold mq_enter
  split
  · exact hc _ _ _ _ (by decide) (by decide) (by decide) (hc _ _ _ _ (by decide) (by decide) (by decide) h)
  · exact hu _ _ _ _ _ _ _ (hc _ _ _ _ (by decide) (by decide) (by decide) (hc _ _ _ _ (by decide) (by decide) (by decide) h))
theorem mq_fin_ind (hc : ∀ x k i v, k ≠ 23 → k ≠ 34 → k ≠ 35 → Q x → Q (cq_p x k i v)) {x : cq_S} (h : Q x) (b p : Nat) : ∀ m, Q (mq_fin b p x m) := by
  intro m
  induction m with
  | zero => exact h
  | succ m ih =>
    unfold mq_fin
    split
    · exact hc _ _ _ _ (by decide) (by decide) (by decide) (hc _ _ _ _ (by decide) (by decide) (by decide) (hc _ _ _ _ (by decide) (by decide) (by decide) ih))
    · exact ih
theorem mq_step_ind (hc : ∀ x k i v, k ≠ 23 → k ≠ 34 → k ≠ 35 → Q x → Q (cq_p x k i v)) (hu : ∀ x k p q c r w, Q x → Q (mq_put x k p q c r w)) {a : cq_S} (h : Q a) (p : Nat) : Q (mq_step a p).1 := by
  have c2 : ∀ x k i v k' i' v', k ≠ 23 ∧ k ≠ 34 ∧ k ≠ 35 → k' ≠ 23 ∧ k' ≠ 34 ∧ k' ≠ 35 → Q x → Q (cq_p (cq_p x k i v) k' i' v') := fun x k i v k' i' v' g g' hx => hc _ _ _ _ g'.1 g'.2.1 g'.2.2 (hc _ _ _ _ g.1 g.2.1 g.2.2 hx)
  have vo : ∀ x y, Q x → Q (mq_vote x p y) := fun x y hx => mq_enter_ind hc hu (hu _ _ _ _ _ _ _ hx) _ _
  unfold mq_step
  repeat' split
  · exact c2 _ _ _ _ _ _ _ (by decide) (by decide) (c2 _ _ _ _ _ _ _ (by decide) (by decide) (hc _ _ _ _ (by decide) (by decide) (by decide) (mq_fin_ind hc h _ _ _)))
  · show Q (mq_enter (cq_p (cq_p a 9 p (cq_an (a 0 p) (a 1 p))) 10 p 0) p 1)
    exact mq_enter_ind hc hu (c2 a 9 p _ 10 p 0 (by decide) (by decide) h) _ _
  · exact hc _ _ _ _ (by decide) (by decide) (by decide) (hu _ _ _ _ _ _ _ (mq_all_ind (c2 _ _ _ _ _ _ _ (by decide) (by decide) h) hu _ _ _ _ _ _))
  · unfold mq_await
    cases mq_offer a p (a 23 0) with
    | some i => exact vo _ _ (c2 _ _ _ _ _ _ _ (by decide) (by decide) h)
    | none =>
      show Q (if a 5 p / 2 ^ mq_ldr a (a 8 p) % 2 = 1 then (mq_vote a p 0, 1) else (a, 0)).1
      split
      · exact vo _ _ h
      · exact h
  · exact mq_enter_ind hc hu h _ _
  · exact mq_all_ind (hc _ _ _ _ (by decide) (by decide) (by decide) h) hu _ _ _ _ _ _
  · exact h
theorem mq_b0_ind (hc : ∀ x k i v, k ≠ 23 → k ≠ 34 → k ≠ 35 → Q x → Q (cq_p x k i v)) (hu : ∀ x k p q c r w, Q x → Q (mq_put x k p q c r w)) {a : cq_S} (h : Q a) (p : Nat) : Q (mq_b0 a p) :=
  mq_all_ind (hc _ _ _ _ (by decide) (by decide) (by decide) (hc _ _ _ _ (by decide) (by decide) (by decide) h)) hu _ _ _ _ _ _
theorem mq_d0_ind (hc : ∀ x k i v, k ≠ 23 → k ≠ 34 → k ≠ 35 → Q x → Q (cq_p x k i v)) (hu : ∀ x k p q c r w, Q x → Q (mq_put x k p q c r w)) {a : cq_S} (h : Q a) (q i : Nat) : Q (mq_d0 a q i) := by
  have h1 : ∀ v, Q (cq_p a 19 i v) := fun v => hc _ _ _ _ (by decide) (by decide) (by decide) h
  unfold mq_d0 mq_learn mq_kp
  repeat' split
  all_goals first | exact h1 _ | exact mq_all_ind (hc _ _ _ _ (by decide) (by decide) (by decide) (h1 _)) hu _ _ _ _ _ _ | exact hc _ _ _ _ (by decide) (by decide) (by decide) (h1 _)
theorem mq_lose_ind (hc : ∀ x k i v, k ≠ 23 → k ≠ 34 → k ≠ 35 → Q x → Q (cq_p x k i v)) (p : Nat) : ∀ d m (b : cq_S), Q b → Q (mq_lose p d m b)
  | 0, _, b, h => h
  | d + 1, m, b, h => by
    unfold mq_lose
    split
    · exact h
    · split
      · exact mq_lose_ind hc p d _ _ (hc _ _ _ _ (by decide) (by decide) (by decide) h)
      · exact mq_lose_ind hc p d m b h
end
def bq_n (a : cq_S) : Prop := a 23 0 = a 34 0 + a 35 0
theorem bq_nc : ∀ x k i v, k ≠ 23 → k ≠ 34 → k ≠ 35 → bq_n x → bq_n (cq_p x k i v) := by
  intro x k i v h1 h2 h3 h
  unfold bq_n at h ⊢
  rw [cq_p_k _ (Ne.symm h1), cq_p_k _ (Ne.symm h2), cq_p_k _ (Ne.symm h3)]
  exact h
theorem bq_nu : ∀ x k p q c r w, bq_n x → bq_n (mq_put x k p q c r w) := by
  intro x k p q c r w h
  unfold bq_n at h ⊢
  rw [mq_put_n, mq_put_34, mq_put_35]
  by_cases hh : (k = 2 ∨ k = 4) ∧ p = q
  · rw [if_pos hh, if_pos hh]; omega
  · rw [if_neg hh, if_neg hh]; omega
/-- small numbers -/
def bq_B (a : cq_S) : Prop := cq_B a ∧ ∀ p, a 0 p < 256 ∧ a 2 p ≤ 8 ∧ a 5 p < 256 ∧ a 9 p < 256 ∧ a 10 p ≤ 10
/-- the values of the processes but p stay -/
theorem mq_step_o (a : cq_S) (p : Nat) {k q : Nat} (hk : k = 0 ∨ k = 2 ∨ k = 5 ∨ k = 9 ∨ k = 10 ∨ k = 11) (hq : q ≠ p) : (mq_step a p).1 k q = a k q := by
  have en : ∀ (x : cq_S) r, mq_enter x p r k q = x k q := fun x r => mq_enter_k _ _ _ _ _ (by omega)
  have al : ∀ (x : cq_S) k0 c r w j, mq_all x k0 p c r w j k q = x k q := fun x k0 c r w j => mq_all_k _ _ _ _ _ _ _ _ _ (by omega)
  have pu : ∀ (x : cq_S) k0 q0 c r w, mq_put x k0 p q0 c r w k q = x k q := fun x k0 q0 c r w => mq_put_k _ _ _ _ _ _ _ _ _ (by omega)
  have vo : ∀ (x : cq_S) y, mq_vote x p y k q = x k q := fun x y => by unfold mq_vote; rw [en, pu]
  have cp : ∀ (x : cq_S) k0 v, cq_p x k0 p v k q = x k q := by
    intro x k0 v
    by_cases h : k = k0
    · subst h; exact cq_p_i _ hq
    · exact cq_p_k _ h
  have fi : ∀ b m, mq_fin b p a m k q = a k q := by
    intro b m
    by_cases h : k = 2
    · subst h; exact (mq_fin_o _ _ _ _ hq m).2
    · exact mq_fin_k _ _ _ _ _ _ (by omega)
  unfold mq_step
  repeat' split
  · show mq_finish a p k q = a k q
    unfold mq_finish
    rw [cp, cp, cp, cp, cp, fi]
  · show mq_enter _ p 1 k q = a k q
    rw [en, cp, cp]
  · show mq_mk a p _ k q = a k q
    unfold mq_mk mq_toAll
    rw [cp, pu, al, cp, cp]
  · unfold mq_await
    cases mq_offer a p (a 23 0) with
    | some i => show mq_vote _ p 1 k q = a k q; rw [vo, cp, cp]
    | none =>
      show (if a 5 p / 2 ^ mq_ldr a (a 8 p) % 2 = 1 then (mq_vote a p 0, 1) else (a, 0)).1 k q = a k q
      split
      · exact vo _ _
      · rfl
  · exact en _ _
  · show mq_learn a p _ _ k q = a k q
    unfold mq_learn mq_toAll
    rw [al, cq_p_k _ (by omega)]
  · rfl
