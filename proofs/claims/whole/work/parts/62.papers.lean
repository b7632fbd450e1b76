/-! The papers, and letters sent. -/
theorem gq_cell_inj {n c r p c' r' p' : Nat} (hr1 : 1 ≤ r) (hr : r ≤ 10) (hr1' : 1 ≤ r') (hr' : r' ≤ 10) (hp : p < n) (hp' : p' < n) : gq_cell n c r p = gq_cell n c' r' p' ↔ c = c' ∧ r = r' ∧ p = p' := by
  unfold gq_cell
  constructor
  · intro h
    have h1 : ((c * 10 + r - 1) * n + p) / n = c * 10 + r - 1 := by
      rw [Nat.mul_comm, Nat.mul_add_div (by omega), Nat.div_eq_of_lt hp, Nat.add_zero]
    have h2 : ((c' * 10 + r' - 1) * n + p') / n = c' * 10 + r' - 1 := by
      rw [Nat.mul_comm, Nat.mul_add_div (by omega), Nat.div_eq_of_lt hp', Nat.add_zero]
    have h3 : c * 10 + r - 1 = c' * 10 + r' - 1 := by rw [← h1, h, h2]
    rw [h3] at h
    exact ⟨by omega, by omega, by omega⟩
  · rintro ⟨rfl, rfl, rfl⟩; rfl
theorem rq_P_o {n : Nat} {g a g' a' : cq_S} (h : rq_P n g a) (hg : ∀ k i, 25 ≤ k → k < 29 → g' k i = g k i) (ha : ∀ k i, k = 25 ∨ k = 26 ∨ k = 27 ∨ k = 30 ∨ k = 31 ∨ k = 32 ∨ k = 33 → a' k i = a k i) : rq_P n g' a' := by
  intro c r p hc h1 h2 hp
  have := h c r p hc h1 h2 hp
  rw [hg _ _ (by decide) (by decide), hg _ _ (by decide) (by decide), hg _ _ (by decide) (by decide), hg _ _ (by decide) (by decide), ha _ _ (by omega), ha _ _ (by omega), ha _ _ (by omega), ha _ _ (by omega), ha _ _ (by omega), ha _ _ (by omega), ha _ _ (by omega)]
  exact this
/-- a letter to another changes no paper -/
theorem rq_P_send {n : Nat} {g a : cq_S} (h : rq_P n g a) (hn : n ≤ 5) {k p q c r w : Nat} (hp : p < n) (hpq : p ≠ q) (hr : r < 16) (h2 : k = 2 → a 30 (cq_x c r p) = 0) (h3 : k = 3 → ∀ q, q < n → a 31 (cq_x c r q) = 0) : rq_P n g (mq_put a k p q c r w) := by
  intro c' r' p' hc' h1' h2' hp'
  obtain ⟨g1, g2, g3, g4⟩ := h c' r' p' hc' h1' h2' hp'
  rw [mq_put_25, mq_put_26, mq_put_27, mq_put_30, mq_put_31, mq_put_32, mq_put_33, if_neg (c := (k = 2 ∧ p = q) ∧ _) (by omega), if_neg (c := (k = 4 ∧ w = 1 ∧ p = q) ∧ _) (by omega), if_neg (c := (k = 4 ∧ w ≠ 1 ∧ p = q) ∧ _) (by omega)]
  refine ⟨?_, ?_, g3, g4⟩
  · rw [g1]
    by_cases e : k = 2 ∧ cq_x c' r' p' = cq_x c r p
    · rw [if_pos (by rw [e.2]; exact h2 e.1), if_pos (by rw [e.2]; exact h2 e.1)]
    · rw [if_neg e, if_neg e]
  · rw [g2]
    by_cases e : k = 3 ∧ cq_x c' r' 0 = cq_x c r 0
    · have e2 := (cq_x_inj (by omega) hr (by omega) (by omega)).mp e.2
      have := h3 e.1 p' hp'
      rw [← e2.1, ← e2.2.1] at this
      rw [if_pos this, if_pos this]
    · rw [if_neg e]
theorem gq_or8 {s w : Nat} (hw : w < 256) : s * 2 ^ 8 ||| w = s * 256 + w := by
  rw [Nat.mul_comm s, ← Nat.two_pow_add_eq_or_of_lt (i := 8) (show w < 2 ^ 8 by omega)]
/-- one's own estimate -/
theorem rq_P_own2 {n : Nat} {g a : cq_S} (h : rq_P n g a) (h20 : g 20 0 = n) (hn : n ≤ 5) {p c r w : Nat} (hp : p < n) (hr1 : 1 ≤ r) (hr : r ≤ 10) (hw : w < 256) : rq_P n (gq_kE g c r p w (a 10 p)) (mq_put a 2 p p c r w) := by
  intro c' r' p' hc' h1' h2' hp'
  obtain ⟨g1, g2, g3, g4⟩ := h c' r' p' hc' h1' h2' hp'
  unfold gq_kE
  rw [mq_put_25, mq_put_26, mq_put_27, mq_put_30, mq_put_31, mq_put_32, mq_put_33, if_neg (c := 2 = 3 ∧ _) (by omega), if_neg (c := (2 = 4 ∧ w = 1 ∧ p = p) ∧ _) (by omega), if_neg (c := (2 = 4 ∧ w ≠ 1 ∧ p = p) ∧ _) (by omega), cq_p_k (k' := 26) _ (by decide), cq_p_k (k' := 27) _ (by decide), cq_p_k (k' := 28) _ (by decide)]
  refine ⟨?_, g2, g3, g4⟩
  rw [h20]
  by_cases e : c' = c ∧ r' = r ∧ p' = p
  · obtain ⟨rfl, rfl, rfl⟩ := e
    rw [cq_p_s, gq_or8 hw]
    simp
  · have e1 : ¬ cq_x c' r' p' = cq_x c r p := fun x => e ((cq_x_inj (by omega) (by omega) (by omega) (by omega)).mp x)
    have e2 : ¬ gq_cell n c' r' p' = gq_cell n c r p := fun x => e ((gq_cell_inj h1' h2' hr1 hr hp' hp).mp x)
    rw [cq_p_i _ e2, if_neg (c := 2 = 2 ∧ _) (fun x => e1 x.2), if_neg (c := 2 = 2 ∧ _) (fun x => e1 x.2), if_neg (c := (2 = 2 ∧ p = p) ∧ _) (fun x => e1 x.2), g1]
theorem gq_orbit (x p p' : Nat) : (x ||| 2 ^ p) / 2 ^ p' % 2 = if p' = p then 1 else x / 2 ^ p' % 2 := by
  rw [jq_bit, jq_bit, Nat.testBit_or, Nat.testBit_two_pow]
  by_cases e : p' = p
  · subst e; simp
  · have : ¬ p = p' := fun h => e h.symm
    simp [e, this]
/-- a vote kept -/
theorem rq_P_vote {n : Nat} {g a b : cq_S} (h : rq_P n g a) (hn : n ≤ 5) {p c r v : Nat} (hp : p < n) (hr1 : 1 ≤ r) (hr : r ≤ 10) (hv : v ≤ 1) (hb : ∀ k x, k = 25 ∨ k = 26 ∨ k = 27 ∨ k = 30 ∨ k = 31 → b k x = a k x) (hb2 : ∀ x, b 32 x = if v = 1 ∧ x = cq_x c r p then 1 else a 32 x) (hb3 : ∀ x, b 33 x = if v ≠ 1 ∧ x = cq_x c r p then 1 else a 33 x) : rq_P n (gq_kV g c r p v) b := by
  intro c' r' p' hc' h1' h2' hp'
  obtain ⟨g1, g2, g3, g4⟩ := h c' r' p' hc' h1' h2' hp'
  rw [hb _ _ (by omega), hb _ _ (by omega), hb _ _ (by omega), hb _ _ (by omega), hb _ _ (by omega), hb2, hb3]
  have key : ∀ K, K = 27 ∨ K = 28 → ∀ A : Nat → Nat, (g K (c' * 10 + r' - 1) / 2 ^ p' % 2 = 0 ↔ A (cq_x c' r' p') = 0) → (cq_p g K (c * 10 + r - 1) (g K (c * 10 + r - 1) ||| 2 ^ p) K (c' * 10 + r' - 1) / 2 ^ p' % 2 = 0 ↔ (if cq_x c' r' p' = cq_x c r p then 1 else A (cq_x c' r' p')) = 0) := by
    intro K _ A hA
    by_cases e : c' * 10 + r' - 1 = c * 10 + r - 1
    · have ec : c' = c ∧ r' = r := by omega
      obtain ⟨rfl, rfl⟩ := ec
      rw [cq_p_s, gq_orbit]
      by_cases e2 : p' = p
      · subst e2; rw [if_pos rfl, if_pos rfl]
      · rw [if_neg e2, if_neg (fun x => e2 ((cq_x_inj (by omega) (by omega) (by omega) (by omega)).mp x).2.2)]; exact hA
    · rw [cq_p_i _ e, if_neg (fun x => e (by have := (cq_x_inj (by omega) (by omega) (by omega) (by omega)).mp x; omega))]; exact hA
  unfold gq_kV
  by_cases e : v = 1
  · rw [if_pos e, cq_p_k (k' := 25) _ (by decide), cq_p_k (k' := 26) _ (by decide), cq_p_k (k' := 28) _ (by decide)]
    refine ⟨g1, g2, ?_, ?_⟩
    · have := key 27 (by omega) (a 32) g3
      simp only [e, true_and]; exact this
    · rw [if_neg (fun x => x.1 e)]; exact g4
  · rw [if_neg e, cq_p_k (k' := 25) _ (by decide), cq_p_k (k' := 26) _ (by decide), cq_p_k (k' := 27) _ (by decide)]
    refine ⟨g1, g2, ?_, ?_⟩
    · rw [if_neg (fun x => e x.1)]; exact g3
    · have := key 28 (by omega) (a 33) g4
      simp only [e, not_false_eq_true, true_and, ne_eq]; exact this
