theorem mq_all_f (a : cq_S) (k p c r w j k' : Nat) (h : k' < 12 ∨ (20 ≤ k' ∧ k' < 23)) : mq_all a k p c r w j k' = a k' := funext (fun _ => mq_all_k _ _ _ _ _ _ _ _ _ h)
/-- the offer -/
theorem jq_mkJ {a : cq_S} (J : jq_J a) {p i : Nat} (hp : p < a 20 0) (h7 : a 7 p = 1)
    (hsrc : ∃ p0, p0 < a 20 0 ∧ a 25 (cq_x (a 4 p) (a 8 p) p0) = a 17 i ∧ a 17 i ≠ 0 ∧ a 20 0 / 2 + 1 ≤ jq_c (fun q => if a 25 (cq_x (a 4 p) (a 8 p) q) ≠ 0 ∧ a 26 (cq_x (a 4 p) (a 8 p) q) ≤ a 26 (cq_x (a 4 p) (a 8 p) p0) then 1 else 0) (a 20 0)) : jq_J (mq_mk a p i) := by
  have hn3 := J.1
  -- a place that no letter touches
  have lo : ∀ k', k' < 12 ∨ (20 ≤ k' ∧ k' < 23) → k' ≠ 7 → k' ≠ 9 → k' ≠ 10 → mq_mk a p i k' = a k' := by
    intro k' h h7' h9' h10'
    unfold mq_mk mq_toAll
    rw [cq_p_f _ h7', mq_put_f _ _ _ _ _ _ _ _ h, mq_all_f _ _ _ _ _ _ _ _ h, cq_p_f _ h10', cq_p_f _ h9']
  have gh : ∀ k' x, 25 ≤ k' ∧ k' < 34 → k' ≠ 27 → mq_toAll (cq_p (cq_p a 9 p (a 17 i)) 10 p (a 8 p)) 3 p (a 4 p) (a 8 p) (a 17 i) k' x = a k' x := by
    intro k' x h h27
    unfold mq_toAll
    rw [mq_all_g3 _ _ _ _ _ _ _ _ (by omega), cq_p_k _ (by omega), cq_p_k _ (by omega)]
  refine jq_offer J (w := a 17 i) hp h7 (lo 20 (by omega) (by decide) (by decide) (by decide)) (lo 21 (by omega) (by decide) (by decide) (by decide)) (lo 0 (by omega) (by decide) (by decide) (by decide)) (lo 1 (by omega) (by decide) (by decide) (by decide)) (lo 2 (by omega) (by decide) (by decide) (by decide)) (lo 4 (by omega) (by decide) (by decide) (by decide)) (lo 6 (by omega) (by decide) (by decide) (by decide)) (lo 8 (by omega) (by decide) (by decide) (by decide)) ?_ ?_ ?_ ?_ ?_ ?_ ?_ ?_ ?_ ?_ ?_ ?_ ?_ hsrc
  · funext x; unfold mq_mk; rw [cq_p_k _ (by decide), mq_put_25, if_neg (by omega), gh 25 x (by omega) (by decide)]
  · funext x; unfold mq_mk; rw [cq_p_k _ (by decide), mq_put_26, if_neg (by omega), gh 26 x (by omega) (by decide)]
  · funext x; unfold mq_mk; rw [cq_p_k _ (by decide), mq_put_29, if_neg (by omega), gh 29 x (by omega) (by decide)]
  · intro x hx
    unfold mq_mk mq_toAll
    rw [cq_p_i _ hx, mq_put_k _ _ _ _ _ _ _ _ _ (by decide), mq_all_k _ _ _ _ _ _ _ _ _ (by decide), cq_p_k _ (by decide), cq_p_k _ (by decide)]
  · unfold mq_mk; rw [cq_p_s]
  · intro x hx
    unfold mq_mk mq_toAll
    rw [cq_p_k _ (by decide), mq_put_k _ _ _ _ _ _ _ _ _ (by decide), mq_all_k _ _ _ _ _ _ _ _ _ (by decide), cq_p_k _ (by decide), cq_p_i _ hx]
  · unfold mq_mk mq_toAll
    rw [cq_p_k _ (by decide), mq_put_k _ _ _ _ _ _ _ _ _ (by decide), mq_all_k _ _ _ _ _ _ _ _ _ (by decide), cq_p_k _ (by decide), cq_p_s]
  · intro x hx
    unfold mq_mk mq_toAll
    rw [cq_p_k _ (by decide), mq_put_k _ _ _ _ _ _ _ _ _ (by decide), mq_all_k _ _ _ _ _ _ _ _ _ (by decide), cq_p_i _ hx, cq_p_k _ (by decide)]
  · unfold mq_mk mq_toAll
    rw [cq_p_k _ (by decide), mq_put_k _ _ _ _ _ _ _ _ _ (by decide), mq_all_k _ _ _ _ _ _ _ _ _ (by decide), cq_p_s]
  · intro x hx
    unfold mq_mk mq_toAll
    rw [cq_p_k _ (by decide), mq_put_27, if_neg (by omega), mq_all_27 _ _ _ _ _ _ _ (show 2 ≤ cq_p (cq_p a 9 p (a 17 i)) 10 p (a 8 p) 20 0 from (show 2 ≤ a 20 0 by omega)), if_neg hx, cq_p_k _ (by decide), cq_p_k _ (by decide)]
  · unfold mq_mk mq_toAll
    rw [cq_p_k _ (by decide), mq_put_27, if_neg (by omega), mq_all_27 _ _ _ _ _ _ _ (show 2 ≤ cq_p (cq_p a 9 p (a 17 i)) 10 p (a 8 p) 20 0 from (show 2 ≤ a 20 0 by omega)), if_pos rfl]
  · intro x hx; unfold mq_mk; rw [cq_p_k _ (by decide), mq_put_28, if_neg (by omega), gh 28 x (by omega) (by decide)]
  · unfold mq_mk; rw [cq_p_k _ (by decide), mq_put_28, if_pos ⟨⟨rfl, rfl⟩, rfl⟩]
/-- a verdict -/
theorem jq_learnJ {a : cq_S} (J : jq_J a) {q c w : Nat} (hq : q < a 20 0) (hc : c < 8) (hw : jq_Vs a c w) (h60 : a 6 (8 * q + c) = 0) : jq_J (mq_learn a q c w) := by
  have lo : ∀ k', k' < 12 ∨ (20 ≤ k' ∧ k' < 23) → k' ≠ 6 → mq_learn a q c w k' = a k' := by
    intro k' h h6
    unfold mq_learn mq_toAll
    rw [mq_all_f _ _ _ _ _ _ _ _ h, cq_p_f _ h6]
  have gh : ∀ k', 25 ≤ k' ∧ k' < 34 → mq_learn a q c w k' = a k' := by
    intro k' h
    funext x
    unfold mq_learn mq_toAll
    rw [mq_all_gk _ _ _ _ _ _ _ _ _ (Or.inr rfl) h, cq_p_k _ (by omega)]
  refine jq_learn J hq hc hw h60 (lo 20 (by omega) (by decide)) (lo 21 (by omega) (by decide)) (lo 0 (by omega) (by decide)) (lo 1 (by omega) (by decide)) (lo 2 (by omega) (by decide)) (lo 4 (by omega) (by decide)) (lo 7 (by omega) (by decide)) (lo 8 (by omega) (by decide)) (lo 9 (by omega) (by decide)) (lo 10 (by omega) (by decide)) (gh 25 (by omega)) (gh 26 (by omega)) (gh 27 (by omega)) (gh 28 (by omega)) (gh 29 (by omega)) ?_ ?_
  · intro i hi
    unfold mq_learn mq_toAll
    rw [mq_all_k _ _ _ _ _ _ _ _ _ (by decide), cq_p_i _ hi]
  · unfold mq_learn mq_toAll
    rw [mq_all_k _ _ _ _ _ _ _ _ _ (by decide), cq_p_s]
/-- the bits of a batch, one by one -/
def jq_pm (w : Nat) : Nat → Nat
  | 0 => 0
  | m + 1 => jq_pm w m + w / 2 ^ m % 2
theorem jq_pm_8 (w : Nat) : jq_pm w 8 = jq_pop w := by
  simp [jq_pm, jq_pop]
theorem jq_fin {a : cq_S} {p w : Nat} (hd : a 1 p &&& w = 0) : ∀ m, (mq_fin w p a m) 1 p = a 1 p ||| w % 2 ^ m ∧ (mq_fin w p a m) 2 p = a 2 p + jq_pm w m := by
  intro m
  induction m with
  | zero => simp [mq_fin, jq_pm, Nat.mod_one]
  | succ m ih =>
    obtain ⟨ih1, ih2⟩ := ih
    have hbit := jq_bit w m
    have hw1 : ∀ i, (w % 2 ^ (m + 1)).testBit i = (decide (i < m + 1) && w.testBit i) := fun i => Nat.testBit_mod_two_pow w (m + 1) i
    have hw0 : ∀ i, (w % 2 ^ m).testBit i = (decide (i < m) && w.testBit i) := fun i => Nat.testBit_mod_two_pow w m i
    have hdi : ∀ i, ((a 1 p).testBit i && w.testBit i) = false := fun i => by rw [← Nat.testBit_and, hd, Nat.zero_testBit]
    unfold mq_fin
    by_cases hb : w.testBit m = true
    · rw [if_pos hb] at hbit
      have h1 : (mq_fin w p a m) 1 p / 2 ^ m % 2 = 0 := by
        rw [jq_bit, ih1, Nat.testBit_or, hw0]
        have h2 := hdi m
        rw [hb, Bool.and_true] at h2
        simp [h2]
      rw [if_pos ⟨hbit, h1⟩]
      refine ⟨?_, ?_⟩
      · rw [cq_p_k _ (by decide), cq_p_k _ (by decide), cq_p_s, ih1]
        apply Nat.eq_of_testBit_eq
        intro i
        rw [Nat.testBit_or, Nat.testBit_or, Nat.testBit_or, hw0, hw1, Nat.testBit_two_pow]
        by_cases hi : i = m
        · subst hi; simp [hb]
        · by_cases hi2 : i < m
          · simp [hi2, show i < m + 1 by omega, show ¬ m = i by omega]
          · simp [hi2, show ¬ i < m + 1 by omega, show ¬ m = i by omega]
      · rw [cq_p_s, ih2, jq_pm, hbit]; omega
    · have hb' : w.testBit m = false := by simpa using hb
      rw [if_neg hb] at hbit
      rw [if_neg (by omega)]
      refine ⟨?_, ?_⟩
      · rw [ih1]
        apply Nat.eq_of_testBit_eq
        intro i
        rw [Nat.testBit_or, Nat.testBit_or, hw0, hw1]
        by_cases hi : i = m
        · subst hi; simp [hb']
        · by_cases hi2 : i < m
          · simp [hi2, show i < m + 1 by omega]
          · simp [hi2, show ¬ i < m + 1 by omega]
      · rw [ih2, jq_pm, hbit]; rfl
theorem mq_fin_o (w p : Nat) (a : cq_S) (i : Nat) (hi : i ≠ p) : ∀ m, (mq_fin w p a m) 1 i = a 1 i ∧ (mq_fin w p a m) 2 i = a 2 i := by
  intro m
  induction m with
  | zero => exact ⟨rfl, rfl⟩
  | succ m ih =>
    unfold mq_fin
    split
    · exact ⟨by rw [cq_p_k _ (by decide), cq_p_k _ (by decide), cq_p_i _ hi]; exact ih.1, by rw [cq_p_i _ hi, cq_p_k _ (by decide), cq_p_k _ (by decide)]; exact ih.2⟩
    · exact ih
/-- the end of a council -/
theorem jq_finishJ {a : cq_S} (J : jq_J a) {p : Nat} (hp : p < a 20 0) (h48 : a 4 p < 8) (hw : a 6 (8 * p + a 4 p) ≠ 0) : jq_J (mq_finish a p) := by
  obtain ⟨hdis, h256⟩ := jq_disj J hp h48 hw
  obtain ⟨e1, e2⟩ := jq_fin hdis 8
  have lo : ∀ k', k' ≠ 1 ∧ k' ≠ 2 ∧ k' ≠ 3 → k' ≠ 4 → k' ≠ 7 → k' ≠ 8 → k' ≠ 9 → k' ≠ 10 → mq_finish a p k' = a k' := by
    intro k' h h4 h7 h8 h9 h10
    unfold mq_finish
    rw [cq_p_f _ h10, cq_p_f _ h9, cq_p_f _ h8, cq_p_f _ h7, cq_p_f _ h4]
    exact funext (fun i => mq_fin_k _ _ _ _ _ _ h)
  have g : ∀ k', k' = 0 ∨ k' = 6 ∨ 20 ≤ k' → mq_finish a p k' = a k' := fun k' h => lo k' (by omega) (by omega) (by omega) (by omega) (by omega) (by omega)
  refine jq_finish J hp h48 hw (g 20 (by omega)) (g 21 (by omega)) (g 0 (by omega)) (g 6 (by omega)) (g 25 (by omega)) (g 26 (by omega)) (g 27 (by omega)) (g 28 (by omega)) (g 29 (by omega)) ?_ ?_ ?_ ?_ ?_ ?_ ?_ ?_ ?_ ?_ ?_
  · intro i hi; unfold mq_finish; rw [cq_p_k _ (by decide), cq_p_k _ (by decide), cq_p_k _ (by decide), cq_p_k _ (by decide), cq_p_k _ (by decide)]; exact (mq_fin_o _ _ _ _ hi 8).1
  · unfold mq_finish; rw [cq_p_k _ (by decide), cq_p_k _ (by decide), cq_p_k _ (by decide), cq_p_k _ (by decide), cq_p_k _ (by decide), e1, Nat.mod_eq_of_lt (show a 6 (8 * p + a 4 p) < 2 ^ 8 from h256)]
  · intro i hi; unfold mq_finish; rw [cq_p_k _ (by decide), cq_p_k _ (by decide), cq_p_k _ (by decide), cq_p_k _ (by decide), cq_p_k _ (by decide)]; exact (mq_fin_o _ _ _ _ hi 8).2
  · unfold mq_finish; rw [cq_p_k _ (by decide), cq_p_k _ (by decide), cq_p_k _ (by decide), cq_p_k _ (by decide), cq_p_k _ (by decide), e2, jq_pm_8]
  · intro i hi; unfold mq_finish; rw [cq_p_k _ (by decide), cq_p_k _ (by decide), cq_p_k _ (by decide), cq_p_k _ (by decide), cq_p_i _ hi]; exact mq_fin_k _ _ _ _ _ _ (by decide)
  · unfold mq_finish; rw [cq_p_k _ (by decide), cq_p_k _ (by decide), cq_p_k _ (by decide), cq_p_k _ (by decide), cq_p_s]
  · intro i hi; unfold mq_finish; rw [cq_p_k _ (by decide), cq_p_k _ (by decide), cq_p_k _ (by decide), cq_p_i _ hi, cq_p_k _ (by decide)]; exact mq_fin_k _ _ _ _ _ _ (by decide)
  · unfold mq_finish; rw [cq_p_k _ (by decide), cq_p_k _ (by decide), cq_p_k _ (by decide), cq_p_s]
  · intro i hi; unfold mq_finish; rw [cq_p_k _ (by decide), cq_p_k _ (by decide), cq_p_i _ hi, cq_p_k _ (by decide), cq_p_k _ (by decide)]; exact mq_fin_k _ _ _ _ _ _ (by decide)
  · intro i hi; unfold mq_finish; rw [cq_p_k _ (by decide), cq_p_i _ hi, cq_p_k _ (by decide), cq_p_k _ (by decide), cq_p_k _ (by decide)]; exact mq_fin_k _ _ _ _ _ _ (by decide)
  · intro i hi; unfold mq_finish; rw [cq_p_i _ hi, cq_p_k _ (by decide), cq_p_k _ (by decide), cq_p_k _ (by decide), cq_p_k _ (by decide)]; exact mq_fin_k _ _ _ _ _ _ (by decide)
/-- in a council's end no more than eight messages are delivered -/
theorem jq_fin8 {a : cq_S} (J : jq_J a) {p : Nat} (hp : p < a 20 0) (h48 : a 4 p < 8) (hw : a 6 (8 * p + a 4 p) ≠ 0) : ∀ m, m < 8 → a 6 (8 * p + a 4 p) / 2 ^ m % 2 = 1 → (mq_fin (a 6 (8 * p + a 4 p)) p a m) 1 p / 2 ^ m % 2 = 0 → (mq_fin (a 6 (8 * p + a 4 p)) p a m) 2 p < 8 := by
  obtain ⟨hdis, h256⟩ := jq_disj J hp h48 hw
  intro m hm h1 _
  rw [(jq_fin hdis m).2]
  have g6 := (J.2.2.2.2.1 p hp).2.2.2.2.2.1
  have h8 : jq_pop (a 1 p) + jq_pop (a 6 (8 * p + a 4 p)) ≤ 8 := by rw [← jq_pop_or hdis]; exact jq_pop_le _
  have hmono : ∀ d m, jq_pm (a 6 (8 * p + a 4 p)) m ≤ jq_pm (a 6 (8 * p + a 4 p)) (m + d) := by
    intro d
    induction d with
    | zero => exact fun m => Nat.le_refl _
    | succ d ih => exact fun m => Nat.le_trans (ih m) (Nat.le_add_right _ _)
  have h2 := hmono (8 - (m + 1)) (m + 1)
  rw [show m + 1 + (8 - (m + 1)) = 8 by omega, jq_pm_8] at h2
  have h3 : jq_pm (a 6 (8 * p + a 4 p)) (m + 1) = jq_pm (a 6 (8 * p + a 4 p)) m + 1 := by rw [jq_pm, h1]
  omega
