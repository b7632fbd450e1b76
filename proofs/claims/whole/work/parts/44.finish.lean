/-! The invariant through the end of a council. -/
theorem jq_bit (x k : Nat) : x / 2 ^ k % 2 = if x.testBit k = true then 1 else 0 := by
  rw [Nat.testBit_eq_decide_div_mod_eq]
  have : x / 2 ^ k % 2 < 2 := Nat.mod_lt _ (by decide)
  by_cases h : x / 2 ^ k % 2 = 1
  · simp [h]
  · simp [h]; omega
theorem jq_bits {x w : Nat} (h : x &&& w = 0) (k : Nat) : (x ||| w) / 2 ^ k % 2 = x / 2 ^ k % 2 + w / 2 ^ k % 2 := by
  have h2 : (x.testBit k && w.testBit k) = false := by rw [← Nat.testBit_and, h, Nat.zero_testBit]
  rw [jq_bit, jq_bit x, jq_bit w, Nat.testBit_or]
  cases hx : x.testBit k <;> cases hw : w.testBit k <;> simp_all
theorem jq_pop_or {x w : Nat} (h : x &&& w = 0) : jq_pop (x ||| w) = jq_pop x + jq_pop w := by
  have h0 := jq_bits h 0
  have h1 := jq_bits h 1
  have h2 := jq_bits h 2
  have h3 := jq_bits h 3
  have h4 := jq_bits h 4
  have h5 := jq_bits h 5
  have h6 := jq_bits h 6
  have h7 := jq_bits h 7
  simp only [Nat.reducePow, Nat.div_one] at h0 h1 h2 h3 h4 h5 h6 h7
  unfold jq_pop
  rw [h0, h1, h2, h3, h4, h5, h6, h7]
  generalize x % 2 = a0
  generalize x / 2 % 2 = a1
  generalize x / 4 % 2 = a2
  generalize x / 8 % 2 = a3
  generalize x / 16 % 2 = a4
  generalize x / 32 % 2 = a5
  generalize x / 64 % 2 = a6
  generalize x / 128 % 2 = a7
  generalize w % 2 = b0
  generalize w / 2 % 2 = b1
  generalize w / 4 % 2 = b2
  generalize w / 8 % 2 = b3
  generalize w / 16 % 2 = b4
  generalize w / 32 % 2 = b5
  generalize w / 64 % 2 = b6
  generalize w / 128 % 2 = b7
  clear h0 h1 h2 h3 h4 h5 h6 h7
  omega
theorem jq_pop_pos : ∀ w, w < 256 → w ≠ 0 → 1 ≤ jq_pop w := by decide +kernel
theorem jq_pop_8 : ∀ w, w < 256 → 8 ≤ jq_pop w → w = 255 := by decide +kernel
theorem jq_pop_le (x : Nat) : jq_pop x ≤ 8 := by
  have h : ∀ y : Nat, y % 2 ≤ 1 := fun y => by omega
  have h0 := h x
  have h1 := h (x / 2)
  have h2 := h (x / 4)
  have h3 := h (x / 8)
  have h4 := h (x / 16)
  have h5 := h (x / 32)
  have h6 := h (x / 64)
  have h7 := h (x / 128)
  unfold jq_pop
  exact Nat.add_le_add (Nat.add_le_add (Nat.add_le_add (Nat.add_le_add (Nat.add_le_add (Nat.add_le_add (Nat.add_le_add h0 h1) h2) h3) h4) h5) h6) h7
/-- a verdict is a batch of its council -/
theorem jq_VsV {a : cq_S} (J : jq_J a) {c w : Nat} (h : jq_Vs a c w) : jq_V a c w := by
  obtain ⟨hn3, hn5, hm, hpos, hown, hsent, hoff⟩ := J
  obtain ⟨h0, r, h1, h2, h3, h4⟩ := h
  obtain ⟨-, -, -, p0, t4, t5, -⟩ := hoff c r (by omega) (by rw [h3]; exact h0)
  have h5 := ((hsent c r p0 (by omega) t4).1 (by rw [t5, h3]; exact h0)).2.2.2.2.1
  rw [t5, h3] at h5
  exact h5
theorem jq_made {a : cq_S} (J : jq_J a) : 2 ^ a 21 0 ≤ 256 := Nat.pow_le_pow_right (n := 2) (by decide) J.2.2.1
theorem jq_disj {a : cq_S} (J : jq_J a) {p : Nat} (hp : p < a 20 0) (h8 : a 4 p < 8) (hw : a 6 (8 * p + a 4 p) ≠ 0) : a 1 p &&& a 6 (8 * p + a 4 p) = 0 ∧ a 6 (8 * p + a 4 p) < 256 := by
  have hown := J.2.2.2.2.1
  obtain ⟨g1, g2, g3, g4, g5, g6, g7, g8⟩ := hown p hp
  have hVs := g4 _ h8 hw
  have hV := jq_VsV J hVs
  refine ⟨?_, Nat.lt_of_lt_of_le hV.2.1 (jq_made J)⟩
  apply Nat.eq_of_testBit_eq
  intro i
  rw [Nat.testBit_and, Nat.zero_testBit]
  cases hx : (a 1 p).testBit i with
  | false => rfl
  | true =>
    obtain ⟨k, hk, hb⟩ := (g5 i).mp hx
    obtain ⟨q, hq, h1, h2⟩ := hV.2.2 k hk
    have e := jq_agree J ((hown q hq).2.2.2.1 k (by omega) h1) (g4 k (by omega) (g3 k hk))
    rw [e] at h2
    have h3 : ((a 6 (8 * p + a 4 p)).testBit i && (a 6 (8 * p + k)).testBit i) = false := by rw [← Nat.testBit_and, h2, Nat.zero_testBit]
    rw [hb, Bool.and_true] at h3
    simp [h3]
/-- with all councils at an end nothing is left to deliver -/
theorem jq_end {a : cq_S} (J : jq_J a) {p : Nat} (hp : p < a 20 0) (h : cq_an (a 0 p) (a 1 p) ≠ 0) : a 4 p < 8 := by
  obtain ⟨g1, g2, g3, g4, g5, g6, g7, g8⟩ := J.2.2.2.2.1 p hp
  refine Decidable.byContradiction (fun h8 => h ?_)
  have h1 : a 1 p = 255 := jq_pop_8 _ g8 (by omega)
  have h2 : a 0 p < 256 := Nat.lt_of_lt_of_le g1 (jq_made J)
  unfold cq_an
  rw [h1]
  have : ∀ x, x < 256 → x ^^^ (x &&& 255) = 0 := by decide +kernel
  exact this _ h2
theorem jq_finish {a b : cq_S} (J : jq_J a) {p : Nat} (hp : p < a 20 0) (h48 : a 4 p < 8) (hw : a 6 (8 * p + a 4 p) ≠ 0)
    (h20 : b 20 = a 20) (h21 : b 21 = a 21) (h0 : b 0 = a 0) (h6 : b 6 = a 6) (h25 : b 25 = a 25) (h26 : b 26 = a 26) (h27 : b 27 = a 27) (h28 : b 28 = a 28) (h29 : b 29 = a 29)
    (h1 : ∀ i, i ≠ p → b 1 i = a 1 i) (h1p : b 1 p = a 1 p ||| a 6 (8 * p + a 4 p)) (h2 : ∀ i, i ≠ p → b 2 i = a 2 i) (h2p : b 2 p = a 2 p + jq_pop (a 6 (8 * p + a 4 p))) (h4 : ∀ i, i ≠ p → b 4 i = a 4 i) (h4p : b 4 p = a 4 p + 1)
    (h7 : ∀ i, i ≠ p → b 7 i = a 7 i) (h7p : b 7 p = 0) (h8 : ∀ i, i ≠ p → b 8 i = a 8 i) (h9 : ∀ i, i ≠ p → b 9 i = a 9 i) (h10 : ∀ i, i ≠ p → b 10 i = a 10 i) : jq_J b := by
  obtain ⟨hdis, h256⟩ := jq_disj J hp h48 hw
  obtain ⟨hn3, hn5, hm, hpos, hown, hsent, hoff⟩ := J
  have hld : ∀ r', mq_ldr b r' = mq_ldr a r' := fun r' => by unfold mq_ldr; rw [h20]
  have G : jq_G a b := ⟨by rw [h20], by rw [h21]; exact Nat.le_refl _, fun x _ => by rw [h27], fun x hx => by rw [h28]; exact hx, fun i _ => by rw [h6]⟩
  refine ⟨by rw [h20]; exact hn3, by rw [h20]; exact hn5, by rw [h21]; exact hm, ?_, ?_, ?_, ?_⟩
  · intro q hq
    rw [h20] at hq
    by_cases hqp : q = p
    · left; rw [hqp]; exact h7p
    · rcases hpos q hq with h3 | ⟨g1, g2, g3, g4, g5, g6, g7⟩
      · left; rw [h7 q hqp]; exact h3
      · refine Or.inr ⟨by rw [h4 q hqp]; exact g1, by rw [h8 q hqp]; exact g2, by rw [h4 q hqp, h9 q hqp]; exact g3.mono G, by rw [h10 q hqp, h4 q hqp, h27, h9 q hqp]; exact g4, by rw [h4 q hqp, h28, h10 q hqp]; exact g5, by rw [h10 q hqp]; exact g6, ?_⟩
        rw [h7 q hqp, h8 q hqp, h10 q hqp, h4 q hqp, h27, h9 q hqp, hld, h25, h26]; exact g7
  · intro q hq
    rw [h20] at hq
    obtain ⟨g1, g2, g3, g4, g5, g6, g7, g8⟩ := hown q hq
    by_cases hqp : q = p
    · subst hqp
      refine ⟨by rw [h0, h21]; exact g1, by rw [h4p]; omega, ?_, ?_, ?_, ?_, ?_, ?_⟩
      · rw [h4p, h6]
        intro k hk
        by_cases he : k = a 4 q
        · rw [he]; exact hw
        · exact g3 k (by omega)
      · rw [h6]
        exact fun k' hk' hv => (g4 k' hk' hv).mono G
      · rw [h1p, h4p, h6]
        intro i
        rw [Nat.testBit_or, Bool.or_eq_true, g5 i]
        constructor
        · rintro (⟨k, hk, hb⟩ | hb)
          · exact ⟨k, by omega, hb⟩
          · exact ⟨a 4 q, by omega, hb⟩
        · rintro ⟨k, hk, hb⟩
          by_cases he : k = a 4 q
          · right; rw [he] at hb; exact hb
          · left; exact ⟨k, by omega, hb⟩
      · rw [h2p, h1p, jq_pop_or hdis, g6]
      · rw [h4p, h2p]
        have := jq_pop_pos _ h256 hw
        omega
      · rw [h1p]; exact Nat.or_lt_two_pow (n := 8) g8 h256
    · refine ⟨by rw [h0, h21]; exact g1, by rw [h4 q hqp]; exact g2, by rw [h4 q hqp, h6]; exact g3, ?_, by rw [h1 q hqp, h4 q hqp, h6]; exact g5, by rw [h2 q hqp, h1 q hqp]; exact g6, by rw [h4 q hqp, h2 q hqp]; exact g7, by rw [h1 q hqp]; exact g8⟩
      rw [h6]
      exact fun k' hk' hv => (g4 k' hk' hv).mono G
  · intro c' r' q h16 hq
    rw [h20] at hq
    obtain ⟨s1, s2, s3⟩ := hsent c' r' q h16 hq
    by_cases hqp : q = p
    · subst hqp
      refine ⟨?_, ?_, by rw [h28, h27]; exact s3⟩
      · rw [h25, h26, h27, h28, h4p]
        intro hb
        obtain ⟨t1, t2, t3, t4, t5, t6, t7, t8⟩ := s1 hb
        exact ⟨t1, t2, t3, Or.inl (by rcases t4 with t4 | t4 <;> omega), t5.mono G, t6, t7, t8⟩
      · rw [h28, h29, h4p]
        intro hb
        obtain ⟨t1, t2, t3⟩ := s2 hb
        exact ⟨t1, t2, Or.inl (by rcases t3 with t3 | t3 <;> omega)⟩
    · refine ⟨?_, by rw [h28, h29, h4 q hqp, h7 q hqp, h8 q hqp]; exact s2, by rw [h28, h27]; exact s3⟩
      rw [h25, h26, h27, h28, h4 q hqp, h7 q hqp, h8 q hqp]
      intro hb
      obtain ⟨t1, t2, t3, t4, t5, t6, t7, t8⟩ := s1 hb
      exact ⟨t1, t2, t3, t4, t5.mono G, t6, t7, t8⟩
  · intro c' r' h16
    unfold jq_off
    rw [h27, h28, h25, h26, hld, h20]
    exact hoff c' r' h16
