/-! The clamp, and the reference's world at the start. -/
theorem cq_clamp_n (x : Int32) : ∃ n, 3 ≤ n ∧ n ≤ 5 ∧ cq_clamp x = nI n := by
  unfold cq_clamp
  by_cases h1 : x < 3
  · rw [if_pos h1]; exact ⟨3, by decide, by decide, by decide⟩
  · rw [if_neg h1]
    by_cases h2 : x ≤ 5
    · rw [if_pos h2]
      have h0 : ¬ x < 0 := fun h => h1 (Int32.lt_trans h (by decide))
      obtain ⟨j, hj, e⟩ := nI_of h0
      refine ⟨j, ?_, ?_, e⟩
      · have h3 : nI 3 ≤ nI j := by rw [← e]; exact Int32.not_lt.mp h1
        exact (nI_leI (by decide) hj).mp h3
      · have h3 : nI j ≤ nI 5 := by rw [← e]; exact h2
        exact (nI_leI hj (by decide)).mp h3
    · rw [if_neg h2]; exact ⟨5, by decide, by decide, by decide⟩
theorem cq_Rw_wM (n h0 q0 q1 q2 q3 q4 q5 q6 q7 q8 q9 q10 q11 q12 q13 q14 q15 q16 q17 q18 q19 : Nat) (c0 c1 c2 c3 c4 c5 c6 c7 c8 c9 c10 c11 c12 c13 c14 c15 c16 c17 c18 c19 : ClassId) : cq_Rw (nI n) h0 q0 q1 q2 q3 q4 q5 q6 q7 q8 q9 q10 q11 q12 q13 q14 q15 q16 q17 q18 q19 c0 c1 c2 c3 c4 c5 c6 c7 c8 c9 c10 c11 c12 c13 c14 c15 c16 c17 c18 c19 = wM (fun k => [h0, q0, q1, q2, q3, q4, q5, q6, q7, q8, q9, q10, q11, q12, q13, q14, q15, q16, q17, q18, q19].getD k 0) (fun k => [c0, c1, c2, c3, c4, c5, c6, c7, c8, c9, c10, c11, c12, c13, c14, c15, c16, c17, c18, c19].getD k c0) (cq_p (fun _ _ => 0) 20 0 n) := rfl
