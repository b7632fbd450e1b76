/-- nothing that the invariant sees has changed, but what is known -/
theorem jq_know {a b : cq_S} (J : jq_J a) (h20 : b 20 = a 20) (h1 : b 1 = a 1) (h2 : b 2 = a 2) (h4 : b 4 = a 4) (h6 : b 6 = a 6) (h7 : b 7 = a 7) (h8 : b 8 = a 8) (h9 : b 9 = a 9) (h10 : b 10 = a 10) (h25 : b 25 = a 25) (h26 : b 26 = a 26) (h27 : b 27 = a 27) (h28 : b 28 = a 28) (h29 : b 29 = a 29)
    (h21 : a 21 0 ≤ b 21 0) (h21b : b 21 0 ≤ 8) (h0 : ∀ p, p < a 20 0 → b 0 p < 2 ^ b 21 0) : jq_J b := by
  obtain ⟨hn3, hn5, hm, hpos, hown, hsent, hoff⟩ := J
  have hld : ∀ r', mq_ldr b r' = mq_ldr a r' := fun r' => by unfold mq_ldr; rw [h20]
  have G : jq_G a b := ⟨by rw [h20], h21, fun x _ => by rw [h27], fun x hx => by rw [h28]; exact hx, fun i _ => by rw [h6]⟩
  refine ⟨by rw [h20]; exact hn3, by rw [h20]; exact hn5, h21b, ?_, ?_, ?_, ?_⟩
  · intro q hq
    rw [h20] at hq
    rcases hpos q hq with h3 | ⟨g1, g2, g3, g4, g5, g6, g7⟩
    · left; rw [h7]; exact h3
    · refine Or.inr ⟨by rw [h4]; exact g1, by rw [h8]; exact g2, by rw [h4, h9]; exact g3.mono G, by rw [h10, h4, h27, h9]; exact g4, by rw [h4, h28, h10]; exact g5, by rw [h10]; exact g6, ?_⟩
      rw [h7, h8, h10, h4, h27, h9, hld, h25, h26]; exact g7
  · intro q hq
    rw [h20] at hq
    obtain ⟨g1, g2, g3, g4, g5, g6, g7, g8⟩ := hown q hq
    refine ⟨h0 q hq, by rw [h4]; exact g2, by rw [h4, h6]; exact g3, ?_, by rw [h1, h4, h6]; exact g5, by rw [h2, h1]; exact g6, by rw [h4, h2]; exact g7, by rw [h1]; exact g8⟩
    rw [h6]
    exact fun k' hk' hv => (g4 k' hk' hv).mono G
  · intro c' r' q h16 hq
    rw [h20] at hq
    obtain ⟨s1, s2, s3⟩ := hsent c' r' q h16 hq
    refine ⟨?_, by rw [h28, h29, h4, h7, h8]; exact s2, by rw [h28, h27]; exact s3⟩
    rw [h25, h26, h27, h28, h4, h7, h8]
    intro hb
    obtain ⟨t1, t2, t3, t4, t5, t6, t7, t8⟩ := s1 hb
    exact ⟨t1, t2, t3, t4, t5.mono G, t6, t7, t8⟩
  · intro c' r' h16
    unfold jq_off
    rw [h27, h28, h25, h26, hld, h20]
    exact hoff c' r' h16
/-- the leader p makes its offer w -/
theorem jq_offer {a b : cq_S} (J : jq_J a) {p w : Nat} (hp : p < a 20 0) (h71 : a 7 p = 1)
    (h20 : b 20 = a 20) (h21 : b 21 = a 21) (h0 : b 0 = a 0) (h1 : b 1 = a 1) (h2 : b 2 = a 2) (h4 : b 4 = a 4) (h6 : b 6 = a 6) (h8 : b 8 = a 8) (h25 : b 25 = a 25) (h26 : b 26 = a 26) (h29 : b 29 = a 29)
    (h7 : ∀ i, i ≠ p → b 7 i = a 7 i) (h7p : b 7 p = 3) (h9 : ∀ i, i ≠ p → b 9 i = a 9 i) (h9p : b 9 p = w) (h10 : ∀ i, i ≠ p → b 10 i = a 10 i) (h10p : b 10 p = a 8 p)
    (h27 : ∀ x, x ≠ cq_x (a 4 p) (a 8 p) 0 → b 27 x = a 27 x) (h27p : b 27 (cq_x (a 4 p) (a 8 p) 0) = w)
    (h28 : ∀ x, x ≠ cq_x (a 4 p) (a 8 p) p → b 28 x = a 28 x) (h28p : b 28 (cq_x (a 4 p) (a 8 p) p) = 1)
    (hsrc : ∃ p0, p0 < a 20 0 ∧ a 25 (cq_x (a 4 p) (a 8 p) p0) = w ∧ w ≠ 0 ∧ a 20 0 / 2 + 1 ≤ jq_c (fun q => if a 25 (cq_x (a 4 p) (a 8 p) q) ≠ 0 ∧ a 26 (cq_x (a 4 p) (a 8 p) q) ≤ a 26 (cq_x (a 4 p) (a 8 p) p0) then 1 else 0) (a 20 0)) : jq_J b := by
  have hJ := J
  obtain ⟨hn3, hn5, hm, hpos, hown, hsent, hoff⟩ := hJ
  obtain ⟨p0, hp0, hw0, hw, hmaj⟩ := hsrc
  have hld : ∀ r', mq_ldr b r' = mq_ldr a r' := fun r' => by unfold mq_ldr; rw [h20]
  -- the leader's place
  obtain ⟨d1, d2, d3, d4, d5, d6, d7⟩ : a 4 p < 8 ∧ 1 ≤ a 8 p ∧ a 8 p ≤ 10 ∧ mq_ldr a (a 8 p) = p ∧ (∀ r, r < 16 → a 28 (cq_x (a 4 p) r p) ≠ 0 → r ≤ a 10 p) ∧ a 10 p < a 8 p ∧ True := by
    rcases hpos p hp with h3 | ⟨g1, g2, g3, g4, g5, g6, g7⟩
    · omega
    · rcases g7 with g7 | g7 | g7
      · omega
      · omega
      · rcases g7.2.2.2.2 with g8 | g8
        · exact ⟨g1, g2, g7.1, g8.2, g5, g7.2.1, trivial⟩
        · omega
  have hO0 : a 27 (cq_x (a 4 p) (a 8 p) 0) = 0 := by
    refine Decidable.byContradiction (fun h => ?_)
    obtain ⟨-, -, t3, -⟩ := hoff (a 4 p) (a 8 p) (by omega) h
    rw [d4] at t3
    have := d5 _ (by omega) t3
    omega
  have G : jq_G a b := ⟨by rw [h20], by rw [h21]; exact Nat.le_refl _, fun x hx => h27 x (fun e => hx (by rw [e]; exact hO0)), fun x hx => by
    by_cases hc : x = cq_x (a 4 p) (a 8 p) p
    · rw [hc, h28p]; exact Nat.one_ne_zero
    · rw [h28 x hc]; exact hx, fun i _ => by rw [h6]⟩
  have hY : ∀ c' r' q, r' < 16 → q < a 20 0 → b 28 (cq_x c' r' q) ≠ 0 → a 28 (cq_x c' r' q) ≠ 0 ∨ (c' = a 4 p ∧ r' = a 8 p ∧ q = p) := by
    intro c' r' q h16 hq hb
    by_cases hx : cq_x c' r' q = cq_x (a 4 p) (a 8 p) p
    · exact Or.inr ((cq_x_inj h16 (by omega) (by omega) (by omega)).mp hx)
    · rw [h28 _ hx] at hb; exact Or.inl hb
  have hVw : jq_V a (a 4 p) w := by
    have h3 := ((hsent (a 4 p) (a 8 p) p0 (by omega) hp0).1 (by rw [hw0]; exact hw)).2.2.2.2.1
    rw [hw0] at h3
    exact h3
  refine ⟨by rw [h20]; exact hn3, by rw [h20]; exact hn5, by rw [h21]; exact hm, ?_, ?_, ?_, ?_⟩
  · intro q hq
    rw [h20] at hq
    by_cases hqp : q = p
    · subst hqp
      refine Or.inr ⟨by rw [h4]; exact d1, by rw [h8]; exact d2, by rw [h4, h9p]; exact hVw.mono G, ?_, ?_, by rw [h10p]; exact d3, Or.inr (Or.inl ?_)⟩
      · intro _; rw [h10p, h4, h27p, h9p]
      · rw [h4, h10p]
        intro r' h16 hb
        rcases hY _ r' q h16 hq hb with h | h
        · have := d5 r' h16 h; omega
        · omega
      · exact ⟨h7p, by rw [h8]; exact d3, by rw [h8, hld]; exact d4, by rw [h4, h8, h27p, h9p], by rw [h10p, h8]⟩
    · rcases hpos q hq with h3 | ⟨g1, g2, g3, g4, g5, g6, g7⟩
      · left; rw [h7 q hqp]; exact h3
      · refine Or.inr ⟨by rw [h4]; exact g1, by rw [h8]; exact g2, by rw [h4, h9 q hqp]; exact g3.mono G, ?_, ?_, by rw [h10 q hqp]; exact g6, ?_⟩
        · rw [h10 q hqp, h4, h9 q hqp]
          intro hne
          have h3 := g4 hne
          rw [G.2.2.1 _ (by rw [h3]; exact g3.1)]; exact h3
        · rw [h4, h10 q hqp]
          intro r' h16 hb
          rcases hY _ r' q h16 hq hb with h | h
          · exact g5 r' h16 h
          · exact absurd h.2.2 hqp
        · rw [h7 q hqp, h8, h10 q hqp, h4, h9 q hqp, hld, h25, h26]
          rcases g7 with g7 | g7 | g7
          · exact Or.inl g7
          · right; left
            obtain ⟨e1, e2, e3, e4, e5⟩ := g7
            exact ⟨e1, e2, e3, by rw [G.2.2.1 _ (by rw [e4]; exact g3.1)]; exact e4, e5⟩
          · exact Or.inr (Or.inr g7)
  · intro q hq
    rw [h20] at hq
    obtain ⟨g1, g2, g3, g4, g5, g6, g7, g8⟩ := hown q hq
    refine ⟨by rw [h0, h21]; exact g1, by rw [h4]; exact g2, by rw [h4, h6]; exact g3, ?_, by rw [h1, h4, h6]; exact g5, by rw [h2, h1]; exact g6, by rw [h4, h2]; exact g7, by rw [h1]; exact g8⟩
    rw [h6]
    exact fun k' hk' hv => (g4 k' hk' hv).mono G
  · intro c' r' q h16 hq
    rw [h20] at hq
    obtain ⟨s1, s2, s3⟩ := hsent c' r' q h16 hq
    have h7n : a 7 q ≠ 0 → b 7 q ≠ 0 := by
      intro h
      by_cases hqp : q = p
      · rw [hqp, h7p]; decide
      · rw [h7 q hqp]; exact h
    refine ⟨?_, ?_, ?_⟩
    · rw [h25, h26, h4, h8]
      intro hb
      obtain ⟨t1, t2, t3, t4, t5, t6, t7, t8⟩ := s1 hb
      refine ⟨t1, t2, t3, ?_, t5.mono G, t6, ?_, ?_⟩
      · rcases t4 with t4 | t4
        · exact Or.inl t4
        · exact Or.inr ⟨t4.1, h7n t4.2.1, t4.2.2⟩
      · intro hs
        have h3 := t7 hs
        rw [G.2.2.1 _ (by rw [h3]; exact hb)]; exact h3
      · intro r0 hr0 h
        rcases hY _ r0 q (by omega) hq h with h | h
        · exact t8 r0 hr0 h
        · obtain ⟨e1, e2, e3⟩ := h
          subst e3
          rcases t4 with t4 | t4 <;> omega
    · intro hb
      rw [h29] at hb
      rw [h4, h8]
      have hcase : (a 28 (cq_x c' r' q) ≠ 0 ∨ a 29 (cq_x c' r' q) ≠ 0) ∨ (c' = a 4 p ∧ r' = a 8 p ∧ q = p) := by
        rcases hb with hb | hb
        · rcases hY _ _ _ h16 hq hb with h | h
          · exact Or.inl (Or.inl h)
          · exact Or.inr h
        · exact Or.inl (Or.inr hb)
      rcases hcase with h | ⟨e1, e2, e3⟩
      · obtain ⟨t1, t2, t3⟩ := s2 h
        refine ⟨t1, t2, ?_⟩
        rcases t3 with t3 | ⟨t3, t4, t5⟩
        · exact Or.inl t3
        · refine Or.inr ⟨t3, h7n t4, ?_⟩
          by_cases hqp : q = p
          · subst hqp
            rcases t5 with t5 | t5
            · exact Or.inl t5
            · omega
          · rw [h7 q hqp]; exact t5
      · subst e3
        exact ⟨by omega, by omega, Or.inr ⟨e1, by rw [h7p]; decide, Or.inr ⟨e2, h7p⟩⟩⟩
    · intro hb
      rcases hY _ _ _ h16 hq hb with h | ⟨e1, e2, e3⟩
      · have h3 := s3 h
        rw [G.2.2.1 _ h3]; exact h3
      · rw [e1, e2, h27p]; exact hw
  · intro c' r' h16 hb
    by_cases hx : cq_x c' r' 0 = cq_x (a 4 p) (a 8 p) 0
    · obtain ⟨e1, e2, -⟩ := (cq_x_inj h16 (by omega) (by omega) (by omega)).mp hx
      subst e1 e2
      refine ⟨d2, d3, by rw [hld, d4, h28p]; exact Nat.one_ne_zero, p0, by rw [h20]; exact hp0, by rw [h25, h27p]; exact hw0, ?_⟩
      rw [h20, h25, h26]; exact hmaj
    · rw [h27 _ hx] at hb ⊢
      obtain ⟨t1, t2, t3, p1, t4, t5, t6⟩ := hoff c' r' h16 hb
      refine ⟨t1, t2, by rw [hld]; exact G.2.2.2.1 _ t3, p1, by rw [h20]; exact t4, by rw [h25]; exact t5, ?_⟩
      rw [h20, h25, h26]; exact t6
/-- the process q learns the verdict w of the council c -/
theorem jq_learn {a b : cq_S} (J : jq_J a) {q c w : Nat} (hq : q < a 20 0) (hc : c < 8) (hw : jq_Vs a c w) (h60 : a 6 (8 * q + c) = 0)
    (h20 : b 20 = a 20) (h21 : b 21 = a 21) (h0 : b 0 = a 0) (h1 : b 1 = a 1) (h2 : b 2 = a 2) (h4 : b 4 = a 4) (h7 : b 7 = a 7) (h8 : b 8 = a 8) (h9 : b 9 = a 9) (h10 : b 10 = a 10) (h25 : b 25 = a 25) (h26 : b 26 = a 26) (h27 : b 27 = a 27) (h28 : b 28 = a 28) (h29 : b 29 = a 29)
    (h6 : ∀ i, i ≠ 8 * q + c → b 6 i = a 6 i) (h6p : b 6 (8 * q + c) = w) : jq_J b := by
  obtain ⟨hn3, hn5, hm, hpos, hown, hsent, hoff⟩ := J
  have hld : ∀ r', mq_ldr b r' = mq_ldr a r' := fun r' => by unfold mq_ldr; rw [h20]
  have G6 : ∀ i, a 6 i ≠ 0 → b 6 i = a 6 i := fun i hi => h6 i (fun e => hi (by rw [e]; exact h60))
  have G : jq_G a b := ⟨by rw [h20], by rw [h21]; exact Nat.le_refl _, fun x _ => by rw [h27], fun x hx => by rw [h28]; exact hx, G6⟩
  refine ⟨by rw [h20]; exact hn3, by rw [h20]; exact hn5, by rw [h21]; exact hm, ?_, ?_, ?_, ?_⟩
  · intro p hp
    rw [h20] at hp
    rcases hpos p hp with h3 | ⟨g1, g2, g3, g4, g5, g6, g7⟩
    · left; rw [h7]; exact h3
    · refine Or.inr ⟨by rw [h4]; exact g1, by rw [h8]; exact g2, by rw [h4, h9]; exact g3.mono G, by rw [h10, h4, h27, h9]; exact g4, by rw [h4, h28, h10]; exact g5, by rw [h10]; exact g6, ?_⟩
      rw [h7, h8, h10, h4, h27, h9, hld, h25, h26]; exact g7
  · intro p hp
    rw [h20] at hp
    obtain ⟨g1, g2, g3, g4, g5, g6, g7, g8⟩ := hown p hp
    refine ⟨by rw [h0, h21]; exact g1, by rw [h4]; exact g2, ?_, ?_, ?_, by rw [h2, h1]; exact g6, by rw [h4, h2]; exact g7, by rw [h1]; exact g8⟩
    · rw [h4]
      intro k hk
      have h3 := g3 k hk
      rw [G6 _ h3]; exact h3
    · intro k hk hv
      by_cases he : 8 * p + k = 8 * q + c
      · have e1 : p = q := by omega
        have e2 : k = c := by omega
        subst e1 e2
        rw [h6p]; exact hw.mono G
      · rw [h6 _ he] at hv ⊢
        exact (g4 k hk hv).mono G
    · rw [h1, h4]
      intro x
      rw [g5 x]
      constructor
      · rintro ⟨k, hk, hb⟩
        exact ⟨k, hk, by rw [G6 _ (g3 k hk)]; exact hb⟩
      · rintro ⟨k, hk, hb⟩
        exact ⟨k, hk, by rw [G6 _ (g3 k hk)] at hb; exact hb⟩
  · intro c' r' p h16 hp
    rw [h20] at hp
    obtain ⟨s1, s2, s3⟩ := hsent c' r' p h16 hp
    refine ⟨?_, by rw [h28, h29, h4, h7, h8]; exact s2, by rw [h28, h27]; exact s3⟩
    rw [h25, h26, h27, h28, h4, h7, h8]
    intro hb
    obtain ⟨t1, t2, t3, t4, t5, t6, t7, t8⟩ := s1 hb
    exact ⟨t1, t2, t3, t4, t5.mono G, t6, t7, t8⟩
  · intro c' r' h16
    unfold jq_off
    rw [h27, h28, h25, h26, hld, h20]
    exact hoff c' r' h16
