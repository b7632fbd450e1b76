/-! The invariant through the steps of a process. -/
/-- a process goes to the round r of its council, with the value v of the stamp k; y, z: its vote in the round before -/
theorem jq_move {a b : cq_S} (J : jq_J a) {p r v k y z : Nat} (hp : p < a 20 0)
    (h20 : b 20 = a 20) (h21 : b 21 = a 21) (h0 : b 0 = a 0) (h1 : b 1 = a 1) (h2 : b 2 = a 2) (h4 : b 4 = a 4) (h6 : b 6 = a 6) (h27 : b 27 = a 27)
    (h7 : ∀ i, i ≠ p → b 7 i = a 7 i) (h7p : b 7 p = if r = 11 then 4 else if mq_ldr a r = p then 1 else 2)
    (h8 : ∀ i, i ≠ p → b 8 i = a 8 i) (h8p : b 8 p = r) (h9 : ∀ i, i ≠ p → b 9 i = a 9 i) (h9p : b 9 p = v) (h10 : ∀ i, i ≠ p → b 10 i = a 10 i) (h10p : b 10 p = k)
    (h25 : ∀ x, ¬ (r ≠ 11 ∧ x = cq_x (a 4 p) r p) → b 25 x = a 25 x) (h25p : r ≠ 11 → b 25 (cq_x (a 4 p) r p) = v)
    (h26 : ∀ x, ¬ (r ≠ 11 ∧ x = cq_x (a 4 p) r p) → b 26 x = a 26 x) (h26p : r ≠ 11 → b 26 (cq_x (a 4 p) r p) = k)
    (h28 : ∀ x, ¬ (y = 1 ∧ x = cq_x (a 4 p) (r - 1) p) → b 28 x = a 28 x) (h28p : y = 1 → b 28 (cq_x (a 4 p) (r - 1) p) = 1)
    (h29 : ∀ x, ¬ (z = 1 ∧ x = cq_x (a 4 p) (r - 1) p) → b 29 x = a 29 x)
    (c8 : a 4 p < 8) (hr1 : 1 ≤ r) (hr11 : r ≤ 11)
    (hfrom : (a 7 p = 0 ∧ r = 1 ∧ y ≠ 1 ∧ z ≠ 1) ∨ ((a 7 p = 2 ∨ a 7 p = 3) ∧ r = a 8 p + 1 ∧ (a 7 p = 3 → y ≠ 1 ∧ z ≠ 1)))
    (hV : jq_V a (a 4 p) v) (hk : k < r) (hkO : k ≠ 0 → a 27 (cq_x (a 4 p) k 0) = v)
    (hyk : y = 1 → k = r - 1) (hYk : ∀ r', r' < 16 → a 28 (cq_x (a 4 p) r' p) ≠ 0 → r' ≤ k) : jq_J b := by
  have hJ := J
  obtain ⟨hn3, hn5, hm, hpos, hown, hsent, hoff⟩ := hJ
  have hld : ∀ r', mq_ldr b r' = mq_ldr a r' := fun r' => by unfold mq_ldr; rw [h20]
  have G : jq_G a b := ⟨by rw [h20], by rw [h21]; exact Nat.le_refl _, fun x _ => by rw [h27], fun x hx => by
    by_cases hc : y = 1 ∧ x = cq_x (a 4 p) (r - 1) p
    · rw [hc.2, h28p hc.1]; exact Nat.one_ne_zero
    · rw [h28 x hc]; exact hx, fun i _ => by rw [h6]⟩
  have h7n : b 7 p ≠ 0 := by
    rw [h7p]
    repeat' split
    all_goals decide
  -- the rounds that were
  have hrd : a 7 p = 2 ∨ a 7 p = 3 → 1 ≤ a 8 p ∧ a 8 p ≤ 10 := by
    intro h
    rcases hpos p hp with h3 | ⟨-, h4', -, -, -, -, h5 | h5 | h5⟩
    · omega
    · omega
    · exact ⟨h4', h5.2.1⟩
    · exact ⟨h4', h5.1⟩
  have hold : ∀ r', (a 7 p ≠ 0 ∧ r' ≤ a 8 p) → r' < r ∧ r' ≠ r := by
    intro r' h
    rcases hfrom with h3 | h3 <;> omega
  have hE : ∀ c' r' q, r' < 16 → q < a 20 0 → a 25 (cq_x c' r' q) ≠ 0 → b 25 (cq_x c' r' q) = a 25 (cq_x c' r' q) ∧ b 26 (cq_x c' r' q) = a 26 (cq_x c' r' q) := by
    intro c' r' q h16 hq hE
    have hx : ¬ (r ≠ 11 ∧ cq_x c' r' q = cq_x (a 4 p) r p) := by
      intro hx
      obtain ⟨e1, e2, e3⟩ := (cq_x_inj h16 (by omega) (by omega) (by omega)).mp hx.2
      subst e3
      have h3 := ((hsent c' r' q h16 hq).1 hE).2.2.2.1
      rcases h3 with h3 | h3
      · omega
      · have := hold r' ⟨h3.2.1, h3.2.2⟩; omega
    exact ⟨h25 _ hx, h26 _ hx⟩
  have hY : ∀ c' r' q, r' < 16 → q < a 20 0 → b 28 (cq_x c' r' q) ≠ 0 → a 28 (cq_x c' r' q) ≠ 0 ∨ (y = 1 ∧ c' = a 4 p ∧ r' = r - 1 ∧ q = p) := by
    intro c' r' q h16 hq hb
    by_cases hx : y = 1 ∧ cq_x c' r' q = cq_x (a 4 p) (r - 1) p
    · obtain ⟨e1, e2, e3⟩ := (cq_x_inj h16 (by omega) (by omega) (by omega)).mp hx.2
      exact Or.inr ⟨hx.1, e1, e2, e3⟩
    · rw [h28 _ hx] at hb; exact Or.inl hb
  have hZ : ∀ c' r' q, r' < 16 → q < a 20 0 → b 29 (cq_x c' r' q) ≠ 0 → a 29 (cq_x c' r' q) ≠ 0 ∨ (z = 1 ∧ c' = a 4 p ∧ r' = r - 1 ∧ q = p) := by
    intro c' r' q h16 hq hb
    by_cases hx : z = 1 ∧ cq_x c' r' q = cq_x (a 4 p) (r - 1) p
    · obtain ⟨e1, e2, e3⟩ := (cq_x_inj h16 (by omega) (by omega) (by omega)).mp hx.2
      exact Or.inr ⟨hx.1, e1, e2, e3⟩
    · rw [h29 _ hx] at hb; exact Or.inl hb
  have hYk' : ∀ r', r' < 16 → b 28 (cq_x (a 4 p) r' p) ≠ 0 → r' ≤ k := by
    intro r' h16 hb
    rcases hY _ r' p h16 hp hb with h | h
    · exact hYk r' h16 h
    · have := hyk h.1; omega
  have hk10 : k ≤ 10 := by omega
  refine ⟨by rw [h20]; exact hn3, by rw [h20]; exact hn5, by rw [h21]; exact hm, ?_, ?_, ?_, ?_⟩
  · intro q hq
    rw [h20] at hq
    by_cases hqp : q = p
    · subst hqp
      refine Or.inr ⟨by rw [h4]; exact c8, by rw [h8p]; exact hr1, by rw [h4, h9p]; exact hV.mono G, ?_, ?_, by rw [h10p]; exact hk10, ?_⟩
      · rw [h10p, h4, h27, h9p]; exact hkO
      · rw [h4, h10p]; exact hYk'
      · by_cases h11 : r = 11
        · left; exact ⟨by rw [h7p, if_pos h11], by rw [h8p]; exact h11⟩
        · right; right
          rw [h8p, h10p, h4, h9p, hld]
          refine ⟨by omega, hk, h25p h11, h26p h11, ?_⟩
          rw [h7p, if_neg h11]
          by_cases hl : mq_ldr a r = q
          · left; rw [if_pos hl]; exact ⟨rfl, hl⟩
          · right; rw [if_neg hl]; exact ⟨rfl, hl⟩
    · rcases hpos q hq with h3 | ⟨g1, g2, g3, g4, g5, g6, g7⟩
      · left; rw [h7 q hqp]; exact h3
      · refine Or.inr ⟨by rw [h4]; exact g1, by rw [h8 q hqp]; exact g2, by rw [h4, h9 q hqp]; exact g3.mono G, by rw [h10 q hqp, h4, h27, h9 q hqp]; exact g4, ?_, by rw [h10 q hqp]; exact g6, ?_⟩
        · rw [h4, h10 q hqp]
          intro r' h16 hb
          rcases hY _ r' q h16 hq hb with h | h
          · exact g5 r' h16 h
          · exact absurd h.2.2.2 hqp
        · rw [h7 q hqp, h8 q hqp, h10 q hqp, h4, h27, h9 q hqp, hld]
          rcases g7 with g7 | g7 | g7
          · exact Or.inl g7
          · exact Or.inr (Or.inl g7)
          · right; right
            have hne : a 25 (cq_x (a 4 q) (a 8 q) q) ≠ 0 := by rw [g7.2.2.1]; exact g3.1
            obtain ⟨e1, e2⟩ := hE _ _ q (by omega) hq hne
            rw [e1, e2]; exact g7
  · intro q hq
    rw [h20] at hq
    obtain ⟨g1, g2, g3, g4, g5, g6, g7, g8⟩ := hown q hq
    refine ⟨by rw [h0, h21]; exact g1, by rw [h4]; exact g2, by rw [h4, h6]; exact g3, ?_, by rw [h1, h4, h6]; exact g5, by rw [h2, h1]; exact g6, by rw [h4, h2]; exact g7, by rw [h1]; exact g8⟩
    rw [h6]
    exact fun k' hk' hv => (g4 k' hk' hv).mono G
  · intro c' r' q h16 hq
    rw [h20] at hq
    obtain ⟨s1, s2, s3⟩ := hsent c' r' q h16 hq
    -- the place of q, as it is now
    have hplace : ∀ c' r', (c' < a 4 q ∨ (c' = a 4 q ∧ a 7 q ≠ 0 ∧ r' ≤ a 8 q)) → (c' < b 4 q ∨ (c' = b 4 q ∧ b 7 q ≠ 0 ∧ r' ≤ b 8 q)) := by
      intro c' r' h
      rw [h4]
      by_cases hqp : q = p
      · subst hqp
        rcases h with h | h
        · exact Or.inl h
        · have := hold r' ⟨h.2.1, h.2.2⟩
          exact Or.inr ⟨h.1, h7n, by rw [h8p]; omega⟩
      · rw [h7 q hqp, h8 q hqp]; exact h
    refine ⟨?_, ?_, ?_⟩
    · intro hb
      by_cases hx : r ≠ 11 ∧ cq_x c' r' q = cq_x (a 4 p) r p
      · obtain ⟨e1, e2, e3⟩ := (cq_x_inj h16 (by omega) (by omega) (by omega)).mp hx.2
        subst e1 e2 e3
        rw [h25p hx.1, h26p hx.1]
        refine ⟨hr1, by omega, c8, Or.inr ⟨by rw [h4], h7n, by rw [h8p]; exact Nat.le_refl _⟩, hV.mono G, hk, by rw [h27]; exact hkO, ?_⟩
        intro r0 hr0 h
        exact hYk' r0 (by omega) h
      · rw [h25 _ hx] at hb
        obtain ⟨t1, t2, t3, t4, t5, t6, t7, t8⟩ := s1 hb
        rw [h25 _ hx, h26 _ hx, h27]
        refine ⟨t1, t2, t3, hplace c' r' t4, t5.mono G, t6, t7, ?_⟩
        intro r0 hr0 h
        rcases hY _ r0 q (by omega) hq h with h | h
        · exact t8 r0 hr0 h
        · obtain ⟨e0, e1, e2, e3⟩ := h
          subst e3
          rcases t4 with t4 | t4
          · omega
          · rcases hfrom with hf | hf
            · omega
            · omega
    · intro hb
      have hcase : (a 28 (cq_x c' r' q) ≠ 0 ∨ a 29 (cq_x c' r' q) ≠ 0) ∨ ((y = 1 ∨ z = 1) ∧ c' = a 4 p ∧ r' = r - 1 ∧ q = p) := by
        rcases hb with hb | hb
        · rcases hY _ _ _ h16 hq hb with h | h
          · exact Or.inl (Or.inl h)
          · exact Or.inr ⟨Or.inl h.1, h.2⟩
        · rcases hZ _ _ _ h16 hq hb with h | h
          · exact Or.inl (Or.inr h)
          · exact Or.inr ⟨Or.inr h.1, h.2⟩
      rcases hcase with h | ⟨hyz, e1, e2, e3⟩
      · obtain ⟨t1, t2, t3⟩ := s2 h
        refine ⟨t1, t2, ?_⟩
        rw [h4]
        by_cases hqp : q = p
        · subst hqp
          rcases t3 with t3 | t3
          · exact Or.inl t3
          · have := hold r' ⟨t3.2.1, by omega⟩
            exact Or.inr ⟨t3.1, h7n, Or.inl (by rw [h8p]; omega)⟩
        · rw [h7 q hqp, h8 q hqp]; exact t3
      · subst e3
        have hf : (a 7 q = 2 ∨ a 7 q = 3) ∧ r = a 8 q + 1 := by
          rcases hfrom with hf | hf
          · rcases hyz with h | h
            · exact absurd h hf.2.2.1
            · exact absurd h hf.2.2.2
          · exact ⟨hf.1, hf.2.1⟩
        have := hrd hf.1
        exact ⟨by omega, by omega, Or.inr ⟨by rw [h4]; exact e1, h7n, Or.inl (by rw [h8p]; omega)⟩⟩
    · intro hb
      rw [h27]
      rcases hY _ _ _ h16 hq hb with h | ⟨e0, e1, e2, e3⟩
      · exact s3 h
      · have hk1 := hyk e0
        have hf : r = a 8 p + 1 ∧ 1 ≤ a 8 p := by
          rcases hfrom with hf | hf
          · exact absurd e0 hf.2.2.1
          · exact ⟨hf.2.1, (hrd hf.1).1⟩
        have h3 := hkO (by omega)
        rw [e1, e2, ← hk1, h3]
        exact hV.1
  · intro c' r' h16 hb
    rw [h27] at hb ⊢
    obtain ⟨t1, t2, t3, p0, t4, t5, t6⟩ := hoff c' r' h16 hb
    refine ⟨t1, t2, by rw [hld]; exact G.2.2.2.1 _ t3, p0, by rw [h20]; exact t4, ?_, ?_⟩
    · rw [(hE c' r' p0 h16 t4 (by rw [t5]; exact hb)).1]; exact t5
    · rw [h20]
      refine Nat.le_trans t6 (jq_c_mono _ (fun q hq h => ?_))
      have h3 : a 25 (cq_x c' r' q) ≠ 0 ∧ a 26 (cq_x c' r' q) ≤ a 26 (cq_x c' r' p0) := Decidable.byContradiction (fun h4 => h (if_neg h4))
      have e1 := hE c' r' q h16 hq h3.1
      have e2 := hE c' r' p0 h16 t4 (by rw [t5]; exact hb)
      rw [e1.1, e1.2, e2.2, if_pos h3]
      exact Nat.one_ne_zero
