/-- a letter is put -/
theorem lq_put {a : cq_S} (L : lq_L a) (hn5 : a 20 0 ≤ 5) {k p q c r w : Nat} (hk1 : 1 ≤ k) (hk5 : k ≤ 5) (hp : p < a 20 0) (hq : q < a 20 0) (hc : c < 8) (hr : r ≤ 10) (hw : w < 256) (hm : a 10 p ≤ 10) (hpq : p = q → k = 2 ∨ k = 4)
    (h1 : k = 1 → w < a 21 0 ∧ c = 0 ∧ r = 0) (h5 : k = 5 → jq_Vs a c w ∧ r = 0) (h2 : k = 2 → 1 ≤ r ∧ q = mq_ldr a r ∧ w ≠ 0 ∧ a 25 (cq_x c r p) = 0) (h4 : k = 4 → 1 ≤ r ∧ q = mq_ldr a r ∧ w ≤ 1 ∧ a 28 (cq_x c r p) = 0 ∧ a 29 (cq_x c r p) = 0)
    (h3 : k = 3 → 1 ≤ r ∧ p = mq_ldr a r ∧ q ≠ p ∧ w ≠ 0 ∧ (a 27 (cq_x c r 0) = 0 ∨ a 27 (cq_x c r 0) = w) ∧ ∀ i, i < a 23 0 → a 12 i = 3 → a 15 i = c → a 16 i = r → a 14 i ≠ q) : lq_L (mq_put a k p q c r w) := by
  obtain ⟨L1, L2, L3⟩ := L
  have hN : mq_put a k p q c r w 23 0 = a 23 0 + 1 := mq_put_n _ _ _ _ _ _ _
  have h20 : mq_put a k p q c r w 20 = a 20 := mq_put_f _ _ _ _ _ _ _ _ (by omega)
  have h21 : mq_put a k p q c r w 21 = a 21 := mq_put_f _ _ _ _ _ _ _ _ (by omega)
  have hl : ∀ r', mq_ldr (mq_put a k p q c r w) r' = mq_ldr a r' := fun r' => by unfold mq_ldr; rw [h20]
  have old : ∀ k' i, 12 ≤ k' ∧ k' < 20 → i < a 23 0 → mq_put a k p q c r w k' i = a k' i := fun k' i h hi => mq_put_old _ _ _ _ _ _ _ _ _ h (by omega)
  -- no letter was at this place
  have no2 : k = 2 → ∀ i, i < a 23 0 → a 12 i = 2 → lq_x a i ≠ cq_x c r p := by
    intro h i hi hk e
    have g := (L1 i hi).2.2.1 hk
    rw [e, (h2 h).2.2.2] at g
    exact g.2.2.2.1 g.2.2.1.symm
  have no4 : k = 4 → ∀ i, i < a 23 0 → a 12 i = 4 → lq_x a i ≠ cq_x c r p := by
    intro h i hi hk e
    obtain ⟨-, -, g3, g4, g5, -⟩ := (L1 i hi).2.2.2.2.1 hk
    rw [e] at g4 g5
    have h6 := (h4 h).2.2.2
    by_cases hw1 : a 17 i = 1
    · exact g4 hw1 h6.1
    · exact g5 (by omega) h6.2
  have G27 : ∀ x, a 27 x ≠ 0 → mq_put a k p q c r w 27 x = a 27 x := by
    intro x hx
    rw [mq_put_27]
    by_cases h : k = 3 ∧ x = cq_x c r 0
    · rw [if_pos h]
      rcases (h3 h.1).2.2.2.2.1 with g | g
      · rw [h.2] at hx; exact absurd g hx
      · rw [h.2]; exact g.symm
    · rw [if_neg h]
  have G28 : ∀ x, a 28 x ≠ 0 → mq_put a k p q c r w 28 x ≠ 0 := by
    intro x hx
    rw [mq_put_28]
    split
    · exact Nat.one_ne_zero
    · exact hx
  have hVs : ∀ c' w', jq_Vs a c' w' → jq_Vs (mq_put a k p q c r w) c' w' := by
    intro c' w' h
    obtain ⟨g0, r', g1, g2, g3, g4⟩ := h
    refine ⟨g0, r', g1, g2, by rw [G27 _ (by rw [g3]; exact g0)]; exact g3, ?_⟩
    unfold jq_Lk at g4 ⊢
    rw [h20]
    exact Nat.le_trans g4 (jq_c_mono _ (fun p' _ h => G28 _ h))
  have xo : ∀ i, i < a 23 0 → lq_x (mq_put a k p q c r w) i = lq_x a i := fun i hi => by unfold lq_x; rw [old 15 i (by omega) hi, old 16 i (by omega) hi, old 13 i (by omega) hi]
  have n30 : k = 2 → a 30 (cq_x c r p) = 0 := by
    intro h
    refine Decidable.byContradiction (fun hne => ?_)
    obtain ⟨i, hi, e1, e2, e3, e4, e5⟩ := (L2 c r p (by omega) hp).1 hne
    exact no2 h i hi e1 (by unfold lq_x; rw [e3, e4, e5])
  have n31 : k = 3 → a 31 (cq_x c r q) = 0 := by
    intro h
    refine Decidable.byContradiction (fun hne => ?_)
    obtain ⟨i, hi, e1, e2, e3, e4, e5⟩ := (L2 c r q (by omega) hq).2.1 hne
    exact (h3 h).2.2.2.2.2 i hi e1 e3 e4 e5
  have n32 : k = 4 → a 32 (cq_x c r p) = 0 ∧ a 33 (cq_x c r p) = 0 := by
    intro h
    constructor
    · refine Decidable.byContradiction (fun hne => ?_)
      obtain ⟨i, hi, e1, e2, e3, e4, e5, e6⟩ := (L2 c r p (by omega) hp).2.2.1 hne
      exact no4 h i hi e1 (by unfold lq_x; rw [e3, e4, e5])
    · refine Decidable.byContradiction (fun hne => ?_)
      obtain ⟨i, hi, e1, e2, e3, e4, e5, e6⟩ := (L2 c r p (by omega) hp).2.2.2 hne
      exact no4 h i hi e1 (by unfold lq_x; rw [e3, e4, e5])
  refine ⟨?_, ?_, ?_⟩
  · intro i hi
    rw [hN] at hi
    by_cases hlast : i = a 23 0
    · subst hlast
      have x0 : lq_x (mq_put a k p q c r w) (a 23 0) = cq_x c r p := by unfold lq_x; rw [mq_put_15, mq_put_16, mq_put_13]
      refine ⟨?_, ?_, ?_, ?_, ?_, ?_⟩
      · unfold lq_b
        rw [mq_put_12, mq_put_13, mq_put_14, mq_put_15, mq_put_16, mq_put_17, mq_put_18, mq_put_19, h20]
        refine ⟨hk1, hk5, hp, hq, by split <;> omega, hc, hr, hw, by split <;> omega, ?_, fun h => if_neg h⟩
        intro h e
        rw [if_pos e] at h
        exact absurd h Nat.one_ne_zero
      · unfold lq_1
        rw [mq_put_12, mq_put_15, mq_put_16, mq_put_17, mq_put_19, h21]
        intro h
        obtain ⟨g1, g2, g3⟩ := h1 h
        refine ⟨g1, g2, g3, ?_⟩
        rw [if_neg (by intro e; have := hpq e; omega)]; decide
      · unfold lq_2
        rw [x0, mq_put_12, mq_put_14, mq_put_16, mq_put_17, mq_put_18, mq_put_19, hl, mq_put_25, mq_put_26, mq_put_30]
        intro h
        obtain ⟨g1, g2, g3, g4⟩ := h2 h
        refine ⟨g1, g2, by rw [if_pos ⟨h, rfl⟩], g3, by rw [if_pos ⟨h, rfl⟩, if_pos h], ?_, ?_⟩
        · intro e
          have e2 : p = q := Decidable.byContradiction (fun hne => by rw [if_neg hne] at e; exact absurd e (by decide))
          rw [if_pos ⟨⟨h, e2⟩, rfl⟩]; exact Nat.one_ne_zero
        · intro e
          have e2 : ¬ p = q := fun he => by rw [if_pos he] at e; exact absurd e (by decide)
          rw [if_neg (fun hx => e2 hx.1.2)]; exact n30 h
      · unfold lq_3
        rw [mq_put_12, mq_put_13, mq_put_14, mq_put_15, mq_put_16, mq_put_17, mq_put_19, hl, mq_put_27, mq_put_31]
        intro h
        obtain ⟨g1, g2, g3, g4, g5, g6⟩ := h3 h
        refine ⟨g1, g2, g3, by rw [if_pos ⟨h, rfl⟩], g4, ?_, fun _ => n31 h⟩
        intro e
        rw [if_neg (fun he => g3 he.symm)] at e
        exact absurd e (by decide)
      · unfold lq_4
        rw [x0, mq_put_12, mq_put_14, mq_put_16, mq_put_17, mq_put_19, hl, mq_put_28, mq_put_29, mq_put_32, mq_put_33]
        intro h
        obtain ⟨g1, g2, g3, g4⟩ := h4 h
        refine ⟨g1, g2, g3, ?_, ?_, ?_, ?_⟩
        · intro e; rw [if_pos ⟨⟨h, e⟩, rfl⟩]; exact Nat.one_ne_zero
        · intro e; rw [if_pos ⟨⟨h, by omega⟩, rfl⟩]; exact Nat.one_ne_zero
        · intro e
          have e2 : p = q := Decidable.byContradiction (fun hne => by rw [if_neg hne] at e; exact absurd e (by decide))
          constructor
          · intro e1; rw [if_pos ⟨⟨h, e1, e2⟩, rfl⟩]; exact Nat.one_ne_zero
          · intro e1; rw [if_pos ⟨⟨h, by omega, e2⟩, rfl⟩]; exact Nat.one_ne_zero
        · intro e
          have e2 : ¬ p = q := fun he => by rw [if_pos he] at e; exact absurd e (by decide)
          rw [if_neg (fun hx => e2 hx.1.2.2), if_neg (fun hx => e2 hx.1.2.2)]; exact n32 h
      · unfold lq_5
        rw [mq_put_12, mq_put_15, mq_put_16, mq_put_17, mq_put_19]
        intro h
        refine ⟨hVs _ _ (h5 h).1, (h5 h).2, ?_⟩
        rw [if_neg (by intro e; have := hpq e; omega)]; decide
    · have hi' : i < a 23 0 := by omega
      obtain ⟨e0, e1, e2, e3, e4, e5⟩ := L1 i hi'
      refine ⟨?_, ?_, ?_, ?_, ?_, ?_⟩
      · unfold lq_b at e0 ⊢
        rw [old 12 i (by omega) hi', old 13 i (by omega) hi', old 14 i (by omega) hi', old 15 i (by omega) hi', old 16 i (by omega) hi', old 17 i (by omega) hi', old 18 i (by omega) hi', old 19 i (by omega) hi', h20]
        exact e0
      · unfold lq_1 at e1 ⊢
        rw [old 12 i (by omega) hi', old 15 i (by omega) hi', old 16 i (by omega) hi', old 17 i (by omega) hi', old 19 i (by omega) hi', h21]
        exact e1
      · unfold lq_2 at e2 ⊢
        rw [xo i hi', old 12 i (by omega) hi', old 14 i (by omega) hi', old 16 i (by omega) hi', old 17 i (by omega) hi', old 18 i (by omega) hi', old 19 i (by omega) hi', hl]
        intro h
        have hx : k = 2 → lq_x a i ≠ cq_x c r p := fun hk => no2 hk i hi' h
        rw [mq_put_25, mq_put_26, mq_put_30, if_neg (fun g => hx g.1 g.2), if_neg (fun g => hx g.1 g.2), if_neg (fun g => hx g.1.1 g.2)]
        exact e2 h
      · unfold lq_3 at e3 ⊢
        rw [old 12 i (by omega) hi', old 13 i (by omega) hi', old 14 i (by omega) hi', old 15 i (by omega) hi', old 16 i (by omega) hi', old 17 i (by omega) hi', old 19 i (by omega) hi', hl, mq_put_31]
        intro h
        obtain ⟨g1, g2, g3, g4, g5, g6⟩ := e3 h
        exact ⟨g1, g2, g3, by rw [G27 _ (by rw [g4]; exact g5)]; exact g4, g5, g6⟩
      · unfold lq_4 at e4 ⊢
        rw [xo i hi', old 12 i (by omega) hi', old 14 i (by omega) hi', old 16 i (by omega) hi', old 17 i (by omega) hi', old 19 i (by omega) hi', hl]
        intro h
        have hx : k = 4 → lq_x a i ≠ cq_x c r p := fun hk => no4 hk i hi' h
        rw [mq_put_28, mq_put_29, mq_put_32, mq_put_33, if_neg (fun g => hx g.1.1 g.2), if_neg (fun g => hx g.1.1 g.2), if_neg (fun g => hx g.1.1 g.2), if_neg (fun g => hx g.1.1 g.2)]
        exact e4 h
      · unfold lq_5 at e5 ⊢
        rw [old 12 i (by omega) hi', old 15 i (by omega) hi', old 16 i (by omega) hi', old 17 i (by omega) hi', old 19 i (by omega) hi']
        intro h
        exact ⟨hVs _ _ (e5 h).1, (e5 h).2⟩
  · intro c' r' q' h16 hq'
    rw [h20] at hq'
    obtain ⟨k1, k2, k3, k4⟩ := L2 c' r' q' h16 hq'
    unfold lq_k
    rw [hN, mq_put_30, mq_put_31, mq_put_32, mq_put_33]
    refine ⟨?_, ?_, ?_, ?_⟩
    · intro h
      by_cases hx : (k = 2 ∧ p = q) ∧ cq_x c' r' q' = cq_x c r p
      · obtain ⟨e1, e2, e3⟩ := (cq_x_inj h16 (by omega) (by omega) (by omega)).mp hx.2
        exact ⟨a 23 0, by omega, by rw [mq_put_12]; exact hx.1.1, by rw [mq_put_19, if_pos hx.1.2], by rw [mq_put_15]; exact e1.symm, by rw [mq_put_16]; exact e2.symm, by rw [mq_put_13]; exact e3.symm⟩
      · rw [if_neg hx] at h
        obtain ⟨i, hi, e⟩ := k1 h
        refine ⟨i, by omega, ?_⟩
        rw [old 12 i (by omega) hi, old 13 i (by omega) hi, old 15 i (by omega) hi, old 16 i (by omega) hi, old 19 i (by omega) hi]
        exact e
    · intro h
      obtain ⟨i, hi, e⟩ := k2 h
      refine ⟨i, by omega, ?_⟩
      rw [old 12 i (by omega) hi, old 14 i (by omega) hi, old 15 i (by omega) hi, old 16 i (by omega) hi, old 19 i (by omega) hi]
      exact e
    · intro h
      by_cases hx : (k = 4 ∧ w = 1 ∧ p = q) ∧ cq_x c' r' q' = cq_x c r p
      · obtain ⟨e1, e2, e3⟩ := (cq_x_inj h16 (by omega) (by omega) (by omega)).mp hx.2
        exact ⟨a 23 0, by omega, by rw [mq_put_12]; exact hx.1.1, by rw [mq_put_19, if_pos hx.1.2.2], by rw [mq_put_15]; exact e1.symm, by rw [mq_put_16]; exact e2.symm, by rw [mq_put_13]; exact e3.symm, by rw [mq_put_17]; exact hx.1.2.1⟩
      · rw [if_neg hx] at h
        obtain ⟨i, hi, e⟩ := k3 h
        refine ⟨i, by omega, ?_⟩
        rw [old 12 i (by omega) hi, old 13 i (by omega) hi, old 15 i (by omega) hi, old 16 i (by omega) hi, old 17 i (by omega) hi, old 19 i (by omega) hi]
        exact e
    · intro h
      by_cases hx : (k = 4 ∧ w ≠ 1 ∧ p = q) ∧ cq_x c' r' q' = cq_x c r p
      · obtain ⟨e1, e2, e3⟩ := (cq_x_inj h16 (by omega) (by omega) (by omega)).mp hx.2
        have hw1 := (h4 hx.1.1).2.2.1
        have hw2 := hx.1.2.1
        exact ⟨a 23 0, by omega, by rw [mq_put_12]; exact hx.1.1, by rw [mq_put_19, if_pos hx.1.2.2], by rw [mq_put_15]; exact e1.symm, by rw [mq_put_16]; exact e2.symm, by rw [mq_put_13]; exact e3.symm, by rw [mq_put_17]; omega⟩
      · rw [if_neg hx] at h
        obtain ⟨i, hi, e⟩ := k4 h
        refine ⟨i, by omega, ?_⟩
        rw [old 12 i (by omega) hi, old 13 i (by omega) hi, old 15 i (by omega) hi, old 16 i (by omega) hi, old 17 i (by omega) hi, old 19 i (by omega) hi]
        exact e
  · intro i j hi hj hne
    rw [hN] at hi hj
    have key : ∀ i, i < a 23 0 → (k = a 12 i → c = a 15 i → r = a 16 i → (k = 2 ∨ k = 4 → p ≠ a 13 i) ∧ (k = 3 → q ≠ a 14 i)) := by
      intro i hi e1 e2 e3
      refine ⟨?_, ?_⟩
      · intro h e4
        rcases h with h | h
        · exact no2 h i hi (by omega) (by unfold lq_x; rw [← e2, ← e3, ← e4])
        · exact no4 h i hi (by omega) (by unfold lq_x; rw [← e2, ← e3, ← e4])
      · intro h e4
        exact (h3 h).2.2.2.2.2 i hi (by omega) e2.symm e3.symm e4.symm
    by_cases hi0 : i = a 23 0
    · subst hi0
      have hj' : j < a 23 0 := by omega
      unfold lq_u
      rw [mq_put_12, mq_put_13, mq_put_14, mq_put_15, mq_put_16, old 12 j (by omega) hj', old 13 j (by omega) hj', old 14 j (by omega) hj', old 15 j (by omega) hj', old 16 j (by omega) hj']
      exact key j hj'
    · have hi' : i < a 23 0 := by omega
      by_cases hj0 : j = a 23 0
      · subst hj0
        unfold lq_u
        rw [mq_put_12, mq_put_13, mq_put_14, mq_put_15, mq_put_16, old 12 i (by omega) hi', old 13 i (by omega) hi', old 14 i (by omega) hi', old 15 i (by omega) hi', old 16 i (by omega) hi']
        intro e1 e2 e3
        have g := key i hi' e1.symm e2.symm e3.symm
        exact ⟨fun h e => g.1 (by omega) e.symm, fun h e => g.2 (by omega) e.symm⟩
      · have hj' : j < a 23 0 := by omega
        have g := L3 i j hi' hj' hne
        unfold lq_u at g ⊢
        rw [old 12 i (by omega) hi', old 13 i (by omega) hi', old 14 i (by omega) hi', old 15 i (by omega) hi', old 16 i (by omega) hi', old 12 j (by omega) hj', old 13 j (by omega) hj', old 14 j (by omega) hj', old 15 j (by omega) hj', old 16 j (by omega) hj']
        exact g
