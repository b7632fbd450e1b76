/-! The whole invariant through what comes from outside. -/
/-- a waiting letter is gone -/
theorem lq_mark2 {a : cq_S} (L : lq_L a) {i : Nat} (h0 : a 19 i = 0) : lq_L (cq_p a 19 i 2) := by
  obtain ⟨L1, L2, L3⟩ := L
  have f : ∀ k, k ≠ 19 → cq_p a 19 i 2 k = a k := fun k h => cq_p_f _ h
  have hl : ∀ r, mq_ldr (cq_p a 19 i 2) r = mq_ldr a r := fun r => by unfold mq_ldr; rw [f 20 (by decide)]
  have g : ∀ j, cq_p a 19 i 2 19 j = a 19 j ∨ (a 19 j = 0 ∧ cq_p a 19 i 2 19 j = 2) := by
    intro j
    by_cases hj : j = i
    · subst hj; exact Or.inr ⟨h0, cq_p_s _ _ _ _⟩
    · exact Or.inl (cq_p_i _ hj)
  refine ⟨?_, ?_, ?_⟩
  · rw [f 23 (by decide)]
    intro j hj
    obtain ⟨e0, e1, e2, e3, e4, e5⟩ := L1 j hj
    have hg := g j
    refine ⟨?_, ?_, ?_, ?_, ?_, ?_⟩
    · unfold lq_b at e0 ⊢
      rw [f 12 (by decide), f 13 (by decide), f 14 (by decide), f 15 (by decide), f 16 (by decide), f 17 (by decide), f 18 (by decide), f 20 (by decide)]
      obtain ⟨a1, a2, a3, a4, a5, a6, a7, a8, a9, a10, a11⟩ := e0
      exact ⟨a1, a2, a3, a4, by omega, a6, a7, a8, a9, fun h => a10 (by omega), a11⟩
    · unfold lq_1 at e1 ⊢
      rw [f 12 (by decide), f 15 (by decide), f 16 (by decide), f 17 (by decide), f 21 (by decide)]
      intro h
      obtain ⟨g1, g2, g3, g4⟩ := e1 h
      exact ⟨g1, g2, g3, by omega⟩
    · unfold lq_2 lq_x at e2 ⊢
      rw [f 12 (by decide), f 13 (by decide), f 14 (by decide), f 15 (by decide), f 16 (by decide), f 17 (by decide), f 18 (by decide), f 25 (by decide), f 26 (by decide), f 30 (by decide), hl]
      intro h
      obtain ⟨g1, g2, g3, g4, g5, g6, g7⟩ := e2 h
      exact ⟨g1, g2, g3, g4, g5, fun h => g6 (by omega), fun h => g7 (by omega)⟩
    · unfold lq_3 at e3 ⊢
      rw [f 12 (by decide), f 13 (by decide), f 14 (by decide), f 15 (by decide), f 16 (by decide), f 17 (by decide), f 27 (by decide), f 31 (by decide), hl]
      intro h
      obtain ⟨g1, g2, g3, g4, g5, g6, g7⟩ := e3 h
      exact ⟨g1, g2, g3, g4, g5, fun h => g6 (by omega), fun h => g7 (by omega)⟩
    · unfold lq_4 lq_x at e4 ⊢
      rw [f 12 (by decide), f 13 (by decide), f 14 (by decide), f 15 (by decide), f 16 (by decide), f 17 (by decide), f 28 (by decide), f 29 (by decide), f 32 (by decide), f 33 (by decide), hl]
      intro h
      obtain ⟨g1, g2, g3, g4, g5, g6, g7⟩ := e4 h
      exact ⟨g1, g2, g3, g4, g5, fun h => g6 (by omega), fun h => g7 (by omega)⟩
    · unfold lq_5 at e5 ⊢
      rw [f 12 (by decide), f 15 (by decide), f 16 (by decide), f 17 (by decide)]
      intro h
      exact ⟨jq_Vs_of (f 20 (by decide)) (f 27 (by decide)) (f 28 (by decide)) (e5 h).1, (e5 h).2.1, by have := (e5 h).2.2; omega⟩
  · intro c r q hr hq
    rw [f 20 (by decide)] at hq
    have h := L2 c r q hr hq
    have ex : ∀ j, a 19 j = 1 → cq_p a 19 i 2 19 j = 1 := fun j hj => by have := g j; omega
    unfold lq_k at h ⊢
    rw [f 30 (by decide), f 31 (by decide), f 32 (by decide), f 33 (by decide), f 23 (by decide), f 12 (by decide), f 13 (by decide), f 14 (by decide), f 15 (by decide), f 16 (by decide), f 17 (by decide)]
    obtain ⟨k1, k2, k3, k4⟩ := h
    refine ⟨fun h => ?_, fun h => ?_, fun h => ?_, fun h => ?_⟩
    · obtain ⟨j, hj, e1, e2, e3⟩ := k1 h
      exact ⟨j, hj, e1, ex j e2, e3⟩
    · obtain ⟨j, hj, e1, e2, e3⟩ := k2 h
      exact ⟨j, hj, e1, ex j e2, e3⟩
    · obtain ⟨j, hj, e1, e2, e3⟩ := k3 h
      exact ⟨j, hj, e1, ex j e2, e3⟩
    · obtain ⟨j, hj, e1, e2, e3⟩ := k4 h
      exact ⟨j, hj, e1, ex j e2, e3⟩
  · rw [f 23 (by decide)]
    intro j j' hj hj' hne
    have h := L3 j j' hj hj' hne
    unfold lq_u at h ⊢
    rw [f 12 (by decide), f 13 (by decide), f 14 (by decide), f 15 (by decide), f 16 (by decide)]
    exact h
/-- a waiting letter of a council is kept -/
theorem lq_mark1 {a : cq_S} (L : lq_L a) (hn5 : a 20 0 ≤ 5) {i : Nat} (hi : i < a 23 0) (h0 : a 19 i = 0) (hk : a 12 i = 2 ∨ a 12 i = 3 ∨ a 12 i = 4) : lq_L (mq_kp (cq_p a 19 i 1) (a 12 i) (a 15 i) (a 16 i) (a 13 i) (a 14 i) (a 17 i)) := by
  obtain ⟨L1, L2, L3⟩ := L
  generalize hb : mq_kp (cq_p a 19 i 1) (a 12 i) (a 15 i) (a 16 i) (a 13 i) (a 14 i) (a 17 i) = b
  obtain ⟨bi, -, b2, b3, b4, -⟩ := L1 i hi
  have f : ∀ k, k < 30 → k ≠ 19 → b k = a k := by
    intro k h1 h2
    rw [← hb]
    unfold mq_kp
    repeat' split
    all_goals first | rw [cq_p_f _ (by omega), cq_p_f _ h2] | rw [cq_p_f _ h2]
  have g19 : ∀ j, b 19 j = if j = i then 1 else a 19 j := by
    intro j
    rw [← hb]
    have e : ∀ k' x v, 30 ≤ k' → cq_p (cq_p a 19 i 1) k' x v 19 j = if j = i then 1 else a 19 j := by
      intro k' x v h
      rw [cq_p_k _ (by omega)]
      simp [cq_p]
    unfold mq_kp
    repeat' split
    all_goals first | exact e _ _ _ (by omega) | simp_all [cq_p]
  have g30 : ∀ x, b 30 x = if a 12 i = 2 ∧ x = lq_x a i then 1 else a 30 x := by
    intro x
    rw [← hb]
    unfold mq_kp lq_x
    repeat' split
    all_goals simp_all [cq_p]
  have g31 : ∀ x, b 31 x = if a 12 i = 3 ∧ x = cq_x (a 15 i) (a 16 i) (a 14 i) then 1 else a 31 x := by
    intro x
    rw [← hb]
    unfold mq_kp
    repeat' split
    all_goals simp_all [cq_p]
  have g32 : ∀ x, b 32 x = if (a 12 i = 4 ∧ a 17 i = 1) ∧ x = lq_x a i then 1 else a 32 x := by
    intro x
    rw [← hb]
    unfold mq_kp lq_x
    repeat' split
    all_goals simp_all [cq_p]
  have g33 : ∀ x, b 33 x = if (a 12 i = 4 ∧ a 17 i ≠ 1) ∧ x = lq_x a i then 1 else a 33 x := by
    intro x
    rw [← hb]
    unfold mq_kp lq_x
    repeat' split
    all_goals simp_all [cq_p]
  clear hb
  have hl : ∀ r, mq_ldr b r = mq_ldr a r := fun r => by unfold mq_ldr; rw [f 20 (by omega) (by decide)]
  have hx : ∀ j, lq_x b j = lq_x a j := fun j => by unfold lq_x; rw [f 13 (by omega) (by decide), f 15 (by omega) (by decide), f 16 (by omega) (by decide)]
  -- no other letter stands at this place
  have one : ∀ j, j < a 23 0 → j ≠ i → a 12 j = a 12 i → (a 12 i = 2 ∨ a 12 i = 4 → lq_x a j ≠ lq_x a i) ∧ (a 12 i = 3 → cq_x (a 15 j) (a 16 j) (a 14 j) ≠ cq_x (a 15 i) (a 16 i) (a 14 i)) := by
    intro j hj hne he
    have bj := (L1 j hj).1
    have b16 : a 16 j < 16 ∧ a 16 i < 16 ∧ a 13 j < 8 ∧ a 13 i < 8 ∧ a 14 j < 8 ∧ a 14 i < 8 := by
      unfold lq_b at bi bj
      omega
    constructor
    · intro h e
      unfold lq_x at e
      obtain ⟨e1, e2, e3⟩ := (cq_x_inj b16.1 b16.2.1 b16.2.2.1 b16.2.2.2.1).mp e
      exact (L3 j i hj hi hne he e1 e2).1 (by omega) e3
    · intro h e
      obtain ⟨e1, e2, e3⟩ := (cq_x_inj b16.1 b16.2.1 b16.2.2.2.2.1 b16.2.2.2.2.2).mp e
      exact (L3 j i hj hi hne he e1 e2).2 (by omega) e3
  refine ⟨?_, ?_, ?_⟩
  · rw [f 23 (by omega) (by decide)]
    intro j hj
    obtain ⟨e0, e1, e2, e3, e4, e5⟩ := L1 j hj
    have hgj := g19 j
    refine ⟨?_, ?_, ?_, ?_, ?_, ?_⟩
    · unfold lq_b at e0 ⊢
      rw [f 12 (by omega) (by decide), f 13 (by omega) (by decide), f 14 (by omega) (by decide), f 15 (by omega) (by decide), f 16 (by omega) (by decide), f 17 (by omega) (by decide), f 18 (by omega) (by decide), f 20 (by omega) (by decide)]
      obtain ⟨a1, a2, a3, a4, a5, a6, a7, a8, a9, a10, a11⟩ := e0
      refine ⟨a1, a2, a3, a4, ?_, a6, a7, a8, a9, ?_, a11⟩
      · rw [hgj]; split <;> omega
      · rw [hgj]
        intro h
        by_cases hji : j = i
        · rw [if_pos hji] at h; exact absurd h Nat.one_ne_zero
        · rw [if_neg hji] at h; exact a10 h
    · unfold lq_1 at e1 ⊢
      rw [f 12 (by omega) (by decide), f 15 (by omega) (by decide), f 16 (by omega) (by decide), f 17 (by omega) (by decide), f 21 (by omega) (by decide), hgj]
      intro h
      have hji : j ≠ i := fun e => by rw [e] at h; omega
      rw [if_neg hji]
      exact e1 h
    · unfold lq_2 at e2 ⊢
      rw [hx, f 12 (by omega) (by decide), f 14 (by omega) (by decide), f 16 (by omega) (by decide), f 17 (by omega) (by decide), f 18 (by omega) (by decide), f 25 (by omega) (by decide), f 26 (by omega) (by decide), hl, hgj, g30]
      intro h
      obtain ⟨k1, k2, k3, k4, k5, k6, k7⟩ := e2 h
      refine ⟨k1, k2, k3, k4, k5, ?_, ?_⟩
      · intro h1
        by_cases hji : j = i
        · subst hji; rw [if_pos ⟨h, rfl⟩]; exact Nat.one_ne_zero
        · rw [if_neg hji] at h1
          split
          · exact Nat.one_ne_zero
          · exact k6 h1
      · intro h1
        by_cases hji : j = i
        · rw [if_pos hji] at h1; exact absurd h1 Nat.one_ne_zero
        · rw [if_neg hji] at h1
          rw [if_neg (fun hc => (one j hj hji (by omega)).1 (Or.inl hc.1) hc.2)]
          exact k7 h1
    · unfold lq_3 at e3 ⊢
      rw [f 12 (by omega) (by decide), f 13 (by omega) (by decide), f 14 (by omega) (by decide), f 15 (by omega) (by decide), f 16 (by omega) (by decide), f 17 (by omega) (by decide), f 27 (by omega) (by decide), hl, hgj, g31]
      intro h
      obtain ⟨k1, k2, k3, k4, k5, k6, k7⟩ := e3 h
      refine ⟨k1, k2, k3, k4, k5, ?_, ?_⟩
      · intro h1
        by_cases hji : j = i
        · subst hji; rw [if_pos ⟨h, rfl⟩]; exact Nat.one_ne_zero
        · rw [if_neg hji] at h1
          split
          · exact Nat.one_ne_zero
          · exact k6 h1
      · intro h1
        by_cases hji : j = i
        · rw [if_pos hji] at h1; exact absurd h1 Nat.one_ne_zero
        · rw [if_neg hji] at h1
          rw [if_neg (fun hc => (one j hj hji (by omega)).2 hc.1 hc.2)]
          exact k7 h1
    · unfold lq_4 at e4 ⊢
      rw [hx, f 12 (by omega) (by decide), f 14 (by omega) (by decide), f 16 (by omega) (by decide), f 17 (by omega) (by decide), f 28 (by omega) (by decide), f 29 (by omega) (by decide), hl, hgj, g32, g33]
      intro h
      obtain ⟨k1, k2, k3, k4, k5, k6, k7⟩ := e4 h
      refine ⟨k1, k2, k3, k4, k5, ?_, ?_⟩
      · intro h1
        by_cases hji : j = i
        · subst hji
          exact ⟨fun hw => by rw [if_pos ⟨⟨h, hw⟩, rfl⟩]; exact Nat.one_ne_zero, fun hw => by rw [if_pos ⟨⟨h, by omega⟩, rfl⟩]; exact Nat.one_ne_zero⟩
        · rw [if_neg hji] at h1
          refine ⟨fun hw => ?_, fun hw => ?_⟩
          · split
            · exact Nat.one_ne_zero
            · exact (k6 h1).1 hw
          · split
            · exact Nat.one_ne_zero
            · exact (k6 h1).2 hw
      · intro h1
        by_cases hji : j = i
        · rw [if_pos hji] at h1; exact absurd h1 Nat.one_ne_zero
        · rw [if_neg hji] at h1
          rw [if_neg (fun hc => (one j hj hji (by omega)).1 (Or.inr hc.1.1) hc.2), if_neg (fun hc => (one j hj hji (by omega)).1 (Or.inr hc.1.1) hc.2)]
          exact k7 h1
    · unfold lq_5 at e5 ⊢
      rw [f 12 (by omega) (by decide), f 15 (by omega) (by decide), f 16 (by omega) (by decide), f 17 (by omega) (by decide), hgj]
      intro h
      have hji : j ≠ i := fun e => by rw [e] at h; omega
      rw [if_neg hji]
      exact ⟨jq_Vs_of (f 20 (by omega) (by decide)) (f 27 (by omega) (by decide)) (f 28 (by omega) (by decide)) (e5 h).1, (e5 h).2⟩
  · intro c r q hr hq
    rw [f 20 (by omega) (by decide)] at hq
    obtain ⟨k1, k2, k3, k4⟩ := L2 c r q hr hq
    have ex : ∀ j, a 19 j = 1 → b 19 j = 1 := fun j hj => by rw [g19]; split; rfl; exact hj
    have exi : b 19 i = 1 := by rw [g19, if_pos rfl]
    have b16 : a 16 i < 16 ∧ a 13 i < 8 ∧ a 14 i < 8 := by unfold lq_b at bi; omega
    unfold lq_k
    rw [g30, g31, g32, g33, f 23 (by omega) (by decide), f 12 (by omega) (by decide), f 13 (by omega) (by decide), f 14 (by omega) (by decide), f 15 (by omega) (by decide), f 16 (by omega) (by decide), f 17 (by omega) (by decide)]
    refine ⟨fun h => ?_, fun h => ?_, fun h => ?_, fun h => ?_⟩
    · by_cases hc : a 12 i = 2 ∧ cq_x c r q = lq_x a i
      · unfold lq_x at hc
        obtain ⟨e1, e2, e3⟩ := (cq_x_inj hr b16.1 (by omega) b16.2.1).mp hc.2
        exact ⟨i, hi, hc.1, exi, e1.symm, e2.symm, e3.symm⟩
      · rw [if_neg hc] at h
        obtain ⟨j, hj, e1, e2, e3⟩ := k1 h
        exact ⟨j, hj, e1, ex j e2, e3⟩
    · by_cases hc : a 12 i = 3 ∧ cq_x c r q = cq_x (a 15 i) (a 16 i) (a 14 i)
      · obtain ⟨e1, e2, e3⟩ := (cq_x_inj hr b16.1 (by omega) b16.2.2).mp hc.2
        exact ⟨i, hi, hc.1, exi, e1.symm, e2.symm, e3.symm⟩
      · rw [if_neg hc] at h
        obtain ⟨j, hj, e1, e2, e3⟩ := k2 h
        exact ⟨j, hj, e1, ex j e2, e3⟩
    · by_cases hc : (a 12 i = 4 ∧ a 17 i = 1) ∧ cq_x c r q = lq_x a i
      · unfold lq_x at hc
        obtain ⟨e1, e2, e3⟩ := (cq_x_inj hr b16.1 (by omega) b16.2.1).mp hc.2
        exact ⟨i, hi, hc.1.1, exi, e1.symm, e2.symm, e3.symm, hc.1.2⟩
      · rw [if_neg hc] at h
        obtain ⟨j, hj, e1, e2, e3⟩ := k3 h
        exact ⟨j, hj, e1, ex j e2, e3⟩
    · by_cases hc : (a 12 i = 4 ∧ a 17 i ≠ 1) ∧ cq_x c r q = lq_x a i
      · unfold lq_x at hc
        obtain ⟨e1, e2, e3⟩ := (cq_x_inj hr b16.1 (by omega) b16.2.1).mp hc.2
        have hw := (b4 hc.1.1).2.2.1
        have hw2 := hc.1.2
        exact ⟨i, hi, hc.1.1, exi, e1.symm, e2.symm, e3.symm, by omega⟩
      · rw [if_neg hc] at h
        obtain ⟨j, hj, e1, e2, e3⟩ := k4 h
        exact ⟨j, hj, e1, ex j e2, e3⟩
  · rw [f 23 (by omega) (by decide)]
    intro j j' hj hj' hne
    have h := L3 j j' hj hj' hne
    unfold lq_u at h ⊢
    rw [f 12 (by omega) (by decide), f 13 (by omega) (by decide), f 14 (by omega) (by decide), f 15 (by omega) (by decide), f 16 (by omega) (by decide)]
    exact h
