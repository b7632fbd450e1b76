/-! The letters, and our marks of them. -/
def lq_x (a : cq_S) (i : Nat) : Nat := cq_x (a 15 i) (a 16 i) (a 13 i)
def lq_b (a : cq_S) (i : Nat) : Prop := 1 ≤ a 12 i ∧ a 12 i ≤ 5 ∧ a 13 i < a 20 0 ∧ a 14 i < a 20 0 ∧ a 19 i ≤ 2 ∧ a 15 i < 8 ∧ a 16 i ≤ 10 ∧ a 17 i < 256 ∧ a 18 i ≤ 10 ∧ (a 19 i = 0 → a 13 i ≠ a 14 i) ∧ (a 12 i ≠ 2 → a 18 i = 0)
def lq_1 (a : cq_S) (i : Nat) : Prop := a 12 i = 1 → a 17 i < a 21 0 ∧ a 15 i = 0 ∧ a 16 i = 0 ∧ a 19 i ≠ 1
def lq_5 (a : cq_S) (i : Nat) : Prop := a 12 i = 5 → jq_Vs a (a 15 i) (a 17 i) ∧ a 16 i = 0 ∧ a 19 i ≠ 1
def lq_2 (a : cq_S) (i : Nat) : Prop := a 12 i = 2 → 1 ≤ a 16 i ∧ a 14 i = mq_ldr a (a 16 i) ∧ a 25 (lq_x a i) = a 17 i ∧ a 17 i ≠ 0 ∧ a 26 (lq_x a i) = a 18 i ∧ (a 19 i = 1 → a 30 (lq_x a i) ≠ 0) ∧ (a 19 i = 0 → a 30 (lq_x a i) = 0)
def lq_3 (a : cq_S) (i : Nat) : Prop := a 12 i = 3 → 1 ≤ a 16 i ∧ a 13 i = mq_ldr a (a 16 i) ∧ a 14 i ≠ a 13 i ∧ a 27 (cq_x (a 15 i) (a 16 i) 0) = a 17 i ∧ a 17 i ≠ 0 ∧ (a 19 i = 1 → a 31 (cq_x (a 15 i) (a 16 i) (a 14 i)) ≠ 0) ∧ (a 19 i = 0 → a 31 (cq_x (a 15 i) (a 16 i) (a 14 i)) = 0)
def lq_4 (a : cq_S) (i : Nat) : Prop := a 12 i = 4 → 1 ≤ a 16 i ∧ a 14 i = mq_ldr a (a 16 i) ∧ a 17 i ≤ 1 ∧ (a 17 i = 1 → a 28 (lq_x a i) ≠ 0) ∧ (a 17 i = 0 → a 29 (lq_x a i) ≠ 0) ∧ (a 19 i = 1 → (a 17 i = 1 → a 32 (lq_x a i) ≠ 0) ∧ (a 17 i = 0 → a 33 (lq_x a i) ≠ 0)) ∧ (a 19 i = 0 → a 32 (lq_x a i) = 0 ∧ a 33 (lq_x a i) = 0)
def lq_e (a : cq_S) (i : Nat) : Prop := lq_b a i ∧ lq_1 a i ∧ lq_2 a i ∧ lq_3 a i ∧ lq_4 a i ∧ lq_5 a i
/-- our marks of what is kept have their letters -/
def lq_k (a : cq_S) (c r q : Nat) : Prop :=
  (a 30 (cq_x c r q) ≠ 0 → ∃ i, i < a 23 0 ∧ a 12 i = 2 ∧ a 19 i = 1 ∧ a 15 i = c ∧ a 16 i = r ∧ a 13 i = q) ∧
  (a 31 (cq_x c r q) ≠ 0 → ∃ i, i < a 23 0 ∧ a 12 i = 3 ∧ a 19 i = 1 ∧ a 15 i = c ∧ a 16 i = r ∧ a 14 i = q) ∧
  (a 32 (cq_x c r q) ≠ 0 → ∃ i, i < a 23 0 ∧ a 12 i = 4 ∧ a 19 i = 1 ∧ a 15 i = c ∧ a 16 i = r ∧ a 13 i = q ∧ a 17 i = 1) ∧
  (a 33 (cq_x c r q) ≠ 0 → ∃ i, i < a 23 0 ∧ a 12 i = 4 ∧ a 19 i = 1 ∧ a 15 i = c ∧ a 16 i = r ∧ a 13 i = q ∧ a 17 i = 0)
/-- no two letters of a kind, round and sender (of an offer: receiver) -/
def lq_u (a : cq_S) (i j : Nat) : Prop := a 12 i = a 12 j → a 15 i = a 15 j → a 16 i = a 16 j → (a 12 i = 2 ∨ a 12 i = 4 → a 13 i ≠ a 13 j) ∧ (a 12 i = 3 → a 14 i ≠ a 14 j)
def lq_L (a : cq_S) : Prop := (∀ i, i < a 23 0 → lq_e a i) ∧ (∀ c r q, r < 16 → q < a 20 0 → lq_k a c r q) ∧ (∀ i j, i < a 23 0 → j < a 23 0 → i ≠ j → lq_u a i j)
/-- nothing that the letters see has changed, but what only grows -/
theorem lq_same {a b : cq_S} (L : lq_L a) (hlo : ∀ k, (12 ≤ k ∧ k < 20) ∨ k = 20 ∨ k = 23 ∨ (25 ≤ k ∧ k < 34) → b k = a k) (h21 : a 21 0 ≤ b 21 0) : lq_L b := by
  obtain ⟨h1, h2, h3⟩ := L
  have hl : ∀ r, mq_ldr b r = mq_ldr a r := fun r => by unfold mq_ldr; rw [hlo 20 (by omega)]
  have hVs : ∀ c w, jq_Vs a c w → jq_Vs b c w := by
    intro c w h
    obtain ⟨g0, r, g1, g2, g3, g4⟩ := h
    exact ⟨g0, r, g1, g2, by rw [hlo 27 (by omega)]; exact g3, by unfold jq_Lk at g4 ⊢; rw [hlo 20 (by omega), hlo 28 (by omega)]; exact g4⟩
  refine ⟨?_, ?_, ?_⟩
  · rw [hlo 23 (by omega)]
    intro i hi
    obtain ⟨e0, e1, e2, e3, e4, e5⟩ := h1 i hi
    refine ⟨?_, ?_, ?_, ?_, ?_, ?_⟩
    · unfold lq_b at e0 ⊢
      rw [hlo 12 (by omega), hlo 13 (by omega), hlo 14 (by omega), hlo 15 (by omega), hlo 16 (by omega), hlo 17 (by omega), hlo 18 (by omega), hlo 19 (by omega), hlo 20 (by omega)]
      exact e0
    · unfold lq_1 at e1 ⊢
      rw [hlo 12 (by omega), hlo 15 (by omega), hlo 16 (by omega), hlo 17 (by omega), hlo 19 (by omega)]
      intro h
      obtain ⟨g1, g2⟩ := e1 h
      exact ⟨by omega, g2⟩
    · unfold lq_2 lq_x at e2 ⊢
      rw [hlo 12 (by omega), hlo 13 (by omega), hlo 14 (by omega), hlo 15 (by omega), hlo 16 (by omega), hlo 17 (by omega), hlo 18 (by omega), hlo 19 (by omega), hlo 25 (by omega), hlo 26 (by omega), hlo 30 (by omega), hl]
      exact e2
    · unfold lq_3 at e3 ⊢
      rw [hlo 12 (by omega), hlo 13 (by omega), hlo 14 (by omega), hlo 15 (by omega), hlo 16 (by omega), hlo 17 (by omega), hlo 19 (by omega), hlo 27 (by omega), hlo 31 (by omega), hl]
      exact e3
    · unfold lq_4 lq_x at e4 ⊢
      rw [hlo 12 (by omega), hlo 13 (by omega), hlo 14 (by omega), hlo 15 (by omega), hlo 16 (by omega), hlo 17 (by omega), hlo 19 (by omega), hlo 28 (by omega), hlo 29 (by omega), hlo 32 (by omega), hlo 33 (by omega), hl]
      exact e4
    · unfold lq_5 at e5 ⊢
      rw [hlo 12 (by omega), hlo 15 (by omega), hlo 16 (by omega), hlo 17 (by omega), hlo 19 (by omega)]
      intro h
      exact ⟨hVs _ _ (e5 h).1, (e5 h).2⟩
  · intro c r q hr hq
    rw [hlo 20 (by omega)] at hq
    have h := h2 c r q hr hq
    unfold lq_k at h ⊢
    rw [hlo 30 (by omega), hlo 31 (by omega), hlo 32 (by omega), hlo 33 (by omega), hlo 23 (by omega), hlo 12 (by omega), hlo 13 (by omega), hlo 14 (by omega), hlo 15 (by omega), hlo 16 (by omega), hlo 17 (by omega), hlo 19 (by omega)]
    exact h
  · rw [hlo 23 (by omega)]
    intro i j hi hj hne
    have h := h3 i j hi hj hne
    unfold lq_u at h ⊢
    rw [hlo 12 (by omega), hlo 13 (by omega), hlo 14 (by omega), hlo 15 (by omega), hlo 16 (by omega)]
    exact h
