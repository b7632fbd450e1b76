/-! The invariant of the agreement, over the reference's state with its marks of our own. -/
theorem cq_x_inj {c r p c' r' p' : Nat} (hr : r < 16) (hr' : r' < 16) (hp : p < 8) (hp' : p' < 8) : cq_x c r p = cq_x c' r' p' ↔ c = c' ∧ r = r' ∧ p = p' := by
  unfold cq_x
  omega
def jq_pop (x : Nat) : Nat := x % 2 + x / 2 % 2 + x / 4 % 2 + x / 8 % 2 + x / 16 % 2 + x / 32 % 2 + x / 64 % 2 + x / 128 % 2
/-- a batch of the council c: not empty, and apart from the verdicts of the councils before -/
def jq_V (a : cq_S) (c w : Nat) : Prop := w ≠ 0 ∧ w < 2 ^ a 21 0 ∧ ∀ k, k < c → ∃ q, q < a 20 0 ∧ a 6 (8 * q + k) ≠ 0 ∧ w &&& a 6 (8 * q + k) = 0
/-- a majority has adopted the offer of the round r -/
def jq_Lk (a : cq_S) (c r : Nat) : Prop := a 20 0 / 2 + 1 ≤ jq_c (fun p => a 28 (cq_x c r p)) (a 20 0)
/-- where a verdict comes from -/
def jq_Vs (a : cq_S) (c w : Nat) : Prop := w ≠ 0 ∧ ∃ r, 1 ≤ r ∧ r ≤ 10 ∧ a 27 (cq_x c r 0) = w ∧ jq_Lk a c r
/-- what only grows -/
def jq_G (a b : cq_S) : Prop := b 20 0 = a 20 0 ∧ a 21 0 ≤ b 21 0 ∧ (∀ x, a 27 x ≠ 0 → b 27 x = a 27 x) ∧ (∀ x, a 28 x ≠ 0 → b 28 x ≠ 0) ∧ (∀ i, a 6 i ≠ 0 → b 6 i = a 6 i)
theorem jq_V.mono {a b : cq_S} (G : jq_G a b) {c w : Nat} (h : jq_V a c w) : jq_V b c w := by
  refine ⟨h.1, Nat.lt_of_lt_of_le h.2.1 (Nat.pow_le_pow_right (by decide) G.2.1), fun k hk => ?_⟩
  obtain ⟨q, hq, h1, h2⟩ := h.2.2 k hk
  have h3 := G.2.2.2.2 _ h1
  exact ⟨q, by rw [G.1]; exact hq, by rw [h3]; exact h1, by rw [h3]; exact h2⟩
theorem jq_Lk.mono {a b : cq_S} (G : jq_G a b) {c r : Nat} (h : jq_Lk a c r) : jq_Lk b c r := by
  unfold jq_Lk at h ⊢
  rw [G.1]
  exact Nat.le_trans h (jq_c_mono _ (fun p _ h1 => G.2.2.2.1 _ h1))
theorem jq_Vs.mono {a b : cq_S} (G : jq_G a b) {c w : Nat} (h : jq_Vs a c w) : jq_Vs b c w := by
  obtain ⟨h0, r, h1, h2, h3, h4⟩ := h
  exact ⟨h0, r, h1, h2, by rw [G.2.2.1 _ (by rw [h3]; exact h0)]; exact h3, h4.mono G⟩
/-- the place of a process in its council -/
def jq_pos (a : cq_S) (p : Nat) : Prop :=
  a 7 p = 0 ∨ (a 4 p < 8 ∧ 1 ≤ a 8 p ∧ jq_V a (a 4 p) (a 9 p) ∧ (a 10 p ≠ 0 → a 27 (cq_x (a 4 p) (a 10 p) 0) = a 9 p) ∧ (∀ r, r < 16 → a 28 (cq_x (a 4 p) r p) ≠ 0 → r ≤ a 10 p) ∧ a 10 p ≤ 10 ∧
    ((a 7 p = 4 ∧ a 8 p = 11) ∨
     (a 7 p = 3 ∧ a 8 p ≤ 10 ∧ mq_ldr a (a 8 p) = p ∧ a 27 (cq_x (a 4 p) (a 8 p) 0) = a 9 p ∧ a 10 p = a 8 p) ∨
     (a 8 p ≤ 10 ∧ a 10 p < a 8 p ∧ a 25 (cq_x (a 4 p) (a 8 p) p) = a 9 p ∧ a 26 (cq_x (a 4 p) (a 8 p) p) = a 10 p ∧ ((a 7 p = 1 ∧ mq_ldr a (a 8 p) = p) ∨ (a 7 p = 2 ∧ mq_ldr a (a 8 p) ≠ p)))))
/-- what a process has -/
def jq_own (a : cq_S) (p : Nat) : Prop :=
  a 0 p < 2 ^ a 21 0 ∧ a 4 p ≤ 8 ∧ (∀ k, k < a 4 p → a 6 (8 * p + k) ≠ 0) ∧ (∀ k, k < 8 → a 6 (8 * p + k) ≠ 0 → jq_Vs a k (a 6 (8 * p + k))) ∧
  (∀ b, (a 1 p).testBit b = true ↔ ∃ k, k < a 4 p ∧ (a 6 (8 * p + k)).testBit b = true) ∧ a 2 p = jq_pop (a 1 p) ∧ a 4 p ≤ a 2 p ∧ a 1 p < 256
/-- what was sent -/
def jq_sent (a : cq_S) (c r p : Nat) : Prop :=
  (a 25 (cq_x c r p) ≠ 0 → 1 ≤ r ∧ r ≤ 10 ∧ c < 8 ∧ (c < a 4 p ∨ (c = a 4 p ∧ a 7 p ≠ 0 ∧ r ≤ a 8 p)) ∧ jq_V a c (a 25 (cq_x c r p)) ∧ a 26 (cq_x c r p) < r ∧ (a 26 (cq_x c r p) ≠ 0 → a 27 (cq_x c (a 26 (cq_x c r p)) 0) = a 25 (cq_x c r p)) ∧ ∀ r0, r0 < r → a 28 (cq_x c r0 p) ≠ 0 → r0 ≤ a 26 (cq_x c r p)) ∧
  (a 28 (cq_x c r p) ≠ 0 ∨ a 29 (cq_x c r p) ≠ 0 → 1 ≤ r ∧ r ≤ 10 ∧ (c < a 4 p ∨ (c = a 4 p ∧ a 7 p ≠ 0 ∧ (r < a 8 p ∨ (r = a 8 p ∧ a 7 p = 3))))) ∧ (a 28 (cq_x c r p) ≠ 0 → a 27 (cq_x c r 0) ≠ 0)
/-- where an offer comes from -/
def jq_off (a : cq_S) (c r : Nat) : Prop :=
  a 27 (cq_x c r 0) ≠ 0 → 1 ≤ r ∧ r ≤ 10 ∧ a 28 (cq_x c r (mq_ldr a r)) ≠ 0 ∧ ∃ p0, p0 < a 20 0 ∧ a 25 (cq_x c r p0) = a 27 (cq_x c r 0) ∧ a 20 0 / 2 + 1 ≤ jq_c (fun p => if a 25 (cq_x c r p) ≠ 0 ∧ a 26 (cq_x c r p) ≤ a 26 (cq_x c r p0) then 1 else 0) (a 20 0)
def jq_J (a : cq_S) : Prop :=
  3 ≤ a 20 0 ∧ a 20 0 ≤ 5 ∧ a 21 0 ≤ 8 ∧ (∀ p, p < a 20 0 → jq_pos a p) ∧ (∀ p, p < a 20 0 → jq_own a p) ∧ (∀ c r p, r < 16 → p < a 20 0 → jq_sent a c r p) ∧ (∀ c r, r < 16 → jq_off a c r)
/-- the verdicts of one council are one -/
theorem jq_agree {a : cq_S} (J : jq_J a) {c w w' : Nat} (h : jq_Vs a c w) (h' : jq_Vs a c w') : w = w' := by
  obtain ⟨hn3, hn5, hm, hpos, hown, hsent, hoff⟩ := J
  obtain ⟨h0, r, hr1, hr2, ho, hl⟩ := h
  obtain ⟨h0', r', hr1', hr2', ho', hl'⟩ := h'
  have key : ∀ r r', 1 ≤ r → r ≤ 10 → r' ≤ 10 → r < r' → jq_Lk a c r → a 27 (cq_x c r' 0) ≠ 0 → a 27 (cq_x c r' 0) = a 27 (cq_x c r 0) := by
    intro r r' h1 h2 h2' hlt hl ho
    have := jq_lock (n := a 20 0) (E := fun r p => if r < 16 then a 25 (cq_x c r p) else 0) (S := fun r p => a 26 (cq_x c r p)) (Y := fun r p => a 28 (cq_x c r p)) (O := fun r => if r < 16 then a 27 (cq_x c r 0) else 0)
      (fun r p hp hE => by
        by_cases h16 : r < 16
        · simp only [h16, if_true] at hE ⊢
          have h3 := ((hsent c r p h16 hp).1 hE).2.2.2.2.2
          refine ⟨h3.1, fun hs => ?_⟩
          rw [if_pos (by omega)]
          exact h3.2.1 hs
        · simp [h16] at hE)
      (fun r p r0 hp hE hlt hY => by
        by_cases h16 : r < 16
        · simp only [h16, if_true] at hE
          exact ((hsent c r p h16 hp).1 hE).2.2.2.2.2.2.2 r0 hlt hY
        · simp [h16] at hE)
      (fun r hO => by
        by_cases h16 : r < 16
        · simp only [h16, if_true] at hO ⊢
          exact (hoff c r h16 hO).2.2.2
        · simp [h16] at hO) r h1 hl r' hlt (by rw [if_pos (show r' < 16 by omega)]; exact ho)
    rw [if_pos (by omega), if_pos (by omega)] at this
    exact this
  rcases Nat.lt_trichotomy r r' with hlt | heq | hlt
  · have := key r r' hr1 hr2 hr2' hlt hl (by rw [ho']; exact h0')
    rw [← ho, ← ho', this]
  · subst heq; rw [← ho, ← ho']
  · have := key r' r hr1' hr2' hr2 hlt hl' (by rw [ho]; exact h0)
    rw [← ho, ← ho', this]
