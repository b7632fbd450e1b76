/-! What the class's steps leave as it was. -/
theorem gq_del_k (f p : Nat) (g : cq_S) (m k' i' : Nat) (hp : p < 20) (h : k' < 40 ∧ k' ≠ 2) : gq_del f p g m k' i' = g k' i' := by
  induction m with
  | zero => rfl
  | succ m ih =>
    unfold gq_del
    split
    · exact ih
    · rw [cq_p_k _ h.2, cq_p_k _ (by omega)]; exact ih
theorem gq_del_2 (f p : Nat) (g : cq_S) : ∀ m, gq_del f p g m 2 p ≤ g 2 p + m := by
  intro m
  induction m with
  | zero => exact Nat.le_refl _
  | succ m ih =>
    unfold gq_del
    split
    · omega
    · rw [cq_p_s]; omega
theorem gq_del_B {f p : Nat} {g : cq_S} (hB : cq_B2 g) (h2 : g 2 p ≤ 8) : ∀ m, m ≤ 8 → cq_B2 (gq_del f p g m) := by
  intro m
  induction m with
  | zero => exact fun _ => hB
  | succ m ih =>
    intro hm
    have h3 := ih (by omega)
    have h6 := gq_del_2 f p g m
    unfold gq_del
    split
    · exact h3
    · exact (h3.put (by omega)).put (by omega)
theorem gq_batch_k (g : cq_S) (p b k' i' : Nat) (hp : p < 20) (h : k' < 40 ∧ k' ≠ 1 ∧ k' ≠ 2) : gq_batch g p b k' i' = g k' i' := by
  unfold gq_batch
  rw [cq_p_k _ h.2.1]
  exact gq_del_k _ _ _ _ _ _ hp ⟨h.1, h.2.2⟩
theorem gq_take_n (g : cq_S) (i : Nat) : gq_take g i 23 0 = g 23 0 - 1 := by simp [gq_take]
theorem gq_take_k (g : cq_S) (i k' i' : Nat) (h : k' ≠ 23 ∧ k' ≠ 24) : gq_take g i k' i' = g k' i' := by simp [gq_take, h.1, h.2]
theorem gq_take_B {g : cq_S} (hB : cq_B2 g) {i : Nat} : cq_B2 (gq_take g i) := by
  intro k j hk
  have h0 := hB 23 0 (by decide)
  unfold gq_take
  split
  · split
    · exact hB _ _ (by decide)
    · exact hB _ _ (by decide)
  · split
    · omega
    · exact hB _ _ hk
theorem cq_ite0 (x : Nat) : (if x = 0 then 0 else 1) = 0 ↔ x = 0 := by
  by_cases h : x = 0
  · simp [h]
  · simp [h]
theorem gq_adopt_B {g : cq_S} (hB : cq_B2 g) {p b : Nat} (hb : b < 2147483648) : cq_B2 (gq_adopt g p b) := (hB.put hb).put (hB _ _ (by decide))
theorem gq_eOf_le (g : cq_S) (c r : Nat) : ∀ i, gq_eOf g c r i ≤ i
  | 0 => Nat.le_refl _
  | i + 1 => by have h1 := gq_eOf_le g c r i; unfold gq_eOf; split <;> omega
theorem gq_pc_lt (x : Nat) : gq_pc x < 6 := by unfold gq_pc; omega
theorem cq_n0 {x : Nat} (h : (if x = 0 then 0 else 1) = 0) : x = 0 := (cq_ite0 x).mp h
theorem cq_n1 {x : Nat} (h : ¬ (if x = 0 then 0 else 1) = 0) : ¬ x = 0 := fun h2 => h ((cq_ite0 x).mpr h2)
