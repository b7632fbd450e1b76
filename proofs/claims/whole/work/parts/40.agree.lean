/-! Majorities, and why a locked offer stays. -/
/-- how many of the first n are not 0 -/
def jq_c (f : Nat → Nat) : Nat → Nat
  | 0 => 0
  | p + 1 => jq_c f p + (if f p = 0 then 0 else 1)
theorem jq_c_le (f : Nat → Nat) : ∀ n, jq_c f n ≤ n
  | 0 => Nat.le_refl _
  | n + 1 => by have := jq_c_le f n; unfold jq_c; split <;> omega
theorem jq_c_mono {f g : Nat → Nat} : ∀ n, (∀ p, p < n → f p ≠ 0 → g p ≠ 0) → jq_c f n ≤ jq_c g n
  | 0, _ => Nat.le_refl _
  | n + 1, h => by
    have h1 := jq_c_mono n (fun p hp => h p (by omega))
    have h2 := h n (by omega)
    unfold jq_c
    by_cases h3 : f n = 0
    · rw [if_pos h3]; omega
    · rw [if_neg h3, if_neg (h2 h3)]; omega
theorem jq_c_congr {f g : Nat → Nat} (n : Nat) (h : ∀ p, p < n → (f p = 0 ↔ g p = 0)) : jq_c f n = jq_c g n :=
  Nat.le_antisymm (jq_c_mono n (fun p hp h1 h2 => h1 ((h p hp).mpr h2))) (jq_c_mono n (fun p hp h1 h2 => h1 ((h p hp).mp h2)))
theorem jq_meet {f g : Nat → Nat} : ∀ n, n < jq_c f n + jq_c g n → ∃ p, p < n ∧ f p ≠ 0 ∧ g p ≠ 0
  | 0, h => by simp [jq_c] at h
  | n + 1, h => by
    by_cases h1 : f n ≠ 0 ∧ g n ≠ 0
    · exact ⟨n, by omega, h1⟩
    · unfold jq_c at h
      have h2 : n < jq_c f n + jq_c g n := by
        by_cases h3 : f n = 0
        · rw [if_pos h3] at h
          split at h <;> omega
        · have h4 : g n = 0 := Decidable.byContradiction (fun h5 => h1 ⟨h3, h5⟩)
          rw [if_neg h3, if_pos h4] at h
          omega
      obtain ⟨p, hp, h5⟩ := jq_meet n h2
      exact ⟨p, by omega, h5⟩
theorem jq_c_pos {f : Nat → Nat} : ∀ n, 0 < jq_c f n → ∃ p, p < n ∧ f p ≠ 0
  | 0, h => by simp [jq_c] at h
  | n + 1, h => by
    unfold jq_c at h
    by_cases h1 : f n = 0
    · rw [if_pos h1] at h
      obtain ⟨p, hp, h2⟩ := jq_c_pos n (by omega)
      exact ⟨p, by omega, h2⟩
    · exact ⟨n, by omega, h1⟩
/-- an offer that a majority has adopted is the offer of every later round -/
theorem jq_lock {n : Nat} {E S Y : Nat → Nat → Nat} {O : Nat → Nat}
    (h1 : ∀ r p, p < n → E r p ≠ 0 → S r p < r ∧ (S r p ≠ 0 → O (S r p) = E r p))
    (h2 : ∀ r p r0, p < n → E r p ≠ 0 → r0 < r → Y r0 p ≠ 0 → r0 ≤ S r p)
    (h3 : ∀ r, O r ≠ 0 → ∃ p0, p0 < n ∧ E r p0 = O r ∧ n / 2 + 1 ≤ jq_c (fun p => if E r p ≠ 0 ∧ S r p ≤ S r p0 then 1 else 0) n)
    (r : Nat) (hr : 1 ≤ r) (hl : n / 2 + 1 ≤ jq_c (Y r) n) : ∀ r', r < r' → O r' ≠ 0 → O r' = O r := by
  intro r'
  induction r' using Nat.strongRecOn with
  | ind r' ih =>
    intro hlt ho
    obtain ⟨p0, hp0, he0, hm⟩ := h3 r' ho
    obtain ⟨p, hp, hq, hy⟩ := jq_meet (f := fun p => if E r' p ≠ 0 ∧ S r' p ≤ S r' p0 then 1 else 0) (g := Y r) n (by omega)
    have hq2 : E r' p ≠ 0 ∧ S r' p ≤ S r' p0 := Decidable.byContradiction (fun h => hq (if_neg h))
    have hs := h2 r' p r hp hq2.1 hlt hy
    have he : E r' p0 ≠ 0 := by rw [he0]; exact ho
    obtain ⟨hs1, hs2⟩ := h1 r' p0 hp0 he
    have hs3 := hs2 (by omega)
    by_cases hse : S r' p0 = r
    · rw [← he0, ← hs3, hse]
    · have h5 := ih (S r' p0) hs1 (by omega) (by rw [hs3]; exact he)
      rw [← he0, ← hs3, h5]
