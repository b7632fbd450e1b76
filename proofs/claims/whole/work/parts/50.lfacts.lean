/-! What the reference reads off its letters. -/
def jq_sum (P : Nat → Nat) : Nat → Nat
  | 0 => 0
  | i + 1 => jq_sum P i + P i
theorem jq_c_drop (g : Nat → Nat) (q0 : Nat) : ∀ n, q0 < n → g q0 ≠ 0 → jq_c g n = jq_c (fun q => if q = q0 then 0 else g q) n + 1
  | 0, h, _ => by omega
  | n + 1, h, h0 => by
    unfold jq_c
    by_cases he : q0 = n
    · subst he
      have e : jq_c g q0 = jq_c (fun q => if q = q0 then 0 else g q) q0 := jq_c_congr _ (fun p hp => by simp [show ¬ p = q0 by omega])
      rw [if_neg h0, ← e]; simp
    · rw [jq_c_drop g q0 n (by omega) h0]
      simp only [show ¬ n = q0 by omega, if_false]
      omega
theorem jq_c_zero {g : Nat → Nat} : ∀ n, (∀ q, q < n → g q = 0) → jq_c g n = 0
  | 0, _ => rfl
  | n + 1, h => by unfold jq_c; rw [jq_c_zero n (fun q hq => h q (by omega)), if_pos (h n (by omega))]
/-- as many letters as senders -/
theorem jq_count {n : Nat} (P f : Nat → Nat) (hP : ∀ i, P i ≤ 1) : ∀ (m : Nat) (g : Nat → Nat), (∀ i, i < m → P i ≠ 0 → f i < n) → (∀ i j, i < m → j < m → P i ≠ 0 → P j ≠ 0 → f i = f j → i = j) → (∀ q, q < n → (g q ≠ 0 ↔ ∃ i, i < m ∧ P i ≠ 0 ∧ f i = q)) → jq_sum P m = jq_c g n := by
  intro m
  induction m with
  | zero =>
    intro g _ _ hg
    rw [jq_c_zero n (fun q hq => Decidable.byContradiction (fun h => by obtain ⟨i, hi, -⟩ := (hg q hq).mp h; omega))]
    rfl
  | succ m ih =>
    intro g hf hinj hg
    unfold jq_sum
    by_cases h0 : P m = 0
    · rw [h0, Nat.add_zero]
      refine ih g (fun i hi => hf i (by omega)) (fun i j hi hj => hinj i j (by omega) (by omega)) (fun q hq => ?_)
      rw [hg q hq]
      constructor
      · rintro ⟨i, hi, h1, h2⟩
        by_cases hm : i = m
        · subst hm; exact absurd h0 h1
        · exact ⟨i, by omega, h1, h2⟩
      · rintro ⟨i, hi, h⟩
        exact ⟨i, by omega, h⟩
    · have h1 : P m = 1 := by have := hP m; omega
      have hq0 := hf m (by omega) h0
      have hg0 : g (f m) ≠ 0 := (hg _ hq0).mpr ⟨m, by omega, h0, rfl⟩
      rw [jq_c_drop g (f m) n hq0 hg0, h1]
      congr 1
      refine ih _ (fun i hi => hf i (by omega)) (fun i j hi hj => hinj i j (by omega) (by omega)) (fun q hq => ?_)
      by_cases he : q = f m
      · subst he
        simp only [if_true, ne_eq, not_true_eq_false, false_iff]
        rintro ⟨i, hi, h2, h3⟩
        have := hinj i m (by omega) (by omega) h2 h0 h3
        omega
      · simp only [he, if_false]
        rw [hg q hq]
        constructor
        · rintro ⟨i, hi, h2, h3⟩
          by_cases hm : i = m
          · subst hm; exact absurd h3.symm he
          · exact ⟨i, by omega, h2, h3⟩
        · rintro ⟨i, hi, h⟩
          exact ⟨i, by omega, h⟩
theorem mq_holds_sum (a : cq_S) (k p : Nat) : ∀ m, mq_holds a k p m = jq_sum (fun i => mq_hn a i k p) m
  | 0 => rfl
  | m + 1 => by unfold mq_holds jq_sum; rw [mq_holds_sum a k p m]
theorem mq_hn_iff (a : cq_S) (i k p : Nat) : mq_hn a i k p ≠ 0 ↔ a 19 i = 1 ∧ a 14 i = p ∧ a 12 i = k ∧ a 15 i = a 4 p ∧ a 16 i = a 8 p := by
  unfold mq_hn mq_hereB
  constructor
  · intro h
    have h2 : (decide (a 19 i = 1) && decide (a 14 i = p) && decide (a 12 i = k) && decide (a 15 i = a 4 p) && decide (a 16 i = a 8 p)) = true := Decidable.byContradiction (fun h3 => h (if_neg h3))
    simp only [Bool.and_eq_true, decide_eq_true_eq] at h2
    exact ⟨h2.1.1.1.1, h2.1.1.1.2, h2.1.1.2, h2.1.2, h2.2⟩
  · rintro ⟨h1, h2, h3, h4, h5⟩
    rw [if_pos (by simp [h1, h2, h3, h4, h5])]
    exact Nat.one_ne_zero
/-- the estimates that the leader p holds -/
theorem lq_holds2 {a : cq_S} (L : lq_L a) {p : Nat} (hr : a 8 p < 16) (hld : mq_ldr a (a 8 p) = p) : mq_holds a 2 p (a 23 0) = jq_c (fun q => a 30 (cq_x (a 4 p) (a 8 p) q)) (a 20 0) := by
  obtain ⟨L1, L2, L3⟩ := L
  rw [mq_holds_sum]
  refine jq_count (fun i => mq_hn a i 2 p) (fun i => a 13 i) (fun i => by have := mq_hn_2 a i 2 p; omega) _ _ ?_ ?_ ?_
  · intro i hi _
    exact (L1 i hi).1.2.2.1
  · intro i j hi hj h1 h2 he
    obtain ⟨-, -, e1, e2, e3⟩ := (mq_hn_iff _ _ _ _).mp h1
    obtain ⟨-, -, f1, f2, f3⟩ := (mq_hn_iff _ _ _ _).mp h2
    refine Decidable.byContradiction (fun hne => ?_)
    exact (L3 i j hi hj hne (by omega) (by omega) (by omega)).1 (by omega) he
  · intro q hq
    constructor
    · intro h
      obtain ⟨i, hi, e1, e2, e3, e4, e5⟩ := (L2 _ _ q hr hq).1 h
      refine ⟨i, hi, (mq_hn_iff _ _ _ _).mpr ⟨e2, ?_, e1, e3, e4⟩, e5⟩
      rw [((L1 i hi).2.2.1 e1).2.1, e4]; exact hld
    · rintro ⟨i, hi, h1, h2⟩
      obtain ⟨e1, e2, e3, e4, e5⟩ := (mq_hn_iff _ _ _ _).mp h1
      have h3 := ((L1 i hi).2.2.1 e3).2.2.2.2.2.1 e1
      unfold lq_x at h3
      rw [e4, e5, h2] at h3
      exact h3
/-- the votes that it holds -/
theorem lq_holds4 {a : cq_S} (L : lq_L a) {p : Nat} (hr : a 8 p < 16) (hld : mq_ldr a (a 8 p) = p) : mq_holds a 4 p (a 23 0) = jq_c (fun q => a 32 (cq_x (a 4 p) (a 8 p) q) + a 33 (cq_x (a 4 p) (a 8 p) q)) (a 20 0) := by
  obtain ⟨L1, L2, L3⟩ := L
  rw [mq_holds_sum]
  refine jq_count (fun i => mq_hn a i 4 p) (fun i => a 13 i) (fun i => by have := mq_hn_2 a i 4 p; omega) _ _ ?_ ?_ ?_
  · intro i hi _
    exact (L1 i hi).1.2.2.1
  · intro i j hi hj h1 h2 he
    obtain ⟨-, -, e1, e2, e3⟩ := (mq_hn_iff _ _ _ _).mp h1
    obtain ⟨-, -, f1, f2, f3⟩ := (mq_hn_iff _ _ _ _).mp h2
    refine Decidable.byContradiction (fun hne => ?_)
    exact (L3 i j hi hj hne (by omega) (by omega) (by omega)).1 (by omega) he
  · intro q hq
    constructor
    · intro h
      have h' : a 32 (cq_x (a 4 p) (a 8 p) q) ≠ 0 ∨ a 33 (cq_x (a 4 p) (a 8 p) q) ≠ 0 := by omega
      have hex : ∃ i, i < a 23 0 ∧ a 12 i = 4 ∧ a 19 i = 1 ∧ a 15 i = a 4 p ∧ a 16 i = a 8 p ∧ a 13 i = q := by
        rcases h' with h' | h'
        · obtain ⟨i, hi, e1, e2, e3, e4, e5, -⟩ := (L2 _ _ q hr hq).2.2.1 h'
          exact ⟨i, hi, e1, e2, e3, e4, e5⟩
        · obtain ⟨i, hi, e1, e2, e3, e4, e5, -⟩ := (L2 _ _ q hr hq).2.2.2 h'
          exact ⟨i, hi, e1, e2, e3, e4, e5⟩
      obtain ⟨i, hi, e1, e2, e3, e4, e5⟩ := hex
      refine ⟨i, hi, (mq_hn_iff _ _ _ _).mpr ⟨e2, ?_, e1, e3, e4⟩, e5⟩
      rw [((L1 i hi).2.2.2.2.1 e1).2.1, e4]; exact hld
    · rintro ⟨i, hi, h1, h2⟩
      obtain ⟨e1, e2, e3, e4, e5⟩ := (mq_hn_iff _ _ _ _).mp h1
      obtain ⟨-, -, g3, -, -, g6, -⟩ := (L1 i hi).2.2.2.2.1 e3
      have h3 := g6 e1
      unfold lq_x at h3
      rw [e4, e5, h2] at h3
      by_cases hw : a 17 i = 1
      · have := h3.1 hw; omega
      · have := h3.2 (by omega); omega
theorem mq_best_spec (a : cq_S) (p : Nat) : ∀ m b, mq_best a p m = some b → b < m ∧ mq_hn a b 2 p ≠ 0 ∧ ∀ i, i < m → mq_hn a i 2 p ≠ 0 → a 18 i < a 18 b ∨ (a 18 i = a 18 b ∧ a 13 b ≤ a 13 i) := by
  intro m
  induction m with
  | zero => intro b h; simp [mq_best] at h
  | succ m ih =>
    intro b h
    unfold mq_best at h
    by_cases h0 : mq_hn a m 2 p = 0
    · rw [if_pos h0] at h
      obtain ⟨g1, g2, g3⟩ := ih b h
      refine ⟨by omega, g2, fun i hi hh => ?_⟩
      by_cases he : i = m
      · subst he; exact absurd h0 hh
      · exact g3 i (by omega) hh
    · rw [if_neg h0] at h
      cases hb : mq_best a p m with
      | none =>
        rw [hb] at h
        simp only [Option.some.injEq] at h
        subst h
        refine ⟨by omega, h0, fun i hi hh => ?_⟩
        by_cases he : i = m
        · subst he; exact Or.inr ⟨rfl, Nat.le_refl _⟩
        · have hpos : 0 < mq_holds a 2 p m := by
            have : ∀ m, i < m → 0 < mq_holds a 2 p m := by
              intro m
              induction m with
              | zero => intro h; omega
              | succ m ih2 =>
                intro h
                unfold mq_holds
                by_cases he2 : i = m
                · subst he2; omega
                · have := ih2 (by omega); omega
            exact this m (by omega)
          obtain ⟨b', hb'⟩ := mq_best_some a p m hpos
          rw [hb] at hb'; cases hb'
      | some b2 =>
        rw [hb] at h
        obtain ⟨g1, g2, g3⟩ := ih b2 hb
        simp only at h
        have fin : ∀ b3, (b3 = b2 ∨ b3 = m) → (a 18 b2 < a 18 b3 ∨ (a 18 b2 = a 18 b3 ∧ a 13 b3 ≤ a 13 b2)) → (a 18 m < a 18 b3 ∨ (a 18 m = a 18 b3 ∧ a 13 b3 ≤ a 13 m)) → b3 < m + 1 ∧ mq_hn a b3 2 p ≠ 0 ∧ ∀ i, i < m + 1 → mq_hn a i 2 p ≠ 0 → a 18 i < a 18 b3 ∨ (a 18 i = a 18 b3 ∧ a 13 b3 ≤ a 13 i) := by
          intro b3 hb3 c1 c2
          refine ⟨by omega, by rcases hb3 with e | e <;> rw [e] <;> assumption, fun i hi hh => ?_⟩
          by_cases he : i = m
          · rw [he]; exact c2
          · have := g3 i (by omega) hh; omega
        by_cases c1 : a 18 b2 < a 18 m
        · rw [if_pos c1] at h
          simp only [Option.some.injEq] at h
          subst h
          exact fin m (Or.inr rfl) (Or.inl c1) (Or.inr ⟨rfl, Nat.le_refl _⟩)
        · rw [if_neg c1] at h
          by_cases c2 : a 18 m = a 18 b2
          · rw [if_pos c2] at h
            by_cases c3 : a 13 b2 ≤ a 13 m
            · rw [if_pos c3] at h
              simp only [Option.some.injEq] at h
              subst h
              exact fin b2 (Or.inl rfl) (Or.inr ⟨rfl, Nat.le_refl _⟩) (Or.inr ⟨c2, c3⟩)
            · rw [if_neg c3] at h
              simp only [Option.some.injEq] at h
              subst h
              exact fin m (Or.inr rfl) (Or.inr ⟨c2.symm, by omega⟩) (Or.inr ⟨rfl, Nat.le_refl _⟩)
          · rw [if_neg c2] at h
            simp only [Option.some.injEq] at h
            subst h
            exact fin b2 (Or.inl rfl) (Or.inr ⟨rfl, Nat.le_refl _⟩) (Or.inl (by omega))
theorem mq_offer_spec (a : cq_S) (p : Nat) : ∀ m, (∀ i, mq_offer a p m = some i → i < m ∧ mq_hn a i 3 p ≠ 0) ∧ (mq_offer a p m = none → ∀ i, i < m → mq_hn a i 3 p = 0) := by
  intro m
  induction m with
  | zero => exact ⟨fun i h => by simp [mq_offer] at h, fun _ i hi => by omega⟩
  | succ m ih =>
    unfold mq_offer
    by_cases h0 : mq_hn a m 3 p = 0
    · rw [if_pos h0]
      refine ⟨fun i h => ⟨by have := (ih.1 i h).1; omega, (ih.1 i h).2⟩, fun h i hi => ?_⟩
      by_cases he : i = m
      · rw [he]; exact h0
      · exact ih.2 h i (by omega)
    · rw [if_neg h0]
      refine ⟨fun i h => ?_, fun h => by cases h⟩
      cases h
      exact ⟨by omega, h0⟩
theorem mq_ay_spec (a : cq_S) (p : Nat) : ∀ m, mq_ay a p m = 0 ↔ ∃ i, i < m ∧ mq_hn a i 4 p ≠ 0 ∧ a 17 i ≠ 1 := by
  intro m
  induction m with
  | zero => simp [mq_ay]
  | succ m ih =>
    unfold mq_ay
    by_cases h0 : mq_ay a p m = 0
    · rw [if_pos h0]
      refine ⟨fun _ => ?_, fun _ => rfl⟩
      obtain ⟨i, hi, h⟩ := ih.mp h0
      exact ⟨i, by omega, h⟩
    · rw [if_neg h0]
      by_cases h1 : mq_hn a m 4 p = 0
      · rw [if_pos h1]
        refine ⟨fun h => absurd h Nat.one_ne_zero, fun ⟨i, hi, h⟩ => ?_⟩
        by_cases he : i = m
        · subst he; exact absurd h1 h.1
        · exact absurd (ih.mpr ⟨i, by omega, h⟩) h0
      · rw [if_neg h1]
        by_cases h2 : a 17 m = 1
        · rw [if_pos h2]
          refine ⟨fun h => absurd h Nat.one_ne_zero, fun ⟨i, hi, h⟩ => ?_⟩
          by_cases he : i = m
          · subst he; exact absurd h2 h.2
          · exact absurd (ih.mpr ⟨i, by omega, h⟩) h0
        · rw [if_neg h2]
          exact ⟨fun _ => ⟨m, by omega, h1, h2⟩, fun _ => rfl⟩
