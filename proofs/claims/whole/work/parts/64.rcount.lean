/-! Counting: the papers against the letters. -/
theorem rq_kept {a : cq_S} (L : lq_L a) {c r q : Nat} (hr : r < 16) (hq : q < a 20 0) (h : a 30 (cq_x c r q) ≠ 0) : ∃ i, i < a 23 0 ∧ a 12 i = 2 ∧ a 19 i = 1 ∧ a 15 i = c ∧ a 16 i = r ∧ a 13 i = q ∧ a 25 (cq_x c r q) = a 17 i ∧ a 17 i ≠ 0 ∧ a 17 i < 256 ∧ a 26 (cq_x c r q) = a 18 i ∧ a 18 i ≤ 10 ∧ a 14 i = mq_ldr a r := by
  obtain ⟨i, hi, e12, e19, e15, e16, e13⟩ := (L.2.1 c r q hr hq).1 h
  obtain ⟨f0, -, f2, -⟩ := L.1 i hi
  obtain ⟨t1, t2, t3, t4, t5, -⟩ := f2 e12
  unfold lq_x at t3 t5
  rw [e15, e16, e13] at t3 t5
  rw [e16] at t2
  unfold lq_b at f0
  exact ⟨i, hi, e12, e19, e15, e16, e13, t3, t4, by omega, t5, by omega, t2⟩
theorem rq_e0 {n : Nat} {g a : cq_S} (P : rq_P n g a) (L : lq_L a) (h20 : a 20 0 = n) {c r q : Nat} (hc : c < 8) (hr1 : 1 ≤ r) (hr : r ≤ 10) (hq : q < n) : g 25 (gq_cell n c r q) = 0 ↔ a 30 (cq_x c r q) = 0 := by
  rw [(P c r q hc hr1 hr hq).1]
  by_cases e : a 30 (cq_x c r q) = 0
  · rw [if_pos e]; exact ⟨fun _ => e, fun _ => rfl⟩
  · rw [if_neg e]
    obtain ⟨i, -, -, -, -, -, -, h1, h2, -⟩ := rq_kept L (by omega) (by omega) e
    exact ⟨fun h => by omega, fun h => absurd h e⟩
theorem rq_eOf {n : Nat} {g a : cq_S} (P : rq_P n g a) (L : lq_L a) (h20 : a 20 0 = n) (g20 : g 20 0 = n) {c r : Nat} (hc : c < 8) (hr1 : 1 ≤ r) (hr : r ≤ 10) : ∀ m, m ≤ n → gq_eOf g c r m = jq_c (fun q => a 30 (cq_x c r q)) m
  | 0, _ => rfl
  | m + 1, hm => by
    have ih := rq_eOf P L h20 g20 hc hr1 hr m (by omega)
    show gq_eOf g c r m + _ = jq_c _ m + _
    rw [ih, g20]
    have := rq_e0 P L h20 hc hr1 hr (show m < n by omega)
    by_cases e : a 30 (cq_x c r m) = 0
    · rw [if_pos (this.mpr e), if_pos e]
    · rw [if_neg (fun h => e (this.mp h)), if_neg e]
theorem gq_hi {s w : Nat} (h : w < 256) : (s * 256 + w) / 2 ^ 8 = s := by omega
/-- the best estimate kept -/
theorem rq_bB {n : Nat} {g a : cq_S} (P : rq_P n g a) (L : lq_L a) (h20 : a 20 0 = n) (g20 : g 20 0 = n) {c r : Nat} (hc : c < 8) (hr1 : 1 ≤ r) (hr : r ≤ 10) : ∀ m, m ≤ n → (gq_bB g c r m = 0 ∧ ∀ q, q < m → a 30 (cq_x c r q) = 0) ∨ ∃ q0, q0 < m ∧ a 30 (cq_x c r q0) ≠ 0 ∧ gq_bB g c r m = a 26 (cq_x c r q0) * 256 + a 25 (cq_x c r q0) ∧ a 25 (cq_x c r q0) ≠ 0 ∧ a 25 (cq_x c r q0) < 256 ∧ ∀ q, q < m → a 30 (cq_x c r q) ≠ 0 → a 26 (cq_x c r q) < a 26 (cq_x c r q0) ∨ (a 26 (cq_x c r q) = a 26 (cq_x c r q0) ∧ q0 ≤ q)
  | 0, _ => Or.inl ⟨rfl, fun q hq => absurd hq (Nat.not_lt_zero _)⟩
  | m + 1, hm => by
    have ih := rq_bB P L h20 g20 hc hr1 hr m (by omega)
    have hv := (P c r m hc hr1 hr (by omega)).1
    unfold gq_bB
    rw [g20]
    by_cases e : a 30 (cq_x c r m) = 0
    · rw [if_pos e] at hv
      rw [if_pos hv]
      rcases ih with ⟨i1, i2⟩ | ⟨q0, i1, i2, i3, i4, i5, i6⟩
      · refine Or.inl ⟨i1, fun q hq => ?_⟩
        by_cases e2 : q = m
        · rw [e2]; exact e
        · exact i2 q (by omega)
      · refine Or.inr ⟨q0, by omega, i2, i3, i4, i5, fun q hq h => ?_⟩
        by_cases e2 : q = m
        · rw [e2] at h; exact absurd e h
        · exact i6 q (by omega) h
    · rw [if_neg e] at hv
      obtain ⟨i, -, -, -, -, -, -, k1, k2, k3, -⟩ := rq_kept L (by omega) (by omega) e
      rw [if_neg (by omega)]
      rcases ih with ⟨i1, i2⟩ | ⟨q0, i1, i2, i3, i4, i5, i6⟩
      · rw [if_pos i1]
        refine Or.inr ⟨m, by omega, e, hv, by omega, by omega, fun q hq h => ?_⟩
        by_cases e2 : q = m
        · rw [e2]; exact Or.inr ⟨rfl, Nat.le_refl _⟩
        · exact absurd (i2 q (by omega)) h
      · rw [if_neg (by omega), hv, i3]
        have d1 : (a 26 (cq_x c r m) * 256 + a 25 (cq_x c r m)) / 2 ^ 8 = a 26 (cq_x c r m) := gq_hi (by rw [k1]; exact k3)
        have d2 : (a 26 (cq_x c r q0) * 256 + a 25 (cq_x c r q0)) / 2 ^ 8 = a 26 (cq_x c r q0) := gq_hi i5
        rw [d1, d2]
        by_cases e3 : a 26 (cq_x c r m) ≤ a 26 (cq_x c r q0)
        · rw [if_pos e3]
          refine Or.inr ⟨q0, by omega, i2, rfl, i4, i5, fun q hq h => ?_⟩
          by_cases e2 : q = m
          · rw [e2]; omega
          · exact i6 q (by omega) h
        · rw [if_neg e3]
          refine Or.inr ⟨m, by omega, e, rfl, by omega, by omega, fun q hq h => ?_⟩
          by_cases e2 : q = m
          · rw [e2]; exact Or.inr ⟨rfl, Nat.le_refl _⟩
          · have := i6 q (by omega) h
            omega
theorem rq_best {n : Nat} {g a : cq_S} (P : rq_P n g a) (L : lq_L a) (h20 : a 20 0 = n) (g20 : g 20 0 = n) {p b : Nat} (hc : a 4 p < 8) (hr1 : 1 ≤ a 8 p) (hr : a 8 p ≤ 10) (hld : mq_ldr a (a 8 p) = p) (hb : mq_best a p (a 23 0) = some b) : gq_bB g (a 4 p) (a 8 p) n % 256 = a 17 b := by
  obtain ⟨b1, b2, b3⟩ := mq_best_spec a p _ b hb
  obtain ⟨e19, e14, e12, e15, e16⟩ := (mq_hn_iff _ _ _ _).mp b2
  obtain ⟨f0, -, f2, -⟩ := L.1 b b1
  obtain ⟨t1, t2, t3, t4, t5, t6, -⟩ := f2 e12
  unfold lq_x at t3 t5 t6
  rw [e15, e16] at t3 t5 t6
  unfold lq_b at f0
  have k := t6 e19
  rcases rq_bB P L h20 g20 hc hr1 hr n (Nat.le_refl _) with ⟨i1, i2⟩ | ⟨q0, i1, i2, i3, i4, i5, i6⟩
  · exact absurd (i2 (a 13 b) (by omega)) k
  · obtain ⟨j, j1, j2, j3, j4, j5, j6, j7, j8, j9, j10, j11, j12⟩ := rq_kept L (by omega) (by omega) i2
    have hj : mq_hn a j 2 p ≠ 0 := (mq_hn_iff _ _ _ _).mpr ⟨j3, by rw [j12]; exact hld, j2, j4, j5⟩
    have x1 := b3 j j1 hj
    have x2 := i6 (a 13 b) (by omega) k
    have : q0 = a 13 b := by omega
    rw [i3, this, t3]
    omega
/-- the votes -/
theorem gq_or_bit (x y p : Nat) : (x ||| y) / 2 ^ p % 2 = 0 ↔ x / 2 ^ p % 2 = 0 ∧ y / 2 ^ p % 2 = 0 := by
  rw [jq_bit, jq_bit, jq_bit, Nat.testBit_or]
  cases x.testBit p <;> cases y.testBit p <;> simp
theorem gq_pc_c {n x : Nat} (h3 : 3 ≤ n) (hn : n ≤ 5) (hx : x < 2 ^ n) (f : Nat → Nat) (hf : ∀ q, q < n → (x / 2 ^ q % 2 = 0 ↔ f q = 0)) : gq_pc x = jq_c f n := by
  have step : ∀ q, q < n → x / 2 ^ q % 2 = (if f q = 0 then 0 else 1) := by
    intro q hq
    have := hf q hq
    by_cases e : f q = 0
    · rw [if_pos e]; exact this.mpr e
    · rw [if_neg e]
      have h1 : ¬ x / 2 ^ q % 2 = 0 := fun h => e (this.mp h)
      omega
  have z : ∀ m, m ≤ n → jq_c f m = jq_c (fun q => x / 2 ^ q % 2) m := by
    intro m
    induction m with
    | zero => intro _; rfl
    | succ m ih =>
      intro hm
      show jq_c f m + _ = jq_c _ m + _
      rw [ih (by omega)]
      have := hf m (by omega)
      by_cases e : f m = 0
      · rw [if_pos e, if_pos (this.mpr e)]
      · rw [if_neg e, if_neg (fun h => e (this.mp h))]
  rw [z n (Nat.le_refl _)]
  have b : ∀ v, v % 2 = if v % 2 = 0 then 0 else 1 := fun v => by split <;> omega
  have hcase : n = 3 ∨ n = 4 ∨ n = 5 := by omega
  unfold gq_pc
  rcases hcase with h | h | h <;> subst h <;> simp only [jq_c, Nat.pow_zero, Nat.div_one, Nat.zero_add, Nat.reducePow, ← b] at hx ⊢ <;> omega
theorem rq_vOf {n : Nat} {g a : cq_S} (P : rq_P n g a) (B : rq_B n g) (L : lq_L a) (h20 : a 20 0 = n) (h3 : 3 ≤ n) (hn : n ≤ 5) {p : Nat} (hc : a 4 p < 8) (hr1 : 1 ≤ a 8 p) (hr : a 8 p ≤ 10) (hld : mq_ldr a (a 8 p) = p) : gq_vOf g (a 4 p) (a 8 p) = mq_holds a 4 p (a 23 0) := by
  rw [lq_holds4 L (by omega) hld, h20]
  unfold gq_vOf
  refine gq_pc_c h3 hn (Nat.or_lt_two_pow (B.2 _).1 (B.2 _).2.1) _ (fun q hq => ?_)
  obtain ⟨-, -, p3, p4⟩ := P (a 4 p) (a 8 p) q hc hr1 hr hq
  rw [gq_or_bit, p3, p4]
  constructor
  · intro h; show _ + _ = 0; omega
  · intro h; exact ⟨by have : _ + _ = 0 := h; omega, by have : _ + _ = 0 := h; omega⟩
theorem gq_bits0 {x n : Nat} (hx : x < 2 ^ n) (h : ∀ q, q < n → x / 2 ^ q % 2 = 0) : x = 0 := by
  apply Nat.eq_of_testBit_eq
  intro i
  rw [Nat.zero_testBit]
  by_cases e : i < n
  · have := h i e
    rw [jq_bit] at this
    cases hb : x.testBit i with
    | false => rfl
    | true => rw [hb] at this; simp at this
  · exact Nat.testBit_lt_two_pow (Nat.lt_of_lt_of_le hx (Nat.pow_le_pow_right (by decide) (by omega)))
theorem rq_ay {n : Nat} {g a : cq_S} (P : rq_P n g a) (B : rq_B n g) (L : lq_L a) (h20 : a 20 0 = n) {p : Nat} (hc : a 4 p < 8) (hr1 : 1 ≤ a 8 p) (hr : a 8 p ≤ 10) (hld : mq_ldr a (a 8 p) = p) : g 28 (a 4 p * 10 + a 8 p - 1) = 0 ↔ ¬ mq_ay a p (a 23 0) = 0 := by
  rw [mq_ay_spec]
  constructor
  · rintro h ⟨i, i1, i2, i3⟩
    obtain ⟨e19, e14, e12, e15, e16⟩ := (mq_hn_iff _ _ _ _).mp i2
    obtain ⟨f0, -, -, -, f4, -⟩ := L.1 i i1
    obtain ⟨t1, t2, t3, t4, t5, t6, -⟩ := f4 e12
    unfold lq_b at f0
    have t7 := (t6 e19).2 (by omega)
    unfold lq_x at t7
    rw [e15, e16] at t7
    obtain ⟨-, -, -, p4⟩ := P (a 4 p) (a 8 p) (a 13 i) hc hr1 hr (by omega)
    rw [h, Nat.zero_div] at p4
    exact t7 (p4.mp rfl)
  · intro h
    refine gq_bits0 (B.2 _).2.1 (fun q hq => ?_)
    obtain ⟨-, -, -, p4⟩ := P (a 4 p) (a 8 p) q hc hr1 hr hq
    refine p4.mpr (Decidable.byContradiction (fun hne => h ?_))
    obtain ⟨i, j1, j2, j3, j4, j5, j6, j7⟩ := (L.2.1 (a 4 p) (a 8 p) q (by omega) (by omega)).2.2.2 hne
    obtain ⟨f0, -, -, -, f4, -⟩ := L.1 i j1
    obtain ⟨t1, t2, -⟩ := f4 j2
    exact ⟨i, j1, (mq_hn_iff _ _ _ _).mpr ⟨j3, by rw [t2, j5]; exact hld, j2, j4, j5⟩, by omega⟩
/-- the offer kept -/
theorem rq_offer {n : Nat} {g a : cq_S} (P : rq_P n g a) (L : lq_L a) (h20 : a 20 0 = n) {p : Nat} (hp : p < n) (hc : a 4 p < 8) (hr1 : 1 ≤ a 8 p) (hr : a 8 p ≤ 10) : (∀ i, mq_offer a p (a 23 0) = some i → g 26 (gq_cell n (a 4 p) (a 8 p) p) = a 17 i ∧ a 17 i ≠ 0 ∧ a 17 i < 256) ∧ (mq_offer a p (a 23 0) = none → g 26 (gq_cell n (a 4 p) (a 8 p) p) = 0) := by
  obtain ⟨-, p2, -, -⟩ := P (a 4 p) (a 8 p) p hc hr1 hr hp
  refine ⟨fun i hi => ?_, fun h => ?_⟩
  · obtain ⟨i1, i2⟩ := (mq_offer_spec a p _).1 i hi
    obtain ⟨e19, e14, e12, e15, e16⟩ := (mq_hn_iff _ _ _ _).mp i2
    obtain ⟨f0, -, -, f3, -⟩ := L.1 i i1
    obtain ⟨t1, t2, t3, t4, t5, t6, -⟩ := f3 e12
    unfold lq_b at f0
    have t7 := t6 e19
    rw [e15, e16] at t4 t7
    rw [e14] at t7
    rw [p2, if_neg t7]
    exact ⟨t4, t5, by omega⟩
  · rw [p2]
    by_cases e : a 31 (cq_x (a 4 p) (a 8 p) p) = 0
    · rw [if_pos e]
    · obtain ⟨i, j1, j2, j3, j4, j5, j6⟩ := (L.2.1 (a 4 p) (a 8 p) p (by omega) (by omega)).2.1 e
      have := (mq_offer_spec a p _).2 h i j1
      exact absurd this ((mq_hn_iff _ _ _ _).mpr ⟨j3, j6, j2, j4, j5⟩)
