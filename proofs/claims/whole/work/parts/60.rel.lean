/-! The class's state against the reference's. -/
/-- how many of the first letters wait -/
def rq_c (a : cq_S) : Nat → Nat
  | 0 => 0
  | i + 1 => rq_c a i + (if a 19 i = 0 then 1 else 0)
def rq_t (a : cq_S) (i : Nat) : Nat := gq_tx (a 12 i) (a 15 i) (a 16 i) (a 17 i) (a 18 i)
def rq_K (k : Nat) : Prop := k < 3 ∨ k = 4 ∨ k = 5 ∨ (7 ≤ k ∧ k ≤ 11)
/-- the members -/
def rq_M (n : Nat) (g a : cq_S) : Prop := a 20 0 = n ∧ g 20 0 = n ∧ g 21 0 = a 21 0 ∧ g 22 0 = a 22 0 ∧ (∀ k p, rq_K k → p < n → g k p = a k p) ∧ (∀ p i, p < n → i < 8 → g (40 + p) i = a 3 (8 * p + i)) ∧ (∀ p c, p < n → c < 8 → g (60 + p) c = a 6 (8 * p + c))
/-- the letters that wait -/
def rq_W (g a : cq_S) : Prop := g 23 0 = rq_c a (a 23 0) ∧ g 23 0 ≤ a 34 0 ∧ ∀ i, i < a 23 0 → a 19 i = 0 → g 24 (rq_c a i) = gq_wd (a 13 i) (a 14 i) (rq_t a i)
/-- the papers -/
def rq_P (n : Nat) (g a : cq_S) : Prop := ∀ c r p, c < 8 → 1 ≤ r → r ≤ 10 → p < n →
  g 25 (gq_cell n c r p) = (if a 30 (cq_x c r p) = 0 then 0 else a 26 (cq_x c r p) * 256 + a 25 (cq_x c r p)) ∧
  g 26 (gq_cell n c r p) = (if a 31 (cq_x c r p) = 0 then 0 else a 27 (cq_x c r 0)) ∧
  (g 27 (c * 10 + r - 1) / 2 ^ p % 2 = 0 ↔ a 32 (cq_x c r p) = 0) ∧
  (g 28 (c * 10 + r - 1) / 2 ^ p % 2 = 0 ↔ a 33 (cq_x c r p) = 0)
/-- small numbers of the class's own -/
def rq_B (n : Nat) (g : cq_S) : Prop := cq_B2 g ∧ (∀ i, g 27 i < 2 ^ n ∧ g 28 i < 2 ^ n ∧ g 26 i < 256)
def rq_R (n : Nat) (g a : cq_S) : Prop := rq_M n g a ∧ rq_W g a ∧ rq_P n g a ∧ rq_B n g
/-- one number of one process -/
theorem rq_M_p {n : Nat} {g a : cq_S} (h : rq_M n g a) {k : Nat} (hk : rq_K k) (p v : Nat) : rq_M n (cq_p g k p v) (cq_p a k p v) := by
  obtain ⟨h1, h2, h3, h4, h5, h6, h7⟩ := h
  have hk' : k < 12 ∧ k ≠ 3 ∧ k ≠ 6 := by unfold rq_K at hk; omega
  refine ⟨by rw [cq_p_k _ (by omega)]; exact h1, by rw [cq_p_k _ (by omega)]; exact h2, by rw [cq_p_k _ (by omega), cq_p_k _ (by omega)]; exact h3, by rw [cq_p_k _ (by omega), cq_p_k _ (by omega)]; exact h4, fun k' q hk2 hq => ?_, fun q i hq hi => ?_, fun q i hq hi => ?_⟩
  · by_cases e : k' = k
    · subst e
      by_cases e2 : q = p
      · subst e2; rw [cq_p_s, cq_p_s]
      · rw [cq_p_i _ e2, cq_p_i _ e2]; exact h5 k' q hk2 hq
    · rw [cq_p_k _ e, cq_p_k _ e]; exact h5 k' q hk2 hq
  · rw [cq_p_k _ (by omega), cq_p_k _ (by omega)]; exact h6 q i hq hi
  · rw [cq_p_k _ (by omega), cq_p_k _ (by omega)]; exact h7 q i hq hi
/-- what the members do not see -/
theorem rq_M_o {n : Nat} {g a g' a' : cq_S} (h : rq_M n g a) (hg : ∀ k i, k < 23 ∨ 40 ≤ k → g' k i = g k i) (ha : ∀ k i, k < 12 ∨ (20 ≤ k ∧ k < 23) → a' k i = a k i) : rq_M n g' a' := by
  obtain ⟨h1, h2, h3, h4, h5, h6, h7⟩ := h
  refine ⟨by rw [ha _ _ (by omega)]; exact h1, by rw [hg _ _ (by omega)]; exact h2, by rw [hg _ _ (by omega), ha _ _ (by omega)]; exact h3, by rw [hg _ _ (by omega), ha _ _ (by omega)]; exact h4, fun k q hk2 hq => ?_, fun q i hq hi => ?_, fun q i hq hi => ?_⟩
  · have hk' : k < 12 := by unfold rq_K at hk2; omega
    rw [hg _ _ (by omega), ha _ _ (by omega)]; exact h5 k q hk2 hq
  · rw [hg _ _ (by omega), ha _ _ (by omega)]; exact h6 q i hq hi
  · rw [hg _ _ (by omega), ha _ _ (by omega)]; exact h7 q i hq hi
/-- a verdict -/
theorem rq_M_v {n : Nat} {g a : cq_S} (h : rq_M n g a) (hn : n ≤ 5) {p c : Nat} (hp : p < n) (hc : c < 8) (v : Nat) : rq_M n (cq_p g (60 + p) c v) (cq_p a 6 (8 * p + c) v) := by
  obtain ⟨h1, h2, h3, h4, h5, h6, h7⟩ := h
  refine ⟨by rw [cq_p_k _ (by omega)]; exact h1, by rw [cq_p_k _ (by omega)]; exact h2, by rw [cq_p_k _ (by omega), cq_p_k _ (by omega)]; exact h3, by rw [cq_p_k _ (by omega), cq_p_k _ (by omega)]; exact h4, fun k q hk2 hq => ?_, fun q i hq hi => ?_, fun q i hq hi => ?_⟩
  · have hk' : k < 12 ∧ k ≠ 6 := by unfold rq_K at hk2; omega
    rw [cq_p_k _ (by omega), cq_p_k _ (by omega)]; exact h5 k q hk2 hq
  · rw [cq_p_k _ (by omega), cq_p_k _ (by omega)]; exact h6 q i hq hi
  · by_cases e : q = p
    · subst e
      by_cases e2 : i = c
      · subst e2; rw [cq_p_s, cq_p_s]
      · rw [cq_p_i _ e2, cq_p_i _ (by omega)]; exact h7 q i hq hi
    · rw [cq_p_k _ (by omega), cq_p_i _ (by omega)]; exact h7 q i hq hi
/-- one message more in the order -/
theorem rq_M_d {n : Nat} {g a : cq_S} (h : rq_M n g a) (hn : n ≤ 5) {p c : Nat} (hp : p < n) (hc : c < 8) (v : Nat) : rq_M n (cq_p g (40 + p) c v) (cq_p a 3 (8 * p + c) v) := by
  obtain ⟨h1, h2, h3, h4, h5, h6, h7⟩ := h
  refine ⟨by rw [cq_p_k _ (by omega)]; exact h1, by rw [cq_p_k _ (by omega)]; exact h2, by rw [cq_p_k _ (by omega), cq_p_k _ (by omega)]; exact h3, by rw [cq_p_k _ (by omega), cq_p_k _ (by omega)]; exact h4, fun k q hk2 hq => ?_, fun q i hq hi => ?_, fun q i hq hi => ?_⟩
  · have hk' : k < 12 ∧ k ≠ 3 := by unfold rq_K at hk2; omega
    rw [cq_p_k _ (by omega), cq_p_k _ (by omega)]; exact h5 k q hk2 hq
  · by_cases e : q = p
    · subst e
      by_cases e2 : i = c
      · subst e2; rw [cq_p_s, cq_p_s]
      · rw [cq_p_i _ e2, cq_p_i _ (by omega)]; exact h6 q i hq hi
    · rw [cq_p_k _ (by omega), cq_p_i _ (by omega)]; exact h6 q i hq hi
  · rw [cq_p_k _ (by omega), cq_p_k _ (by omega)]; exact h7 q i hq hi
theorem rq_c_congr {a b : cq_S} : ∀ m, (∀ i, i < m → (b 19 i = 0 ↔ a 19 i = 0)) → rq_c b m = rq_c a m
  | 0, _ => rfl
  | m + 1, h => by
    have h1 := rq_c_congr (a := a) (b := b) m (fun i hi => h i (by omega))
    have h2 := h m (by omega)
    unfold rq_c
    rw [h1]
    by_cases e : a 19 m = 0
    · rw [if_pos e, if_pos (h2.mpr e)]
    · rw [if_neg e, if_neg (fun h3 => e (h2.mp h3))]
theorem rq_c_mono (a : cq_S) (i : Nat) : ∀ m, i ≤ m → rq_c a i ≤ rq_c a m := by
  intro m
  induction m with
  | zero => intro h; rw [show i = 0 by omega]; exact Nat.le_refl _
  | succ m ih =>
    intro h
    by_cases e : i = m + 1
    · rw [e]; exact Nat.le_refl _
    · have := ih (by omega)
      show _ ≤ rq_c a m + _
      omega
theorem rq_c_lt {a : cq_S} {i m : Nat} (h0 : a 19 i = 0) (h : i < m) : rq_c a i < rq_c a m := by
  have h1 := rq_c_mono a (i + 1) m h
  have h2 : rq_c a (i + 1) = rq_c a i + 1 := by show rq_c a i + _ = _; rw [if_pos h0]
  omega
/-- what the waiting letters do not see -/
theorem rq_W_o {g a g' a' : cq_S} (h : rq_W g a) (hg : ∀ i, g' 23 i = g 23 i) (hg2 : ∀ i, g' 24 i = g 24 i) (ha : ∀ k i, (12 ≤ k ∧ k < 20) ∨ k = 23 ∨ k = 34 → a' k i = a k i) : rq_W g' a' := by
  obtain ⟨h1, h2, h3⟩ := h
  have hc : ∀ m, rq_c a' m = rq_c a m := fun m => rq_c_congr m (fun i _ => by rw [ha _ _ (by omega)])
  refine ⟨by rw [hg, hc, ha _ _ (by omega)]; exact h1, by rw [hg, ha _ _ (by omega)]; exact h2, fun i hi h0 => ?_⟩
  rw [ha _ _ (by omega)] at hi h0
  rw [hg2, hc]
  unfold rq_t
  rw [ha _ _ (by omega), ha _ _ (by omega), ha _ _ (by omega), ha _ _ (by omega), ha _ _ (by omega), ha _ _ (by omega), ha _ _ (by omega)]
  exact h3 i hi h0
/-- a letter to another -/
theorem rq_W_send {n : Nat} {g a : cq_S} (h : rq_W g a) (h20 : g 20 0 = n) {k p q c r w s : Nat} (hpq : p ≠ q) (hs : s = if k = 2 then a 10 p else 0) (hr : mq_put a k p q c r w 34 0 ≤ gq_room n) : rq_W (gq_send g p q (gq_tx k c r w s)) (mq_put a k p q c r w) := by
  obtain ⟨h1, h2, h3⟩ := h
  rw [mq_put_34, if_neg (by omega)] at hr
  have h23 : mq_put a k p q c r w 23 0 = a 23 0 + 1 := mq_put_n a k p q c r w
  have hc : ∀ m, m ≤ a 23 0 → rq_c (mq_put a k p q c r w) m = rq_c a m := fun m hm => rq_c_congr m (fun i hi => by rw [mq_put_old _ _ _ _ _ _ _ _ _ (by decide) (by omega)])
  have hl : rq_c (mq_put a k p q c r w) (a 23 0 + 1) = rq_c a (a 23 0) + 1 := by
    show rq_c _ (a 23 0) + _ = _
    rw [hc _ (Nat.le_refl _), mq_put_19, if_neg hpq, if_pos rfl]
  unfold gq_send
  rw [if_neg (by rw [h20]; omega)]
  refine ⟨?_, ?_, fun i hi h0 => ?_⟩
  · rw [cq_p_s, h23, hl, h1]
  · rw [cq_p_s, mq_put_34, if_neg (by omega)]; omega
  · rw [h23] at hi
    rw [cq_p_k _ (by decide), hc i (by omega)]
    by_cases e : i = a 23 0
    · subst e
      unfold rq_t
      rw [← h1, cq_p_s, mq_put_12, mq_put_13, mq_put_14, mq_put_15, mq_put_16, mq_put_17, mq_put_18, hs]
    · have o : ∀ k', 12 ≤ k' ∧ k' < 20 → mq_put a k p q c r w k' i = a k' i := fun k' hk' => mq_put_old _ _ _ _ _ _ _ _ _ hk' e
      rw [o 19 (by decide)] at h0
      have := rq_c_lt h0 (show i < a 23 0 by omega)
      unfold rq_t
      rw [cq_p_i _ (by omega), o 12 (by decide), o 13 (by decide), o 14 (by decide), o 15 (by decide), o 16 (by decide), o 17 (by decide), o 18 (by decide)]
      exact h3 i (by omega) h0
/-- a letter to oneself waits nowhere -/
theorem rq_W_own {g a : cq_S} (h : rq_W g a) {k p c r w : Nat} (hk : k = 2 ∨ k = 4) : rq_W g (mq_put a k p p c r w) := by
  obtain ⟨h1, h2, h3⟩ := h
  have h23 : mq_put a k p p c r w 23 0 = a 23 0 + 1 := mq_put_n a k p p c r w
  have hc : ∀ m, m ≤ a 23 0 → rq_c (mq_put a k p p c r w) m = rq_c a m := fun m hm => rq_c_congr m (fun i hi => by rw [mq_put_old _ _ _ _ _ _ _ _ _ (by decide) (by omega)])
  have hl : rq_c (mq_put a k p p c r w) (a 23 0 + 1) = rq_c a (a 23 0) := by
    show rq_c _ (a 23 0) + _ = _
    rw [hc _ (Nat.le_refl _), mq_put_19, if_pos rfl, if_neg (by decide), Nat.add_zero]
  refine ⟨?_, ?_, fun i hi h0 => ?_⟩
  · rw [h23, hl, h1]
  · rw [mq_put_34, if_pos ⟨hk, rfl⟩]; exact h2
  · rw [h23] at hi
    rw [hc i (by omega)]
    by_cases e : i = a 23 0
    · subst e
      rw [mq_put_19, if_pos rfl] at h0
      exact absurd h0 (by decide)
    · have o : ∀ k', 12 ≤ k' ∧ k' < 20 → mq_put a k p p c r w k' i = a k' i := fun k' hk' => mq_put_old _ _ _ _ _ _ _ _ _ hk' e
      rw [o 19 (by decide)] at h0
      unfold rq_t
      rw [o 12 (by decide), o 13 (by decide), o 14 (by decide), o 15 (by decide), o 16 (by decide), o 17 (by decide), o 18 (by decide)]
      exact h3 i (by omega) h0
