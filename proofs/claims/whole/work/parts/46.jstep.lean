/-! The invariant through the reference's steps. -/
theorem mq_enter_k (a : cq_S) (p r k' i' : Nat) (h : k' < 7 ∨ (9 ≤ k' ∧ k' < 12) ∨ (20 ≤ k' ∧ k' < 23) ∨ k' = 27 ∨ k' = 28 ∨ k' = 29 ∨ k' = 31 ∨ k' = 32 ∨ k' = 33) : mq_enter a p r k' i' = a k' i' := by
  unfold mq_enter
  split
  · rw [cq_p_k _ (by omega), cq_p_k _ (by omega)]
  · rcases h with h | h | h | h | h | h | h | h | h
    · rw [mq_put_k _ _ _ _ _ _ _ _ _ (by omega), cq_p_k _ (by omega), cq_p_k _ (by omega)]
    · rw [mq_put_k _ _ _ _ _ _ _ _ _ (by omega), cq_p_k _ (by omega), cq_p_k _ (by omega)]
    · rw [mq_put_k _ _ _ _ _ _ _ _ _ (by omega), cq_p_k _ (by omega), cq_p_k _ (by omega)]
    · subst h; rw [mq_put_27, if_neg (by omega), cq_p_k _ (by omega), cq_p_k _ (by omega)]
    · subst h; rw [mq_put_28, if_neg (by omega), cq_p_k _ (by omega), cq_p_k _ (by omega)]
    · subst h; rw [mq_put_29, if_neg (by omega), cq_p_k _ (by omega), cq_p_k _ (by omega)]
    · subst h; rw [mq_put_31, cq_p_k _ (by omega), cq_p_k _ (by omega)]
    · subst h; rw [mq_put_32, if_neg (by omega), cq_p_k _ (by omega), cq_p_k _ (by omega)]
    · subst h; rw [mq_put_33, if_neg (by omega), cq_p_k _ (by omega), cq_p_k _ (by omega)]
theorem mq_enter_7 (a : cq_S) (p r i : Nat) : mq_enter a p r 7 i = if i = p then (if r = 11 then 4 else if mq_ldr a r = p then 1 else 2) else a 7 i := by
  unfold mq_enter
  by_cases h : r = 11
  · rw [if_pos h]
    by_cases hi : i = p
    · subst hi; simp [cq_p, h]
    · simp [cq_p, hi]
  · rw [if_neg h, mq_put_k _ _ _ _ _ _ _ _ _ (by decide)]
    by_cases hi : i = p
    · subst hi; simp [cq_p, h]
    · simp [cq_p, hi]
theorem mq_enter_8 (a : cq_S) (p r i : Nat) : mq_enter a p r 8 i = if i = p then r else a 8 i := by
  unfold mq_enter
  by_cases h : r = 11
  · rw [if_pos h]
    by_cases hi : i = p
    · subst hi; simp [cq_p]
    · simp [cq_p, hi]
  · rw [if_neg h, mq_put_k _ _ _ _ _ _ _ _ _ (by decide)]
    by_cases hi : i = p
    · subst hi; simp [cq_p]
    · simp [cq_p, hi]
theorem mq_enter_25 (a : cq_S) (p r x : Nat) : mq_enter a p r 25 x = if r ≠ 11 ∧ x = cq_x (a 4 p) r p then a 9 p else a 25 x := by
  unfold mq_enter
  by_cases h : r = 11
  · simp [h, cq_p]
  · rw [if_neg h, mq_put_25]; simp [h, cq_p]
theorem mq_enter_26 (a : cq_S) (p r x : Nat) : mq_enter a p r 26 x = if r ≠ 11 ∧ x = cq_x (a 4 p) r p then a 10 p else a 26 x := by
  unfold mq_enter
  by_cases h : r = 11
  · simp [h, cq_p]
  · rw [if_neg h, mq_put_26]; simp [h, cq_p]
theorem cq_an_bit (x y i : Nat) : (cq_an x y).testBit i = (x.testBit i && !y.testBit i) := by
  unfold cq_an
  rw [Nat.testBit_xor, Nat.testBit_and]
  cases x.testBit i <;> cases y.testBit i <;> rfl
theorem cq_an_2 {x y m : Nat} (h : x < 2 ^ m) : cq_an x y < 2 ^ m := Nat.xor_lt_two_pow h (Nat.lt_of_le_of_lt Nat.and_le_left h)
/-- a move of a process, as the reference makes it: its own fields and votes first, then the new round -/
theorem jq_go {a d : cq_S} (J : jq_J a) {p r v k y z : Nat} (hp : p < a 20 0)
    (hd : ∀ k', k' < 9 ∨ (20 ≤ k' ∧ k' < 22) ∨ (25 ≤ k' ∧ k' < 28) → d k' = a k') (h9 : ∀ i, d 9 i = if i = p then v else a 9 i) (h10 : ∀ i, d 10 i = if i = p then k else a 10 i)
    (h28 : ∀ x, d 28 x = if y = 1 ∧ x = cq_x (a 4 p) (r - 1) p then 1 else a 28 x) (h29 : ∀ x, d 29 x = if z = 1 ∧ x = cq_x (a 4 p) (r - 1) p then 1 else a 29 x)
    (c8 : a 4 p < 8) (hr1 : 1 ≤ r) (hr11 : r ≤ 11)
    (hfrom : (a 7 p = 0 ∧ r = 1 ∧ y ≠ 1 ∧ z ≠ 1) ∨ ((a 7 p = 2 ∨ a 7 p = 3) ∧ r = a 8 p + 1 ∧ (a 7 p = 3 → y ≠ 1 ∧ z ≠ 1)))
    (hV : jq_V a (a 4 p) v) (hk : k < r) (hkO : k ≠ 0 → a 27 (cq_x (a 4 p) k 0) = v)
    (hyk : y = 1 → k = r - 1) (hYk : ∀ r', r' < 16 → a 28 (cq_x (a 4 p) r' p) ≠ 0 → r' ≤ k) : jq_J (mq_enter d p r) := by
  have hl : mq_ldr d r = mq_ldr a r := by unfold mq_ldr; rw [hd 20 (by omega)]
  have e4 : d 4 = a 4 := hd 4 (by omega)
  refine jq_move (a := a) J (p := p) (r := r) (v := v) (k := k) (y := y) (z := z) hp ?_ ?_ ?_ ?_ ?_ ?_ ?_ ?_ ?_ ?_ ?_ ?_ ?_ ?_ ?_ ?_ ?_ ?_ ?_ ?_ ?_ ?_ ?_ c8 hr1 hr11 hfrom hV hk hkO hyk hYk
  · funext i; rw [mq_enter_k _ _ _ _ _ (by omega), hd 20 (by omega)]
  · funext i; rw [mq_enter_k _ _ _ _ _ (by omega), hd 21 (by omega)]
  · funext i; rw [mq_enter_k _ _ _ _ _ (by omega), hd 0 (by omega)]
  · funext i; rw [mq_enter_k _ _ _ _ _ (by omega), hd 1 (by omega)]
  · funext i; rw [mq_enter_k _ _ _ _ _ (by omega), hd 2 (by omega)]
  · funext i; rw [mq_enter_k _ _ _ _ _ (by omega), hd 4 (by omega)]
  · funext i; rw [mq_enter_k _ _ _ _ _ (by omega), hd 6 (by omega)]
  · funext i; rw [mq_enter_k _ _ _ _ _ (by omega), hd 27 (by omega)]
  · intro i hi; rw [mq_enter_7, if_neg hi, hd 7 (by omega)]
  · rw [mq_enter_7, if_pos rfl, hl]
  · intro i hi; rw [mq_enter_8, if_neg hi, hd 8 (by omega)]
  · rw [mq_enter_8, if_pos rfl]
  · intro i hi; rw [mq_enter_k _ _ _ _ _ (by omega), h9, if_neg hi]
  · rw [mq_enter_k _ _ _ _ _ (by omega), h9, if_pos rfl]
  · intro i hi; rw [mq_enter_k _ _ _ _ _ (by omega), h10, if_neg hi]
  · rw [mq_enter_k _ _ _ _ _ (by omega), h10, if_pos rfl]
  · intro x hx; rw [mq_enter_25, e4, if_neg hx, hd 25 (by omega)]
  · intro hx; rw [mq_enter_25, e4, if_pos ⟨hx, rfl⟩, h9, if_pos rfl]
  · intro x hx; rw [mq_enter_26, e4, if_neg hx, hd 26 (by omega)]
  · intro hx; rw [mq_enter_26, e4, if_pos ⟨hx, rfl⟩, h10, if_pos rfl]
  · intro x hx; rw [mq_enter_k _ _ _ _ _ (by omega), h28, if_neg hx]
  · intro hx; rw [mq_enter_k _ _ _ _ _ (by omega), h28, if_pos ⟨hx, rfl⟩]
  · intro x hx; rw [mq_enter_k _ _ _ _ _ (by omega), h29, if_neg hx]
theorem cq_p_f (a : cq_S) {k i v k' : Nat} (h : k' ≠ k) : cq_p a k i v k' = a k' := funext (fun _ => cq_p_k a h)
theorem mq_put_f (a : cq_S) (k p q c r w k' : Nat) (h : k' < 12 ∨ (20 ≤ k' ∧ k' < 23)) : mq_put a k p q c r w k' = a k' := funext (fun _ => mq_put_k _ _ _ _ _ _ _ _ _ h)
/-- the councils open -/
theorem jq_open {a : cq_S} (J : jq_J a) {p : Nat} (hp : p < a 20 0) (h7 : a 7 p = 0) (ho : ¬ cq_an (a 0 p) (a 1 p) = 0) : jq_J (mq_enter (cq_p (cq_p a 9 p (cq_an (a 0 p) (a 1 p))) 10 p 0) p 1) := by
  obtain ⟨g1, g2, g3, g4, g5, g6, g7, g8⟩ := J.2.2.2.2.1 p hp
  refine jq_go J (v := cq_an (a 0 p) (a 1 p)) (k := 0) (y := 0) (z := 0) hp (fun k' h => ?_) (fun i => ?_) (fun i => ?_) (fun x => ?_) (fun x => ?_) (jq_end J hp ho) (by omega) (by omega) (Or.inl ⟨h7, rfl, by decide, by decide⟩) ⟨ho, cq_an_2 g1, fun k hk => ⟨p, hp, g3 k hk, ?_⟩⟩ (by decide) (fun h => absurd rfl h) (fun h => absurd h (by decide)) (fun r' h16 hY => ?_)
  · rw [cq_p_f _ (by omega), cq_p_f _ (by omega)]
  · by_cases hi : i = p
    · subst hi; simp [cq_p]
    · simp [cq_p, hi]
  · by_cases hi : i = p
    · subst hi; simp [cq_p]
    · simp [cq_p, hi]
  · simp [cq_p]
  · simp [cq_p]
  · apply Nat.eq_of_testBit_eq
    intro i
    rw [Nat.testBit_and, Nat.zero_testBit, cq_an_bit]
    cases hb : (a 6 (8 * p + k)).testBit i with
    | false => simp
    | true => rw [(g5 i).mpr ⟨k, hk, hb⟩]; simp
  · have := ((J.2.2.2.2.2.1 (a 4 p) r' p h16 hp).2.1 (Or.inl hY)).2.2
    omega
/-- a vote, and the next round -/
theorem jq_vote {a : cq_S} (J : jq_J a) {p : Nat} (hp : p < a 20 0) (h7 : a 7 p = 2) : (∀ w, a 27 (cq_x (a 4 p) (a 8 p) 0) = w → w ≠ 0 → jq_J (mq_vote (cq_p (cq_p a 9 p w) 10 p (a 8 p)) p 1)) ∧ jq_J (mq_vote a p 0) := by
  have hpl : a 4 p < 8 ∧ 1 ≤ a 8 p ∧ a 8 p ≤ 10 ∧ jq_V a (a 4 p) (a 9 p) ∧ (a 10 p ≠ 0 → a 27 (cq_x (a 4 p) (a 10 p) 0) = a 9 p) ∧ (∀ r, r < 16 → a 28 (cq_x (a 4 p) r p) ≠ 0 → r ≤ a 10 p) ∧ a 10 p < a 8 p := by
    rcases J.2.2.2.1 p hp with h3 | ⟨g1, g2, g3, g4, g5, g6, g7⟩
    · omega
    · rcases g7 with g7 | g7 | g7
      · omega
      · omega
      · exact ⟨g1, g2, g7.1, g3, g4, g5, g7.2.1⟩
  obtain ⟨d1, d2, d3, d4, d5, d6, d7⟩ := hpl
  constructor
  · intro w hw hw0
    have hVw : jq_V a (a 4 p) w := by
      obtain ⟨-, -, -, p0, t4, t5, -⟩ := J.2.2.2.2.2.2 (a 4 p) (a 8 p) (by omega) (by rw [hw]; exact hw0)
      have h5 := ((J.2.2.2.2.2.1 (a 4 p) (a 8 p) p0 (by omega) t4).1 (by rw [t5, hw]; exact hw0)).2.2.2.2.1
      rw [t5, hw] at h5
      exact h5
    have e8 : cq_p (cq_p a 9 p w) 10 p (a 8 p) 8 p = a 8 p := by simp [cq_p]
    unfold mq_vote
    rw [e8]
    refine jq_go J (v := w) (k := a 8 p) (y := 1) (z := 0) hp (fun k' h => ?_) (fun i => ?_) (fun i => ?_) (fun x => ?_) (fun x => ?_) d1 (by omega) (by omega) (Or.inr ⟨Or.inl h7, rfl, fun h => by omega⟩) hVw (by omega) (fun _ => hw) (fun _ => by omega) (fun r' h16 hY => by have := d6 r' h16 hY; omega)
    · by_cases hk : k' < 12 ∨ (20 ≤ k' ∧ k' < 23)
      · rw [mq_put_f _ _ _ _ _ _ _ _ hk, cq_p_f _ (by omega), cq_p_f _ (by omega)]
      · funext x
        have : k' = 25 ∨ k' = 26 ∨ k' = 27 := by omega
        rcases this with e | e | e
        · subst e; rw [mq_put_25, if_neg (by omega), cq_p_k _ (by omega), cq_p_k _ (by omega)]
        · subst e; rw [mq_put_26, if_neg (by omega), cq_p_k _ (by omega), cq_p_k _ (by omega)]
        · subst e; rw [mq_put_27, if_neg (by omega), cq_p_k _ (by omega), cq_p_k _ (by omega)]
    · rw [mq_put_k _ _ _ _ _ _ _ _ _ (by decide)]
      by_cases hi : i = p
      · subst hi; simp [cq_p]
      · simp [cq_p, hi]
    · rw [mq_put_k _ _ _ _ _ _ _ _ _ (by decide)]
      by_cases hi : i = p
      · subst hi; simp [cq_p]
      · simp [cq_p, hi]
    · rw [mq_put_28]; simp [cq_p]
    · rw [mq_put_29]; simp [cq_p]
  · unfold mq_vote
    refine jq_go J (v := a 9 p) (k := a 10 p) (y := 0) (z := 1) hp (fun k' h => ?_) (fun i => ?_) (fun i => ?_) (fun x => ?_) (fun x => ?_) d1 (by omega) (by omega) (Or.inr ⟨Or.inl h7, rfl, fun h => by omega⟩) d4 (by omega) d5 (fun h => absurd h (by decide)) d6
    · by_cases hk : k' < 12 ∨ (20 ≤ k' ∧ k' < 23)
      · exact mq_put_f _ _ _ _ _ _ _ _ hk
      · funext x
        have : k' = 25 ∨ k' = 26 ∨ k' = 27 := by omega
        rcases this with e | e | e
        · subst e; rw [mq_put_25, if_neg (by omega)]
        · subst e; rw [mq_put_26, if_neg (by omega)]
        · subst e; rw [mq_put_27, if_neg (by omega)]
    · rw [mq_put_k _ _ _ _ _ _ _ _ _ (by decide)]
      by_cases hi : i = p
      · subst hi; simp
      · simp [hi]
    · rw [mq_put_k _ _ _ _ _ _ _ _ _ (by decide)]
      by_cases hi : i = p
      · subst hi; simp
      · simp [hi]
    · rw [mq_put_28]; simp
    · rw [mq_put_29]; simp
/-- the votes were not all yes: the next round -/
theorem jq_next {a : cq_S} (J : jq_J a) {p : Nat} (hp : p < a 20 0) (h7 : a 7 p = 3) : jq_J (mq_enter a p (a 8 p + 1)) := by
  have hpl : a 4 p < 8 ∧ 1 ≤ a 8 p ∧ a 8 p ≤ 10 ∧ jq_V a (a 4 p) (a 9 p) ∧ (a 10 p ≠ 0 → a 27 (cq_x (a 4 p) (a 10 p) 0) = a 9 p) ∧ (∀ r, r < 16 → a 28 (cq_x (a 4 p) r p) ≠ 0 → r ≤ a 10 p) ∧ a 10 p = a 8 p := by
    rcases J.2.2.2.1 p hp with h3 | ⟨g1, g2, g3, g4, g5, g6, g7⟩
    · omega
    · rcases g7 with g7 | g7 | g7
      · omega
      · exact ⟨g1, g2, g7.2.1, g3, g4, g5, g7.2.2.2.2⟩
      · omega
  obtain ⟨d1, d2, d3, d4, d5, d6, d7⟩ := hpl
  refine jq_go J (v := a 9 p) (k := a 10 p) (y := 0) (z := 0) hp (fun k' h => rfl) (fun i => ?_) (fun i => ?_) (fun x => by simp) (fun x => by simp) d1 (by omega) (by omega) (Or.inr ⟨Or.inr h7, rfl, fun _ => ⟨by decide, by decide⟩⟩) d4 (by omega) d5 (fun h => absurd h (by decide)) d6
  · by_cases hi : i = p
    · subst hi; simp
    · simp [hi]
  · by_cases hi : i = p
    · subst hi; simp
    · simp [hi]
