theorem jq_same {a b : cq_S} (J : jq_J a) (h : ∀ k, k < 3 ∨ k = 4 ∨ (6 ≤ k ∧ k < 11) ∨ k = 20 ∨ k = 21 ∨ (25 ≤ k ∧ k < 30) → b k = a k) : jq_J b :=
  jq_know J (h 20 (by omega)) (h 1 (by omega)) (h 2 (by omega)) (h 4 (by omega)) (h 6 (by omega)) (h 7 (by omega)) (h 8 (by omega)) (h 9 (by omega)) (h 10 (by omega)) (h 25 (by omega)) (h 26 (by omega)) (h 27 (by omega)) (h 28 (by omega)) (h 29 (by omega)) (by rw [h 21 (by omega)]; exact Nat.le_refl _) (by rw [h 21 (by omega)]; exact J.2.2.1) (fun p hp => by rw [h 0 (by omega), h 21 (by omega)]; exact (J.2.2.2.2.1 p hp).1)
theorem iq_go {a : cq_S} (I : iq_I a) {p : Nat} (hp : p < a 20 0) : ∀ d, iq_I (mq_go p d a) ∧ mq_go p d a 20 0 = a 20 0 := by
  intro d
  induction d with
  | zero => exact ⟨I, rfl⟩
  | succ d ih =>
    obtain ⟨h1, h2⟩ := ih
    have hp' : p < mq_go p d a 20 0 := by rw [h2]; exact hp
    refine ⟨iq_step h1 hp', ?_⟩
    show (mq_step (mq_go p d a) p).1 20 0 = a 20 0
    rw [← h2]
    generalize mq_go p d a = b
    have en : ∀ (x : cq_S) r, mq_enter x p r 20 0 = x 20 0 := fun x r => mq_enter_k _ _ _ _ _ (by omega)
    have al : ∀ (x : cq_S) k c r w j, mq_all x k p c r w j 20 0 = x 20 0 := fun x k c r w j => mq_all_k _ _ _ _ _ _ _ _ _ (by decide)
    have pu : ∀ (x : cq_S) k q c r w, mq_put x k p q c r w 20 0 = x 20 0 := fun x k q c r w => mq_put_k _ _ _ _ _ _ _ _ _ (by decide)
    have vo : ∀ (x : cq_S) y, mq_vote x p y 20 0 = x 20 0 := fun x y => by unfold mq_vote; rw [en, pu]
    unfold mq_step
    repeat' split
    · show mq_finish b p 20 0 = b 20 0
      unfold mq_finish
      rw [cq_p_k _ (by decide), cq_p_k _ (by decide), cq_p_k _ (by decide), cq_p_k _ (by decide), cq_p_k _ (by decide), mq_fin_k _ _ _ _ _ _ (by decide)]
    · show mq_enter _ p 1 20 0 = b 20 0
      rw [en, cq_p_k _ (by decide), cq_p_k _ (by decide)]
    · show mq_mk b p _ 20 0 = b 20 0
      unfold mq_mk mq_toAll
      rw [cq_p_k _ (by decide), pu, al, cq_p_k _ (by decide), cq_p_k _ (by decide)]
    · unfold mq_await
      cases mq_offer b p (b 23 0) with
      | some i => show mq_vote _ p 1 20 0 = b 20 0; rw [vo, cq_p_k _ (by decide), cq_p_k _ (by decide)]
      | none =>
        show (if b 5 p / 2 ^ mq_ldr b (b 8 p) % 2 = 1 then (mq_vote b p 0, 1) else (b, 0)).1 20 0 = b 20 0
        split
        · exact vo _ _
        · rfl
    · exact en _ _
    · show mq_learn b p _ _ 20 0 = b 20 0
      unfold mq_learn mq_toAll
      rw [al, cq_p_k _ (by decide)]
    · rfl
/-- a broadcast -/
theorem iq_b0 {a : cq_S} (I : iq_I a) {p : Nat} (hp : p < a 20 0) (hm : ¬ a 21 0 = 8) (h10 : a 10 p ≤ 10) : iq_I (mq_b0 a p) := by
  obtain ⟨J, L⟩ := I
  have hm8 := J.2.2.1
  have e21 : cq_p (cq_p a 21 0 (a 21 0 + 1)) 0 p (a 0 p ||| 2 ^ a 21 0) 21 0 = a 21 0 + 1 := by rw [cq_p_k _ (by decide), cq_p_s]
  have lo : ∀ k, k < 12 ∨ (20 ≤ k ∧ k < 23) → k ≠ 0 → k ≠ 21 → mq_b0 a p k = a k := by
    intro k h h0 h21
    unfold mq_b0 mq_toAll
    rw [mq_all_f _ _ _ _ _ _ _ _ h, cq_p_f _ h0, cq_p_f _ h21]
  have gh : ∀ k, 25 ≤ k ∧ k < 34 → mq_b0 a p k = a k := by
    intro k h
    funext x
    unfold mq_b0 mq_toAll
    rw [mq_all_gk _ _ _ _ _ _ _ _ _ (Or.inl rfl) h, cq_p_k _ (by omega), cq_p_k _ (by omega)]
  have b21 : mq_b0 a p 21 0 = a 21 0 + 1 := by
    unfold mq_b0 mq_toAll
    rw [mq_all_k _ _ _ _ _ _ _ _ _ (by decide), e21]
  refine ⟨jq_know J (lo 20 (by omega) (by decide) (by decide)) (lo 1 (by omega) (by decide) (by decide)) (lo 2 (by omega) (by decide) (by decide)) (lo 4 (by omega) (by decide) (by decide)) (lo 6 (by omega) (by decide) (by decide)) (lo 7 (by omega) (by decide) (by decide)) (lo 8 (by omega) (by decide) (by decide)) (lo 9 (by omega) (by decide) (by decide)) (lo 10 (by omega) (by decide) (by decide)) (gh 25 (by omega)) (gh 26 (by omega)) (gh 27 (by omega)) (gh 28 (by omega)) (gh 29 (by omega)) (by rw [b21]; omega) (by rw [b21]; omega) ?_, ?_⟩
  · intro q hq
    rw [b21]
    have h1 := (J.2.2.2.2.1 q hq).1
    have h2 : (2 : Nat) ^ a 21 0 < 2 ^ (a 21 0 + 1) := Nat.pow_lt_pow_right (by decide) (by omega)
    unfold mq_b0 mq_toAll
    rw [mq_all_k _ _ _ _ _ _ _ _ _ (by decide)]
    by_cases hqp : q = p
    · subst hqp
      rw [cq_p_s]
      exact Nat.or_lt_two_pow (Nat.lt_trans h1 h2) h2
    · rw [cq_p_i _ hqp, cq_p_k _ (by decide)]
      exact Nat.lt_trans h1 h2
  · unfold mq_b0 mq_toAll
    refine lq_all15 (a := cq_p (cq_p a 21 0 (a 21 0 + 1)) 0 p (a 0 p ||| 2 ^ a 21 0)) (lq_same L (fun k hk => by rw [cq_p_f _ (by omega), cq_p_f _ (by omega)]) (by rw [e21]; omega)) J.2.1 (Or.inl rfl) hp (by decide) (by omega) h10 (fun _ => ⟨by rw [e21]; omega, rfl⟩) (fun e => absurd e (by decide)) (a 20 0) (Nat.le_refl _)
/-- a suspicion -/
theorem iq_s0 {a : cq_S} (I : iq_I a) (p q y : Nat) : iq_I (mq_s0 a p q y) :=
  ⟨jq_same I.1 (fun k hk => cq_p_f _ (by omega)), lq_same I.2 (fun k hk => cq_p_f _ (by omega)) (Nat.le_refl _)⟩
/-- a delivery -/
theorem iq_d0 {a : cq_S} (I : iq_I a) {q i : Nat} (hi : i < a 23 0) (h0 : a 19 i = 0) (hto : a 14 i = q) (h10 : a 10 q ≤ 10) : iq_I (mq_d0 a q i) := by
  obtain ⟨J, L⟩ := I
  obtain ⟨bi, e1, e2, e3, e4, e5⟩ := L.1 i hi
  have hq : q < a 20 0 := by rw [← hto]; exact bi.2.2.2.1
  have hk := bi.1
  have hk5 := bi.2.1
  unfold mq_d0
  by_cases c1 : a 12 i = 1
  · rw [if_pos c1]
    have hw := e1 c1
    have hm8 := J.2.2.1
    by_cases c2 : a 0 q / 2 ^ a 17 i % 2 = 0
    · rw [if_pos c2]
      have lo : ∀ k, k < 12 ∨ (20 ≤ k ∧ k < 23) → k ≠ 0 → mq_toAll (cq_p (cq_p a 19 i 2) 0 q (a 0 q ||| 2 ^ a 17 i)) 1 q 0 0 (a 17 i) k = a k := by
        intro k h h0
        unfold mq_toAll
        rw [mq_all_f _ _ _ _ _ _ _ _ h, cq_p_f _ h0, cq_p_f _ (by omega)]
      have gh : ∀ k, 25 ≤ k ∧ k < 34 → mq_toAll (cq_p (cq_p a 19 i 2) 0 q (a 0 q ||| 2 ^ a 17 i)) 1 q 0 0 (a 17 i) k = a k := by
        intro k h
        funext x
        unfold mq_toAll
        rw [mq_all_gk _ _ _ _ _ _ _ _ _ (Or.inl rfl) h, cq_p_k _ (by omega), cq_p_k _ (by omega)]
      refine ⟨jq_know J (lo 20 (by omega) (by decide)) (lo 1 (by omega) (by decide)) (lo 2 (by omega) (by decide)) (lo 4 (by omega) (by decide)) (lo 6 (by omega) (by decide)) (lo 7 (by omega) (by decide)) (lo 8 (by omega) (by decide)) (lo 9 (by omega) (by decide)) (lo 10 (by omega) (by decide)) (gh 25 (by omega)) (gh 26 (by omega)) (gh 27 (by omega)) (gh 28 (by omega)) (gh 29 (by omega)) (by rw [lo 21 (by omega) (by decide)]; exact Nat.le_refl _) (by rw [lo 21 (by omega) (by decide)]; exact hm8) ?_, ?_⟩
      · intro p hp
        rw [lo 21 (by omega) (by decide)]
        have h1 := (J.2.2.2.2.1 p hp).1
        unfold mq_toAll
        rw [mq_all_k _ _ _ _ _ _ _ _ _ (by decide)]
        by_cases hqp : p = q
        · subst hqp
          rw [cq_p_s]
          exact Nat.or_lt_two_pow h1 (Nat.pow_lt_pow_right (by decide) hw.1)
        · rw [cq_p_i _ hqp, cq_p_k _ (by decide)]
          exact h1
      · unfold mq_toAll
        refine lq_all15 (a := cq_p (cq_p a 19 i 2) 0 q (a 0 q ||| 2 ^ a 17 i)) (lq_same (lq_mark2 L h0) (fun k hk => cq_p_f _ (by omega)) (Nat.le_refl _)) J.2.1 (Or.inl rfl) hq (by decide) (by omega) h10 (fun _ => ⟨hw.1, rfl⟩) (fun e => absurd e (by decide)) (a 20 0) (Nat.le_refl _)
    · rw [if_neg c2]
      exact ⟨jq_same J (fun k hk => cq_p_f _ (by omega)), lq_mark2 L h0⟩
  · rw [if_neg c1]
    by_cases c5 : a 12 i = 5
    · rw [if_pos c5]
      obtain ⟨hVs, -, -⟩ := e5 c5
      have J2 : jq_J (cq_p a 19 i 2) := jq_same J (fun k hk => cq_p_f _ (by omega))
      have hVs2 : jq_Vs (cq_p a 19 i 2) (a 15 i) (a 17 i) := jq_Vs_of (cq_p_f _ (by decide)) (cq_p_f _ (by decide)) (cq_p_f _ (by decide)) hVs
      by_cases c6 : a 6 (8 * q + a 15 i) = 0
      · rw [if_pos c6]
        refine ⟨jq_learnJ J2 hq bi.2.2.2.2.2.1 hVs2 c6, ?_⟩
        unfold mq_learn mq_toAll
        exact lq_all15 (a := cq_p (cq_p a 19 i 2) 6 (8 * q + a 15 i) (a 17 i)) (lq_same (lq_mark2 L h0) (fun k hk => cq_p_f _ (by omega)) (Nat.le_refl _)) J.2.1 (Or.inr rfl) hq bi.2.2.2.2.2.1 bi.2.2.2.2.2.2.2.1 h10 (fun e => absurd e (by decide)) (fun _ => jq_Vs_of (cq_p_f _ (by decide)) (cq_p_f _ (by decide)) (cq_p_f _ (by decide)) hVs2) (a 20 0) (Nat.le_refl _)
      · rw [if_neg c6]
        exact ⟨J2, lq_mark2 L h0⟩
    · rw [if_neg c5, if_pos (by omega)]
      refine ⟨jq_same J (fun k hk => ?_), ?_⟩
      · unfold mq_kp
        repeat' split
        all_goals first | rw [cq_p_f _ (by omega), cq_p_f _ (by omega)] | rw [cq_p_f _ (by omega)]
      · rw [← hto]
        exact lq_mark1 L J.2.1 hi h0 (by omega)
/-- a crash -/
theorem iq_lose (p : Nat) : ∀ d m (b : cq_S), iq_I b → iq_I (mq_lose p d m b)
  | 0, _, b, I => I
  | d + 1, m, b, I => by
    unfold mq_lose
    split
    · exact I
    · split
      · rename_i h
        exact iq_lose p d _ _ ⟨jq_same I.1 (fun k hk => cq_p_f _ (by omega)), lq_mark2 I.2 h.1⟩
      · exact iq_lose p d m b I
theorem iq_c0 {a : cq_S} (I : iq_I a) (p v : Nat) : iq_I (cq_p (cq_p a 11 p 1) 22 0 v) :=
  ⟨jq_same I.1 (fun k hk => by rw [cq_p_f _ (by omega), cq_p_f _ (by omega)]), lq_same I.2 (fun k hk => by rw [cq_p_f _ (by omega), cq_p_f _ (by omega)]) (Nat.le_refl _)⟩
/-- the start -/
theorem iq_new {n : Nat} (h3 : 3 ≤ n) (h5 : n ≤ 5) : iq_I (cq_p (fun _ _ => 0) 20 0 n) := by
  have e20 : cq_p (fun _ _ => 0) 20 0 n 20 0 = n := cq_p_s _ _ _ _
  have z : ∀ k i, k ≠ 20 → cq_p (fun _ _ => 0) 20 0 n k i = 0 := fun k i h => cq_p_k _ h
  refine ⟨⟨by rw [e20]; exact h3, by rw [e20]; exact h5, by rw [z _ _ (by decide)]; omega, fun p _ => Or.inl (z _ _ (by decide)), fun p _ => ?_, fun c r p _ _ => ?_, fun c r _ h => absurd (z _ _ (by decide)) h⟩, fun i hi => ?_, fun c r q _ _ => ?_, fun i j hi => ?_⟩
  · refine ⟨by rw [z _ _ (by decide), z _ _ (by decide)]; decide, by rw [z _ _ (by decide)]; omega, fun k hk => ?_, fun k _ h => absurd (z _ _ (by decide)) h, fun b => ?_, by rw [z _ _ (by decide), z _ _ (by decide)]; decide, by rw [z _ _ (by decide)]; omega, by rw [z _ _ (by decide)]; decide⟩
    · rw [z _ _ (by decide)] at hk; omega
    · rw [z 1 _ (by decide), z 4 _ (by decide), Nat.zero_testBit]
      constructor
      · intro h; cases h
      · rintro ⟨k, hk, -⟩; omega
  · exact ⟨fun h => absurd (z _ _ (by decide)) h, fun h => by rcases h with h | h <;> exact absurd (z _ _ (by decide)) h, fun h => absurd (z _ _ (by decide)) h⟩
  · rw [z _ _ (by decide)] at hi; omega
  · exact ⟨fun h => absurd (z _ _ (by decide)) h, fun h => absurd (z _ _ (by decide)) h, fun h => absurd (z _ _ (by decide)) h, fun h => absurd (z _ _ (by decide)) h⟩
  · rw [z _ _ (by decide)] at hi; omega
