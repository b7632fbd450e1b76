/-! All that holds of the reference's state, between calls and within. -/
def xq_I (a : cq_S) : Prop := iq_I a ∧ pq_P 0 a ∧ pq_P 1 a ∧ bq_n a ∧ bq_B a ∧ a 22 0 ≤ (a 20 0 - 1) / 2
theorem xq_cnt {a : cq_S} (X : xq_I a) : a 23 0 ≤ 1440 ∧ a 34 0 ≤ gq_room (a 20 0) := by
  obtain ⟨I, P0, P1, hn, B, -⟩ := X
  have h1 := pq_bound I.1 1 (by decide) P1
  have h0 := pq_bound I.1 0 (by decide) P0
  have t1 := pq_top_1 (a 20 0) I.1.2.1 I.1.1
  have t0 := pq_top_0 (a 20 0) I.1.2.1 I.1.1
  unfold pq_Z at h0 h1
  unfold bq_n at hn
  omega
theorem mq_step_k (a : cq_S) (p : Nat) {k : Nat} (hk : k = 20 ∨ k = 21 ∨ k = 22) : (mq_step a p).1 k 0 = a k 0 := by
  have en : ∀ (x : cq_S) r, mq_enter x p r k 0 = x k 0 := fun x r => mq_enter_k _ _ _ _ _ (by omega)
  have al : ∀ (x : cq_S) k0 c r w j, mq_all x k0 p c r w j k 0 = x k 0 := fun x k0 c r w j => mq_all_k _ _ _ _ _ _ _ _ _ (by omega)
  have pu : ∀ (x : cq_S) k0 q c r w, mq_put x k0 p q c r w k 0 = x k 0 := fun x k0 q c r w => mq_put_k _ _ _ _ _ _ _ _ _ (by omega)
  have vo : ∀ (x : cq_S) y, mq_vote x p y k 0 = x k 0 := fun x y => by unfold mq_vote; rw [en, pu]
  unfold mq_step
  repeat' split
  · show mq_finish a p k 0 = a k 0
    unfold mq_finish
    rw [cq_p_k _ (by omega), cq_p_k _ (by omega), cq_p_k _ (by omega), cq_p_k _ (by omega), cq_p_k _ (by omega), mq_fin_k _ _ _ _ _ _ (by omega)]
  · show mq_enter _ p 1 k 0 = a k 0
    rw [en, cq_p_k _ (by omega), cq_p_k _ (by omega)]
  · show mq_mk a p _ k 0 = a k 0
    unfold mq_mk mq_toAll
    rw [cq_p_k _ (by omega), pu, al, cq_p_k _ (by omega), cq_p_k _ (by omega)]
  · unfold mq_await
    cases mq_offer a p (a 23 0) with
    | some i => show mq_vote _ p 1 k 0 = a k 0; rw [vo, cq_p_k _ (by omega), cq_p_k _ (by omega)]
    | none =>
      show (if a 5 p / 2 ^ mq_ldr a (a 8 p) % 2 = 1 then (mq_vote a p 0, 1) else (a, 0)).1 k 0 = a k 0
      split
      · exact vo _ _
      · rfl
  · exact en _ _
  · show mq_learn a p _ _ k 0 = a k 0
    unfold mq_learn mq_toAll
    rw [al, cq_p_k _ (by omega)]
  · rfl
theorem xq_step {a : cq_S} (X : xq_I a) {p : Nat} (hp : p < a 20 0) : xq_I (mq_step a p).1 := by
  have hc := (xq_cnt X).1
  obtain ⟨I, P0, P1, hn, B, hg⟩ := X
  exact ⟨iq_step I hp, pq_step (by decide) I P0 hp, pq_step (by decide) I P1 hp, mq_step_ind bq_nc bq_nu hn p, bq_step I B (by omega) hp, by rw [mq_step_k a p (by omega), mq_step_k a p (by omega)]; exact hg⟩
theorem xq_go {a : cq_S} (X : xq_I a) {p : Nat} (hp : p < a 20 0) : ∀ d, xq_I (mq_go p d a) ∧ mq_go p d a 20 0 = a 20 0 := by
  intro d
  induction d with
  | zero => exact ⟨X, rfl⟩
  | succ d ih =>
    have hp' : p < mq_go p d a 20 0 := by rw [ih.2]; exact hp
    exact ⟨xq_step ih.1 hp', (mq_step_k _ p (by omega)).trans ih.2⟩
theorem xq_sok {a : cq_S} (X : xq_I a) {p : Nat} (hp : p < a 20 0) : mq_sok a p := by
  have hc := (xq_cnt X).1
  obtain ⟨⟨J, L⟩, P0, P1, hn, ⟨hB, hv⟩, hg⟩ := X
  have hn3 := J.1
  have hn5 := J.2.1
  obtain ⟨v0, v2, v5, v9, v10⟩ := hv p
  have own := J.2.2.2.2.1 p hp
  refine ⟨hB, by omega, by omega, hn5, by omega, v0, own.2.2.2.2.2.2.2, v2, own.2.1, v9, by omega, fun h => ?_, fun i hi => ?_, fun h8 hw => jq_fin8 J hp h8 hw⟩
  · obtain ⟨d1, d2, d3, d4, d5, d6, d7, d8, d9, d10⟩ := jq_at J hp (by omega)
    exact ⟨d1, d2, d6 (by omega)⟩
  · have := (L.1 i hi).1.2.2.2.2.2.2.2.1
    omega
theorem xq_bas {a : cq_S} (X : xq_I a) : mq_bas a := by
  have hc := (xq_cnt X).1
  obtain ⟨⟨J, L⟩, P0, P1, hn, ⟨hB, hv⟩, hg⟩ := X
  refine ⟨hB, J.1, J.2.1, by omega, J.2.2.1, fun p _ => ?_, fun i hi => ?_, by have := J.2.1; omega⟩
  · obtain ⟨v0, v2, v5, v9, v10⟩ := hv p
    exact ⟨v0, by omega, v5, v2⟩
  · obtain ⟨e0, e1, -⟩ := L.1 i hi
    have := J.2.2.1
    exact ⟨e0.2.2.2.2.2.1, e0.2.2.2.2.2.2.2.1, by have := e0.2.1; omega, fun h => by have := (e1 h).1; omega⟩
theorem jq_pop_2 : ∀ m, m < 8 → jq_pop (2 ^ m) = 1 := by decide +kernel
theorem jq_and_2 {x m : Nat} (h : x / 2 ^ m % 2 = 0) : x &&& 2 ^ m = 0 := by
  apply Nat.eq_of_testBit_eq
  intro i
  rw [Nat.testBit_and, Nat.testBit_two_pow, Nat.zero_testBit]
  by_cases hi : m = i
  · subst hi
    have h2 := jq_bit x m
    rw [h] at h2
    have h3 : ¬ x.testBit m = true := fun hb => by rw [if_pos hb] at h2; omega
    simp [h3]
  · simp [hi]
/-- one more message is known, and told to all others -/
theorem pq_know {s : Nat} {a d : cq_S} (P : pq_P s a) {p m : Nat} (hp : p < a 20 0) (hm : m < 8) (hb : a 0 p / 2 ^ m % 2 = 0) (h20 : d 20 = a 20) (h4 : d 4 = a 4) (h6 : d 6 = a 6) (h7 : d 7 = a 7) (h8 : d 8 = a 8) (h0 : ∀ q, q ≠ p → d 0 q = a 0 q) (h0p : d 0 p = a 0 p ||| 2 ^ m) (hZ : pq_Z s d = pq_Z s a) (w : Nat) : pq_P s (mq_toAll d 1 p 0 0 w) := by
  have lo : ∀ k', k' < 12 ∨ (20 ≤ k' ∧ k' < 23) → mq_toAll d 1 p 0 0 w k' = d k' := fun k' h => mq_all_f _ _ _ _ _ _ _ _ h
  refine pq_more P hp (by rw [lo 20 (by omega), h20]) ?_ (by rw [lo 4 (by omega), h4]) (by rw [lo 7 (by omega), h7]) (by rw [lo 8 (by omega), h8]) (fun q hq => by rw [lo 0 (by omega), h0 q hq]) (fun q k _ _ => by rw [lo 6 (by omega), h6]) ?_
  · rw [pq_Zall s d (by decide) (by rw [h20]; exact hp), hZ, h20]
  · rw [lo 0 (by omega), lo 6 (by omega), h0p, h6, jq_pop_or (jq_and_2 hb), jq_pop_2 m hm]
    omega
theorem xq_b0 {a : cq_S} (X : xq_I a) {p : Nat} (hp : p < a 20 0) (hm : ¬ a 21 0 = 8) : xq_I (mq_b0 a p) ∧ mq_b0 a p 20 0 = a 20 0 := by
  have hc := (xq_cnt X).1
  obtain ⟨I, P0, P1, hn, ⟨hB, hv⟩, hg⟩ := X
  have hn5 := I.1.2.1
  have hm8 := I.1.2.2.1
  obtain ⟨v0, v2, v5, v9, v10⟩ := hv p
  have h21 := (I.1.2.2.2.2.1 p hp).1
  have hbit : a 0 p / 2 ^ a 21 0 % 2 = 0 := by rw [Nat.div_eq_of_lt h21]
  have lo : ∀ k' i, k' < 12 ∨ (20 ≤ k' ∧ k' < 23) → k' ≠ 0 → k' ≠ 21 → mq_b0 a p k' i = a k' i := by
    intro k' i h h0 h21
    unfold mq_b0 mq_toAll
    rw [mq_all_k _ _ _ _ _ _ _ _ _ h, cq_p_k _ h0, cq_p_k _ h21]
  have pk : ∀ s, pq_P s a → pq_P s (mq_b0 a p) := fun s P => by
    unfold mq_b0
    refine pq_know P hp (show a 21 0 < 8 by omega) hbit (by rw [cq_p_f _ (by decide), cq_p_f _ (by decide)]) (by rw [cq_p_f _ (by decide), cq_p_f _ (by decide)]) (by rw [cq_p_f _ (by decide), cq_p_f _ (by decide)]) (by rw [cq_p_f _ (by decide), cq_p_f _ (by decide)]) (by rw [cq_p_f _ (by decide), cq_p_f _ (by decide)]) (fun q hq => by rw [cq_p_i _ hq, cq_p_k _ (by decide)]) (cq_p_s _ _ _ _) (by unfold pq_Z; rw [cq_p_k _ (by decide), cq_p_k _ (by decide), cq_p_k _ (by decide), cq_p_k _ (by decide)]) _
  have hor : a 0 p ||| 2 ^ a 21 0 < 256 := Nat.or_lt_two_pow (n := 8) v0 (Nat.pow_lt_pow_right (by decide) (by omega))
  refine ⟨⟨iq_b0 I hp hm v10, pk 0 P0, pk 1 P1, mq_b0_ind bq_nc bq_nu hn p, ⟨?_, fun q => ?_⟩, by rw [lo 22 0 (by omega) (by decide) (by decide), lo 20 0 (by omega) (by decide) (by decide)]; exact hg⟩, lo 20 0 (by omega) (by decide) (by decide)⟩
  · unfold mq_b0 mq_toAll
    exact mq_all_B (a := cq_p (cq_p a 21 0 (a 21 0 + 1)) 0 p (a 0 p ||| 2 ^ a 21 0)) ((hB.put (by omega)).put (by omega)) (by decide) (by omega) (by decide) (by decide) (by omega) (show a 23 0 ≤ 1000000 by omega) _ (show a 20 0 ≤ 1000000 by omega)
  · rw [lo 2 q (by omega) (by decide) (by decide), lo 5 q (by omega) (by decide) (by decide), lo 9 q (by omega) (by decide) (by decide), lo 10 q (by omega) (by decide) (by decide)]
    refine ⟨?_, (hv q).2⟩
    unfold mq_b0 mq_toAll
    rw [mq_all_k _ _ _ _ _ _ _ _ _ (by decide)]
    by_cases hq : q = p
    · subst hq; rw [cq_p_s]; exact hor
    · rw [cq_p_i _ hq, cq_p_k _ (by decide)]; exact (hv q).1
theorem xq_s0 {a : cq_S} (X : xq_I a) {p q y : Nat} (hq : q < 8) : xq_I (mq_s0 a p q y) ∧ mq_s0 a p q y 20 0 = a 20 0 := by
  obtain ⟨I, P0, P1, hn, ⟨hB, hv⟩, hg⟩ := X
  have h5 : (if y = 0 then cq_an (a 5 p) (2 ^ q) else a 5 p ||| 2 ^ q) < 256 := by
    have v5 := (hv p).2.2.1
    split
    · exact cq_an_256 v5
    · exact Nat.or_lt_two_pow (n := 8) v5 (Nat.pow_lt_pow_right (by decide) hq)
  have ps : ∀ s, pq_P s a → pq_P s (mq_s0 a p q y) := fun s P => pq_same P rfl rfl (cq_p_f _ (by decide)) (cq_p_f _ (by decide)) (cq_p_f _ (by decide)) (cq_p_f _ (by decide)) (cq_p_f _ (by decide))
  refine ⟨⟨iq_s0 I p q y, ps 0 P0, ps 1 P1, bq_nc _ _ _ _ (by decide) (by decide) (by decide) hn, ⟨hB.put (by omega), fun x => ?_⟩, hg⟩, rfl⟩
  refine ⟨(hv x).1, (hv x).2.1, ?_, (hv x).2.2.2.1, (hv x).2.2.2.2⟩
  unfold mq_s0
  by_cases hx : x = p
  · rw [hx, cq_p_s]; exact h5
  · rw [cq_p_i _ hx]; exact (hv x).2.2.1
/-- a delivery -/
theorem xq_d0 {a : cq_S} (X : xq_I a) {q i : Nat} (hi : i < a 23 0) (h0 : a 19 i = 0) (hto : a 14 i = q) : xq_I (mq_d0 a q i) ∧ mq_d0 a q i 20 0 = a 20 0 := by
  have hc := (xq_cnt X).1
  obtain ⟨I, P0, P1, hn, ⟨hB, hv⟩, hg⟩ := X
  have hn5 := I.1.2.1
  have hm8 := I.1.2.2.1
  obtain ⟨bi, e1, e2, e3, e4, e5⟩ := I.2.1 i hi
  have hq : q < a 20 0 := by rw [← hto]; exact bi.2.2.2.1
  have hw := bi.2.2.2.2.2.2.2.1
  have hcc := bi.2.2.2.2.2.1
  obtain ⟨v0, v2, v5, v9, v10⟩ := hv q
  have ix := iq_d0 I hi h0 hto v10
  have nx := mq_d0_ind bq_nc bq_nu hn q i
  -- what is left to show
  suffices h : (∀ s, pq_P s a → pq_P s (mq_d0 a q i)) ∧ cq_B (mq_d0 a q i) ∧ (∀ x, mq_d0 a q i 0 x < 256) ∧ (∀ k x, k = 2 ∨ k = 5 ∨ k = 9 ∨ k = 10 ∨ k = 20 ∨ k = 22 → mq_d0 a q i k x = a k x) by
    obtain ⟨g1, g2, g3, g4⟩ := h
    refine ⟨⟨ix, g1 0 P0, g1 1 P1, nx, ⟨g2, fun x => ?_⟩, by rw [g4 22 0 (by omega), g4 20 0 (by omega)]; exact hg⟩, g4 20 0 (by omega)⟩
    rw [g4 2 x (by omega), g4 5 x (by omega), g4 9 x (by omega), g4 10 x (by omega)]
    exact ⟨g3 x, (hv x).2⟩
  have p19 : ∀ s v, pq_P s a → pq_P s (cq_p a 19 i v) := fun s v P => pq_same P rfl rfl (cq_p_f _ (by decide)) (cq_p_f _ (by decide)) (cq_p_f _ (by decide)) (cq_p_f _ (by decide)) (cq_p_f _ (by decide))
  have base : ∀ v, v < 2147483648 → cq_B (cq_p a 19 i v) ∧ (∀ x, cq_p a 19 i v 0 x < 256) ∧ (∀ k x, k = 2 ∨ k = 5 ∨ k = 9 ∨ k = 10 ∨ k = 20 ∨ k = 22 → cq_p a 19 i v k x = a k x) := fun v hv' => ⟨hB.put hv', fun x => (hv x).1, fun k x hk => cq_p_k _ (by omega)⟩
  unfold mq_d0
  by_cases c1 : a 12 i = 1
  · rw [if_pos c1]
    have hw8 := (e1 c1).1
    by_cases c2 : a 0 q / 2 ^ a 17 i % 2 = 0
    · rw [if_pos c2]
      have hor : a 0 q ||| 2 ^ a 17 i < 256 := Nat.or_lt_two_pow (n := 8) v0 (Nat.pow_lt_pow_right (by decide) (by omega))
      refine ⟨fun s P => pq_know P hq (show a 17 i < 8 by omega) c2 (by rw [cq_p_f _ (by decide), cq_p_f _ (by decide)]) (by rw [cq_p_f _ (by decide), cq_p_f _ (by decide)]) (by rw [cq_p_f _ (by decide), cq_p_f _ (by decide)]) (by rw [cq_p_f _ (by decide), cq_p_f _ (by decide)]) (by rw [cq_p_f _ (by decide), cq_p_f _ (by decide)]) (fun x hx => by rw [cq_p_i _ hx, cq_p_k _ (by decide)]) (cq_p_s _ _ _ _) (by unfold pq_Z; rw [cq_p_k _ (by decide), cq_p_k _ (by decide), cq_p_k _ (by decide), cq_p_k _ (by decide)]) _, ?_, fun x => ?_, fun k x hk => ?_⟩
      · unfold mq_toAll
        exact mq_all_B (a := cq_p (cq_p a 19 i 2) 0 q (a 0 q ||| 2 ^ a 17 i)) ((hB.put (by decide)).put (by omega)) (by decide) (by omega) (by decide) (by decide) (by omega) (show a 23 0 ≤ 1000000 by omega) _ (show a 20 0 ≤ 1000000 by omega)
      · unfold mq_toAll
        rw [mq_all_k _ _ _ _ _ _ _ _ _ (by decide)]
        by_cases hx : x = q
        · rw [hx, cq_p_s]; exact hor
        · rw [cq_p_i _ hx, cq_p_k _ (by decide)]; exact (hv x).1
      · unfold mq_toAll
        rw [mq_all_k _ _ _ _ _ _ _ _ _ (by omega), cq_p_k _ (by omega), cq_p_k _ (by omega)]
    · rw [if_neg c2]
      exact ⟨fun s P => p19 s 2 P, base 2 (by decide)⟩
  · rw [if_neg c1]
    by_cases c5 : a 12 i = 5
    · rw [if_pos c5]
      by_cases c6 : a 6 (8 * q + a 15 i) = 0
      · rw [if_pos c6]
        refine ⟨fun s P => pq_learn (p19 s 2 P) hq hcc c6 (e5 c5).1.1, ?_, fun x => ?_, fun k x hk => ?_⟩
        · unfold mq_learn mq_toAll
          exact mq_all_B (a := cq_p (cq_p a 19 i 2) 6 (8 * q + a 15 i) (a 17 i)) ((hB.put (by decide)).put (by omega)) (by decide) (by omega) (by omega) (by decide) (by omega) (show a 23 0 ≤ 1000000 by omega) _ (show a 20 0 ≤ 1000000 by omega)
        · unfold mq_learn mq_toAll
          rw [mq_all_k _ _ _ _ _ _ _ _ _ (by decide), cq_p_k _ (by decide), cq_p_k _ (by decide)]; exact (hv x).1
        · unfold mq_learn mq_toAll
          rw [mq_all_k _ _ _ _ _ _ _ _ _ (by omega), cq_p_k _ (by omega), cq_p_k _ (by omega)]
      · rw [if_neg c6]
        exact ⟨fun s P => p19 s 2 P, base 2 (by decide)⟩
    · rw [if_neg c5, if_pos (by have := bi.1; have := bi.2.1; omega)]
      have kk : ∀ k x, k < 30 ∨ 34 ≤ k → mq_kp (cq_p a 19 i 1) (a 12 i) (a 15 i) (a 16 i) (a 13 i) q (a 17 i) k x = cq_p a 19 i 1 k x := by
        intro k x hk
        unfold mq_kp
        repeat' split
        all_goals first | rfl | exact cq_p_k _ (by omega)
      have kf : ∀ k, k < 30 ∨ 34 ≤ k → mq_kp (cq_p a 19 i 1) (a 12 i) (a 15 i) (a 16 i) (a 13 i) q (a 17 i) k = cq_p a 19 i 1 k := fun k hk => funext (fun x => kk k x hk)
      obtain ⟨g1, g2, g3⟩ := base 1 (by decide)
      refine ⟨fun s P => pq_same (p19 s 1 P) (kk 20 0 (by omega)) (by unfold pq_Z; rw [kk 34 0 (by omega), kk 35 0 (by omega)]) (kf 0 (by omega)) (kf 6 (by omega)) (kf 4 (by omega)) (kf 7 (by omega)) (kf 8 (by omega)), fun k x hk => by rw [kk k x (by omega)]; exact g1 k x hk, fun x => by rw [kk 0 x (by omega)]; exact g2 x, fun k x hk => by rw [kk k x (by omega)]; exact g3 k x hk⟩
/-- a crash -/
theorem xq_lose (p : Nat) : ∀ d m (b : cq_S), xq_I b → xq_I (mq_lose p d m b) ∧ mq_lose p d m b 20 0 = b 20 0
  | 0, _, b, X => ⟨X, rfl⟩
  | d + 1, m, b, X => by
    unfold mq_lose
    split
    · exact ⟨X, rfl⟩
    · split
      · rename_i h
        obtain ⟨I, P0, P1, hn, ⟨hB, hv⟩, hg⟩ := X
        have ps : ∀ s, pq_P s b → pq_P s (cq_p b 19 d 2) := fun s P => pq_same P rfl rfl (cq_p_f _ (by decide)) (cq_p_f _ (by decide)) (cq_p_f _ (by decide)) (cq_p_f _ (by decide)) (cq_p_f _ (by decide))
        exact xq_lose p d _ _ ⟨⟨jq_same I.1 (fun k hk => cq_p_f _ (by omega)), lq_mark2 I.2 h.1⟩, ps 0 P0, ps 1 P1, bq_nc _ _ _ _ (by decide) (by decide) (by decide) hn, ⟨hB.put (by decide), hv⟩, hg⟩
      · exact xq_lose p d m b X
theorem xq_c0 {a : cq_S} (X : xq_I a) (p : Nat) (h : ¬ a 22 0 = (a 20 0 - 1) / 2) : xq_I (cq_p (cq_p a 11 p 1) 22 0 (a 22 0 + 1)) := by
  obtain ⟨I, P0, P1, hn, ⟨hB, hv⟩, hg⟩ := X
  have hn5 := I.1.2.1
  have ps : ∀ s, pq_P s a → pq_P s (cq_p (cq_p a 11 p 1) 22 0 (a 22 0 + 1)) := fun s P => pq_same P rfl rfl (by rw [cq_p_f _ (by decide), cq_p_f _ (by decide)]) (by rw [cq_p_f _ (by decide), cq_p_f _ (by decide)]) (by rw [cq_p_f _ (by decide), cq_p_f _ (by decide)]) (by rw [cq_p_f _ (by decide), cq_p_f _ (by decide)]) (by rw [cq_p_f _ (by decide), cq_p_f _ (by decide)])
  refine ⟨iq_c0 I p _, ps 0 P0, ps 1 P1, bq_nc _ _ _ _ (by decide) (by decide) (by decide) (bq_nc _ _ _ _ (by decide) (by decide) (by decide) hn), ⟨(hB.put (by decide)).put (by omega), hv⟩, ?_⟩
  rw [cq_p_s, cq_p_k _ (by decide), cq_p_k _ (by decide)]
  omega
/-- the start -/
theorem xq_new {n : Nat} (h3 : 3 ≤ n) (h5 : n ≤ 5) : xq_I (cq_p (fun _ _ => 0) 20 0 n) := by
  refine ⟨iq_new h3 h5, Nat.zero_le _, Nat.zero_le _, rfl, ⟨?_, fun p => ?_⟩, Nat.zero_le _⟩
  · intro k i _
    show (if k = 20 then (if i = 0 then n else 0) else 0) < 2147483648
    repeat' split
    all_goals omega
  · exact ⟨Nat.zero_lt_succ _, Nat.zero_le _, Nat.zero_lt_succ _, Nat.zero_lt_succ _, Nat.zero_le _⟩
