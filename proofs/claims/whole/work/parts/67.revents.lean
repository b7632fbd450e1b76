/-! The relation through the events. -/
theorem rq_go {n : Nat} {g a : cq_S} (R : rq_R n g a) (X : xq_I a) {p : Nat} (hp : p < n) : ∀ d, rq_R n (gq_go p d g) (mq_go p d a) := by
  intro d
  induction d with
  | zero => exact R
  | succ d ih =>
    have h20 := R.1.1
    exact (rq_step ih (xq_go X (show p < a 20 0 by omega) d).1 hp).1
theorem rq_R_21 {n : Nat} {g a : cq_S} (R : rq_R n g a) {k : Nat} (hk : k = 21 ∨ k = 22) {v : Nat} (hv : v < 2147483648) : rq_R n (cq_p g k 0 v) (cq_p a k 0 v) := by
  obtain ⟨⟨h1, h2, h3, h4, h5, h6, h7⟩, W, P, B⟩ := R
  refine ⟨⟨by rw [cq_p_k _ (by omega)]; exact h1, by rw [cq_p_k _ (by omega)]; exact h2, ?_, ?_, fun k' q hk2 hq => ?_, fun q i hq hi => ?_, fun q i hq hi => ?_⟩, rq_W_o W (fun i => cq_p_k _ (by omega)) (fun i => cq_p_k _ (by omega)) (fun k i h => cq_p_k _ (by omega)), rq_P_o P (fun k i h1 h2 => cq_p_k _ (by omega)) (fun k i h => cq_p_k _ (by omega)), rq_B_o B (B.1.put hv) (fun k i h1 h2 => cq_p_k _ (by omega))⟩
  · rcases hk with hk | hk <;> subst hk
    · rw [cq_p_s, cq_p_s]
    · rw [cq_p_k _ (by omega), cq_p_k _ (by omega)]; exact h3
  · rcases hk with hk | hk <;> subst hk
    · rw [cq_p_k _ (by omega), cq_p_k _ (by omega)]; exact h4
    · rw [cq_p_s, cq_p_s]
  · have hk' : k' < 12 := by unfold rq_K at hk2; omega
    rw [cq_p_k _ (by omega), cq_p_k _ (by omega)]; exact h5 k' q hk2 hq
  · rw [cq_p_k _ (by omega), cq_p_k _ (by omega)]; exact h6 q i hq hi
  · rw [cq_p_k _ (by omega), cq_p_k _ (by omega)]; exact h7 q i hq hi
/-- what a process comes to know -/
theorem rq_learn {n : Nat} {g a : cq_S} (R : rq_R n g a) (hn : n ≤ 5) {p m : Nat} (hp : p < n) (hm : m < 8) (h0 : a 0 p < 256) (hb : a 0 p / 2 ^ m % 2 = 0) (hroom : mq_toAll (cq_p a 0 p (a 0 p ||| 2 ^ m)) 1 p 0 0 m 34 0 ≤ gq_room n) : rq_R n (gq_learn g p m) (mq_toAll (cq_p a 0 p (a 0 p ||| 2 ^ m)) 1 p 0 0 m) := by
  have e0 : g 0 p = a 0 p := R.1.2.2.2.2.1 0 p (by unfold rq_K; omega) hp
  unfold gq_learn
  rw [e0, if_pos hb]
  have : a 0 p ||| 2 ^ m < 2 ^ 8 := Nat.or_lt_two_pow h0 (Nat.pow_lt_pow_right (by decide) hm)
  exact rq_toAll (rq_R_p R (by unfold rq_K; omega) p (by omega)) hn hp (by decide) (by decide) (by decide) (by omega) (fun h => by omega) hroom
theorem rq_b0 {n : Nat} {g a : cq_S} (R : rq_R n g a) (X : xq_I a) {p : Nat} (hp : p < n) (hm : ¬ a 21 0 = 8) : rq_R n (gq_b0 g p) (mq_b0 a p) := by
  have J := X.1.1
  have h20 := R.1.1
  have hn : n ≤ 5 := by rw [← h20]; exact J.2.1
  have h8 := J.2.2.1
  have e21 := R.1.2.2.1
  have hroom := (xq_cnt (xq_b0 X (show p < a 20 0 by omega) hm).1).2
  rw [(xq_b0 X (show p < a 20 0 by omega) hm).2, h20] at hroom
  have h0 := (J.2.2.2.2.1 p (by omega)).1
  have R2 : rq_R n (cq_p g 21 0 (a 21 0 + 1)) (cq_p a 21 0 (a 21 0 + 1)) := rq_R_21 R (Or.inl rfl) (by omega)
  unfold gq_b0
  rw [e21]
  refine rq_learn (m := a 21 0) R2 hn hp (by omega) ?_ ?_ hroom
  · exact (X.2.2.2.2.1.2 p).1
  · show a 0 p / 2 ^ a 21 0 % 2 = 0
    rw [Nat.div_eq_of_lt h0]
theorem rq_s0 {n : Nat} {g a : cq_S} (R : rq_R n g a) (X : xq_I a) {p q y : Nat} (hp : p < n) (hq : q < 8) : rq_R n (mq_s0 g p q y) (mq_s0 a p q y) := by
  have e5 : g 5 p = a 5 p := R.1.2.2.2.2.1 5 p (by unfold rq_K; omega) hp
  have h5 := (X.2.2.2.2.1.2 p).2.2.1
  unfold mq_s0
  rw [e5]
  refine rq_R_p R (by unfold rq_K; omega) p ?_
  have h1 : a 5 p ||| 2 ^ q < 2 ^ 8 := Nat.or_lt_two_pow h5 (Nat.pow_lt_pow_right (by decide) hq)
  have h2 := cq_an_256 (y := 2 ^ q) h5
  split <;> omega
theorem gq_tx_eq {k c r w s : Nat} (hk : k < 8) (hc : c < 8) (hr : r < 16) (hw : w < 256) : gq_tx k c r w s = k + 8 * c + 64 * r + 1024 * w + 262144 * s := by
  have o : ∀ (x y i : Nat), x < 2 ^ i → x ||| y * 2 ^ i = x + y * 2 ^ i := by
    intro x y i hx
    rw [Nat.or_comm, Nat.mul_comm y, ← Nat.two_pow_add_eq_or_of_lt hx, Nat.add_comm]
  unfold gq_tx
  rw [o k c 3 (by omega), o (k + c * 2 ^ 3) r 6 (by omega), o (k + c * 2 ^ 3 + r * 2 ^ 6) w 10 (by omega), o (k + c * 2 ^ 3 + r * 2 ^ 6 + w * 2 ^ 10) s 18 (by omega)]
  omega
theorem rq_tx {a : cq_S} (L : lq_L a) {i : Nat} (hi : i < a 23 0) : rq_t a i = mq_ltx a i ∧ rq_t a i % 8 = a 12 i ∧ rq_t a i / 2 ^ 3 % 8 = a 15 i ∧ rq_t a i / 2 ^ 6 % 16 = a 16 i ∧ rq_t a i / 2 ^ 10 % 256 = a 17 i ∧ rq_t a i / 2 ^ 18 % 16 = a 18 i := by
  have b := (L.1 i hi).1
  unfold lq_b at b
  have e : rq_t a i = a 12 i + 8 * a 15 i + 64 * a 16 i + 1024 * a 17 i + 262144 * a 18 i := gq_tx_eq (by omega) (by omega) (by omega) (by omega)
  refine ⟨e, ?_⟩
  rw [e]
  obtain ⟨b1, b2, -, -, -, b3, b4, b5, b6, -⟩ := b
  generalize a 12 i = k at *
  generalize a 15 i = c at *
  generalize a 16 i = r at *
  generalize a 17 i = w at *
  generalize a 18 i = s at *
  refine ⟨?_, ?_, ?_, ?_, ?_⟩ <;> omega
theorem rq_take {n : Nat} {g a : cq_S} (R : rq_R n g a) {i v : Nat} (hi : i < a 23 0) (h0 : a 19 i = 0) (hv : v ≠ 0) : rq_R n (gq_take g (rq_c a i)) (cq_p a 19 i v) := by
  obtain ⟨M, W, P, B⟩ := R
  exact ⟨rq_M_o M (fun k i h => gq_take_k _ _ _ _ (by omega)) (fun k i h => cq_p_k _ (by omega)), rq_W_take W hi h0 hv, rq_P_o P (fun k i h1 h2 => gq_take_k _ _ _ _ (by omega)) (fun k i h => cq_p_k _ (by omega)), rq_B_o B (gq_take_B B.1) (fun k i h1 h2 => gq_take_k _ _ _ _ (by omega))⟩
/-- an estimate kept -/
theorem rq_kE {n : Nat} {g a : cq_S} (R : rq_R n g a) (hn : n ≤ 5) {p c r w s : Nat} (hp : p < n) (hr1 : 1 ≤ r) (hr : r ≤ 10) (hw : w < 256) (hs : s < 16) (h25 : a 25 (cq_x c r p) = w) (h26 : a 26 (cq_x c r p) = s) : rq_R n (gq_kE g c r p w s) (cq_p a 30 (cq_x c r p) 1) := by
  obtain ⟨M, W, P, B⟩ := R
  have g20 := M.2.1
  unfold gq_kE
  rw [g20, gq_or8 hw]
  refine ⟨rq_M_o M (fun k i h => cq_p_k _ (by omega)) (fun k i h => cq_p_k _ (by omega)), rq_W_o W (fun i => cq_p_k _ (by decide)) (fun i => cq_p_k _ (by decide)) (fun k i h => cq_p_k _ (by omega)), ?_, rq_B_o B (B.1.put (by omega)) (fun k i h1 h2 => cq_p_k _ (by omega))⟩
  intro c' r' p' hc' h1' h2' hp'
  obtain ⟨g1, g2, g3, g4⟩ := P c' r' p' hc' h1' h2' hp'
  rw [cq_p_k (k' := 26) (k := 25) _ (by decide), cq_p_k (k' := 27) (k := 25) _ (by decide), cq_p_k (k' := 28) _ (by decide), cq_p_k (k' := 25) (k := 30) _ (by decide), cq_p_k (k' := 26) (k := 30) _ (by decide), cq_p_k (k' := 27) (k := 30) _ (by decide), cq_p_k (k' := 31) _ (by decide), cq_p_k (k' := 32) _ (by decide), cq_p_k (k' := 33) _ (by decide)]
  refine ⟨?_, g2, g3, g4⟩
  by_cases e : c' = c ∧ r' = r ∧ p' = p
  · obtain ⟨rfl, rfl, rfl⟩ := e
    rw [cq_p_s, cq_p_s, if_neg Nat.one_ne_zero, h25, h26]
  · have e1 : ¬ cq_x c' r' p' = cq_x c r p := fun x => e ((cq_x_inj (by omega) (by omega) (by omega) (by omega)).mp x)
    have e2 : ¬ gq_cell n c' r' p' = gq_cell n c r p := fun x => e ((gq_cell_inj h1' h2' hr1 hr hp' hp).mp x)
    rw [cq_p_i _ e2, cq_p_i _ e1]; exact g1
/-- an offer kept -/
theorem rq_kO {n : Nat} {g a : cq_S} (R : rq_R n g a) (hn : n ≤ 5) {q c r w : Nat} (hp : q < n) (hr1 : 1 ≤ r) (hr : r ≤ 10) (hw : w < 256) (h27 : a 27 (cq_x c r 0) = w) : rq_R n (gq_kO g c r q w) (cq_p a 31 (cq_x c r q) 1) := by
  obtain ⟨M, W, P, B⟩ := R
  have g20 := M.2.1
  unfold gq_kO
  rw [g20]
  refine ⟨rq_M_o M (fun k i h => cq_p_k _ (by omega)) (fun k i h => cq_p_k _ (by omega)), rq_W_o W (fun i => cq_p_k _ (by decide)) (fun i => cq_p_k _ (by decide)) (fun k i h => cq_p_k _ (by omega)), ?_, ⟨B.1.put (by omega), fun i => ⟨?_, ?_, ?_⟩⟩⟩
  · intro c' r' p' hc' h1' h2' hp'
    obtain ⟨g1, g2, g3, g4⟩ := P c' r' p' hc' h1' h2' hp'
    rw [cq_p_k (k' := 25) (k := 26) _ (by decide), cq_p_k (k' := 27) (k := 26) _ (by decide), cq_p_k (k' := 28) _ (by decide), cq_p_k (k' := 25) (k := 31) _ (by decide), cq_p_k (k' := 26) (k := 31) _ (by decide), cq_p_k (k' := 27) (k := 31) _ (by decide), cq_p_k (k' := 30) _ (by decide), cq_p_k (k' := 32) _ (by decide), cq_p_k (k' := 33) _ (by decide)]
    refine ⟨g1, ?_, g3, g4⟩
    by_cases e : c' = c ∧ r' = r ∧ p' = q
    · obtain ⟨rfl, rfl, rfl⟩ := e
      rw [cq_p_s, cq_p_s, if_neg Nat.one_ne_zero, h27]
    · have e1 : ¬ cq_x c' r' p' = cq_x c r q := fun x => e ((cq_x_inj (by omega) (by omega) (by omega) (by omega)).mp x)
      have e2 : ¬ gq_cell n c' r' p' = gq_cell n c r q := fun x => e ((gq_cell_inj h1' h2' hr1 hr hp' hp).mp x)
      rw [cq_p_i _ e2, cq_p_i _ e1]; exact g2
  · rw [cq_p_k _ (by decide)]; exact (B.2 i).1
  · rw [cq_p_k _ (by decide)]; exact (B.2 i).2.1
  · by_cases e : i = gq_cell n c r q
    · rw [e, cq_p_s]; exact hw
    · rw [cq_p_i _ e]; exact (B.2 i).2.2
/-- a vote kept -/
theorem rq_kV {n : Nat} {g a : cq_S} (R : rq_R n g a) (hn : n ≤ 5) {p c r v : Nat} (hp : p < n) (hr1 : 1 ≤ r) (hr : r ≤ 10) (hv : v ≤ 1) : rq_R n (gq_kV g c r p v) (if v = 1 then cq_p a 32 (cq_x c r p) 1 else cq_p a 33 (cq_x c r p) 1) := by
  obtain ⟨M, W, P, B⟩ := R
  have o : ∀ k x, k ≠ 32 → k ≠ 33 → (if v = 1 then cq_p a 32 (cq_x c r p) 1 else cq_p a 33 (cq_x c r p) 1) k x = a k x := by
    intro k x h1 h2
    split
    · exact cq_p_k _ h1
    · exact cq_p_k _ h2
  refine ⟨rq_M_o M (fun k i h => gq_kV_k _ _ _ _ _ _ _ (by omega)) (fun k i h => o k i (by omega) (by omega)), rq_W_o W (fun i => gq_kV_k _ _ _ _ _ _ _ (by decide)) (fun i => gq_kV_k _ _ _ _ _ _ _ (by decide)) (fun k i h => o k i (by omega) (by omega)), rq_P_vote P hn hp hr1 hr hv (fun k x h => o k x (by omega) (by omega)) (fun x => ?_) (fun x => ?_), rq_B_kV B hn hp⟩
  · by_cases e : v = 1
    · rw [if_pos e]
      by_cases e2 : x = cq_x c r p
      · rw [if_pos ⟨e, e2⟩, e2, cq_p_s]
      · rw [if_neg (fun h => e2 h.2), cq_p_i _ e2]
    · rw [if_neg e, if_neg (fun h => e h.1), cq_p_k _ (by decide)]
  · by_cases e : v = 1
    · rw [if_pos e, if_neg (fun h => h.1 e), cq_p_k _ (by decide)]
    · rw [if_neg e]
      by_cases e2 : x = cq_x c r p
      · rw [if_pos ⟨e, e2⟩, e2, cq_p_s]
      · rw [if_neg (fun h => e2 h.2), cq_p_i _ e2]
