/-! The relation through a delivery and a crash; answers. -/
theorem rq_d0 {n : Nat} {g a : cq_S} (R : rq_R n g a) (X : xq_I a) {p q i : Nat} (hi : i < a 23 0) (h0 : a 19 i = 0) (hf : a 13 i = p) (hto : a 14 i = q) : rq_R n (gq_d0 g p q (rq_c a i)) (mq_d0 a q i) := by
  have J := X.1.1
  have L := X.1.2
  have h20 := R.1.1
  have hn : n ≤ 5 := by rw [← h20]; exact J.2.1
  have hroom := (xq_cnt (xq_d0 X hi h0 hto).1).2
  rw [(xq_d0 X hi h0 hto).2, h20] at hroom
  obtain ⟨-, t0, t1, t2, t3, t4⟩ := rq_tx L hi
  obtain ⟨b, l1, l2, l3, l4, l5⟩ := L.1 i hi
  unfold lq_b at b
  have hp : p < n := by omega
  have hq : q < n := by omega
  have T : ∀ v, v ≠ 0 → rq_R n (gq_take g (rq_c a i)) (cq_p a 19 i v) := fun v hv => rq_take R hi h0 hv
  unfold gq_d0
  rw [rq_text R.2.1 L (by omega) hi h0]
  unfold gq_receive
  rw [t0, t1, t2, t3, t4]
  unfold mq_d0 at hroom ⊢
  by_cases c1 : a 12 i = 1
  · rw [if_pos c1] at hroom
    rw [if_pos c1, if_pos c1]
    have m8 : a 17 i < 8 := by have := (l1 c1).1; have := J.2.2.1; omega
    by_cases c2 : a 0 q / 2 ^ a 17 i % 2 = 0
    · rw [if_pos c2] at hroom
      rw [if_pos c2]
      exact rq_learn (T 2 (by decide)) hn hq m8 (X.2.2.2.2.1.2 q).1 c2 hroom
    · rw [if_neg c2]
      have e0 : gq_take g (rq_c a i) 0 q = a 0 q := (T 2 (by decide)).1.2.2.2.2.1 0 q (by unfold rq_K; omega) hq
      unfold gq_learn
      rw [e0, if_neg c2]
      exact T 2 (by decide)
  · rw [if_neg c1] at hroom
    rw [if_neg c1, if_neg c1]
    by_cases c5 : a 12 i = 5
    · rw [if_pos c5] at hroom
      rw [if_neg (by omega), if_neg (by omega), if_neg (by omega), if_pos c5]
      have e6 : gq_take g (rq_c a i) (60 + q) (a 15 i) = a 6 (8 * q + a 15 i) := (T 2 (by decide)).1.2.2.2.2.2.2 q _ hq (by omega)
      unfold gq_accept
      rw [e6]
      by_cases c2 : a 6 (8 * q + a 15 i) = 0
      · rw [if_pos c2] at hroom
        rw [if_pos c2, if_pos c2]
        unfold mq_learn at hroom ⊢
        exact rq_toAll (rq_R_v (T 2 (by decide)) hn hq (by omega) (by omega)) hn hq (by decide) (by omega) (by decide) (by omega) (fun h => by omega) hroom
      · rw [if_neg c2, if_neg c2]
        exact T 2 (by decide)
    · rw [if_neg c5, if_pos (show 2 ≤ a 12 i ∧ a 12 i ≤ 4 by omega), hf]
      unfold mq_kp
      by_cases c2 : a 12 i = 2
      · obtain ⟨u1, u2, u3, u4, u5, -⟩ := l2 c2
        unfold lq_x at u3 u5
        rw [hf] at u3 u5
        rw [if_pos c2, if_pos c2]
        exact rq_kE (T 1 (by decide)) hn hp u1 (by omega) (by omega) (by omega) u3 u5
      · rw [if_neg c2, if_neg c2]
        by_cases c3 : a 12 i = 3
        · obtain ⟨u1, u2, u3, u4, u5, -⟩ := l3 c3
          rw [if_pos c3, if_pos c3]
          exact rq_kO (T 1 (by decide)) hn hq u1 (by omega) (by omega) u4
        · have c4 : a 12 i = 4 := by omega
          obtain ⟨u1, u2, u3, -⟩ := l4 c4
          rw [if_neg c3, if_neg c3, if_pos c4, if_pos c4]
          exact rq_kV (T 1 (by decide)) hn hp u1 (by omega) u3
theorem gq_lose_B (p : Nat) : ∀ d m (g : cq_S), cq_B2 g → cq_B2 (gq_lose p d m g)
  | 0, _, _, h => h
  | d + 1, m, g, h => by
    unfold gq_lose
    split
    · exact h
    · split
      · exact gq_lose_B p d m g h
      · exact gq_lose_B p d _ _ (gq_take_B h)
theorem rq_lose {n : Nat} {g a : cq_S} (R : rq_R n g a) (X : xq_I a) (p m : Nat) : rq_R n (gq_lose p (g 23 0) m g) (mq_lose p (a 23 0) m a) := by
  have hn : a 20 0 ≤ 5 := X.1.1.2.1
  obtain ⟨M, W, P, B⟩ := R
  have w := rq_W_lose p (a 23 0) m g a W X hn (Nat.le_refl _)
  rw [← W.1] at w
  exact ⟨rq_M_o M (fun k i h => gq_lose_k _ _ _ _ _ _ (by omega) (by omega)) (fun k i h => mq_lose_k _ _ _ _ _ _ (by omega)), w, rq_P_o P (fun k i h1 h2 => gq_lose_k _ _ _ _ _ _ (by omega) (by omega)) (fun k i h => mq_lose_k _ _ _ _ _ _ (by omega)), rq_B_o B (gq_lose_B _ _ _ _ B.1) (fun k i h1 h2 => gq_lose_k _ _ _ _ _ _ (by omega) (by omega))⟩
/-- both states, before and after every call -/
def rq_Z (n : Nat) (g a : cq_S) : Prop := rq_R n g a ∧ xq_I a
theorem cq_id_some {n : Nat} {x : Int32} {p : Nat} (h : cq_id n x = some p) (hn : n < 2147483648) : p < n ∧ x = nI p := by
  rcases pk_ix x (show n < 2 ^ 31 from hn) with h2 | h2 | ⟨j, h3, h4⟩
  · rw [cq_id_neg h2] at h; cases h
  · rw [cq_id_ltn (Int32.not_lt.mpr h2) hn] at h; cases h
  · rw [h4, cq_id_nI h3 hn] at h
    cases h
    exact ⟨h3, h4⟩
theorem rq_get {n : Nat} {g a : cq_S} (Z : rq_Z n g a) {k : Nat} (hk : rq_K k) (x : Int32) : mq_get g k x = mq_get a k x := by
  have h20 := Z.1.1.1
  have g20 := Z.1.1.2.1
  have hn : a 20 0 ≤ 5 := Z.2.1.1.2.1
  unfold mq_get
  rw [h20, g20]
  cases h : cq_id n x with
  | none => rfl
  | some p =>
    have := (cq_id_some h (by omega)).1
    show nI (g k p) = nI (a k p)
    rw [Z.1.1.2.2.2.2.1 k p hk this]
theorem rq_state {n : Nat} {g a : cq_S} (Z : rq_Z n g a) (x : Int32) : mq_state g x = mq_state a x := by
  have h20 := Z.1.1.1
  have g20 := Z.1.1.2.1
  have hn : a 20 0 ≤ 5 := Z.2.1.1.2.1
  unfold mq_state
  rw [h20, g20]
  cases h : cq_id n x with
  | none => rfl
  | some p =>
    have := (cq_id_some h (by omega)).1
    show (if g 11 p = 0 then nI (g 7 p) else nI 5) = (if a 11 p = 0 then nI (a 7 p) else nI 5)
    rw [Z.1.1.2.2.2.2.1 7 p (by unfold rq_K; omega) this, Z.1.1.2.2.2.2.1 11 p (by unfold rq_K; omega) this]
theorem rq_suspects {n : Nat} {g a : cq_S} (Z : rq_Z n g a) (x y : Int32) : mq_suspects g x y = mq_suspects a x y := by
  have h20 := Z.1.1.1
  have g20 := Z.1.1.2.1
  have hn : a 20 0 ≤ 5 := Z.2.1.1.2.1
  unfold mq_suspects
  rw [h20, g20]
  cases h : cq_id n x with
  | none => rfl
  | some p =>
    cases h2 : cq_id n y with
    | none => rfl
    | some q =>
      have := (cq_id_some h (by omega)).1
      show nI (g 5 p / 2 ^ q % 2) = nI (a 5 p / 2 ^ q % 2)
      rw [Z.1.1.2.2.2.2.1 5 p (by unfold rq_K; omega) this]
theorem rq_dAt {n : Nat} {g a : cq_S} (Z : rq_Z n g a) (x y : Int32) : gq_dAt g x y = mq_dAt a x y := by
  have h20 := Z.1.1.1
  have g20 := Z.1.1.2.1
  have hn : a 20 0 ≤ 5 := Z.2.1.1.2.1
  unfold gq_dAt mq_dAt
  rw [h20, g20]
  cases h : cq_id n x with
  | none => rfl
  | some p =>
    have hp := (cq_id_some h (by omega)).1
    have h2 := (Z.2.2.2.2.2.1.2 p).2.1
    show (match cq_id (g 2 p) y with | none => -1 | some i => nI (g (40 + p) i)) = (match cq_id (a 2 p) y with | none => -1 | some i => nI (a 3 (8 * p + i)))
    rw [Z.1.1.2.2.2.2.1 2 p (by unfold rq_K; omega) hp]
    cases h3 : cq_id (a 2 p) y with
    | none => rfl
    | some i =>
      have := (cq_id_some h3 (by omega)).1
      show nI (g (40 + p) i) = nI (a 3 (8 * p + i))
      rw [Z.1.1.2.2.2.2.2.1 p i hp (by omega)]
theorem rq_verdict {n : Nat} {g a : cq_S} (Z : rq_Z n g a) (x y : Int32) : gq_verdict g x y = mq_verdict a x y := by
  have h20 := Z.1.1.1
  have g20 := Z.1.1.2.1
  have hn : a 20 0 ≤ 5 := Z.2.1.1.2.1
  unfold gq_verdict mq_verdict
  rw [h20, g20]
  cases h : cq_id n x with
  | none => rfl
  | some p =>
    have hp := (cq_id_some h (by omega)).1
    cases h3 : cq_id 8 y with
    | none => rfl
    | some i =>
      have := (cq_id_some h3 (by omega)).1
      show nI (g (60 + p) i) = nI (a 6 (8 * p + i))
      rw [Z.1.1.2.2.2.2.2.2 p i hp this]
