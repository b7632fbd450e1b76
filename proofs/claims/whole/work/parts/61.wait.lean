/-! The letters that wait: taken away, looked for, counted, lost. -/
theorem gq_wd_eq {p q t : Nat} (hp : p < 8) (hq : q < 8) (ht : t < 4194304) : gq_wd p q t = (p * 8 + q) * 4194304 + t := by
  unfold gq_wd
  have e1 : (p * 2 ^ 3 ||| q) = p * 8 + q := by
    rw [Nat.mul_comm p]
    exact (Nat.two_pow_add_eq_or_of_lt (i := 3) (show q < 2 ^ 3 by omega) p).symm ▸ (by omega)
  rw [e1, Nat.mul_comm _ (2 ^ 22), ← Nat.two_pow_add_eq_or_of_lt (i := 22) (show t < 2 ^ 22 by omega)]
theorem gq_or3 {p q : Nat} (hq : q < 8) : (p * 2 ^ 3 ||| q) = p * 8 + q := by
  rw [Nat.mul_comm p, ← Nat.two_pow_add_eq_or_of_lt (i := 3) (show q < 2 ^ 3 by omega)]
/-- one waiting letter no longer waits -/
theorem rq_c_gone {a : cq_S} {i v : Nat} (h0 : a 19 i = 0) (hv : v ≠ 0) : ∀ m, rq_c (cq_p a 19 i v) m = if i < m then rq_c a m - 1 else rq_c a m
  | 0 => rfl
  | m + 1 => by
    have ih := rq_c_gone h0 hv m
    show rq_c _ m + _ = _
    rw [ih]
    by_cases e : m = i
    · subst e
      rw [cq_p_s, if_neg (by omega), if_neg hv, if_pos (by omega)]
      show _ = rq_c a m + (if a 19 m = 0 then 1 else 0) - 1
      rw [if_pos h0]; rfl
    · rw [cq_p_i _ e]
      by_cases e2 : i < m
      · have := rq_c_lt h0 e2
        rw [if_pos e2, if_pos (show i < m + 1 by omega)]
        show _ = rq_c a m + _ - 1
        omega
      · rw [if_neg e2, if_neg (show ¬ i < m + 1 by omega)]; rfl
theorem rq_W_take {g a : cq_S} (h : rq_W g a) {i v : Nat} (hi : i < a 23 0) (h0 : a 19 i = 0) (hv : v ≠ 0) : rq_W (gq_take g (rq_c a i)) (cq_p a 19 i v) := by
  obtain ⟨h1, h2, h3⟩ := h
  have hlt := rq_c_lt h0 hi
  refine ⟨?_, ?_, fun j hj hj0 => ?_⟩
  · rw [cq_p_k _ (by decide), rq_c_gone h0 hv, if_pos hi, ← h1]; rfl
  · rw [cq_p_k _ (by decide)]
    show g 23 0 - 1 ≤ _
    omega
  · rw [cq_p_k _ (by decide)] at hj
    have hne : j ≠ i := by
      intro e; subst e; rw [cq_p_s] at hj0; exact hv hj0
    rw [cq_p_i _ hne] at hj0
    rw [rq_c_gone h0 hv]
    have e3 := h3 j hj hj0
    have t : rq_t (cq_p a 19 i v) j = rq_t a j := by
      unfold rq_t
      rw [cq_p_k _ (by decide), cq_p_k _ (by decide), cq_p_k _ (by decide), cq_p_k _ (by decide), cq_p_k _ (by decide)]
    rw [t, cq_p_k _ (by decide), cq_p_k _ (by decide), ← e3]
    have hjl := rq_c_lt hj0 hj
    show (if rq_c a i ≤ _ ∧ _ < rq_c a i + (g 23 0 - 1 - rq_c a i) then g 24 (rq_c a i + 1 + (_ - rq_c a i)) else g 24 _) = _
    by_cases e : i < j
    · have := rq_c_lt h0 e
      rw [if_pos e, if_pos (by omega)]
      congr 1
      omega
    · have := rq_c_lt hj0 (show j < i by omega)
      rw [if_neg e, if_neg (by omega)]
/-- the word at its place -/
theorem rq_goes {g a : cq_S} (h : rq_W g a) (L : lq_L a) (hn : a 20 0 ≤ 5) {i : Nat} (hi : i < a 23 0) (h0 : a 19 i = 0) : g 24 (rq_c a i) = (a 13 i * 8 + a 14 i) * 4194304 + rq_t a i ∧ rq_t a i < 4194304 ∧ a 13 i < 8 ∧ a 14 i < 8 := by
  have b := (L.1 i hi).1
  unfold lq_b at b
  have ht : rq_t a i < 4194304 := gq_tx_lt (by omega) (by omega) (by omega) (by omega) (by omega)
  refine ⟨?_, ht, by omega, by omega⟩
  rw [h.2.2 i hi h0, gq_wd_eq (by omega) (by omega) ht]
theorem rq_goes_iff {g a : cq_S} (h : rq_W g a) (L : lq_L a) (hn : a 20 0 ≤ 5) {i : Nat} (hi : i < a 23 0) (h0 : a 19 i = 0) {p q : Nat} (_ : p < 8) (hq : q < 8) : gq_goes g (rq_c a i) p q = if a 13 i = p ∧ a 14 i = q then 1 else 0 := by
  obtain ⟨e, ht, hf, hto⟩ := rq_goes h L hn hi h0
  unfold gq_goes
  rw [e, gq_or3 hq]
  have e2 : ((a 13 i * 8 + a 14 i) * 4194304 + rq_t a i) / 2 ^ 22 = a 13 i * 8 + a 14 i := by omega
  rw [e2]
  by_cases c : a 13 i = p ∧ a 14 i = q
  · rw [if_pos c, if_pos (by omega)]
  · rw [if_neg c, if_neg (by omega)]
theorem rq_from_iff {g a : cq_S} (h : rq_W g a) (L : lq_L a) (hn : a 20 0 ≤ 5) {i : Nat} (hi : i < a 23 0) (h0 : a 19 i = 0) (p : Nat) : gq_from g (rq_c a i) p = if a 13 i = p then 1 else 0 := by
  obtain ⟨e, ht, hf, hto⟩ := rq_goes h L hn hi h0
  unfold gq_from
  rw [e]
  have e2 : ((a 13 i * 8 + a 14 i) * 4194304 + rq_t a i) / 2 ^ 22 / 2 ^ 3 = a 13 i := by omega
  rw [e2]
theorem rq_text {g a : cq_S} (h : rq_W g a) (L : lq_L a) (hn : a 20 0 ≤ 5) {i : Nat} (hi : i < a 23 0) (h0 : a 19 i = 0) : gq_text g (rq_c a i) = rq_t a i := by
  obtain ⟨e, ht, hf, hto⟩ := rq_goes h L hn hi h0
  unfold gq_text
  rw [e]; omega
theorem rq_cnt {g a : cq_S} (h : rq_W g a) (L : lq_L a) (hn : a 20 0 ≤ 5) {p q : Nat} (hp : p < 8) (hq : q < 8) : ∀ m, m ≤ a 23 0 → gq_cnt g p q (rq_c a m) = mq_cnt a p q m
  | 0, _ => rfl
  | m + 1, hm => by
    have ih := rq_cnt h L hn hp hq m (by omega)
    show gq_cnt g p q (rq_c a m + _) = mq_cnt a p q m + _
    by_cases h0 : a 19 m = 0
    · rw [if_pos h0]
      show gq_cnt g p q (rq_c a m) + gq_goes g (rq_c a m) p q = _
      rw [ih, rq_goes_iff h L hn (by omega) h0 hp hq]
      by_cases c : a 13 m = p ∧ a 14 m = q
      · rw [if_pos c, if_pos ⟨h0, c⟩]
      · rw [if_neg c, if_neg (fun c2 => c c2.2)]
    · rw [if_neg h0, if_neg (fun c2 => h0 c2.1)]
      exact ih
theorem rq_sk {g a : cq_S} (h : rq_W g a) (L : lq_L a) (hn : a 20 0 ≤ 5) {p q : Nat} (hp : p < 8) (hq : q < 8) (j : Int32) : ∀ d i m, i + d ≤ a 23 0 → gq_pl g p q j (rq_c a (i + d) - rq_c a i) (rq_c a i) m = (mq_sk a p q j d i m).map (rq_c a)
  | 0, i, m, _ => by
    rw [Nat.add_zero, Nat.sub_self]; rfl
  | d + 1, i, m, hd => by
    have ih := fun m => rq_sk h L hn hp hq j d (i + 1) m (by omega)
    rw [show i + 1 + d = i + (d + 1) by omega] at ih
    have hs : rq_c a (i + 1) = rq_c a i + (if a 19 i = 0 then 1 else 0) := rfl
    unfold mq_sk
    by_cases h0 : a 19 i = 0
    · rw [if_pos h0] at hs
      have hlt := rq_c_lt h0 (show i < i + (d + 1) by omega)
      rw [show rq_c a (i + (d + 1)) - rq_c a i = (rq_c a (i + (d + 1)) - rq_c a (i + 1)) + 1 by omega]
      unfold gq_pl
      rw [rq_goes_iff h L hn (by omega) h0 hp hq, ← hs]
      by_cases c : a 13 i = p ∧ a 14 i = q
      · rw [if_pos c, if_neg Nat.one_ne_zero, if_pos (show a 19 i = 0 ∧ a 13 i = p ∧ a 14 i = q from ⟨h0, c⟩)]
        by_cases e : nI m = j
        · rw [if_pos e, if_pos e]; rfl
        · rw [if_neg e, if_neg e]; exact ih (m + 1)
      · rw [if_neg c, if_pos rfl, if_neg (show ¬ (a 19 i = 0 ∧ a 13 i = p ∧ a 14 i = q) from fun c2 => c c2.2)]; exact ih m
    · rw [if_neg h0, Nat.add_zero] at hs
      rw [if_neg (show ¬ (a 19 i = 0 ∧ a 13 i = p ∧ a 14 i = q) from fun c2 => h0 c2.1), ← ih m, hs]
      rfl
theorem rq_place {g a : cq_S} (h : rq_W g a) (L : lq_L a) (hn : a 20 0 ≤ 5) {p q : Nat} (hp : p < 8) (hq : q < 8) (j : Int32) : gq_place g p q j = (mq_seek a p q j).map (rq_c a) := by
  have := rq_sk h L hn hp hq j (a 23 0) 0 0 (by omega)
  rw [Nat.zero_add] at this
  unfold gq_place mq_seek
  rw [h.1]
  exact this
theorem mq_sk_is (a : cq_S) (p q : Nat) (j : Int32) : ∀ d i m k, mq_sk a p q j d i m = some k → a 19 k = 0 ∧ a 13 k = p ∧ a 14 k = q
  | 0, i, m, k, h => by simp [mq_sk] at h
  | d + 1, i, m, k, h => by
    unfold mq_sk at h
    split at h
    · rename_i c
      split at h
      · cases h; exact c
      · exact mq_sk_is a p q j d _ _ k h
    · exact mq_sk_is a p q j d _ _ k h
/-- the latest letters of one who crashes -/
theorem gq_lose_k (p : Nat) : ∀ d m (g : cq_S) k i, k ≠ 23 → k ≠ 24 → gq_lose p d m g k i = g k i
  | 0, _, _, _, _, _, _ => rfl
  | d + 1, m, g, k, i, h1, h2 => by
    unfold gq_lose
    split
    · rfl
    · split
      · exact gq_lose_k p d m g k i h1 h2
      · rw [gq_lose_k p d _ _ k i h1 h2]
        show (if k = 24 then _ else if k = 23 ∧ i = 0 then _ else g k i) = _
        rw [if_neg h2, if_neg (fun h => h1 h.1)]
theorem mq_lose_k (p : Nat) : ∀ d m (b : cq_S) k i, k ≠ 19 → mq_lose p d m b k i = b k i
  | 0, _, _, _, _, _ => rfl
  | d + 1, m, b, k, i, h1 => by
    unfold mq_lose
    split
    · rfl
    · split
      · rw [mq_lose_k p d _ _ k i h1, cq_p_k _ h1]
      · exact mq_lose_k p d m b k i h1
theorem rq_W_lose (p : Nat) : ∀ d m (g b : cq_S), rq_W g b → xq_I b → b 20 0 ≤ 5 → d ≤ b 23 0 → rq_W (gq_lose p (rq_c b d) m g) (mq_lose p d m b)
  | 0, _, _, _, h, _, _, _ => h
  | d + 1, m, g, b, h, X, hn, hd => by
    have hs : rq_c b (d + 1) = rq_c b d + (if b 19 d = 0 then 1 else 0) := rfl
    unfold mq_lose
    by_cases m0 : m = 0
    · rw [if_pos m0]
      have : gq_lose p (rq_c b (d + 1)) m g = g := by
        cases rq_c b (d + 1) with
        | zero => rfl
        | succ e => unfold gq_lose; rw [if_pos m0]
      rw [this]; exact h
    · rw [if_neg m0]
      by_cases h0 : b 19 d = 0
      · rw [if_pos h0] at hs
        rw [hs]
        unfold gq_lose
        rw [if_neg m0, rq_from_iff h X.1.2 hn (by omega) h0 p]
        by_cases c : b 13 d = p
        · rw [if_pos c, if_neg Nat.one_ne_zero, if_pos (show b 19 d = 0 ∧ b 13 d = p from ⟨h0, c⟩)]
          have e : rq_c (cq_p b 19 d 2) d = rq_c b d := by rw [rq_c_gone h0 (by decide), if_neg (by omega)]
          have X' := (xq_lose p (d + 1) 1 b X).1
          have e3 : mq_lose p (d + 1) 1 b = cq_p b 19 d 2 := by
            unfold mq_lose
            rw [if_neg (by decide), if_pos (show b 19 d = 0 ∧ b 13 d = p from ⟨h0, c⟩)]
            show mq_lose p d 0 _ = _
            cases d with
            | zero => rfl
            | succ d => unfold mq_lose; rw [if_pos rfl]
          rw [e3] at X'
          have := rq_W_lose p d (m - 1) (gq_take g (rq_c b d)) (cq_p b 19 d 2) (rq_W_take h (by omega) h0 (by decide)) X' (by rw [cq_p_k _ (by decide)]; exact hn) (by rw [cq_p_k _ (by decide)]; omega)
          rw [e] at this
          exact this
        · rw [if_neg c, if_pos rfl, if_neg (show ¬ (b 19 d = 0 ∧ b 13 d = p) from fun h => c h.2)]
          exact rq_W_lose p d m g b h X hn (by omega)
      · rw [if_neg h0, Nat.add_zero] at hs
        rw [hs, if_neg (show ¬ (b 19 d = 0 ∧ b 13 d = p) from fun h => h0 h.1)]
        exact rq_W_lose p d m g b h X hn (by omega)
