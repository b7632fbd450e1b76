/-! What the contracts need, out of the relation. -/
theorem rq_6 {a : cq_S} (J : jq_J a) {p c : Nat} (hp : p < a 20 0) (hc : c < 8) : a 6 (8 * p + c) < 256 := by
  by_cases e : a 6 (8 * p + c) = 0
  · omega
  · exact jq_V256 J (jq_VsV J ((J.2.2.2.2.1 p hp).2.2.2.1 c hc e))
theorem rq_bit0 {a : cq_S} {p w m : Nat} (hd : a 1 p &&& w = 0) (e1 : w / 2 ^ m % 2 = 1) : (mq_fin w p a m) 1 p / 2 ^ m % 2 = 0 := by
  rw [(jq_fin hd m).1, gq_or_bit]
  constructor
  · rw [jq_bit] at e1 ⊢
    have hb : w.testBit m = true := by
      cases hb : w.testBit m with
      | true => rfl
      | false => rw [hb] at e1; simp at e1
    have : (a 1 p &&& w).testBit m = false := by rw [hd]; simp
    rw [Nat.testBit_and, hb, Bool.and_true] at this
    rw [this]; rfl
  · rw [Nat.div_eq_of_lt (Nat.mod_lt _ (Nat.two_pow_pos m))]
theorem rq_sok {n : Nat} {g a : cq_S} (Z : rq_Z n g a) {p : Nat} (hp : p < n) : gq_sok n g p := by
  obtain ⟨R, X⟩ := Z
  have J := X.1.1
  have h20 := R.1.1
  have g20 := R.1.2.1
  have hn3 : 3 ≤ n := by rw [← h20]; exact J.1
  have hn : n ≤ 5 := by rw [← h20]; exact J.2.1
  have hp' : p < a 20 0 := by omega
  have E : ∀ k, rq_K k → g k p = a k p := fun k hk => R.1.2.2.2.2.1 k p hk hp
  have hv := X.2.2.2.2.1.2 p
  have B := R.2.2.2
  have h32 : 2 ^ n ≤ 32 := Nat.pow_le_pow_right (n := 2) (by decide) hn
  have e1 := E 1 (by unfold rq_K; omega)
  have e4 := E 4 (by unfold rq_K; omega)
  have e7 := E 7 (by unfold rq_K; omega)
  have e8 := E 8 (by unfold rq_K; omega)
  have V : ∀ c, c < 8 → g (60 + p) c = a 6 (8 * p + c) := fun c hc => R.1.2.2.2.2.2.2 p c hp hc
  refine ⟨B.1, hn3, hn, g20, hp, by rw [E 0 (by unfold rq_K; omega)]; exact hv.1, by rw [E 2 (by unfold rq_K; omega)]; exact hv.2.1, by rw [E 9 (by unfold rq_K; omega)]; exact hv.2.2.2.1, by rw [E 10 (by unfold rq_K; omega)]; omega, fun c hc => by rw [V c hc]; exact rq_6 J hp' hc, ?_, fun i => ⟨by have := (B.2 i).1; omega, by have := (B.2 i).2.1; omega, (B.2 i).2.2⟩, ?_⟩
  · rw [e7, e4, e8]
    intro h
    obtain ⟨d1, d2, d3, d4, d5, d6, -⟩ := jq_at J hp' (by omega)
    exact ⟨d1, d2, d6 (by omega)⟩
  · rw [e4]
    intro h48
    rw [V _ h48, e1]
    intro hw m hm
    obtain ⟨dj, dl⟩ := jq_disj J hp' h48 hw
    have an : cq_an (a 6 (8 * p + a 4 p)) (a 1 p) = a 6 (8 * p + a 4 p) := by
      unfold cq_an
      rw [Nat.and_comm, dj, Nat.xor_zero]
    rw [an]
    intro hb
    have hb1 : a 6 (8 * p + a 4 p) / 2 ^ m % 2 = 1 := by omega
    have f8 := jq_fin8 J hp' h48 hw
    have := (rq_fin R.1 hn hp dj f8 m (by omega) 0).2.2.2.2.1 2 p (by unfold rq_K; omega) hp
    rw [cq_p_k _ (by decide), cq_p_k _ (by decide)] at this
    rw [this]
    exact f8 m hm hb1 (rq_bit0 dj hb1)
theorem rq_bas {n : Nat} {g a : cq_S} (Z : rq_Z n g a) : gq_bas n g := by
  obtain ⟨R, X⟩ := Z
  have J := X.1.1
  have h20 := R.1.1
  have g20 := R.1.2.1
  have hn3 : 3 ≤ n := by rw [← h20]; exact J.1
  have hn : n ≤ 5 := by rw [← h20]; exact J.2.1
  have E : ∀ k p, rq_K k → p < n → g k p = a k p := R.1.2.2.2.2.1
  have h34 := (xq_cnt X).2
  rw [h20] at h34
  have h22 := X.2.2.2.2.2
  refine ⟨R.2.2.2.1, hn3, hn, g20, Nat.le_trans R.2.1.2.1 h34, by rw [R.1.2.2.1]; exact J.2.2.1, by rw [R.1.2.2.2.1]; omega, fun p hp => ?_, fun p c hp hc => ?_⟩
  · have hv := X.2.2.2.2.1.2 p
    rw [E 0 p (by unfold rq_K; omega) hp, E 5 p (by unfold rq_K; omega) hp, E 2 p (by unfold rq_K; omega) hp]
    exact ⟨hv.1, hv.2.2.1, hv.2.1⟩
  · rw [R.1.2.2.2.2.2.2 p c hp hc]
    exact rq_6 J (by omega) hc
/-- the steps of a broadcast -/
theorem rq_okb {n : Nat} {g a : cq_S} (Z : rq_Z n g a) (x : Int32) : (∀ p, cq_id (g 20 0) x = some p → g 11 p = 0 → ¬ g 21 0 = 8 → ∀ d, gq_sok n (gq_go p d (gq_b0 g p)) p) ∧ (∀ p, cq_id (a 20 0) x = some p → a 11 p = 0 → ¬ a 21 0 = 8 → ∀ d, mq_sok (mq_go p d (mq_b0 a p)) p) := by
  have h20 := Z.1.1.1
  have g20 := Z.1.1.2.1
  have hn : a 20 0 ≤ 5 := Z.2.1.1.2.1
  constructor
  · intro p h _ h2 d
    rw [g20] at h
    have hp := (cq_id_some h (by omega)).1
    rw [Z.1.1.2.2.1] at h2
    exact rq_sok (rq_Zgo ⟨rq_b0 Z.1 Z.2 hp h2, (xq_b0 Z.2 (by omega) h2).1⟩ hp d) hp
  · intro p h _ h2 d
    have hp := (cq_id_some h (by omega)).1
    have Xb := xq_b0 Z.2 hp h2
    have Xg := xq_go Xb.1 (show p < mq_b0 a p 20 0 by rw [Xb.2]; exact hp) d
    exact xq_sok Xg.1 (by rw [Xg.2, Xb.2]; exact hp)
theorem rq_oks {n : Nat} {g a : cq_S} (Z : rq_Z n g a) (x z : Int32) (y : Nat) : (∀ p q, cq_id (g 20 0) x = some p → cq_id (g 20 0) z = some q → ¬ p = q → g 11 p = 0 → ∀ d, gq_sok n (gq_go p d (mq_s0 g p q y)) p) ∧ (∀ p q, cq_id (a 20 0) x = some p → cq_id (a 20 0) z = some q → ¬ p = q → a 11 p = 0 → ∀ d, mq_sok (mq_go p d (mq_s0 a p q y)) p) := by
  have h20 := Z.1.1.1
  have g20 := Z.1.1.2.1
  have hn : a 20 0 ≤ 5 := Z.2.1.1.2.1
  constructor
  · intro p q h h' _ _ d
    rw [g20] at h h'
    have hp := (cq_id_some h (by omega)).1
    have hq := (cq_id_some h' (by omega)).1
    exact rq_sok (rq_Zgo ⟨rq_s0 Z.1 Z.2 hp (show q < 8 by omega), (xq_s0 Z.2 (show q < 8 by omega)).1⟩ hp d) hp
  · intro p q h h' _ _ d
    have hp := (cq_id_some h (by omega)).1
    have hq := (cq_id_some h' (by omega)).1
    have Xb := xq_s0 (p := p) (y := y) Z.2 (show q < 8 by omega)
    have Xg := xq_go Xb.1 (show p < mq_s0 a p q y 20 0 by rw [Xb.2]; exact hp) d
    exact xq_sok Xg.1 (by rw [Xg.2, Xb.2]; exact hp)
theorem rq_okd {n : Nat} {g a : cq_S} (Z : rq_Z n g a) (x y j : Int32) : (∀ p q i, cq_id (g 20 0) x = some p → cq_id (g 20 0) y = some q → gq_place g p q j = some i → (gq_text g i % 8 = 1 → gq_text g i / 2 ^ 10 % 256 < 8) ∧ (gq_text g i % 8 = 2 ∨ gq_text g i % 8 = 3 ∨ gq_text g i % 8 = 4 → 1 ≤ gq_text g i / 2 ^ 6 % 16 ∧ gq_text g i / 2 ^ 6 % 16 ≤ 10) ∧ ∀ d, gq_sok n (gq_go q d (gq_d0 g p q i)) q) ∧ (∀ p q i, cq_id (a 20 0) x = some p → cq_id (a 20 0) y = some q → mq_seek a p q j = some i → ∀ d, mq_sok (mq_go q d (mq_d0 a q i)) q) := by
  have h20 := Z.1.1.1
  have g20 := Z.1.1.2.1
  have hn : a 20 0 ≤ 5 := Z.2.1.1.2.1
  constructor
  · intro p q i h h' h3
    rw [g20] at h h'
    have hp := (cq_id_some h (by omega)).1
    have hq := (cq_id_some h' (by omega)).1
    rw [rq_place Z.1.2.1 Z.2.1.2 hn (by omega) (by omega) j] at h3
    cases h4 : mq_seek a p q j with
    | none => rw [h4] at h3; cases h3
    | some k =>
      rw [h4] at h3
      cases h3
      have hi := mq_seek_lt h4
      have hs := mq_sk_is a p q j _ _ _ k h4
      obtain ⟨-, t0, t1, t2, t3, t4⟩ := rq_tx Z.2.1.2 hi
      obtain ⟨b, l1, l2, l3, l4, l5⟩ := Z.2.1.2.1 k hi
      unfold lq_b at b
      rw [rq_text Z.1.2.1 Z.2.1.2 hn hi hs.1, t0, t2, t3]
      refine ⟨fun e => ?_, fun e => ⟨?_, by omega⟩, fun d => rq_sok (rq_Zgo ⟨rq_d0 Z.1 Z.2 hi hs.1 hs.2.1 hs.2.2, (xq_d0 Z.2 hi hs.1 hs.2.2).1⟩ hq d) hq⟩
      · have := (l1 e).1; have := Z.2.1.1.2.2.1; omega
      · rcases e with e | e | e
        · exact (l2 e).1
        · exact (l3 e).1
        · exact (l4 e).1
  · intro p q i h h' h4 d
    have hq := (cq_id_some h' (by omega)).1
    have hi := mq_seek_lt h4
    have hs := mq_sk_is a p q j _ _ _ i h4
    have Xb := xq_d0 Z.2 hi hs.1 hs.2.2
    have Xg := xq_go Xb.1 (show q < mq_d0 a q i 20 0 by rw [Xb.2]; exact hq) d
    exact xq_sok Xg.1 (by rw [Xg.2, Xb.2]; exact hq)
