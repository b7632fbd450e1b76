/-! The relation through what a process does. -/
theorem cq_p_comm (a : cq_S) {k i v k' i' v' : Nat} (h : k ≠ k') : cq_p (cq_p a k i v) k' i' v' = cq_p (cq_p a k' i' v') k i v := by
  funext x y
  unfold cq_p
  by_cases e : x = k
  · by_cases e2 : x = k'
    · omega
    · simp [e, h]
  · by_cases e2 : x = k'
    · have hz : ¬ k' = k := fun z => h z.symm
      simp [e2, hz]
    · simp [e, e2]
theorem cq_p_same (a : cq_S) (k i : Nat) : cq_p a k i (a k i) = a := by
  funext x y
  unfold cq_p
  repeat' split
  all_goals first | rfl | simp_all
theorem rq_B_o {n : Nat} {g g' : cq_S} (h : rq_B n g) (hB : cq_B2 g') (hg : ∀ k i, 26 ≤ k → k < 29 → g' k i = g k i) : rq_B n g' := by
  refine ⟨hB, fun i => ?_⟩
  rw [hg _ _ (by decide) (by decide), hg _ _ (by decide) (by decide), hg _ _ (by decide) (by decide)]
  exact h.2 i
theorem rq_R_p {n : Nat} {g a : cq_S} (R : rq_R n g a) {k : Nat} (hk : rq_K k) (p : Nat) {v : Nat} (hv : v < 2147483648) : rq_R n (cq_p g k p v) (cq_p a k p v) := by
  have hk' : k < 12 := by unfold rq_K at hk; omega
  obtain ⟨M, W, P, B⟩ := R
  exact ⟨rq_M_p M hk p v, rq_W_o W (fun i => cq_p_k _ (by omega)) (fun i => cq_p_k _ (by omega)) (fun k i h => cq_p_k _ (by omega)), rq_P_o P (fun k i h1 h2 => cq_p_k _ (by omega)) (fun k i h => cq_p_k _ (by omega)), rq_B_o B (B.1.put hv) (fun k i h1 h2 => cq_p_k _ (by omega))⟩
theorem rq_R_v {n : Nat} {g a : cq_S} (R : rq_R n g a) (hn : n ≤ 5) {p c : Nat} (hp : p < n) (hc : c < 8) {v : Nat} (hv : v < 2147483648) : rq_R n (cq_p g (60 + p) c v) (cq_p a 6 (8 * p + c) v) := by
  obtain ⟨M, W, P, B⟩ := R
  exact ⟨rq_M_v M hn hp hc v, rq_W_o W (fun i => cq_p_k _ (by omega)) (fun i => cq_p_k _ (by omega)) (fun k i h => cq_p_k _ (by omega)), rq_P_o P (fun k i h1 h2 => cq_p_k _ (by omega)) (fun k i h => cq_p_k _ (by omega)), rq_B_o B (B.1.put hv) (fun k i h1 h2 => cq_p_k _ (by omega))⟩
/-- a letter to another -/
theorem rq_send {n : Nat} {g a : cq_S} (R : rq_R n g a) (hn : n ≤ 5) {k p q c r w s : Nat} (hp : p < n) (hq : q < n) (hpq : p ≠ q) (hk : k < 8) (hc : c < 8) (hr : r ≤ 10) (hw : w < 256) (hs16 : s < 16) (hs : s = if k = 2 then a 10 p else 0) (hroom : mq_put a k p q c r w 34 0 ≤ gq_room n) (h2 : k = 2 → a 30 (cq_x c r p) = 0) (h3 : k = 3 → ∀ q, q < n → a 31 (cq_x c r q) = 0) : rq_R n (gq_send g p q (gq_tx k c r w s)) (mq_put a k p q c r w) := by
  obtain ⟨M, W, P, B⟩ := R
  have h20 := M.2.1
  refine ⟨rq_M_o M (fun k i h => gq_send_k _ _ _ _ _ _ (by omega)) (fun k i h => mq_put_k _ _ _ _ _ _ _ _ _ h), rq_W_send W h20 hpq hs hroom, rq_P_o (rq_P_send P hn hp hpq (by omega) h2 h3) (fun k i h1 h2 => gq_send_k _ _ _ _ _ _ (by omega)) (fun _ _ _ => rfl), rq_B_o B (gq_send_B B.1 (by omega) (by omega) (gq_tx_lt hk hc (by omega) hw hs16) (by omega)) (fun k i h1 h2 => gq_send_k _ _ _ _ _ _ (by omega))⟩
theorem mq_put_34le (a : cq_S) (k p q c r w : Nat) : a 34 0 ≤ mq_put a k p q c r w 34 0 := by rw [mq_put_34]; exact Nat.le_add_right _ _
/-- a letter to all others -/
theorem rq_all {n : Nat} {g a : cq_S} (R : rq_R n g a) (hn : n ≤ 5) {k p c r w : Nat} (hp : p < n) (hk : k = 1 ∨ k = 3 ∨ k = 5) (hc : c < 8) (hr : r ≤ 10) (hw : w < 256) (h3 : k = 3 → ∀ q, q < n → a 31 (cq_x c r q) = 0) : ∀ j, j ≤ n → mq_all a k p c r w j 34 0 ≤ gq_room n → rq_R n (gq_all g p (gq_tx k c r w 0) j) (mq_all a k p c r w j) := by
  intro j
  induction j with
  | zero => intro _ _; exact R
  | succ j ih =>
    intro hj hroom
    unfold mq_all gq_all
    unfold mq_all at hroom
    by_cases e : j = p
    · rw [if_pos e] at hroom
      rw [if_pos e, if_pos e]
      exact ih (by omega) hroom
    · rw [if_neg e] at hroom
      rw [if_neg e, if_neg e]
      refine rq_send (ih (by omega) (Nat.le_trans (mq_put_34le _ _ _ _ _ _ _) hroom)) hn hp (by omega) (fun h => e h.symm) (by omega) hc hr hw (by decide) (by rw [if_neg (by omega)]) hroom (fun h => by omega) (fun h q hq => ?_)
      subst h
      rw [mq_all_g3 _ _ _ _ _ _ _ _ (by decide)]
      exact h3 rfl q hq
theorem rq_toAll {n : Nat} {g a : cq_S} (R : rq_R n g a) (hn : n ≤ 5) {k p c r w : Nat} (hp : p < n) (hk : k = 1 ∨ k = 3 ∨ k = 5) (hc : c < 8) (hr : r ≤ 10) (hw : w < 256) (h3 : k = 3 → ∀ q, q < n → a 31 (cq_x c r q) = 0) (hroom : mq_toAll a k p c r w 34 0 ≤ gq_room n) : rq_R n (gq_toAll g p (gq_tx k c r w 0)) (mq_toAll a k p c r w) := by
  unfold mq_toAll gq_toAll at *
  rw [R.1.2.1]
  rw [R.1.1] at hroom ⊢
  exact rq_all R hn hp hk hc hr hw h3 n (Nat.le_refl _) hroom
/-- one's own estimate -/
theorem rq_own2 {n : Nat} {g a : cq_S} (R : rq_R n g a) (hn : n ≤ 5) {p c r w : Nat} (hp : p < n) (hr1 : 1 ≤ r) (hr : r ≤ 10) (hw : w < 256) (hs : a 10 p < 16) : rq_R n (gq_kE g c r p w (a 10 p)) (mq_put a 2 p p c r w) := by
  obtain ⟨M, W, P, B⟩ := R
  refine ⟨rq_M_o M (fun k i h => by unfold gq_kE; exact cq_p_k _ (by omega)) (fun k i h => mq_put_k _ _ _ _ _ _ _ _ _ h), rq_W_o (rq_W_own W (Or.inl rfl)) (fun i => by unfold gq_kE; exact cq_p_k _ (by decide)) (fun i => by unfold gq_kE; exact cq_p_k _ (by decide)) (fun _ _ _ => rfl), rq_P_own2 P M.2.1 hn hp hr1 hr hw, rq_B_o B ?_ (fun k i h1 h2 => by unfold gq_kE; exact cq_p_k _ (by omega))⟩
  unfold gq_kE
  rw [gq_or8 hw]
  exact B.1.put (by omega)
theorem gq_or_2 {x p n : Nat} (h : x < 2 ^ n) (hp : p < n) : x ||| 2 ^ p < 2 ^ n := Nat.or_lt_two_pow h (Nat.pow_lt_pow_right (by decide) hp)
theorem rq_B_kV {n : Nat} {g : cq_S} (B : rq_B n g) (hn : n ≤ 5) {c r p v : Nat} (hp : p < n) : rq_B n (gq_kV g c r p v) := by
  have h32 : 2 ^ n ≤ 32 := Nat.pow_le_pow_right (n := 2) (by decide) hn
  have hx := fun K i (h : g K i < 2 ^ n) => gq_or_2 (p := p) h hp
  have h27 := hx 27 (c * 10 + r - 1) (B.2 _).1
  have h28 := hx 28 (c * 10 + r - 1) (B.2 _).2.1
  unfold gq_kV
  split
  · refine ⟨B.1.put (by omega), fun i => ⟨?_, ?_, ?_⟩⟩
    · by_cases e : i = c * 10 + r - 1
      · rw [e, cq_p_s]; exact h27
      · rw [cq_p_i _ e]; exact (B.2 i).1
    · rw [cq_p_k _ (by decide)]; exact (B.2 i).2.1
    · rw [cq_p_k _ (by decide)]; exact (B.2 i).2.2
  · refine ⟨B.1.put (by omega), fun i => ⟨?_, ?_, ?_⟩⟩
    · rw [cq_p_k _ (by decide)]; exact (B.2 i).1
    · by_cases e : i = c * 10 + r - 1
      · rw [e, cq_p_s]; exact h28
      · rw [cq_p_i _ e]; exact (B.2 i).2.1
    · rw [cq_p_k _ (by decide)]; exact (B.2 i).2.2
theorem gq_kV_k (g : cq_S) (c r p v k i : Nat) (h : k ≠ 27 ∧ k ≠ 28) : gq_kV g c r p v k i = g k i := by
  unfold gq_kV
  split
  · exact cq_p_k _ h.1
  · exact cq_p_k _ h.2
/-- one's own vote -/
theorem rq_own4 {n : Nat} {g a : cq_S} (R : rq_R n g a) (hn : n ≤ 5) {p c r v : Nat} (hp : p < n) (hr1 : 1 ≤ r) (hr : r ≤ 10) (hv : v ≤ 1) : rq_R n (gq_kV g c r p v) (mq_put a 4 p p c r v) := by
  obtain ⟨M, W, P, B⟩ := R
  refine ⟨rq_M_o M (fun k i h => gq_kV_k _ _ _ _ _ _ _ (by omega)) (fun k i h => mq_put_k _ _ _ _ _ _ _ _ _ h), rq_W_o (rq_W_own W (Or.inr rfl)) (fun i => gq_kV_k _ _ _ _ _ _ _ (by decide)) (fun i => gq_kV_k _ _ _ _ _ _ _ (by decide)) (fun _ _ _ => rfl), rq_P_vote P hn hp hr1 hr hv (fun k x h => ?_) (fun x => ?_) (fun x => ?_), rq_B_kV B hn hp⟩
  · rcases h with h | h | h | h | h <;> subst h
    · rw [mq_put_25, if_neg (by omega)]
    · rw [mq_put_26, if_neg (by omega)]
    · rw [mq_put_27, if_neg (by omega)]
    · rw [mq_put_30, if_neg (by omega)]
    · rw [mq_put_31]
  · rw [mq_put_32]; simp
  · rw [mq_put_33]; simp
/-- the next round -/
theorem rq_enter {n : Nat} {g a : cq_S} (R : rq_R n g a) (hn : n ≤ 5) {p r : Nat} (hp : p < n) (hr1 : 1 ≤ r) (hr : r ≤ 11) (h4 : a 4 p < 8) (h9 : a 9 p < 256) (h10 : a 10 p < 16) (h30 : r ≠ 11 → a 30 (cq_x (a 4 p) r p) = 0) (hroom : mq_enter a p r 34 0 ≤ gq_room n) : rq_R n (gq_enter g p r) (mq_enter a p r) := by
  have M := R.1
  have hl : gq_ldr g r = mq_ldr a r := by unfold gq_ldr mq_ldr; rw [M.1, M.2.1]
  have e4 : g 4 p = a 4 p := M.2.2.2.2.1 4 p (by unfold rq_K; omega) hp
  have e9 : g 9 p = a 9 p := M.2.2.2.2.1 9 p (by unfold rq_K; omega) hp
  have e10 : g 10 p = a 10 p := M.2.2.2.2.1 10 p (by unfold rq_K; omega) hp
  have h8 : ∀ v, v < 2147483648 → rq_R n (cq_p (cq_p g 8 p r) 7 p v) (cq_p (cq_p a 8 p r) 7 p v) := fun v hv => rq_R_p (rq_R_p R (by unfold rq_K; omega) p (by omega)) (by unfold rq_K; omega) p hv
  have hq : mq_ldr a r < n := by unfold mq_ldr; rw [M.1]; exact Nat.mod_lt _ (by omega)
  unfold mq_enter at hroom
  unfold gq_enter mq_enter
  by_cases e : r = 11
  · rw [if_neg (show ¬ r ≤ 10 by omega), if_pos e]
    exact h8 4 (by decide)
  · rw [if_neg e] at hroom
    rw [if_pos (show r ≤ 10 by omega), if_neg e, hl, e4, e9, e10]
    by_cases c : mq_ldr a r = p
    · rw [if_pos c.symm, if_pos c, c]
      have := rq_own2 (h8 1 (by decide)) hn (c := a 4 p) (r := r) hp hr1 (by omega) h9 (show a 10 p < 16 from h10)
      have e2 : cq_p (gq_kE (cq_p g 8 p r) (a 4 p) r p (a 9 p) (a 10 p)) 7 p 1 = gq_kE (cq_p (cq_p g 8 p r) 7 p 1) (a 4 p) r p (a 9 p) (a 10 p) := by
        unfold gq_kE
        rw [cq_p_comm _ (by decide)]
        rfl
      rw [e2]; exact this
    · rw [if_neg (fun h => c h.symm), if_neg c]
      rw [if_neg c] at hroom
      have := rq_send (h8 2 (by decide)) hn (k := 2) (c := a 4 p) (r := r) (w := a 9 p) (s := a 10 p) hp hq (fun h => c h.symm) (by decide) h4 (by omega) h9 h10 (by rw [if_pos rfl]; rfl) hroom (fun _ => h30 e) (fun h => by omega)
      have e2 : ∀ t, cq_p (gq_send (cq_p g 8 p r) p (mq_ldr a r) t) 7 p 2 = gq_send (cq_p (cq_p g 8 p r) 7 p 2) p (mq_ldr a r) t := by
        intro t
        unfold gq_send
        by_cases f : gq_room (g 20 0) ≤ g 23 0
        · rw [if_pos (show gq_room (cq_p g 8 p r 20 0) ≤ cq_p g 8 p r 23 0 from f), if_pos (show gq_room (cq_p (cq_p g 8 p r) 7 p 2 20 0) ≤ cq_p (cq_p g 8 p r) 7 p 2 23 0 from f)]
        · rw [if_neg (show ¬ gq_room (cq_p g 8 p r 20 0) ≤ cq_p g 8 p r 23 0 from f), if_neg (show ¬ gq_room (cq_p (cq_p g 8 p r) 7 p 2 20 0) ≤ cq_p (cq_p g 8 p r) 7 p 2 23 0 from f), cq_p_comm _ (by decide), cq_p_comm _ (k := 24) (k' := 7) (by decide)]
          rfl
      rw [e2]; exact this
