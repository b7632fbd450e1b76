theorem mq_all_34 (a : cq_S) {k : Nat} (hk : k ≠ 2 ∧ k ≠ 4) (p c r w : Nat) : ∀ j, mq_all a k p c r w j 34 0 = a 34 0 + (if p < j then j - 1 else j) ∧ mq_all a k p c r w j 35 0 = a 35 0 := by
  intro j
  induction j with
  | zero => simp [mq_all]
  | succ j ih =>
    unfold mq_all
    by_cases h : j = p
    · rw [if_pos h, ih.1, ih.2, if_neg (by omega), if_pos (by omega)]
      exact ⟨by omega, rfl⟩
    · have hc : ¬ ((k = 2 ∨ k = 4) ∧ p = j) := by omega
      rw [if_neg h, mq_put_34, mq_put_35, ih.1, ih.2, if_neg hc, if_neg hc]
      refine ⟨?_, by omega⟩
      by_cases h2 : p < j
      · rw [if_pos h2, if_pos (by omega)]; omega
      · rw [if_neg h2, if_neg (by omega)]; omega
theorem pq_Zall (s : Nat) (a : cq_S) {k : Nat} (hk : k ≠ 2 ∧ k ≠ 4) {p : Nat} (hp : p < a 20 0) (c r w : Nat) : pq_Z s (mq_toAll a k p c r w) = pq_Z s a + (a 20 0 - 1) := by
  unfold pq_Z mq_toAll
  rw [(mq_all_34 a hk p c r w _).1, (mq_all_34 a hk p c r w _).2, if_pos hp]
  omega
theorem pq_Zput (s : Nat) (a : cq_S) (k p q c r w : Nat) : pq_Z s (mq_put a k p q c r w) = pq_Z s a + (if (k = 2 ∨ k = 4) ∧ p = q then s else 1) := by
  unfold pq_Z
  rw [mq_put_34, mq_put_35]
  by_cases h : (k = 2 ∨ k = 4) ∧ p = q
  · rw [if_pos h, if_pos h, if_pos h, Nat.mul_add]; omega
  · rw [if_neg h, if_neg h, if_neg h, show a 35 0 + 0 = a 35 0 from rfl]; omega
theorem pq_u_congr (s : Nat) {a b : cq_S} {q : Nat} (h20 : b 20 0 = a 20 0) (h0 : b 0 q = a 0 q) (h6 : ∀ k, k < 8 → b 6 (8 * q + k) = a 6 (8 * q + k)) (h4 : b 4 q = a 4 q) (h7 : b 7 q = a 7 q) (h8 : b 8 q = a 8 q) : pq_u s a q = pq_u s b q := by
  unfold pq_u
  rw [h20, h0, h4, h7, h8, jq_c_congr (f := fun k => b 6 (8 * q + k)) (g := fun k => a 6 (8 * q + k)) 8 (fun k hk => by rw [h6 k hk])]
theorem mq_enter_Z (s : Nat) (d : cq_S) (p r : Nat) : pq_Z s (mq_enter d p r) = pq_Z s d + (if r = 11 then 0 else if mq_ldr d r = p then s else 1) := by
  unfold mq_enter
  by_cases h : r = 11
  · rw [if_pos h, if_pos h]
    unfold pq_Z
    rw [cq_p_k _ (by decide), cq_p_k _ (by decide), cq_p_k _ (by decide), cq_p_k _ (by decide)]; rfl
  · rw [if_neg h, if_neg h, pq_Zput]
    have e : pq_Z s (cq_p (cq_p d 8 p r) 7 p (if mq_ldr d r = p then 1 else 2)) = pq_Z s d := by
      unfold pq_Z
      rw [cq_p_k _ (by decide), cq_p_k _ (by decide), cq_p_k _ (by decide), cq_p_k _ (by decide)]
    rw [e]
    by_cases h2 : mq_ldr d r = p
    · rw [if_pos ⟨Or.inl rfl, h2.symm⟩, if_pos h2]
    · rw [if_neg (fun hc => h2 hc.2.symm), if_neg h2]
theorem pq_move {s : Nat} {a d : cq_S} (P : pq_P s a) {p r z : Nat} (hp : p < a 20 0) (h20 : d 20 = a 20) (h0 : d 0 = a 0) (h4 : d 4 = a 4) (h6 : d 6 = a 6) (h7 : d 7 = a 7) (h8 : d 8 = a 8) (hZ : pq_Z s d = pq_Z s a + z) (hr1 : 1 ≤ r) (hr : r ≤ 11)
    (hu : pq_used s (a 20 0) p (a 7 p) (a 8 p) + z ≤ pq_w s (a 20 0) p (r - 1)) : pq_P s (mq_enter d p r) := by
  have k : ∀ k' i, k' = 20 ∨ k' = 0 ∨ k' = 4 ∨ k' = 6 → mq_enter d p r k' i = a k' i := by
    intro k' i h
    rw [mq_enter_k _ _ _ _ _ (by omega)]
    rcases h with h | h | h | h <;> subst h
    · rw [h20]
    · rw [h0]
    · rw [h4]
    · rw [h6]
  have hl : mq_ldr d r = (r - 1) % a 20 0 := by unfold mq_ldr; rw [h20]
  refine pq_one P (p := p) (d := z + (if r = 11 then 0 else if mq_ldr d r = p then s else 1)) hp (k 20 0 (by omega)) ?_ (fun q hq => ?_) ?_
  · rw [mq_enter_Z, hZ]; omega
  · exact pq_u_congr s (k 20 0 (by omega)) (k 0 q (by omega)) (fun x _ => k 6 _ (by omega)) (k 4 q (by omega)) (by rw [mq_enter_7, if_neg hq, h7]) (by rw [mq_enter_8, if_neg hq, h8])
  · unfold pq_u
    rw [k 20 0 (by omega), k 0 p (by omega), k 4 p (by omega), mq_enter_7, if_pos rfl, mq_enter_8, if_pos rfl, jq_c_congr (f := fun x => mq_enter d p r 6 (8 * p + x)) (g := fun x => a 6 (8 * p + x)) 8 (fun x _ => by rw [k 6 _ (by omega)])]
    have hused : pq_used s (a 20 0) p (a 7 p) (a 8 p) + (z + (if r = 11 then 0 else if mq_ldr d r = p then s else 1)) ≤ pq_used s (a 20 0) p (if r = 11 then 4 else if mq_ldr d r = p then 1 else 2) r := by
      by_cases c : r = 11
      · subst c
        rw [if_pos rfl, if_pos rfl]
        unfold pq_used at hu ⊢
        simp only [show ¬ (4 : Nat) = 0 by decide, show ¬ (4 : Nat) = 1 by decide, show ¬ (4 : Nat) = 2 by decide, show ¬ (4 : Nat) = 3 by decide, if_false]
        exact hu
      · rw [if_neg c, if_neg c]
        by_cases c2 : mq_ldr d r = p
        · rw [if_pos c2, if_pos c2]
          have e : pq_used s (a 20 0) p 1 r = pq_w s (a 20 0) p (r - 1) + s := rfl
          rw [e]; omega
        · rw [if_neg c2, if_neg c2]
          have e : pq_used s (a 20 0) p 2 r = pq_w s (a 20 0) p (r - 1) + 1 := rfl
          rw [e]; omega
    omega
/-- one more is known, or one more verdict: letters to all others -/
theorem pq_more {s : Nat} {a b : cq_S} (P : pq_P s a) {p : Nat} (hp : p < a 20 0) (h20 : b 20 0 = a 20 0) (hZ : pq_Z s b = pq_Z s a + (a 20 0 - 1)) (h4 : b 4 = a 4) (h7 : b 7 = a 7) (h8 : b 8 = a 8) (ho0 : ∀ q, q ≠ p → b 0 q = a 0 q) (ho6 : ∀ q k, q ≠ p → k < 8 → b 6 (8 * q + k) = a 6 (8 * q + k))
    (hm : jq_pop (a 0 p) + jq_c (fun k => a 6 (8 * p + k)) 8 + 1 ≤ jq_pop (b 0 p) + jq_c (fun k => b 6 (8 * p + k)) 8) : pq_P s b := by
  refine pq_one P hp h20 hZ (fun q hq => pq_u_congr s h20 (ho0 q hq) (fun k hk => ho6 q k hq hk) (by rw [h4]) (by rw [h7]) (by rw [h8])) ?_
  unfold pq_u
  rw [h20, h4, h7, h8]
  have h2 := Nat.mul_le_mul_left (a 20 0 - 1) hm
  rw [Nat.mul_add, Nat.mul_one] at h2
  omega
theorem pq_same {s : Nat} {a b : cq_S} (P : pq_P s a) (h20 : b 20 0 = a 20 0) (hZ : pq_Z s b = pq_Z s a) (h0 : b 0 = a 0) (h6 : b 6 = a 6) (h4 : b 4 = a 4) (h7 : b 7 = a 7) (h8 : b 8 = a 8) : pq_P s b := by
  unfold pq_P at P ⊢
  have e : pq_u s b = pq_u s a := funext (fun q => (pq_u_congr s h20 (by rw [h0]) (fun k _ => by rw [h6]) (by rw [h4]) (by rw [h7]) (by rw [h8])).symm)
  rw [hZ, e, h20]
  exact P
theorem jq_c_up {f g : Nat → Nat} {n c : Nat} (hc : c < n) (hf : f c = 0) (hg : g c ≠ 0) (ho : ∀ k, k ≠ c → g k = f k) : jq_c g n = jq_c f n + 1 := by
  rw [jq_c_drop g c n hc hg]
  congr 1
  exact jq_c_congr n (fun k _ => by
    by_cases h : k = c
    · subst h; simp [hf]
    · simp [h, ho k h])
theorem pq_learn {s : Nat} {a : cq_S} (P : pq_P s a) {p c w : Nat} (hp : p < a 20 0) (hc : c < 8) (h60 : a 6 (8 * p + c) = 0) (hw : w ≠ 0) : pq_P s (mq_learn a p c w) := by
  have lo : ∀ k', k' < 12 ∨ (20 ≤ k' ∧ k' < 23) → k' ≠ 6 → mq_learn a p c w k' = a k' := by
    intro k' h h6
    unfold mq_learn mq_toAll
    rw [mq_all_f _ _ _ _ _ _ _ _ h, cq_p_f _ h6]
  have g6 : ∀ i, mq_learn a p c w 6 i = cq_p a 6 (8 * p + c) w 6 i := fun i => by unfold mq_learn mq_toAll; rw [mq_all_k _ _ _ _ _ _ _ _ _ (by decide)]
  refine pq_more P hp (by rw [lo 20 (by omega) (by decide)]) ?_ (lo 4 (by omega) (by decide)) (lo 7 (by omega) (by decide)) (lo 8 (by omega) (by decide)) (fun q _ => by rw [lo 0 (by omega) (by decide)]) (fun q k hq hk => by rw [g6, cq_p_i _ (by omega)]) ?_
  · unfold mq_learn
    rw [pq_Zall s _ (by decide) (show p < cq_p a 6 (8 * p + c) w 20 0 from hp)]
    have e : pq_Z s (cq_p a 6 (8 * p + c) w) = pq_Z s a := by unfold pq_Z; rw [cq_p_k _ (by decide), cq_p_k _ (by decide)]
    rw [e]; rfl
  · rw [lo 0 (by omega) (by decide), jq_c_up (f := fun k => a 6 (8 * p + k)) (g := fun k => mq_learn a p c w 6 (8 * p + k)) hc h60 (by rw [g6, cq_p_s]; exact hw) (fun k hk => by rw [g6, cq_p_i _ (by omega)])]
    omega
theorem pq_step {s : Nat} (hs : s ≤ 1) {a : cq_S} (I : iq_I a) (P : pq_P s a) {p : Nat} (hp : p < a 20 0) : pq_P s (mq_step a p).1 := by
  have hI := I
  obtain ⟨J, L⟩ := hI
  have hn3 := J.1
  unfold mq_step
  by_cases c1 : a 4 p < 8 ∧ ¬ a 6 (8 * p + a 4 p) = 0
  · rw [if_pos c1]
    show pq_P s (mq_finish a p)
    have fk : ∀ k' i, k' ≠ 1 ∧ k' ≠ 2 ∧ k' ≠ 3 → k' ≠ 4 → k' ≠ 7 → k' ≠ 8 → k' ≠ 9 → k' ≠ 10 → mq_finish a p k' i = a k' i := by
      intro k' i h h4 h7 h8 h9 h10
      unfold mq_finish
      rw [cq_p_k _ h10, cq_p_k _ h9, cq_p_k _ h8, cq_p_k _ h7, cq_p_k _ h4]
      exact mq_fin_k _ _ _ _ _ _ h
    have f4 : ∀ i, mq_finish a p 4 i = if i = p then a 4 p + 1 else a 4 i := by
      intro i
      unfold mq_finish
      rw [cq_p_k _ (by decide), cq_p_k _ (by decide), cq_p_k _ (by decide), cq_p_k _ (by decide)]
      by_cases hi : i = p
      · rw [if_pos hi, hi, cq_p_s]
      · rw [if_neg hi, cq_p_i _ hi]; exact mq_fin_k _ _ _ _ _ _ (by decide)
    have f7 : ∀ i, mq_finish a p 7 i = if i = p then 0 else a 7 i := by
      intro i
      unfold mq_finish
      rw [cq_p_k _ (by decide), cq_p_k _ (by decide), cq_p_k _ (by decide)]
      by_cases hi : i = p
      · rw [if_pos hi, hi, cq_p_s]
      · rw [if_neg hi, cq_p_i _ hi, cq_p_k _ (by decide)]; exact mq_fin_k _ _ _ _ _ _ (by decide)
    have f8 : ∀ i, i ≠ p → mq_finish a p 8 i = a 8 i := by
      intro i hi
      unfold mq_finish
      rw [cq_p_k _ (by decide), cq_p_k _ (by decide), cq_p_i _ hi, cq_p_k _ (by decide), cq_p_k _ (by decide)]; exact mq_fin_k _ _ _ _ _ _ (by decide)
    have g : ∀ k' i, k' = 0 ∨ k' = 6 ∨ 20 ≤ k' → mq_finish a p k' i = a k' i := fun k' i h => fk k' i (by omega) (by omega) (by omega) (by omega) (by omega) (by omega)
    refine pq_one P (d := 0) hp (g 20 0 (by omega)) ?_ (fun q hq => ?_) ?_
    · unfold pq_Z; rw [g 34 0 (by omega), g 35 0 (by omega)]; rfl
    · exact pq_u_congr s (g 20 0 (by omega)) (g 0 q (by omega)) (fun k _ => g 6 _ (by omega)) (by rw [f4, if_neg hq]) (by rw [f7, if_neg hq]) (f8 q hq)
    · have h6 := pq_used_le J s hs hp
      unfold pq_u
      rw [g 20 0 (by omega), g 0 p (by omega), f4, if_pos rfl, f7, if_pos rfl, jq_c_congr (f := fun x => mq_finish a p 6 (8 * p + x)) (g := fun x => a 6 (8 * p + x)) 8 (fun x _ => by rw [g 6 _ (by omega)]), Nat.add_mul, Nat.one_mul]
      have e : pq_used s (a 20 0) p 0 (mq_finish a p 8 p) = 0 := rfl
      rw [e]
      omega
  · rw [if_neg c1]
    by_cases c2 : a 7 p = 0 ∧ ¬ cq_an (a 0 p) (a 1 p) = 0
    · rw [if_pos c2]
      show pq_P s (mq_enter (cq_p (cq_p a 9 p (cq_an (a 0 p) (a 1 p))) 10 p 0) p 1)
      refine pq_move P (z := 0) (r := 1) hp ?_ ?_ ?_ ?_ ?_ ?_ ?_ (by decide) (by decide) ?_
      · rw [cq_p_f _ (by decide), cq_p_f _ (by decide)]
      · rw [cq_p_f _ (by decide), cq_p_f _ (by decide)]
      · rw [cq_p_f _ (by decide), cq_p_f _ (by decide)]
      · rw [cq_p_f _ (by decide), cq_p_f _ (by decide)]
      · rw [cq_p_f _ (by decide), cq_p_f _ (by decide)]
      · rw [cq_p_f _ (by decide), cq_p_f _ (by decide)]
      · unfold pq_Z; rw [cq_p_k _ (by decide), cq_p_k _ (by decide), cq_p_k _ (by decide), cq_p_k _ (by decide)]; rfl
      · unfold pq_used; rw [if_pos c2.1]; omega
    · rw [if_neg c2]
      by_cases c3 : a 7 p = 1 ∧ mq_maj a ≤ mq_holds a 2 p (a 23 0)
      · rw [if_pos c3]
        generalize (mq_best a p (a 23 0)).getD 0 = b
        show pq_P s (mq_mk a p b)
        obtain ⟨d1, d2, d3, d4, d5, d6, d7, d8, d9, d10⟩ := jq_at J hp (by omega)
        have lo : ∀ k' i, k' < 12 ∨ (20 ≤ k' ∧ k' < 23) → k' ≠ 7 → k' ≠ 9 → k' ≠ 10 → mq_mk a p b k' i = a k' i := by
          intro k' i h h7' h9' h10'
          unfold mq_mk mq_toAll
          rw [cq_p_k _ h7', mq_put_k _ _ _ _ _ _ _ _ _ h, mq_all_k _ _ _ _ _ _ _ _ _ h, cq_p_k _ h10', cq_p_k _ h9']
        have f7 : ∀ i, mq_mk a p b 7 i = if i = p then 3 else a 7 i := by
          intro i
          unfold mq_mk mq_toAll
          by_cases hi : i = p
          · rw [if_pos hi, hi, cq_p_s]
          · rw [if_neg hi, cq_p_i _ hi, mq_put_k _ _ _ _ _ _ _ _ _ (by decide), mq_all_k _ _ _ _ _ _ _ _ _ (by decide), cq_p_k _ (by decide), cq_p_k _ (by decide)]
        refine pq_one P (d := (a 20 0 - 1) + s) hp (lo 20 0 (by omega) (by decide) (by decide) (by decide)) ?_ (fun q hq => ?_) ?_
        · have e : pq_Z s (mq_mk a p b) = pq_Z s (mq_put (mq_toAll (cq_p (cq_p a 9 p (a 17 b)) 10 p (a 8 p)) 3 p (a 4 p) (a 8 p) (a 17 b)) 4 p p (a 4 p) (a 8 p) 1) := by unfold mq_mk pq_Z; rw [cq_p_k _ (by decide), cq_p_k _ (by decide)]
          have e2 : pq_Z s (cq_p (cq_p a 9 p (a 17 b)) 10 p (a 8 p)) = pq_Z s a := by unfold pq_Z; rw [cq_p_k _ (by decide), cq_p_k _ (by decide), cq_p_k _ (by decide), cq_p_k _ (by decide)]
          rw [e, pq_Zput, if_pos ⟨Or.inr rfl, rfl⟩, pq_Zall s _ (by decide) (show p < cq_p (cq_p a 9 p (a 17 b)) 10 p (a 8 p) 20 0 from hp), e2]
          show pq_Z s a + (a 20 0 - 1) + s = _
          omega
        · exact pq_u_congr s (lo 20 0 (by omega) (by decide) (by decide) (by decide)) (lo 0 q (by omega) (by decide) (by decide) (by decide)) (fun k _ => lo 6 _ (by omega) (by decide) (by decide) (by decide)) (lo 4 q (by omega) (by decide) (by decide) (by decide)) (by rw [f7, if_neg hq]) (lo 8 q (by omega) (by decide) (by decide) (by decide))
        · unfold pq_u
          rw [lo 20 0 (by omega) (by decide) (by decide) (by decide), lo 0 p (by omega) (by decide) (by decide) (by decide), lo 4 p (by omega) (by decide) (by decide) (by decide), lo 8 p (by omega) (by decide) (by decide) (by decide), f7, if_pos rfl, jq_c_congr (f := fun x => mq_mk a p b 6 (8 * p + x)) (g := fun x => a 6 (8 * p + x)) 8 (fun x _ => by rw [lo 6 _ (by omega) (by decide) (by decide) (by decide)])]
          have e1 : pq_used s (a 20 0) p 3 (a 8 p) = pq_w s (a 20 0) p (a 8 p) := rfl
          have e2 : pq_used s (a 20 0) p (a 7 p) (a 8 p) = pq_w s (a 20 0) p (a 8 p - 1) + s := by rw [c3.1]; rfl
          have h3 : pq_g s (a 20 0) p (a 8 p) = (a 20 0 - 1) + 2 * s := by
            unfold pq_g
            rw [if_pos (show (a 8 p - 1) % a 20 0 = p from d7 (Or.inl c3.1))]
          rw [e1, e2, pq_w_s s (a 20 0) p d2, h3]
          omega
      · rw [if_neg c3]
        by_cases c4 : a 7 p = 2
        · rw [if_pos c4]
          obtain ⟨d1, d2, d3, d4, d5, d6, d7, d8, d9, d10⟩ := jq_at J hp (by omega)
          have d6' := d6 (by omega)
          have vote : ∀ (d : cq_S) (y : Nat), d 20 = a 20 → d 0 = a 0 → d 4 = a 4 → d 6 = a 6 → d 7 = a 7 → d 8 = a 8 → pq_Z s d = pq_Z s a → pq_P s (mq_vote d p y) := by
            intro d y h20 h0 h4 h6 h7 h8 hZ
            have el : mq_ldr d (a 8 p) = mq_ldr a (a 8 p) := by unfold mq_ldr; rw [h20]
            unfold mq_vote
            rw [h8, h4, el]
            refine pq_move P (z := 1) hp ?_ ?_ ?_ ?_ ?_ ?_ ?_ (by omega) (by omega) ?_
            · rw [mq_put_f _ _ _ _ _ _ _ _ (by omega)]; exact h20
            · rw [mq_put_f _ _ _ _ _ _ _ _ (by omega)]; exact h0
            · rw [mq_put_f _ _ _ _ _ _ _ _ (by omega)]; exact h4
            · rw [mq_put_f _ _ _ _ _ _ _ _ (by omega)]; exact h6
            · rw [mq_put_f _ _ _ _ _ _ _ _ (by omega)]; exact h7
            · rw [mq_put_f _ _ _ _ _ _ _ _ (by omega)]; exact h8
            · rw [pq_Zput, if_neg (fun hc => d8 c4 hc.2.symm), hZ]
            · have e2 : pq_used s (a 20 0) p (a 7 p) (a 8 p) = pq_w s (a 20 0) p (a 8 p - 1) + 1 := by rw [c4]; rfl
              have h3 : pq_g s (a 20 0) p (a 8 p) = 2 := by
                unfold pq_g
                rw [if_neg (show ¬ (a 8 p - 1) % a 20 0 = p from d8 c4)]
              rw [e2, show a 8 p + 1 - 1 = a 8 p by omega, pq_w_s s (a 20 0) p d2, h3]
              omega
          unfold mq_await
          cases mq_offer a p (a 23 0) with
          | some i =>
            exact vote _ 1 (by rw [cq_p_f _ (by decide), cq_p_f _ (by decide)]) (by rw [cq_p_f _ (by decide), cq_p_f _ (by decide)]) (by rw [cq_p_f _ (by decide), cq_p_f _ (by decide)]) (by rw [cq_p_f _ (by decide), cq_p_f _ (by decide)]) (by rw [cq_p_f _ (by decide), cq_p_f _ (by decide)]) (by rw [cq_p_f _ (by decide), cq_p_f _ (by decide)]) (by unfold pq_Z; rw [cq_p_k _ (by decide), cq_p_k _ (by decide), cq_p_k _ (by decide), cq_p_k _ (by decide)])
          | none =>
            show pq_P s (if a 5 p / 2 ^ mq_ldr a (a 8 p) % 2 = 1 then (mq_vote a p 0, 1) else (a, 0)).1
            by_cases c5 : a 5 p / 2 ^ mq_ldr a (a 8 p) % 2 = 1
            · rw [if_pos c5]; exact vote a 0 rfl rfl rfl rfl rfl rfl rfl
            · rw [if_neg c5]; exact P
        · rw [if_neg c4]
          by_cases c5 : a 7 p = 3 ∧ mq_maj a ≤ mq_holds a 4 p (a 23 0)
          · rw [if_pos c5]
            obtain ⟨d1, d2, d3, d4, d5, d6, d7, d8, d9, d10⟩ := jq_at J hp (by omega)
            have d6' := d6 (by omega)
            by_cases c6 : mq_ay a p (a 23 0) = 0
            · rw [if_pos c6]
              refine pq_move P (z := 0) hp rfl rfl rfl rfl rfl rfl rfl (by omega) (by omega) ?_
              have e2 : pq_used s (a 20 0) p (a 7 p) (a 8 p) = pq_w s (a 20 0) p (a 8 p) := by rw [c5.1]; rfl
              rw [e2, show a 8 p + 1 - 1 = a 8 p by omega]
              omega
            · rw [if_neg c6]
              exact pq_learn P hp d1 (Decidable.byContradiction (fun h => c1 ⟨d1, h⟩)) d4.1
          · rw [if_neg c5]; exact P
