/-! The whole invariant through a step of the reference. -/
theorem iq_src {a : cq_S} (I : iq_I a) {p b : Nat} (hp : p < a 20 0) (h7 : a 7 p = 1) (hm : mq_maj a ≤ mq_holds a 2 p (a 23 0)) (hb : mq_best a p (a 23 0) = some b) :
    b < a 23 0 ∧ a 17 b ≠ 0 ∧ a 17 b < 256 ∧ a 13 b < a 20 0 ∧ a 25 (cq_x (a 4 p) (a 8 p) (a 13 b)) = a 17 b ∧ a 26 (cq_x (a 4 p) (a 8 p) (a 13 b)) = a 18 b ∧ a 20 0 / 2 + 1 ≤ jq_c (fun q => if a 25 (cq_x (a 4 p) (a 8 p) q) ≠ 0 ∧ a 26 (cq_x (a 4 p) (a 8 p) q) ≤ a 26 (cq_x (a 4 p) (a 8 p) (a 13 b)) then 1 else 0) (a 20 0) := by
  obtain ⟨J, L⟩ := I
  obtain ⟨d1, d2, d3, d4, d5, d6, d7, d8, d9, d10⟩ := jq_at J hp (by omega)
  obtain ⟨g1, g2, g3⟩ := mq_best_spec a p _ b hb
  obtain ⟨e1, e2, e3, e4, e5⟩ := (mq_hn_iff _ _ _ _).mp g2
  obtain ⟨f0, -, f2, -⟩ := L.1 b g1
  obtain ⟨f21, f22, f23, f24, f25, -⟩ := f2 e3
  unfold lq_x at f23 f25
  rw [e4, e5] at f23 f25
  refine ⟨g1, f24, f0.2.2.2.2.2.2.2.1, f0.2.2.1, f23, f25, ?_⟩
  have hh := lq_holds2 L (show a 8 p < 16 by omega) (d7 (Or.inl h7))
  rw [hh] at hm
  refine Nat.le_trans hm (jq_c_mono _ (fun q hq hne => ?_))
  obtain ⟨i, hi, k1, k2, k3, k4, k5⟩ := (L.2.1 _ _ q (by omega) hq).1 hne
  obtain ⟨-, m2, m3, m4, m5, -⟩ := (L.1 i hi).2.2.1 k1
  have hhere : mq_hn a i 2 p ≠ 0 := (mq_hn_iff _ _ _ _).mpr ⟨k2, by rw [m2, k4]; exact d7 (Or.inl h7), k1, k3, k4⟩
  have hle := g3 i hi hhere
  unfold lq_x at m3 m5
  rw [k3, k4, k5] at m3 m5
  rw [if_pos ⟨by rw [m3]; exact m4, by rw [m5, f25]; omega⟩]
  exact Nat.one_ne_zero
theorem iq_lock {a : cq_S} (I : iq_I a) {p : Nat} (hp : p < a 20 0) (h7 : a 7 p = 3) (hm : mq_maj a ≤ mq_holds a 4 p (a 23 0)) (hay : ¬ mq_ay a p (a 23 0) = 0) : jq_Vs a (a 4 p) (a 9 p) := by
  obtain ⟨J, L⟩ := I
  obtain ⟨d1, d2, d3, d4, d5, d6, d7, d8, d9, d10⟩ := jq_at J hp (by omega)
  refine ⟨d4.1, a 8 p, d2, by omega, d9 h7, ?_⟩
  have hh := lq_holds4 L (show a 8 p < 16 by omega) (d7 (Or.inr h7))
  rw [hh] at hm
  refine Nat.le_trans hm (jq_c_mono _ (fun q hq hne => ?_))
  have h33 : a 33 (cq_x (a 4 p) (a 8 p) q) = 0 := by
    refine Decidable.byContradiction (fun h => hay ?_)
    obtain ⟨i, hi, k1, k2, k3, k4, k5, k6⟩ := (L.2.1 _ _ q (by omega) hq).2.2.2 h
    refine (mq_ay_spec a p _).mpr ⟨i, hi, (mq_hn_iff _ _ _ _).mpr ⟨k2, ?_, k1, k3, k4⟩, by omega⟩
    rw [((L.1 i hi).2.2.2.2.1 k1).2.1, k4]; exact d7 (Or.inr h7)
  have hne' : a 32 (cq_x (a 4 p) (a 8 p) q) + a 33 (cq_x (a 4 p) (a 8 p) q) ≠ 0 := hne
  obtain ⟨i, hi, k1, k2, k3, k4, k5, k6⟩ := (L.2.1 (a 4 p) (a 8 p) q (by omega) hq).2.2.1 (by omega)
  have h28 := ((L.1 i hi).2.2.2.2.1 k1).2.2.2.1 k6
  unfold lq_x at h28
  rw [k3, k4, k5] at h28
  exact h28
theorem jq_O0 {a : cq_S} (J : jq_J a) {p : Nat} (hp : p < a 20 0) (h7 : a 7 p = 1) : a 27 (cq_x (a 4 p) (a 8 p) 0) = 0 := by
  obtain ⟨d1, d2, d3, d4, d5, d6, d7, d8, d9, d10⟩ := jq_at J hp (by omega)
  refine Decidable.byContradiction (fun h => ?_)
  obtain ⟨-, -, t3, -⟩ := J.2.2.2.2.2.2 (a 4 p) (a 8 p) (by omega) h
  rw [d7 (Or.inl h7)] at t3
  exact t3 (jq_novote J hp (by omega) (by omega)).1
theorem lq_mk {a : cq_S} (I : iq_I a) {p b : Nat} (hp : p < a 20 0) (h7 : a 7 p = 1) (hw0 : a 17 b ≠ 0) (hw : a 17 b < 256) : lq_L (mq_mk a p b) := by
  obtain ⟨J, L⟩ := I
  have hn3 := J.1
  have hn5 := J.2.1
  obtain ⟨d1, d2, d3, d4, d5, d6, d7, d8, d9, d10⟩ := jq_at J hp (by omega)
  have d6' := d6 (by omega)
  have e10 : cq_p (cq_p a 9 p (a 17 b)) 10 p (a 8 p) 10 p = a 8 p := cq_p_s _ _ _ _
  have L' : lq_L (cq_p (cq_p a 9 p (a 17 b)) 10 p (a 8 p)) := lq_same L (fun k hk => by rw [cq_p_f _ (by omega), cq_p_f _ (by omega)]) (Nat.le_refl _)
  have L3 := (lq_all3 L' hn5 hp d1 d2 d6' hw hw0 (by rw [e10]; exact d6') (show p = mq_ldr a (a 8 p) from (d7 (Or.inl h7)).symm) (show cq_p (cq_p a 9 p (a 17 b)) 10 p (a 8 p) 27 (cq_x (a 4 p) (a 8 p) 0) = 0 from jq_O0 J hp h7) (a 20 0) (Nat.le_refl _)).1
  have g20 : mq_toAll (cq_p (cq_p a 9 p (a 17 b)) 10 p (a 8 p)) 3 p (a 4 p) (a 8 p) (a 17 b) 20 = a 20 := by unfold mq_toAll; rw [mq_all_f _ _ _ _ _ _ _ _ (by omega), cq_p_f _ (by omega), cq_p_f _ (by omega)]
  have hnv := jq_novote J hp (by omega) (show a 7 p ≠ 3 by omega)
  unfold mq_mk
  refine lq_same (a := mq_put (mq_toAll (cq_p (cq_p a 9 p (a 17 b)) 10 p (a 8 p)) 3 p (a 4 p) (a 8 p) (a 17 b)) 4 p p (a 4 p) (a 8 p) 1) ?_ (fun k hk => cq_p_f _ (by omega)) (Nat.le_refl _)
  refine lq_put (a := mq_toAll (cq_p (cq_p a 9 p (a 17 b)) 10 p (a 8 p)) 3 p (a 4 p) (a 8 p) (a 17 b)) L3 (by rw [g20]; exact hn5) (by decide) (by decide) (by rw [g20]; exact hp) (by rw [g20]; exact hp) d1 d6' (by decide) ?_ (fun _ => Or.inr rfl) (fun e => absurd e (by decide)) (fun e => absurd e (by decide)) (fun e => absurd e (by decide)) (fun _ => ⟨d2, ?_, by decide, ?_, ?_⟩) (fun e => absurd e (by decide))
  · unfold mq_toAll; rw [mq_all_k _ _ _ _ _ _ _ _ _ (by decide), e10]; exact d6'
  · have : mq_ldr (mq_toAll (cq_p (cq_p a 9 p (a 17 b)) 10 p (a 8 p)) 3 p (a 4 p) (a 8 p) (a 17 b)) (a 8 p) = mq_ldr a (a 8 p) := by unfold mq_ldr; rw [g20]
    rw [this]; exact (d7 (Or.inl h7)).symm
  · unfold mq_toAll; rw [mq_all_g3 _ _ _ _ _ _ _ _ (by omega), cq_p_k _ (by decide), cq_p_k _ (by decide)]; exact hnv.1
  · unfold mq_toAll; rw [mq_all_g3 _ _ _ _ _ _ _ _ (by omega), cq_p_k _ (by decide), cq_p_k _ (by decide)]; exact hnv.2
theorem lq_vote {a : cq_S} (I : iq_I a) {p : Nat} (hp : p < a 20 0) (h7 : a 7 p = 2) {d : cq_S} (hd : ∀ k, k < 9 ∨ (12 ≤ k ∧ k < 34) → d k = a k) (h9 : d 9 p < 256) (h90 : d 9 p ≠ 0) (h10 : d 10 p ≤ 10) {y : Nat} (hy : y ≤ 1) : lq_L (mq_vote d p y) := by
  obtain ⟨J, L⟩ := I
  have hn3 := J.1
  have hn5 := J.2.1
  obtain ⟨d1, d2, d3, d4, d5, d6, d7, d8, d9, d10⟩ := jq_at J hp (by omega)
  have d6' := d6 (by omega)
  have e8 : d 8 = a 8 := hd 8 (by omega)
  have e4 : d 4 = a 4 := hd 4 (by omega)
  have e20 : d 20 = a 20 := hd 20 (by omega)
  have el : ∀ r, mq_ldr d r = mq_ldr a r := fun r => by unfold mq_ldr; rw [e20]
  have Ld : lq_L d := lq_same L (fun k hk => hd k (by omega)) (by rw [hd 21 (by omega)]; exact Nat.le_refl _)
  have hq : mq_ldr a (a 8 p) < a 20 0 := mq_ldr_lt (by omega)
  have hnv := jq_novote J hp (by omega) (show a 7 p ≠ 3 by omega)
  have hnx := jq_new J hp (show a 8 p + 1 < 16 by omega) (Or.inr (by omega))
  unfold mq_vote
  rw [e8, e4, el]
  have Lp : lq_L (mq_put d 4 p (mq_ldr a (a 8 p)) (a 4 p) (a 8 p) y) := by
    refine lq_put Ld (by rw [e20]; exact hn5) (by decide) (by decide) (by rw [e20]; exact hp) (by rw [e20]; exact hq) d1 d6' (by omega) h10 (fun e => absurd e.symm (d8 h7)) (fun e => absurd e (by decide)) (fun e => absurd e (by decide)) (fun e => absurd e (by decide)) (fun _ => ⟨d2, by rw [el], hy, by rw [hd 28 (by omega)]; exact hnv.1, by rw [hd 29 (by omega)]; exact hnv.2⟩) (fun e => absurd e (by decide))
  have f : ∀ k' i, k' < 12 ∨ (20 ≤ k' ∧ k' < 23) → mq_put d 4 p (mq_ldr a (a 8 p)) (a 4 p) (a 8 p) y k' i = d k' i := fun k' i h => mq_put_k _ _ _ _ _ _ _ _ _ h
  refine lq_enter Lp (by rw [f 20 0 (by omega), e20]; exact hn3) (by rw [f 20 0 (by omega), e20]; exact hn5) (by rw [f 20 0 (by omega), e20]; exact hp) (by rw [f 4 p (by omega), e4]; exact d1) (by omega) (by omega) (by rw [f 9 p (by omega)]; exact h9) (by rw [f 9 p (by omega)]; exact h90) (by rw [f 10 p (by omega)]; exact h10) (fun _ => ?_)
  rw [f 4 p (by omega), e4, mq_put_25, if_neg (by omega), hd 25 (by omega)]
  exact hnx.1
theorem iq_step {a : cq_S} (I : iq_I a) {p : Nat} (hp : p < a 20 0) : iq_I (mq_step a p).1 := by
  have hI := I
  obtain ⟨J, L⟩ := hI
  have hn3 := J.1
  have hn5 := J.2.1
  unfold mq_step
  by_cases c1 : a 4 p < 8 ∧ ¬ a 6 (8 * p + a 4 p) = 0
  · rw [if_pos c1]
    refine ⟨jq_finishJ J hp c1.1 c1.2, lq_same L (fun k hk => ?_) ?_⟩
    · show mq_finish a p k = a k
      unfold mq_finish
      rw [cq_p_f _ (by omega), cq_p_f _ (by omega), cq_p_f _ (by omega), cq_p_f _ (by omega), cq_p_f _ (by omega)]
      exact funext (fun i => mq_fin_k _ _ _ _ _ _ (by omega))
    · show a 21 0 ≤ mq_finish a p 21 0
      unfold mq_finish
      rw [cq_p_k _ (by decide), cq_p_k _ (by decide), cq_p_k _ (by decide), cq_p_k _ (by decide), cq_p_k _ (by decide), mq_fin_k _ _ _ _ _ _ (by decide)]
      exact Nat.le_refl _
  · rw [if_neg c1]
    by_cases c2 : a 7 p = 0 ∧ ¬ cq_an (a 0 p) (a 1 p) = 0
    · rw [if_pos c2]
      refine ⟨jq_open J hp c2.1 c2.2, ?_⟩
      have hV : cq_an (a 0 p) (a 1 p) < 256 := cq_an_256 (iq_lo J hp)
      have e9 : cq_p (cq_p a 9 p (cq_an (a 0 p) (a 1 p))) 10 p 0 9 p = cq_an (a 0 p) (a 1 p) := by rw [cq_p_k _ (by decide), cq_p_s]
      refine lq_enter (a := cq_p (cq_p a 9 p (cq_an (a 0 p) (a 1 p))) 10 p 0) (r := 1) (lq_same L (fun k hk => by rw [cq_p_f _ (by omega), cq_p_f _ (by omega)]) (Nat.le_refl _)) hn3 hn5 hp (jq_end J hp c2.2) (by decide) (by decide) (by rw [e9]; exact hV) (by rw [e9]; exact c2.2) (by rw [cq_p_s]; omega) (fun _ => ?_)
      exact (jq_new J hp (show 1 < 16 by omega) (Or.inl c2.1)).1
    · rw [if_neg c2]
      by_cases c3 : a 7 p = 1 ∧ mq_maj a ≤ mq_holds a 2 p (a 23 0)
      · rw [if_pos c3]
        obtain ⟨b, hb⟩ := mq_best_some a p (a 23 0) (by have := mq_maj_pos a; omega)
        rw [hb]
        obtain ⟨g1, g2, g3, g4, g5, g6, g7⟩ := iq_src I hp c3.1 c3.2 hb
        exact ⟨jq_mkJ J hp c3.1 ⟨a 13 b, g4, g5, g2, g7⟩, lq_mk I hp c3.1 g2 g3⟩
      · rw [if_neg c3]
        by_cases c4 : a 7 p = 2
        · rw [if_pos c4]
          obtain ⟨d1, d2, d3, d4, d5, d6, d7, d8, d9, d10⟩ := jq_at J hp (by omega)
          have d6' := d6 (by omega)
          unfold mq_await
          cases ho : mq_offer a p (a 23 0) with
          | some i =>
            obtain ⟨hi, hh⟩ := (mq_offer_spec a p _).1 i ho
            obtain ⟨e1, e2, e3, e4, e5⟩ := (mq_hn_iff _ _ _ _).mp hh
            obtain ⟨f0, -, -, f3, -⟩ := L.1 i hi
            obtain ⟨-, -, -, f4, f5, -⟩ := f3 e3
            rw [e4, e5] at f4
            refine ⟨(jq_vote J hp c4).1 _ f4 f5, ?_⟩
            have e9 : cq_p (cq_p a 9 p (a 17 i)) 10 p (a 8 p) 9 p = a 17 i := by rw [cq_p_k _ (by decide), cq_p_s]
            exact lq_vote I hp c4 (fun k hk => by rw [cq_p_f _ (by omega), cq_p_f _ (by omega)]) (by rw [e9]; exact f0.2.2.2.2.2.2.2.1) (by rw [e9]; exact f5) (by rw [cq_p_s]; exact d6') (by decide)
          | none =>
            show iq_I (if a 5 p / 2 ^ mq_ldr a (a 8 p) % 2 = 1 then (mq_vote a p 0, 1) else (a, 0)).1
            by_cases c5 : a 5 p / 2 ^ mq_ldr a (a 8 p) % 2 = 1
            · rw [if_pos c5]
              exact ⟨(jq_vote J hp c4).2, lq_vote I hp c4 (fun _ _ => rfl) (jq_V256 J d4) d4.1 d5 (by decide)⟩
            · rw [if_neg c5]; exact I
        · rw [if_neg c4]
          by_cases c5 : a 7 p = 3 ∧ mq_maj a ≤ mq_holds a 4 p (a 23 0)
          · rw [if_pos c5]
            obtain ⟨d1, d2, d3, d4, d5, d6, d7, d8, d9, d10⟩ := jq_at J hp (by omega)
            have d6' := d6 (by omega)
            by_cases c6 : mq_ay a p (a 23 0) = 0
            · rw [if_pos c6]
              exact ⟨jq_next J hp c5.1, lq_enter L hn3 hn5 hp d1 (by omega) (by omega) (jq_V256 J d4) d4.1 d5 (fun _ => (jq_new J hp (show a 8 p + 1 < 16 by omega) (Or.inr (by omega))).1)⟩
            · rw [if_neg c6]
              have hVs := iq_lock I hp c5.1 c5.2 c6
              have h60 : a 6 (8 * p + a 4 p) = 0 := Decidable.byContradiction (fun h => c1 ⟨d1, h⟩)
              refine ⟨jq_learnJ J hp d1 hVs h60, ?_⟩
              show lq_L (mq_learn a p (a 4 p) (a 9 p))
              unfold mq_learn mq_toAll
              exact lq_all15 (a := cq_p a 6 (8 * p + a 4 p) (a 9 p)) (lq_same L (fun k hk => cq_p_f _ (by omega)) (Nat.le_refl _)) hn5 (Or.inr rfl) hp d1 (jq_V256 J d4) d5 (fun e => absurd e (by decide)) (fun _ => jq_Vs_of (cq_p_f _ (by decide)) (cq_p_f _ (by decide)) (cq_p_f _ (by decide)) hVs) (a 20 0) (Nat.le_refl _)
          · rw [if_neg c5]; exact I
