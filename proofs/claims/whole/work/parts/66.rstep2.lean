/-! A step, whole. -/
theorem rq_adopt {n : Nat} {g a : cq_S} (R : rq_R n g a) {p w : Nat} (hp : p < n) (hw : w < 256) (h8 : a 8 p < 16) : rq_R n (gq_adopt g p w) (cq_p (cq_p a 9 p w) 10 p (a 8 p)) := by
  unfold gq_adopt
  rw [R.1.2.2.2.2.1 8 p (by unfold rq_K; omega) hp]
  exact rq_R_p (rq_R_p R (by unfold rq_K; omega) p (by omega)) (by unfold rq_K; omega) p (by omega)
/-- the offer -/
theorem rq_mk {n : Nat} {g a : cq_S} (R : rq_R n g a) (X : xq_I a) (hn : n ≤ 5) {p b : Nat} (hp : p < n) (h7 : a 7 p = 1) (hw : a 17 b < 256) (hroom : mq_mk a p b 34 0 ≤ gq_room n) :
    rq_R n (cq_p (gq_kV (gq_toAll (gq_adopt g p (a 17 b)) p (gq_tx 3 (a 4 p) (a 8 p) (a 17 b) 0)) (a 4 p) (a 8 p) p 1) 7 p 3) (mq_mk a p b) := by
  have J := X.1.1
  have h20 := R.1.1
  have hp' : p < a 20 0 := by omega
  obtain ⟨d1, d2, d3, d4, d5, d6, d7, d8, d9, d10⟩ := jq_at J hp' (by omega)
  have d6' := d6 (by omega)
  unfold mq_mk at *
  rw [cq_p_k _ (by decide)] at hroom
  refine rq_R_p (rq_own4 (rq_toAll (rq_adopt R hp hw (by omega)) hn hp (by decide) d1 d6' hw (fun _ q hq => ?_) (Nat.le_trans (mq_put_34le _ _ _ _ _ _ _) hroom)) hn hp d2 d6' (by decide)) (by unfold rq_K; omega) p (by decide)
  rw [cq_p_k _ (by decide), cq_p_k _ (by decide)]
  exact rq_n31 X.1.2 (by omega) (jq_O0 J hp' h7) q (by omega)
/-- a vote -/
theorem rq_vote {n : Nat} {g a : cq_S} (R : rq_R n g a) (hn : n ≤ 5) {p y : Nat} (hp : p < n) (hd1 : a 4 p < 8) (hr1 : 1 ≤ a 8 p) (hr : a 8 p ≤ 10) (hl : mq_ldr a (a 8 p) ≠ p) (h9 : a 9 p < 256) (h10 : a 10 p < 16) (hy : y ≤ 1) (h30 : a 8 p + 1 ≠ 11 → a 30 (cq_x (a 4 p) (a 8 p + 1) p) = 0) (hroom : mq_vote a p y 34 0 ≤ gq_room n) :
    rq_R n (gq_enter (gq_send g p (gq_ldr g (a 8 p)) (gq_tx 4 (a 4 p) (a 8 p) y 0)) p (a 8 p + 1)) (mq_vote a p y) := by
  have hl2 : gq_ldr g (a 8 p) = mq_ldr a (a 8 p) := by unfold gq_ldr mq_ldr; rw [R.1.1, R.1.2.1]
  have hq : mq_ldr a (a 8 p) < n := by unfold mq_ldr; rw [R.1.1]; exact Nat.mod_lt _ (by omega)
  unfold mq_vote at *
  rw [hl2]
  have f : ∀ k' i, k' < 12 ∨ (20 ≤ k' ∧ k' < 23) → mq_put a 4 p (mq_ldr a (a 8 p)) (a 4 p) (a 8 p) y k' i = a k' i := fun k' i h => mq_put_k _ _ _ _ _ _ _ _ _ h
  have m34 : ∀ (x : cq_S) r, x 34 0 ≤ mq_enter x p r 34 0 := by
    intro x r
    unfold mq_enter
    split
    · rw [cq_p_k _ (by decide), cq_p_k _ (by decide)]; exact Nat.le_refl _
    · refine Nat.le_trans ?_ (mq_put_34le _ _ _ _ _ _ _)
      rw [cq_p_k _ (by decide), cq_p_k _ (by decide)]; exact Nat.le_refl _
  have S := rq_send R hn (k := 4) (c := a 4 p) (r := a 8 p) (w := y) (s := 0) hp hq (fun h => hl h.symm) (by decide) hd1 hr (by omega) (by decide) (by rw [if_neg (by decide)]) (Nat.le_trans (m34 _ _) hroom) (fun h => by omega) (fun h => by omega)
  refine rq_enter S hn hp (by omega) (by omega) (by rw [f 4 p (by omega)]; exact hd1) (by rw [f 9 p (by omega)]; exact h9) (by rw [f 10 p (by omega)]; exact h10) (fun h => ?_) hroom
  rw [f 4 p (by omega), mq_put_30, if_neg (by omega)]
  exact h30 h
theorem rq_step {n : Nat} {g a : cq_S} (R : rq_R n g a) (X : xq_I a) {p : Nat} (hp : p < n) : rq_R n (gq_step g p).1 (mq_step a p).1 ∧ (gq_step g p).2 = (mq_step a p).2 := by
  have hI := X.1
  have J := X.1.1
  have L := X.1.2
  have h20 := R.1.1
  have g20 := R.1.2.1
  have hn3 : 3 ≤ n := by rw [← h20]; exact J.1
  have hn : n ≤ 5 := by rw [← h20]; exact J.2.1
  have hp' : p < a 20 0 := by omega
  have hroom : (mq_step a p).1 34 0 ≤ gq_room n := by
    have := (xq_cnt (xq_step X hp')).2
    rw [mq_step_k a p (Or.inl rfl), h20] at this
    exact this
  have E : ∀ k, rq_K k → g k p = a k p := fun k hk => R.1.2.2.2.2.1 k p hk hp
  have e0 := E 0 (by unfold rq_K; omega)
  have e1 := E 1 (by unfold rq_K; omega)
  have e4 := E 4 (by unfold rq_K; omega)
  have e5 := E 5 (by unfold rq_K; omega)
  have e7 := E 7 (by unfold rq_K; omega)
  have e8 := E 8 (by unfold rq_K; omega)
  have e9 := E 9 (by unfold rq_K; omega)
  have hv := X.2.2.2.2.1.2 p
  have emaj : gq_maj g = mq_maj a := by unfold gq_maj mq_maj; rw [h20, g20]
  have eV : a 4 p < 8 → g (60 + p) (a 4 p) = a 6 (8 * p + a 4 p) := fun h => R.1.2.2.2.2.2.2 p _ hp h
  unfold mq_step at hroom ⊢
  unfold gq_step
  rw [e4, e7]
  by_cases c1 : a 4 p < 8 ∧ ¬ a 6 (8 * p + a 4 p) = 0
  · rw [if_pos (show a 4 p < 8 ∧ ¬ g (60 + p) (a 4 p) = 0 from ⟨c1.1, by rw [eV c1.1]; exact c1.2⟩), if_pos c1]
    exact ⟨rq_finish R X hn hp c1.1 c1.2, rfl⟩
  · rw [if_neg c1] at hroom
    rw [if_neg (show ¬ (a 4 p < 8 ∧ ¬ g (60 + p) (a 4 p) = 0) from fun h => c1 ⟨h.1, by rw [← eV h.1]; exact h.2⟩), if_neg c1]
    by_cases s0 : a 7 p = 0
    · rw [if_pos s0]
      unfold gq_open
      rw [e0, e1, e4]
      by_cases c2 : cq_an (a 0 p) (a 1 p) = 0
      · rw [if_pos (Or.inl c2), if_neg (fun h => h.2 c2), if_neg (by omega), if_neg (by omega), if_neg (by omega)]
        exact ⟨R, rfl⟩
      · have h48 := jq_end J hp' c2
        rw [if_pos (show a 7 p = 0 ∧ ¬ cq_an (a 0 p) (a 1 p) = 0 from ⟨s0, c2⟩)] at hroom
        rw [if_neg (show ¬ (cq_an (a 0 p) (a 1 p) = 0 ∨ ¬ a 4 p < 8) from fun h => by rcases h with h | h; exact c2 h; exact h h48), if_pos (show a 7 p = 0 ∧ ¬ cq_an (a 0 p) (a 1 p) = 0 from ⟨s0, c2⟩)]
        have hV : cq_an (a 0 p) (a 1 p) < 256 := cq_an_256 hv.1
        have R2 : rq_R n (cq_p (cq_p g 9 p (cq_an (a 0 p) (a 1 p))) 10 p 0) (cq_p (cq_p a 9 p (cq_an (a 0 p) (a 1 p))) 10 p 0) := rq_R_p (rq_R_p R (by unfold rq_K; omega) p (by omega)) (by unfold rq_K; omega) p (by decide)
        refine ⟨rq_enter (r := 1) R2 hn hp (by decide) (by decide) h48 (by rw [cq_p_k _ (by decide), cq_p_s]; exact hV) (by rw [cq_p_s]; decide) (fun _ => ?_) hroom, rfl⟩
        exact rq_n30 L (by decide) hp' (jq_new J hp' (by decide) (Or.inl s0)).1
    · rw [if_neg (show ¬ (a 7 p = 0 ∧ ¬ cq_an (a 0 p) (a 1 p) = 0) from fun h => s0 h.1)] at hroom
      rw [if_neg s0, if_neg (show ¬ (a 7 p = 0 ∧ ¬ cq_an (a 0 p) (a 1 p) = 0) from fun h => s0 h.1)]
      obtain ⟨d1, d2, d3, d4, d5, d6, d7, d8, d9, d10⟩ := jq_at J hp' s0
      have hv9 := hv.2.2.2.1
      have hv10 := hv.2.2.2.2
      have new30 : a 8 p ≤ 10 → a 30 (cq_x (a 4 p) (a 8 p + 1) p) = 0 := fun h => rq_n30 L (by omega) hp' (jq_new J hp' (by omega) (Or.inr (by omega))).1
      by_cases s1 : a 7 p = 1
      · have d6' := d6 (by omega)
        have hE : gq_eOf g (a 4 p) (a 8 p) (g 20 0) = mq_holds a 2 p (a 23 0) := by rw [g20, rq_eOf R.2.2.1 L h20 g20 d1 d2 d6' n (Nat.le_refl _), lq_holds2 L (by omega) (d7 (Or.inl s1)), h20]
        rw [if_pos s1]
        unfold gq_mk
        rw [e4, e8, emaj, hE]
        by_cases c3 : mq_maj a ≤ mq_holds a 2 p (a 23 0)
        · rw [if_pos (show a 7 p = 1 ∧ mq_maj a ≤ mq_holds a 2 p (a 23 0) from ⟨s1, c3⟩)] at hroom
          rw [if_pos c3, if_pos (show a 7 p = 1 ∧ mq_maj a ≤ mq_holds a 2 p (a 23 0) from ⟨s1, c3⟩)]
          obtain ⟨b, hb⟩ := mq_best_some a p (a 23 0) (by have := mq_maj_pos a; omega)
          obtain ⟨g1, g2, g3, g4, g5, g6, g7⟩ := iq_src hI hp' s1 c3 hb
          have hbB := rq_best R.2.2.1 L h20 g20 d1 d2 d6' (d7 (Or.inl s1)) hb
          rw [hb] at hroom ⊢
          rw [g20, hbB]
          exact ⟨rq_mk R X hn hp s1 g3 hroom, rfl⟩
        · rw [if_neg c3, if_neg (fun h => c3 h.2), if_neg (by omega), if_neg (by omega)]
          exact ⟨R, rfl⟩
      · rw [if_neg (show ¬ (a 7 p = 1 ∧ mq_maj a ≤ mq_holds a 2 p (a 23 0)) from fun h => s1 h.1)] at hroom
        rw [if_neg s1, if_neg (show ¬ (a 7 p = 1 ∧ mq_maj a ≤ mq_holds a 2 p (a 23 0)) from fun h => s1 h.1)]
        by_cases s2 : a 7 p = 2
        · have d6' := d6 (by omega)
          rw [if_pos s2] at hroom
          rw [if_pos s2, if_pos s2]
          unfold gq_answer
          unfold mq_await at hroom ⊢
          have hl2 : gq_ldr g (a 8 p) = mq_ldr a (a 8 p) := by unfold gq_ldr mq_ldr; rw [h20, g20]
          obtain ⟨o1, o2⟩ := rq_offer R.2.2.1 L h20 hp d1 d2 d6'
          rw [e4, e8, e5, g20]
          cases ho : mq_offer a p (a 23 0) with
          | some i =>
            rw [ho] at hroom
            obtain ⟨f1, f2, f3⟩ := o1 i ho
            rw [if_neg (by rw [f1]; exact f2), f1]
            have l2 : gq_ldr (gq_adopt g p (a 17 i)) (a 8 p) = gq_ldr g (a 8 p) := rfl
            have := rq_vote (rq_adopt R hp f3 (by omega)) hn (y := 1) hp (show a 4 p < 8 from d1) (show 1 ≤ a 8 p from d2) (show a 8 p ≤ 10 from d6') (d8 s2) (by rw [cq_p_k _ (by decide), cq_p_s]; exact f3) (by rw [cq_p_s]; omega) (by decide) (fun _ => new30 d6') hroom
            exact ⟨this, rfl⟩
          | none =>
            rw [ho] at hroom
            rw [if_pos (o2 ho), hl2]
            show rq_R n (if a 5 p / 2 ^ mq_ldr a (a 8 p) % 2 = 0 then _ else _ : cq_S × Nat).1 (if a 5 p / 2 ^ mq_ldr a (a 8 p) % 2 = 1 then (mq_vote a p 0, 1) else (a, 0)).1 ∧ (if a 5 p / 2 ^ mq_ldr a (a 8 p) % 2 = 0 then _ else _ : cq_S × Nat).2 = (if a 5 p / 2 ^ mq_ldr a (a 8 p) % 2 = 1 then (mq_vote a p 0, 1) else (a, 0)).2
            by_cases c5 : a 5 p / 2 ^ mq_ldr a (a 8 p) % 2 = 0
            · rw [if_pos c5, if_neg (by omega)]; exact ⟨R, rfl⟩
            · have c6 : a 5 p / 2 ^ mq_ldr a (a 8 p) % 2 = 1 := by omega
              have hroom : mq_vote a p 0 34 0 ≤ gq_room n := by
                have h : (if a 5 p / 2 ^ mq_ldr a (a 8 p) % 2 = 1 then (mq_vote a p 0, 1) else (a, 0)).1 34 0 ≤ gq_room n := hroom
                rw [if_pos c6] at h; exact h
              rw [if_neg c5, if_pos c6]
              have := rq_vote R hn (y := 0) hp d1 d2 d6' (d8 s2) hv9 (by omega) (by decide) (fun _ => new30 d6') hroom
              rw [hl2] at this
              exact ⟨this, rfl⟩
        · rw [if_neg s2] at hroom
          rw [if_neg s2, if_neg s2]
          by_cases s3 : a 7 p = 3
          · have d6' := d6 (by omega)
            have hV := rq_vOf R.2.2.1 R.2.2.2 L h20 hn3 hn d1 d2 d6' (d7 (Or.inr s3))
            rw [if_pos s3]
            unfold gq_count
            rw [e4, e8, e9, emaj, hV]
            by_cases c3 : mq_maj a ≤ mq_holds a 4 p (a 23 0)
            · rw [if_pos (show a 7 p = 3 ∧ mq_maj a ≤ mq_holds a 4 p (a 23 0) from ⟨s3, c3⟩)] at hroom
              rw [if_pos c3, if_pos (show a 7 p = 3 ∧ mq_maj a ≤ mq_holds a 4 p (a 23 0) from ⟨s3, c3⟩)]
              have hay := rq_ay R.2.2.1 R.2.2.2 L h20 d1 d2 d6' (d7 (Or.inr s3))
              by_cases c4 : mq_ay a p (a 23 0) = 0
              · rw [if_pos c4] at hroom
                rw [if_neg (show ¬ g 28 (a 4 p * 10 + a 8 p - 1) = 0 from fun h => hay.mp h c4), if_pos c4]
                exact ⟨rq_enter R hn hp (by omega) (by omega) d1 hv9 (by omega) (fun _ => new30 d6') hroom, rfl⟩
              · rw [if_neg c4] at hroom
                rw [if_pos (hay.mpr c4), if_neg c4]
                refine ⟨?_, rfl⟩
                show rq_R n (gq_accept g p (a 4 p) (a 9 p)) (mq_learn a p (a 4 p) (a 9 p))
                have z : a 6 (8 * p + a 4 p) = 0 := Decidable.byContradiction (fun h => c1 ⟨d1, h⟩)
                unfold gq_accept mq_learn
                rw [if_pos (by rw [eV d1]; exact z)]
                exact rq_toAll (rq_R_v R hn hp d1 (by omega)) hn hp (by decide) d1 (by decide) hv9 (fun h => by omega) hroom
            · rw [if_neg c3, if_neg (fun h => c3 h.2)]
              exact ⟨R, rfl⟩
          · rw [if_neg s3, if_neg (fun h => s3 h.1)]
            exact ⟨R, rfl⟩
