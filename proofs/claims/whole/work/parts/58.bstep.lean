theorem mq_enter_B {a : cq_S} (hB : cq_B a) {p r : Nat} (hp : p < 5) (hr : r ≤ 11) (hn : 0 < a 20 0) (hn5 : a 20 0 ≤ 5) (hc : a 23 0 < 1500) (h4 : a 4 p ≤ 8) : cq_B (mq_enter a p r) := by
  unfold mq_enter
  have hl : mq_ldr a r < a 20 0 := mq_ldr_lt hn
  split
  · exact (hB.put (by omega)).put (by decide)
  · refine mq_put_B ((hB.put (by omega)).put (by split <;> decide)) (by decide) (by omega) (by omega) (by omega) (by omega) (hB _ _ (by decide)) (show a 23 0 < 2147483647 by omega)
/-- numbers stay small in a step -/
theorem bq_step {a : cq_S} (I : iq_I a) (B : bq_B a) (hcn : a 23 0 + 10 ≤ 1500) {p : Nat} (hp : p < a 20 0) : bq_B (mq_step a p).1 := by
  have hI := I
  obtain ⟨J, L⟩ := hI
  have hn3 := J.1
  have hn5 := J.2.1
  have hI' := iq_step I hp
  obtain ⟨hB, hv⟩ := B
  have own := J.2.2.2.2.1 p hp
  obtain ⟨v0, v2, v5, v9, v10⟩ := hv p
  have e20 : (mq_step a p).1 20 0 = a 20 0 := (iq_go I hp 1).2
  have hp' : p < (mq_step a p).1 20 0 := by rw [e20]; exact hp
  have own' := hI'.1.2.2.2.2.1 p hp'
  suffices h : cq_B (mq_step a p).1 ∧ (mq_step a p).1 5 p = a 5 p ∧ (mq_step a p).1 9 p < 256 ∧ (mq_step a p).1 10 p ≤ 10 by
    refine ⟨h.1, fun q => ?_⟩
    by_cases hq : q = p
    · subst hq
      refine ⟨iq_lo hI'.1 hp', by rw [own'.2.2.2.2.2.1]; exact jq_pop_le _, by rw [h.2.1]; exact v5, h.2.2.1, h.2.2.2⟩
    · rw [mq_step_o a p (by omega) hq, mq_step_o a p (by omega) hq, mq_step_o a p (by omega) hq, mq_step_o a p (by omega) hq, mq_step_o a p (by omega) hq]
      exact hv q
  clear own' hp' e20 hI'
  have en : ∀ (x : cq_S) r k, k = 5 ∨ k = 9 ∨ k = 10 → mq_enter x p r k p = x k p := fun x r k h => mq_enter_k _ _ _ _ _ (by omega)
  have pu : ∀ (x : cq_S) k0 q0 c r w k, k = 5 ∨ k = 9 ∨ k = 10 → mq_put x k0 p q0 c r w k p = x k p := fun x k0 q0 c r w k h => mq_put_k _ _ _ _ _ _ _ _ _ (by omega)
  have al : ∀ (x : cq_S) k0 c r w j k, k = 5 ∨ k = 9 ∨ k = 10 → mq_all x k0 p c r w j k p = x k p := fun x k0 c r w j k h => mq_all_k _ _ _ _ _ _ _ _ _ (by omega)
  unfold mq_step
  by_cases c1 : a 4 p < 8 ∧ ¬ a 6 (8 * p + a 4 p) = 0
  · rw [if_pos c1]
    show cq_B (mq_finish a p) ∧ mq_finish a p 5 p = a 5 p ∧ mq_finish a p 9 p < 256 ∧ mq_finish a p 10 p ≤ 10
    unfold mq_finish
    refine ⟨((((mq_fin_B hB own.2.2.2.2.2.2.2 v2 8 (Nat.le_refl _)).put (by omega)).put (by decide)).put (by decide)).put (by decide) |>.put (by decide), ?_, ?_, ?_⟩
    · rw [cq_p_k _ (by decide), cq_p_k _ (by decide), cq_p_k _ (by decide), cq_p_k _ (by decide), cq_p_k _ (by decide)]; exact mq_fin_k _ _ _ _ _ _ (by decide)
    · rw [cq_p_k _ (by decide), cq_p_s]; decide
    · rw [cq_p_s]; decide
  · rw [if_neg c1]
    by_cases c2 : a 7 p = 0 ∧ ¬ cq_an (a 0 p) (a 1 p) = 0
    · rw [if_pos c2]
      have han : cq_an (a 0 p) (a 1 p) < 256 := cq_an_256 v0
      show cq_B (mq_enter (cq_p (cq_p a 9 p (cq_an (a 0 p) (a 1 p))) 10 p 0) p 1) ∧ mq_enter (cq_p (cq_p a 9 p (cq_an (a 0 p) (a 1 p))) 10 p 0) p 1 5 p = a 5 p ∧ mq_enter (cq_p (cq_p a 9 p (cq_an (a 0 p) (a 1 p))) 10 p 0) p 1 9 p < 256 ∧ mq_enter (cq_p (cq_p a 9 p (cq_an (a 0 p) (a 1 p))) 10 p 0) p 1 10 p ≤ 10
      rw [en _ _ 5 (by omega), en _ _ 9 (by omega), en _ _ 10 (by omega)]
      refine ⟨mq_enter_B ((hB.put (by omega)).put (by decide)) (by omega) (by decide) (show 0 < a 20 0 by omega) hn5 (show a 23 0 < 1500 by omega) own.2.1, ?_, ?_, ?_⟩
      · rw [cq_p_k _ (by decide), cq_p_k _ (by decide)]
      · rw [cq_p_k _ (by decide), cq_p_s]; exact han
      · rw [cq_p_s]; decide
    · rw [if_neg c2]
      by_cases c3 : a 7 p = 1 ∧ mq_maj a ≤ mq_holds a 2 p (a 23 0)
      · rw [if_pos c3]
        obtain ⟨b, hb⟩ := mq_best_some a p (a 23 0) (by have := mq_maj_pos a; omega)
        rw [hb]
        obtain ⟨g1, g2, g3, g4, g5, g6, g7⟩ := iq_src I hp c3.1 c3.2 hb
        obtain ⟨d1, d2, d3, d4, d5, d6, d7, d8, d9, d10⟩ := jq_at J hp (by omega)
        have d6' := d6 (by omega)
        show cq_B (mq_mk a p b) ∧ mq_mk a p b 5 p = a 5 p ∧ mq_mk a p b 9 p < 256 ∧ mq_mk a p b 10 p ≤ 10
        unfold mq_mk mq_toAll
        refine ⟨(mq_put_B (mq_all_B (a := cq_p (cq_p a 9 p (a 17 b)) 10 p (a 8 p)) ((hB.put (by omega)).put (by omega)) (by decide) (by omega) (by omega) (by omega) (by omega) (show a 23 0 ≤ 1000000 by omega) _ (show a 20 0 ≤ 1000000 by omega)) (by decide) (by omega) (by omega) (by omega) (by omega) (by decide) ?_).put (by decide), ?_, ?_, ?_⟩
        · have h1 := mq_all_n (cq_p (cq_p a 9 p (a 17 b)) 10 p (a 8 p)) 3 p (a 4 p) (a 8 p) (a 17 b) (a 20 0)
          have h2 : cq_p (cq_p a 9 p (a 17 b)) 10 p (a 8 p) 23 0 = a 23 0 := rfl
          rw [h2] at h1
          exact Nat.lt_of_le_of_lt h1 (by omega)
        · rw [cq_p_k _ (by decide), pu _ _ _ _ _ _ 5 (by omega), al _ _ _ _ _ _ 5 (by omega), cq_p_k _ (by decide), cq_p_k _ (by decide)]
        · rw [cq_p_k _ (by decide), pu _ _ _ _ _ _ 9 (by omega), al _ _ _ _ _ _ 9 (by omega), cq_p_k _ (by decide), cq_p_s]; exact g3
        · rw [cq_p_k _ (by decide), pu _ _ _ _ _ _ 10 (by omega), al _ _ _ _ _ _ 10 (by omega), cq_p_s]; exact d6'
      · rw [if_neg c3]
        by_cases c4 : a 7 p = 2
        · rw [if_pos c4]
          obtain ⟨d1, d2, d3, d4, d5, d6, d7, d8, d9, d10⟩ := jq_at J hp (by omega)
          have d6' := d6 (by omega)
          have hl : mq_ldr a (a 8 p) < a 20 0 := mq_ldr_lt (by omega)
          have vote : ∀ (d : cq_S) (y : Nat), cq_B d → d 20 = a 20 → d 23 = a 23 → d 4 = a 4 → d 8 = a 8 → y ≤ 1 → cq_B (mq_vote d p y) := by
            intro d y hBd h20 h23 h4 h8 hy
            have el : mq_ldr d (a 8 p) = mq_ldr a (a 8 p) := by unfold mq_ldr; rw [h20]
            unfold mq_vote
            rw [h8, h4, el]
            refine mq_enter_B (mq_put_B hBd (by decide) (by omega) (by omega) (by omega) (by omega) (by omega) (by rw [h23]; omega)) (by omega) (by omega) ?_ ?_ ?_ ?_
            · rw [mq_put_k _ _ _ _ _ _ _ _ _ (by decide), h20]; omega
            · rw [mq_put_k _ _ _ _ _ _ _ _ _ (by decide), h20]; omega
            · rw [mq_put_n, h23]; omega
            · rw [mq_put_k _ _ _ _ _ _ _ _ _ (by decide), h4]; omega
          have vk : ∀ (d : cq_S) (y k : Nat), k = 5 ∨ k = 9 ∨ k = 10 → mq_vote d p y k p = d k p := fun d y k h => by unfold mq_vote; rw [en _ _ k h, pu _ _ _ _ _ _ k h]
          unfold mq_await
          cases ho : mq_offer a p (a 23 0) with
          | some i =>
            obtain ⟨hi, hh⟩ := (mq_offer_spec a p _).1 i ho
            have f0 := (L.1 i hi).1.2.2.2.2.2.2.2.1
            show cq_B (mq_vote (cq_p (cq_p a 9 p (a 17 i)) 10 p (a 8 p)) p 1) ∧ mq_vote (cq_p (cq_p a 9 p (a 17 i)) 10 p (a 8 p)) p 1 5 p = a 5 p ∧ mq_vote (cq_p (cq_p a 9 p (a 17 i)) 10 p (a 8 p)) p 1 9 p < 256 ∧ mq_vote (cq_p (cq_p a 9 p (a 17 i)) 10 p (a 8 p)) p 1 10 p ≤ 10
            rw [vk _ _ 5 (by omega), vk _ _ 9 (by omega), vk _ _ 10 (by omega)]
            refine ⟨vote _ 1 ((hB.put (by omega)).put (by omega)) (by rw [cq_p_f _ (by decide), cq_p_f _ (by decide)]) (by rw [cq_p_f _ (by decide), cq_p_f _ (by decide)]) (by rw [cq_p_f _ (by decide), cq_p_f _ (by decide)]) (by rw [cq_p_f _ (by decide), cq_p_f _ (by decide)]) (by decide), ?_, ?_, ?_⟩
            · rw [cq_p_k _ (by decide), cq_p_k _ (by decide)]
            · rw [cq_p_k _ (by decide), cq_p_s]; exact f0
            · rw [cq_p_s]; exact d6'
          | none =>
            show cq_B (if a 5 p / 2 ^ mq_ldr a (a 8 p) % 2 = 1 then (mq_vote a p 0, 1) else (a, 0)).1 ∧ (if a 5 p / 2 ^ mq_ldr a (a 8 p) % 2 = 1 then (mq_vote a p 0, 1) else (a, 0)).1 5 p = a 5 p ∧ (if a 5 p / 2 ^ mq_ldr a (a 8 p) % 2 = 1 then (mq_vote a p 0, 1) else (a, 0)).1 9 p < 256 ∧ (if a 5 p / 2 ^ mq_ldr a (a 8 p) % 2 = 1 then (mq_vote a p 0, 1) else (a, 0)).1 10 p ≤ 10
            by_cases c5 : a 5 p / 2 ^ mq_ldr a (a 8 p) % 2 = 1
            · rw [if_pos c5]
              show cq_B (mq_vote a p 0) ∧ mq_vote a p 0 5 p = a 5 p ∧ mq_vote a p 0 9 p < 256 ∧ mq_vote a p 0 10 p ≤ 10
              rw [vk _ _ 5 (by omega), vk _ _ 9 (by omega), vk _ _ 10 (by omega)]
              exact ⟨vote a 0 hB rfl rfl rfl rfl (by decide), rfl, v9, v10⟩
            · rw [if_neg c5]; exact ⟨hB, rfl, v9, v10⟩
        · rw [if_neg c4]
          by_cases c5 : a 7 p = 3 ∧ mq_maj a ≤ mq_holds a 4 p (a 23 0)
          · rw [if_pos c5]
            obtain ⟨d1, d2, d3, d4, d5, d6, d7, d8, d9, d10⟩ := jq_at J hp (by omega)
            have d6' := d6 (by omega)
            by_cases c6 : mq_ay a p (a 23 0) = 0
            · rw [if_pos c6]
              show cq_B (mq_enter a p (a 8 p + 1)) ∧ mq_enter a p (a 8 p + 1) 5 p = a 5 p ∧ mq_enter a p (a 8 p + 1) 9 p < 256 ∧ mq_enter a p (a 8 p + 1) 10 p ≤ 10
              rw [en _ _ 5 (by omega), en _ _ 9 (by omega), en _ _ 10 (by omega)]
              exact ⟨mq_enter_B hB (by omega) (by omega) (by omega) hn5 (by omega) own.2.1, rfl, v9, v10⟩
            · rw [if_neg c6]
              show cq_B (mq_learn a p (a 4 p) (a 9 p)) ∧ mq_learn a p (a 4 p) (a 9 p) 5 p = a 5 p ∧ mq_learn a p (a 4 p) (a 9 p) 9 p < 256 ∧ mq_learn a p (a 4 p) (a 9 p) 10 p ≤ 10
              unfold mq_learn mq_toAll
              rw [al _ _ _ _ _ _ 5 (by omega), al _ _ _ _ _ _ 9 (by omega), al _ _ _ _ _ _ 10 (by omega), cq_p_k _ (by decide), cq_p_k _ (by decide), cq_p_k _ (by decide)]
              exact ⟨mq_all_B (a := cq_p a 6 (8 * p + a 4 p) (a 9 p)) (hB.put (by omega)) (by decide) (by omega) (by omega) (by decide) (by omega) (show a 23 0 ≤ 1000000 by omega) _ (show a 20 0 ≤ 1000000 by omega), rfl, v9, v10⟩
          · rw [if_neg c5]; exact ⟨hB, rfl, v9, v10⟩
