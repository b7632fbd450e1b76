/-! The letters' invariant through many letters, and through a new round. -/
theorem jq_Vs_of {a b : cq_S} (h20 : b 20 = a 20) (h27 : b 27 = a 27) (h28 : b 28 = a 28) {c w : Nat} (h : jq_Vs a c w) : jq_Vs b c w := by
  obtain ⟨g0, r, g1, g2, g3, g4⟩ := h
  exact ⟨g0, r, g1, g2, by rw [h27]; exact g3, by unfold jq_Lk at g4 ⊢; rw [h20, h28]; exact g4⟩
theorem lq_all15 {a : cq_S} (L : lq_L a) (hn5 : a 20 0 ≤ 5) {k p c w : Nat} (hk : k = 1 ∨ k = 5) (hp : p < a 20 0) (hc : c < 8) (hw : w < 256) (hm : a 10 p ≤ 10) (h1 : k = 1 → w < a 21 0 ∧ c = 0) (h5 : k = 5 → jq_Vs a c w) : ∀ j, j ≤ a 20 0 → lq_L (mq_all a k p c 0 w j) := by
  intro j
  induction j with
  | zero => exact fun _ => L
  | succ j ih =>
    intro hj
    have h := ih (by omega)
    unfold mq_all
    split
    · exact h
    · rename_i hne
      have e20 : mq_all a k p c 0 w j 20 = a 20 := mq_all_f _ _ _ _ _ _ _ _ (by omega)
      refine lq_put h (by rw [e20]; exact hn5) (by omega) (by omega) (by rw [e20]; exact hp) (by rw [e20]; omega) hc (by omega) hw (by rw [mq_all_k _ _ _ _ _ _ _ _ _ (by decide)]; exact hm) (fun e => absurd e.symm hne) (fun e => ⟨by rw [mq_all_k _ _ _ _ _ _ _ _ _ (by decide)]; exact (h1 e).1, (h1 e).2, rfl⟩) (fun e => ⟨?_, rfl⟩) (fun e => by omega) (fun e => by omega) (fun e => by omega)
      exact jq_Vs_of e20 (funext fun x => mq_all_gk _ _ _ _ _ _ _ _ _ hk (by omega)) (funext fun x => mq_all_gk _ _ _ _ _ _ _ _ _ hk (by omega)) (h5 e)
theorem lq_all3 {a : cq_S} (L : lq_L a) (hn5 : a 20 0 ≤ 5) {p c r w : Nat} (hp : p < a 20 0) (hc : c < 8) (hr1 : 1 ≤ r) (hr : r ≤ 10) (hw : w < 256) (hw0 : w ≠ 0) (hm : a 10 p ≤ 10) (hl : p = mq_ldr a r) (hO : a 27 (cq_x c r 0) = 0) : ∀ j, j ≤ a 20 0 → lq_L (mq_all a 3 p c r w j) ∧ ∀ i, i < mq_all a 3 p c r w j 23 0 → mq_all a 3 p c r w j 12 i = 3 → mq_all a 3 p c r w j 15 i = c → mq_all a 3 p c r w j 16 i = r → mq_all a 3 p c r w j 14 i < j := by
  intro j
  induction j with
  | zero =>
    refine fun _ => ⟨L, fun i hi e1 e2 e3 => ?_⟩
    have h := (L.1 i hi).2.2.2.1 e1
    have e2' : a 15 i = c := e2
    have e3' : a 16 i = r := e3
    rw [e2', e3', hO] at h
    exact absurd h.2.2.2.1.symm h.2.2.2.2.1
  | succ j ih =>
    intro hj
    obtain ⟨h, hto⟩ := ih (by omega)
    unfold mq_all
    split
    · exact ⟨h, fun i hi e1 e2 e3 => by have := hto i hi e1 e2 e3; omega⟩
    · rename_i hne
      have e20 : mq_all a 3 p c r w j 20 = a 20 := mq_all_f _ _ _ _ _ _ _ _ (by omega)
      have el : mq_ldr (mq_all a 3 p c r w j) r = mq_ldr a r := by unfold mq_ldr; rw [e20]
      have h27 : mq_all a 3 p c r w j 27 (cq_x c r 0) = 0 ∨ mq_all a 3 p c r w j 27 (cq_x c r 0) = w := by
        have key : ∀ j, mq_all a 3 p c r w j 27 (cq_x c r 0) = 0 ∨ mq_all a 3 p c r w j 27 (cq_x c r 0) = w := by
          intro j
          induction j with
          | zero => exact Or.inl hO
          | succ j ih2 =>
            unfold mq_all
            split
            · exact ih2
            · right; rw [mq_put_27, if_pos ⟨rfl, rfl⟩]
        exact key j
      refine ⟨lq_put h (by rw [e20]; exact hn5) (by decide) (by decide) (by rw [e20]; exact hp) (by rw [e20]; omega) hc hr hw (by rw [mq_all_k _ _ _ _ _ _ _ _ _ (by decide)]; exact hm) (fun e => absurd e.symm hne) (fun e => absurd e (by decide)) (fun e => absurd e (by decide)) (fun e => absurd e (by decide)) (fun e => absurd e (by decide)) (fun _ => ⟨hr1, by rw [el]; exact hl, hne, hw0, h27, fun i hi e1 e2 e3 => by have := hto i hi e1 e2 e3; omega⟩), ?_⟩
      intro i hi e1 e2 e3
      rw [mq_put_n] at hi
      by_cases hlast : i = mq_all a 3 p c r w j 23 0
      · rw [hlast, mq_put_14]; omega
      · rw [mq_put_old _ _ _ _ _ _ _ _ _ (by omega) hlast] at e1 e2 e3 ⊢
        have := hto i (by omega) e1 e2 e3
        omega
theorem lq_enter {a : cq_S} (L : lq_L a) (hn3 : 3 ≤ a 20 0) (hn5 : a 20 0 ≤ 5) {p r : Nat} (hp : p < a 20 0) (h4 : a 4 p < 8) (hr1 : 1 ≤ r) (hr : r ≤ 11) (h9 : a 9 p < 256) (h90 : a 9 p ≠ 0) (h10 : a 10 p ≤ 10) (hE : r ≠ 11 → a 25 (cq_x (a 4 p) r p) = 0) : lq_L (mq_enter a p r) := by
  unfold mq_enter
  by_cases h11 : r = 11
  · rw [if_pos h11]
    exact lq_same L (fun k hk => by rw [cq_p_f _ (by omega), cq_p_f _ (by omega)]) (Nat.le_refl _)
  · rw [if_neg h11]
    have L' : lq_L (cq_p (cq_p a 8 p r) 7 p (if mq_ldr a r = p then 1 else 2)) := lq_same L (fun k hk => by rw [cq_p_f _ (by omega), cq_p_f _ (by omega)]) (Nat.le_refl _)
    have hq : mq_ldr a r < a 20 0 := mq_ldr_lt (by omega)
    exact lq_put L' hn5 (by decide) (by decide) hp hq h4 (by omega) h9 h10 (fun _ => Or.inl rfl) (fun e => absurd e (by decide)) (fun e => absurd e (by decide)) (fun _ => ⟨hr1, rfl, h90, hE h11⟩) (fun e => absurd e (by decide)) (fun e => absurd e (by decide))
/-- the whole invariant -/
def iq_I (a : cq_S) : Prop := jq_J a ∧ lq_L a
theorem iq_lo {a : cq_S} (J : jq_J a) {p : Nat} (hp : p < a 20 0) : a 0 p < 256 := Nat.lt_of_lt_of_le (J.2.2.2.2.1 p hp).1 (jq_made J)
theorem jq_V256 {a : cq_S} (J : jq_J a) {c w : Nat} (h : jq_V a c w) : w < 256 := Nat.lt_of_lt_of_le h.2.1 (jq_made J)
/-- a process in a council has sent nothing of the rounds to come -/
theorem jq_new {a : cq_S} (J : jq_J a) {p r : Nat} (hp : p < a 20 0) (hr : r < 16) (h : a 7 p = 0 ∨ a 8 p < r) : a 25 (cq_x (a 4 p) r p) = 0 ∧ a 28 (cq_x (a 4 p) r p) = 0 ∧ a 29 (cq_x (a 4 p) r p) = 0 := by
  obtain ⟨s1, s2, -⟩ := J.2.2.2.2.2.1 (a 4 p) r p hr hp
  refine ⟨Decidable.byContradiction (fun hne => ?_), Decidable.byContradiction (fun hne => ?_), Decidable.byContradiction (fun hne => ?_)⟩
  · have := (s1 hne).2.2.2.1; omega
  · have := (s2 (Or.inl hne)).2.2; omega
  · have := (s2 (Or.inr hne)).2.2; omega
theorem jq_novote {a : cq_S} (J : jq_J a) {p : Nat} (hp : p < a 20 0) (hr : a 8 p < 16) (h : a 7 p ≠ 3) : a 28 (cq_x (a 4 p) (a 8 p) p) = 0 ∧ a 29 (cq_x (a 4 p) (a 8 p) p) = 0 := by
  obtain ⟨-, s2, -⟩ := J.2.2.2.2.2.1 (a 4 p) (a 8 p) p hr hp
  refine ⟨Decidable.byContradiction (fun hne => ?_), Decidable.byContradiction (fun hne => ?_)⟩
  · have := (s2 (Or.inl hne)).2.2; omega
  · have := (s2 (Or.inr hne)).2.2; omega
theorem jq_at {a : cq_S} (J : jq_J a) {p : Nat} (hp : p < a 20 0) (h : a 7 p ≠ 0) : a 4 p < 8 ∧ 1 ≤ a 8 p ∧ a 8 p ≤ 11 ∧ jq_V a (a 4 p) (a 9 p) ∧ a 10 p ≤ 10 ∧ (a 7 p ≠ 4 → a 8 p ≤ 10) ∧ (a 7 p = 1 ∨ a 7 p = 3 → mq_ldr a (a 8 p) = p) ∧ (a 7 p = 2 → mq_ldr a (a 8 p) ≠ p) ∧ (a 7 p = 3 → a 27 (cq_x (a 4 p) (a 8 p) 0) = a 9 p) ∧ a 7 p ≤ 4 := by
  rcases J.2.2.2.1 p hp with h3 | ⟨g1, g2, g3, g4, g5, g6, g7⟩
  · exact absurd h3 h
  · rcases g7 with g7 | g7 | g7
    · exact ⟨g1, g2, by omega, g3, g6, by omega, by omega, by omega, by omega, by omega⟩
    · exact ⟨g1, g2, by omega, g3, g6, by omega, fun _ => g7.2.2.1, by omega, fun _ => g7.2.2.2.1, by omega⟩
    · rcases g7.2.2.2.2 with g8 | g8
      · exact ⟨g1, g2, by omega, g3, g6, by omega, fun _ => g8.2, by omega, by omega, by omega⟩
      · exact ⟨g1, g2, by omega, g3, g6, by omega, by omega, fun _ => g8.2, by omega, by omega⟩
