/-- what a step of the class needs -/
def gq_sok (n : Nat) (a : cq_S) (p : Nat) : Prop := cq_B2 a ∧ 3 ≤ n ∧ n ≤ 5 ∧ a 20 0 = n ∧ p < n ∧ a 0 p < 256 ∧ a 2 p ≤ 8 ∧ a 9 p < 256 ∧ a 10 p < 16 ∧ (∀ c, c < 8 → a (60 + p) c < 256) ∧ (a 7 p = 1 ∨ a 7 p = 2 ∨ a 7 p = 3 → a 4 p < 8 ∧ 1 ≤ a 8 p ∧ a 8 p ≤ 10) ∧ (∀ i, a 27 i < 32 ∧ a 28 i < 32 ∧ a 26 i < 256) ∧
  (a 4 p < 8 → ¬ a (60 + p) (a 4 p) = 0 → ∀ m, m < 8 → ¬ cq_an (a (60 + p) (a 4 p)) (a 1 p) / 2 ^ m % 2 = 0 → (gq_del (cq_an (a (60 + p) (a 4 p)) (a 1 p)) p a m) 2 p < 8)
theorem gq_open_2 (a : cq_S) (p : Nat) : (gq_open a p).2 < 2 := by unfold gq_open; split <;> simp
theorem gq_mk_2 (a : cq_S) (p : Nat) : (gq_mk a p).2 < 2 := by unfold gq_mk; split <;> simp
theorem gq_answer_2 (a : cq_S) (p : Nat) : (gq_answer a p).2 < 2 := by
  unfold gq_answer
  repeat' split
  all_goals simp
theorem gq_count_2 (a : cq_S) (p : Nat) : (gq_count a p).2 < 2 := by
  unfold gq_count
  repeat' split
  all_goals simp
theorem gq_open_0 (a : cq_S) (p : Nat) (h : (gq_open a p).2 = 0) : (gq_open a p).1 = a := by
  unfold gq_open at h ⊢
  split at h
  · rename_i h1; rw [if_pos h1]
  · exact absurd h Nat.one_ne_zero
theorem gq_mk_0 (a : cq_S) (p : Nat) (h : (gq_mk a p).2 = 0) : (gq_mk a p).1 = a := by
  unfold gq_mk at h ⊢
  split at h
  · exact absurd h Nat.one_ne_zero
  · rename_i h1; rw [if_neg h1]
theorem gq_answer_0 (a : cq_S) (p : Nat) (h : (gq_answer a p).2 = 0) : (gq_answer a p).1 = a := by
  unfold gq_answer at h ⊢
  split at h
  · rename_i h1
    split at h
    · rename_i h2; rw [if_pos h1, if_pos h2]
    · exact absurd h Nat.one_ne_zero
  · exact absurd h Nat.one_ne_zero
theorem gq_count_0 (a : cq_S) (p : Nat) (h : (gq_count a p).2 = 0) : (gq_count a p).1 = a := by
  unfold gq_count at h ⊢
  split at h
  · split at h
    · exact absurd h Nat.one_ne_zero
    · exact absurd h Nat.one_ne_zero
  · rename_i h1; rw [if_neg h1]
theorem gq_step_0 (a : cq_S) (p : Nat) (h : (gq_step a p).2 = 0) : (gq_step a p).1 = a := by
  unfold gq_step at h ⊢
  by_cases c1 : a 4 p < 8 ∧ ¬ a (60 + p) (a 4 p) = 0
  · rw [if_pos c1] at h; exact absurd h Nat.one_ne_zero
  · rw [if_neg c1] at h ⊢
    by_cases c2 : a 7 p = 0
    · rw [if_pos c2] at h ⊢; exact gq_open_0 a p h
    · rw [if_neg c2] at h ⊢
      by_cases c3 : a 7 p = 1
      · rw [if_pos c3] at h ⊢; exact gq_mk_0 a p h
      · rw [if_neg c3] at h ⊢
        by_cases c4 : a 7 p = 2
        · rw [if_pos c4] at h ⊢; exact gq_answer_0 a p h
        · rw [if_neg c4] at h ⊢
          by_cases c5 : a 7 p = 3
          · rw [if_pos c5] at h ⊢; exact gq_count_0 a p h
          · rw [if_neg c5]
theorem gq_step_2 (a : cq_S) (p : Nat) : (gq_step a p).2 < 2 := by
  unfold gq_step
  repeat' split
  all_goals first | exact gq_open_2 a p | exact gq_mk_2 a p | exact gq_answer_2 a p | exact gq_count_2 a p | simp
theorem gq_go_fix (p : Nat) (a : cq_S) (i : Nat) (h : (gq_step (gq_go p i a) p).2 = 0) : ∀ j, i ≤ j → gq_go p j a = gq_go p i a := by
  intro j
  induction j with
  | zero => intro hj; rw [show i = 0 by omega]
  | succ j ih =>
    intro hj
    by_cases he : i = j + 1
    · rw [he]
    · have h1 := ih (by omega)
      show (gq_step (gq_go p j a) p).1 = _
      rw [h1]
      exact gq_step_0 _ p h
theorem gq_is_0 {a : cq_S} {x : Int32} (h : gq_is a x = 0) : cq_id (a 20 0) x = none := by
  unfold gq_is at h
  unfold cq_id
  by_cases h0 : x < 0
  · rw [if_pos (Or.inl h0)]
  · by_cases h1 : nI (a 20 0) ≤ x
    · rw [if_pos (Or.inr (Int32.not_lt.mpr h1))]
    · rw [if_neg (by intro h2; rcases h2 with h2 | h2; exact h0 h2; exact h1 h2)] at h; exact absurd h Nat.one_ne_zero
theorem gq_is_1 {a : cq_S} {x : Int32} (hn : a 20 0 < 2147483648) (h : ¬ gq_is a x = 0) : ∃ j, j < a 20 0 ∧ x = nI j := by
  unfold gq_is at h
  rcases pk_ix x (show a 20 0 < 2 ^ 31 from hn) with h2 | h2 | h2
  · exact absurd (if_pos (Or.inl h2)) h
  · exact absurd (if_pos (Or.inr h2)) h
  · exact h2
theorem gq_is_2 (a : cq_S) (x : Int32) : gq_is a x < 2147483648 := by unfold gq_is; split <;> omega
def gq_dAt (a : cq_S) (x y : Int32) : Int32 := match cq_id (a 20 0) x with
  | none => -1
  | some p => (match cq_id (a 2 p) y with
    | none => -1
    | some i => nI (a (40 + p) i))
def gq_verdict (a : cq_S) (x y : Int32) : Int32 := match cq_id (a 20 0) x with
  | none => -1
  | some p => (match cq_id 8 y with
    | none => -1
    | some k => nI (a (60 + p) k))
def gq_letters (a : cq_S) (x y : Int32) : Int32 := match cq_id (a 20 0) x, cq_id (a 20 0) y with
  | some p, some q => nI (gq_cnt a p q (a 23 0))
  | _, _ => -1
def gq_letter (a : cq_S) (x y j : Int32) : Int32 := match cq_id (a 20 0) x, cq_id (a 20 0) y with
  | some p, some q => (match gq_place a p q j with
    | none => nI 0
    | some i => nI (gq_text a i))
  | _, _ => nI 0
def gq_b0 (a : cq_S) (p : Nat) : cq_S := gq_learn (cq_p a 21 0 (a 21 0 + 1)) p (a 21 0)
def gq_bcast (a : cq_S) (x : Int32) : Int32 × cq_S := match cq_id (a 20 0) x with
  | none => (-1, a)
  | some p => if a 11 p = 0 then (if a 21 0 = 8 then (-3, a) else (nI (a 21 0), gq_go p 1000 (gq_b0 a p))) else (-2, a)
def gq_d0 (a : cq_S) (p q i : Nat) : cq_S := gq_receive (gq_take a i) p q (gq_text a i)
def gq_deliver (a : cq_S) (x y j : Int32) : Int32 × cq_S := match cq_id (a 20 0) x, cq_id (a 20 0) y with
  | some p, some q => if p = q then (-1, a) else if a 11 q = 0 then (match gq_place a p q j with
    | none => (-3, a)
    | some i => (nI (gq_text a i % 8), gq_go q 1000 (gq_d0 a p q i))) else (-2, a)
  | _, _ => (-1, a)
def gq_suspect (a : cq_S) (x z : Int32) (y : Nat) : Int32 × cq_S := match cq_id (a 20 0) x, cq_id (a 20 0) z with
  | some p, some q => if p = q then (nI 0, a) else if a 11 p = 0 then (nI 1, gq_go p 1000 (mq_s0 a p q y)) else (nI 0, a)
  | _, _ => (nI 0, a)
def gq_crash (a : cq_S) (x y : Int32) : Int32 × cq_S := match cq_id (a 20 0) x, cq_id 21 y with
  | some p, some m => if a 11 p = 0 ∧ ¬ a 22 0 = (a 20 0 - 1) / 2 then (nI 1, gq_lose p (a 23 0) m (cq_p (cq_p a 11 p 1) 22 0 (a 22 0 + 1))) else (nI 0, a)
  | _, _ => (nI 0, a)
/-- what the class's public methods need -/
def gq_bas (n : Nat) (a : cq_S) : Prop := cq_B2 a ∧ 3 ≤ n ∧ n ≤ 5 ∧ a 20 0 = n ∧ a 23 0 ≤ gq_room n ∧ a 21 0 ≤ 8 ∧ a 22 0 < 100 ∧ (∀ p, p < n → a 0 p < 256 ∧ a 5 p < 256 ∧ a 2 p ≤ 8) ∧ (∀ p c, p < n → c < 8 → a (60 + p) c < 256)
theorem gq_pl_lt (a : cq_S) (p q : Nat) (j : Int32) : ∀ d i m k, gq_pl a p q j d i m = some k → k < i + d
  | 0, i, m, k, h => by simp [gq_pl] at h
  | d + 1, i, m, k, h => by
    unfold gq_pl at h
    split at h
    · have := gq_pl_lt a p q j d _ _ k h; omega
    · split at h
      · cases h; omega
      · have := gq_pl_lt a p q j d _ _ k h; omega
theorem gq_place_lt {a : cq_S} {p q : Nat} {j : Int32} {k : Nat} (h : gq_place a p q j = some k) : k < a 23 0 := by
  have := gq_pl_lt a p q j _ _ _ k h; omega
