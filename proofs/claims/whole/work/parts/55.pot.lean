/-! How many letters there can be. s: what a letter to oneself counts. -/
def pq_g (s n p r : Nat) : Nat := if (r - 1) % n = p then (n - 1) + 2 * s else 2
def pq_w (s n p : Nat) : Nat → Nat
  | 0 => 0
  | r + 1 => pq_w s n p r + pq_g s n p (r + 1)
def pq_used (s n p md tn : Nat) : Nat := if md = 0 then 0 else if md = 1 then pq_w s n p (tn - 1) + s else if md = 2 then pq_w s n p (tn - 1) + 1 else if md = 3 then pq_w s n p tn else pq_w s n p 10
def pq_u (s : Nat) (a : cq_S) (p : Nat) : Nat := (a 20 0 - 1) * (jq_pop (a 0 p) + jq_c (fun k => a 6 (8 * p + k)) 8) + (a 4 p * pq_w s (a 20 0) p 10 + pq_used s (a 20 0) p (a 7 p) (a 8 p))
def pq_Z (s : Nat) (a : cq_S) : Nat := a 34 0 + s * a 35 0
def pq_P (s : Nat) (a : cq_S) : Prop := pq_Z s a ≤ jq_sum (pq_u s a) (a 20 0)
/-- a step of one process -/
theorem jq_sum_one {f g : Nat → Nat} {p d : Nat} : ∀ n, p < n → (∀ q, q ≠ p → f q ≤ g q) → f p + d ≤ g p → jq_sum f n + d ≤ jq_sum g n := by
  have mono : ∀ n, (∀ q, q < n → f q ≤ g q) → jq_sum f n ≤ jq_sum g n := by
    intro n
    induction n with
    | zero => exact fun _ => Nat.le_refl _
    | succ n ih =>
      intro h
      unfold jq_sum
      have h1 := ih (fun q hq => h q (by omega))
      have h2 := h n (by omega)
      omega
  intro n
  induction n with
  | zero => intro h; omega
  | succ n ih =>
    intro hp ho hd
    unfold jq_sum
    by_cases he : p = n
    · subst he
      have := mono p (fun q hq => ho q (by omega))
      omega
    · have h1 := ih (by omega) ho hd
      have h2 := ho n (fun e => he e.symm)
      omega
theorem pq_one {s : Nat} {a b : cq_S} (P : pq_P s a) {p d : Nat} (hp : p < a 20 0) (h20 : b 20 0 = a 20 0) (hZ : pq_Z s b = pq_Z s a + d) (ho : ∀ q, q ≠ p → pq_u s a q = pq_u s b q) (hpp : pq_u s a p + d ≤ pq_u s b p) : pq_P s b := by
  unfold pq_P at P ⊢
  rw [hZ, h20]
  have := jq_sum_one (f := pq_u s a) (g := pq_u s b) (p := p) (d := d) (a 20 0) hp (fun q hq => Nat.le_of_eq (ho q hq)) hpp
  omega
theorem pq_w_mono (s n p : Nat) : ∀ d r, pq_w s n p r ≤ pq_w s n p (r + d) := by
  intro d
  induction d with
  | zero => exact fun r => Nat.le_refl _
  | succ d ih => exact fun r => Nat.le_trans (ih r) (Nat.le_add_right _ _)
theorem pq_w_le (s n p : Nat) {r : Nat} (h : r ≤ 10) : pq_w s n p r ≤ pq_w s n p 10 := by
  have := pq_w_mono s n p (10 - r) r
  rw [show r + (10 - r) = 10 by omega] at this
  exact this
theorem pq_w_s (s n p : Nat) {r : Nat} (h : 1 ≤ r) : pq_w s n p r = pq_w s n p (r - 1) + pq_g s n p r := by
  cases r with
  | zero => omega
  | succ r => rfl
/-- no process sends more than its due -/
theorem pq_used_le {a : cq_S} (J : jq_J a) (s : Nat) (hs : s ≤ 1) {p : Nat} (hp : p < a 20 0) : pq_used s (a 20 0) p (a 7 p) (a 8 p) ≤ pq_w s (a 20 0) p 10 := by
  have hn3 := J.1
  unfold pq_used
  by_cases c0 : a 7 p = 0
  · rw [if_pos c0]; omega
  · rw [if_neg c0]
    obtain ⟨d1, d2, d3, d4, d5, d6, d7, d8, d9, d10⟩ := jq_at J hp c0
    by_cases c1 : a 7 p = 1
    · rw [if_pos c1]
      have h1 := pq_w_s s (a 20 0) p d2
      have h2 := pq_w_le s (a 20 0) p (d6 (by omega))
      have h3 : pq_g s (a 20 0) p (a 8 p) = (a 20 0 - 1) + 2 * s := by
        unfold pq_g
        rw [if_pos (show (a 8 p - 1) % a 20 0 = p from d7 (Or.inl c1))]
      omega
    · rw [if_neg c1]
      by_cases c2 : a 7 p = 2
      · rw [if_pos c2]
        have h1 := pq_w_s s (a 20 0) p d2
        have h2 := pq_w_le s (a 20 0) p (d6 (by omega))
        have h3 : pq_g s (a 20 0) p (a 8 p) = 2 := by
          unfold pq_g
          rw [if_neg (show ¬ (a 8 p - 1) % a 20 0 = p from d8 c2)]
        omega
      · rw [if_neg c2]
        by_cases c3 : a 7 p = 3
        · rw [if_pos c3]; exact pq_w_le s (a 20 0) p (d6 (by omega))
        · rw [if_neg c3]; exact Nat.le_refl _
theorem pq_u_le {a : cq_S} (J : jq_J a) (s : Nat) (hs : s ≤ 1) {p : Nat} (hp : p < a 20 0) : pq_u s a p ≤ (a 20 0 - 1) * 16 + 8 * pq_w s (a 20 0) p 10 := by
  unfold pq_u
  have h1 : jq_pop (a 0 p) + jq_c (fun k => a 6 (8 * p + k)) 8 ≤ 16 := by
    have := jq_pop_le (a 0 p)
    have := jq_c_le (fun k => a 6 (8 * p + k)) 8
    omega
  have h2 := Nat.mul_le_mul_left (a 20 0 - 1) h1
  have h3 : a 4 p * pq_w s (a 20 0) p 10 + pq_used s (a 20 0) p (a 7 p) (a 8 p) ≤ 8 * pq_w s (a 20 0) p 10 := by
    by_cases c0 : a 7 p = 0
    · have h4 : a 4 p ≤ 8 := (J.2.2.2.2.1 p hp).2.1
      have h5 := Nat.mul_le_mul_right (pq_w s (a 20 0) p 10) h4
      unfold pq_used
      rw [if_pos c0]
      omega
    · have h4 : a 4 p + 1 ≤ 8 := (jq_at J hp c0).1
      have h5 := Nat.mul_le_mul_right (pq_w s (a 20 0) p 10) h4
      have h6 := pq_used_le J s hs hp
      rw [Nat.add_mul, Nat.one_mul] at h5
      omega
  omega
def pq_top (s n : Nat) : Nat → Nat
  | 0 => 0
  | p + 1 => pq_top s n p + ((n - 1) * 16 + 8 * pq_w s n p 10)
theorem pq_top_0 : ∀ n, n ≤ 5 → 3 ≤ n → pq_top 0 n n = gq_room n := by decide +kernel
theorem pq_top_1 : ∀ n, n ≤ 5 → 3 ≤ n → pq_top 1 n n ≤ 1440 := by decide +kernel
theorem pq_bound {a : cq_S} (J : jq_J a) (s : Nat) (hs : s ≤ 1) (P : pq_P s a) : pq_Z s a ≤ pq_top s (a 20 0) (a 20 0) := by
  unfold pq_P at P
  refine Nat.le_trans P ?_
  have : ∀ m, m ≤ a 20 0 → jq_sum (pq_u s a) m ≤ pq_top s (a 20 0) m := by
    intro m
    induction m with
    | zero => exact fun _ => Nat.le_refl _
    | succ m ih =>
      intro hm
      unfold jq_sum pq_top
      exact Nat.add_le_add (ih (by omega)) (pq_u_le J s hs (by omega))
  exact this _ (Nat.le_refl _)
