/-! The reference's public methods, as functions of its state. -/
/-- the process that an int names -/
def cq_id (n : Nat) (x : Int32) : Option Nat := if x < 0 ∨ ¬ x < nI n then none else some x.toNatClampNeg
theorem cq_id_nI {n j : Nat} (h : j < n) (hn : n < 2147483648) : cq_id n (nI j) = some j := by
  unfold cq_id
  rw [if_neg, nI_clamp (show j < 2 ^ 31 by omega)]
  intro h2
  rcases h2 with h2 | h2
  · exact nI_pos (show j < 2 ^ 31 by omega) h2
  · exact h2 (nI_lt h hn)
theorem mq_none_0 {a : cq_S} {x : Int32} (hn : a 20 0 < 2147483648) (h : mq_none a x = 0) : ∃ j, j < a 20 0 ∧ x = nI j := by
  unfold mq_none at h
  split at h
  · omega
  · rename_i h1
    rcases pk_ix x (show a 20 0 < 2 ^ 31 from hn) with h2 | h2 | h2
    · exact absurd (Or.inl h2) h1
    · exact absurd (Or.inr (Int32.not_lt.mpr h2)) h1
    · exact h2
theorem mq_none_1 {a : cq_S} {x : Int32} (h : ¬ mq_none a x = 0) : cq_id (a 20 0) x = none := by
  unfold mq_none at h
  unfold cq_id
  split at h
  · rename_i h1; rw [if_pos h1]
  · exact absurd rfl h
theorem mq_none_2 (a : cq_S) (x : Int32) : mq_none a x < 2147483648 := by unfold mq_none; split <;> omega
/-- a value of a process -/
def mq_get (a : cq_S) (k : Nat) (x : Int32) : Int32 := match cq_id (a 20 0) x with
  | none => -1
  | some p => nI (a k p)
def mq_state (a : cq_S) (x : Int32) : Int32 := match cq_id (a 20 0) x with
  | none => -1
  | some p => if a 11 p = 0 then nI (a 7 p) else nI 5
def mq_suspects (a : cq_S) (x y : Int32) : Int32 := match cq_id (a 20 0) x, cq_id (a 20 0) y with
  | some p, some q => nI (a 5 p / 2 ^ q % 2)
  | _, _ => nI 0
def mq_dAt (a : cq_S) (x y : Int32) : Int32 := match cq_id (a 20 0) x with
  | none => -1
  | some p => (match cq_id (a 2 p) y with
    | none => -1
    | some i => nI (a 3 (8 * p + i)))
def mq_verdict (a : cq_S) (x y : Int32) : Int32 := match cq_id (a 20 0) x with
  | none => -1
  | some p => (match cq_id 8 y with
    | none => -1
    | some k => nI (a 6 (8 * p + k)))
def mq_letters (a : cq_S) (x y : Int32) : Int32 := match cq_id (a 20 0) x, cq_id (a 20 0) y with
  | some p, some q => nI (mq_cnt a p q (a 23 0))
  | _, _ => -1
def mq_ltx (a : cq_S) (i : Nat) : Nat := a 12 i + 8 * a 15 i + 64 * a 16 i + 1024 * a 17 i + 262144 * a 18 i
def mq_letter (a : cq_S) (x y j : Int32) : Int32 := match cq_id (a 20 0) x, cq_id (a 20 0) y with
  | some p, some q => (match mq_seek a p q j with
    | none => nI 0
    | some i => nI (mq_ltx a i))
  | _, _ => nI 0
/-- the state of a broadcast, before the process goes on -/
def mq_b0 (a : cq_S) (p : Nat) : cq_S := mq_toAll (cq_p (cq_p a 21 0 (a 21 0 + 1)) 0 p (a 0 p ||| 2 ^ a 21 0)) 1 p 0 0 (a 21 0)
def mq_bcast (a : cq_S) (x : Int32) : Int32 × cq_S := match cq_id (a 20 0) x with
  | none => (-1, a)
  | some p => if a 11 p = 0 then (if a 21 0 = 8 then (-3, a) else (nI (a 21 0), mq_go p 1000 (mq_b0 a p))) else (-2, a)
/-- our marks of a letter that is kept -/
def mq_kp (b : cq_S) (k c r p q w : Nat) : cq_S :=
  if k = 2 then cq_p b 30 (cq_x c r p) 1 else if k = 3 then cq_p b 31 (cq_x c r q) 1 else if k = 4 then (if w = 1 then cq_p b 32 (cq_x c r p) 1 else cq_p b 33 (cq_x c r p) 1) else b
/-- the state of a delivery, before the process goes on -/
def mq_d0 (a : cq_S) (q i : Nat) : cq_S :=
  if a 12 i = 1 then (if a 0 q / 2 ^ a 17 i % 2 = 0 then mq_toAll (cq_p (cq_p a 19 i 2) 0 q (a 0 q ||| 2 ^ a 17 i)) 1 q 0 0 (a 17 i) else cq_p a 19 i 2)
  else if a 12 i = 5 then (if a 6 (8 * q + a 15 i) = 0 then mq_learn (cq_p a 19 i 2) q (a 15 i) (a 17 i) else cq_p a 19 i 2)
  else mq_kp (cq_p a 19 i (if 2 ≤ a 12 i ∧ a 12 i ≤ 4 then 1 else 2)) (a 12 i) (a 15 i) (a 16 i) (a 13 i) q (a 17 i)
def mq_deliver (a : cq_S) (x y j : Int32) : Int32 × cq_S := match cq_id (a 20 0) x, cq_id (a 20 0) y with
  | some p, some q => if p = q then (-1, a) else if a 11 q = 0 then (match mq_seek a p q j with
    | none => (-3, a)
    | some i => (nI (a 12 i), mq_go q 1000 (mq_d0 a q i))) else (-2, a)
  | _, _ => (-1, a)
def mq_s0 (a : cq_S) (p q y : Nat) : cq_S := cq_p a 5 p (if y = 0 then cq_an (a 5 p) (2 ^ q) else a 5 p ||| 2 ^ q)
def mq_suspect (a : cq_S) (x z : Int32) (y : Nat) : Int32 × cq_S := match cq_id (a 20 0) x, cq_id (a 20 0) z with
  | some p, some q => if p = q then (nI 0, a) else if a 11 p = 0 then (nI 1, mq_go p 1000 (mq_s0 a p q y)) else (nI 0, a)
  | _, _ => (nI 0, a)
/-- of the first d letters the latest from p that wait, at most m, are lost -/
def mq_lose (p : Nat) : Nat → Nat → cq_S → cq_S
  | 0, _, b => b
  | d + 1, m, b => if m = 0 then b else if b 19 d = 0 ∧ b 13 d = p then mq_lose p d (m - 1) (cq_p b 19 d 2) else mq_lose p d m b
def mq_crash (a : cq_S) (x y : Int32) : Int32 × cq_S := match cq_id (a 20 0) x, cq_id 21 y with
  | some p, some m => if a 11 p = 0 ∧ ¬ a 22 0 = (a 20 0 - 1) / 2 then (nI 1, mq_lose p (a 23 0) m (cq_p (cq_p a 11 p 1) 22 0 (a 22 0 + 1))) else (nI 0, a)
  | _, _ => (nI 0, a)
def cq_dn : Nat → Int32
  | 0 => -1
  | d + 1 => nI d
theorem cq_dn_0 (d : Nat) : nI d - nI 1 = cq_dn d := by
  cases d with
  | zero => decide
  | succ d => rw [pk_sub (by omega)]; rfl
theorem cq_dn_1 (d : Nat) : nI d + Int32.ofInt (-1) = cq_dn d := by
  cases d with
  | zero => decide
  | succ d => exact pk_m1 d
theorem cn_dec {m : Nat} (h : ¬ nI m ≤ 0) : nI m + Int32.ofInt (-1) = nI (m - 1) := by
  cases m with
  | zero => exact absurd (by decide) h
  | succ m => exact pk_m1 m
/-- what the public methods need -/
def mq_bas (a : cq_S) : Prop := cq_B a ∧ 3 ≤ a 20 0 ∧ a 20 0 ≤ 5 ∧ a 23 0 + 10 ≤ 1500 ∧ a 21 0 ≤ 8 ∧ (∀ p, p < 5 → a 0 p < 256 ∧ a 10 p < 128 ∧ a 5 p < 256 ∧ a 2 p ≤ 8) ∧ (∀ i, i < a 23 0 → a 15 i < 8 ∧ a 17 i < 256 ∧ a 12 i < 8 ∧ (a 12 i = 1 → a 17 i < 8)) ∧ a 22 0 < 100
theorem mq_sk_lt (a : cq_S) (p q : Nat) (j : Int32) : ∀ d i m k, mq_sk a p q j d i m = some k → k < i + d
  | 0, i, m, k, h => by simp [mq_sk] at h
  | d + 1, i, m, k, h => by
    unfold mq_sk at h
    split at h
    · split at h
      · cases h; omega
      · have := mq_sk_lt a p q j d _ _ k h; omega
    · have := mq_sk_lt a p q j d _ _ k h; omega
theorem mq_seek_lt {a : cq_S} {p q : Nat} {j : Int32} {k : Nat} (h : mq_seek a p q j = some k) : k < a 23 0 := by
  have := mq_sk_lt a p q j _ _ _ k h; omega
theorem wM_kp (bd : Nat → Nat) (cs : Nat → ClassId) (b : cq_S) (k c r p q w : Nat) : wM bd cs (mq_kp b k c r p q w) = wM bd cs b := wM_congr bd cs (fun k' i' h => by
  unfold mq_kp
  repeat' split
  all_goals first | rfl | exact cq_p_k _ (by omega))
theorem cq_id_neg {n : Nat} {y : Int32} (h : y < 0) : cq_id n y = none := by unfold cq_id; rw [if_pos (Or.inl h)]
theorem cq_id_ltn {n : Nat} {y : Int32} (h : ¬ y < nI n) (_ : n < 2147483648) : cq_id n y = none := by unfold cq_id; rw [if_pos (Or.inr h)]
theorem cq_id_lt {n : Nat} {y : Int32} (h0 : ¬ y < 0) (h : y < nI n) (hn : n < 2147483648) : ∃ i, i < n ∧ y = nI i := by
  rcases pk_ix y (show n < 2 ^ 31 from hn) with h2 | h2 | h2
  · exact absurd h2 h0
  · exact absurd h (Int32.not_lt.mpr h2)
  · exact h2
theorem cq_id_le {n : Nat} {y : Int32} (h0 : ¬ y < 0) (h : y ≤ nI n) (hn : n < 2147483647) : ∃ i, i < n + 1 ∧ y = nI i := by
  obtain ⟨j, hj, e⟩ := nI_of h0
  subst e
  exact ⟨j, by have := (nI_leI hj (show n < 2 ^ 31 by omega)).mp h; omega, rfl⟩
theorem cq_id_len {n : Nat} {y : Int32} (h : ¬ y ≤ nI n) (hn : n < 2147483647) : cq_id (n + 1) y = none := by
  unfold cq_id
  rw [if_pos]
  by_cases h0 : y < 0
  · exact Or.inl h0
  · right
    obtain ⟨j, hj, e⟩ := nI_of h0
    subst e
    intro h2
    have h3 := (nI_ltI hj (show n + 1 < 2 ^ 31 by omega)).mp h2
    exact h (nI_le (by omega) (show n < 2 ^ 31 by omega))
