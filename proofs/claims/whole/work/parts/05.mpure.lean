/-! The reference, as a function of its state (numbers). Keys: 0 knows, 1 has, 2 many, 3 sequence, 4 ends, 5 doubts, 6 verdicts, 7 mode, 8 turn, 9 value, 10 mark, 11 dead; the letters 12 kind, 13 from, 14 to, 15 council, 16 round, 17 what, 18 stamp, 19 where; 20 n, 21 made, 22 gone, 23 count. Of our own, no cell holds them: 25 and 26 estimates and their stamps, 27 offers, 28 and 29 votes yes and no, as sent; 30 estimates kept, 31 offers kept, 32 and 33 votes kept; 34 letters to others, 35 letters to oneself. -/
def cq_x (c r p : Nat) : Nat := (c * 16 + r) * 8 + p
def mq_ldr (a : cq_S) (r : Nat) : Nat := (r - 1) % a 20 0
def mq_lg (a : cq_S) (k p q c r w : Nat) : cq_S := cq_p (cq_p (cq_p (cq_p (cq_p (cq_p (cq_p (cq_p (cq_p a 12 (a 23 0) k) 13 (a 23 0) p) 14 (a 23 0) q) 15 (a 23 0) c) 16 (a 23 0) r) 17 (a 23 0) w) 18 (a 23 0) (if k = 2 then a 10 p else 0)) 19 (a 23 0) (if p = q then 1 else 0)) 23 0 (a 23 0 + 1)
def mq_gh (a : cq_S) (k p q c r w s : Nat) : cq_S :=
  if k = 2 then (if p = q then cq_p (cq_p (cq_p (cq_p a 25 (cq_x c r p) w) 26 (cq_x c r p) s) 30 (cq_x c r p) 1) 35 0 (a 35 0 + 1) else cq_p (cq_p (cq_p a 25 (cq_x c r p) w) 26 (cq_x c r p) s) 34 0 (a 34 0 + 1))
  else if k = 3 then cq_p (cq_p a 27 (cq_x c r 0) w) 34 0 (a 34 0 + 1)
  else if k = 4 then
    (if w = 1 then (if p = q then cq_p (cq_p (cq_p a 28 (cq_x c r p) 1) 32 (cq_x c r p) 1) 35 0 (a 35 0 + 1) else cq_p (cq_p a 28 (cq_x c r p) 1) 34 0 (a 34 0 + 1))
     else (if p = q then cq_p (cq_p (cq_p a 29 (cq_x c r p) 1) 33 (cq_x c r p) 1) 35 0 (a 35 0 + 1) else cq_p (cq_p a 29 (cq_x c r p) 1) 34 0 (a 34 0 + 1)))
  else cq_p a 34 0 (a 34 0 + 1)
def mq_put (a : cq_S) (k p q c r w : Nat) : cq_S := mq_gh (mq_lg a k p q c r w) k p q c r w (a 10 p)
def mq_all (a : cq_S) (k p c r w : Nat) : Nat → cq_S
  | 0 => a
  | j + 1 => if j = p then mq_all a k p c r w j else mq_put (mq_all a k p c r w j) k p j c r w
def mq_toAll (a : cq_S) (k p c r w : Nat) : cq_S := mq_all a k p c r w (a 20 0)
/-- how many of the first m letters wait from p to q -/
def mq_cnt (a : cq_S) (p q : Nat) : Nat → Nat
  | 0 => 0
  | i + 1 => mq_cnt a p q i + (if a 19 i = 0 ∧ a 13 i = p ∧ a 14 i = q then 1 else 0)
/-- the place of the j-th letter that waits from p to q, from the letter i on, m of them gone by; d letters are left -/
def mq_sk (a : cq_S) (p q : Nat) (j : Int32) : Nat → Nat → Nat → Option Nat
  | 0, _, _ => none
  | d + 1, i, m => if a 19 i = 0 ∧ a 13 i = p ∧ a 14 i = q then (if nI m = j then some i else mq_sk a p q j d (i + 1) (m + 1)) else mq_sk a p q j d (i + 1) m
def mq_seek (a : cq_S) (p q : Nat) (j : Int32) : Option Nat := mq_sk a p q j (a 23 0) 0 0
def mq_oi : Option Nat → Int32
  | none => -1
  | some i => nI i
def mq_hereB (a : cq_S) (i k p : Nat) : Bool := decide (a 19 i = 1) && decide (a 14 i = p) && decide (a 12 i = k) && decide (a 15 i = a 4 p) && decide (a 16 i = a 8 p)
def mq_hn (a : cq_S) (i k p : Nat) : Nat := if mq_hereB a i k p = true then 1 else 0
theorem mq_hn_2 (a : cq_S) (i k p : Nat) : mq_hn a i k p < 2 := by unfold mq_hn; split <;> omega
theorem mq_hn_lt (a : cq_S) (i k p : Nat) : mq_hn a i k p < 2147483648 := Nat.lt_trans (mq_hn_2 a i k p) (by decide)
def mq_holds (a : cq_S) (k p : Nat) : Nat → Nat
  | 0 => 0
  | i + 1 => mq_holds a k p i + mq_hn a i k p
theorem mq_holds_le (a : cq_S) (k p : Nat) : ∀ i, mq_holds a k p i ≤ i
  | 0 => Nat.le_refl _
  | i + 1 => by have h1 := mq_holds_le a k p i; have h2 := mq_hn_2 a i k p; unfold mq_holds; omega
def mq_best (a : cq_S) (p : Nat) : Nat → Option Nat
  | 0 => none
  | i + 1 => if mq_hn a i 2 p = 0 then mq_best a p i else (match mq_best a p i with
      | none => some i
      | some b => if a 18 b < a 18 i then some i else if a 18 i = a 18 b then (if a 13 b ≤ a 13 i then some b else some i) else some b)
theorem mq_best_lt (a : cq_S) (p : Nat) : ∀ i b, mq_best a p i = some b → b < i
  | 0, b, h => by simp [mq_best] at h
  | i + 1, b, h => by
    have ih := mq_best_lt a p i
    unfold mq_best at h
    split at h
    · have := ih b h; omega
    · split at h
      · cases h; omega
      · rename_i b2 hb2
        have h2 := ih b2 hb2
        split at h
        · cases h; omega
        · split at h
          · split at h
            · cases h; omega
            · cases h; omega
          · cases h; omega
def mq_offer (a : cq_S) (p : Nat) : Nat → Option Nat
  | 0 => none
  | i + 1 => if mq_hn a i 3 p = 0 then mq_offer a p i else some i
theorem mq_offer_lt (a : cq_S) (p : Nat) : ∀ i b, mq_offer a p i = some b → b < i
  | 0, b, h => by simp [mq_offer] at h
  | i + 1, b, h => by
    have ih := mq_offer_lt a p i
    unfold mq_offer at h
    split at h
    · have := ih b h; omega
    · cases h; omega
def mq_ay (a : cq_S) (p : Nat) : Nat → Nat
  | 0 => 1
  | i + 1 => if mq_ay a p i = 0 then 0 else if mq_hn a i 4 p = 0 then 1 else if a 17 i = 1 then 1 else 0
theorem mq_ay_2 (a : cq_S) (p : Nat) : ∀ i, mq_ay a p i < 2
  | 0 => by simp [mq_ay]
  | i + 1 => by
    unfold mq_ay
    repeat' split
    all_goals omega
def mq_enter (a : cq_S) (p r : Nat) : cq_S :=
  if r = 11 then cq_p (cq_p a 8 p r) 7 p 4
  else mq_put (cq_p (cq_p a 8 p r) 7 p (if mq_ldr a r = p then 1 else 2)) 2 p (mq_ldr a r) (a 4 p) r (a 9 p)
def mq_learn (a : cq_S) (p c b : Nat) : cq_S := mq_toAll (cq_p a 6 (8 * p + c) b) 5 p c 0 b
def mq_fin (b p : Nat) (a : cq_S) : Nat → cq_S
  | 0 => a
  | m + 1 => if b / 2 ^ m % 2 = 1 ∧ (mq_fin b p a m) 1 p / 2 ^ m % 2 = 0 then
      cq_p (cq_p (cq_p (mq_fin b p a m) 1 p ((mq_fin b p a m) 1 p ||| 2 ^ m)) 3 (8 * p + (mq_fin b p a m) 2 p) m) 2 p ((mq_fin b p a m) 2 p + 1)
    else mq_fin b p a m
def mq_finish (a : cq_S) (p : Nat) : cq_S :=
  cq_p (cq_p (cq_p (cq_p (cq_p (mq_fin (a 6 (8 * p + a 4 p)) p a 8) 4 p (a 4 p + 1)) 7 p 0) 8 p 0) 9 p 0) 10 p 0
def mq_vote (a : cq_S) (p y : Nat) : cq_S := mq_enter (mq_put a 4 p (mq_ldr a (a 8 p)) (a 4 p) (a 8 p) y) p (a 8 p + 1)
def mq_maj (a : cq_S) : Nat := a 20 0 / 2 + 1
/-- the offer made by p, over the estimate at the place b -/
def mq_mk (a : cq_S) (p b : Nat) : cq_S :=
  cq_p (mq_put (mq_toAll (cq_p (cq_p a 9 p (a 17 b)) 10 p (a 8 p)) 3 p (a 4 p) (a 8 p) (a 17 b)) 4 p p (a 4 p) (a 8 p) 1) 7 p 3
def mq_await (a : cq_S) (p : Nat) : cq_S × Nat :=
  match mq_offer a p (a 23 0) with
  | some i => (mq_vote (cq_p (cq_p a 9 p (a 17 i)) 10 p (a 8 p)) p 1, 1)
  | none => if a 5 p / 2 ^ (mq_ldr a (a 8 p)) % 2 = 1 then (mq_vote a p 0, 1) else (a, 0)
def mq_step (a : cq_S) (p : Nat) : cq_S × Nat :=
  if a 4 p < 8 ∧ ¬ a 6 (8 * p + a 4 p) = 0 then (mq_finish a p, 1)
  else if a 7 p = 0 ∧ ¬ cq_an (a 0 p) (a 1 p) = 0 then (mq_enter (cq_p (cq_p a 9 p (cq_an (a 0 p) (a 1 p))) 10 p 0) p 1, 1)
  else if a 7 p = 1 ∧ mq_maj a ≤ mq_holds a 2 p (a 23 0) then (mq_mk a p ((mq_best a p (a 23 0)).getD 0), 1)
  else if a 7 p = 2 then mq_await a p
  else if a 7 p = 3 ∧ mq_maj a ≤ mq_holds a 4 p (a 23 0) then
    (if mq_ay a p (a 23 0) = 0 then (mq_enter a p (a 8 p + 1), 1) else (mq_learn a p (a 4 p) (a 9 p), 1))
  else (a, 0)
/-- d steps -/
def mq_go (p : Nat) : Nat → cq_S → cq_S
  | 0, a => a
  | d + 1, a => (mq_step (mq_go p d a) p).1
def mq_none (a : cq_S) (x : Int32) : Nat := if x < 0 ∨ ¬ x < nI (a 20 0) then 1 else 0
