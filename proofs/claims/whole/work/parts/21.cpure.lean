/-! The class, as a function of its state (numbers). Keys: 0 known, 1 deliveredSet, 2 deliveredCount, 4 council, 5 suspicions, 7 state, 8 round, 9 estimate, 10 stamp, 11 crashed (by process); 20 size, 21 made, 22 crashes, 23 count of letters that wait, 24 their words, 25 estimates, 26 offers, 27 and 28 voters yes and no; 40 + p the order, 60 + p the verdicts of the process p. -/
/-- a letter's text -/
def gq_tx (k c r w s : Nat) : Nat := (((k ||| c * 2 ^ 3) ||| r * 2 ^ 6) ||| w * 2 ^ 10) ||| s * 2 ^ 18
/-- a waiting letter's word -/
def gq_wd (p q t : Nat) : Nat := ((p * 2 ^ 3) ||| q) * 2 ^ 22 ||| t
def gq_room (n : Nat) : Nat := (16 * n + 240) * (n - 1)
def gq_send (g : cq_S) (p q t : Nat) : cq_S := if gq_room (g 20 0) ≤ g 23 0 then g else cq_p (cq_p g 24 (g 23 0) (gq_wd p q t)) 23 0 (g 23 0 + 1)
def gq_all (g : cq_S) (p t : Nat) : Nat → cq_S
  | 0 => g
  | j + 1 => if j = p then gq_all g p t j else gq_send (gq_all g p t j) p j t
def gq_toAll (g : cq_S) (p t : Nat) : cq_S := gq_all g p t (g 20 0)
def gq_goes (g : cq_S) (i p q : Nat) : Nat := if g 24 i / 2 ^ 22 = (p * 2 ^ 3 ||| q) then 1 else 0
def gq_from (g : cq_S) (i p : Nat) : Nat := if g 24 i / 2 ^ 22 / 2 ^ 3 = p then 1 else 0
def gq_cnt (g : cq_S) (p q : Nat) : Nat → Nat
  | 0 => 0
  | i + 1 => gq_cnt g p q i + gq_goes g i p q
def gq_pl (g : cq_S) (p q : Nat) (j : Int32) : Nat → Nat → Nat → Option Nat
  | 0, _, _ => none
  | d + 1, i, m => if gq_goes g i p q = 0 then gq_pl g p q j d (i + 1) m else if nI m = j then some i else gq_pl g p q j d (i + 1) (m + 1)
def gq_place (g : cq_S) (p q : Nat) (j : Int32) : Option Nat := gq_pl g p q j (g 23 0) 0 0
def gq_text (g : cq_S) (i : Nat) : Nat := g 24 i % 4194304
/-- the letter at the place i is taken away -/
def gq_take (g : cq_S) (i : Nat) : cq_S := fun k j => if k = 24 then (if i ≤ j ∧ j < i + (g 23 0 - 1 - i) then g 24 (i + 1 + (j - i)) else g 24 j) else if k = 23 ∧ j = 0 then g 23 0 - 1 else g k j
/-- of the first d letters the latest from p, at most m -/
def gq_lose (p : Nat) : Nat → Nat → cq_S → cq_S
  | 0, _, g => g
  | d + 1, m, g => if m = 0 then g else if gq_from g d p = 0 then gq_lose p d m g else gq_lose p d (m - 1) (gq_take g d)
def gq_cell (n c r p : Nat) : Nat := (c * 10 + r - 1) * n + p
def gq_kE (g : cq_S) (c r p w s : Nat) : cq_S := cq_p g 25 (gq_cell (g 20 0) c r p) (s * 2 ^ 8 ||| w)
def gq_kO (g : cq_S) (c r q w : Nat) : cq_S := cq_p g 26 (gq_cell (g 20 0) c r q) w
def gq_kV (g : cq_S) (c r p v : Nat) : cq_S := if v = 1 then cq_p g 27 (c * 10 + r - 1) (g 27 (c * 10 + r - 1) ||| 2 ^ p) else cq_p g 28 (c * 10 + r - 1) (g 28 (c * 10 + r - 1) ||| 2 ^ p)
def gq_eOf (g : cq_S) (c r : Nat) : Nat → Nat
  | 0 => 0
  | p + 1 => gq_eOf g c r p + (if g 25 (gq_cell (g 20 0) c r p) = 0 then 0 else 1)
def gq_bB (g : cq_S) (c r : Nat) : Nat → Nat
  | 0 => 0
  | p + 1 => if g 25 (gq_cell (g 20 0) c r p) = 0 then gq_bB g c r p else if gq_bB g c r p = 0 then g 25 (gq_cell (g 20 0) c r p) else if g 25 (gq_cell (g 20 0) c r p) / 2 ^ 8 ≤ gq_bB g c r p / 2 ^ 8 then gq_bB g c r p else g 25 (gq_cell (g 20 0) c r p)
def gq_pc (x : Nat) : Nat := x % 2 + x / 2 % 2 + x / 4 % 2 + x / 8 % 2 + x / 16 % 2
def gq_vOf (g : cq_S) (c r : Nat) : Nat := gq_pc (g 27 (c * 10 + r - 1) ||| g 28 (c * 10 + r - 1))
def gq_ldr (g : cq_S) (r : Nat) : Nat := (r - 1) % g 20 0
def gq_enter (g : cq_S) (p r : Nat) : cq_S :=
  if r ≤ 10 then
    (if p = gq_ldr g r then cq_p (gq_kE (cq_p g 8 p r) (g 4 p) r p (g 9 p) (g 10 p)) 7 p 1
     else cq_p (gq_send (cq_p g 8 p r) p (gq_ldr g r) (gq_tx 2 (g 4 p) r (g 9 p) (g 10 p))) 7 p 2)
  else cq_p (cq_p g 8 p r) 7 p 4
def gq_learn (g : cq_S) (p m : Nat) : cq_S := if g 0 p / 2 ^ m % 2 = 0 then gq_toAll (cq_p g 0 p (g 0 p ||| 2 ^ m)) p (gq_tx 1 0 0 m 0) else g
def gq_accept (g : cq_S) (p c b : Nat) : cq_S := if g (60 + p) c = 0 then gq_toAll (cq_p g (60 + p) c b) p (gq_tx 5 c 0 b 0) else g
def gq_del (f p : Nat) (g : cq_S) : Nat → cq_S
  | 0 => g
  | m + 1 => if f / 2 ^ m % 2 = 0 then gq_del f p g m else cq_p (cq_p (gq_del f p g m) (40 + p) ((gq_del f p g m) 2 p) m) 2 p ((gq_del f p g m) 2 p + 1)
def gq_batch (g : cq_S) (p b : Nat) : cq_S := cq_p (gq_del (cq_an b (g 1 p)) p g 8) 1 p (g 1 p ||| cq_an b (g 1 p))
def gq_finish (g : cq_S) (p : Nat) : cq_S := cq_p (cq_p (cq_p (cq_p (cq_p (gq_batch g p (g (60 + p) (g 4 p))) 4 p (g 4 p + 1)) 7 p 0) 8 p 0) 9 p 0) 10 p 0
def gq_adopt (g : cq_S) (p b : Nat) : cq_S := cq_p (cq_p g 9 p b) 10 p (g 8 p)
def gq_maj (g : cq_S) : Nat := g 20 0 / 2 + 1
def gq_open (g : cq_S) (p : Nat) : cq_S × Nat := if cq_an (g 0 p) (g 1 p) = 0 ∨ ¬ g 4 p < 8 then (g, 0) else (gq_enter (cq_p (cq_p g 9 p (cq_an (g 0 p) (g 1 p))) 10 p 0) p 1, 1)
def gq_mk (g : cq_S) (p : Nat) : cq_S × Nat :=
  if gq_maj g ≤ gq_eOf g (g 4 p) (g 8 p) (g 20 0) then
    (cq_p (gq_kV (gq_toAll (gq_adopt g p (gq_bB g (g 4 p) (g 8 p) (g 20 0) % 256)) p (gq_tx 3 (g 4 p) (g 8 p) (gq_bB g (g 4 p) (g 8 p) (g 20 0) % 256) 0)) (g 4 p) (g 8 p) p 1) 7 p 3, 1)
  else (g, 0)
def gq_answer (g : cq_S) (p : Nat) : cq_S × Nat :=
  if g 26 (gq_cell (g 20 0) (g 4 p) (g 8 p) p) = 0 then
    (if g 5 p / 2 ^ gq_ldr g (g 8 p) % 2 = 0 then (g, 0) else (gq_enter (gq_send g p (gq_ldr g (g 8 p)) (gq_tx 4 (g 4 p) (g 8 p) 0 0)) p (g 8 p + 1), 1))
  else (gq_enter (gq_send (gq_adopt g p (g 26 (gq_cell (g 20 0) (g 4 p) (g 8 p) p))) p (gq_ldr g (g 8 p)) (gq_tx 4 (g 4 p) (g 8 p) 1 0)) p (g 8 p + 1), 1)
def gq_count (g : cq_S) (p : Nat) : cq_S × Nat :=
  if gq_maj g ≤ gq_vOf g (g 4 p) (g 8 p) then
    (if g 28 (g 4 p * 10 + g 8 p - 1) = 0 then (gq_accept g p (g 4 p) (g 9 p), 1) else (gq_enter g p (g 8 p + 1), 1))
  else (g, 0)
def gq_step (g : cq_S) (p : Nat) : cq_S × Nat :=
  if g 4 p < 8 ∧ ¬ g (60 + p) (g 4 p) = 0 then (gq_finish g p, 1)
  else if g 7 p = 0 then gq_open g p else if g 7 p = 1 then gq_mk g p else if g 7 p = 2 then gq_answer g p else if g 7 p = 3 then gq_count g p else (g, 0)
def gq_go (p : Nat) : Nat → cq_S → cq_S
  | 0, g => g
  | d + 1, g => (gq_step (gq_go p d g) p).1
def gq_receive (g : cq_S) (p q t : Nat) : cq_S :=
  if t % 8 = 1 then gq_learn g q (t / 2 ^ 10 % 256)
  else if t % 8 = 2 then gq_kE g (t / 2 ^ 3 % 8) (t / 2 ^ 6 % 16) p (t / 2 ^ 10 % 256) (t / 2 ^ 18 % 16)
  else if t % 8 = 3 then gq_kO g (t / 2 ^ 3 % 8) (t / 2 ^ 6 % 16) q (t / 2 ^ 10 % 256)
  else if t % 8 = 4 then gq_kV g (t / 2 ^ 3 % 8) (t / 2 ^ 6 % 16) p (t / 2 ^ 10 % 256)
  else gq_accept g q (t / 2 ^ 3 % 8) (t / 2 ^ 10 % 256)
theorem gq_room_lt {n : Nat} (h : n ≤ 5) : gq_room n < 2147483648 := by
  unfold gq_room
  have : (16 * n + 240) * (n - 1) ≤ 320 * 4 := Nat.mul_le_mul (by omega) (by omega)
  omega
theorem gq_goes_2 (g : cq_S) (i p q : Nat) : gq_goes g i p q < 2 := by unfold gq_goes; split <;> omega
theorem gq_goes_lt (g : cq_S) (i p q : Nat) : gq_goes g i p q < 2147483648 := Nat.lt_trans (gq_goes_2 g i p q) (by decide)
theorem gq_from_2 (g : cq_S) (i p : Nat) : gq_from g i p < 2 := by unfold gq_from; split <;> omega
theorem gq_cell_lt {n c r p : Nat} (hc : c < 8) (hr1 : 1 ≤ r) (hr : r ≤ 10) (hp : p < n) : gq_cell n c r p < 80 * n := by
  unfold gq_cell
  have : (c * 10 + r - 1) * n ≤ 79 * n := Nat.mul_le_mul_right n (by omega)
  omega
def gq_is (g : cq_S) (x : Int32) : Nat := if x < 0 ∨ nI (g 20 0) ≤ x then 0 else 1
theorem gq_bB_lt {g : cq_S} (hB : cq_B2 g) (c r : Nat) : ∀ i, gq_bB g c r i < 2147483648
  | 0 => by simp [gq_bB]
  | i + 1 => by
    have h1 := gq_bB_lt hB c r i
    have h2 := hB 25 (gq_cell (g 20 0) c r i) (by decide)
    unfold gq_bB
    repeat' split
    all_goals assumption
theorem gq_send_k (g : cq_S) (p q t k' i' : Nat) (h : k' ≠ 23 ∧ k' ≠ 24) : gq_send g p q t k' i' = g k' i' := by
  unfold gq_send
  split
  · rfl
  · rw [cq_p_k _ h.1, cq_p_k _ h.2]
theorem gq_all_k (g : cq_S) (p t j k' i' : Nat) (h : k' ≠ 23 ∧ k' ≠ 24) : gq_all g p t j k' i' = g k' i' := by
  induction j with
  | zero => rfl
  | succ j ih =>
    unfold gq_all
    split
    · exact ih
    · rw [gq_send_k _ _ _ _ _ _ h]; exact ih
theorem gq_wd_lt {p q t : Nat} (hp : p < 8) (hq : q < 8) (ht : t < 4194304) : gq_wd p q t < 2147483648 := by
  unfold gq_wd
  have h1 : (p * 2 ^ 3 ||| q) < 64 := Nat.or_lt_two_pow (n := 6) (by omega) (by omega)
  exact Nat.or_lt_two_pow (n := 31) (by omega) (by omega)
theorem gq_send_B {g : cq_S} (hB : cq_B2 g) {p q t : Nat} (hp : p < 8) (hq : q < 8) (ht : t < 4194304) (hn : g 20 0 ≤ 5) : cq_B2 (gq_send g p q t) := by
  unfold gq_send
  split
  · exact hB
  · have h1 := gq_room_lt hn
    exact (hB.put (gq_wd_lt hp hq ht)).put (by omega)
theorem gq_all_B {g : cq_S} (hB : cq_B2 g) {p t n : Nat} (hp : p < 8) (ht : t < 4194304) (h20 : g 20 0 = n) (hn : n ≤ 5) : ∀ j, j ≤ 5 → cq_B2 (gq_all g p t j) := by
  intro j
  induction j with
  | zero => exact fun _ => hB
  | succ j ih =>
    intro hj
    unfold gq_all
    split
    · exact ih (by omega)
    · exact gq_send_B (ih (by omega)) hp (by omega) ht (by rw [gq_all_k _ _ _ _ _ _ (by decide)]; omega)
theorem gq_tx_lt {k c r w s : Nat} (hk : k < 8) (hc : c < 8) (hr : r < 16) (hw : w < 256) (hs : s < 16) : gq_tx k c r w s < 4194304 := by
  unfold gq_tx
  exact Nat.or_lt_two_pow (n := 22) (Nat.or_lt_two_pow (n := 22) (Nat.or_lt_two_pow (n := 22) (Nat.or_lt_two_pow (n := 22) (by omega) (by omega)) (by omega)) (by omega)) (by omega)
