/-! The class's world: cells 0 the object, 1 its members' array, 2 and 3 the post and its words, 4 to 8 the papers and their rows; then three cells a process: the member, its order, its verdicts. ad: addresses; cI, cA: the classes of int[] and Member[]. -/
def wCm (ad : Nat → Nat) (g : cq_S) (p : Nat) : List Value := [.ref (ad (10 + 3 * p)), .ref (ad (11 + 3 * p)), .int (nI (g 0 p)), .int (nI (g 1 p)), .int (nI (g 2 p)), .int (nI (g 5 p)), .int (nI (g 4 p)), .int (nI (g 7 p)), .int (nI (g 8 p)), .int (nI (g 9 p)), .int (nI (g 10 p)), .int (nI (g 11 p))]
def wCc (n : Nat) (ad : Nat → Nat) (cI cA : ClassId) (g : cq_S) : Nat → Nat × va_E
  | 0 => (ad 0, .inr (0, [.int (nI (g 20 0)), .ref (ad 1), .ref (ad 2), .ref (ad 4), .int (nI (g 21 0)), .int (nI (g 22 0))]))
  | 1 => (ad 1, .inl (cA, n, .inr (.inr (.inr (.inr (fun p => some (ad (9 + 3 * p))))))))
  | 2 => (ad 2, .inr (2, [.ref (ad 3), .int (nI (g 23 0))]))
  | 3 => (ad 3, .inl (cI, gq_room n, .inl (fun i => nI (g 24 i))))
  | 4 => (ad 4, .inr (3, [.int (nI (g 20 0)), .ref (ad 5), .ref (ad 6), .ref (ad 7), .ref (ad 8)]))
  | 5 => (ad 5, .inl (cI, 80 * n, .inl (fun i => nI (g 25 i))))
  | 6 => (ad 6, .inl (cI, 80 * n, .inl (fun i => nI (g 26 i))))
  | 7 => (ad 7, .inl (cI, 80, .inl (fun i => nI (g 27 i))))
  | 8 => (ad 8, .inl (cI, 80, .inl (fun i => nI (g 28 i))))
  | k + 9 => if k % 3 = 0 then (ad (9 + k), .inr (1, wCm ad g (k / 3))) else if k % 3 = 1 then (ad (9 + k), .inl (cI, 8, .inl (fun i => nI (g (40 + k / 3) i)))) else (ad (9 + k), .inl (cI, 8, .inl (fun i => nI (g (60 + k / 3) i))))
def wC (n : Nat) (ad : Nat → Nat) (cI cA : ClassId) (g : cq_S) : va_W := (List.range (9 + 3 * n)).map (wCc n ad cI cA g)
def tysC (cI cA : ClassId) : List (ClassId × FieldType) := [(cI, .int), (cA, .object "CouncilSequence$Member")]
theorem wC_at {n : Nat} {ad : Nat → Nat} {cI cA : ClassId} {g : cq_S} (k : Nat) (h : k < 9 + 3 * n) : (wC n ad cI cA g)[k]? = some (wCc n ad cI cA g k) := by
  rw [wC, List.getElem?_map, List.getElem?_range h]; rfl
theorem wCc_m (n : Nat) (ad : Nat → Nat) (cI cA : ClassId) (g : cq_S) (p : Nat) : wCc n ad cI cA g (9 + 3 * p) = (ad (9 + 3 * p), .inr (1, wCm ad g p)) := by
  rw [Nat.add_comm 9 (3 * p)]
  show (if 3 * p % 3 = 0 then _ else _) = _
  rw [if_pos (by omega), show 3 * p / 3 = p by omega, Nat.add_comm 9 (3 * p)]
theorem wCc_o (n : Nat) (ad : Nat → Nat) (cI cA : ClassId) (g : cq_S) (p : Nat) : wCc n ad cI cA g (10 + 3 * p) = (ad (10 + 3 * p), .inl (cI, 8, .inl (fun i => nI (g (40 + p) i)))) := by
  rw [show 10 + 3 * p = (3 * p + 1) + 9 by omega]
  show (if (3 * p + 1) % 3 = 0 then _ else if (3 * p + 1) % 3 = 1 then _ else _) = _
  rw [if_neg (by omega), if_pos (by omega), show (3 * p + 1) / 3 = p by omega, show 9 + (3 * p + 1) = 3 * p + 1 + 9 by omega]
theorem wCc_v (n : Nat) (ad : Nat → Nat) (cI cA : ClassId) (g : cq_S) (p : Nat) : wCc n ad cI cA g (11 + 3 * p) = (ad (11 + 3 * p), .inl (cI, 8, .inl (fun i => nI (g (60 + p) i)))) := by
  rw [show 11 + 3 * p = (3 * p + 2) + 9 by omega]
  show (if (3 * p + 2) % 3 = 0 then _ else if (3 * p + 2) % 3 = 1 then _ else _) = _
  rw [if_neg (by omega), if_neg (by omega), show (3 * p + 2) / 3 = p by omega, show 9 + (3 * p + 2) = 3 * p + 2 + 9 by omega]
theorem wC_m {n : Nat} {ad : Nat → Nat} {cI cA : ClassId} {g : cq_S} {p : Nat} (h : p < n) : (wC n ad cI cA g)[9 + 3 * p]? = some (ad (9 + 3 * p), .inr (1, wCm ad g p)) := by
  rw [wC_at _ (by omega), wCc_m]
theorem wC_o {n : Nat} {ad : Nat → Nat} {cI cA : ClassId} {g : cq_S} {p : Nat} (h : p < n) : (wC n ad cI cA g)[10 + 3 * p]? = some (ad (10 + 3 * p), .inl (cI, 8, .inl (fun i => nI (g (40 + p) i)))) := by
  rw [wC_at _ (by omega), wCc_o]
theorem wC_v {n : Nat} {ad : Nat → Nat} {cI cA : ClassId} {g : cq_S} {p : Nat} (h : p < n) : (wC n ad cI cA g)[11 + 3 * p]? = some (ad (11 + 3 * p), .inl (cI, 8, .inl (fun i => nI (g (60 + p) i)))) := by
  rw [wC_at _ (by omega), wCc_v]
/-- one cell changed -/
theorem wC_set {n : Nat} {ad : Nat → Nat} {cI cA : ClassId} {g g' : cq_S} (k : Nat) {e : Nat × va_E} (hk : k < 9 + 3 * n) (he : wCc n ad cI cA g' k = e) (ho : ∀ j, j < 9 + 3 * n → j ≠ k → wCc n ad cI cA g' j = wCc n ad cI cA g j) : (wC n ad cI cA g).set k e = wC n ad cI cA g' := by
  apply List.ext_getElem?
  intro j
  by_cases hj : j = k
  · subst hj
    rw [List.getElem?_set_self (by simp [wC]; omega), wC_at _ hk, he]
  · rw [List.getElem?_set_ne (Ne.symm hj)]
    by_cases hl : j < 9 + 3 * n
    · rw [wC_at _ hl, wC_at _ hl, ho j hl hj]
    · rw [List.getElem?_eq_none (by simp [wC]; omega), List.getElem?_eq_none (by simp [wC]; omega)]
/-- a cell sees its own keys alone -/
theorem wCc_far {n : Nat} {ad : Nat → Nat} {cI cA : ClassId} {g : cq_S} {K i v : Nat} (j : Nat) (h : ∀ k, j = k + 9 → (k % 3 = 0 → 12 ≤ K ∨ i ≠ k / 3) ∧ (k % 3 = 1 → K ≠ 40 + k / 3) ∧ (k % 3 = 2 → K ≠ 60 + k / 3)) (h0 : j = 0 → K ≠ 20 ∧ K ≠ 21 ∧ K ≠ 22) (h2 : j = 2 → K ≠ 23) (h3 : j = 3 → K ≠ 24) (h4 : j = 4 → K ≠ 20) (h5 : j = 5 → K ≠ 25) (h6 : j = 6 → K ≠ 26) (h7 : j = 7 → K ≠ 27) (h8 : j = 8 → K ≠ 28) : wCc n ad cI cA (cq_p g K i v) j = wCc n ad cI cA g j := by
  match j, h, h0, h2, h3, h4, h5, h6, h7, h8 with
  | 0, _, h0, _, _, _, _, _, _, _ => have h := h0 rfl; simp [wCc, cq_p, Ne.symm h.1, Ne.symm h.2.1, Ne.symm h.2.2]
  | 1, _, _, _, _, _, _, _, _, _ => rfl
  | 2, _, _, h, _, _, _, _, _, _ => simp [wCc, cq_p, Ne.symm (h rfl)]
  | 3, _, _, _, h, _, _, _, _, _ => simp [wCc, cq_p, Ne.symm (h rfl)]
  | 4, _, _, _, _, h, _, _, _, _ => simp [wCc, cq_p, Ne.symm (h rfl)]
  | 5, _, _, _, _, _, h, _, _, _ => simp [wCc, cq_p, Ne.symm (h rfl)]
  | 6, _, _, _, _, _, _, h, _, _ => simp [wCc, cq_p, Ne.symm (h rfl)]
  | 7, _, _, _, _, _, _, _, h, _ => simp [wCc, cq_p, Ne.symm (h rfl)]
  | 8, _, _, _, _, _, _, _, _, h => simp [wCc, cq_p, Ne.symm (h rfl)]
  | k + 9, h, _, _, _, _, _, _, _, _ =>
    have h := h k rfl
    show (if k % 3 = 0 then _ else if k % 3 = 1 then _ else _) = (if k % 3 = 0 then _ else if k % 3 = 1 then _ else _)
    by_cases e0 : k % 3 = 0
    · rw [if_pos e0, if_pos e0]
      have h1 := h.1 e0
      have hz : ∀ q, q < 12 → cq_p g K i v q (k / 3) = g q (k / 3) := by
        intro q hq
        by_cases hqK : q = K
        · subst hqK
          exact cq_p_i _ (by omega)
        · exact cq_p_k _ hqK
      simp only [wCm, hz 0 (by decide), hz 1 (by decide), hz 2 (by decide), hz 4 (by decide), hz 5 (by decide), hz 7 (by decide), hz 8 (by decide), hz 9 (by decide), hz 10 (by decide), hz 11 (by decide)]
    · rw [if_neg e0, if_neg e0]
      by_cases e1 : k % 3 = 1
      · rw [if_pos e1, if_pos e1]
        have h1 := h.2.1 e1
        simp [cq_p, Ne.symm h1]
      · rw [if_neg e1, if_neg e1]
        have h1 := h.2.2 (by omega)
        simp [cq_p, Ne.symm h1]
theorem wC_sm0 {n : Nat} {ad : Nat → Nat} {cI cA : ClassId} {g : cq_S} {p v : Nat} (h : p < n) : (wC n ad cI cA g).set (9 + 3 * p) (ad (9 + 3 * p), .inr (1, (wCm ad g p).set 2 (.int (nI v)))) = wC n ad cI cA (cq_p g 0 p v) := by
  refine wC_set _ (by omega) ?_ (fun j hj hne => wCc_far j (fun k hk => ⟨fun _ => by omega, fun _ => by omega, fun _ => by omega⟩) (fun _ => by decide) (fun _ => by decide) (fun _ => by decide) (fun _ => by decide) (fun _ => by decide) (fun _ => by decide) (fun _ => by decide) (fun _ => by decide))
  rw [wCc_m]
  simp [wCm, cq_p]
theorem wC_sm1 {n : Nat} {ad : Nat → Nat} {cI cA : ClassId} {g : cq_S} {p v : Nat} (h : p < n) : (wC n ad cI cA g).set (9 + 3 * p) (ad (9 + 3 * p), .inr (1, (wCm ad g p).set 3 (.int (nI v)))) = wC n ad cI cA (cq_p g 1 p v) := by
  refine wC_set _ (by omega) ?_ (fun j hj hne => wCc_far j (fun k hk => ⟨fun _ => by omega, fun _ => by omega, fun _ => by omega⟩) (fun _ => by decide) (fun _ => by decide) (fun _ => by decide) (fun _ => by decide) (fun _ => by decide) (fun _ => by decide) (fun _ => by decide) (fun _ => by decide))
  rw [wCc_m]
  simp [wCm, cq_p]
theorem wC_sm2 {n : Nat} {ad : Nat → Nat} {cI cA : ClassId} {g : cq_S} {p v : Nat} (h : p < n) : (wC n ad cI cA g).set (9 + 3 * p) (ad (9 + 3 * p), .inr (1, (wCm ad g p).set 4 (.int (nI v)))) = wC n ad cI cA (cq_p g 2 p v) := by
  refine wC_set _ (by omega) ?_ (fun j hj hne => wCc_far j (fun k hk => ⟨fun _ => by omega, fun _ => by omega, fun _ => by omega⟩) (fun _ => by decide) (fun _ => by decide) (fun _ => by decide) (fun _ => by decide) (fun _ => by decide) (fun _ => by decide) (fun _ => by decide) (fun _ => by decide))
  rw [wCc_m]
  simp [wCm, cq_p]
theorem wC_sm5 {n : Nat} {ad : Nat → Nat} {cI cA : ClassId} {g : cq_S} {p v : Nat} (h : p < n) : (wC n ad cI cA g).set (9 + 3 * p) (ad (9 + 3 * p), .inr (1, (wCm ad g p).set 5 (.int (nI v)))) = wC n ad cI cA (cq_p g 5 p v) := by
  refine wC_set _ (by omega) ?_ (fun j hj hne => wCc_far j (fun k hk => ⟨fun _ => by omega, fun _ => by omega, fun _ => by omega⟩) (fun _ => by decide) (fun _ => by decide) (fun _ => by decide) (fun _ => by decide) (fun _ => by decide) (fun _ => by decide) (fun _ => by decide) (fun _ => by decide))
  rw [wCc_m]
  simp [wCm, cq_p]
theorem wC_sm4 {n : Nat} {ad : Nat → Nat} {cI cA : ClassId} {g : cq_S} {p v : Nat} (h : p < n) : (wC n ad cI cA g).set (9 + 3 * p) (ad (9 + 3 * p), .inr (1, (wCm ad g p).set 6 (.int (nI v)))) = wC n ad cI cA (cq_p g 4 p v) := by
  refine wC_set _ (by omega) ?_ (fun j hj hne => wCc_far j (fun k hk => ⟨fun _ => by omega, fun _ => by omega, fun _ => by omega⟩) (fun _ => by decide) (fun _ => by decide) (fun _ => by decide) (fun _ => by decide) (fun _ => by decide) (fun _ => by decide) (fun _ => by decide) (fun _ => by decide))
  rw [wCc_m]
  simp [wCm, cq_p]
theorem wC_sm7 {n : Nat} {ad : Nat → Nat} {cI cA : ClassId} {g : cq_S} {p v : Nat} (h : p < n) : (wC n ad cI cA g).set (9 + 3 * p) (ad (9 + 3 * p), .inr (1, (wCm ad g p).set 7 (.int (nI v)))) = wC n ad cI cA (cq_p g 7 p v) := by
  refine wC_set _ (by omega) ?_ (fun j hj hne => wCc_far j (fun k hk => ⟨fun _ => by omega, fun _ => by omega, fun _ => by omega⟩) (fun _ => by decide) (fun _ => by decide) (fun _ => by decide) (fun _ => by decide) (fun _ => by decide) (fun _ => by decide) (fun _ => by decide) (fun _ => by decide))
  rw [wCc_m]
  simp [wCm, cq_p]
theorem wC_sm8 {n : Nat} {ad : Nat → Nat} {cI cA : ClassId} {g : cq_S} {p v : Nat} (h : p < n) : (wC n ad cI cA g).set (9 + 3 * p) (ad (9 + 3 * p), .inr (1, (wCm ad g p).set 8 (.int (nI v)))) = wC n ad cI cA (cq_p g 8 p v) := by
  refine wC_set _ (by omega) ?_ (fun j hj hne => wCc_far j (fun k hk => ⟨fun _ => by omega, fun _ => by omega, fun _ => by omega⟩) (fun _ => by decide) (fun _ => by decide) (fun _ => by decide) (fun _ => by decide) (fun _ => by decide) (fun _ => by decide) (fun _ => by decide) (fun _ => by decide))
  rw [wCc_m]
  simp [wCm, cq_p]
theorem wC_sm9 {n : Nat} {ad : Nat → Nat} {cI cA : ClassId} {g : cq_S} {p v : Nat} (h : p < n) : (wC n ad cI cA g).set (9 + 3 * p) (ad (9 + 3 * p), .inr (1, (wCm ad g p).set 9 (.int (nI v)))) = wC n ad cI cA (cq_p g 9 p v) := by
  refine wC_set _ (by omega) ?_ (fun j hj hne => wCc_far j (fun k hk => ⟨fun _ => by omega, fun _ => by omega, fun _ => by omega⟩) (fun _ => by decide) (fun _ => by decide) (fun _ => by decide) (fun _ => by decide) (fun _ => by decide) (fun _ => by decide) (fun _ => by decide) (fun _ => by decide))
  rw [wCc_m]
  simp [wCm, cq_p]
theorem wC_sm10 {n : Nat} {ad : Nat → Nat} {cI cA : ClassId} {g : cq_S} {p v : Nat} (h : p < n) : (wC n ad cI cA g).set (9 + 3 * p) (ad (9 + 3 * p), .inr (1, (wCm ad g p).set 10 (.int (nI v)))) = wC n ad cI cA (cq_p g 10 p v) := by
  refine wC_set _ (by omega) ?_ (fun j hj hne => wCc_far j (fun k hk => ⟨fun _ => by omega, fun _ => by omega, fun _ => by omega⟩) (fun _ => by decide) (fun _ => by decide) (fun _ => by decide) (fun _ => by decide) (fun _ => by decide) (fun _ => by decide) (fun _ => by decide) (fun _ => by decide))
  rw [wCc_m]
  simp [wCm, cq_p]
theorem wC_sm11 {n : Nat} {ad : Nat → Nat} {cI cA : ClassId} {g : cq_S} {p v : Nat} (h : p < n) : (wC n ad cI cA g).set (9 + 3 * p) (ad (9 + 3 * p), .inr (1, (wCm ad g p).set 11 (.int (nI v)))) = wC n ad cI cA (cq_p g 11 p v) := by
  refine wC_set _ (by omega) ?_ (fun j hj hne => wCc_far j (fun k hk => ⟨fun _ => by omega, fun _ => by omega, fun _ => by omega⟩) (fun _ => by decide) (fun _ => by decide) (fun _ => by decide) (fun _ => by decide) (fun _ => by decide) (fun _ => by decide) (fun _ => by decide) (fun _ => by decide))
  rw [wCc_m]
  simp [wCm, cq_p]
theorem wC_so {n : Nat} {ad : Nat → Nat} {cI cA : ClassId} {g : cq_S} {p j v : Nat} (h : p < n) (hn : n ≤ 5) : (wC n ad cI cA g).set (10 + 3 * p) (ad (10 + 3 * p), .inl (cI, 8, .inl (fun i => nI (cq_u (g (40 + p)) j v i)))) = wC n ad cI cA (cq_p g (40 + p) j v) := by
  refine wC_set _ (by omega) ?_ (fun j hj hne => wCc_far j (fun k hk => ⟨fun _ => by omega, fun _ => by omega, fun _ => by omega⟩) (fun _ => by omega) (fun _ => by omega) (fun _ => by omega) (fun _ => by omega) (fun _ => by omega) (fun _ => by omega) (fun _ => by omega) (fun _ => by omega))
  rw [wCc_o]
  simp [cq_p, cq_u]
theorem wC_sv {n : Nat} {ad : Nat → Nat} {cI cA : ClassId} {g : cq_S} {p j v : Nat} (h : p < n) (hn : n ≤ 5) : (wC n ad cI cA g).set (11 + 3 * p) (ad (11 + 3 * p), .inl (cI, 8, .inl (fun i => nI (cq_u (g (60 + p)) j v i)))) = wC n ad cI cA (cq_p g (60 + p) j v) := by
  refine wC_set _ (by omega) ?_ (fun j hj hne => wCc_far j (fun k hk => ⟨fun _ => by omega, fun _ => by omega, fun _ => by omega⟩) (fun _ => by omega) (fun _ => by omega) (fun _ => by omega) (fun _ => by omega) (fun _ => by omega) (fun _ => by omega) (fun _ => by omega) (fun _ => by omega))
  rw [wCc_v]
  simp [cq_p, cq_u]
theorem wC_sa24 {n : Nat} {ad : Nat → Nat} {cI cA : ClassId} {g : cq_S} {j v : Nat} : (wC n ad cI cA g).set 3 (ad 3, .inl (cI, gq_room n, .inl (fun i => nI (cq_u (g 24) j v i)))) = wC n ad cI cA (cq_p g 24 j v) := by
  refine wC_set _ (by omega) ?_ (fun j hj hne => wCc_far j (fun k hk => ⟨fun _ => by omega, fun _ => by omega, fun _ => by omega⟩) (fun _ => by decide) (fun _ => by omega) (fun _ => by omega) (fun _ => by decide) (fun _ => by omega) (fun _ => by omega) (fun _ => by omega) (fun _ => by omega))
  simp [wCc, cq_p, cq_u]
theorem wC_sa25 {n : Nat} {ad : Nat → Nat} {cI cA : ClassId} {g : cq_S} {j v : Nat} : (wC n ad cI cA g).set 5 (ad 5, .inl (cI, 80 * n, .inl (fun i => nI (cq_u (g 25) j v i)))) = wC n ad cI cA (cq_p g 25 j v) := by
  refine wC_set _ (by omega) ?_ (fun j hj hne => wCc_far j (fun k hk => ⟨fun _ => by omega, fun _ => by omega, fun _ => by omega⟩) (fun _ => by decide) (fun _ => by omega) (fun _ => by omega) (fun _ => by decide) (fun _ => by omega) (fun _ => by omega) (fun _ => by omega) (fun _ => by omega))
  simp [wCc, cq_p, cq_u]
theorem wC_sa26 {n : Nat} {ad : Nat → Nat} {cI cA : ClassId} {g : cq_S} {j v : Nat} : (wC n ad cI cA g).set 6 (ad 6, .inl (cI, 80 * n, .inl (fun i => nI (cq_u (g 26) j v i)))) = wC n ad cI cA (cq_p g 26 j v) := by
  refine wC_set _ (by omega) ?_ (fun j hj hne => wCc_far j (fun k hk => ⟨fun _ => by omega, fun _ => by omega, fun _ => by omega⟩) (fun _ => by decide) (fun _ => by omega) (fun _ => by omega) (fun _ => by decide) (fun _ => by omega) (fun _ => by omega) (fun _ => by omega) (fun _ => by omega))
  simp [wCc, cq_p, cq_u]
theorem wC_sa27 {n : Nat} {ad : Nat → Nat} {cI cA : ClassId} {g : cq_S} {j v : Nat} : (wC n ad cI cA g).set 7 (ad 7, .inl (cI, 80, .inl (fun i => nI (cq_u (g 27) j v i)))) = wC n ad cI cA (cq_p g 27 j v) := by
  refine wC_set _ (by omega) ?_ (fun j hj hne => wCc_far j (fun k hk => ⟨fun _ => by omega, fun _ => by omega, fun _ => by omega⟩) (fun _ => by decide) (fun _ => by omega) (fun _ => by omega) (fun _ => by decide) (fun _ => by omega) (fun _ => by omega) (fun _ => by omega) (fun _ => by omega))
  simp [wCc, cq_p, cq_u]
theorem wC_sa28 {n : Nat} {ad : Nat → Nat} {cI cA : ClassId} {g : cq_S} {j v : Nat} : (wC n ad cI cA g).set 8 (ad 8, .inl (cI, 80, .inl (fun i => nI (cq_u (g 28) j v i)))) = wC n ad cI cA (cq_p g 28 j v) := by
  refine wC_set _ (by omega) ?_ (fun j hj hne => wCc_far j (fun k hk => ⟨fun _ => by omega, fun _ => by omega, fun _ => by omega⟩) (fun _ => by decide) (fun _ => by omega) (fun _ => by omega) (fun _ => by decide) (fun _ => by omega) (fun _ => by omega) (fun _ => by omega) (fun _ => by omega))
  simp [wCc, cq_p, cq_u]
theorem wC_sc21 {n : Nat} {ad : Nat → Nat} {cI cA : ClassId} {g : cq_S} {v : Nat} : (wC n ad cI cA g).set 0 (ad 0, .inr (0, ([.int (nI (g 20 0)), .ref (ad 1), .ref (ad 2), .ref (ad 4), .int (nI (g 21 0)), .int (nI (g 22 0))] : List Value).set 4 (.int (nI v)))) = wC n ad cI cA (cq_p g 21 0 v) := by
  refine wC_set _ (by omega) ?_ (fun j hj hne => wCc_far j (fun k hk => ⟨fun _ => by omega, fun _ => by omega, fun _ => by omega⟩) (fun _ => by omega) (fun _ => by omega) (fun _ => by decide) (fun _ => by decide) (fun _ => by decide) (fun _ => by decide) (fun _ => by decide) (fun _ => by decide))
  simp [wCc, cq_p]
theorem wC_sc22 {n : Nat} {ad : Nat → Nat} {cI cA : ClassId} {g : cq_S} {v : Nat} : (wC n ad cI cA g).set 0 (ad 0, .inr (0, ([.int (nI (g 20 0)), .ref (ad 1), .ref (ad 2), .ref (ad 4), .int (nI (g 21 0)), .int (nI (g 22 0))] : List Value).set 5 (.int (nI v)))) = wC n ad cI cA (cq_p g 22 0 v) := by
  refine wC_set _ (by omega) ?_ (fun j hj hne => wCc_far j (fun k hk => ⟨fun _ => by omega, fun _ => by omega, fun _ => by omega⟩) (fun _ => by omega) (fun _ => by omega) (fun _ => by decide) (fun _ => by decide) (fun _ => by decide) (fun _ => by decide) (fun _ => by decide) (fun _ => by decide))
  simp [wCc, cq_p]
theorem wC_sc23 {n : Nat} {ad : Nat → Nat} {cI cA : ClassId} {g : cq_S} {v : Nat} : (wC n ad cI cA g).set 2 (ad 2, .inr (2, ([.ref (ad 3), .int (nI (g 23 0))] : List Value).set 1 (.int (nI v)))) = wC n ad cI cA (cq_p g 23 0 v) := by
  refine wC_set _ (by omega) ?_ (fun j hj hne => wCc_far j (fun k hk => ⟨fun _ => by omega, fun _ => by omega, fun _ => by omega⟩) (fun _ => by omega) (fun _ => by omega) (fun _ => by decide) (fun _ => by decide) (fun _ => by decide) (fun _ => by decide) (fun _ => by decide) (fun _ => by decide))
  simp [wCc, cq_p]

