/-! The calls: the same answer, and the relation kept. -/
theorem rq_letters {n : Nat} {g a : cq_S} (Z : rq_Z n g a) (x y : Int32) : gq_letters g x y = mq_letters a x y := by
  have h20 := Z.1.1.1
  have g20 := Z.1.1.2.1
  have hn : a 20 0 ≤ 5 := Z.2.1.1.2.1
  unfold gq_letters mq_letters
  rw [h20, g20]
  cases h : cq_id n x with
  | none => rfl
  | some p =>
    cases h2 : cq_id n y with
    | none => rfl
    | some q =>
      have hp := (cq_id_some h (by omega)).1
      have hq := (cq_id_some h2 (by omega)).1
      show nI (gq_cnt g p q (g 23 0)) = nI (mq_cnt a p q (a 23 0))
      rw [Z.1.2.1.1, rq_cnt Z.1.2.1 Z.2.1.2 hn (by omega) (by omega) _ (Nat.le_refl _)]
theorem rq_letter {n : Nat} {g a : cq_S} (Z : rq_Z n g a) (x y j : Int32) : gq_letter g x y j = mq_letter a x y j := by
  have h20 := Z.1.1.1
  have g20 := Z.1.1.2.1
  have hn : a 20 0 ≤ 5 := Z.2.1.1.2.1
  unfold gq_letter mq_letter
  rw [h20, g20]
  cases h : cq_id n x with
  | none => rfl
  | some p =>
    cases h2 : cq_id n y with
    | none => rfl
    | some q =>
      have hp := (cq_id_some h (by omega)).1
      have hq := (cq_id_some h2 (by omega)).1
      show (match gq_place g p q j with | none => nI 0 | some i => nI (gq_text g i)) = (match mq_seek a p q j with | none => nI 0 | some i => nI (mq_ltx a i))
      rw [rq_place Z.1.2.1 Z.2.1.2 hn (by omega) (by omega) j]
      cases h3 : mq_seek a p q j with
      | none => rfl
      | some i =>
        have hi := mq_seek_lt h3
        have hs := mq_sk_is a p q j _ _ _ i h3
        show nI (gq_text g (rq_c a i)) = nI (mq_ltx a i)
        rw [rq_text Z.1.2.1 Z.2.1.2 hn hi hs.1, (rq_tx Z.2.1.2 hi).1]
theorem rq_Zgo {n : Nat} {g a : cq_S} (Z : rq_Z n g a) {p : Nat} (hp : p < n) (d : Nat) : rq_Z n (gq_go p d g) (mq_go p d a) :=
  ⟨rq_go Z.1 Z.2 hp d, (xq_go Z.2 (by rw [Z.1.1.1]; exact hp) d).1⟩
theorem rq_bcast {n : Nat} {g a : cq_S} (Z : rq_Z n g a) (x : Int32) : (gq_bcast g x).1 = (mq_bcast a x).1 ∧ rq_Z n (gq_bcast g x).2 (mq_bcast a x).2 := by
  have h20 := Z.1.1.1
  have g20 := Z.1.1.2.1
  have hn : a 20 0 ≤ 5 := Z.2.1.1.2.1
  unfold gq_bcast mq_bcast
  rw [h20, g20]
  cases h : cq_id n x with
  | none => exact ⟨rfl, Z⟩
  | some p =>
    have hp := (cq_id_some h (by omega)).1
    have e11 : g 11 p = a 11 p := Z.1.1.2.2.2.2.1 11 p (by unfold rq_K; omega) hp
    dsimp only
    rw [e11, Z.1.1.2.2.1]
    by_cases c1 : a 11 p = 0
    · rw [if_pos c1, if_pos c1]
      by_cases c2 : a 21 0 = 8
      · rw [if_pos c2, if_pos c2]; exact ⟨rfl, Z⟩
      · rw [if_neg c2, if_neg c2]
        generalize (1000 : Nat) = d
        exact ⟨rfl, rq_Zgo ⟨rq_b0 Z.1 Z.2 hp c2, (xq_b0 Z.2 (by omega) c2).1⟩ hp d⟩
    · rw [if_neg c1, if_neg c1]; exact ⟨rfl, Z⟩
theorem rq_deliver {n : Nat} {g a : cq_S} (Z : rq_Z n g a) (x y j : Int32) : (gq_deliver g x y j).1 = (mq_deliver a x y j).1 ∧ rq_Z n (gq_deliver g x y j).2 (mq_deliver a x y j).2 := by
  have h20 := Z.1.1.1
  have g20 := Z.1.1.2.1
  have hn : a 20 0 ≤ 5 := Z.2.1.1.2.1
  unfold gq_deliver mq_deliver
  rw [h20, g20]
  cases h : cq_id n x with
  | none => exact ⟨rfl, Z⟩
  | some p =>
    cases h2 : cq_id n y with
    | none => exact ⟨rfl, Z⟩
    | some q =>
      have hp := (cq_id_some h (by omega)).1
      have hq := (cq_id_some h2 (by omega)).1
      have e11 : g 11 q = a 11 q := Z.1.1.2.2.2.2.1 11 q (by unfold rq_K; omega) hq
      dsimp only
      rw [e11]
      by_cases c0 : p = q
      · rw [if_pos c0, if_pos c0]; exact ⟨rfl, Z⟩
      · rw [if_neg c0, if_neg c0]
        by_cases c1 : a 11 q = 0
        · rw [if_pos c1, if_pos c1, rq_place Z.1.2.1 Z.2.1.2 hn (by omega) (by omega) j]
          cases h3 : mq_seek a p q j with
          | none => exact ⟨rfl, Z⟩
          | some i =>
            have hi := mq_seek_lt h3
            have hs := mq_sk_is a p q j _ _ _ i h3
            generalize (1000 : Nat) = d
            refine ⟨?_, rq_Zgo ⟨rq_d0 Z.1 Z.2 hi hs.1 hs.2.1 hs.2.2, (xq_d0 Z.2 hi hs.1 hs.2.2).1⟩ hq d⟩
            show nI (gq_text g (rq_c a i) % 8) = nI (a 12 i)
            rw [rq_text Z.1.2.1 Z.2.1.2 hn hi hs.1, (rq_tx Z.2.1.2 hi).2.1]
        · rw [if_neg c1, if_neg c1]; exact ⟨rfl, Z⟩
theorem rq_suspect {n : Nat} {g a : cq_S} (Z : rq_Z n g a) (x z : Int32) (y : Nat) : (gq_suspect g x z y).1 = (mq_suspect a x z y).1 ∧ rq_Z n (gq_suspect g x z y).2 (mq_suspect a x z y).2 := by
  have h20 := Z.1.1.1
  have g20 := Z.1.1.2.1
  have hn : a 20 0 ≤ 5 := Z.2.1.1.2.1
  unfold gq_suspect mq_suspect
  rw [h20, g20]
  cases h : cq_id n x with
  | none => exact ⟨rfl, Z⟩
  | some p =>
    cases h2 : cq_id n z with
    | none => exact ⟨rfl, Z⟩
    | some q =>
      have hp := (cq_id_some h (by omega)).1
      have hq := (cq_id_some h2 (by omega)).1
      have e11 : g 11 p = a 11 p := Z.1.1.2.2.2.2.1 11 p (by unfold rq_K; omega) hp
      dsimp only
      rw [e11]
      by_cases c0 : p = q
      · rw [if_pos c0, if_pos c0]; exact ⟨rfl, Z⟩
      · rw [if_neg c0, if_neg c0]
        by_cases c1 : a 11 p = 0
        · rw [if_pos c1, if_pos c1]
          generalize (1000 : Nat) = d
          exact ⟨rfl, rq_Zgo ⟨rq_s0 Z.1 Z.2 hp (show q < 8 by omega), (xq_s0 Z.2 (show q < 8 by omega)).1⟩ hp d⟩
        · rw [if_neg c1, if_neg c1]; exact ⟨rfl, Z⟩
theorem rq_crash {n : Nat} {g a : cq_S} (Z : rq_Z n g a) (x y : Int32) : (gq_crash g x y).1 = (mq_crash a x y).1 ∧ rq_Z n (gq_crash g x y).2 (mq_crash a x y).2 := by
  have h20 := Z.1.1.1
  have g20 := Z.1.1.2.1
  have hn : a 20 0 ≤ 5 := Z.2.1.1.2.1
  unfold gq_crash mq_crash
  rw [h20, g20]
  cases h : cq_id n x with
  | none => exact ⟨rfl, Z⟩
  | some p =>
    cases h2 : cq_id 21 y with
    | none => exact ⟨rfl, Z⟩
    | some m =>
      have hp := (cq_id_some h (by omega)).1
      have e11 : g 11 p = a 11 p := Z.1.1.2.2.2.2.1 11 p (by unfold rq_K; omega) hp
      have e22 := Z.1.1.2.2.2.1
      have h22 := Z.2.2.2.2.2.2
      dsimp only
      rw [e11, e22]
      by_cases c1 : a 11 p = 0 ∧ ¬ a 22 0 = (n - 1) / 2
      · rw [if_pos c1, if_pos c1]
        have X' := xq_c0 Z.2 p (by rw [h20]; exact c1.2)
        have R' : rq_R n (cq_p (cq_p g 11 p 1) 22 0 (a 22 0 + 1)) (cq_p (cq_p a 11 p 1) 22 0 (a 22 0 + 1)) := rq_R_21 (rq_R_p Z.1 (by unfold rq_K; omega) p (by decide)) (Or.inr rfl) (by omega)
        refine ⟨rfl, rq_lose R' X' p m, ?_⟩
        exact (xq_lose p _ m _ X').1
      · rw [if_neg c1, if_neg c1]; exact ⟨rfl, Z⟩
/-- the start -/
theorem rq_new {n : Nat} (h3 : 3 ≤ n) (h5 : n ≤ 5) : rq_Z n (cq_p (fun _ _ => 0) 20 0 n) (cq_p (fun _ _ => 0) 20 0 n) := by
  have hB : ∀ k i, cq_p (fun _ _ => 0) 20 0 n k i < 2147483648 := by
    intro k i
    show (if k = 20 then (if i = 0 then n else 0) else 0) < 2147483648
    repeat' split
    all_goals omega
  have z : ∀ k i, k ≠ 20 → cq_p (fun _ _ => 0) 20 0 n k i = 0 := fun k i h => cq_p_k _ h
  refine ⟨⟨⟨cq_p_s _ _ _ _, cq_p_s _ _ _ _, rfl, rfl, fun _ _ _ _ => rfl, fun p i _ _ => ?_, fun p i _ _ => ?_⟩, ⟨rfl, Nat.le_refl _, fun i hi => absurd hi (Nat.not_lt_zero _)⟩, fun c r p _ _ _ _ => ?_, ⟨fun k i _ => hB k i, fun i => ⟨Nat.two_pow_pos n, Nat.two_pow_pos n, Nat.zero_lt_succ _⟩⟩⟩, xq_new h3 h5⟩
  · rw [z _ _ (by omega), z _ _ (by omega)]
  · rw [z _ _ (by omega), z _ _ (by omega)]
  · rw [z 25 _ (by decide), z 26 _ (by decide), z 27 _ (by decide), z 27 _ (by decide), z 28 _ (by decide), z 30 _ (by decide), z 31 _ (by decide), z 32 _ (by decide), z 33 _ (by decide), if_pos rfl, if_pos rfl, Nat.zero_div]
    exact ⟨rfl, rfl, ⟨fun _ => rfl, fun _ => rfl⟩, ⟨fun _ => rfl, fun _ => rfl⟩⟩
