/-! More words of the tables. -/
theorem zx_cpy : Cond.methodLink zR_P 30 arraycopyName ∈ cq_ws := cq_in 292 (by decide +kernel) (by decide +kernel)
theorem zx_nat : Cond.native arraycopyName ∈ cq_ws := cq_in 294 (by decide +kernel) (by decide +kernel)
theorem zx_sta : Cond.static arraycopyName ∈ cq_ws := cq_in 293 (by decide +kernel) (by decide +kernel)
theorem zx_ini : Cond.initialized "java/lang/System" ∈ cq_ws := cq_in 9 (by decide +kernel) (by decide +kernel)
theorem zx_math : Cond.initialized "java/lang/Math" ∈ cq_ws := cq_in 2 (by decide +kernel) (by decide +kernel)
theorem zx_minl : Cond.methodLink zR_C 9 Lib.Math.min.name ∈ cq_ws := cq_in 18 (by decide +kernel) (by decide +kernel)
theorem zx_mins : Cond.static Lib.Math.min.name ∈ cq_ws := cq_in 19 (by decide +kernel) (by decide +kernel)
theorem zx_minc : Cond.code Lib.Math.min.name Lib.Math.min.code 2 (some .int) ∈ cq_ws := cq_in 20 (by decide +kernel) (by decide +kernel)
theorem zx_maxl : Cond.methodLink zR_C 15 Lib.Math.max.name ∈ cq_ws := cq_in 21 (by decide +kernel) (by decide +kernel)
theorem zx_maxs : Cond.static Lib.Math.max.name ∈ cq_ws := cq_in 22 (by decide +kernel) (by decide +kernel)
theorem zx_maxc : Cond.code Lib.Math.max.name Lib.Math.max.code 2 (some .int) ∈ cq_ws := cq_in 23 (by decide +kernel) (by decide +kernel)
theorem zx_oi : Cond.instanceMethod objectInit ∈ cq_ws := cq_in 16 (by decide +kernel) (by decide +kernel)
theorem zx_oc : Cond.code objectInit ⟨#[0xb1]⟩ 1 none ∈ cq_ws := cq_in 17 (by decide +kernel) (by decide +kernel)
theorem zx_oC : Cond.methodLink zR_C 1 objectInit ∈ cq_ws := cq_in 15 (by decide +kernel) (by decide +kernel)
theorem zx_oM : Cond.methodLink zR_M 3 objectInit ∈ cq_ws := cq_in 30 (by decide +kernel) (by decide +kernel)
theorem zx_oP : Cond.methodLink zR_P 3 objectInit ∈ cq_ws := cq_in 83 (by decide +kernel) (by decide +kernel)
theorem zx_oQ : Cond.methodLink zR_Q 3 objectInit ∈ cq_ws := cq_in 99 (by decide +kernel) (by decide +kernel)
theorem zx_oR : Cond.methodLink zR_R 1 objectInit ∈ cq_ws := cq_in 408 (by decide +kernel) (by decide +kernel)
theorem zx_cM : Cond.classLink zR_C 22 zR_M ∈ cq_ws := cq_in 24 (by decide +kernel) (by decide +kernel)
theorem zx_nM : Cond.instantiable zR_M 12 ∈ cq_ws := cq_in 26 (by decide +kernel) (by decide +kernel)
theorem zx_cP : Cond.classLink zR_C 29 zR_P ∈ cq_ws := cq_in 78 (by decide +kernel) (by decide +kernel)
theorem zx_nP : Cond.instantiable zR_P 2 ∈ cq_ws := cq_in 79 (by decide +kernel) (by decide +kernel)
theorem zx_cQ : Cond.classLink zR_C 38 zR_Q ∈ cq_ws := cq_in 94 (by decide +kernel) (by decide +kernel)
theorem zx_nQ : Cond.instantiable zR_Q 5 ∈ cq_ws := cq_in 95 (by decide +kernel) (by decide +kernel)
theorem zx_aI : Cond.arrayClass .int ∈ cq_ws := cq_in 77 (by decide +kernel) (by decide +kernel)
theorem zx_aZ : Cond.arrayClass .boolean ∈ cq_ws := cq_in 482 (by decide +kernel) (by decide +kernel)
theorem zx_aB : Cond.arrayClass .byte ∈ cq_ws := cq_in 483 (by decide +kernel) (by decide +kernel)
theorem zx_aS : Cond.arrayClass .short ∈ cq_ws := cq_in 484 (by decide +kernel) (by decide +kernel)
theorem zx_cC : Cond.classLink zR_W 7 zR_C ∈ cq_ws := cq_in 10 (by decide +kernel) (by decide +kernel)
theorem zx_nC : Cond.instantiable zR_C 6 ∈ cq_ws := cq_in 11 (by decide +kernel) (by decide +kernel)
theorem zx_cR : Cond.classLink zR_W 18 zR_R ∈ cq_ws := cq_in 403 (by decide +kernel) (by decide +kernel)
theorem zx_nR : Cond.instantiable zR_R 24 ∈ cq_ws := cq_in 404 (by decide +kernel) (by decide +kernel)
theorem wCc_ne24 {n : Nat} {ad : Nat → Nat} {cI cA : ClassId} {g g' : cq_S} (e : ∀ k, k ≠ 24 → g k = g' k) (j : Nat) (hj : j ≠ 3) : wCc n ad cI cA g j = wCc n ad cI cA g' j := by
  match j, hj with
  | 0, _ => simp only [wCc, e 20 (by decide), e 21 (by decide), e 22 (by decide)]
  | 1, _ => rfl
  | 2, _ => simp only [wCc, e 23 (by decide)]
  | 3, h => exact absurd rfl h
  | 4, _ => simp only [wCc, e 20 (by decide)]
  | 5, _ => simp only [wCc, e 25 (by decide)]
  | 6, _ => simp only [wCc, e 26 (by decide)]
  | 7, _ => simp only [wCc, e 27 (by decide)]
  | 8, _ => simp only [wCc, e 28 (by decide)]
  | k + 9, _ => simp only [wCc, wCm, e 0 (by decide), e 1 (by decide), e 2 (by decide), e 4 (by decide), e 5 (by decide), e 7 (by decide), e 8 (by decide), e 9 (by decide), e 10 (by decide), e 11 (by decide), e (40 + k / 3) (by omega), e (60 + k / 3) (by omega)]
theorem wC_take {n : Nat} {ad : Nat → Nat} {cI cA : ClassId} {g : cq_S} {i : Nat} : (wC n ad cI cA (cq_p g 23 0 (g 23 0 - 1))).set 3 (ad 3, .inl (cI, gq_room n, .inl (va_cpy (fun i => nI (g 24 i)) (fun i => nI (g 24 i)) (i + 1) i (g 23 0 - 1 - i)))) = wC n ad cI cA (gq_take g i) := by
  refine wC_set 3 (by omega) ?_ (fun j hj hne => wCc_ne24 (fun k hk => ?_) j hne)
  · simp only [wCc]
    congr 5
    funext j
    simp only [gq_take, va_cpy, if_true]
    split <;> rfl
  · funext j
    by_cases h3 : k = 23 ∧ j = 0
    · simp [gq_take, cq_p, h3]
    · by_cases h4 : k = 23
      · have : ¬ j = 0 := fun h => h3 ⟨h4, h⟩
        simp [gq_take, cq_p, h4, this]
      · simp [gq_take, cq_p, hk, h4]
