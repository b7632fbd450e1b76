/-! All int arrays have one class. -/
theorem cq_one {D : va_G} {cl : List vw_C} {s : State} {tys : List (ClassId × FieldType)} {i j : Nat} {c1 c2 : ClassId} (h : va_K D cl tys s) (h1 : tys[i]? = some (c1, .int)) (h2 : tys[j]? = some (c2, .int)) : c1 = c2 := by
  have e1 : s.vm.findClass ("[" ++ FieldType.int.toString) = some c1 := (h.2 i _ h1).2
  have e2 : s.vm.findClass ("[" ++ FieldType.int.toString) = some c2 := (h.2 j _ h2).2
  exact Option.some.inj (e1.symm.trans e2)
theorem cq_clamp_mm (x : Int32) : (if (3 : Int32) < (if x < 5 then x else 5) then (if x < 5 then x else 5) else 3) = cq_clamp x := by
  have h3 : (3 : Int32).toInt = 3 := by decide
  have h5 : (5 : Int32).toInt = 5 := by decide
  unfold cq_clamp
  by_cases a : x < 5
  · rw [if_pos a]
    have a' := Int32.lt_iff_toInt_lt.mp a
    have a2 : x ≤ 5 := Int32.le_iff_toInt_le.mpr (by omega)
    by_cases b : (3 : Int32) < x
    · have b' := Int32.lt_iff_toInt_lt.mp b
      rw [if_pos b, if_neg (fun h => by have := Int32.lt_iff_toInt_lt.mp h; omega), if_pos a2]
    · rw [if_neg b]
      by_cases d : x < 3
      · rw [if_pos d]
      · rw [if_neg d, if_pos a2]
        apply Int32.toInt_inj.mp
        have b' : ¬ (3 : Int32).toInt < x.toInt := fun h => b (Int32.lt_iff_toInt_lt.mpr h)
        have d' : ¬ x.toInt < (3 : Int32).toInt := fun h => d (Int32.lt_iff_toInt_lt.mpr h)
        omega
  · have a' : ¬ x.toInt < (5 : Int32).toInt := fun h => a (Int32.lt_iff_toInt_lt.mpr h)
    rw [if_neg a, if_pos (by decide), if_neg (fun h => by have := Int32.lt_iff_toInt_lt.mp h; omega)]
    by_cases d : x ≤ 5
    · rw [if_pos d]
      have d' := Int32.le_iff_toInt_le.mp d
      apply Int32.toInt_inj.mp
      omega
    · rw [if_neg d]
