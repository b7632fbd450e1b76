/-! All int arrays have one class. -/
theorem cq_one {D : va_G} {cl : List vw_C} {s : State} {tys : List (ClassId × FieldType)} {i j : Nat} {c1 c2 : ClassId} (h : va_K D cl tys s) (h1 : tys[i]? = some (c1, .int)) (h2 : tys[j]? = some (c2, .int)) : c1 = c2 := by
  have e1 : s.vm.findClass ("[" ++ FieldType.int.toString) = some c1 := (h.2 i _ h1).2
  have e2 : s.vm.findClass ("[" ++ FieldType.int.toString) = some c2 := (h.2 j _ h2).2
  exact Option.some.inj (e1.symm.trans e2)
