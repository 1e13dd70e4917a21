/-! ===== part 5c: the law, whole ===== -/
set_option maxRecDepth 1000000 in
theorem j_chk_137 : j_chk 137 8 = true := by
  show k_137.all (j_chF 137 8) = true
  refine j_allc _ 70 _ j_chL_0 ?_
  refine j_allc _ 70 _ j_chL_70 ?_
  rw [List.drop_drop]
  refine j_allc _ 70 _ j_chL_140 ?_
  rw [List.drop_drop]
  refine j_allc _ 70 _ j_chL_210 ?_
  rw [List.drop_drop]
  exact j_chL_280
