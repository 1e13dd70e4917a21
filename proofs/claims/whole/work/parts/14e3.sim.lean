/-! ===== part 5c: the law, whole ===== -/
set_option maxRecDepth 1000000 in
theorem j_chk_236 : j_chk 236 8 = true := by
  show k_236.all (j_chF 236 8) = true
  refine j_allc _ 70 _ j_chL_0 ?_
  refine j_allc _ 70 _ j_chL_70 ?_
  rw [List.drop_drop]
  refine j_allc _ 70 _ j_chL_140 ?_
  rw [List.drop_drop]
  refine j_allc _ 70 _ j_chL_210 ?_
  rw [List.drop_drop]
  refine j_allc _ 70 _ j_chL_280 ?_
  rw [List.drop_drop]
  refine j_allc _ 70 _ j_chL_350 ?_
  rw [List.drop_drop]
  refine j_allc _ 70 _ j_chL_420 ?_
  rw [List.drop_drop]
  refine j_allc _ 70 _ j_chL_490 ?_
  rw [List.drop_drop]
  refine j_allc _ 70 _ j_chL_560 ?_
  rw [List.drop_drop]
  refine j_allc _ 70 _ j_chL_630 ?_
  rw [List.drop_drop]
  refine j_allc _ 70 _ j_chL_700 ?_
  rw [List.drop_drop]
  exact j_chL_770
