/-! ===== THE MACHINE FOLLOWS THE LITTLE MACHINE, part 5b: the law's code, checked by program ===== -/
theorem j_allc {α : Type} (f : α → Bool) (n : Nat) (l : List α) (h1 : (l.take n).all f = true) (h2 : (l.drop n).all f = true) : l.all f = true := by
  rw [← List.take_append_drop n l, List.all_append, h1, h2]
  rfl
def j_chF (k own : Nat) (e : Nat × Instr × List Nat) : Bool := j_dec (mB k) e.1 e.2.1 && j_okE k own e.1 e.2.1 e.2.2
set_option maxRecDepth 1000000 in
theorem j_chL_0 : ((k_137.drop 0).take 70).all (j_chF 137 8) = true := by decide +kernel
set_option maxRecDepth 1000000 in
theorem j_chL_70 : ((k_137.drop 70).take 70).all (j_chF 137 8) = true := by decide +kernel
set_option maxRecDepth 1000000 in
theorem j_chL_140 : ((k_137.drop 140).take 70).all (j_chF 137 8) = true := by decide +kernel
set_option maxRecDepth 1000000 in
theorem j_chL_210 : ((k_137.drop 210).take 70).all (j_chF 137 8) = true := by decide +kernel
set_option maxRecDepth 1000000 in
theorem j_chL_280 : (k_137.drop 280).all (j_chF 137 8) = true := by decide +kernel
