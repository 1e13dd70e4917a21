/-! ===== THE MACHINE FOLLOWS THE LITTLE MACHINE, part 5b: the law's code, checked by program ===== -/
theorem j_allc {α : Type} (f : α → Bool) (n : Nat) (l : List α) (h1 : (l.take n).all f = true) (h2 : (l.drop n).all f = true) : l.all f = true := by
  rw [← List.take_append_drop n l, List.all_append, h1, h2]
  rfl
def j_chF (k own : Nat) (e : Nat × Instr × List Nat) : Bool := j_dec (mB k) e.1 e.2.1 && j_okE k own e.1 e.2.1 e.2.2
set_option maxRecDepth 1000000 in
theorem j_chL_0 : ((k_236.drop 0).take 70).all (j_chF 236 8) = true := by decide +kernel
set_option maxRecDepth 1000000 in
theorem j_chL_70 : ((k_236.drop 70).take 70).all (j_chF 236 8) = true := by decide +kernel
set_option maxRecDepth 1000000 in
theorem j_chL_140 : ((k_236.drop 140).take 70).all (j_chF 236 8) = true := by decide +kernel
set_option maxRecDepth 1000000 in
theorem j_chL_210 : ((k_236.drop 210).take 70).all (j_chF 236 8) = true := by decide +kernel
set_option maxRecDepth 1000000 in
theorem j_chL_280 : ((k_236.drop 280).take 70).all (j_chF 236 8) = true := by decide +kernel
set_option maxRecDepth 1000000 in
theorem j_chL_350 : ((k_236.drop 350).take 70).all (j_chF 236 8) = true := by decide +kernel
set_option maxRecDepth 1000000 in
theorem j_chL_420 : ((k_236.drop 420).take 70).all (j_chF 236 8) = true := by decide +kernel
set_option maxRecDepth 1000000 in
theorem j_chL_490 : ((k_236.drop 490).take 70).all (j_chF 236 8) = true := by decide +kernel
set_option maxRecDepth 1000000 in
theorem j_chL_560 : ((k_236.drop 560).take 70).all (j_chF 236 8) = true := by decide +kernel
set_option maxRecDepth 1000000 in
theorem j_chL_630 : ((k_236.drop 630).take 70).all (j_chF 236 8) = true := by decide +kernel
set_option maxRecDepth 1000000 in
theorem j_chL_700 : ((k_236.drop 700).take 70).all (j_chF 236 8) = true := by decide +kernel
set_option maxRecDepth 1000000 in
theorem j_chL_770 : (k_236.drop 770).all (j_chF 236 8) = true := by decide +kernel
