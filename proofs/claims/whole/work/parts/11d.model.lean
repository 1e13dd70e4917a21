/-! ===== the model: sizes, signs, how far, the cell beside ===== -/
section MODEL4
variable {L p d : Nat} {I : Nat → Nat → Int32} {J : Nat → Nat → Int64} {n w h N : Int} {f gr kd : Fl}
theorem n_abs {v : Int} (h1 : -1000 ≤ v) (h2 : v ≤ 1000) : j_run (d + 1) 130 [.int (j_k v)] (ST L p I J) = some (some (.int (j_k (p_abs v))), ST L p I J) := by
  rw [r_130, t_130_0]
  unfold p_abs
  by_cases z : v < 0
  · rw [if_neg (show ¬ 0 ≤ v by omega)]
    simp (disch := first | assumption | omega) only [k_add, k_sub, k_mul, k_lt, k_eq, k_lt0, k_0lt, k_eq0, k_nat, k_b0, k_b1, k_z1, k_z0, k_o1, k_o0, Int.reduceEq, Int.reduceLT, Int.reduceLE, Int.reduceAdd, Int.reduceMul, Int.reduceNeg, Bool.false_eq_true, or_true, true_or, or_false, false_or, and_true, true_and, and_false, false_and, not_true_eq_false, not_false_eq_true, ↓reduceIte, z_0, z_k, s_I, s_J, s_uI, s_uJ, z, k_neg]
  · rw [if_pos (show 0 ≤ v by omega)]
    simp (disch := first | assumption | omega) only [k_add, k_sub, k_mul, k_lt, k_eq, k_lt0, k_0lt, k_eq0, k_nat, k_b0, k_b1, k_z1, k_z0, k_o1, k_o0, Int.reduceEq, Int.reduceLT, Int.reduceLE, Int.reduceAdd, Int.reduceMul, Int.reduceNeg, Bool.false_eq_true, or_true, true_or, or_false, false_or, and_true, true_and, and_false, false_and, not_true_eq_false, not_false_eq_true, ↓reduceIte, z_0, z_k, s_I, s_J, s_uI, s_uJ, z]
theorem n_sgn {v : Int} (h1 : -1000 ≤ v) (h2 : v ≤ 1000) : j_run (d + 1) 184 [.int (j_k v)] (ST L p I J) = some (some (.int (j_k (p_sgn v))), ST L p I J) := by
  rw [r_184, t_184_0]
  unfold p_sgn
  simp (disch := first | assumption | omega) only [k_add, k_sub, k_mul, k_lt, k_eq, k_lt0, k_0lt, k_eq0, k_nat, k_b0, k_b1, k_z1, k_z0, k_o1, k_o0, Int.reduceEq, Int.reduceLT, Int.reduceLE, Int.reduceAdd, Int.reduceMul, Int.reduceNeg, Bool.false_eq_true, or_true, true_or, or_false, false_or, and_true, true_and, and_false, false_and, not_true_eq_false, not_false_eq_true, ↓reduceIte, z_0, z_k, s_I, s_J, s_uI, s_uJ]
  ((repeat' split) <;> first | rfl | (exfalso; omega))
theorem n_off (hw : I 87 10 = j_k w) (hC : okC w h N n gr kd) {x y : Int} (x1 : 0 ≤ x) (x2 : x < N) (y1 : 0 ≤ y) (y2 : y < N) : j_run (d + 2) 168 [.ref 87, .int (j_k x), .int (j_k y)] (ST L p I J) = some (some (.int (j_k (p_off w x y))), ST L p I J) := by
  obtain ⟨a1, a2, a3, a4, a5, a6, a7, a8, a9, a10, a11⟩ := bd_xy hC x1 x2
  obtain ⟨b1, b2, b3, b4, b5, b6, b7, b8, b9, b10, b11⟩ := bd_xy hC y1 y2
  have q1 := n_abs (L := L) (p := p) (d := d) (I := I) (J := J) (v := x % w - y % w) (by omega) (by omega)
  have q2 := n_abs (L := L) (p := p) (d := d) (I := I) (J := J) (v := x / w - y / w) (by omega) (by omega)
  have w0 : ¬ w = 0 := by omega
  have e1 : j_k x - j_k x / j_k w * j_k w = j_k (x % w) := k_modp x1 (by omega) (by omega) (by omega)
  have e2 : j_k y - j_k y / j_k w * j_k w = j_k (y % w) := k_modp y1 (by omega) (by omega) (by omega)
  have e3 : j_k x / j_k w = j_k (x / w) := k_divp x1 (by omega) (by omega) (by omega)
  have e4 : j_k y / j_k w = j_k (y / w) := k_divp y1 (by omega) (by omega) (by omega)
  have hz : ¬ j_k w = 0 := by rw [k_eq0 (by omega) (by omega)]; exact w0
  have hs : s_I (ST L p I J) 87 10 = j_k w := hw
  rw [r_168, t_168_0, c_oc_87, hs, if_neg hz, c_oc_87, if_neg hz, e1, e2, k_sub, jc1 q1, c_oc_87, hs, if_neg hz, c_oc_87, if_neg hz, e3, e4, k_sub, jc1 q2, k_add]
  rfl
end MODEL4
