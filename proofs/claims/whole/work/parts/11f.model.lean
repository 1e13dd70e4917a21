/-! ===== the model: kinds, aims, whether one can go ===== -/
section MODEL6
variable {L p d : Nat} {I : Nat → Nat → Int32} {J : Nat → Nat → Int64} {n w h N b : Int} {f gr kd : Fl}
theorem n_shy (hC : okC w h N n gr kd) (hk : ∀ k : Int, 0 ≤ k → k < n → I 95 k.toNat = j_k (kd k)) {k : Int} (k1 : 0 ≤ k) (k2 : k < n) : j_run (d + 1) 173 [.ref 87, .int (j_k k)] (ST L p I J) = some (some (.int (j_z (p_shy kd k = true))), ST L p I J) := by
  have n4 := hC.2.2.2.1
  have k4 : k < 4 := by omega
  have hv := hk k k1 k2
  have hr := hC.2.2.2.2.2 k k1 k2
  rw [r_173, t_173_0]
  unfold p_shy j_z
  simp (disch := first | assumption | omega) only [k_add, k_sub, k_mul, k_lt, k_eq, k_lt0, k_0lt, k_eq0, k_nat, k_b0, k_b1, k_z1, k_z0, k_o1, k_o0, Int.reduceEq, Int.reduceLT, Int.reduceLE, Int.reduceAdd, Int.reduceMul, Int.reduceNeg, Bool.false_eq_true, or_true, true_or, or_false, false_or, and_true, true_and, and_false, false_and, not_true_eq_false, not_false_eq_true, ↓reduceIte, z_0, z_k, s_I, s_J, s_uI, s_uJ, c_gP_87_14, c_ia_95, hv, decide_eq_true_iff]
  ((repeat' split) <;> first | rfl | (exfalso; omega))
theorem n_slow (hC : okC w h N n gr kd) (hk : ∀ k : Int, 0 ≤ k → k < n → I 95 k.toNat = j_k (kd k)) {k : Int} (k1 : 0 ≤ k) (k2 : k < n) : j_run (d + 1) 174 [.ref 87, .int (j_k k)] (ST L p I J) = some (some (.int (j_z (p_slow kd k = true))), ST L p I J) := by
  have n4 := hC.2.2.2.1
  have k4 : k < 4 := by omega
  have hv := hk k k1 k2
  have hr := hC.2.2.2.2.2 k k1 k2
  rw [r_174, t_174_0]
  unfold p_slow j_z
  simp (disch := first | assumption | omega) only [k_add, k_sub, k_mul, k_lt, k_eq, k_lt0, k_0lt, k_eq0, k_nat, k_b0, k_b1, k_z1, k_z0, k_o1, k_o0, Int.reduceEq, Int.reduceLT, Int.reduceLE, Int.reduceAdd, Int.reduceMul, Int.reduceNeg, Bool.false_eq_true, or_true, true_or, or_false, false_or, and_true, true_and, and_false, false_and, not_true_eq_false, not_false_eq_true, ↓reduceIte, z_0, z_k, s_I, s_J, s_uI, s_uJ, c_gP_87_14, c_ia_95, hv, decide_eq_true_iff]
  ((repeat' split) <;> first | rfl | (exfalso; omega))
theorem n_aim {q : Int} (q1 : 0 ≤ q) (q2 : q < 9) (hC : okC w h N n gr kd) (hk : ∀ k : Int, 0 ≤ k → k < n → I 95 k.toNat = j_k (kd k)) (hf : iM1 I q n f) (ho : okF N n b f) {k : Int} (k1 : 0 ≤ k) (k2 : k < n) : j_run (d + 2) 175 [.ref 87, .int (j_k q), .int (j_k k)] (ST L p I J) = some (some (.int (j_k (p_aim kd f k))), ST L p I J) := by
  obtain ⟨bN0, bN1, -⟩ := bd_N hC
  have n4 := hC.2.2.2.1
  have k4 : k < 4 := by omega
  have hv := hk k k1 k2
  have hr := hC.2.2.2.2.2 k k1 k2
  have h4 := ho.2.2.2.1
  have e4 := n_v (L := L) (p := p) (d := d) (I := I) (J := J) q1 q2 (show (0 : Int) ≤ 4 by decide) (show (4 : Int) < 13 by decide)
  have e2 := n_v (L := L) (p := p) (d := d) (I := I) (J := J) q1 q2 (show (0 : Int) ≤ 2 by decide) (show (2 : Int) < 13 by decide)
  rw [hf.1 4 (by decide) (by decide)] at e4
  rw [hf.1 2 (by decide) (by decide)] at e2
  rw [r_175, t_175_0]
  unfold p_aim
  by_cases x : kd k = 3
  · by_cases y : f 4 = -9
    · rw [if_neg (fun u => u.2 y)]
      simp (disch := first | assumption | omega) only [k_add, k_sub, k_mul, k_lt, k_eq, k_lt0, k_0lt, k_eq0, k_nat, k_b0, k_b1, k_z1, k_z0, k_o1, k_o0, Int.reduceEq, Int.reduceLT, Int.reduceLE, Int.reduceAdd, Int.reduceMul, Int.reduceNeg, Bool.false_eq_true, or_true, true_or, or_false, false_or, and_true, true_and, and_false, false_and, not_true_eq_false, not_false_eq_true, ↓reduceIte, z_0, z_k, s_I, s_J, s_uI, s_uJ, ↓c_gP_87_14, ↓c_ia_95, hv, x, ↓c_oc_87, ↓jc1 e4, y, ↓jc1 e2]
    · rw [if_pos ⟨x, y⟩]
      simp (disch := first | assumption | omega) only [k_add, k_sub, k_mul, k_lt, k_eq, k_lt0, k_0lt, k_eq0, k_nat, k_b0, k_b1, k_z1, k_z0, k_o1, k_o0, Int.reduceEq, Int.reduceLT, Int.reduceLE, Int.reduceAdd, Int.reduceMul, Int.reduceNeg, Bool.false_eq_true, or_true, true_or, or_false, false_or, and_true, true_and, and_false, false_and, not_true_eq_false, not_false_eq_true, ↓reduceIte, z_0, z_k, s_I, s_J, s_uI, s_uJ, ↓c_gP_87_14, ↓c_ia_95, hv, x, ↓c_oc_87, ↓jc1 e4, y]
  · rw [if_neg (fun u => x u.1)]
    simp (disch := first | assumption | omega) only [k_add, k_sub, k_mul, k_lt, k_eq, k_lt0, k_0lt, k_eq0, k_nat, k_b0, k_b1, k_z1, k_z0, k_o1, k_o0, Int.reduceEq, Int.reduceLT, Int.reduceLE, Int.reduceAdd, Int.reduceMul, Int.reduceNeg, Bool.false_eq_true, or_true, true_or, or_false, false_or, and_true, true_and, and_false, false_and, not_true_eq_false, not_false_eq_true, ↓reduceIte, z_0, z_k, s_I, s_J, s_uI, s_uJ, ↓c_gP_87_14, ↓c_ia_95, hv, x, ↓c_oc_87, ↓jc1 e2]
end MODEL6
