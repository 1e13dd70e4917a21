/-! ===== the model: who is in a cell, how far ===== -/
section MODEL3
variable {L p d : Nat} {I : Nat → Nat → Int32} {J : Nat → Nat → Int64} {n w h N : Int} {f gr kd : Fl}
theorem n_who {k c but b : Int} (k1 : 0 ≤ k) (k2 : k < 9) (hn : I 87 13 = j_k n) (n1 : 0 ≤ n) (n4 : n ≤ 4) (hf : iM1 I k n f) (ho : okF N n b f) (hN : N ≤ 30) (c1 : -9 ≤ c) (c2 : c < 30) (b1 : -9 ≤ but) (b2 : but < 10) : j_run (d + 2) 167 [.ref 87, .int (j_k k), .int (j_k c), .int (j_k but)] (ST L p I J) = some (some (.int (j_k (p_who n f c but))), ST L p I J) := by
  have loop : ∀ (t M : Nat) (i : Int), 0 ≤ i → i + t = n → t < M → j_exec k_167 h_167 (j_run (d + 1)) M 3 [some (.ref 87), some (.int (j_k k)), some (.int (j_k c)), some (.int (j_k but)), some (.int (j_k i))] [] (ST L p I J) = some (some (.int (j_k (p_first (fun k => decide (k ≠ but ∧ f (5 + k) = c)) t i))), ST L p I J) := by
    intro t
    induction t with
    | zero =>
      intro M i i1 i2 hM
      obtain ⟨M, rfl⟩ : ∃ q, M = q + 1 := ⟨M - 1, by omega⟩
      have z : ¬ i < n := by omega
      rw [x_exec, t_167_3]
      simp (disch := first | assumption | omega) only [k_add, k_sub, k_mul, k_lt, k_eq, k_lt0, k_0lt, k_eq0, k_nat, k_b0, k_b1, k_z1, k_z0, k_o1, k_o0, Int.reduceEq, Int.reduceLT, Int.reduceLE, Int.reduceAdd, Int.reduceMul, Int.reduceNeg, Bool.false_eq_true, or_true, true_or, or_false, false_or, and_true, true_and, and_false, false_and, not_true_eq_false, not_false_eq_true, ↓reduceIte, z_0, z_k, s_I, s_J, s_uI, s_uJ, ↓c_oc_87, hn, z]
      rfl
    | succ t ih =>
      intro M i i1 i2 hM
      obtain ⟨M, rfl⟩ : ∃ q, M = q + 1 := ⟨M - 1, by omega⟩
      have z : i < n := by omega
      have q := n_v (L := L) (p := p) (d := d) (I := I) (J := J) k1 k2 (show 0 ≤ 5 + i by omega) (show 5 + i < 13 by omega)
      rw [hf.2.1 i i1 z] at q
      have hc := ho.1 i i1 z
      rw [x_exec, t_167_3, p_firstS]
      by_cases x : i = but
      · rw [decide_eq_false (fun u => u.1 x), if_neg (show ¬ (false = true) from Bool.false_ne_true)]
        simp (disch := first | assumption | omega) only [k_add, k_sub, k_mul, k_lt, k_eq, k_lt0, k_0lt, k_eq0, k_nat, k_b0, k_b1, k_z1, k_z0, k_o1, k_o0, Int.reduceEq, Int.reduceLT, Int.reduceLE, Int.reduceAdd, Int.reduceMul, Int.reduceNeg, Bool.false_eq_true, or_true, true_or, or_false, false_or, and_true, true_and, and_false, false_and, not_true_eq_false, not_false_eq_true, ↓reduceIte, z_0, z_k, s_I, s_J, s_uI, s_uJ, ↓c_oc_87, hn, z]
        rw [if_pos x]
        exact ih M (i + 1) (by omega) (by omega) (by omega)
      · by_cases y : f (5 + i) = c
        · rw [decide_eq_true ⟨x, y⟩, if_pos (show true = true from rfl)]
          simp (disch := first | assumption | omega) only [k_add, k_sub, k_mul, k_lt, k_eq, k_lt0, k_0lt, k_eq0, k_nat, k_b0, k_b1, k_z1, k_z0, k_o1, k_o0, Int.reduceEq, Int.reduceLT, Int.reduceLE, Int.reduceAdd, Int.reduceMul, Int.reduceNeg, Bool.false_eq_true, or_true, true_or, or_false, false_or, and_true, true_and, and_false, false_and, not_true_eq_false, not_false_eq_true, ↓reduceIte, z_0, z_k, s_I, s_J, s_uI, s_uJ, c_oc_87, hn, z, x, jc1 q, y]
        · rw [decide_eq_false (fun u => y u.2), if_neg (show ¬ (false = true) from Bool.false_ne_true)]
          simp (disch := first | assumption | omega) only [k_add, k_sub, k_mul, k_lt, k_eq, k_lt0, k_0lt, k_eq0, k_nat, k_b0, k_b1, k_z1, k_z0, k_o1, k_o0, Int.reduceEq, Int.reduceLT, Int.reduceLE, Int.reduceAdd, Int.reduceMul, Int.reduceNeg, Bool.false_eq_true, or_true, true_or, or_false, false_or, and_true, true_and, and_false, false_and, not_true_eq_false, not_false_eq_true, ↓reduceIte, z_0, z_k, s_I, s_J, s_uI, s_uJ, c_oc_87, hn, z, x, jc1 q, y]
          exact ih M (i + 1) (by omega) (by omega) (by omega)
  rw [r_167, t_167_0]
  exact loop n.toNat 999999 0 (Int.le_refl 0) (by omega) (by omega)
end MODEL3
