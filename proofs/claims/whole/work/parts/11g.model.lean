/-! ===== the model: whether one can go ===== -/
section MODEL7
variable {L p d : Nat} {I : Nat → Nat → Int32} {J : Nat → Nat → Int64} {n w h N b : Int} {f gr kd : Fl}
theorem n_can {q : Int} {gate : Bool} (q1 : 0 ≤ q) (q2 : q < 9) (hC : okC w h N n gr kd) (hn : I 87 13 = j_k n) (hgt : I 87 26 = j_z (gate = true)) (hk : ∀ k : Int, 0 ≤ k → k < n → I 95 k.toNat = j_k (kd k)) (hg : ∀ c : Int, 0 ≤ c → c < N → I 94 c.toNat = j_k (gr c)) (hf : iM1 I q n f) (ho : okF N n b f) {k c : Int} (k1 : 0 ≤ k) (k2 : k < n) (c1 : 0 ≤ c) (c2 : c < N) : j_run (d + 3) 180 [.ref 87, .int (j_k q), .int (j_k k), .int (j_k c)] (ST L p I J) = some (some (.int (j_z (p_can gr n kd f k c gate = true))), ST L p I J) := by
  obtain ⟨bN0, bN1, -⟩ := bd_N hC
  have n4 := hC.2.2.2.1
  have k4 : k < 4 := by omega
  have c3 : c < 30 := by omega
  have hv := hk k k1 k2
  have hr := hC.2.2.2.2.2 k k1 k2
  have gv := hg c c1 c2
  have gr1 := hC.2.2.2.2.1 c c1 c2
  have qw := n_who (L := L) (p := p) (d := d) (I := I) (J := J) (c := c) (but := k) q1 q2 hn hC.2.2.1 n4 hf ho bN1 (by omega) (by omega) (by omega) (by omega)
  have wr := first_rg (P := fun j => decide (j ≠ k ∧ f (5 + j) = c)) n.toNat 0
  have wr' : p_who n f c k = -9 ∨ (0 ≤ p_who n f c k ∧ p_who n f c k < 0 + (n.toNat : Int)) := wr
  rw [r_180, t_180_0]
  unfold p_can
  by_cases x : gr c = 1
  · have e : j_z (decide (gr c ≠ 1 ∧ p_who n f c k = -9 ∧ ¬ (gr c = 4 ∧ (kd k = 4 ∨ gate = true))) = true) = j_k 0 := if_neg (by rw [decide_eq_true_iff]; exact fun u => u.1 x)
    rw [e]
    simp (disch := first | assumption | omega) only [k_add, k_sub, k_mul, k_lt, k_eq, k_lt0, k_0lt, k_eq0, k_nat, k_b0, k_b1, k_z1, k_z0, k_o1, k_o0, Int.reduceEq, Int.reduceLT, Int.reduceLE, Int.reduceAdd, Int.reduceMul, Int.reduceNeg, Bool.false_eq_true, or_true, true_or, or_false, false_or, and_true, true_and, and_false, false_and, not_true_eq_false, not_false_eq_true, ↓reduceIte, z_0, z_k, s_I, s_J, s_uI, s_uJ, ↓c_gP_87_12, ↓c_ia_94, gv, x]
  · by_cases y : p_who n f c k = -9
    · rw [y] at qw
      by_cases z : gr c = 4
      · by_cases v : kd k = 4
        · have e : j_z (decide (gr c ≠ 1 ∧ p_who n f c k = -9 ∧ ¬ (gr c = 4 ∧ (kd k = 4 ∨ gate = true))) = true) = j_k 0 := if_neg (by rw [decide_eq_true_iff]; exact fun u => u.2.2 ⟨z, Or.inl v⟩)
          rw [e]
          simp (disch := first | assumption | omega) only [k_add, k_sub, k_mul, k_lt, k_eq, k_lt0, k_0lt, k_eq0, k_nat, k_b0, k_b1, k_z1, k_z0, k_o1, k_o0, Int.reduceEq, Int.reduceLT, Int.reduceLE, Int.reduceAdd, Int.reduceMul, Int.reduceNeg, Bool.false_eq_true, or_true, true_or, or_false, false_or, and_true, true_and, and_false, false_and, not_true_eq_false, not_false_eq_true, ↓reduceIte, z_0, z_k, s_I, s_J, s_uI, s_uJ, ↓c_gP_87_12, ↓c_ia_94, gv, x, ↓c_oc_87, ↓jc1 qw, z, ↓c_gP_87_14, ↓c_ia_95, hv, v]
        · by_cases u : gate = true
          · have e : j_z (decide (gr c ≠ 1 ∧ p_who n f c k = -9 ∧ ¬ (gr c = 4 ∧ (kd k = 4 ∨ gate = true))) = true) = j_k 0 := if_neg (by rw [decide_eq_true_iff]; exact fun t => t.2.2 ⟨z, Or.inr u⟩)
            have g1 : j_z (gate = true) = j_k 1 := if_pos u
            rw [g1] at hgt
            rw [e]
            simp (disch := first | assumption | omega) only [k_add, k_sub, k_mul, k_lt, k_eq, k_lt0, k_0lt, k_eq0, k_nat, k_b0, k_b1, k_z1, k_z0, k_o1, k_o0, Int.reduceEq, Int.reduceLT, Int.reduceLE, Int.reduceAdd, Int.reduceMul, Int.reduceNeg, Bool.false_eq_true, or_true, true_or, or_false, false_or, and_true, true_and, and_false, false_and, not_true_eq_false, not_false_eq_true, ↓reduceIte, z_0, z_k, s_I, s_J, s_uI, s_uJ, ↓c_gP_87_12, ↓c_ia_94, gv, x, ↓c_oc_87, ↓jc1 qw, z, ↓c_gP_87_14, ↓c_ia_95, hv, v, hgt]
          · have e : j_z (decide (gr c ≠ 1 ∧ p_who n f c k = -9 ∧ ¬ (gr c = 4 ∧ (kd k = 4 ∨ gate = true))) = true) = j_k 1 := if_pos (decide_eq_true ⟨x, y, fun t => t.2.elim v u⟩)
            have g1 : j_z (gate = true) = j_k 0 := if_neg u
            rw [g1] at hgt
            rw [e]
            simp (disch := first | assumption | omega) only [k_add, k_sub, k_mul, k_lt, k_eq, k_lt0, k_0lt, k_eq0, k_nat, k_b0, k_b1, k_z1, k_z0, k_o1, k_o0, Int.reduceEq, Int.reduceLT, Int.reduceLE, Int.reduceAdd, Int.reduceMul, Int.reduceNeg, Bool.false_eq_true, or_true, true_or, or_false, false_or, and_true, true_and, and_false, false_and, not_true_eq_false, not_false_eq_true, ↓reduceIte, z_0, z_k, s_I, s_J, s_uI, s_uJ, ↓c_gP_87_12, ↓c_ia_94, gv, x, ↓c_oc_87, ↓jc1 qw, z, ↓c_gP_87_14, ↓c_ia_95, hv, v, hgt]
      · have e : j_z (decide (gr c ≠ 1 ∧ p_who n f c k = -9 ∧ ¬ (gr c = 4 ∧ (kd k = 4 ∨ gate = true))) = true) = j_k 1 := if_pos (decide_eq_true ⟨x, y, fun t => z t.1⟩)
        rw [e]
        simp (disch := first | assumption | omega) only [k_add, k_sub, k_mul, k_lt, k_eq, k_lt0, k_0lt, k_eq0, k_nat, k_b0, k_b1, k_z1, k_z0, k_o1, k_o0, Int.reduceEq, Int.reduceLT, Int.reduceLE, Int.reduceAdd, Int.reduceMul, Int.reduceNeg, Bool.false_eq_true, or_true, true_or, or_false, false_or, and_true, true_and, and_false, false_and, not_true_eq_false, not_false_eq_true, ↓reduceIte, z_0, z_k, s_I, s_J, s_uI, s_uJ, ↓c_gP_87_12, ↓c_ia_94, gv, x, ↓c_oc_87, ↓jc1 qw, z]
    · have e : j_z (decide (gr c ≠ 1 ∧ p_who n f c k = -9 ∧ ¬ (gr c = 4 ∧ (kd k = 4 ∨ gate = true))) = true) = j_k 0 := if_neg (by rw [decide_eq_true_iff]; exact fun u => y u.2.1)
      rw [e]
      simp (disch := first | assumption | omega) only [k_add, k_sub, k_mul, k_lt, k_eq, k_lt0, k_0lt, k_eq0, k_nat, k_b0, k_b1, k_z1, k_z0, k_o1, k_o0, Int.reduceEq, Int.reduceLT, Int.reduceLE, Int.reduceAdd, Int.reduceMul, Int.reduceNeg, Bool.false_eq_true, or_true, true_or, or_false, false_or, and_true, true_and, and_false, false_and, not_true_eq_false, not_false_eq_true, ↓reduceIte, z_0, z_k, s_I, s_J, s_uI, s_uJ, ↓c_gP_87_12, ↓c_ia_94, gv, x, ↓c_oc_87, ↓jc1 qw, y]
end MODEL7
