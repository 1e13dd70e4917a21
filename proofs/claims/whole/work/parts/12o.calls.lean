/-! ===== the model's calls: count, digest ===== -/
theorem loop_id {α : Type} {b : Int → α → α} {n : Int} (hb : ∀ k s, 0 ≤ k → k < n → b k s = s) : ∀ (m : Nat) (k : Int) (s : α), 0 ≤ k → k + m = n → p_loop b m k s = s
  | 0, k, s, _, _ => rfl
  | m + 1, k, s, k1, k2 => by
    rw [p_loopS, hb k s k1 (by omega)]
    exact loop_id hb m (k + 1) s (by omega) (by omega)
theorem l_31 : j_cJ 7 = j_cJ 2 := rfl
theorem l_17 : j_cJ 6 = j_cJ 1 := rfl
theorem l_m1 : j_cJ 8 = (j_k (-1)).toInt64 := by decide
theorem u2_uu {α : Type} {f : Nat → Nat → α} {r k : Nat} {v w : α} : u2 (u2 f r k v) r k w = u2 f r k w := by
  funext a b
  by_cases a0 : a = r
  · subst a0
    by_cases b0 : b = k
    · subst b0
      rw [u2_ss, u2_ss]
    · rw [u2_k b0, u2_k b0, u2_k b0]
  · rw [u2_r a0, u2_r a0, u2_r a0]
section MCALLS9
variable {L p d : Nat} {I : Nat → Nat → Int32} {J : Nat → Nat → Int64} {A : Ast}
theorem iM.hash (hx : iM I J A) {h : Int64} : iM I (u2 J 87 38 h) A := by
  have hM := hx.2.2.2.2.2.2
  exact hx.keep .rf (told := a_told A) (up := a_up A) (low := a_low A) (fin := a_fin A) (cnt := a_cnt A) ⟨hM.1, by rw [u2_k (by decide)]; exact hM.2.1, by rw [u2_k (by decide)]; exact hM.2.2.1, hM.2.2.2.1, hM.2.2.2.2⟩
theorem n_counted (hx : iM I J A) {q : Int} (q1 : 0 ≤ q) (q2 : q ≤ 7) : j_run (d + 4) 229 [.ref 87, .int (j_k q)] (ST L p I J) = some (some (.int (j_k (p_countV q A))), ST L p I J) := by
  have hC := hx.1.1
  have ho := hx.1.2.1
  have hm := hx.2.2.2.1
  have hf := hx.2.2.2.2.1
  have n0 := hC.2.2.1
  have n4 := hC.2.2.2.1
  have hw := hm.2.1
  have hN := hm.2.2.1
  have hn := hm.2.2.2.1
  have hk := hm.2.2.2.2.1
  have hg := hm.2.2.2.2.2
  obtain ⟨bN0, bN1, -⟩ := bd_N hC
  have l1 : ∀ (t M : Nat) (k s : Int), 0 ≤ k → k + t = a_gn A → j_exec k_229 h_229 (j_run (d + 3)) (M + t + 1) 4 [some (.ref 87), some (.int (j_k q)), some (.int (j_k s)), some (.int (j_k k))] [] (ST L p I J) = j_exec k_229 h_229 (j_run (d + 3)) M 41 [some (.ref 87), some (.int (j_k q)), some (.int (j_k (p_loop (fun k s => if q = 4 ∧ p_shy (a_kd A) k = true then s + 1 else s) t k s))), some (.int (j_k 0))] [] (ST L p I J) := by
    intro t
    induction t with
    | zero =>
      intro M k s k1 k2
      have z : ¬ k < a_gn A := by omega
      rw [x_exec, t_229_4]
      simp (disch := first | assumption | omega) only [k_add, k_sub, k_mul, k_lt, k_eq, k_lt0, k_0lt, k_eq0, k_nat, k_b0, k_b1, k_z1, k_z0, k_o1, k_o0, Int.reduceEq, Int.reduceLT, Int.reduceLE, Int.reduceAdd, Int.reduceMul, Int.reduceNeg, Bool.false_eq_true, or_true, true_or, or_false, false_or, and_true, true_and, and_false, false_and, not_true_eq_false, not_false_eq_true, ↓reduceIte, z_0, z_k, s_I, s_J, s_uI, s_uJ, ↓c_oc_87, hn, z]
      rfl
    | succ t ih =>
      intro M k s k1 k2
      have z : k < a_gn A := by omega
      rw [show M + (t + 1) + 1 = (M + t + 1) + 1 by omega, x_exec, t_229_4, p_loopS]
      by_cases y : q = 4
      · have b1 := n_shy (L := L) (p := p) (d := d + 2) (J := J) hC hk k1 z
        by_cases x : p_shy (a_kd A) k = true
        · rw [show j_z (p_shy (a_kd A) k = true) = j_k 1 from if_pos x] at b1
          have E : (if q = 4 ∧ p_shy (a_kd A) k = true then s + 1 else s) = s + 1 := if_pos ⟨y, x⟩
          rw [E, ← ih M (k + 1) (s + 1) (by omega) (by omega)]
          simp (disch := first | assumption | omega) only [k_add, k_sub, k_mul, k_lt, k_eq, k_lt0, k_0lt, k_eq0, k_nat, k_b0, k_b1, k_z1, k_z0, k_o1, k_o0, Int.reduceEq, Int.reduceLT, Int.reduceLE, Int.reduceAdd, Int.reduceMul, Int.reduceNeg, Bool.false_eq_true, or_true, true_or, or_false, false_or, and_true, true_and, and_false, false_and, not_true_eq_false, not_false_eq_true, ↓reduceIte, z_0, z_k, s_I, s_J, s_uI, s_uJ, ↓c_oc_87, hn, z, y, ↓jc1 b1]
        · rw [show j_z (p_shy (a_kd A) k = true) = j_k 0 from if_neg x] at b1
          have E : (if q = 4 ∧ p_shy (a_kd A) k = true then s + 1 else s) = s := if_neg (fun u => x u.2)
          rw [E, ← ih M (k + 1) s (by omega) (by omega)]
          simp (disch := first | assumption | omega) only [k_add, k_sub, k_mul, k_lt, k_eq, k_lt0, k_0lt, k_eq0, k_nat, k_b0, k_b1, k_z1, k_z0, k_o1, k_o0, Int.reduceEq, Int.reduceLT, Int.reduceLE, Int.reduceAdd, Int.reduceMul, Int.reduceNeg, Bool.false_eq_true, or_true, true_or, or_false, false_or, and_true, true_and, and_false, false_and, not_true_eq_false, not_false_eq_true, ↓reduceIte, z_0, z_k, s_I, s_J, s_uI, s_uJ, ↓c_oc_87, hn, z, y, ↓jc1 b1]
          rw [Int.add_zero]
      · have E : (if q = 4 ∧ p_shy (a_kd A) k = true then s + 1 else s) = s := if_neg (fun u => y u.1)
        rw [E, ← ih M (k + 1) s (by omega) (by omega)]
        simp (disch := first | assumption | omega) only [k_add, k_sub, k_mul, k_lt, k_eq, k_lt0, k_0lt, k_eq0, k_nat, k_b0, k_b1, k_z1, k_z0, k_o1, k_o0, Int.reduceEq, Int.reduceLT, Int.reduceLE, Int.reduceAdd, Int.reduceMul, Int.reduceNeg, Bool.false_eq_true, or_true, true_or, or_false, false_or, and_true, true_and, and_false, false_and, not_true_eq_false, not_false_eq_true, ↓reduceIte, z_0, z_k, s_I, s_J, s_uI, s_uJ, ↓c_oc_87, hn, z, y]
        rw [Int.add_zero]
  have l2 : ∀ (t M : Nat) (k s : Int), 0 ≤ k → k + t = 3 → j_exec k_229 h_229 (j_run (d + 3)) (M + t + 1) 41 [some (.ref 87), some (.int (j_k q)), some (.int (j_k s)), some (.int (j_k k))] [] (ST L p I J) = j_exec k_229 h_229 (j_run (d + 3)) M 76 [some (.ref 87), some (.int (j_k q)), some (.int (j_k (p_loop (fun k s => if q = 5 ∧ a_kp A k = true then s + 1 else s) t k s))), some (.int (j_k 0))] [] (ST L p I J) := by
    intro t
    induction t with
    | zero =>
      intro M k s k1 k2
      have z : ¬ k < 3 := by omega
      rw [x_exec, t_229_41]
      simp (disch := first | assumption | omega) only [k_add, k_sub, k_mul, k_lt, k_eq, k_lt0, k_0lt, k_eq0, k_nat, k_b0, k_b1, k_z1, k_z0, k_o1, k_o0, Int.reduceEq, Int.reduceLT, Int.reduceLE, Int.reduceAdd, Int.reduceMul, Int.reduceNeg, Bool.false_eq_true, or_true, true_or, or_false, false_or, and_true, true_and, and_false, false_and, not_true_eq_false, not_false_eq_true, ↓reduceIte, z_0, z_k, s_I, s_J, s_uI, s_uJ, z]
      rfl
    | succ t ih =>
      intro M k s k1 k2
      have z : k < 3 := by omega
      rw [show M + (t + 1) + 1 = (M + t + 1) + 1 by omega, x_exec, t_229_41, p_loopS]
      by_cases y : q = 5
      · have b1 := (hx.2.2.2.2.2.1 k k1 z).1
        by_cases x : a_kp A k = true
        · rw [show j_z (a_kp A k = true) = j_k 1 from if_pos x] at b1
          have E : (if q = 5 ∧ a_kp A k = true then s + 1 else s) = s + 1 := if_pos ⟨y, x⟩
          rw [E, ← ih M (k + 1) (s + 1) (by omega) (by omega)]
          simp (disch := first | assumption | omega) only [k_add, k_sub, k_mul, k_lt, k_eq, k_lt0, k_0lt, k_eq0, k_nat, k_b0, k_b1, k_z1, k_z0, k_o1, k_o0, Int.reduceEq, Int.reduceLT, Int.reduceLE, Int.reduceAdd, Int.reduceMul, Int.reduceNeg, Bool.false_eq_true, or_true, true_or, or_false, false_or, and_true, true_and, and_false, false_and, not_true_eq_false, not_false_eq_true, ↓reduceIte, z_0, z_k, s_I, s_J, s_uI, s_uJ, z, y, ↓c_gP_87_25, ↓c_ba_100, b1]
        · rw [show j_z (a_kp A k = true) = j_k 0 from if_neg x] at b1
          have E : (if q = 5 ∧ a_kp A k = true then s + 1 else s) = s := if_neg (fun u => x u.2)
          rw [E, ← ih M (k + 1) s (by omega) (by omega)]
          simp (disch := first | assumption | omega) only [k_add, k_sub, k_mul, k_lt, k_eq, k_lt0, k_0lt, k_eq0, k_nat, k_b0, k_b1, k_z1, k_z0, k_o1, k_o0, Int.reduceEq, Int.reduceLT, Int.reduceLE, Int.reduceAdd, Int.reduceMul, Int.reduceNeg, Bool.false_eq_true, or_true, true_or, or_false, false_or, and_true, true_and, and_false, false_and, not_true_eq_false, not_false_eq_true, ↓reduceIte, z_0, z_k, s_I, s_J, s_uI, s_uJ, z, y, ↓c_gP_87_25, ↓c_ba_100, b1]
          rw [Int.add_zero]
      · have E : (if q = 5 ∧ a_kp A k = true then s + 1 else s) = s := if_neg (fun u => y u.1)
        rw [E, ← ih M (k + 1) s (by omega) (by omega)]
        simp (disch := first | assumption | omega) only [k_add, k_sub, k_mul, k_lt, k_eq, k_lt0, k_0lt, k_eq0, k_nat, k_b0, k_b1, k_z1, k_z0, k_o1, k_o0, Int.reduceEq, Int.reduceLT, Int.reduceLE, Int.reduceAdd, Int.reduceMul, Int.reduceNeg, Bool.false_eq_true, or_true, true_or, or_false, false_or, and_true, true_and, and_false, false_and, not_true_eq_false, not_false_eq_true, ↓reduceIte, z_0, z_k, s_I, s_J, s_uI, s_uJ, z, y]
        rw [Int.add_zero]
  have l3 : ∀ (t M : Nat) (k s : Int), 0 ≤ k → k + t = 6 → j_exec k_229 h_229 (j_run (d + 3)) (M + t + 1) 76 [some (.ref 87), some (.int (j_k q)), some (.int (j_k s)), some (.int (j_k k))] [] (ST L p I J) = j_exec k_229 h_229 (j_run (d + 3)) M 113 [some (.ref 87), some (.int (j_k q)), some (.int (j_k (p_loop (fun k s => if q = 6 ∧ a_rz A k ≠ -1 then s + 1 else s) t k s))), some (.int (j_k 0))] [] (ST L p I J) := by
    intro t
    induction t with
    | zero =>
      intro M k s k1 k2
      have z : ¬ k < 6 := by omega
      rw [x_exec, t_229_76]
      simp (disch := first | assumption | omega) only [k_add, k_sub, k_mul, k_lt, k_eq, k_lt0, k_0lt, k_eq0, k_nat, k_b0, k_b1, k_z1, k_z0, k_o1, k_o0, Int.reduceEq, Int.reduceLT, Int.reduceLE, Int.reduceAdd, Int.reduceMul, Int.reduceNeg, Bool.false_eq_true, or_true, true_or, or_false, false_or, and_true, true_and, and_false, false_and, not_true_eq_false, not_false_eq_true, ↓reduceIte, z_0, z_k, s_I, s_J, s_uI, s_uJ, z]
      rfl
    | succ t ih =>
      intro M k s k1 k2
      have z : k < 6 := by omega
      rw [show M + (t + 1) + 1 = (M + t + 1) + 1 by omega, x_exec, t_229_76, p_loopS]
      by_cases y : q = 6
      · have b1 := (hx.2.1 k k1 z).1
        have br := hx.1.2.2.2.1 k k1 z
        have br1 := br.1
        have br2 := br.2
        by_cases x : a_rz A k = -1
        · have E : (if q = 6 ∧ a_rz A k ≠ -1 then s + 1 else s) = s := if_neg (fun u => u.2 x)
          rw [E, ← ih M (k + 1) s (by omega) (by omega)]
          simp (disch := first | assumption | omega) only [k_add, k_sub, k_mul, k_lt, k_eq, k_lt0, k_0lt, k_eq0, k_nat, k_b0, k_b1, k_z1, k_z0, k_o1, k_o0, Int.reduceEq, Int.reduceLT, Int.reduceLE, Int.reduceAdd, Int.reduceMul, Int.reduceNeg, Bool.false_eq_true, or_true, true_or, or_false, false_or, and_true, true_and, and_false, false_and, not_true_eq_false, not_false_eq_true, ↓reduceIte, z_0, z_k, s_I, s_J, s_uI, s_uJ, z, y, ↓c_gP_87_5, ↓c_ia_89, b1, x]
          rw [Int.add_zero]
        · have E : (if q = 6 ∧ a_rz A k ≠ -1 then s + 1 else s) = s + 1 := if_pos ⟨y, x⟩
          have x' : ¬ a_rz A k < 0 := by omega
          rw [E, ← ih M (k + 1) (s + 1) (by omega) (by omega)]
          simp (disch := first | assumption | omega) only [k_add, k_sub, k_mul, k_lt, k_eq, k_lt0, k_0lt, k_eq0, k_nat, k_b0, k_b1, k_z1, k_z0, k_o1, k_o0, Int.reduceEq, Int.reduceLT, Int.reduceLE, Int.reduceAdd, Int.reduceMul, Int.reduceNeg, Bool.false_eq_true, or_true, true_or, or_false, false_or, and_true, true_and, and_false, false_and, not_true_eq_false, not_false_eq_true, ↓reduceIte, z_0, z_k, s_I, s_J, s_uI, s_uJ, z, y, ↓c_gP_87_5, ↓c_ia_89, b1, x']
      · have E : (if q = 6 ∧ a_rz A k ≠ -1 then s + 1 else s) = s := if_neg (fun u => y u.1)
        rw [E, ← ih M (k + 1) s (by omega) (by omega)]
        simp (disch := first | assumption | omega) only [k_add, k_sub, k_mul, k_lt, k_eq, k_lt0, k_0lt, k_eq0, k_nat, k_b0, k_b1, k_z1, k_z0, k_o1, k_o0, Int.reduceEq, Int.reduceLT, Int.reduceLE, Int.reduceAdd, Int.reduceMul, Int.reduceNeg, Bool.false_eq_true, or_true, true_or, or_false, false_or, and_true, true_and, and_false, false_and, not_true_eq_false, not_false_eq_true, ↓reduceIte, z_0, z_k, s_I, s_J, s_uI, s_uJ, z, y]
        rw [Int.add_zero]
  have l4 : ∀ (t M : Nat) (k s : Int), 0 ≤ k → k + t = 4 → j_exec k_229 h_229 (j_run (d + 3)) (M + t) 113 [some (.ref 87), some (.int (j_k q)), some (.int (j_k s)), some (.int (j_k k))] [] (ST L p I J) = j_exec k_229 h_229 (j_run (d + 3)) M 113 [some (.ref 87), some (.int (j_k q)), some (.int (j_k (p_loop (fun k s => if q = 7 ∧ a_tz A k ≠ -1 then s + 1 else s) t k s))), some (.int (j_k 4))] [] (ST L p I J) := by
    intro t
    induction t with
    | zero =>
      intro M k s k1 k2
      rw [show k = 4 by omega]
      rfl
    | succ t ih =>
      intro M k s k1 k2
      have z : k < 4 := by omega
      rw [show M + (t + 1) = M + t + 1 by omega, x_exec, t_229_113, p_loopS]
      by_cases y : q = 7
      · have b1 := (hx.2.2.1 k k1 z).1
        have br := hx.1.2.2.2.2.1 k k1 z
        have br1 := br.1
        have br2 := br.2
        by_cases x : a_tz A k = -1
        · have E : (if q = 7 ∧ a_tz A k ≠ -1 then s + 1 else s) = s := if_neg (fun u => u.2 x)
          rw [E, ← ih M (k + 1) s (by omega) (by omega)]
          simp (disch := first | assumption | omega) only [k_add, k_sub, k_mul, k_lt, k_eq, k_lt0, k_0lt, k_eq0, k_nat, k_b0, k_b1, k_z1, k_z0, k_o1, k_o0, Int.reduceEq, Int.reduceLT, Int.reduceLE, Int.reduceAdd, Int.reduceMul, Int.reduceNeg, Bool.false_eq_true, or_true, true_or, or_false, false_or, and_true, true_and, and_false, false_and, not_true_eq_false, not_false_eq_true, ↓reduceIte, z_0, z_k, s_I, s_J, s_uI, s_uJ, z, y, ↓c_gP_87_8, ↓c_ia_92, b1, x]
          rw [Int.add_zero]
        · have E : (if q = 7 ∧ a_tz A k ≠ -1 then s + 1 else s) = s + 1 := if_pos ⟨y, x⟩
          have x' : ¬ a_tz A k < 0 := by omega
          rw [E, ← ih M (k + 1) (s + 1) (by omega) (by omega)]
          simp (disch := first | assumption | omega) only [k_add, k_sub, k_mul, k_lt, k_eq, k_lt0, k_0lt, k_eq0, k_nat, k_b0, k_b1, k_z1, k_z0, k_o1, k_o0, Int.reduceEq, Int.reduceLT, Int.reduceLE, Int.reduceAdd, Int.reduceMul, Int.reduceNeg, Bool.false_eq_true, or_true, true_or, or_false, false_or, and_true, true_and, and_false, false_and, not_true_eq_false, not_false_eq_true, ↓reduceIte, z_0, z_k, s_I, s_J, s_uI, s_uJ, z, y, ↓c_gP_87_8, ↓c_ia_92, b1, x']
      · have E : (if q = 7 ∧ a_tz A k ≠ -1 then s + 1 else s) = s := if_neg (fun u => y u.1)
        rw [E, ← ih M (k + 1) s (by omega) (by omega)]
        simp (disch := first | assumption | omega) only [k_add, k_sub, k_mul, k_lt, k_eq, k_lt0, k_0lt, k_eq0, k_nat, k_b0, k_b1, k_z1, k_z0, k_o1, k_o0, Int.reduceEq, Int.reduceLT, Int.reduceLE, Int.reduceAdd, Int.reduceMul, Int.reduceNeg, Bool.false_eq_true, or_true, true_or, or_false, false_or, and_true, true_and, and_false, false_and, not_true_eq_false, not_false_eq_true, ↓reduceIte, z_0, z_k, s_I, s_J, s_uI, s_uJ, z, y]
        rw [Int.add_zero]
  obtain ⟨M, hM, hM2⟩ : ∃ M, M = 999999 ∧ 5000 < M := ⟨999999, rfl, by decide⟩
  have e := (r_229 (d + 3) (ST L p I J) 87 (j_k q)).trans (t_229_0 _ _ _ _ _)
  rw [← hM] at e
  obtain ⟨M0, rfl⟩ : ∃ q, M = (q + 1 + 4 + 6 + 1 + 3 + 1) + (a_gn A).toNat + 1 := ⟨M - 17 - (a_gn A).toNat, by omega⟩
  rw [l1 (a_gn A).toNat _ 0 0 (Int.le_refl 0) (by omega), l2 3 _ 0 _ (Int.le_refl 0) (by decide), l3 6 _ 0 _ (Int.le_refl 0) (by decide), l4 4 _ 0 _ (Int.le_refl 0) (by decide), x_exec, t_229_113] at e
  have v0 := n_v (L := L) (p := p) (d := d + 2) (I := I) (J := J) (k := 0) (j := 0) (by decide) (by decide) (by decide) (by decide)
  rw [hf.1 0 (by decide) (by decide)] at v0
  have l0 := n_lost (L := L) (p := p) (d := d) (J := J) (k := 0) (by decide) (by decide) hn n0 n4 hf ho bN1
  have f4 : ¬ (4 : Int) < 4 := by decide
  have a4 : q ≠ 4 → ∀ s : Int, p_loop (fun k s => if q = 4 ∧ p_shy (a_kd A) k = true then s + 1 else s) (a_gn A).toNat 0 s = s := fun h s => loop_id (n := a_gn A) (fun k s _ _ => if_neg (fun u => h u.1)) _ _ _ (Int.le_refl 0) (by omega)
  have a5 : q ≠ 5 → ∀ s : Int, p_loop (fun k s => if q = 5 ∧ a_kp A k = true then s + 1 else s) 3 0 s = s := fun h s => loop_id (n := 3) (fun k s _ _ => if_neg (fun u => h u.1)) _ _ _ (Int.le_refl 0) (by decide)
  have a6 : q ≠ 6 → ∀ s : Int, p_loop (fun k s => if q = 6 ∧ a_rz A k ≠ -1 then s + 1 else s) 6 0 s = s := fun h s => loop_id (n := 6) (fun k s _ _ => if_neg (fun u => h u.1)) _ _ _ (Int.le_refl 0) (by decide)
  have a7 : q ≠ 7 → ∀ s : Int, p_loop (fun k s => if q = 7 ∧ a_tz A k ≠ -1 then s + 1 else s) 4 0 s = s := fun h s => loop_id (n := 4) (fun k s _ _ => if_neg (fun u => h u.1)) _ _ _ (Int.le_refl 0) (by decide)
  have b4 : q = 4 → p_loop (fun k s => if q = 4 ∧ p_shy (a_kd A) k = true then s + 1 else s) (a_gn A).toNat 0 0 = p_shyN (a_gn A) (a_kd A) := fun h => by
    unfold p_shyN
    refine loop_cg (n := a_gn A) (fun k s _ _ => ?_) _ _ _ (Int.le_refl 0) (by omega)
    by_cases x : p_shy (a_kd A) k = true
    · rw [if_pos ⟨h, x⟩, if_pos x]
    · rw [if_neg (fun u => x u.2), if_neg x]
  have b5 : q = 5 → p_loop (fun k s => if q = 5 ∧ a_kp A k = true then s + 1 else s) 3 0 0 = p_keptN A := fun h => by
    have st : ∀ (k s : Int), (if q = 5 ∧ a_kp A k = true then s + 1 else s) = s + (if a_kp A k = true then 1 else 0) := fun k s => by
      by_cases x : a_kp A k = true
      · rw [if_pos ⟨h, x⟩, if_pos x]
      · rw [if_neg (fun u => x u.2), if_neg x, Int.add_zero]
    have e3 := loop_cg (b := fun k s => if q = 5 ∧ a_kp A k = true then s + 1 else s) (b' := fun k s => s + (if a_kp A k = true then 1 else 0)) (n := 3) (fun k s _ _ => st k s) 3 0 0 (Int.le_refl 0) (by decide)
    rw [e3]
    show 0 + (if a_kp A 0 = true then (1 : Int) else 0) + (if a_kp A (0 + 1) = true then 1 else 0) + (if a_kp A (0 + 1 + 1) = true then 1 else 0) = p_keptN A
    unfold p_keptN
    rw [Int.zero_add, show (0 : Int) + 1 + 1 = 2 by decide, show (0 : Int) + 1 = 1 by decide]
  have b6 : q = 6 → p_loop (fun k s => if q = 6 ∧ a_rz A k ≠ -1 then s + 1 else s) 6 0 0 = p_there 6 (a_rz A) := fun h => by
    unfold p_there
    refine loop_cg (n := 6) (fun k s _ _ => ?_) _ _ _ (Int.le_refl 0) (by decide)
    by_cases x : a_rz A k = -1
    · rw [if_pos x, if_neg (fun u => u.2 x)]
    · rw [if_neg x, if_pos ⟨h, x⟩]
  have b7 : q = 7 → p_loop (fun k s => if q = 7 ∧ a_tz A k ≠ -1 then s + 1 else s) 4 0 0 = p_there 4 (a_tz A) := fun h => by
    unfold p_there
    refine loop_cg (n := 4) (fun k s _ _ => ?_) _ _ _ (Int.le_refl 0) (by decide)
    by_cases x : a_tz A k = -1
    · rw [if_pos x, if_neg (fun u => u.2 x)]
    · rw [if_neg x, if_pos ⟨h, x⟩]
  have V : 4 ≤ q → p_loop (fun k s => if q = 7 ∧ a_tz A k ≠ -1 then s + 1 else s) 4 0 (p_loop (fun k s => if q = 6 ∧ a_rz A k ≠ -1 then s + 1 else s) 6 0 (p_loop (fun k s => if q = 5 ∧ a_kp A k = true then s + 1 else s) 3 0 (p_loop (fun k s => if q = 4 ∧ p_shy (a_kd A) k = true then s + 1 else s) (a_gn A).toNat 0 0))) = p_countV q A := fun h => by
    unfold p_countV
    rw [if_neg (show ¬ q = 0 by omega), if_neg (show ¬ q = 1 by omega), if_neg (show ¬ q = 2 by omega), if_neg (show ¬ q = 3 by omega)]
    by_cases q4 : q = 4
    · rw [a7 (by omega), a6 (by omega), a5 (by omega), b4 q4, if_pos q4]
    · rw [if_neg q4, a4 q4]
      by_cases q5 : q = 5
      · rw [a7 (by omega), a6 (by omega), b5 q5, if_pos q5]
      · rw [if_neg q5, a5 q5]
        by_cases q6 : q = 6
        · rw [a7 (by omega), b6 q6, if_pos q6]
        · rw [if_neg q6, a6 q6]
          have q7 : q = 7 := by omega
          rw [b7 q7, if_pos q7]
  rw [e]
  clear e a4 a5 a6 a7 b4 b5 b6 b7 l1 l2 l3 l4
  generalize p_loop (fun k s => if q = 7 ∧ a_tz A k ≠ -1 then s + 1 else s) 4 0 (p_loop (fun k s => if q = 6 ∧ a_rz A k ≠ -1 then s + 1 else s) 6 0 (p_loop (fun k s => if q = 5 ∧ a_kp A k = true then s + 1 else s) 3 0 (p_loop (fun k s => if q = 4 ∧ p_shy (a_kd A) k = true then s + 1 else s) (a_gn A).toNat 0 0))) = T at V ⊢
  by_cases q4 : 4 ≤ q
  · rw [V q4]
    have x0 : ¬ q = 0 := by omega
    have x1 : ¬ q = 1 := by omega
    have x2 : ¬ q = 2 := by omega
    have x3 : ¬ q = 3 := by omega
    simp (disch := first | assumption | omega) only [k_add, k_sub, k_mul, k_lt, k_eq, k_lt0, k_0lt, k_eq0, k_nat, k_b0, k_b1, k_z1, k_z0, k_o1, k_o0, Int.reduceEq, Int.reduceLT, Int.reduceLE, Int.reduceAdd, Int.reduceMul, Int.reduceNeg, Bool.false_eq_true, or_true, true_or, or_false, false_or, and_true, true_and, and_false, false_and, not_true_eq_false, not_false_eq_true, ↓reduceIte, z_0, z_k, s_I, s_J, s_uI, s_uJ, f4, x0, x1, x2, x3]
  · rcases (show q = 0 ∨ q = 1 ∨ q = 2 ∨ q = 3 by omega) with rfl | rfl | rfl | rfl
    · simp (disch := first | assumption | omega) only [k_add, k_sub, k_mul, k_lt, k_eq, k_lt0, k_0lt, k_eq0, k_nat, k_b0, k_b1, k_z1, k_z0, k_o1, k_o0, Int.reduceEq, Int.reduceLT, Int.reduceLE, Int.reduceAdd, Int.reduceMul, Int.reduceNeg, Bool.false_eq_true, or_true, true_or, or_false, false_or, and_true, true_and, and_false, false_and, not_true_eq_false, not_false_eq_true, ↓reduceIte, z_0, z_k, s_I, s_J, s_uI, s_uJ, f4, ↓c_oc_87, hN]
      rfl
    · simp (disch := first | assumption | omega) only [k_add, k_sub, k_mul, k_lt, k_eq, k_lt0, k_0lt, k_eq0, k_nat, k_b0, k_b1, k_z1, k_z0, k_o1, k_o0, Int.reduceEq, Int.reduceLT, Int.reduceLE, Int.reduceAdd, Int.reduceMul, Int.reduceNeg, Bool.false_eq_true, or_true, true_or, or_false, false_or, and_true, true_and, and_false, false_and, not_true_eq_false, not_false_eq_true, ↓reduceIte, z_0, z_k, s_I, s_J, s_uI, s_uJ, f4, ↓c_oc_87, hn]
      rfl
    · simp (disch := first | assumption | omega) only [k_add, k_sub, k_mul, k_lt, k_eq, k_lt0, k_0lt, k_eq0, k_nat, k_b0, k_b1, k_z1, k_z0, k_o1, k_o0, Int.reduceEq, Int.reduceLT, Int.reduceLE, Int.reduceAdd, Int.reduceMul, Int.reduceNeg, Bool.false_eq_true, or_true, true_or, or_false, false_or, and_true, true_and, and_false, false_and, not_true_eq_false, not_false_eq_true, ↓reduceIte, z_0, z_k, s_I, s_J, s_uI, s_uJ, f4, ↓c_oc_87, ↓jc1 l0]
      rfl
    · simp (disch := first | assumption | omega) only [k_add, k_sub, k_mul, k_lt, k_eq, k_lt0, k_0lt, k_eq0, k_nat, k_b0, k_b1, k_z1, k_z0, k_o1, k_o0, Int.reduceEq, Int.reduceLT, Int.reduceLE, Int.reduceAdd, Int.reduceMul, Int.reduceNeg, Bool.false_eq_true, or_true, true_or, or_false, false_or, and_true, true_and, and_false, false_and, not_true_eq_false, not_false_eq_true, ↓reduceIte, z_0, z_k, s_I, s_J, s_uI, s_uJ, f4, ↓c_oc_87, ↓jc1 v0]
      rfl
theorem n_count (hx : iM I J A) {q : Int} (h1 : -2147483648 ≤ q) (h2 : q < 2147483648) : j_run (d + 5) 230 [.ref 87, .int (j_k q)] (ST L p I J) = some (some (.int (j_k (p_countV q A))), ST L p I J) := by
  have a1 := n_in (L := L) (p := p) (d := d + 3) (I := I) (J := J) (v := q) (lo := 0) (hi := 7) h1 h2 (by decide) (by decide) (by decide) (by decide)
  rw [r_230, t_230_0]
  by_cases x : 0 ≤ q ∧ q ≤ 7
  · rw [show j_z (0 ≤ q ∧ q ≤ 7) = j_k 1 from if_pos x] at a1
    have a2 := n_counted (L := L) (p := p) (d := d) hx x.1 x.2
    simp (disch := first | assumption | omega) only [k_add, k_sub, k_mul, k_lt, k_eq, k_lt0, k_0lt, k_eq0, k_nat, k_b0, k_b1, k_z1, k_z0, k_o1, k_o0, Int.reduceEq, Int.reduceLT, Int.reduceLE, Int.reduceAdd, Int.reduceMul, Int.reduceNeg, Bool.false_eq_true, or_true, true_or, or_false, false_or, and_true, true_and, and_false, false_and, not_true_eq_false, not_false_eq_true, ↓reduceIte, z_0, z_k, s_I, s_J, s_uI, s_uJ, ↓jc1 a1, ↓c_oc_87, ↓jc1 a2]
  · rw [show j_z (0 ≤ q ∧ q ≤ 7) = j_k 0 from if_neg x] at a1
    have P : p_countV q A = -1 := by
      unfold p_countV
      rw [if_neg (by omega), if_neg (by omega), if_neg (by omega), if_neg (by omega), if_neg (by omega), if_neg (by omega), if_neg (by omega), if_neg (by omega)]
    rw [P]
    simp (disch := first | assumption | omega) only [k_add, k_sub, k_mul, k_lt, k_eq, k_lt0, k_0lt, k_eq0, k_nat, k_b0, k_b1, k_z1, k_z0, k_o1, k_o0, Int.reduceEq, Int.reduceLT, Int.reduceLE, Int.reduceAdd, Int.reduceMul, Int.reduceNeg, Bool.false_eq_true, or_true, true_or, or_false, false_or, and_true, true_and, and_false, false_and, not_true_eq_false, not_false_eq_true, ↓reduceIte, z_0, z_k, s_I, s_J, s_uI, s_uJ, ↓jc1 a1]
theorem n_mix {h : Int64} {x : Int32} : j_run (d + 1) 231 [.ref 87, .long x.toInt64] (ST L p I (u2 J 87 38 h)) = some (none, ST L p I (u2 J 87 38 (p_mix h x))) := by
  have E : j_cJ 7 * h + x.toInt64 = p_mix h x := rfl
  rw [r_231, t_231_0]
  simp (disch := first | assumption | omega) only [k_add, k_sub, k_mul, k_lt, k_eq, k_lt0, k_0lt, k_eq0, k_nat, k_b0, k_b1, k_z1, k_z0, k_o1, k_o0, Int.reduceEq, Int.reduceLT, Int.reduceLE, Int.reduceAdd, Int.reduceMul, Int.reduceNeg, Bool.false_eq_true, or_true, true_or, or_false, false_or, and_true, true_and, and_false, false_and, not_true_eq_false, not_false_eq_true, ↓reduceIte, z_0, z_k, s_I, s_J, s_uI, s_uJ, ↓c_oc_87, ↓c_lt_87, u2_ss, u2_uu, E]
theorem n_mixFlock (hx : iM I J A) {h : Int64} : j_run (d + 4) 232 [.ref 87] (ST L p I (u2 J 87 38 h)) = some (none, ST L p I (u2 J 87 38 (p_loop (fun k h => p_mix h (if a_kp A k = true then j_k (a_kf A k 0) else j_k (-1))) 3 0 (p_hashF A h)))) := by
  have hC := hx.1.1
  have ho := hx.1.2.1
  have hm := hx.2.2.2.1
  have hf := hx.2.2.2.2.1
  have n0 := hC.2.2.1
  have n4 := hC.2.2.2.1
  have hw := hm.2.1
  have hN := hm.2.2.1
  have hn := hm.2.2.2.1
  have hk := hm.2.2.2.2.1
  have hg := hm.2.2.2.2.2
  obtain ⟨bN0, bN1, -⟩ := bd_N hC
  have l1 : ∀ (t M : Nat) (c : Int) (h : Int64), 0 ≤ c → c + t = a_N A → j_exec k_232 h_232 (j_run (d + 3)) (M + t + 1) 2 [some (.ref 87), some (.int (j_k c)), none] [] (ST L p I (u2 J 87 38 h)) = j_exec k_232 h_232 (j_run (d + 3)) M 29 [some (.ref 87), some (.int (j_k 0)), none] [] (ST L p I (u2 J 87 38 (p_loop (fun c h => p_mix h (j_k (a_gr A c))) t c h))) := by
    intro t
    induction t with
    | zero =>
      intro M c h c1 c2
      have z : ¬ c < a_N A := by omega
      rw [x_exec, t_232_2]
      simp (disch := first | assumption | omega) only [k_add, k_sub, k_mul, k_lt, k_eq, k_lt0, k_0lt, k_eq0, k_nat, k_b0, k_b1, k_z1, k_z0, k_o1, k_o0, Int.reduceEq, Int.reduceLT, Int.reduceLE, Int.reduceAdd, Int.reduceMul, Int.reduceNeg, Bool.false_eq_true, or_true, true_or, or_false, false_or, and_true, true_and, and_false, false_and, not_true_eq_false, not_false_eq_true, ↓reduceIte, z_0, z_k, s_I, s_J, s_uI, s_uJ, ↓c_oc_87, hN, z]
      rfl
    | succ t ih =>
      intro M c h c1 c2
      have z : c < a_N A := by omega
      have c3 : c < 30 := by omega
      have gv := hg c c1 z
      have mx := n_mix (L := L) (p := p) (d := d + 2) (I := I) (J := J) (h := h) (x := j_k (a_gr A c))
      rw [show M + (t + 1) + 1 = (M + t + 1) + 1 by omega, x_exec, t_232_2, p_loopS]
      simp (disch := first | assumption | omega) only [k_add, k_sub, k_mul, k_lt, k_eq, k_lt0, k_0lt, k_eq0, k_nat, k_b0, k_b1, k_z1, k_z0, k_o1, k_o0, Int.reduceEq, Int.reduceLT, Int.reduceLE, Int.reduceAdd, Int.reduceMul, Int.reduceNeg, Bool.false_eq_true, or_true, true_or, or_false, false_or, and_true, true_and, and_false, false_and, not_true_eq_false, not_false_eq_true, ↓reduceIte, z_0, z_k, s_I, s_J, s_uI, s_uJ, ↓c_oc_87, hN, z, ↓c_gP_87_12, ↓c_ia_94, gv, ↓jc0 mx]
      exact ih M (c + 1) _ (by omega) (by omega)
  have l2i : ∀ (t M : Nat) (k q : Int) (h : Int64), 0 ≤ k → k < a_gn A → 0 ≤ q → q + t = 3 → j_exec k_232 h_232 (j_run (d + 3)) (M + t + 1) 39 [some (.ref 87), some (.int (j_k k)), some (.int (j_k q))] [] (ST L p I (u2 J 87 38 h)) = j_exec k_232 h_232 (j_run (d + 3)) M 29 [some (.ref 87), some (.int (j_k (k + 1))), none] [] (ST L p I (u2 J 87 38 (p_loop (fun q h => p_mix h (j_k (p_tells (a_kd A) (a_fl A) k q))) t q h))) := by
    intro t
    induction t with
    | zero =>
      intro M k q h k1 k2 q1 q2
      have z : ¬ q < 3 := by omega
      rw [x_exec, t_232_39]
      simp (disch := first | assumption | omega) only [k_add, k_sub, k_mul, k_lt, k_eq, k_lt0, k_0lt, k_eq0, k_nat, k_b0, k_b1, k_z1, k_z0, k_o1, k_o0, Int.reduceEq, Int.reduceLT, Int.reduceLE, Int.reduceAdd, Int.reduceMul, Int.reduceNeg, Bool.false_eq_true, or_true, true_or, or_false, false_or, and_true, true_and, and_false, false_and, not_true_eq_false, not_false_eq_true, ↓reduceIte, z_0, z_k, s_I, s_J, s_uI, s_uJ, z]
      rfl
    | succ t ih =>
      intro M k q h k1 k2 q1 q2
      have z : q < 3 := by omega
      have bt' := n_beastTells (L := L) (p := p) (d := d + 1) (hx.hash (h := h)) k1 k2 q1 (show q ≤ 2 by omega)
      have mx := n_mix (L := L) (p := p) (d := d + 2) (I := I) (J := J) (h := h) (x := j_k (p_tells (a_kd A) (a_fl A) k q))
      rw [show M + (t + 1) + 1 = (M + t + 1) + 1 by omega, x_exec, t_232_39, p_loopS]
      simp (disch := first | assumption | omega) only [k_add, k_sub, k_mul, k_lt, k_eq, k_lt0, k_0lt, k_eq0, k_nat, k_b0, k_b1, k_z1, k_z0, k_o1, k_o0, Int.reduceEq, Int.reduceLT, Int.reduceLE, Int.reduceAdd, Int.reduceMul, Int.reduceNeg, Bool.false_eq_true, or_true, true_or, or_false, false_or, and_true, true_and, and_false, false_and, not_true_eq_false, not_false_eq_true, ↓reduceIte, z_0, z_k, s_I, s_J, s_uI, s_uJ, z, ↓c_oc_87, ↓jc1 bt', ↓jc0 mx]
      exact ih M k (q + 1) _ k1 k2 (by omega) (by omega)
  have l2 : ∀ (t M : Nat) (k : Int) (h : Int64), 0 ≤ k → k + t = a_gn A → j_exec k_232 h_232 (j_run (d + 3)) (M + 5 * t + 1) 29 [some (.ref 87), some (.int (j_k k)), none] [] (ST L p I (u2 J 87 38 h)) = j_exec k_232 h_232 (j_run (d + 3)) M 69 [some (.ref 87), some (.int (j_k 1)), none] [] (ST L p I (u2 J 87 38 (p_loop (fun k h => p_loop (fun q h => p_mix h (j_k (p_tells (a_kd A) (a_fl A) k q))) 3 0 h) t k h))) := by
    intro t
    induction t with
    | zero =>
      intro M k h k1 k2
      have z : ¬ k < a_gn A := by omega
      rw [x_exec, t_232_29]
      simp (disch := first | assumption | omega) only [k_add, k_sub, k_mul, k_lt, k_eq, k_lt0, k_0lt, k_eq0, k_nat, k_b0, k_b1, k_z1, k_z0, k_o1, k_o0, Int.reduceEq, Int.reduceLT, Int.reduceLE, Int.reduceAdd, Int.reduceMul, Int.reduceNeg, Bool.false_eq_true, or_true, true_or, or_false, false_or, and_true, true_and, and_false, false_and, not_true_eq_false, not_false_eq_true, ↓reduceIte, z_0, z_k, s_I, s_J, s_uI, s_uJ, ↓c_oc_87, hn, z]
      rfl
    | succ t ih =>
      intro M k h k1 k2
      have z : k < a_gn A := by omega
      rw [show M + 5 * (t + 1) + 1 = ((M + 5 * t + 1) + 3 + 1) + 1 by omega, x_exec, t_232_29, p_loopS]
      simp (disch := first | assumption | omega) only [k_add, k_sub, k_mul, k_lt, k_eq, k_lt0, k_0lt, k_eq0, k_nat, k_b0, k_b1, k_z1, k_z0, k_o1, k_o0, Int.reduceEq, Int.reduceLT, Int.reduceLE, Int.reduceAdd, Int.reduceMul, Int.reduceNeg, Bool.false_eq_true, or_true, true_or, or_false, false_or, and_true, true_and, and_false, false_and, not_true_eq_false, not_false_eq_true, ↓reduceIte, z_0, z_k, s_I, s_J, s_uI, s_uJ, ↓c_oc_87, hn, z]
      exact (l2i 3 (M + 5 * t + 1) k 0 h k1 z (Int.le_refl 0) (by decide)).trans (ih M (k + 1) _ (by omega) (by omega))
  have l3 : ∀ (t M : Nat) (i : Int) (h : Int64), 1 ≤ i → i + t = 5 → j_exec k_232 h_232 (j_run (d + 3)) (M + t + 1) 69 [some (.ref 87), some (.int (j_k i)), none] [] (ST L p I (u2 J 87 38 h)) = j_exec k_232 h_232 (j_run (d + 3)) M 93 [some (.ref 87), some (.int (j_k 0)), none] [] (ST L p I (u2 J 87 38 (p_loop (fun i h => p_mix h (j_k (a_fl A i))) t i h))) := by
    intro t
    induction t with
    | zero =>
      intro M i h i1 i2
      have z : 4 < i := by omega
      rw [x_exec, t_232_69]
      simp (disch := first | assumption | omega) only [k_add, k_sub, k_mul, k_lt, k_eq, k_lt0, k_0lt, k_eq0, k_nat, k_b0, k_b1, k_z1, k_z0, k_o1, k_o0, Int.reduceEq, Int.reduceLT, Int.reduceLE, Int.reduceAdd, Int.reduceMul, Int.reduceNeg, Bool.false_eq_true, or_true, true_or, or_false, false_or, and_true, true_and, and_false, false_and, not_true_eq_false, not_false_eq_true, ↓reduceIte, z_0, z_k, s_I, s_J, s_uI, s_uJ, z]
      rfl
    | succ t ih =>
      intro M i h i1 i2
      have z : ¬ 4 < i := by omega
      have v := n_v (L := L) (p := p) (d := d + 2) (I := I) (J := u2 J 87 38 h) (k := 0) (j := i) (by decide) (by decide) (by omega) (by omega)
      rw [hf.1 i (by omega) (by omega)] at v
      have mx := n_mix (L := L) (p := p) (d := d + 2) (I := I) (J := J) (h := h) (x := j_k (a_fl A i))
      rw [show M + (t + 1) + 1 = (M + t + 1) + 1 by omega, x_exec, t_232_69, p_loopS]
      simp (disch := first | assumption | omega) only [k_add, k_sub, k_mul, k_lt, k_eq, k_lt0, k_0lt, k_eq0, k_nat, k_b0, k_b1, k_z1, k_z0, k_o1, k_o0, Int.reduceEq, Int.reduceLT, Int.reduceLE, Int.reduceAdd, Int.reduceMul, Int.reduceNeg, Bool.false_eq_true, or_true, true_or, or_false, false_or, and_true, true_and, and_false, false_and, not_true_eq_false, not_false_eq_true, ↓reduceIte, z_0, z_k, s_I, s_J, s_uI, s_uJ, z, ↓c_oc_87, ↓jc1 v, ↓jc0 mx]
      exact ih M (i + 1) _ (by omega) (by omega)
  have l4 : ∀ (t M : Nat) (k : Int) (h : Int64), 0 ≤ k → k + t = 3 → t < M → j_exec k_232 h_232 (j_run (d + 3)) M 93 [some (.ref 87), some (.int (j_k k)), none] [] (ST L p I (u2 J 87 38 h)) = some (none, ST L p I (u2 J 87 38 (p_loop (fun k h => p_mix h (if a_kp A k = true then j_k (a_kf A k 0) else j_k (-1))) t k h))) := by
    intro t
    induction t with
    | zero =>
      intro M k h k1 k2 hM
      obtain ⟨M, rfl⟩ : ∃ q, M = q + 1 := ⟨M - 1, by omega⟩
      have z : ¬ k < 3 := by omega
      rw [x_exec, t_232_93]
      simp (disch := first | assumption | omega) only [k_add, k_sub, k_mul, k_lt, k_eq, k_lt0, k_0lt, k_eq0, k_nat, k_b0, k_b1, k_z1, k_z0, k_o1, k_o0, Int.reduceEq, Int.reduceLT, Int.reduceLE, Int.reduceAdd, Int.reduceMul, Int.reduceNeg, Bool.false_eq_true, or_true, true_or, or_false, false_or, and_true, true_and, and_false, false_and, not_true_eq_false, not_false_eq_true, ↓reduceIte, z_0, z_k, s_I, s_J, s_uI, s_uJ, z]
      rfl
    | succ t ih =>
      intro M k h k1 k2 hM
      obtain ⟨M, rfl⟩ : ∃ q, M = q + 1 := ⟨M - 1, by omega⟩
      have z : k < 3 := by omega
      obtain ⟨g1, g2⟩ := hx.2.2.2.2.2.1 k k1 z
      rw [x_exec, t_232_93, p_loopS]
      by_cases x : a_kp A k = true
      · rw [show j_z (a_kp A k = true) = j_k 1 from if_pos x] at g1
        have v := n_v (L := L) (p := p) (d := d + 2) (I := I) (J := u2 J 87 38 h) (k := 1 + k) (j := 0) (by omega) (by omega) (by decide) (by decide)
        rw [(g2 x).1 0 (by decide) (by decide)] at v
        have mx := n_mix (L := L) (p := p) (d := d + 2) (I := I) (J := J) (h := h) (x := j_k (a_kf A k 0))
        have ih' := ih M (k + 1) (p_mix h (j_k (a_kf A k 0))) (by omega) (by omega) (by omega)
        rw [if_pos x]
        simp (disch := first | assumption | omega) only [k_add, k_sub, k_mul, k_lt, k_eq, k_lt0, k_0lt, k_eq0, k_nat, k_b0, k_b1, k_z1, k_z0, k_o1, k_o0, Int.reduceEq, Int.reduceLT, Int.reduceLE, Int.reduceAdd, Int.reduceMul, Int.reduceNeg, Bool.false_eq_true, or_true, true_or, or_false, false_or, and_true, true_and, and_false, false_and, not_true_eq_false, not_false_eq_true, ↓reduceIte, z_0, z_k, s_I, s_J, s_uI, s_uJ, z, ↓c_gP_87_25, ↓c_ba_100, g1, ↓c_oc_87, ↓jc1 v, ↓jc0 mx]
        exact ih'
      · rw [show j_z (a_kp A k = true) = j_k 0 from if_neg x] at g1
        have mx := n_mix (L := L) (p := p) (d := d + 2) (I := I) (J := J) (h := h) (x := j_k (-1))
        rw [← l_m1] at mx
        have ih' := ih M (k + 1) (p_mix h (j_k (-1))) (by omega) (by omega) (by omega)
        rw [if_neg x]
        simp (disch := first | assumption | omega) only [k_add, k_sub, k_mul, k_lt, k_eq, k_lt0, k_0lt, k_eq0, k_nat, k_b0, k_b1, k_z1, k_z0, k_o1, k_o0, Int.reduceEq, Int.reduceLT, Int.reduceLE, Int.reduceAdd, Int.reduceMul, Int.reduceNeg, Bool.false_eq_true, or_true, true_or, or_false, false_or, and_true, true_and, and_false, false_and, not_true_eq_false, not_false_eq_true, ↓reduceIte, z_0, z_k, s_I, s_J, s_uI, s_uJ, z, ↓c_gP_87_25, ↓c_ba_100, g1, ↓c_oc_87, ↓jc0 mx]
        exact ih'
  obtain ⟨M, hM, hM2⟩ : ∃ M, M = 999999 ∧ 5000 < M := ⟨999999, rfl, by decide⟩
  have e := (r_232 (d + 3) (ST L p I (u2 J 87 38 h)) 87).trans (t_232_0 _ _ _ _)
  rw [← hM] at e
  obtain ⟨M0, rfl⟩ : ∃ q, M = (((q + 10) + 4 + 1) + 5 * (a_gn A).toNat + 1) + (a_N A).toNat + 1 := ⟨M - 17 - 5 * (a_gn A).toNat - (a_N A).toNat, by omega⟩
  exact e.trans ((l1 (a_N A).toNat _ 0 _ (Int.le_refl 0) (by omega)).trans ((l2 (a_gn A).toNat _ 0 _ (Int.le_refl 0) (by omega)).trans ((l3 4 _ 1 _ (by decide) (by decide)).trans (l4 3 _ 0 _ (Int.le_refl 0) (by decide) (by omega)))))
theorem n_dig1 (hx : iM I J A) : ∀ (t M : Nat) (q : Int) (h : Int64), 0 ≤ q → q + t = 8 → j_exec k_233 h_233 (j_run (d + 4)) (M + t + 1) 9 [some (.ref 87), some (.int (j_k q)), none] [] (ST L p I (u2 J 87 38 h)) = j_exec k_233 h_233 (j_run (d + 4)) M 37 [some (.ref 87), some (.int (j_k 0)), none] [] (ST L p I (u2 J 87 38 (p_loop (fun k h => p_mix h (if a_kp A k = true then j_k (a_kf A k 0) else j_k (-1))) 3 0 (p_hashF A (p_loop (fun q h => p_mix h (j_k (p_countV q A))) t q h))))) := by
  intro t
  induction t with
  | zero =>
    intro M q h q1 q2
    have z : ¬ q < 8 := by omega
    have mf := n_mixFlock (L := L) (p := p) (d := d) hx (h := h)
    rw [x_exec, t_233_9, p_loop0]
    simp (disch := first | assumption | omega) only [k_add, k_sub, k_mul, k_lt, k_eq, k_lt0, k_0lt, k_eq0, k_nat, k_b0, k_b1, k_z1, k_z0, k_o1, k_o0, Int.reduceEq, Int.reduceLT, Int.reduceLE, Int.reduceAdd, Int.reduceMul, Int.reduceNeg, Bool.false_eq_true, or_true, true_or, or_false, false_or, and_true, true_and, and_false, false_and, not_true_eq_false, not_false_eq_true, ↓reduceIte, z_0, z_k, s_I, s_J, s_uI, s_uJ, z, ↓c_oc_87, ↓jc0 mf]
  | succ t ih =>
    intro M q h q1 q2
    have z : q < 8 := by omega
    have c := n_counted (L := L) (p := p) (d := d) (hx.hash (h := h)) q1 (show q ≤ 7 by omega)
    have mx := n_mix (L := L) (p := p) (d := d + 3) (I := I) (J := J) (h := h) (x := j_k (p_countV q A))
    have U : p_loop (fun q h => p_mix h (j_k (p_countV q A))) (t + 1) q h = p_loop (fun q h => p_mix h (j_k (p_countV q A))) t (q + 1) (p_mix h (j_k (p_countV q A))) := rfl
    rw [U, show M + (t + 1) + 1 = (M + t + 1) + 1 by omega, x_exec, t_233_9]
    simp (disch := first | assumption | omega) only [k_add, k_sub, k_mul, k_lt, k_eq, k_lt0, k_0lt, k_eq0, k_nat, k_b0, k_b1, k_z1, k_z0, k_o1, k_o0, Int.reduceEq, Int.reduceLT, Int.reduceLE, Int.reduceAdd, Int.reduceMul, Int.reduceNeg, Bool.false_eq_true, or_true, true_or, or_false, false_or, and_true, true_and, and_false, false_and, not_true_eq_false, not_false_eq_true, ↓reduceIte, z_0, z_k, s_I, s_J, s_uI, s_uJ, z, ↓c_oc_87, ↓jc1 c, ↓jc0 mx]
    exact ih M (q + 1) _ (by omega) (by omega)
theorem n_dig2i (hx : iM I J A) : ∀ (t M : Nat) (r i : Int) (h : Int64), 0 ≤ r → r < 6 → 0 ≤ i → i + t = (if a_rz A r = -1 then 0 else a_rz A r) → j_exec k_233 h_233 (j_run (d + 4)) (M + t + 1) 56 [some (.ref 87), some (.int (j_k r)), some (.int (j_k i))] [] (ST L p I (u2 J 87 38 h)) = j_exec k_233 h_233 (j_run (d + 4)) M 37 [some (.ref 87), some (.int (j_k (r + 1))), none] [] (ST L p I (u2 J 87 38 (p_loop (fun i s => p_mix s (a_rv A r i)) t i h))) := by
  intro t
  induction t with
  | zero =>
    intro M r i h r1 r2 i1 i2
    have hr := (hx.2.1 r r1 r2).1
    have br := hx.1.2.2.2.1 r r1 r2
    have br1 := br.1
    have br2 := br.2
    have z : ¬ i < a_rz A r := by split at i2 <;> omega
    have i60 : i < 100 := by split at i2 <;> omega
    rw [x_exec, t_233_56]
    simp (disch := first | assumption | omega) only [k_add, k_sub, k_mul, k_lt, k_eq, k_lt0, k_0lt, k_eq0, k_nat, k_b0, k_b1, k_z1, k_z0, k_o1, k_o0, Int.reduceEq, Int.reduceLT, Int.reduceLE, Int.reduceAdd, Int.reduceMul, Int.reduceNeg, Bool.false_eq_true, or_true, true_or, or_false, false_or, and_true, true_and, and_false, false_and, not_true_eq_false, not_false_eq_true, ↓reduceIte, z_0, z_k, s_I, s_J, s_uI, s_uJ, ↓c_gP_87_5, ↓c_ia_89, hr, z]
    rfl
  | succ t ih =>
    intro M r i h r1 r2 i1 i2
    have hr := (hx.2.1 r r1 r2).1
    have br := hx.1.2.2.2.1 r r1 r2
    have br1 := br.1
    have br2 := br.2
    have z : i < a_rz A r := by split at i2 <;> omega
    have a := n_rowAt (L := L) (p := p) (d := d + 3) (hx.hash (h := h)) r1 r2 i1 (show i < 60 by omega)
    have mx := n_mix (L := L) (p := p) (d := d + 3) (I := I) (J := J) (h := h) (x := a_rv A r i)
    rw [show M + (t + 1) + 1 = (M + t + 1) + 1 by omega, x_exec, t_233_56, p_loopS]
    simp (disch := first | assumption | omega) only [k_add, k_sub, k_mul, k_lt, k_eq, k_lt0, k_0lt, k_eq0, k_nat, k_b0, k_b1, k_z1, k_z0, k_o1, k_o0, Int.reduceEq, Int.reduceLT, Int.reduceLE, Int.reduceAdd, Int.reduceMul, Int.reduceNeg, Bool.false_eq_true, or_true, true_or, or_false, false_or, and_true, true_and, and_false, false_and, not_true_eq_false, not_false_eq_true, ↓reduceIte, z_0, z_k, s_I, s_J, s_uI, s_uJ, ↓c_gP_87_5, ↓c_ia_89, hr, z, ↓c_oc_87, ↓jc1 a, ↓jc0 mx]
    exact ih M r (i + 1) _ r1 r2 (by omega) (by omega)
theorem n_dig2 (hx : iM I J A) : ∀ (t M : Nat) (r : Int) (h : Int64), 0 ≤ r → r + t = 6 → j_exec k_233 h_233 (j_run (d + 4)) (M + 70 * t + 1) 37 [some (.ref 87), some (.int (j_k r)), none] [] (ST L p I (u2 J 87 38 h)) = j_exec k_233 h_233 (j_run (d + 4)) M 91 [some (.ref 87), some (.int (j_k 0)), none] [] (ST L p I (u2 J 87 38 (p_loop (fun r s => p_loop (fun i s => p_mix s (a_rv A r i)) (a_rz A r).toNat 0 (p_mix s (j_k (a_rz A r)))) t r h))) ∨ ∃ K, 1 ≤ K ∧ j_exec k_233 h_233 (j_run (d + 4)) (M + 70 * t + 1) 37 [some (.ref 87), some (.int (j_k r)), none] [] (ST L p I (u2 J 87 38 h)) = j_exec k_233 h_233 (j_run (d + 4)) (M + K) 91 [some (.ref 87), some (.int (j_k 0)), none] [] (ST L p I (u2 J 87 38 (p_loop (fun r s => p_loop (fun i s => p_mix s (a_rv A r i)) (a_rz A r).toNat 0 (p_mix s (j_k (a_rz A r)))) t r h))) := by
  intro t
  induction t with
  | zero =>
    intro M r h r1 r2
    have z : ¬ r < 6 := by omega
    refine Or.inl ?_
    rw [show M + 70 * 0 + 1 = M + 1 by omega, x_exec, t_233_37]
    simp (disch := first | assumption | omega) only [k_add, k_sub, k_mul, k_lt, k_eq, k_lt0, k_0lt, k_eq0, k_nat, k_b0, k_b1, k_z1, k_z0, k_o1, k_o0, Int.reduceEq, Int.reduceLT, Int.reduceLE, Int.reduceAdd, Int.reduceMul, Int.reduceNeg, Bool.false_eq_true, or_true, true_or, or_false, false_or, and_true, true_and, and_false, false_and, not_true_eq_false, not_false_eq_true, ↓reduceIte, z_0, z_k, s_I, s_J, s_uI, s_uJ, z]
    rfl
  | succ t ih =>
    intro M r h r1 r2
    have z : r < 6 := by omega
    have hr := (hx.2.1 r r1 z).1
    have br := hx.1.2.2.2.1 r r1 z
    have br1 := br.1
    have br2 := br.2
    have mx := n_mix (L := L) (p := p) (d := d + 3) (I := I) (J := J) (h := h) (x := j_k (a_rz A r))
    obtain ⟨M2, hM2⟩ : ∃ q, M + 70 * (t + 1) + 1 = ((q + 70 * t + 1) + (a_rz A r).toNat + 1) + 1 ∧ M ≤ q := ⟨M + 68 - (a_rz A r).toNat, by omega, by omega⟩
    obtain ⟨hM2, hM3⟩ := hM2
    have inr := n_dig2i (L := L) (p := p) (d := d) hx (a_rz A r).toNat (M2 + 70 * t + 1) r 0 (p_mix h (j_k (a_rz A r))) r1 z (Int.le_refl 0) (by split <;> omega)
    have one : j_exec k_233 h_233 (j_run (d + 4)) (M + 70 * (t + 1) + 1) 37 [some (.ref 87), some (.int (j_k r)), none] [] (ST L p I (u2 J 87 38 h)) = j_exec k_233 h_233 (j_run (d + 4)) (M2 + 70 * t + 1) 37 [some (.ref 87), some (.int (j_k (r + 1))), none] [] (ST L p I (u2 J 87 38 (p_loop (fun i s => p_mix s (a_rv A r i)) (a_rz A r).toNat 0 (p_mix h (j_k (a_rz A r)))))) := by
      rw [hM2, x_exec, t_233_37]
      simp (disch := first | assumption | omega) only [k_add, k_sub, k_mul, k_lt, k_eq, k_lt0, k_0lt, k_eq0, k_nat, k_b0, k_b1, k_z1, k_z0, k_o1, k_o0, Int.reduceEq, Int.reduceLT, Int.reduceLE, Int.reduceAdd, Int.reduceMul, Int.reduceNeg, Bool.false_eq_true, or_true, true_or, or_false, false_or, and_true, true_and, and_false, false_and, not_true_eq_false, not_false_eq_true, ↓reduceIte, z_0, z_k, s_I, s_J, s_uI, s_uJ, z, ↓c_gP_87_5, ↓c_ia_89, hr, ↓c_oc_87, ↓jc0 mx]
      exact inr
    rw [one, p_loopS]
    rcases ih M2 (r + 1) (p_loop (fun i s => p_mix s (a_rv A r i)) (a_rz A r).toNat 0 (p_mix h (j_k (a_rz A r)))) (by omega) (by omega) with q | ⟨K, k1, q⟩
    · by_cases y : M2 = M
      · subst y
        exact Or.inl q
      · refine Or.inr ⟨M2 - M, by omega, ?_⟩
        rw [show M + (M2 - M) = M2 by omega]
        exact q
    · refine Or.inr ⟨M2 - M + K, by omega, ?_⟩
      rw [show M + (M2 - M + K) = M2 + K by omega]
      exact q
theorem n_dig3i (hx : iM I J A) : ∀ (t M : Nat) (r i : Int) (h : Int64), 0 ≤ r → r < 4 → 0 ≤ i → i + t = (if a_tz A r = -1 then 0 else a_tz A r) → j_exec k_233 h_233 (j_run (d + 4)) (M + t + 1) 109 [some (.ref 87), some (.int (j_k r)), some (.int (j_k i))] [] (ST L p I (u2 J 87 38 h)) = j_exec k_233 h_233 (j_run (d + 4)) M 91 [some (.ref 87), some (.int (j_k (r + 1))), none] [] (ST L p I (u2 J 87 38 (p_loop (fun i s => p_mix s (j_k (a_tv A r i))) t i h))) := by
  intro t
  induction t with
  | zero =>
    intro M r i h r1 r2 i1 i2
    have hr := (hx.2.2.1 r r1 r2).1
    have br := hx.1.2.2.2.2.1 r r1 r2
    have br1 := br.1
    have br2 := br.2
    have z : ¬ i < a_tz A r := by split at i2 <;> omega
    have i60 : i < 100 := by split at i2 <;> omega
    rw [x_exec, t_233_109]
    simp (disch := first | assumption | omega) only [k_add, k_sub, k_mul, k_lt, k_eq, k_lt0, k_0lt, k_eq0, k_nat, k_b0, k_b1, k_z1, k_z0, k_o1, k_o0, Int.reduceEq, Int.reduceLT, Int.reduceLE, Int.reduceAdd, Int.reduceMul, Int.reduceNeg, Bool.false_eq_true, or_true, true_or, or_false, false_or, and_true, true_and, and_false, false_and, not_true_eq_false, not_false_eq_true, ↓reduceIte, z_0, z_k, s_I, s_J, s_uI, s_uJ, ↓c_gP_87_8, ↓c_ia_92, hr, z]
    rfl
  | succ t ih =>
    intro M r i h r1 r2 i1 i2
    have hr := (hx.2.2.1 r r1 r2).1
    have br := hx.1.2.2.2.2.1 r r1 r2
    have br1 := br.1
    have br2 := br.2
    have z : i < a_tz A r := by split at i2 <;> omega
    have a := n_byteAt (L := L) (p := p) (d := d + 3) (hx.hash (h := h)) r1 r2 i1 (show i ≤ 80 by omega)
    rw [if_pos z] at a
    have mx := n_mix (L := L) (p := p) (d := d + 3) (I := I) (J := J) (h := h) (x := j_k (a_tv A r i))
    rw [show M + (t + 1) + 1 = (M + t + 1) + 1 by omega, x_exec, t_233_109, p_loopS]
    simp (disch := first | assumption | omega) only [k_add, k_sub, k_mul, k_lt, k_eq, k_lt0, k_0lt, k_eq0, k_nat, k_b0, k_b1, k_z1, k_z0, k_o1, k_o0, Int.reduceEq, Int.reduceLT, Int.reduceLE, Int.reduceAdd, Int.reduceMul, Int.reduceNeg, Bool.false_eq_true, or_true, true_or, or_false, false_or, and_true, true_and, and_false, false_and, not_true_eq_false, not_false_eq_true, ↓reduceIte, z_0, z_k, s_I, s_J, s_uI, s_uJ, ↓c_gP_87_8, ↓c_ia_92, hr, z, ↓c_oc_87, ↓jc1 a, ↓jc0 mx]
    exact ih M r (i + 1) _ r1 r2 (by omega) (by omega)
theorem n_dig3 (hx : iM I J A) : ∀ (t M : Nat) (r : Int) (h : Int64), 0 ≤ r → r + t = 4 → 90 * t < M → j_exec k_233 h_233 (j_run (d + 4)) M 91 [some (.ref 87), some (.int (j_k r)), none] [] (ST L p I (u2 J 87 38 h)) = some (some (.long (p_loop (fun r s => p_loop (fun i s => p_mix s (j_k (a_tv A r i))) (a_tz A r).toNat 0 (p_mix s (j_k (a_tz A r)))) t r h)), ST L p I (u2 J 87 38 (p_loop (fun r s => p_loop (fun i s => p_mix s (j_k (a_tv A r i))) (a_tz A r).toNat 0 (p_mix s (j_k (a_tz A r)))) t r h))) := by
  intro t
  induction t with
  | zero =>
    intro M r h r1 r2 hM
    obtain ⟨M, rfl⟩ : ∃ q, M = q + 1 := ⟨M - 1, by omega⟩
    have z : ¬ r < 4 := by omega
    rw [x_exec, t_233_91, p_loop0]
    simp (disch := first | assumption | omega) only [k_add, k_sub, k_mul, k_lt, k_eq, k_lt0, k_0lt, k_eq0, k_nat, k_b0, k_b1, k_z1, k_z0, k_o1, k_o0, Int.reduceEq, Int.reduceLT, Int.reduceLE, Int.reduceAdd, Int.reduceMul, Int.reduceNeg, Bool.false_eq_true, or_true, true_or, or_false, false_or, and_true, true_and, and_false, false_and, not_true_eq_false, not_false_eq_true, ↓reduceIte, z_0, z_k, s_I, s_J, s_uI, s_uJ, z, ↓c_oc_87, u2_ss]
  | succ t ih =>
    intro M r h r1 r2 hM
    have z : r < 4 := by omega
    have hr := (hx.2.2.1 r r1 z).1
    have br := hx.1.2.2.2.2.1 r r1 z
    have br1 := br.1
    have br2 := br.2
    have mx := n_mix (L := L) (p := p) (d := d + 3) (I := I) (J := J) (h := h) (x := j_k (a_tz A r))
    obtain ⟨M2, hM2⟩ : ∃ q, M = (q + (a_tz A r).toNat + 1) + 1 := ⟨M - 2 - (a_tz A r).toNat, by omega⟩
    have inr := n_dig3i (L := L) (p := p) (d := d) hx (a_tz A r).toNat M2 r 0 (p_mix h (j_k (a_tz A r))) r1 z (Int.le_refl 0) (by split <;> omega)
    rw [hM2, x_exec, t_233_91, p_loopS]
    simp (disch := first | assumption | omega) only [k_add, k_sub, k_mul, k_lt, k_eq, k_lt0, k_0lt, k_eq0, k_nat, k_b0, k_b1, k_z1, k_z0, k_o1, k_o0, Int.reduceEq, Int.reduceLT, Int.reduceLE, Int.reduceAdd, Int.reduceMul, Int.reduceNeg, Bool.false_eq_true, or_true, true_or, or_false, false_or, and_true, true_and, and_false, false_and, not_true_eq_false, not_false_eq_true, ↓reduceIte, z_0, z_k, s_I, s_J, s_uI, s_uJ, z, ↓c_gP_87_8, ↓c_ia_92, hr, ↓c_oc_87, ↓jc0 mx]
    exact inr.trans (ih M2 (r + 1) _ (by omega) (by omega) (by omega))
theorem n_digest (hx : iM I J A) : ∃ J', j_run (d + 5) 233 [.ref 87] (ST L p I J) = some (some (.long (p_digest A)), ST L p I J') ∧ iM I J' A ∧ ∀ r, r ≠ 87 → J' r = J r := by
  refine ⟨u2 J 87 38 (p_digest A), ?_, hx.hash, fun r a => by funext k; rw [u2_r a]⟩
  obtain ⟨M, hM, hM2⟩ : ∃ M, M = 999999 ∧ 5000 < M := ⟨999999, rfl, by decide⟩
  have e := (r_233 (d + 4) (ST L p I J) 87).trans (t_233_0 _ _ _ _)
  rw [← hM, if_pos (show (87 < j_b) from by decide), c_oc_87, l_17] at e
  have P : p_digest A = p_loop (fun r s => p_loop (fun i s => p_mix s (j_k (a_tv A r i))) (a_tz A r).toNat 0 (p_mix s (j_k (a_tz A r)))) 4 0 (p_loop (fun r s => p_loop (fun i s => p_mix s (a_rv A r i)) (a_rz A r).toNat 0 (p_mix s (j_k (a_rz A r)))) 6 0 (p_loop (fun k h => p_mix h (if a_kp A k = true then j_k (a_kf A k 0) else j_k (-1))) 3 0 (p_hashF A (p_loop (fun q h => p_mix h (j_k (p_countV q A))) 8 0 (j_cJ 1))))) := by
    unfold p_digest p_add
    rfl
  rw [P]
  obtain ⟨M1, hM1⟩ : ∃ q, M = (q + 70 * 6 + 1) + 8 + 1 ∧ 360 < q := ⟨M - 430, by omega, by omega⟩
  obtain ⟨hM1, hM3⟩ := hM1
  rw [hM1] at e
  have e1 := e.trans (n_dig1 (L := L) (p := p) (d := d) hx 8 (M1 + 70 * 6 + 1) 0 (j_cJ 1) (Int.le_refl 0) (by decide))
  clear e
  generalize p_loop (fun k h => p_mix h (if a_kp A k = true then j_k (a_kf A k 0) else j_k (-1))) 3 0 (p_hashF A (p_loop (fun q h => p_mix h (j_k (p_countV q A))) 8 0 (j_cJ 1))) = H at e1 ⊢
  rcases n_dig2 (L := L) (p := p) (d := d) hx 6 M1 0 H (Int.le_refl 0) (by decide) with q | ⟨K, k1, q⟩
  · exact e1.trans (q.trans (n_dig3 (L := L) (p := p) (d := d) hx 4 M1 0 _ (Int.le_refl 0) (by decide) hM3))
  · exact e1.trans (q.trans (n_dig3 (L := L) (p := p) (d := d) hx 4 (M1 + K) 0 _ (Int.le_refl 0) (by decide) (by omega)))
end MCALLS9
