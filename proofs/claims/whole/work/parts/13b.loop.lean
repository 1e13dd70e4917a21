/-! ===== the law's loop (by program wip/gen/s13.py) ===== -/
theorem c_ia_scr {L p : Nat} {I : Nat → Nat → Int32} {J : Nat → Nat → Int64} {K : Option Rr} {i : Int} (h1 : 0 ≤ i) (h2 : i < L) (h3 : L ≤ 100000) : j_ia (ST L p I J) 1000004 (j_k i) K = K := by
  have e : SH L 1000004 = some (.inr (.int, L)) := if_pos rfl
  unfold j_ia
  show (match SH L 1000004 with
    | some (.inr (.int, n)) => if j_in (j_k i) n then K else none
    | _ => none) = K
  rw [e]
  refine if_pos ⟨?_, ?_⟩
  · rw [k_lt0 (by omega) (by omega)]; omega
  · rw [k_nat (by omega) (by omega)]; omega
theorem c_len_scr {L p : Nat} {I : Nat → Nat → Int32} {J : Nat → Nat → Int64} {K : Int32 → Option Rr} : j_len (ST L p I J) 1000004 K = K (j_k L) := q_len' (if_pos rfl)
theorem law_loop {L d : Nat} (hL : L ≤ 100000) : ∀ (t M p : Nat) (i : Int) (I : Nat → Nat → Int32) (J : Nat → Nat → Int64) (A : Ast), 0 ≤ i → i ≤ 100000 → (L : Int) - 6 < i + 6 * t → t < M → iX I J A → iM I J A → ∃ p' I' J', j_exec k_236 h_236 (j_run (d + 14)) M 18 [some (.ref 1000004), some (.ref 0), some (.ref 87), some (.int (j_k i))] [] (ST L p I J) = some (some (.int (j_k 1)), ST L p' I' J') := by
  intro t
  induction t with
  | zero =>
    intro M p i I J A i0 i1 i2 hM hx hm
    obtain ⟨M, rfl⟩ : ∃ q, M = q + 1 := ⟨M - 1, by omega⟩
    have z : (L : Int) - 6 < i := by omega
    refine ⟨p, I, J, ?_⟩
    rw [x_exec, t_236_18, c_len_scr]
    simp (disch := first | assumption | omega) only [k_add, k_sub, k_mul, k_lt, k_eq, k_lt0, k_0lt, k_eq0, k_nat, k_b0, k_b1, k_z1, k_z0, k_o1, k_o0, Int.reduceEq, Int.reduceLT, Int.reduceLE, Int.reduceAdd, Int.reduceMul, Int.reduceNeg, Bool.false_eq_true, or_true, true_or, or_false, false_or, and_true, true_and, and_false, false_and, not_true_eq_false, not_false_eq_true, ↓reduceIte, z_0, z_k, s_I, s_J, s_uI, s_uJ, z]
  | succ t ih =>
    intro M p i I J A i0 i1 i2 hM hx hm
    obtain ⟨M, rfl⟩ : ∃ q, M = q + 1 := ⟨M - 1, by omega⟩
    by_cases z : (L : Int) - 6 < i
    · refine ⟨p, I, J, ?_⟩
      rw [x_exec, t_236_18, c_len_scr]
      simp (disch := first | assumption | omega) only [k_add, k_sub, k_mul, k_lt, k_eq, k_lt0, k_0lt, k_eq0, k_nat, k_b0, k_b1, k_z1, k_z0, k_o1, k_o0, Int.reduceEq, Int.reduceLT, Int.reduceLE, Int.reduceAdd, Int.reduceMul, Int.reduceNeg, Bool.false_eq_true, or_true, true_or, or_false, false_or, and_true, true_and, and_false, false_and, not_true_eq_false, not_false_eq_true, ↓reduceIte, z_0, z_k, s_I, s_J, s_uI, s_uJ, z]
    · have z' : i < (L : Int) - 5 := by omega
      have i3 : i + 6 ≤ L := by omega
      rw [x_exec, t_236_18, c_len_scr]
      rw [if_neg (show ¬ (j_k L - j_k 6 < j_k i) from by rw [k_sub, k_lt (by omega) (by omega) (by omega) (by omega)]; exact z), c_ia_scr i0 (by omega) hL]
      rw [show s_I (ST L p I J) 1000004 (j_k i).toNatClampNeg = I 1000004 i.toNat from by show I 1000004 (j_k i).toNatClampNeg = _; rw [k_nat (by omega) (by omega)]]
      generalize I 1000004 i.toNat &&& j_k 63 = op
      by_cases z0 : op = j_k 0
      · rw [if_pos z0]
        obtain ⟨w, p1, I1, J1, I2, J2, B, e1, s1, e2, s2, x2, m2⟩ := lw_0 (L := L) (p := p) (d := d) (v1 := I 1000004 (i + 1).toNat) (v2 := I 1000004 (i + 2).toNat) hx hm
        obtain ⟨p3, I3, J3, e3⟩ := ih M p1 (i + 6) I2 J2 B (by omega) (by omega) (by omega) (by omega) x2 m2
        refine ⟨p3, I3, J3, ?_⟩
        simp (disch := first | assumption | omega) only [k_add, k_sub, k_mul, k_lt, k_eq, k_lt0, k_0lt, k_eq0, k_nat, k_b0, k_b1, k_z1, k_z0, k_o1, k_o0, Int.reduceEq, Int.reduceLT, Int.reduceLE, Int.reduceAdd, Int.reduceMul, Int.reduceNeg, Bool.false_eq_true, or_true, true_or, or_false, false_or, and_true, true_and, and_false, false_and, not_true_eq_false, not_false_eq_true, ↓reduceIte, z_0, z_k, s_I, s_J, s_uI, s_uJ, ↓c_ia_scr, ↓c_oc_0, ↓jc1 e1, s1, ↓c_oc_87, ↓jc1 e2]
        exact e3
      rw [if_neg z0]
      by_cases z1 : op = j_k 1
      · rw [if_pos z1]
        obtain ⟨w, p1, I1, J1, I2, J2, B, e1, s1, e2, s2, x2, m2⟩ := lw_1 (L := L) (p := p) (d := d) (v1 := I 1000004 (i + 1).toNat) (v2 := I 1000004 (i + 2).toNat) (v3 := I 1000004 (i + 3).toNat) hx hm
        obtain ⟨p3, I3, J3, e3⟩ := ih M p1 (i + 6) I2 J2 B (by omega) (by omega) (by omega) (by omega) x2 m2
        refine ⟨p3, I3, J3, ?_⟩
        simp (disch := first | assumption | omega) only [k_add, k_sub, k_mul, k_lt, k_eq, k_lt0, k_0lt, k_eq0, k_nat, k_b0, k_b1, k_z1, k_z0, k_o1, k_o0, Int.reduceEq, Int.reduceLT, Int.reduceLE, Int.reduceAdd, Int.reduceMul, Int.reduceNeg, Bool.false_eq_true, or_true, true_or, or_false, false_or, and_true, true_and, and_false, false_and, not_true_eq_false, not_false_eq_true, ↓reduceIte, z_0, z_k, s_I, s_J, s_uI, s_uJ, ↓c_ia_scr, ↓c_oc_0, ↓jc1 e1, s1, ↓c_oc_87, ↓jc1 e2]
        exact e3
      rw [if_neg z1]
      by_cases z2 : op = j_k 2
      · rw [if_pos z2]
        obtain ⟨w, p1, I1, J1, I2, J2, B, e1, s1, e2, s2, x2, m2⟩ := lw_2 (L := L) (p := p) (d := d) (v1 := I 1000004 (i + 1).toNat) (v2 := I 1000004 (i + 2).toNat) hx hm
        obtain ⟨p3, I3, J3, e3⟩ := ih M p1 (i + 6) I2 J2 B (by omega) (by omega) (by omega) (by omega) x2 m2
        refine ⟨p3, I3, J3, ?_⟩
        simp (disch := first | assumption | omega) only [k_add, k_sub, k_mul, k_lt, k_eq, k_lt0, k_0lt, k_eq0, k_nat, k_b0, k_b1, k_z1, k_z0, k_o1, k_o0, Int.reduceEq, Int.reduceLT, Int.reduceLE, Int.reduceAdd, Int.reduceMul, Int.reduceNeg, Bool.false_eq_true, or_true, true_or, or_false, false_or, and_true, true_and, and_false, false_and, not_true_eq_false, not_false_eq_true, ↓reduceIte, z_0, z_k, s_I, s_J, s_uI, s_uJ, ↓c_ia_scr, ↓c_oc_0, ↓jc1 e1, s1, ↓c_oc_87, ↓jc1 e2]
        exact e3
      rw [if_neg z2]
      by_cases z3 : op = j_k 3
      · rw [if_pos z3]
        obtain ⟨w, p1, I1, J1, I2, J2, B, e1, s1, e2, s2, x2, m2⟩ := lw_3 (L := L) (p := p) (d := d) (v1 := I 1000004 (i + 1).toNat) hx hm
        obtain ⟨p3, I3, J3, e3⟩ := ih M p1 (i + 6) I2 J2 B (by omega) (by omega) (by omega) (by omega) x2 m2
        refine ⟨p3, I3, J3, ?_⟩
        simp (disch := first | assumption | omega) only [k_add, k_sub, k_mul, k_lt, k_eq, k_lt0, k_0lt, k_eq0, k_nat, k_b0, k_b1, k_z1, k_z0, k_o1, k_o0, Int.reduceEq, Int.reduceLT, Int.reduceLE, Int.reduceAdd, Int.reduceMul, Int.reduceNeg, Bool.false_eq_true, or_true, true_or, or_false, false_or, and_true, true_and, and_false, false_and, not_true_eq_false, not_false_eq_true, ↓reduceIte, z_0, z_k, s_I, s_J, s_uI, s_uJ, ↓c_ia_scr, ↓c_oc_0, ↓jc1 e1, s1, ↓c_oc_87, ↓jc1 e2]
        exact e3
      rw [if_neg z3]
      by_cases z4 : op = j_k 4
      · rw [if_pos z4]
        obtain ⟨w, p1, I1, J1, I2, J2, B, e1, s1, e2, s2, x2, m2⟩ := lw_4 (L := L) (p := p) (d := d) (v1 := I 1000004 (i + 1).toNat) (v2 := I 1000004 (i + 2).toNat) (v3 := I 1000004 (i + 3).toNat) (v4 := I 1000004 (i + 4).toNat) (v5 := I 1000004 (i + 5).toNat) hx hm
        obtain ⟨p3, I3, J3, e3⟩ := ih M p1 (i + 6) I2 J2 B (by omega) (by omega) (by omega) (by omega) x2 m2
        refine ⟨p3, I3, J3, ?_⟩
        simp (disch := first | assumption | omega) only [k_add, k_sub, k_mul, k_lt, k_eq, k_lt0, k_0lt, k_eq0, k_nat, k_b0, k_b1, k_z1, k_z0, k_o1, k_o0, Int.reduceEq, Int.reduceLT, Int.reduceLE, Int.reduceAdd, Int.reduceMul, Int.reduceNeg, Bool.false_eq_true, or_true, true_or, or_false, false_or, and_true, true_and, and_false, false_and, not_true_eq_false, not_false_eq_true, ↓reduceIte, z_0, z_k, s_I, s_J, s_uI, s_uJ, ↓c_ia_scr, ↓c_oc_0, ↓jc1 e1, s1, ↓c_oc_87, ↓jc1 e2]
        exact e3
      rw [if_neg z4]
      by_cases z5 : op = j_k 5
      · rw [if_pos z5]
        obtain ⟨w, p1, I1, J1, I2, J2, B, e1, s1, e2, s2, x2, m2⟩ := lw_5 (L := L) (p := p) (d := d) (v1 := I 1000004 (i + 1).toNat) hx hm
        obtain ⟨p3, I3, J3, e3⟩ := ih M p1 (i + 6) I2 J2 B (by omega) (by omega) (by omega) (by omega) x2 m2
        refine ⟨p3, I3, J3, ?_⟩
        simp (disch := first | assumption | omega) only [k_add, k_sub, k_mul, k_lt, k_eq, k_lt0, k_0lt, k_eq0, k_nat, k_b0, k_b1, k_z1, k_z0, k_o1, k_o0, Int.reduceEq, Int.reduceLT, Int.reduceLE, Int.reduceAdd, Int.reduceMul, Int.reduceNeg, Bool.false_eq_true, or_true, true_or, or_false, false_or, and_true, true_and, and_false, false_and, not_true_eq_false, not_false_eq_true, ↓reduceIte, z_0, z_k, s_I, s_J, s_uI, s_uJ, ↓c_ia_scr, ↓c_oc_0, ↓jc1 e1, s1, ↓c_oc_87, ↓jc1 e2]
        exact e3
      rw [if_neg z5]
      by_cases z6 : op = j_k 6
      · rw [if_pos z6]
        obtain ⟨w, p1, I1, J1, I2, J2, B, e1, s1, e2, s2, x2, m2⟩ := lw_6 (L := L) (p := p) (d := d) (v1 := I 1000004 (i + 1).toNat) (v2 := I 1000004 (i + 2).toNat) hx hm
        obtain ⟨p3, I3, J3, e3⟩ := ih M p1 (i + 6) I2 J2 B (by omega) (by omega) (by omega) (by omega) x2 m2
        refine ⟨p3, I3, J3, ?_⟩
        simp (disch := first | assumption | omega) only [k_add, k_sub, k_mul, k_lt, k_eq, k_lt0, k_0lt, k_eq0, k_nat, k_b0, k_b1, k_z1, k_z0, k_o1, k_o0, Int.reduceEq, Int.reduceLT, Int.reduceLE, Int.reduceAdd, Int.reduceMul, Int.reduceNeg, Bool.false_eq_true, or_true, true_or, or_false, false_or, and_true, true_and, and_false, false_and, not_true_eq_false, not_false_eq_true, ↓reduceIte, z_0, z_k, s_I, s_J, s_uI, s_uJ, ↓c_ia_scr, ↓c_oc_0, ↓jc1 e1, s1, ↓c_oc_87, ↓jc1 e2]
        exact e3
      rw [if_neg z6]
      by_cases z7 : op = j_k 7
      · rw [if_pos z7]
        obtain ⟨w, p1, I1, J1, I2, J2, B, e1, s1, e2, s2, x2, m2⟩ := lw_7 (L := L) (p := p) (d := d) (v1 := I 1000004 (i + 1).toNat) (v2 := I 1000004 (i + 2).toNat) (v3 := I 1000004 (i + 3).toNat) hx hm
        obtain ⟨p3, I3, J3, e3⟩ := ih M p1 (i + 6) I2 J2 B (by omega) (by omega) (by omega) (by omega) x2 m2
        refine ⟨p3, I3, J3, ?_⟩
        simp (disch := first | assumption | omega) only [k_add, k_sub, k_mul, k_lt, k_eq, k_lt0, k_0lt, k_eq0, k_nat, k_b0, k_b1, k_z1, k_z0, k_o1, k_o0, Int.reduceEq, Int.reduceLT, Int.reduceLE, Int.reduceAdd, Int.reduceMul, Int.reduceNeg, Bool.false_eq_true, or_true, true_or, or_false, false_or, and_true, true_and, and_false, false_and, not_true_eq_false, not_false_eq_true, ↓reduceIte, z_0, z_k, s_I, s_J, s_uI, s_uJ, ↓c_ia_scr, ↓c_oc_0, ↓jc1 e1, s1, ↓c_oc_87, ↓jc1 e2]
        exact e3
      rw [if_neg z7]
      by_cases z8 : op = j_k 8
      · rw [if_pos z8]
        obtain ⟨w, p1, I1, J1, I2, J2, B, e1, s1, e2, s2, x2, m2⟩ := lw_8 (L := L) (p := p) (d := d) (v1 := I 1000004 (i + 1).toNat) hx hm
        obtain ⟨p3, I3, J3, e3⟩ := ih M p1 (i + 6) I2 J2 B (by omega) (by omega) (by omega) (by omega) x2 m2
        refine ⟨p3, I3, J3, ?_⟩
        simp (disch := first | assumption | omega) only [k_add, k_sub, k_mul, k_lt, k_eq, k_lt0, k_0lt, k_eq0, k_nat, k_b0, k_b1, k_z1, k_z0, k_o1, k_o0, Int.reduceEq, Int.reduceLT, Int.reduceLE, Int.reduceAdd, Int.reduceMul, Int.reduceNeg, Bool.false_eq_true, or_true, true_or, or_false, false_or, and_true, true_and, and_false, false_and, not_true_eq_false, not_false_eq_true, ↓reduceIte, z_0, z_k, s_I, s_J, s_uI, s_uJ, ↓c_ia_scr, ↓c_oc_0, ↓jc1 e1, s1, ↓c_oc_87, ↓jc1 e2]
        exact e3
      rw [if_neg z8]
      by_cases z9 : op = j_k 9
      · rw [if_pos z9]
        obtain ⟨w, p1, I1, J1, I2, J2, B, e1, s1, e2, s2, x2, m2⟩ := lw_9 (L := L) (p := p) (d := d) (v1 := I 1000004 (i + 1).toNat) hx hm
        obtain ⟨p3, I3, J3, e3⟩ := ih M p1 (i + 6) I2 J2 B (by omega) (by omega) (by omega) (by omega) x2 m2
        refine ⟨p3, I3, J3, ?_⟩
        simp (disch := first | assumption | omega) only [k_add, k_sub, k_mul, k_lt, k_eq, k_lt0, k_0lt, k_eq0, k_nat, k_b0, k_b1, k_z1, k_z0, k_o1, k_o0, Int.reduceEq, Int.reduceLT, Int.reduceLE, Int.reduceAdd, Int.reduceMul, Int.reduceNeg, Bool.false_eq_true, or_true, true_or, or_false, false_or, and_true, true_and, and_false, false_and, not_true_eq_false, not_false_eq_true, ↓reduceIte, z_0, z_k, s_I, s_J, s_uI, s_uJ, ↓c_ia_scr, ↓c_oc_0, ↓jc1 e1, s1, ↓c_oc_87, ↓jc1 e2]
        exact e3
      rw [if_neg z9]
      by_cases z10 : op = j_k 10
      · rw [if_pos z10]
        obtain ⟨w, p1, I1, J1, I2, J2, B, e1, s1, e2, s2, x2, m2⟩ := lw_10 (L := L) (p := p) (d := d) (v1 := I 1000004 (i + 1).toNat) hx hm
        obtain ⟨p3, I3, J3, e3⟩ := ih M p1 (i + 6) I2 J2 B (by omega) (by omega) (by omega) (by omega) x2 m2
        refine ⟨p3, I3, J3, ?_⟩
        simp (disch := first | assumption | omega) only [k_add, k_sub, k_mul, k_lt, k_eq, k_lt0, k_0lt, k_eq0, k_nat, k_b0, k_b1, k_z1, k_z0, k_o1, k_o0, Int.reduceEq, Int.reduceLT, Int.reduceLE, Int.reduceAdd, Int.reduceMul, Int.reduceNeg, Bool.false_eq_true, or_true, true_or, or_false, false_or, and_true, true_and, and_false, false_and, not_true_eq_false, not_false_eq_true, ↓reduceIte, z_0, z_k, s_I, s_J, s_uI, s_uJ, ↓c_ia_scr, ↓c_oc_0, ↓jc1 e1, s1, ↓c_oc_87, ↓jc1 e2]
        exact e3
      rw [if_neg z10]
      by_cases z11 : op = j_k 11
      · rw [if_pos z11]
        obtain ⟨w, p1, I1, J1, I2, J2, B, e1, s1, e2, s2, x2, m2⟩ := lw_11 (L := L) (p := p) (d := d) (v1 := I 1000004 (i + 1).toNat) (v2 := I 1000004 (i + 2).toNat) hx hm
        obtain ⟨p3, I3, J3, e3⟩ := ih M p1 (i + 6) I2 J2 B (by omega) (by omega) (by omega) (by omega) x2 m2
        refine ⟨p3, I3, J3, ?_⟩
        simp (disch := first | assumption | omega) only [k_add, k_sub, k_mul, k_lt, k_eq, k_lt0, k_0lt, k_eq0, k_nat, k_b0, k_b1, k_z1, k_z0, k_o1, k_o0, Int.reduceEq, Int.reduceLT, Int.reduceLE, Int.reduceAdd, Int.reduceMul, Int.reduceNeg, Bool.false_eq_true, or_true, true_or, or_false, false_or, and_true, true_and, and_false, false_and, not_true_eq_false, not_false_eq_true, ↓reduceIte, z_0, z_k, s_I, s_J, s_uI, s_uJ, ↓c_ia_scr, ↓c_oc_0, ↓jc1 e1, s1, ↓c_oc_87, ↓jc1 e2]
        exact e3
      rw [if_neg z11]
      by_cases z12 : op = j_k 12
      · rw [if_pos z12]
        obtain ⟨w, p1, I1, J1, I2, J2, B, e1, s1, e2, s2, x2, m2⟩ := lw_12 (L := L) (p := p) (d := d) (v1 := I 1000004 (i + 1).toNat) (v2 := I 1000004 (i + 2).toNat) hx hm
        obtain ⟨p3, I3, J3, e3⟩ := ih M p1 (i + 6) I2 J2 B (by omega) (by omega) (by omega) (by omega) x2 m2
        refine ⟨p3, I3, J3, ?_⟩
        simp (disch := first | assumption | omega) only [k_add, k_sub, k_mul, k_lt, k_eq, k_lt0, k_0lt, k_eq0, k_nat, k_b0, k_b1, k_z1, k_z0, k_o1, k_o0, Int.reduceEq, Int.reduceLT, Int.reduceLE, Int.reduceAdd, Int.reduceMul, Int.reduceNeg, Bool.false_eq_true, or_true, true_or, or_false, false_or, and_true, true_and, and_false, false_and, not_true_eq_false, not_false_eq_true, ↓reduceIte, z_0, z_k, s_I, s_J, s_uI, s_uJ, ↓c_ia_scr, ↓c_oc_0, ↓jc1 e1, s1, ↓c_oc_87, ↓jc1 e2]
        exact e3
      rw [if_neg z12]
      by_cases z13 : op = j_k 13
      · rw [if_pos z13]
        obtain ⟨w, p1, I1, J1, I2, J2, B, e1, s1, e2, s2, x2, m2⟩ := lw_13 (L := L) (p := p) (d := d) (v1 := I 1000004 (i + 1).toNat) (v2 := I 1000004 (i + 2).toNat) hx hm
        obtain ⟨p3, I3, J3, e3⟩ := ih M p1 (i + 6) I2 J2 B (by omega) (by omega) (by omega) (by omega) x2 m2
        refine ⟨p3, I3, J3, ?_⟩
        simp (disch := first | assumption | omega) only [k_add, k_sub, k_mul, k_lt, k_eq, k_lt0, k_0lt, k_eq0, k_nat, k_b0, k_b1, k_z1, k_z0, k_o1, k_o0, Int.reduceEq, Int.reduceLT, Int.reduceLE, Int.reduceAdd, Int.reduceMul, Int.reduceNeg, Bool.false_eq_true, or_true, true_or, or_false, false_or, and_true, true_and, and_false, false_and, not_true_eq_false, not_false_eq_true, ↓reduceIte, z_0, z_k, s_I, s_J, s_uI, s_uJ, ↓c_ia_scr, ↓c_oc_0, ↓jc1 e1, s1, ↓c_oc_87, ↓jc1 e2]
        exact e3
      rw [if_neg z13]
      by_cases z14 : op = j_k 14
      · rw [if_pos z14]
        obtain ⟨w, p1, I1, J1, I2, J2, B, e1, s1, e2, s2, x2, m2⟩ := lw_14 (L := L) (p := p) (d := d) hx hm
        obtain ⟨p3, I3, J3, e3⟩ := ih M p1 (i + 6) I2 J2 B (by omega) (by omega) (by omega) (by omega) x2 m2
        refine ⟨p3, I3, J3, ?_⟩
        simp (disch := first | assumption | omega) only [k_add, k_sub, k_mul, k_lt, k_eq, k_lt0, k_0lt, k_eq0, k_nat, k_b0, k_b1, k_z1, k_z0, k_o1, k_o0, Int.reduceEq, Int.reduceLT, Int.reduceLE, Int.reduceAdd, Int.reduceMul, Int.reduceNeg, Bool.false_eq_true, or_true, true_or, or_false, false_or, and_true, true_and, and_false, false_and, not_true_eq_false, not_false_eq_true, ↓reduceIte, z_0, z_k, s_I, s_J, s_uI, s_uJ, ↓c_oc_0, ↓jc1 e1, ↓c_oc_87, ↓jc1 e2]
        exact e3
      rw [if_neg z14]
      by_cases z15 : op = j_k 15
      · rw [if_pos z15]
        obtain ⟨w, p1, I1, J1, I2, J2, B, e1, s1, e2, s2, x2, m2⟩ := lw_15 (L := L) (p := p) (d := d) (v1 := I 1000004 (i + 1).toNat) (v2 := I 1000004 (i + 2).toNat) hx hm
        obtain ⟨p3, I3, J3, e3⟩ := ih M p1 (i + 6) I2 J2 B (by omega) (by omega) (by omega) (by omega) x2 m2
        refine ⟨p3, I3, J3, ?_⟩
        simp (disch := first | assumption | omega) only [k_add, k_sub, k_mul, k_lt, k_eq, k_lt0, k_0lt, k_eq0, k_nat, k_b0, k_b1, k_z1, k_z0, k_o1, k_o0, Int.reduceEq, Int.reduceLT, Int.reduceLE, Int.reduceAdd, Int.reduceMul, Int.reduceNeg, Bool.false_eq_true, or_true, true_or, or_false, false_or, and_true, true_and, and_false, false_and, not_true_eq_false, not_false_eq_true, ↓reduceIte, z_0, z_k, s_I, s_J, s_uI, s_uJ, ↓c_ia_scr, ↓c_oc_0, ↓jc1 e1, s1, ↓c_oc_87, ↓jc1 e2]
        exact e3
      rw [if_neg z15]
      by_cases z16 : op = j_k 16
      · rw [if_pos z16]
        obtain ⟨w, p1, I1, J1, I2, J2, B, e1, s1, e2, s2, x2, m2⟩ := lw_16 (L := L) (p := p) (d := d) (v1 := I 1000004 (i + 1).toNat) hx hm
        obtain ⟨p3, I3, J3, e3⟩ := ih M p1 (i + 6) I2 J2 B (by omega) (by omega) (by omega) (by omega) x2 m2
        refine ⟨p3, I3, J3, ?_⟩
        simp (disch := first | assumption | omega) only [k_add, k_sub, k_mul, k_lt, k_eq, k_lt0, k_0lt, k_eq0, k_nat, k_b0, k_b1, k_z1, k_z0, k_o1, k_o0, Int.reduceEq, Int.reduceLT, Int.reduceLE, Int.reduceAdd, Int.reduceMul, Int.reduceNeg, Bool.false_eq_true, or_true, true_or, or_false, false_or, and_true, true_and, and_false, false_and, not_true_eq_false, not_false_eq_true, ↓reduceIte, z_0, z_k, s_I, s_J, s_uI, s_uJ, ↓c_ia_scr, ↓c_oc_0, ↓jc1 e1, s1, ↓c_oc_87, ↓jc1 e2]
        exact e3
      rw [if_neg z16]
      by_cases z17 : op = j_k 17
      · rw [if_pos z17]
        obtain ⟨w, p1, I1, J1, I2, J2, B, e1, s1, e2, s2, x2, m2⟩ := lw_17 (L := L) (p := p) (d := d) hx hm
        obtain ⟨p3, I3, J3, e3⟩ := ih M p1 (i + 6) I2 J2 B (by omega) (by omega) (by omega) (by omega) x2 m2
        refine ⟨p3, I3, J3, ?_⟩
        simp (disch := first | assumption | omega) only [k_add, k_sub, k_mul, k_lt, k_eq, k_lt0, k_0lt, k_eq0, k_nat, k_b0, k_b1, k_z1, k_z0, k_o1, k_o0, Int.reduceEq, Int.reduceLT, Int.reduceLE, Int.reduceAdd, Int.reduceMul, Int.reduceNeg, Bool.false_eq_true, or_true, true_or, or_false, false_or, and_true, true_and, and_false, false_and, not_true_eq_false, not_false_eq_true, ↓reduceIte, z_0, z_k, s_I, s_J, s_uI, s_uJ, ↓c_oc_0, ↓jc1 e1, ↓c_oc_87, ↓jc1 e2]
        exact e3
      rw [if_neg z17]
      by_cases z18 : op = j_k 18
      · rw [if_pos z18]
        obtain ⟨w, p1, I1, J1, I2, J2, B, e1, s1, e2, s2, x2, m2⟩ := lw_18 (L := L) (p := p) (d := d) hx hm
        obtain ⟨p3, I3, J3, e3⟩ := ih M p1 (i + 6) I2 J2 B (by omega) (by omega) (by omega) (by omega) x2 m2
        refine ⟨p3, I3, J3, ?_⟩
        simp (disch := first | assumption | omega) only [k_add, k_sub, k_mul, k_lt, k_eq, k_lt0, k_0lt, k_eq0, k_nat, k_b0, k_b1, k_z1, k_z0, k_o1, k_o0, Int.reduceEq, Int.reduceLT, Int.reduceLE, Int.reduceAdd, Int.reduceMul, Int.reduceNeg, Bool.false_eq_true, or_true, true_or, or_false, false_or, and_true, true_and, and_false, false_and, not_true_eq_false, not_false_eq_true, ↓reduceIte, z_0, z_k, s_I, s_J, s_uI, s_uJ, ↓c_oc_0, ↓jc1 e1, ↓c_oc_87, ↓jc1 e2]
        exact e3
      rw [if_neg z18]
      by_cases z19 : op = j_k 19
      · rw [if_pos z19]
        obtain ⟨w, p1, I1, J1, I2, J2, B, e1, s1, e2, s2, x2, m2⟩ := lw_19 (L := L) (p := p) (d := d) (v1 := I 1000004 (i + 1).toNat) hx hm
        obtain ⟨p3, I3, J3, e3⟩ := ih M p1 (i + 6) I2 J2 B (by omega) (by omega) (by omega) (by omega) x2 m2
        refine ⟨p3, I3, J3, ?_⟩
        simp (disch := first | assumption | omega) only [k_add, k_sub, k_mul, k_lt, k_eq, k_lt0, k_0lt, k_eq0, k_nat, k_b0, k_b1, k_z1, k_z0, k_o1, k_o0, Int.reduceEq, Int.reduceLT, Int.reduceLE, Int.reduceAdd, Int.reduceMul, Int.reduceNeg, Bool.false_eq_true, or_true, true_or, or_false, false_or, and_true, true_and, and_false, false_and, not_true_eq_false, not_false_eq_true, ↓reduceIte, z_0, z_k, s_I, s_J, s_uI, s_uJ, ↓c_ia_scr, ↓c_oc_0, ↓jc1 e1, s1, ↓c_oc_87, ↓jc1 e2]
        exact e3
      rw [if_neg z19]
      by_cases z20 : op = j_k 20
      · rw [if_pos z20]
        obtain ⟨w, p1, I1, J1, I2, J2, B, e1, s1, e2, s2, x2, m2⟩ := lw_20 (L := L) (p := p) (d := d) hx hm
        obtain ⟨p3, I3, J3, e3⟩ := ih M p1 (i + 6) I2 J2 B (by omega) (by omega) (by omega) (by omega) x2 m2
        refine ⟨p3, I3, J3, ?_⟩
        simp (disch := first | assumption | omega) only [k_add, k_sub, k_mul, k_lt, k_eq, k_lt0, k_0lt, k_eq0, k_nat, k_b0, k_b1, k_z1, k_z0, k_o1, k_o0, Int.reduceEq, Int.reduceLT, Int.reduceLE, Int.reduceAdd, Int.reduceMul, Int.reduceNeg, Bool.false_eq_true, or_true, true_or, or_false, false_or, and_true, true_and, and_false, false_and, not_true_eq_false, not_false_eq_true, ↓reduceIte, z_0, z_k, s_I, s_J, s_uI, s_uJ, ↓c_oc_0, ↓jc1 e1, ↓c_oc_87, ↓jc1 e2]
        exact e3
      rw [if_neg z20]
      by_cases z21 : op = j_k 21
      · rw [if_pos z21]
        obtain ⟨w, p1, I1, J1, I2, J2, B, e1, s1, e2, s2, x2, m2⟩ := lw_21 (L := L) (p := p) (d := d) (v1 := I 1000004 (i + 1).toNat) hx hm
        obtain ⟨p3, I3, J3, e3⟩ := ih M p1 (i + 6) I2 J2 B (by omega) (by omega) (by omega) (by omega) x2 m2
        refine ⟨p3, I3, J3, ?_⟩
        simp (disch := first | assumption | omega) only [k_add, k_sub, k_mul, k_lt, k_eq, k_lt0, k_0lt, k_eq0, k_nat, k_b0, k_b1, k_z1, k_z0, k_o1, k_o0, Int.reduceEq, Int.reduceLT, Int.reduceLE, Int.reduceAdd, Int.reduceMul, Int.reduceNeg, Bool.false_eq_true, or_true, true_or, or_false, false_or, and_true, true_and, and_false, false_and, not_true_eq_false, not_false_eq_true, ↓reduceIte, z_0, z_k, s_I, s_J, s_uI, s_uJ, ↓c_ia_scr, ↓c_oc_0, ↓jc1 e1, s1, ↓c_oc_87, ↓jc1 e2]
        exact e3
      rw [if_neg z21]
      by_cases z22 : op = j_k 22
      · rw [if_pos z22]
        obtain ⟨w, p1, I1, J1, I2, J2, B, e1, s1, e2, s2, x2, m2⟩ := lw_22 (L := L) (p := p) (d := d) (v1 := I 1000004 (i + 1).toNat) hx hm
        obtain ⟨p3, I3, J3, e3⟩ := ih M p1 (i + 6) I2 J2 B (by omega) (by omega) (by omega) (by omega) x2 m2
        refine ⟨p3, I3, J3, ?_⟩
        simp (disch := first | assumption | omega) only [k_add, k_sub, k_mul, k_lt, k_eq, k_lt0, k_0lt, k_eq0, k_nat, k_b0, k_b1, k_z1, k_z0, k_o1, k_o0, Int.reduceEq, Int.reduceLT, Int.reduceLE, Int.reduceAdd, Int.reduceMul, Int.reduceNeg, Bool.false_eq_true, or_true, true_or, or_false, false_or, and_true, true_and, and_false, false_and, not_true_eq_false, not_false_eq_true, ↓reduceIte, z_0, z_k, s_I, s_J, s_uI, s_uJ, ↓c_ia_scr, ↓c_oc_0, ↓jc1 e1, s1, ↓c_oc_87, ↓jc1 e2]
        exact e3
      rw [if_neg z22]
      by_cases z23 : op = j_k 23
      · rw [if_pos z23]
        obtain ⟨w, p1, I1, J1, I2, J2, B, e1, s1, e2, s2, x2, m2⟩ := lw_23 (L := L) (p := p) (d := d) hx hm
        obtain ⟨p3, I3, J3, e3⟩ := ih M p1 (i + 6) I2 J2 B (by omega) (by omega) (by omega) (by omega) x2 m2
        refine ⟨p3, I3, J3, ?_⟩
        simp (disch := first | assumption | omega) only [k_add, k_sub, k_mul, k_lt, k_eq, k_lt0, k_0lt, k_eq0, k_nat, k_b0, k_b1, k_z1, k_z0, k_o1, k_o0, Int.reduceEq, Int.reduceLT, Int.reduceLE, Int.reduceAdd, Int.reduceMul, Int.reduceNeg, Bool.false_eq_true, or_true, true_or, or_false, false_or, and_true, true_and, and_false, false_and, not_true_eq_false, not_false_eq_true, ↓reduceIte, z_0, z_k, s_I, s_J, s_uI, s_uJ, ↓c_oc_0, ↓jc1 e1, ↓c_oc_87, ↓jc1 e2]
        exact e3
      rw [if_neg z23]
      by_cases z24 : op = j_k 24
      · rw [if_pos z24]
        obtain ⟨w, p1, I1, J1, I2, J2, B, e1, s1, e2, s2, x2, m2⟩ := lw_24 (L := L) (p := p) (d := d) (v1 := I 1000004 (i + 1).toNat) hx hm
        obtain ⟨p3, I3, J3, e3⟩ := ih M p1 (i + 6) I2 J2 B (by omega) (by omega) (by omega) (by omega) x2 m2
        refine ⟨p3, I3, J3, ?_⟩
        simp (disch := first | assumption | omega) only [k_add, k_sub, k_mul, k_lt, k_eq, k_lt0, k_0lt, k_eq0, k_nat, k_b0, k_b1, k_z1, k_z0, k_o1, k_o0, Int.reduceEq, Int.reduceLT, Int.reduceLE, Int.reduceAdd, Int.reduceMul, Int.reduceNeg, Bool.false_eq_true, or_true, true_or, or_false, false_or, and_true, true_and, and_false, false_and, not_true_eq_false, not_false_eq_true, ↓reduceIte, z_0, z_k, s_I, s_J, s_uI, s_uJ, ↓c_ia_scr, ↓c_oc_0, ↓jc1 e1, s1, ↓c_oc_87, ↓jc1 e2]
        exact e3
      rw [if_neg z24]
      by_cases z25 : op = j_k 25
      · rw [if_pos z25]
        obtain ⟨w, p1, I1, J1, I2, J2, B, e1, s1, e2, s2, x2, m2⟩ := lw_25 (L := L) (p := p) (d := d) hx hm
        obtain ⟨p3, I3, J3, e3⟩ := ih M p1 (i + 6) I2 J2 B (by omega) (by omega) (by omega) (by omega) x2 m2
        refine ⟨p3, I3, J3, ?_⟩
        simp (disch := first | assumption | omega) only [k_add, k_sub, k_mul, k_lt, k_eq, k_lt0, k_0lt, k_eq0, k_nat, k_b0, k_b1, k_z1, k_z0, k_o1, k_o0, Int.reduceEq, Int.reduceLT, Int.reduceLE, Int.reduceAdd, Int.reduceMul, Int.reduceNeg, Bool.false_eq_true, or_true, true_or, or_false, false_or, and_true, true_and, and_false, false_and, not_true_eq_false, not_false_eq_true, ↓reduceIte, z_0, z_k, s_I, s_J, s_uI, s_uJ, ↓c_oc_0, ↓jc1 e1, ↓c_oc_87, ↓jc1 e2]
        exact e3
      rw [if_neg z25]
      by_cases z26 : op = j_k 26
      · rw [if_pos z26]
        obtain ⟨w, p1, I1, J1, I2, J2, B, e1, s1, e2, s2, x2, m2⟩ := lw_26 (L := L) (p := p) (d := d) (v1 := I 1000004 (i + 1).toNat) (v2 := I 1000004 (i + 2).toNat) hx hm
        obtain ⟨p3, I3, J3, e3⟩ := ih M p1 (i + 6) I2 J2 B (by omega) (by omega) (by omega) (by omega) x2 m2
        refine ⟨p3, I3, J3, ?_⟩
        simp (disch := first | assumption | omega) only [k_add, k_sub, k_mul, k_lt, k_eq, k_lt0, k_0lt, k_eq0, k_nat, k_b0, k_b1, k_z1, k_z0, k_o1, k_o0, Int.reduceEq, Int.reduceLT, Int.reduceLE, Int.reduceAdd, Int.reduceMul, Int.reduceNeg, Bool.false_eq_true, or_true, true_or, or_false, false_or, and_true, true_and, and_false, false_and, not_true_eq_false, not_false_eq_true, ↓reduceIte, z_0, z_k, s_I, s_J, s_uI, s_uJ, ↓c_ia_scr, ↓c_oc_0, ↓jc1 e1, s1, ↓c_oc_87, ↓jc1 e2]
        exact e3
      rw [if_neg z26]
      by_cases z27 : op = j_k 27
      · rw [if_pos z27]
        obtain ⟨w, p1, I1, J1, I2, J2, B, e1, s1, e2, s2, x2, m2⟩ := lw_27 (L := L) (p := p) (d := d) (v1 := I 1000004 (i + 1).toNat) (v2 := I 1000004 (i + 2).toNat) hx hm
        obtain ⟨p3, I3, J3, e3⟩ := ih M p1 (i + 6) I2 J2 B (by omega) (by omega) (by omega) (by omega) x2 m2
        refine ⟨p3, I3, J3, ?_⟩
        simp (disch := first | assumption | omega) only [k_add, k_sub, k_mul, k_lt, k_eq, k_lt0, k_0lt, k_eq0, k_nat, k_b0, k_b1, k_z1, k_z0, k_o1, k_o0, Int.reduceEq, Int.reduceLT, Int.reduceLE, Int.reduceAdd, Int.reduceMul, Int.reduceNeg, Bool.false_eq_true, or_true, true_or, or_false, false_or, and_true, true_and, and_false, false_and, not_true_eq_false, not_false_eq_true, ↓reduceIte, z_0, z_k, s_I, s_J, s_uI, s_uJ, ↓c_ia_scr, ↓c_oc_0, ↓jc1 e1, s1, ↓c_oc_87, ↓jc1 e2]
        exact e3
      rw [if_neg z27]
      by_cases z28 : op = j_k 28
      · rw [if_pos z28]
        obtain ⟨w, p1, I1, J1, I2, J2, B, e1, s1, e2, s2, x2, m2⟩ := lw_28 (L := L) (p := p) (d := d) (v1 := I 1000004 (i + 1).toNat) hx hm
        obtain ⟨p3, I3, J3, e3⟩ := ih M p1 (i + 6) I2 J2 B (by omega) (by omega) (by omega) (by omega) x2 m2
        refine ⟨p3, I3, J3, ?_⟩
        simp (disch := first | assumption | omega) only [k_add, k_sub, k_mul, k_lt, k_eq, k_lt0, k_0lt, k_eq0, k_nat, k_b0, k_b1, k_z1, k_z0, k_o1, k_o0, Int.reduceEq, Int.reduceLT, Int.reduceLE, Int.reduceAdd, Int.reduceMul, Int.reduceNeg, Bool.false_eq_true, or_true, true_or, or_false, false_or, and_true, true_and, and_false, false_and, not_true_eq_false, not_false_eq_true, ↓reduceIte, z_0, z_k, s_I, s_J, s_uI, s_uJ, ↓c_ia_scr, ↓c_oc_0, ↓jc1 e1, s1, ↓c_oc_87, ↓jc1 e2]
        exact e3
      rw [if_neg z28]
      by_cases z29 : op = j_k 29
      · rw [if_pos z29]
        obtain ⟨w, p1, I1, J1, I2, J2, B, e1, s1, e2, s2, x2, m2⟩ := lw_29 (L := L) (p := p) (d := d) (v1 := I 1000004 (i + 1).toNat) hx hm
        obtain ⟨p3, I3, J3, e3⟩ := ih M p1 (i + 6) I2 J2 B (by omega) (by omega) (by omega) (by omega) x2 m2
        refine ⟨p3, I3, J3, ?_⟩
        simp (disch := first | assumption | omega) only [k_add, k_sub, k_mul, k_lt, k_eq, k_lt0, k_0lt, k_eq0, k_nat, k_b0, k_b1, k_z1, k_z0, k_o1, k_o0, Int.reduceEq, Int.reduceLT, Int.reduceLE, Int.reduceAdd, Int.reduceMul, Int.reduceNeg, Bool.false_eq_true, or_true, true_or, or_false, false_or, and_true, true_and, and_false, false_and, not_true_eq_false, not_false_eq_true, ↓reduceIte, z_0, z_k, s_I, s_J, s_uI, s_uJ, ↓c_ia_scr, ↓c_oc_0, ↓jc1 e1, s1, ↓c_oc_87, ↓jc1 e2]
        exact e3
      rw [if_neg z29]
      by_cases z30 : op = j_k 30
      · rw [if_pos z30]
        obtain ⟨w, p1, I1, J1, I2, J2, B, e1, s1, e2, s2, x2, m2⟩ := lw_30 (L := L) (p := p) (d := d) (v1 := I 1000004 (i + 1).toNat) (v2 := I 1000004 (i + 2).toNat) hx hm
        obtain ⟨p3, I3, J3, e3⟩ := ih M p1 (i + 6) I2 J2 B (by omega) (by omega) (by omega) (by omega) x2 m2
        refine ⟨p3, I3, J3, ?_⟩
        simp (disch := first | assumption | omega) only [k_add, k_sub, k_mul, k_lt, k_eq, k_lt0, k_0lt, k_eq0, k_nat, k_b0, k_b1, k_z1, k_z0, k_o1, k_o0, Int.reduceEq, Int.reduceLT, Int.reduceLE, Int.reduceAdd, Int.reduceMul, Int.reduceNeg, Bool.false_eq_true, or_true, true_or, or_false, false_or, and_true, true_and, and_false, false_and, not_true_eq_false, not_false_eq_true, ↓reduceIte, z_0, z_k, s_I, s_J, s_uI, s_uJ, ↓c_ia_scr, ↓c_oc_0, ↓jc1 e1, s1, ↓c_oc_87, ↓jc1 e2]
        exact e3
      rw [if_neg z30]
      by_cases z31 : op = j_k 31
      · rw [if_pos z31]
        obtain ⟨w, p1, I1, J1, I2, J2, B, e1, s1, e2, s2, x2, m2⟩ := lw_31 (L := L) (p := p) (d := d) hx hm
        obtain ⟨p3, I3, J3, e3⟩ := ih M p1 (i + 6) I2 J2 B (by omega) (by omega) (by omega) (by omega) x2 m2
        refine ⟨p3, I3, J3, ?_⟩
        simp (disch := first | assumption | omega) only [k_add, k_sub, k_mul, k_lt, k_eq, k_lt0, k_0lt, k_eq0, k_nat, k_b0, k_b1, k_z1, k_z0, k_o1, k_o0, Int.reduceEq, Int.reduceLT, Int.reduceLE, Int.reduceAdd, Int.reduceMul, Int.reduceNeg, Bool.false_eq_true, or_true, true_or, or_false, false_or, and_true, true_and, and_false, false_and, not_true_eq_false, not_false_eq_true, ↓reduceIte, z_0, z_k, s_I, s_J, s_uI, s_uJ, ↓c_oc_0, ↓jc1 e1, ↓c_oc_87, ↓jc1 e2]
        exact e3
      rw [if_neg z31]
      by_cases z32 : op = j_k 32
      · rw [if_pos z32]
        obtain ⟨w, p1, I1, J1, I2, J2, B, e1, s1, e2, s2, x2, m2⟩ := lw_32 (L := L) (p := p) (d := d) (v1 := I 1000004 (i + 1).toNat) (v2 := I 1000004 (i + 2).toNat) hx hm
        obtain ⟨p3, I3, J3, e3⟩ := ih M p1 (i + 6) I2 J2 B (by omega) (by omega) (by omega) (by omega) x2 m2
        refine ⟨p3, I3, J3, ?_⟩
        simp (disch := first | assumption | omega) only [k_add, k_sub, k_mul, k_lt, k_eq, k_lt0, k_0lt, k_eq0, k_nat, k_b0, k_b1, k_z1, k_z0, k_o1, k_o0, Int.reduceEq, Int.reduceLT, Int.reduceLE, Int.reduceAdd, Int.reduceMul, Int.reduceNeg, Bool.false_eq_true, or_true, true_or, or_false, false_or, and_true, true_and, and_false, false_and, not_true_eq_false, not_false_eq_true, ↓reduceIte, z_0, z_k, s_I, s_J, s_uI, s_uJ, ↓c_ia_scr, ↓c_oc_0, ↓jc1 e1, s1, ↓c_oc_87, ↓jc1 e2]
        exact e3
      rw [if_neg z32]
      by_cases z33 : op = j_k 33
      · rw [if_pos z33]
        obtain ⟨w, p1, I1, J1, I2, J2, B, e1, s1, e2, s2, x2, m2⟩ := lw_33 (L := L) (p := p) (d := d) (v1 := I 1000004 (i + 1).toNat) hx hm
        obtain ⟨p3, I3, J3, e3⟩ := ih M p1 (i + 6) I2 J2 B (by omega) (by omega) (by omega) (by omega) x2 m2
        refine ⟨p3, I3, J3, ?_⟩
        simp (disch := first | assumption | omega) only [k_add, k_sub, k_mul, k_lt, k_eq, k_lt0, k_0lt, k_eq0, k_nat, k_b0, k_b1, k_z1, k_z0, k_o1, k_o0, Int.reduceEq, Int.reduceLT, Int.reduceLE, Int.reduceAdd, Int.reduceMul, Int.reduceNeg, Bool.false_eq_true, or_true, true_or, or_false, false_or, and_true, true_and, and_false, false_and, not_true_eq_false, not_false_eq_true, ↓reduceIte, z_0, z_k, s_I, s_J, s_uI, s_uJ, ↓c_ia_scr, ↓c_oc_0, ↓jc1 e1, s1, ↓c_oc_87, ↓jc1 e2]
        exact e3
      rw [if_neg z33]
      by_cases z34 : op = j_k 34
      · rw [if_pos z34]
        obtain ⟨w, p1, I1, J1, I2, J2, B, e1, s1, e2, s2, x2, m2⟩ := lw_34 (L := L) (p := p) (d := d) (v1 := I 1000004 (i + 1).toNat) hx hm
        obtain ⟨p3, I3, J3, e3⟩ := ih M p1 (i + 6) I2 J2 B (by omega) (by omega) (by omega) (by omega) x2 m2
        refine ⟨p3, I3, J3, ?_⟩
        simp (disch := first | assumption | omega) only [k_add, k_sub, k_mul, k_lt, k_eq, k_lt0, k_0lt, k_eq0, k_nat, k_b0, k_b1, k_z1, k_z0, k_o1, k_o0, Int.reduceEq, Int.reduceLT, Int.reduceLE, Int.reduceAdd, Int.reduceMul, Int.reduceNeg, Bool.false_eq_true, or_true, true_or, or_false, false_or, and_true, true_and, and_false, false_and, not_true_eq_false, not_false_eq_true, ↓reduceIte, z_0, z_k, s_I, s_J, s_uI, s_uJ, ↓c_ia_scr, ↓c_oc_0, ↓jc1 e1, s1, ↓c_oc_87, ↓jc1 e2]
        exact e3
      rw [if_neg z34]
      by_cases z35 : op = j_k 35
      · rw [if_pos z35]
        obtain ⟨w, p1, I1, J1, I2, J2, B, e1, s1, e2, s2, x2, m2⟩ := lw_35 (L := L) (p := p) (d := d) (v1 := I 1000004 (i + 1).toNat) hx hm
        obtain ⟨p3, I3, J3, e3⟩ := ih M p1 (i + 6) I2 J2 B (by omega) (by omega) (by omega) (by omega) x2 m2
        refine ⟨p3, I3, J3, ?_⟩
        simp (disch := first | assumption | omega) only [k_add, k_sub, k_mul, k_lt, k_eq, k_lt0, k_0lt, k_eq0, k_nat, k_b0, k_b1, k_z1, k_z0, k_o1, k_o0, Int.reduceEq, Int.reduceLT, Int.reduceLE, Int.reduceAdd, Int.reduceMul, Int.reduceNeg, Bool.false_eq_true, or_true, true_or, or_false, false_or, and_true, true_and, and_false, false_and, not_true_eq_false, not_false_eq_true, ↓reduceIte, z_0, z_k, s_I, s_J, s_uI, s_uJ, ↓c_ia_scr, ↓c_oc_0, ↓jc1 e1, s1, ↓c_oc_87, ↓jc1 e2]
        exact e3
      rw [if_neg z35]
      by_cases z36 : op = j_k 36
      · rw [if_pos z36]
        obtain ⟨w, p1, I1, J1, I2, J2, B, e1, s1, e2, s2, x2, m2⟩ := lw_36 (L := L) (p := p) (d := d) hx hm
        obtain ⟨p3, I3, J3, e3⟩ := ih M p1 (i + 6) I2 J2 B (by omega) (by omega) (by omega) (by omega) x2 m2
        refine ⟨p3, I3, J3, ?_⟩
        simp (disch := first | assumption | omega) only [k_add, k_sub, k_mul, k_lt, k_eq, k_lt0, k_0lt, k_eq0, k_nat, k_b0, k_b1, k_z1, k_z0, k_o1, k_o0, Int.reduceEq, Int.reduceLT, Int.reduceLE, Int.reduceAdd, Int.reduceMul, Int.reduceNeg, Bool.false_eq_true, or_true, true_or, or_false, false_or, and_true, true_and, and_false, false_and, not_true_eq_false, not_false_eq_true, ↓reduceIte, z_0, z_k, s_I, s_J, s_uI, s_uJ, ↓c_oc_0, ↓jc1 e1, ↓c_oc_87, ↓jc1 e2]
        exact e3
      rw [if_neg z36]
      by_cases z37 : op = j_k 37
      · rw [if_pos z37]
        obtain ⟨w, p1, I1, J1, I2, J2, B, e1, s1, e2, s2, x2, m2⟩ := lw_37 (L := L) (p := p) (d := d) hx hm
        obtain ⟨p3, I3, J3, e3⟩ := ih M p1 (i + 6) I2 J2 B (by omega) (by omega) (by omega) (by omega) x2 m2
        refine ⟨p3, I3, J3, ?_⟩
        simp (disch := first | assumption | omega) only [k_add, k_sub, k_mul, k_lt, k_eq, k_lt0, k_0lt, k_eq0, k_nat, k_b0, k_b1, k_z1, k_z0, k_o1, k_o0, Int.reduceEq, Int.reduceLT, Int.reduceLE, Int.reduceAdd, Int.reduceMul, Int.reduceNeg, Bool.false_eq_true, or_true, true_or, or_false, false_or, and_true, true_and, and_false, false_and, not_true_eq_false, not_false_eq_true, ↓reduceIte, z_0, z_k, s_I, s_J, s_uI, s_uJ, ↓c_oc_0, ↓jc2 e1, ↓c_oc_87, ↓jc2 e2, lc_eq]
        exact e3
      rw [if_neg z37]
      by_cases z38 : op = j_k 38
      · rw [if_pos z38]
        obtain ⟨w, p1, I1, J1, I2, J2, B, e1, s1, e2, s2, x2, m2⟩ := lw_38 (L := L) (p := p) (d := d) hx hm
        obtain ⟨p3, I3, J3, e3⟩ := ih M p1 (i + 6) I2 J2 B (by omega) (by omega) (by omega) (by omega) x2 m2
        refine ⟨p3, I3, J3, ?_⟩
        simp (disch := first | assumption | omega) only [k_add, k_sub, k_mul, k_lt, k_eq, k_lt0, k_0lt, k_eq0, k_nat, k_b0, k_b1, k_z1, k_z0, k_o1, k_o0, Int.reduceEq, Int.reduceLT, Int.reduceLE, Int.reduceAdd, Int.reduceMul, Int.reduceNeg, Bool.false_eq_true, or_true, true_or, or_false, false_or, and_true, true_and, and_false, false_and, not_true_eq_false, not_false_eq_true, ↓reduceIte, z_0, z_k, s_I, s_J, s_uI, s_uJ, ↓c_oc_0, ↓jc2 e1, ↓c_oc_87, ↓jc2 e2, lc_eq]
        exact e3
      rw [if_neg z38]
      by_cases z39 : op = j_k 39
      · rw [if_pos z39]
        obtain ⟨w, p1, I1, J1, I2, J2, B, e1, s1, e2, s2, x2, m2⟩ := lw_39 (L := L) (p := p) (d := d) (v1 := I 1000004 (i + 1).toNat) hx hm
        obtain ⟨p3, I3, J3, e3⟩ := ih M p1 (i + 6) I2 J2 B (by omega) (by omega) (by omega) (by omega) x2 m2
        refine ⟨p3, I3, J3, ?_⟩
        simp (disch := first | assumption | omega) only [k_add, k_sub, k_mul, k_lt, k_eq, k_lt0, k_0lt, k_eq0, k_nat, k_b0, k_b1, k_z1, k_z0, k_o1, k_o0, Int.reduceEq, Int.reduceLT, Int.reduceLE, Int.reduceAdd, Int.reduceMul, Int.reduceNeg, Bool.false_eq_true, or_true, true_or, or_false, false_or, and_true, true_and, and_false, false_and, not_true_eq_false, not_false_eq_true, ↓reduceIte, z_0, z_k, s_I, s_J, s_uI, s_uJ, ↓c_ia_scr, ↓c_oc_0, ↓jc1 e1, s1, ↓c_oc_87, ↓jc1 e2]
        exact e3
      rw [if_neg z39]
      by_cases z40 : op = j_k 40
      · rw [if_pos z40]
        obtain ⟨w, p1, I1, J1, I2, J2, B, e1, s1, e2, s2, x2, m2⟩ := lw_40 (L := L) (p := p) (d := d) hx hm
        obtain ⟨p3, I3, J3, e3⟩ := ih M p1 (i + 6) I2 J2 B (by omega) (by omega) (by omega) (by omega) x2 m2
        refine ⟨p3, I3, J3, ?_⟩
        simp (disch := first | assumption | omega) only [k_add, k_sub, k_mul, k_lt, k_eq, k_lt0, k_0lt, k_eq0, k_nat, k_b0, k_b1, k_z1, k_z0, k_o1, k_o0, Int.reduceEq, Int.reduceLT, Int.reduceLE, Int.reduceAdd, Int.reduceMul, Int.reduceNeg, Bool.false_eq_true, or_true, true_or, or_false, false_or, and_true, true_and, and_false, false_and, not_true_eq_false, not_false_eq_true, ↓reduceIte, z_0, z_k, s_I, s_J, s_uI, s_uJ, ↓c_oc_0, ↓jc1 e1, ↓c_oc_87, ↓jc1 e2]
        exact e3
      rw [if_neg z40]
      by_cases z41 : op = j_k 41
      · rw [if_pos z41]
        obtain ⟨w, p1, I1, J1, I2, J2, B, e1, s1, e2, s2, x2, m2⟩ := lw_41 (L := L) (p := p) (d := d) (v1 := I 1000004 (i + 1).toNat) hx hm
        obtain ⟨p3, I3, J3, e3⟩ := ih M p1 (i + 6) I2 J2 B (by omega) (by omega) (by omega) (by omega) x2 m2
        refine ⟨p3, I3, J3, ?_⟩
        simp (disch := first | assumption | omega) only [k_add, k_sub, k_mul, k_lt, k_eq, k_lt0, k_0lt, k_eq0, k_nat, k_b0, k_b1, k_z1, k_z0, k_o1, k_o0, Int.reduceEq, Int.reduceLT, Int.reduceLE, Int.reduceAdd, Int.reduceMul, Int.reduceNeg, Bool.false_eq_true, or_true, true_or, or_false, false_or, and_true, true_and, and_false, false_and, not_true_eq_false, not_false_eq_true, ↓reduceIte, z_0, z_k, s_I, s_J, s_uI, s_uJ, ↓c_ia_scr, ↓c_oc_0, ↓jc1 e1, s1, ↓c_oc_87, ↓jc1 e2]
        exact e3
      rw [if_neg z41]
      by_cases z42 : op = j_k 42
      · rw [if_pos z42]
        obtain ⟨w, p1, I1, J1, I2, J2, B, e1, s1, e2, s2, x2, m2⟩ := lw_42 (L := L) (p := p) (d := d) hx hm
        obtain ⟨p3, I3, J3, e3⟩ := ih M p1 (i + 6) I2 J2 B (by omega) (by omega) (by omega) (by omega) x2 m2
        refine ⟨p3, I3, J3, ?_⟩
        simp (disch := first | assumption | omega) only [k_add, k_sub, k_mul, k_lt, k_eq, k_lt0, k_0lt, k_eq0, k_nat, k_b0, k_b1, k_z1, k_z0, k_o1, k_o0, Int.reduceEq, Int.reduceLT, Int.reduceLE, Int.reduceAdd, Int.reduceMul, Int.reduceNeg, Bool.false_eq_true, or_true, true_or, or_false, false_or, and_true, true_and, and_false, false_and, not_true_eq_false, not_false_eq_true, ↓reduceIte, z_0, z_k, s_I, s_J, s_uI, s_uJ, ↓c_oc_0, ↓jc2 e1, ↓c_oc_87, ↓jc2 e2, lc_eq]
        exact e3
      rw [if_neg z42]
      obtain ⟨p3, I3, J3, e3⟩ := ih M p (i + 6) I J A (by omega) (by omega) (by omega) (by omega) hx hm
      refine ⟨p3, I3, J3, ?_⟩
      simp (disch := first | assumption | omega) only [k_add, k_sub, k_mul, k_lt, k_eq, k_lt0, k_0lt, k_eq0, k_nat, k_b0, k_b1, k_z1, k_z0, k_o1, k_o0, Int.reduceEq, Int.reduceLT, Int.reduceLE, Int.reduceAdd, Int.reduceMul, Int.reduceNeg, Bool.false_eq_true, or_true, true_or, or_false, false_or, and_true, true_and, and_false, false_and, not_true_eq_false, not_false_eq_true, ↓reduceIte, z_0, z_k, s_I, s_J, s_uI, s_uJ, ]
      exact e3
