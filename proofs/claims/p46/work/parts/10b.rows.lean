/-! ===== the class's calls: rows, texts ===== -/
def p_miss (C : Int) (z : Int → Int) (r : Int) (A : Ast) : Int × Ast := if 0 ≤ r ∧ r < C then (if z r = -1 then p_meets 1 A else (0, A)) else (-1, A)
def p_place (C : Int) (z : Int → Int) (r i : Int) (A : Ast) : Int × Ast := if (p_miss C z r A).1 = 0 then (if 0 ≤ i ∧ i < z r then (0, A) else p_meets 2 A) else p_miss C z r A
def p_row (r n : Int) (A : Ast) : Int × Ast := if (0 ≤ r ∧ r < 6) ∧ n ≤ 60 then (if n < 0 then p_meets 5 A else (n, A_rv (A_rz A (f2 (a_rz A) r n)) (f2 (a_rv A) r (fun _ => 0)))) else (-1, A)
def p_lay1 (r i : Int) (v : Int32) (A : Ast) : Int × Ast := if (p_place 6 (a_rz A) r i A).1 = 0 then (1, A_told (A_rv A (f2 (a_rv A) r (f2 (a_rv A r) i v))) (a_rv A r i)) else p_place 6 (a_rz A) r i A
def p_at1 (r i : Int) (A : Ast) : Int × Ast := if (p_place 6 (a_rz A) r i A).1 = 0 then (1, A_told A (a_rv A r i)) else p_place 6 (a_rz A) r i A
def p_tear (r : Int) (A : Ast) : Int × Ast := if (p_miss 6 (a_rz A) r A).1 = 0 then (1, A_rz A (f2 (a_rz A) r (-1))) else p_miss 6 (a_rz A) r A
def p_text (t n : Int) (A : Ast) : Int × Ast := if (0 ≤ t ∧ t < 4) ∧ n ≤ 80 then (if n < 0 then p_meets 5 A else (n, A_tv (A_tz A (f2 (a_tz A) t n)) (f2 (a_tv A) t (fun _ => 32)))) else (-1, A)
def p_byte (v : Int32) : Int := v.toInt8.toInt32.toInt
def p_put (t i : Int) (v : Int32) (A : Ast) : Int × Ast := if (p_place 4 (a_tz A) t i A).1 = 0 then (a_tv A t i + 1000, A_tv A (f2 (a_tv A) t (f2 (a_tv A t) i (p_byte v)))) else p_place 4 (a_tz A) t i A
/-- a call of the class: its answer, what it leaves -/
def xc (L p : Nat) (I : Nat → Nat → Int32) (J : Nat → Nat → Int64) (d m : Nat) (as : List Value) (r : Int × Ast) : Prop := ∃ p' I' J', j_run d m as (ST L p I J) = some (some (.int (j_k r.1)), ST L p' I' J') ∧ iX I' J' r.2 ∧ frX I I' J J'
theorem q_len' {L p r n : Nat} {I : Nat → Nat → Int32} {J : Nat → Nat → Int64} {Ki : Int32 → Option Rr} (e : SH L r = some (.inr (.int, n))) : j_len (ST L p I J) r Ki = Ki (j_k n) := q_lenI (σ := ST L p I J) e
theorem byte_rg (v : Int32) : -128 ≤ p_byte v ∧ p_byte v ≤ 127 := by
  unfold p_byte
  rw [Int8.toInt_toInt32]
  have h1 := Int8.le_toInt v.toInt8
  have h2 := Int8.toInt_lt v.toInt8
  omega
theorem place_0 {C : Int} {z : Int → Int} {r i : Int} {A : Ast} (h : (p_place C z r i A).1 = 0) : (0 ≤ r ∧ r < C) ∧ (0 ≤ i ∧ i < z r) := by
  unfold p_place p_miss at h
  by_cases h1 : 0 ≤ r ∧ r < C
  · by_cases h2 : z r = -1
    · rw [if_pos h1, if_pos h2] at h
      exact absurd h (by show ¬ (if (-3 : Int) = 0 then _ else (-3, _)).1 = 0; rw [if_neg (by decide)]; show ¬ (-3 : Int) = 0; decide)
    · rw [if_pos h1, if_neg h2] at h
      by_cases h3 : 0 ≤ i ∧ i < z r
      · exact ⟨h1, h3⟩
      · rw [if_pos rfl, if_neg h3] at h
        exact absurd h (by show ¬ (-3 : Int) = 0; decide)
  · rw [if_neg h1] at h
    exact absurd h (by show ¬ (if (-1 : Int) = 0 then _ else (-1, A)).1 = 0; rw [if_neg (by decide)]; show ¬ (-1 : Int) = 0; decide)
theorem miss_0 {C : Int} {z : Int → Int} {r : Int} {A : Ast} (h : (p_miss C z r A).1 = 0) : (0 ≤ r ∧ r < C) ∧ z r ≠ -1 := by
  unfold p_miss at h
  by_cases h1 : 0 ≤ r ∧ r < C
  · by_cases h2 : z r = -1
    · rw [if_pos h1, if_pos h2] at h
      exact absurd h (by show ¬ (-3 : Int) = 0; decide)
    · exact ⟨h1, h2⟩
  · rw [if_neg h1] at h
    exact absurd h (by show ¬ (-1 : Int) = 0; decide)
theorem miss_rg {C : Int} {z : Int → Int} {r : Int} {A : Ast} : -3 ≤ (p_miss C z r A).1 ∧ (p_miss C z r A).1 ≤ 0 := by
  unfold p_miss
  split
  · split
    · exact ⟨by show (-3 : Int) ≤ -3; decide, by show (-3 : Int) ≤ 0; decide⟩
    · exact ⟨by show (-3 : Int) ≤ 0; decide, by show (0 : Int) ≤ 0; decide⟩
  · exact ⟨by show (-3 : Int) ≤ -1; decide, by show (-1 : Int) ≤ 0; decide⟩
theorem place_rg {C : Int} {z : Int → Int} {r i : Int} {A : Ast} : -3 ≤ (p_place C z r i A).1 ∧ (p_place C z r i A).1 ≤ 0 := by
  unfold p_place
  split
  · split
    · exact ⟨by show (-3 : Int) ≤ 0; decide, by show (0 : Int) ≤ 0; decide⟩
    · exact ⟨by show (-3 : Int) ≤ -3; decide, by show (-3 : Int) ≤ 0; decide⟩
  · exact miss_rg
section SHELVES
variable {L p d : Nat} {J : Nat → Nat → Int64} {I : Nat → Nat → Int32} {A : Ast}

theorem x_has1 {r : Int} (h1 : -2147483648 ≤ r) (h2 : r < 2147483648) : j_run (d + 1) 60 [.ref 1, .int (j_k r)] (ST L p I J) = some (some (.int (j_z (0 ≤ r ∧ r < 6))), ST L p I J) := by
  rw [r_60, t_60_0]
  simp (disch := first | assumption | omega) only [k_add, k_sub, k_mul, k_lt, k_eq, k_lt0, k_0lt, k_eq0, k_nat, k_b0, k_b1, k_z1, k_z0, k_o1, k_o0, Int.reduceEq, Int.reduceLT, Int.reduceLE, Int.reduceAdd, Int.reduceMul, Int.reduceNeg, Bool.false_eq_true, or_true, true_or, or_false, false_or, and_true, true_and, and_false, false_and, not_true_eq_false, not_false_eq_true, ↓reduceIte, z_0, z_k, s_I, s_J, s_uI, s_uJ, c_gP_1_1, c_len_9]
  unfold j_z
  ((repeat' split) <;> first | rfl | (exfalso; omega))
theorem x_miss1 (hx : iX I J A) {r : Int} (h1 : -2147483648 ≤ r) (h2 : r < 2147483648) : ∃ I', j_run (d + 2) 114 [.ref 0, .ref 1, .int (j_k r)] (ST L p I J) = some (some (.int (j_k (p_miss 6 (a_rz A) r A).1)), ST L p I' J) ∧ iX I' J (p_miss 6 (a_rz A) r A).2 ∧ (∀ q, q ≠ 0 → q ≠ 86 → I' q = I q) ∧ ((p_miss 6 (a_rz A) r A).1 = 0 → I' = I) := by
  have q1 := x_has1 (L := L) (p := p) (d := d) (I := I) (J := J) h1 h2
  have hz := hx.2.1
  have hb := hx.1.2.2.2.1
  unfold p_miss
  by_cases c1 : 0 ≤ r ∧ r < 6
  · have z1 : j_z (0 ≤ r ∧ r < 6) = j_k 1 := if_pos c1
    rw [z1] at q1
    rw [if_pos c1]
    have hr := (hz r c1.1 c1.2).1
    have hbr := hb r c1.1 c1.2
    have r1 := c1.1
    have r2 := c1.2
    by_cases c2 : a_rz A r = -1
    · rw [if_pos c2]
      obtain ⟨I', e1, e2, e3⟩ := x_finds (L := L) (p := p) (d := d) hx (q := 1) (by decide) (by decide)
      refine ⟨I', ?_, e2, e3, fun z => absurd z (by show ¬ (-3 : Int) = 0; decide)⟩
      rw [r_114, t_114_0]
      simp (disch := first | assumption | omega) only [k_add, k_sub, k_mul, k_lt, k_eq, k_lt0, k_0lt, k_eq0, k_nat, k_b0, k_b1, k_z1, k_z0, k_o1, k_o0, Int.reduceEq, Int.reduceLT, Int.reduceLE, Int.reduceAdd, Int.reduceMul, Int.reduceNeg, Bool.false_eq_true, or_true, true_or, or_false, false_or, and_true, true_and, and_false, false_and, not_true_eq_false, not_false_eq_true, ↓reduceIte, z_0, z_k, s_I, s_J, s_uI, s_uJ, c_oc_1, jc1 q1, c_gP_1_1, c_ia_9, hr, c2, c_oc_0, jc1 e1]
    · rw [if_neg c2]
      refine ⟨I, ?_, hx, fun _ _ _ => rfl, fun _ => rfl⟩
      rw [r_114, t_114_0]
      simp (disch := first | assumption | omega) only [k_add, k_sub, k_mul, k_lt, k_eq, k_lt0, k_0lt, k_eq0, k_nat, k_b0, k_b1, k_z1, k_z0, k_o1, k_o0, Int.reduceEq, Int.reduceLT, Int.reduceLE, Int.reduceAdd, Int.reduceMul, Int.reduceNeg, Bool.false_eq_true, or_true, true_or, or_false, false_or, and_true, true_and, and_false, false_and, not_true_eq_false, not_false_eq_true, ↓reduceIte, z_0, z_k, s_I, s_J, s_uI, s_uJ, c_oc_1, jc1 q1, c_gP_1_1, c_ia_9, hr, c2]
  · have z1 : j_z (0 ≤ r ∧ r < 6) = j_k 0 := if_neg c1
    rw [z1] at q1
    rw [if_neg c1]
    refine ⟨I, ?_, hx, fun _ _ _ => rfl, fun _ => rfl⟩
    rw [r_114, t_114_0]
    simp (disch := first | assumption | omega) only [k_add, k_sub, k_mul, k_lt, k_eq, k_lt0, k_0lt, k_eq0, k_nat, k_b0, k_b1, k_z1, k_z0, k_o1, k_o0, Int.reduceEq, Int.reduceLT, Int.reduceLE, Int.reduceAdd, Int.reduceMul, Int.reduceNeg, Bool.false_eq_true, or_true, true_or, or_false, false_or, and_true, true_and, and_false, false_and, not_true_eq_false, not_false_eq_true, ↓reduceIte, z_0, z_k, s_I, s_J, s_uI, s_uJ, c_oc_1, jc1 q1]
theorem x_place1 (hx : iX I J A) {r i : Int} (h1 : -2147483648 ≤ r) (h2 : r < 2147483648) (h3 : -2147483648 ≤ i) (h4 : i < 2147483648) : ∃ I', j_run (d + 3) 115 [.ref 0, .ref 1, .int (j_k r), .int (j_k i)] (ST L p I J) = some (some (.int (j_k (p_place 6 (a_rz A) r i A).1)), ST L p I' J) ∧ iX I' J (p_place 6 (a_rz A) r i A).2 ∧ (∀ q, q ≠ 0 → q ≠ 86 → I' q = I q) ∧ ((p_place 6 (a_rz A) r i A).1 = 0 → I' = I) := by
  obtain ⟨I1, q1, q2, q3, q4⟩ := x_miss1 (L := L) (p := p) (d := d) hx h1 h2
  have hz := hx.2.1
  have hb := hx.1.2.2.2.1
  unfold p_place
  by_cases c1 : (p_miss 6 (a_rz A) r A).1 = 0
  · obtain ⟨m1, m2⟩ := miss_0 c1
    rw [if_pos c1]
    rw [c1, q4 c1] at q1
    have hr := (hz r m1.1 m1.2).1
    have hbr := hb r m1.1 m1.2
    have r1 := m1.1
    have r2 := m1.2
    by_cases c2 : 0 ≤ i ∧ i < a_rz A r
    · rw [if_pos c2]
      refine ⟨I, ?_, hx, fun _ _ _ => rfl, fun _ => rfl⟩
      have c3 : ¬ i < 0 := by omega
      have c4 := c2.2
      rw [r_115, t_115_0]
      simp (disch := first | assumption | omega) only [k_add, k_sub, k_mul, k_lt, k_eq, k_lt0, k_0lt, k_eq0, k_nat, k_b0, k_b1, k_z1, k_z0, k_o1, k_o0, Int.reduceEq, Int.reduceLT, Int.reduceLE, Int.reduceAdd, Int.reduceMul, Int.reduceNeg, Bool.false_eq_true, or_true, true_or, or_false, false_or, and_true, true_and, and_false, false_and, not_true_eq_false, not_false_eq_true, ↓reduceIte, z_0, z_k, s_I, s_J, s_uI, s_uJ, c_oc_0, jc1 q1, c3, c_gP_1_1, c_ia_9, hr, c4]
    · rw [if_neg c2]
      obtain ⟨I', e1, e2, e3⟩ := x_finds (L := L) (p := p) (d := d + 1) hx (q := 2) (by decide) (by decide)
      refine ⟨I', ?_, e2, e3, fun z => absurd z (by show ¬ (-3 : Int) = 0; decide)⟩
      rw [r_115, t_115_0]
      by_cases c3 : i < 0
      · simp (disch := first | assumption | omega) only [k_add, k_sub, k_mul, k_lt, k_eq, k_lt0, k_0lt, k_eq0, k_nat, k_b0, k_b1, k_z1, k_z0, k_o1, k_o0, Int.reduceEq, Int.reduceLT, Int.reduceLE, Int.reduceAdd, Int.reduceMul, Int.reduceNeg, Bool.false_eq_true, or_true, true_or, or_false, false_or, and_true, true_and, and_false, false_and, not_true_eq_false, not_false_eq_true, ↓reduceIte, z_0, z_k, s_I, s_J, s_uI, s_uJ, c_oc_0, jc1 q1, c3, jc1 e1]
      · have c4 : ¬ i < a_rz A r := fun y => c2 ⟨by omega, y⟩
        simp (disch := first | assumption | omega) only [k_add, k_sub, k_mul, k_lt, k_eq, k_lt0, k_0lt, k_eq0, k_nat, k_b0, k_b1, k_z1, k_z0, k_o1, k_o0, Int.reduceEq, Int.reduceLT, Int.reduceLE, Int.reduceAdd, Int.reduceMul, Int.reduceNeg, Bool.false_eq_true, or_true, true_or, or_false, false_or, and_true, true_and, and_false, false_and, not_true_eq_false, not_false_eq_true, ↓reduceIte, z_0, z_k, s_I, s_J, s_uI, s_uJ, c_oc_0, jc1 q1, c3, c_gP_1_1, c_ia_9, hr, c4, jc1 e1]
  · rw [if_neg c1]
    refine ⟨I1, ?_, q2, q3, fun z => absurd z c1⟩
    have c5 : -3 ≤ (p_miss 6 (a_rz A) r A).1 ∧ (p_miss 6 (a_rz A) r A).1 ≤ 0 := by
      unfold p_miss
      split
      · split
        · exact ⟨by show (-3 : Int) ≤ -3; decide, by show (-3 : Int) ≤ 0; decide⟩
        · exact ⟨by show (-3 : Int) ≤ 0; decide, by show (0 : Int) ≤ 0; decide⟩
      · exact ⟨by show (-3 : Int) ≤ -1; decide, by show (-1 : Int) ≤ 0; decide⟩
    rw [r_115, t_115_0]
    simp (disch := first | assumption | omega) only [k_add, k_sub, k_mul, k_lt, k_eq, k_lt0, k_0lt, k_eq0, k_nat, k_b0, k_b1, k_z1, k_z0, k_o1, k_o0, Int.reduceEq, Int.reduceLT, Int.reduceLE, Int.reduceAdd, Int.reduceMul, Int.reduceNeg, Bool.false_eq_true, or_true, true_or, or_false, false_or, and_true, true_and, and_false, false_and, not_true_eq_false, not_false_eq_true, ↓reduceIte, z_0, z_k, s_I, s_J, s_uI, s_uJ, c_oc_0, jc1 q1, c1]
theorem x_make1 (hx : iX I J A) {r n : Int} {v : Int32} (h1 : -2147483648 ≤ r) (h2 : r < 2147483648) (h3 : -2147483648 ≤ n) (h4 : n < 2147483648) : ∃ I', j_run (d + 4) 113 [.ref 0, .ref 1, .int (j_k r), .int (j_k n), .int v] (ST L p I J) = some (some (.int (j_k (if (0 ≤ r ∧ r < 6) ∧ n ≤ 60 then (if n < 0 then -3 else n) else -1))), ST L p I' J) ∧
    (¬ ((0 ≤ r ∧ r < 6) ∧ n ≤ 60) → I' = I) ∧ ((0 ≤ r ∧ r < 6) ∧ n ≤ 60 → n < 0 → iX I' J (p_meets 5 A).2 ∧ (∀ q, q ≠ 0 → q ≠ 86 → I' q = I q)) ∧ ((0 ≤ r ∧ r < 6) ∧ n ≤ 60 → 0 ≤ n → I' = u2 (u1 I (3 + 1 * r.toNat) (fun j => if j < 60 then v else I (3 + 1 * r.toNat) j)) 9 r.toNat (j_k n)) := by
  have q1 := x_has1 (L := L) (p := p) (d := d + 2) (I := I) (J := J) h1 h2
  by_cases c1 : 0 ≤ r ∧ r < 6
  · have z1 : j_z (0 ≤ r ∧ r < 6) = j_k 1 := if_pos c1
    rw [z1] at q1
    have r1 := c1.1
    have r2 := c1.2
    have hsh : SH L (3 + 1 * r.toNat) = some (.inr (.int, 60)) := by
      rcases (show r = 0 ∨ r = 1 ∨ r = 2 ∨ r = 3 ∨ r = 4 ∨ r = 5 by omega) with rfl | rfl | rfl | rfl | rfl | rfl <;> rfl
    have hq := s_fill (L := L) (p := p) (d := d + 1) (I := I) (J := J) (v := v) hsh (by omega) (by decide)
    by_cases c2 : n ≤ 60
    · rw [if_pos ⟨c1, c2⟩]
      have c2' : ¬ 60 < n := by omega
      by_cases c3 : n < 0
      · obtain ⟨I', e1, e2, e3⟩ := x_finds (L := L) (p := p) (d := d + 2) hx (q := 5) (by decide) (by decide)
        refine ⟨I', ?_, fun z => absurd ⟨c1, c2⟩ z, fun _ _ => ⟨e2, e3⟩, fun _ z => absurd z (by omega)⟩
        rw [r_113, t_113_0, if_pos c3]
        simp (disch := first | assumption | omega) only [k_add, k_sub, k_mul, k_lt, k_eq, k_lt0, k_0lt, k_eq0, k_nat, k_b0, k_b1, k_z1, k_z0, k_o1, k_o0, Int.reduceEq, Int.reduceLT, Int.reduceLE, Int.reduceAdd, Int.reduceMul, Int.reduceNeg, Bool.false_eq_true, or_true, true_or, or_false, false_or, and_true, true_and, and_false, false_and, not_true_eq_false, not_false_eq_true, ↓reduceIte, z_0, z_k, s_I, s_J, s_uI, s_uJ, c_oc_1, jc1 q1, c_gP_1_0, c_qa_2, q_len' hsh, c2', c3, c_oc_0, jc1 e1]
        rw [if_neg (show ¬ ((60 : Nat) : Int) < n from c2')]
        rfl
      · rw [if_neg c3]
        refine ⟨_, ?_, fun z => absurd ⟨c1, c2⟩ z, fun _ z => absurd z c3, fun _ _ => rfl⟩
        have hm : j_run (d + 3) 61 [.ref 1, .int (j_k r), .int (j_k n), .int v] (ST L p I J) = some (none, ST L p (u2 (u1 I (3 + 1 * r.toNat) (fun j => if j < 60 then v else I (3 + 1 * r.toNat) j)) 9 r.toNat (j_k n)) J) := by
          rw [r_61, t_61_0]
          simp (disch := first | assumption | omega) only [k_add, k_sub, k_mul, k_lt, k_eq, k_lt0, k_0lt, k_eq0, k_nat, k_b0, k_b1, k_z1, k_z0, k_o1, k_o0, Int.reduceEq, Int.reduceLT, Int.reduceLE, Int.reduceAdd, Int.reduceMul, Int.reduceNeg, Bool.false_eq_true, or_true, true_or, or_false, false_or, and_true, true_and, and_false, false_and, not_true_eq_false, not_false_eq_true, ↓reduceIte, z_0, z_k, s_I, s_J, s_uI, s_uJ, c_gP_1_0, c_qa_2, jc0 hq, c_gP_1_1, c_is_9]
        rw [r_113, t_113_0]
        simp (disch := first | assumption | omega) only [k_add, k_sub, k_mul, k_lt, k_eq, k_lt0, k_0lt, k_eq0, k_nat, k_b0, k_b1, k_z1, k_z0, k_o1, k_o0, Int.reduceEq, Int.reduceLT, Int.reduceLE, Int.reduceAdd, Int.reduceMul, Int.reduceNeg, Bool.false_eq_true, or_true, true_or, or_false, false_or, and_true, true_and, and_false, false_and, not_true_eq_false, not_false_eq_true, ↓reduceIte, z_0, z_k, s_I, s_J, s_uI, s_uJ, c_oc_1, jc1 q1, c_gP_1_0, c_qa_2, q_len' hsh, c2', c3, c_oc_1, jc0 hm]
        rw [if_neg (show ¬ ((60 : Nat) : Int) < n from c2')]
    · rw [if_neg (fun z => c2 z.2)]
      have c2' : 60 < n := by omega
      refine ⟨I, ?_, fun _ => rfl, fun z => absurd z.2 c2, fun z => absurd z.2 c2⟩
      rw [r_113, t_113_0]
      simp (disch := first | assumption | omega) only [k_add, k_sub, k_mul, k_lt, k_eq, k_lt0, k_0lt, k_eq0, k_nat, k_b0, k_b1, k_z1, k_z0, k_o1, k_o0, Int.reduceEq, Int.reduceLT, Int.reduceLE, Int.reduceAdd, Int.reduceMul, Int.reduceNeg, Bool.false_eq_true, or_true, true_or, or_false, false_or, and_true, true_and, and_false, false_and, not_true_eq_false, not_false_eq_true, ↓reduceIte, z_0, z_k, s_I, s_J, s_uI, s_uJ, c_oc_1, jc1 q1, c_gP_1_0, c_qa_2, q_len' hsh, c2']
      rw [if_pos (show ((60 : Nat) : Int) < n from c2')]
  · have z1 : j_z (0 ≤ r ∧ r < 6) = j_k 0 := if_neg c1
    rw [z1] at q1
    rw [if_neg (fun z => c1 z.1)]
    refine ⟨I, ?_, fun _ => rfl, fun z => absurd z.1 c1, fun z => absurd z.1 c1⟩
    rw [r_113, t_113_0]
    simp (disch := first | assumption | omega) only [k_add, k_sub, k_mul, k_lt, k_eq, k_lt0, k_0lt, k_eq0, k_nat, k_b0, k_b1, k_z1, k_z0, k_o1, k_o0, Int.reduceEq, Int.reduceLT, Int.reduceLE, Int.reduceAdd, Int.reduceMul, Int.reduceNeg, Bool.false_eq_true, or_true, true_or, or_false, false_or, and_true, true_and, and_false, false_and, not_true_eq_false, not_false_eq_true, ↓reduceIte, z_0, z_k, s_I, s_J, s_uI, s_uJ, c_oc_1, jc1 q1]


theorem x_has10 {r : Int} (h1 : -2147483648 ≤ r) (h2 : r < 2147483648) : j_run (d + 1) 60 [.ref 10, .int (j_k r)] (ST L p I J) = some (some (.int (j_z (0 ≤ r ∧ r < 4))), ST L p I J) := by
  rw [r_60, t_60_0]
  simp (disch := first | assumption | omega) only [k_add, k_sub, k_mul, k_lt, k_eq, k_lt0, k_0lt, k_eq0, k_nat, k_b0, k_b1, k_z1, k_z0, k_o1, k_o0, Int.reduceEq, Int.reduceLT, Int.reduceLE, Int.reduceAdd, Int.reduceMul, Int.reduceNeg, Bool.false_eq_true, or_true, true_or, or_false, false_or, and_true, true_and, and_false, false_and, not_true_eq_false, not_false_eq_true, ↓reduceIte, z_0, z_k, s_I, s_J, s_uI, s_uJ, c_gP_10_1, c_len_16]
  unfold j_z
  ((repeat' split) <;> first | rfl | (exfalso; omega))
theorem x_miss10 (hx : iX I J A) {r : Int} (h1 : -2147483648 ≤ r) (h2 : r < 2147483648) : ∃ I', j_run (d + 2) 114 [.ref 0, .ref 10, .int (j_k r)] (ST L p I J) = some (some (.int (j_k (p_miss 4 (a_tz A) r A).1)), ST L p I' J) ∧ iX I' J (p_miss 4 (a_tz A) r A).2 ∧ (∀ q, q ≠ 0 → q ≠ 86 → I' q = I q) ∧ ((p_miss 4 (a_tz A) r A).1 = 0 → I' = I) := by
  have q1 := x_has10 (L := L) (p := p) (d := d) (I := I) (J := J) h1 h2
  have hz := hx.2.2.1
  have hb := hx.1.2.2.2.2.1
  unfold p_miss
  by_cases c1 : 0 ≤ r ∧ r < 4
  · have z1 : j_z (0 ≤ r ∧ r < 4) = j_k 1 := if_pos c1
    rw [z1] at q1
    rw [if_pos c1]
    have hr := (hz r c1.1 c1.2).1
    have hbr := hb r c1.1 c1.2
    have r1 := c1.1
    have r2 := c1.2
    by_cases c2 : a_tz A r = -1
    · rw [if_pos c2]
      obtain ⟨I', e1, e2, e3⟩ := x_finds (L := L) (p := p) (d := d) hx (q := 1) (by decide) (by decide)
      refine ⟨I', ?_, e2, e3, fun z => absurd z (by show ¬ (-3 : Int) = 0; decide)⟩
      rw [r_114, t_114_0]
      simp (disch := first | assumption | omega) only [k_add, k_sub, k_mul, k_lt, k_eq, k_lt0, k_0lt, k_eq0, k_nat, k_b0, k_b1, k_z1, k_z0, k_o1, k_o0, Int.reduceEq, Int.reduceLT, Int.reduceLE, Int.reduceAdd, Int.reduceMul, Int.reduceNeg, Bool.false_eq_true, or_true, true_or, or_false, false_or, and_true, true_and, and_false, false_and, not_true_eq_false, not_false_eq_true, ↓reduceIte, z_0, z_k, s_I, s_J, s_uI, s_uJ, c_oc_10, jc1 q1, c_gP_10_1, c_ia_16, hr, c2, c_oc_0, jc1 e1]
    · rw [if_neg c2]
      refine ⟨I, ?_, hx, fun _ _ _ => rfl, fun _ => rfl⟩
      rw [r_114, t_114_0]
      simp (disch := first | assumption | omega) only [k_add, k_sub, k_mul, k_lt, k_eq, k_lt0, k_0lt, k_eq0, k_nat, k_b0, k_b1, k_z1, k_z0, k_o1, k_o0, Int.reduceEq, Int.reduceLT, Int.reduceLE, Int.reduceAdd, Int.reduceMul, Int.reduceNeg, Bool.false_eq_true, or_true, true_or, or_false, false_or, and_true, true_and, and_false, false_and, not_true_eq_false, not_false_eq_true, ↓reduceIte, z_0, z_k, s_I, s_J, s_uI, s_uJ, c_oc_10, jc1 q1, c_gP_10_1, c_ia_16, hr, c2]
  · have z1 : j_z (0 ≤ r ∧ r < 4) = j_k 0 := if_neg c1
    rw [z1] at q1
    rw [if_neg c1]
    refine ⟨I, ?_, hx, fun _ _ _ => rfl, fun _ => rfl⟩
    rw [r_114, t_114_0]
    simp (disch := first | assumption | omega) only [k_add, k_sub, k_mul, k_lt, k_eq, k_lt0, k_0lt, k_eq0, k_nat, k_b0, k_b1, k_z1, k_z0, k_o1, k_o0, Int.reduceEq, Int.reduceLT, Int.reduceLE, Int.reduceAdd, Int.reduceMul, Int.reduceNeg, Bool.false_eq_true, or_true, true_or, or_false, false_or, and_true, true_and, and_false, false_and, not_true_eq_false, not_false_eq_true, ↓reduceIte, z_0, z_k, s_I, s_J, s_uI, s_uJ, c_oc_10, jc1 q1]
theorem x_place10 (hx : iX I J A) {r i : Int} (h1 : -2147483648 ≤ r) (h2 : r < 2147483648) (h3 : -2147483648 ≤ i) (h4 : i < 2147483648) : ∃ I', j_run (d + 3) 115 [.ref 0, .ref 10, .int (j_k r), .int (j_k i)] (ST L p I J) = some (some (.int (j_k (p_place 4 (a_tz A) r i A).1)), ST L p I' J) ∧ iX I' J (p_place 4 (a_tz A) r i A).2 ∧ (∀ q, q ≠ 0 → q ≠ 86 → I' q = I q) ∧ ((p_place 4 (a_tz A) r i A).1 = 0 → I' = I) := by
  obtain ⟨I1, q1, q2, q3, q4⟩ := x_miss10 (L := L) (p := p) (d := d) hx h1 h2
  have hz := hx.2.2.1
  have hb := hx.1.2.2.2.2.1
  unfold p_place
  by_cases c1 : (p_miss 4 (a_tz A) r A).1 = 0
  · obtain ⟨m1, m2⟩ := miss_0 c1
    rw [if_pos c1]
    rw [c1, q4 c1] at q1
    have hr := (hz r m1.1 m1.2).1
    have hbr := hb r m1.1 m1.2
    have r1 := m1.1
    have r2 := m1.2
    by_cases c2 : 0 ≤ i ∧ i < a_tz A r
    · rw [if_pos c2]
      refine ⟨I, ?_, hx, fun _ _ _ => rfl, fun _ => rfl⟩
      have c3 : ¬ i < 0 := by omega
      have c4 := c2.2
      rw [r_115, t_115_0]
      simp (disch := first | assumption | omega) only [k_add, k_sub, k_mul, k_lt, k_eq, k_lt0, k_0lt, k_eq0, k_nat, k_b0, k_b1, k_z1, k_z0, k_o1, k_o0, Int.reduceEq, Int.reduceLT, Int.reduceLE, Int.reduceAdd, Int.reduceMul, Int.reduceNeg, Bool.false_eq_true, or_true, true_or, or_false, false_or, and_true, true_and, and_false, false_and, not_true_eq_false, not_false_eq_true, ↓reduceIte, z_0, z_k, s_I, s_J, s_uI, s_uJ, c_oc_0, jc1 q1, c3, c_gP_10_1, c_ia_16, hr, c4]
    · rw [if_neg c2]
      obtain ⟨I', e1, e2, e3⟩ := x_finds (L := L) (p := p) (d := d + 1) hx (q := 2) (by decide) (by decide)
      refine ⟨I', ?_, e2, e3, fun z => absurd z (by show ¬ (-3 : Int) = 0; decide)⟩
      rw [r_115, t_115_0]
      by_cases c3 : i < 0
      · simp (disch := first | assumption | omega) only [k_add, k_sub, k_mul, k_lt, k_eq, k_lt0, k_0lt, k_eq0, k_nat, k_b0, k_b1, k_z1, k_z0, k_o1, k_o0, Int.reduceEq, Int.reduceLT, Int.reduceLE, Int.reduceAdd, Int.reduceMul, Int.reduceNeg, Bool.false_eq_true, or_true, true_or, or_false, false_or, and_true, true_and, and_false, false_and, not_true_eq_false, not_false_eq_true, ↓reduceIte, z_0, z_k, s_I, s_J, s_uI, s_uJ, c_oc_0, jc1 q1, c3, jc1 e1]
      · have c4 : ¬ i < a_tz A r := fun y => c2 ⟨by omega, y⟩
        simp (disch := first | assumption | omega) only [k_add, k_sub, k_mul, k_lt, k_eq, k_lt0, k_0lt, k_eq0, k_nat, k_b0, k_b1, k_z1, k_z0, k_o1, k_o0, Int.reduceEq, Int.reduceLT, Int.reduceLE, Int.reduceAdd, Int.reduceMul, Int.reduceNeg, Bool.false_eq_true, or_true, true_or, or_false, false_or, and_true, true_and, and_false, false_and, not_true_eq_false, not_false_eq_true, ↓reduceIte, z_0, z_k, s_I, s_J, s_uI, s_uJ, c_oc_0, jc1 q1, c3, c_gP_10_1, c_ia_16, hr, c4, jc1 e1]
  · rw [if_neg c1]
    refine ⟨I1, ?_, q2, q3, fun z => absurd z c1⟩
    have c5 : -3 ≤ (p_miss 4 (a_tz A) r A).1 ∧ (p_miss 4 (a_tz A) r A).1 ≤ 0 := by
      unfold p_miss
      split
      · split
        · exact ⟨by show (-3 : Int) ≤ -3; decide, by show (-3 : Int) ≤ 0; decide⟩
        · exact ⟨by show (-3 : Int) ≤ 0; decide, by show (0 : Int) ≤ 0; decide⟩
      · exact ⟨by show (-3 : Int) ≤ -1; decide, by show (-1 : Int) ≤ 0; decide⟩
    rw [r_115, t_115_0]
    simp (disch := first | assumption | omega) only [k_add, k_sub, k_mul, k_lt, k_eq, k_lt0, k_0lt, k_eq0, k_nat, k_b0, k_b1, k_z1, k_z0, k_o1, k_o0, Int.reduceEq, Int.reduceLT, Int.reduceLE, Int.reduceAdd, Int.reduceMul, Int.reduceNeg, Bool.false_eq_true, or_true, true_or, or_false, false_or, and_true, true_and, and_false, false_and, not_true_eq_false, not_false_eq_true, ↓reduceIte, z_0, z_k, s_I, s_J, s_uI, s_uJ, c_oc_0, jc1 q1, c1]
theorem x_make10 (hx : iX I J A) {r n : Int} {v : Int32} (h1 : -2147483648 ≤ r) (h2 : r < 2147483648) (h3 : -2147483648 ≤ n) (h4 : n < 2147483648) : ∃ I', j_run (d + 4) 113 [.ref 0, .ref 10, .int (j_k r), .int (j_k n), .int v] (ST L p I J) = some (some (.int (j_k (if (0 ≤ r ∧ r < 4) ∧ n ≤ 80 then (if n < 0 then -3 else n) else -1))), ST L p I' J) ∧
    (¬ ((0 ≤ r ∧ r < 4) ∧ n ≤ 80) → I' = I) ∧ ((0 ≤ r ∧ r < 4) ∧ n ≤ 80 → n < 0 → iX I' J (p_meets 5 A).2 ∧ (∀ q, q ≠ 0 → q ≠ 86 → I' q = I q)) ∧ ((0 ≤ r ∧ r < 4) ∧ n ≤ 80 → 0 ≤ n → I' = u2 (u1 I (12 + 1 * r.toNat) (fun j => if j < 80 then v else I (12 + 1 * r.toNat) j)) 16 r.toNat (j_k n)) := by
  have q1 := x_has10 (L := L) (p := p) (d := d + 2) (I := I) (J := J) h1 h2
  by_cases c1 : 0 ≤ r ∧ r < 4
  · have z1 : j_z (0 ≤ r ∧ r < 4) = j_k 1 := if_pos c1
    rw [z1] at q1
    have r1 := c1.1
    have r2 := c1.2
    have hsh : SH L (12 + 1 * r.toNat) = some (.inr (.int, 80)) := by
      rcases (show r = 0 ∨ r = 1 ∨ r = 2 ∨ r = 3 by omega) with rfl | rfl | rfl | rfl <;> rfl
    have hq := s_fill (L := L) (p := p) (d := d + 1) (I := I) (J := J) (v := v) hsh (by omega) (by decide)
    by_cases c2 : n ≤ 80
    · rw [if_pos ⟨c1, c2⟩]
      have c2' : ¬ 80 < n := by omega
      by_cases c3 : n < 0
      · obtain ⟨I', e1, e2, e3⟩ := x_finds (L := L) (p := p) (d := d + 2) hx (q := 5) (by decide) (by decide)
        refine ⟨I', ?_, fun z => absurd ⟨c1, c2⟩ z, fun _ _ => ⟨e2, e3⟩, fun _ z => absurd z (by omega)⟩
        rw [r_113, t_113_0, if_pos c3]
        simp (disch := first | assumption | omega) only [k_add, k_sub, k_mul, k_lt, k_eq, k_lt0, k_0lt, k_eq0, k_nat, k_b0, k_b1, k_z1, k_z0, k_o1, k_o0, Int.reduceEq, Int.reduceLT, Int.reduceLE, Int.reduceAdd, Int.reduceMul, Int.reduceNeg, Bool.false_eq_true, or_true, true_or, or_false, false_or, and_true, true_and, and_false, false_and, not_true_eq_false, not_false_eq_true, ↓reduceIte, z_0, z_k, s_I, s_J, s_uI, s_uJ, c_oc_10, jc1 q1, c_gP_10_0, c_qa_11, q_len' hsh, c2', c3, c_oc_0, jc1 e1]
        rw [if_neg (show ¬ ((80 : Nat) : Int) < n from c2')]
        rfl
      · rw [if_neg c3]
        refine ⟨_, ?_, fun z => absurd ⟨c1, c2⟩ z, fun _ z => absurd z c3, fun _ _ => rfl⟩
        have hm : j_run (d + 3) 61 [.ref 10, .int (j_k r), .int (j_k n), .int v] (ST L p I J) = some (none, ST L p (u2 (u1 I (12 + 1 * r.toNat) (fun j => if j < 80 then v else I (12 + 1 * r.toNat) j)) 16 r.toNat (j_k n)) J) := by
          rw [r_61, t_61_0]
          simp (disch := first | assumption | omega) only [k_add, k_sub, k_mul, k_lt, k_eq, k_lt0, k_0lt, k_eq0, k_nat, k_b0, k_b1, k_z1, k_z0, k_o1, k_o0, Int.reduceEq, Int.reduceLT, Int.reduceLE, Int.reduceAdd, Int.reduceMul, Int.reduceNeg, Bool.false_eq_true, or_true, true_or, or_false, false_or, and_true, true_and, and_false, false_and, not_true_eq_false, not_false_eq_true, ↓reduceIte, z_0, z_k, s_I, s_J, s_uI, s_uJ, c_gP_10_0, c_qa_11, jc0 hq, c_gP_10_1, c_is_16]
        rw [r_113, t_113_0]
        simp (disch := first | assumption | omega) only [k_add, k_sub, k_mul, k_lt, k_eq, k_lt0, k_0lt, k_eq0, k_nat, k_b0, k_b1, k_z1, k_z0, k_o1, k_o0, Int.reduceEq, Int.reduceLT, Int.reduceLE, Int.reduceAdd, Int.reduceMul, Int.reduceNeg, Bool.false_eq_true, or_true, true_or, or_false, false_or, and_true, true_and, and_false, false_and, not_true_eq_false, not_false_eq_true, ↓reduceIte, z_0, z_k, s_I, s_J, s_uI, s_uJ, c_oc_10, jc1 q1, c_gP_10_0, c_qa_11, q_len' hsh, c2', c3, c_oc_10, jc0 hm]
        rw [if_neg (show ¬ ((80 : Nat) : Int) < n from c2')]
    · rw [if_neg (fun z => c2 z.2)]
      have c2' : 80 < n := by omega
      refine ⟨I, ?_, fun _ => rfl, fun z => absurd z.2 c2, fun z => absurd z.2 c2⟩
      rw [r_113, t_113_0]
      simp (disch := first | assumption | omega) only [k_add, k_sub, k_mul, k_lt, k_eq, k_lt0, k_0lt, k_eq0, k_nat, k_b0, k_b1, k_z1, k_z0, k_o1, k_o0, Int.reduceEq, Int.reduceLT, Int.reduceLE, Int.reduceAdd, Int.reduceMul, Int.reduceNeg, Bool.false_eq_true, or_true, true_or, or_false, false_or, and_true, true_and, and_false, false_and, not_true_eq_false, not_false_eq_true, ↓reduceIte, z_0, z_k, s_I, s_J, s_uI, s_uJ, c_oc_10, jc1 q1, c_gP_10_0, c_qa_11, q_len' hsh, c2']
      rw [if_pos (show ((80 : Nat) : Int) < n from c2')]
  · have z1 : j_z (0 ≤ r ∧ r < 4) = j_k 0 := if_neg c1
    rw [z1] at q1
    rw [if_neg (fun z => c1 z.1)]
    refine ⟨I, ?_, fun _ => rfl, fun z => absurd z.1 c1, fun z => absurd z.1 c1⟩
    rw [r_113, t_113_0]
    simp (disch := first | assumption | omega) only [k_add, k_sub, k_mul, k_lt, k_eq, k_lt0, k_0lt, k_eq0, k_nat, k_b0, k_b1, k_z1, k_z0, k_o1, k_o0, Int.reduceEq, Int.reduceLT, Int.reduceLE, Int.reduceAdd, Int.reduceMul, Int.reduceNeg, Bool.false_eq_true, or_true, true_or, or_false, false_or, and_true, true_and, and_false, false_and, not_true_eq_false, not_false_eq_true, ↓reduceIte, z_0, z_k, s_I, s_J, s_uI, s_uJ, c_oc_10, jc1 q1]

end SHELVES
