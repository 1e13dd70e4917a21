/-! ===== the model's calls: copy, mean, text, put ===== -/
theorem lc_gt (x y : Int64) : (0 < lg_cmp x y) = (y < x) := by
  unfold lg_cmp
  by_cases h : x > y
  · rw [if_pos h]
    exact propext ⟨fun _ => h, fun _ => by decide⟩
  · rw [if_neg h]
    by_cases h2 : x = y
    · rw [if_pos h2]
      exact propext ⟨fun u => absurd u (by decide), fun u => absurd u h⟩
    · rw [if_neg h2]
      exact propext ⟨fun u => absurd u (by decide), fun u => absurd u h⟩
theorem l_lt {a b : Int} (h1 : -9223372036854775808 ≤ a) (h2 : a < 9223372036854775808) (h3 : -9223372036854775808 ≤ b) (h4 : b < 9223372036854775808) : (lk a < lk b) = (a < b) := propext (by rw [Int64.lt_iff_toInt_lt, l_int h1 h2, l_int h3 h4])
theorem lcg {a b c : Int} (h1 : -2147483648 ≤ a) (h2 : a < 2147483648) (h3 : -2147483648 ≤ b) (h4 : b < 2147483648) (h5 : -2147483648 ≤ c) (h6 : c < 2147483648) : (0 < lg_cmp ((j_k a).toInt64 + (j_k b).toInt64) (j_k c).toInt64) = (c < a + b) := by
  rw [lc_gt, l_of h1 h2, l_of h3 h4, l_of h5 h6, l_add, l_lt (by omega) (by omega) (by omega) (by omega)]
theorem by_32 : (j_k 32).toInt8.toInt32 = j_k 32 := by decide
theorem by_by (v : Int32) : v.toInt8.toInt32.toInt8.toInt32 = j_k (p_byte v) := by
  unfold p_byte
  rw [k_toInt, Int8.toInt8_toInt32]
section MROWS2
variable {L p d : Nat} {I : Nat → Nat → Int32} {J : Nat → Nat → Int64} {A : Ast}
theorem iM.not91 {I1 : Nat → Nat → Int32} (hx : iM I J A) (h : ∀ q, q ≠ 91 → I1 q = I q) : iM I1 J A := hx.same ⟨fun r a => h r (by omega), fun k _ _ => by rw [h 87 (by decide)], fun i _ _ => by rw [h 99 (by decide)]⟩ (by rw [h 87 (by decide)]) (by rw [h 87 (by decide)]) (h 88 (by decide)) rfl
theorem n_copyL (hx : iM I J A) {r i t j m : Int} (r1 : 0 ≤ r) (r2 : r < 6) (i1 : 0 ≤ i) (i2 : i + m ≤ 60) (t1 : 0 ≤ t) (t2 : t < 6) (j1 : 0 ≤ j) (j2 : j + m ≤ 60) (m0 : 0 ≤ m) {M : Nat} (hM : 200 < M) : ∃ I', j_exec k_145 h_145 (j_run (d + 2)) M 104 [some (.ref 87), some (.int (j_k r)), some (.int (j_k i)), some (.int (j_k t)), some (.int (j_k j)), some (.int (j_k m)), some (.int (j_k 0))] [] (ST L p I J) = some (some (.int (j_k 1)), ST L p I' J) ∧ (∀ q, q ≠ 90 → q ≠ 91 → I' q = I q) ∧ ∀ k : Int, 0 ≤ k → k < 360 → I' 90 k.toNat = if 60 * t + j ≤ k ∧ k < 60 * t + j + m then a_rv A r (i + (k - (60 * t + j))) else I 90 k.toNat := by
  have one : ∀ (s M : Nat) (k : Int) (I1 : Nat → Nat → Int32), 0 ≤ k → k + s = m → (∀ q, q ≠ 91 → I1 q = I q) → (∀ x : Int, 0 ≤ x → x < k → I1 91 x.toNat = a_rv A r (i + x)) → ∃ I2, j_exec k_145 h_145 (j_run (d + 2)) (M + s + 1) 104 [some (.ref 87), some (.int (j_k r)), some (.int (j_k i)), some (.int (j_k t)), some (.int (j_k j)), some (.int (j_k m)), some (.int (j_k k))] [] (ST L p I1 J) = j_exec k_145 h_145 (j_run (d + 2)) M 136 [some (.ref 87), some (.int (j_k r)), some (.int (j_k i)), some (.int (j_k t)), some (.int (j_k j)), some (.int (j_k m)), some (.int (j_k 0))] [] (ST L p I2 J) ∧ (∀ q, q ≠ 91 → I2 q = I q) ∧ (∀ x : Int, 0 ≤ x → x < m → I2 91 x.toNat = a_rv A r (i + x)) := by
    intro s
    induction s with
    | zero =>
      intro M k I1 k1 k2 g1 g2
      have z : ¬ k < m := by omega
      refine ⟨I1, ?_, g1, fun x x1 x2 => g2 x x1 (by omega)⟩
      rw [x_exec, t_145_104]
      simp (disch := first | assumption | omega) only [k_add, k_sub, k_mul, k_lt, k_eq, k_lt0, k_0lt, k_eq0, k_nat, k_b0, k_b1, k_z1, k_z0, k_o1, k_o0, Int.reduceEq, Int.reduceLT, Int.reduceLE, Int.reduceAdd, Int.reduceMul, Int.reduceNeg, Bool.false_eq_true, or_true, true_or, or_false, false_or, and_true, true_and, and_false, false_and, not_true_eq_false, not_false_eq_true, ↓reduceIte, z_0, z_k, s_I, s_J, s_uI, s_uJ, z]
    | succ s ih =>
      intro M k I1 k1 k2 g1 g2
      have z : k < m := by omega
      have k60 : k < 60 := by omega
      have a := n_rowAt (L := L) (p := p) (d := d + 1) (hx.not91 g1) r1 r2 (show 0 ≤ i + k by omega) (show i + k < 60 by omega)
      obtain ⟨I2, q1, q2⟩ := ih M (k + 1) (u2 I1 91 k.toNat (a_rv A r (i + k))) (by omega) (by omega) (fun q hq => by rw [← g1 q hq]; funext x; rw [u2_r hq]) (fun x x1 x2 => by
        by_cases c : x = k
        · subst c
          rw [u2_ss]
        · rw [u2_k (by omega)]
          exact g2 x x1 (by omega))
      refine ⟨I2, ?_, q2⟩
      rw [show M + (s + 1) + 1 = M + s + 1 + 1 by omega, x_exec, t_145_104]
      simp (disch := first | assumption | omega) only [k_add, k_sub, k_mul, k_lt, k_eq, k_lt0, k_0lt, k_eq0, k_nat, k_b0, k_b1, k_z1, k_z0, k_o1, k_o0, Int.reduceEq, Int.reduceLT, Int.reduceLE, Int.reduceAdd, Int.reduceMul, Int.reduceNeg, Bool.false_eq_true, or_true, true_or, or_false, false_or, and_true, true_and, and_false, false_and, not_true_eq_false, not_false_eq_true, ↓reduceIte, z_0, z_k, s_I, s_J, s_uI, s_uJ, z, ↓c_gP_87_7, ↓c_oc_87, ↓jc1 a, ↓c_is_91]
      exact q1
  have two : ∀ (s M : Nat) (k : Int) (I1 : Nat → Nat → Int32), 0 ≤ k → k + s = m → s < M → (∀ q, q ≠ 90 → q ≠ 91 → I1 q = I q) → (∀ x : Int, 0 ≤ x → x < m → I1 91 x.toNat = a_rv A r (i + x)) → (∀ x : Int, 0 ≤ x → x < 360 → I1 90 x.toNat = if 60 * t + j ≤ x ∧ x < 60 * t + j + k then a_rv A r (i + (x - (60 * t + j))) else I 90 x.toNat) → ∃ I2, j_exec k_145 h_145 (j_run (d + 2)) M 136 [some (.ref 87), some (.int (j_k r)), some (.int (j_k i)), some (.int (j_k t)), some (.int (j_k j)), some (.int (j_k m)), some (.int (j_k k))] [] (ST L p I1 J) = some (some (.int (j_k 1)), ST L p I2 J) ∧ (∀ q, q ≠ 90 → q ≠ 91 → I2 q = I q) ∧ ∀ x : Int, 0 ≤ x → x < 360 → I2 90 x.toNat = if 60 * t + j ≤ x ∧ x < 60 * t + j + m then a_rv A r (i + (x - (60 * t + j))) else I 90 x.toNat := by
    intro s
    induction s with
    | zero =>
      intro M k I1 k1 k2 hM g1 g2 g3
      obtain ⟨M, rfl⟩ : ∃ q, M = q + 1 := ⟨M - 1, by omega⟩
      have z : ¬ k < m := by omega
      have km : k = m := by omega
      rw [km] at g3
      refine ⟨I1, ?_, g1, g3⟩
      rw [x_exec, t_145_136]
      simp (disch := first | assumption | omega) only [k_add, k_sub, k_mul, k_lt, k_eq, k_lt0, k_0lt, k_eq0, k_nat, k_b0, k_b1, k_z1, k_z0, k_o1, k_o0, Int.reduceEq, Int.reduceLT, Int.reduceLE, Int.reduceAdd, Int.reduceMul, Int.reduceNeg, Bool.false_eq_true, or_true, true_or, or_false, false_or, and_true, true_and, and_false, false_and, not_true_eq_false, not_false_eq_true, ↓reduceIte, z_0, z_k, s_I, s_J, s_uI, s_uJ, z]
    | succ s ih =>
      intro M k I1 k1 k2 hM g1 g2 g3
      obtain ⟨M, rfl⟩ : ∃ q, M = q + 1 := ⟨M - 1, by omega⟩
      have z : k < m := by omega
      have k60 : k < 60 := by omega
      have a := g2 k k1 z
      obtain ⟨I2, q1, q2⟩ := ih M (k + 1) (u2 I1 90 (60 * t + j + k).toNat (a_rv A r (i + k))) (by omega) (by omega) (by omega) (fun q b c => by rw [← g1 q b c]; funext x; rw [u2_r b]) (fun x x1 x2 => by rw [u2_r (by decide)]; exact g2 x x1 x2) (fun x x1 x2 => by
        by_cases c : x = 60 * t + j + k
        · subst c
          rw [u2_ss, if_pos (by omega)]
          congr 1
          omega
        · rw [u2_k (by omega), g3 x x1 x2]
          by_cases c2 : 60 * t + j ≤ x ∧ x < 60 * t + j + k
          · rw [if_pos c2, if_pos (by omega)]
          · rw [if_neg c2, if_neg (by omega)])
      refine ⟨I2, ?_, q2⟩
      rw [x_exec, t_145_136]
      simp (disch := first | assumption | omega) only [k_add, k_sub, k_mul, k_lt, k_eq, k_lt0, k_0lt, k_eq0, k_nat, k_b0, k_b1, k_z1, k_z0, k_o1, k_o0, Int.reduceEq, Int.reduceLT, Int.reduceLE, Int.reduceAdd, Int.reduceMul, Int.reduceNeg, Bool.false_eq_true, or_true, true_or, or_false, false_or, and_true, true_and, and_false, false_and, not_true_eq_false, not_false_eq_true, ↓reduceIte, z_0, z_k, s_I, s_J, s_uI, s_uJ, z, ↓c_gP_87_6, ↓c_gP_87_7, ↓c_ia_91, ↓c_is_90, a]
      exact q1
  obtain ⟨I2, a1, a2, a3⟩ := one m.toNat (M - m.toNat - 1) 0 I (Int.le_refl 0) (by omega) (fun _ _ => rfl) (fun x x1 x2 => absurd x2 (by omega))
  obtain ⟨I3, b1, b2, b3⟩ := two m.toNat (M - m.toNat - 1) 0 I2 (Int.le_refl 0) (by omega) (by omega) (fun q _ c => a2 q c) a3 (fun x x1 x2 => by rw [if_neg (by omega), a2 90 (by decide)])
  rw [show M - m.toNat - 1 + m.toNat + 1 = M by omega] at a1
  exact ⟨I3, a1.trans b1, b2, b3⟩
theorem n_copyC (hx : iM I J A) {r i t j m : Int} (h1 : -2147483648 ≤ r) (h2 : r < 2147483648) (h3 : -2147483648 ≤ i) (h4 : i < 2147483648) (h5 : -2147483648 ≤ t) (h6 : t < 2147483648) (h7 : -2147483648 ≤ j) (h8 : j < 2147483648) (h9 : -2147483648 ≤ m) (h10 : m < 2147483648) : mc L p I J (d + 3) 145 [.ref 87, .int (j_k r), .int (j_k i), .int (j_k t), .int (j_k j), .int (j_k m)] (p_copy r i t j m A) := by
  have a1 := n_isRow (L := L) (p := p) (d := d) (I := I) (J := J) h1 h2
  have a2 := n_isRow (L := L) (p := p) (d := d) (I := I) (J := J) h5 h6
  have e := (r_145 (d + 2) (ST L p I J) 87 (j_k r) (j_k i) (j_k t) (j_k j) (j_k m)).trans (t_145_0 _ _ _ _ _ _ _ _ _)
  unfold p_copy
  by_cases x : 0 ≤ r ∧ r ≤ 5
  · have z : j_z (0 ≤ r ∧ r ≤ 5) = j_k 1 := if_pos x
    rw [z] at a1
    by_cases x' : 0 ≤ t ∧ t ≤ 5
    · have z' : j_z (0 ≤ t ∧ t ≤ 5) = j_k 1 := if_pos x'
      rw [z'] at a2
      obtain ⟨r1, r2⟩ := x
      obtain ⟨t1, t2⟩ := x'
      have r3 : r < 6 := by omega
      have t3 : t < 6 := by omega
      rw [if_pos ⟨⟨r1, r3⟩, t1, t3⟩]
      have hr := (hx.2.1 r r1 r3).1
      have ht := (hx.2.1 t t1 t3).1
      have br := hx.1.2.2.2.1 r r1 r3
      have bt' := hx.1.2.2.2.1 t t1 t3
      have br1 := br.1
      have br2 := br.2
      have bt1 := bt'.1
      have bt2 := bt'.2
      obtain ⟨Ia, e1, e2, e3⟩ := n_meets (L := L) (p := p) (d := d + 1) hx (q := 5) (by decide) (by decide)
      obtain ⟨Ib, f1, f2', f3⟩ := n_meets (L := L) (p := p) (d := d + 1) hx (q := 1) (by decide) (by decide)
      obtain ⟨Ic, g1, g2, g3⟩ := n_meets (L := L) (p := p) (d := d + 1) hx (q := 2) (by decide) (by decide)
      by_cases m0 : m < 0
      · rw [if_pos m0]
        simp (disch := first | assumption | omega) only [k_add, k_sub, k_mul, k_lt, k_eq, k_lt0, k_0lt, k_eq0, k_nat, k_b0, k_b1, k_z1, k_z0, k_o1, k_o0, Int.reduceEq, Int.reduceLT, Int.reduceLE, Int.reduceAdd, Int.reduceMul, Int.reduceNeg, Bool.false_eq_true, or_true, true_or, or_false, false_or, and_true, true_and, and_false, false_and, not_true_eq_false, not_false_eq_true, ↓reduceIte, z_0, z_k, s_I, s_J, s_uI, s_uJ, ↓jc1 a1, ↓jc1 a2, m0, ↓c_oc_87, ↓jc1 e1] at e
        exact .meets e2 e3 e
      · rw [if_neg m0]
        by_cases n1 : a_rz A r = -1
        · rw [if_pos (Or.inl n1)]
          simp (disch := first | assumption | omega) only [k_add, k_sub, k_mul, k_lt, k_eq, k_lt0, k_0lt, k_eq0, k_nat, k_b0, k_b1, k_z1, k_z0, k_o1, k_o0, Int.reduceEq, Int.reduceLT, Int.reduceLE, Int.reduceAdd, Int.reduceMul, Int.reduceNeg, Bool.false_eq_true, or_true, true_or, or_false, false_or, and_true, true_and, and_false, false_and, not_true_eq_false, not_false_eq_true, ↓reduceIte, z_0, z_k, s_I, s_J, s_uI, s_uJ, ↓jc1 a1, ↓jc1 a2, m0, ↓c_gP_87_5, ↓c_ia_89, hr, n1, ↓c_oc_87, ↓jc1 f1] at e
          exact .meets f2' f3 e
        · have n1' : ¬ a_rz A r < 0 := by omega
          by_cases n2 : a_rz A t = -1
          · rw [if_pos (Or.inr n2)]
            simp (disch := first | assumption | omega) only [k_add, k_sub, k_mul, k_lt, k_eq, k_lt0, k_0lt, k_eq0, k_nat, k_b0, k_b1, k_z1, k_z0, k_o1, k_o0, Int.reduceEq, Int.reduceLT, Int.reduceLE, Int.reduceAdd, Int.reduceMul, Int.reduceNeg, Bool.false_eq_true, or_true, true_or, or_false, false_or, and_true, true_and, and_false, false_and, not_true_eq_false, not_false_eq_true, ↓reduceIte, z_0, z_k, s_I, s_J, s_uI, s_uJ, ↓jc1 a1, ↓jc1 a2, m0, ↓c_gP_87_5, ↓c_ia_89, hr, n1', ht, n2, ↓c_oc_87, ↓jc1 f1] at e
            exact .meets f2' f3 e
          · have n2' : ¬ a_rz A t < 0 := by omega
            rw [if_neg (fun u => u.elim n1 n2)]
            have q1 : (0 < lg_cmp ((j_k i).toInt64 + (j_k m).toInt64) (j_k (a_rz A r)).toInt64) = (a_rz A r < i + m) := lcg h3 h4 h9 h10 (by omega) (by omega)
            have q2 : (0 < lg_cmp ((j_k j).toInt64 + (j_k m).toInt64) (j_k (a_rz A t)).toInt64) = (a_rz A t < j + m) := lcg h7 h8 h9 h10 (by omega) (by omega)
            by_cases y1 : i < 0
            · rw [if_neg (fun u => absurd u.1.1 (by omega))]
              simp (disch := first | assumption | omega) only [k_add, k_sub, k_mul, k_lt, k_eq, k_lt0, k_0lt, k_eq0, k_nat, k_b0, k_b1, k_z1, k_z0, k_o1, k_o0, Int.reduceEq, Int.reduceLT, Int.reduceLE, Int.reduceAdd, Int.reduceMul, Int.reduceNeg, Bool.false_eq_true, or_true, true_or, or_false, false_or, and_true, true_and, and_false, false_and, not_true_eq_false, not_false_eq_true, ↓reduceIte, z_0, z_k, s_I, s_J, s_uI, s_uJ, ↓jc1 a1, ↓jc1 a2, m0, ↓c_gP_87_5, ↓c_ia_89, hr, n1', ht, n2', y1, ↓c_oc_87, ↓jc1 g1] at e
              exact .meets g2 g3 e
            · by_cases y2 : j < 0
              · rw [if_neg (fun u => absurd u.2.1 (by omega))]
                simp (disch := first | assumption | omega) only [k_add, k_sub, k_mul, k_lt, k_eq, k_lt0, k_0lt, k_eq0, k_nat, k_b0, k_b1, k_z1, k_z0, k_o1, k_o0, Int.reduceEq, Int.reduceLT, Int.reduceLE, Int.reduceAdd, Int.reduceMul, Int.reduceNeg, Bool.false_eq_true, or_true, true_or, or_false, false_or, and_true, true_and, and_false, false_and, not_true_eq_false, not_false_eq_true, ↓reduceIte, z_0, z_k, s_I, s_J, s_uI, s_uJ, ↓jc1 a1, ↓jc1 a2, m0, ↓c_gP_87_5, ↓c_ia_89, hr, n1', ht, n2', y1, y2, ↓c_oc_87, ↓jc1 g1] at e
                exact .meets g2 g3 e
              · by_cases y3 : a_rz A r < i + m
                · rw [if_neg (fun u => absurd u.1.2.2 (by omega))]
                  simp (disch := first | assumption | omega) only [k_add, k_sub, k_mul, k_lt, k_eq, k_lt0, k_0lt, k_eq0, k_nat, k_b0, k_b1, k_z1, k_z0, k_o1, k_o0, Int.reduceEq, Int.reduceLT, Int.reduceLE, Int.reduceAdd, Int.reduceMul, Int.reduceNeg, Bool.false_eq_true, or_true, true_or, or_false, false_or, and_true, true_and, and_false, false_and, not_true_eq_false, not_false_eq_true, ↓reduceIte, z_0, z_k, s_I, s_J, s_uI, s_uJ, ↓jc1 a1, ↓jc1 a2, m0, ↓c_gP_87_5, ↓c_ia_89, hr, n1', ht, n2', y1, y2, q1, y3, ↓c_oc_87, ↓jc1 g1] at e
                  exact .meets g2 g3 e
                · by_cases y4 : a_rz A t < j + m
                  · rw [if_neg (fun u => absurd u.2.2.2 (by omega))]
                    simp (disch := first | assumption | omega) only [k_add, k_sub, k_mul, k_lt, k_eq, k_lt0, k_0lt, k_eq0, k_nat, k_b0, k_b1, k_z1, k_z0, k_o1, k_o0, Int.reduceEq, Int.reduceLT, Int.reduceLE, Int.reduceAdd, Int.reduceMul, Int.reduceNeg, Bool.false_eq_true, or_true, true_or, or_false, false_or, and_true, true_and, and_false, false_and, not_true_eq_false, not_false_eq_true, ↓reduceIte, z_0, z_k, s_I, s_J, s_uI, s_uJ, ↓jc1 a1, ↓jc1 a2, m0, ↓c_gP_87_5, ↓c_ia_89, hr, n1', ht, n2', y1, y2, q1, y3, q2, y4, ↓c_oc_87, ↓jc1 g1] at e
                    exact .meets g2 g3 e
                  · rw [if_pos ⟨⟨by omega, by omega, by omega⟩, by omega, by omega, by omega⟩]
                    obtain ⟨M, hM, hM2⟩ : ∃ M, M = 999999 ∧ 200 < M := ⟨999999, rfl, by decide⟩
                    obtain ⟨I', l1, l2, l3⟩ := n_copyL (L := L) (p := p) (d := d) hx (r := r) (i := i) (t := t) (j := j) (m := m) r1 r3 (by omega) (by omega) t1 t3 (by omega) (by omega) (by omega) hM2
                    rw [← hM] at e
                    simp (disch := first | assumption | omega) only [k_add, k_sub, k_mul, k_lt, k_eq, k_lt0, k_0lt, k_eq0, k_nat, k_b0, k_b1, k_z1, k_z0, k_o1, k_o0, Int.reduceEq, Int.reduceLT, Int.reduceLE, Int.reduceAdd, Int.reduceMul, Int.reduceNeg, Bool.false_eq_true, or_true, true_or, or_false, false_or, and_true, true_and, and_false, false_and, not_true_eq_false, not_false_eq_true, ↓reduceIte, z_0, z_k, s_I, s_J, s_uI, s_uJ, ↓jc1 a1, ↓jc1 a2, m0, ↓c_gP_87_5, ↓c_ia_89, hr, n1', ht, n2', y1, y2, q1, y3, q2, y4] at e
                    refine .of ⟨_, e.trans l1, hx.rows (rz := a_rz A) (rv := f2 (a_rv A) t (p_cpy (a_rv A r) (a_rv A t) i j m)) (v := a_told A) (fun q a b c d => l2 q c d) (fun k _ => by rw [l2 87 (by decide) (by decide)]) (by rw [l2 87 (by decide) (by decide)]; exact hx.2.2.2.2.2.2.1) (fun s s1 s2 => ⟨by rw [l2 89 (by decide) (by decide)]; exact (hx.2.1 s s1 s2).1, fun k k1 k2 => ?_⟩) hx.1.2.2.2.1, fun q hq => l2 q (by omega) (by omega)⟩
                    rw [l3 _ (by omega) (by omega), (hx.2.1 s s1 s2).2 k k1 k2]
                    unfold f2
                    by_cases c : s = t
                    · subst c
                      rw [if_pos rfl]
                      unfold p_cpy
                      by_cases c2 : j ≤ k ∧ k < j + m
                      · rw [if_pos c2, if_pos (by omega)]
                        congr 1
                        omega
                      · rw [if_neg c2, if_neg (by omega)]
                    · rw [if_neg c, if_neg (by omega)]
    · have z' : j_z (0 ≤ t ∧ t ≤ 5) = j_k 0 := if_neg x'
      rw [z'] at a2
      rw [if_neg (fun u => x' (by omega))]
      simp (disch := first | assumption | omega) only [k_add, k_sub, k_mul, k_lt, k_eq, k_lt0, k_0lt, k_eq0, k_nat, k_b0, k_b1, k_z1, k_z0, k_o1, k_o0, Int.reduceEq, Int.reduceLT, Int.reduceLE, Int.reduceAdd, Int.reduceMul, Int.reduceNeg, Bool.false_eq_true, or_true, true_or, or_false, false_or, and_true, true_and, and_false, false_and, not_true_eq_false, not_false_eq_true, ↓reduceIte, z_0, z_k, s_I, s_J, s_uI, s_uJ, ↓jc1 a1, ↓jc1 a2] at e
      exact .no hx e
  · have z : j_z (0 ≤ r ∧ r ≤ 5) = j_k 0 := if_neg x
    rw [z] at a1
    rw [if_neg (fun u => x (by omega))]
    simp (disch := first | assumption | omega) only [k_add, k_sub, k_mul, k_lt, k_eq, k_lt0, k_0lt, k_eq0, k_nat, k_b0, k_b1, k_z1, k_z0, k_o1, k_o0, Int.reduceEq, Int.reduceLT, Int.reduceLE, Int.reduceAdd, Int.reduceMul, Int.reduceNeg, Bool.false_eq_true, or_true, true_or, or_false, false_or, and_true, true_and, and_false, false_and, not_true_eq_false, not_false_eq_true, ↓reduceIte, z_0, z_k, s_I, s_J, s_uI, s_uJ, ↓jc1 a1] at e
    exact .no hx e
theorem n_mean (hx : iM I J A) {r : Int} (h1 : -2147483648 ≤ r) (h2 : r < 2147483648) : mc L p I J (d + 3) 146 [.ref 87, .int (j_k r)] (p_mean r A) := by
  have a1 := n_isRow (L := L) (p := p) (d := d) (I := I) (J := J) h1 h2
  have e := (r_146 (d + 2) (ST L p I J) 87 (j_k r)).trans (t_146_0 _ _ _ _ _)
  by_cases x : 0 ≤ r ∧ r ≤ 5
  · have z : j_z (0 ≤ r ∧ r ≤ 5) = j_k 1 := if_pos x
    rw [z] at a1
    obtain ⟨r1, r2⟩ := x
    have r3 : r < 6 := by omega
    have hr := (hx.2.1 r r1 r3).1
    have br := hx.1.2.2.2.1 r r1 r3
    have br1 := br.1
    have br2 := br.2
    by_cases y : a_rz A r = -1
    · rw [show p_mean r A = p_meets 1 A from by unfold p_mean; rw [miss_m ⟨r1, r3⟩ y]; exact if_neg (show ¬ (-3 : Int) = 0 by decide)]
      obtain ⟨I', e1, e2, e3⟩ := n_meets (L := L) (p := p) (d := d + 1) hx (q := 1) (by decide) (by decide)
      simp (disch := first | assumption | omega) only [k_add, k_sub, k_mul, k_lt, k_eq, k_lt0, k_0lt, k_eq0, k_nat, k_b0, k_b1, k_z1, k_z0, k_o1, k_o0, Int.reduceEq, Int.reduceLT, Int.reduceLE, Int.reduceAdd, Int.reduceMul, Int.reduceNeg, Bool.false_eq_true, or_true, true_or, or_false, false_or, and_true, true_and, and_false, false_and, not_true_eq_false, not_false_eq_true, ↓reduceIte, z_0, z_k, s_I, s_J, s_uI, s_uJ, ↓jc1 a1, ↓c_gP_87_5, ↓c_ia_89, hr, y, ↓c_oc_87, ↓jc1 e1] at e
      exact .meets e2 e3 e
    · have y2 : ¬ a_rz A r < 0 := by omega
      by_cases w : a_rz A r = 0
      · rw [show p_mean r A = p_meets 4 A from by unfold p_mean; rw [miss_ok ⟨r1, r3⟩ y]; exact (if_pos rfl).trans (if_pos w)]
        obtain ⟨I', e1, e2, e3⟩ := n_meets (L := L) (p := p) (d := d + 1) hx (q := 4) (by decide) (by decide)
        simp (disch := first | assumption | omega) only [k_add, k_sub, k_mul, k_lt, k_eq, k_lt0, k_0lt, k_eq0, k_nat, k_b0, k_b1, k_z1, k_z0, k_o1, k_o0, Int.reduceEq, Int.reduceLT, Int.reduceLE, Int.reduceAdd, Int.reduceMul, Int.reduceNeg, Bool.false_eq_true, or_true, true_or, or_false, false_or, and_true, true_and, and_false, false_and, not_true_eq_false, not_false_eq_true, ↓reduceIte, z_0, z_k, s_I, s_J, s_uI, s_uJ, ↓jc1 a1, ↓c_gP_87_5, ↓c_ia_89, hr, w, ↓c_oc_87, ↓jc1 e1] at e
        exact .meets e2 e3 e
      · rw [show p_mean r A = (1, A_told A (p_meanV (a_rv A r) (a_rz A r))) from by unfold p_mean; rw [miss_ok ⟨r1, r3⟩ y]; exact (if_pos rfl).trans (if_neg w)]
        have nz : ¬ (j_k (a_rz A r)).toInt64 = 0 := by
          rw [l_of (by omega) (by omega)]
          intro z
          have z2 := congrArg Int64.toInt z
          have z3 : (lk (a_rz A r)).toInt = a_rz A r := Int64.toInt_ofInt_of_le (by omega) (by omega)
          rw [z3] at z2
          exact w z2
        have loop : ∀ (t M : Nat) (k : Int) (s : Int64), 0 ≤ k → k + t = a_rz A r → t < M → j_exec k_146 h_146 (j_run (d + 2)) M 44 [some (.ref 87), some (.int (j_k r)), some (.long s), none, some (.int (j_k k))] [] (ST L p I J) = some (some (.int (j_k 1)), ST L p (u2 I 87 2 ((p_loop (fun k s => s + (a_rv A r k).toInt64) t k s / (j_k (a_rz A r)).toInt64).toInt32)) J) := by
          intro t
          induction t with
          | zero =>
            intro M k s k1 k2 hM
            obtain ⟨M, rfl⟩ : ∃ q, M = q + 1 := ⟨M - 1, by omega⟩
            have z : ¬ k < a_rz A r := by omega
            have T := n_tells (L := L) (p := p) (d := d + 1) (I := I) (J := J) (v := (s / (j_k (a_rz A r)).toInt64).toInt32) (x := j_k 1)
            rw [x_exec, t_146_44, p_loop0]
            simp (disch := first | assumption | omega) only [k_add, k_sub, k_mul, k_lt, k_eq, k_lt0, k_0lt, k_eq0, k_nat, k_b0, k_b1, k_z1, k_z0, k_o1, k_o0, Int.reduceEq, Int.reduceLT, Int.reduceLE, Int.reduceAdd, Int.reduceMul, Int.reduceNeg, Bool.false_eq_true, or_true, true_or, or_false, false_or, and_true, true_and, and_false, false_and, not_true_eq_false, not_false_eq_true, ↓reduceIte, z_0, z_k, s_I, s_J, s_uI, s_uJ, ↓c_gP_87_5, ↓c_ia_89, hr, z, nz, ↓c_oc_87, ↓jc1 T]
          | succ t ih =>
            intro M k s k1 k2 hM
            obtain ⟨M, rfl⟩ : ∃ q, M = q + 1 := ⟨M - 1, by omega⟩
            have z : k < a_rz A r := by omega
            have a := n_rowAt (L := L) (p := p) (d := d + 1) hx r1 r3 k1 (show k < 60 by omega)
            rw [x_exec, t_146_44, p_loopS]
            simp (disch := first | assumption | omega) only [k_add, k_sub, k_mul, k_lt, k_eq, k_lt0, k_0lt, k_eq0, k_nat, k_b0, k_b1, k_z1, k_z0, k_o1, k_o0, Int.reduceEq, Int.reduceLT, Int.reduceLE, Int.reduceAdd, Int.reduceMul, Int.reduceNeg, Bool.false_eq_true, or_true, true_or, or_false, false_or, and_true, true_and, and_false, false_and, not_true_eq_false, not_false_eq_true, ↓reduceIte, z_0, z_k, s_I, s_J, s_uI, s_uJ, ↓c_gP_87_5, ↓c_ia_89, hr, z, ↓c_oc_87, ↓jc1 a]
            exact ih M (k + 1) _ (by omega) (by omega) (by omega)
        obtain ⟨M, hM, hM2⟩ : ∃ M, M = 999999 ∧ 100 < M := ⟨999999, rfl, by decide⟩
        rw [← hM] at e
        simp (disch := first | assumption | omega) only [k_add, k_sub, k_mul, k_lt, k_eq, k_lt0, k_0lt, k_eq0, k_nat, k_b0, k_b1, k_z1, k_z0, k_o1, k_o0, Int.reduceEq, Int.reduceLT, Int.reduceLE, Int.reduceAdd, Int.reduceMul, Int.reduceNeg, Bool.false_eq_true, or_true, true_or, or_false, false_or, and_true, true_and, and_false, false_and, not_true_eq_false, not_false_eq_true, ↓reduceIte, z_0, z_k, s_I, s_J, s_uI, s_uJ, ↓jc1 a1, ↓c_gP_87_5, ↓c_ia_89, hr, y2, w] at e
        exact .of ⟨_, e.trans (loop (a_rz A r).toNat M 0 (Int64.ofNat 0) (Int.le_refl 0) (by omega) (by omega)), hx.told, fr_told⟩
  · have z : j_z (0 ≤ r ∧ r ≤ 5) = j_k 0 := if_neg x
    rw [z] at a1
    rw [show p_mean r A = (-1, A) from by unfold p_mean; rw [miss_no (by omega)]; exact if_neg (show ¬ (-1 : Int) = 0 by decide)]
    simp (disch := first | assumption | omega) only [k_add, k_sub, k_mul, k_lt, k_eq, k_lt0, k_0lt, k_eq0, k_nat, k_b0, k_b1, k_z1, k_z0, k_o1, k_o0, Int.reduceEq, Int.reduceLT, Int.reduceLE, Int.reduceAdd, Int.reduceMul, Int.reduceNeg, Bool.false_eq_true, or_true, true_or, or_false, false_or, and_true, true_and, and_false, false_and, not_true_eq_false, not_false_eq_true, ↓reduceIte, z_0, z_k, s_I, s_J, s_uI, s_uJ, ↓jc1 a1] at e
    exact .no hx e
theorem n_text (hx : iM I J A) {r n : Int} (h1 : -2147483648 ≤ r) (h2 : r < 2147483648) (h3 : -2147483648 ≤ n) (h4 : n < 2147483648) : mc L p I J (d + 3) 148 [.ref 87, .int (j_k r), .int (j_k n)] (p_text r n A) := by
  have a1 := n_isText (L := L) (p := p) (d := d) (I := I) (J := J) h1 h2
  have e := (r_148 (d + 2) (ST L p I J) 87 (j_k r) (j_k n)).trans (t_148_0 _ _ _ _ _ _)
  unfold p_text
  by_cases x : 0 ≤ r ∧ r ≤ 3
  · have z : j_z (0 ≤ r ∧ r ≤ 3) = j_k 1 := if_pos x
    rw [z] at a1
    obtain ⟨r1, r2⟩ := x
    have r3 : r < 4 := by omega
    by_cases y : n ≤ 80
    · have y' : ¬ 80 < n := by omega
      rw [if_pos ⟨⟨r1, r3⟩, y⟩]
      by_cases w : n < 0
      · rw [if_pos w]
        obtain ⟨I', e1, e2, e3⟩ := n_meets (L := L) (p := p) (d := d + 1) hx (q := 5) (by decide) (by decide)
        simp (disch := first | assumption | omega) only [k_add, k_sub, k_mul, k_lt, k_eq, k_lt0, k_0lt, k_eq0, k_nat, k_b0, k_b1, k_z1, k_z0, k_o1, k_o0, Int.reduceEq, Int.reduceLT, Int.reduceLE, Int.reduceAdd, Int.reduceMul, Int.reduceNeg, Bool.false_eq_true, or_true, true_or, or_false, false_or, and_true, true_and, and_false, false_and, not_true_eq_false, not_false_eq_true, ↓reduceIte, z_0, z_k, s_I, s_J, s_uI, s_uJ, ↓jc1 a1, y', w, ↓c_oc_87, ↓jc1 e1] at e
        exact .meets e2 e3 e
      · rw [if_neg w]
        have loop : ∀ (t M : Nat) (i : Int) (I1 : Nat → Nat → Int32), 0 ≤ i → i + t = 80 → t < M → (∀ q, q ≠ 92 → q ≠ 93 → I1 q = I q) → I1 92 = u1 (I 92) r.toNat (j_k n) → (∀ j : Int, 0 ≤ j → j < 320 → I1 93 j.toNat = if 80 * r ≤ j ∧ j < 80 * r + i then j_k 32 else I 93 j.toNat) → ∃ I2, j_exec k_148 h_148 (j_run (d + 2)) M 34 [some (.ref 87), some (.int (j_k r)), some (.int (j_k n)), some (.int (j_k i))] [] (ST L p I1 J) = some (some (.int (j_k n)), ST L p I2 J) ∧ (∀ q, q ≠ 92 → q ≠ 93 → I2 q = I q) ∧ I2 92 = u1 (I 92) r.toNat (j_k n) ∧ (∀ j : Int, 0 ≤ j → j < 320 → I2 93 j.toNat = if 80 * r ≤ j ∧ j < 80 * r + 80 then j_k 32 else I 93 j.toNat) := by
          intro t
          induction t with
          | zero =>
            intro M i I1 i1 i2 hM g1 g2 g3
            obtain ⟨M, rfl⟩ : ∃ q, M = q + 1 := ⟨M - 1, by omega⟩
            have z : ¬ i < 80 := by omega
            have i80 : i = 80 := by omega
            subst i80
            refine ⟨I1, ?_, g1, g2, g3⟩
            rw [x_exec, t_148_34]
            simp (disch := first | assumption | omega) only [k_add, k_sub, k_mul, k_lt, k_eq, k_lt0, k_0lt, k_eq0, k_nat, k_b0, k_b1, k_z1, k_z0, k_o1, k_o0, Int.reduceEq, Int.reduceLT, Int.reduceLE, Int.reduceAdd, Int.reduceMul, Int.reduceNeg, Bool.false_eq_true, or_true, true_or, or_false, false_or, and_true, true_and, and_false, false_and, not_true_eq_false, not_false_eq_true, ↓reduceIte, z_0, z_k, s_I, s_J, s_uI, s_uJ, z]
          | succ t ih =>
            intro M i I1 i1 i2 hM g1 g2 g3
            obtain ⟨M, rfl⟩ : ∃ q, M = q + 1 := ⟨M - 1, by omega⟩
            have z : i < 80 := by omega
            obtain ⟨I2, q1, q2⟩ := ih M (i + 1) (u2 I1 93 (80 * r + i).toNat (j_k 32)) (by omega) (by omega) (by omega) (fun q a b => by rw [← g1 q a b]; funext m; rw [u2_r b]) (by rw [← g2]; funext m; rw [u2_r (by decide)]) (fun j j1 j2 => by
              by_cases c : j = 80 * r + i
              · subst c
                rw [u2_ss, if_pos (by omega)]
              · rw [u2_k (by omega), g3 j j1 j2]
                by_cases c2 : 80 * r ≤ j ∧ j < 80 * r + i
                · rw [if_pos c2, if_pos (by omega)]
                · rw [if_neg c2, if_neg (by omega)])
            refine ⟨I2, ?_, q2⟩
            rw [x_exec, t_148_34]
            simp (disch := first | assumption | omega) only [k_add, k_sub, k_mul, k_lt, k_eq, k_lt0, k_0lt, k_eq0, k_nat, k_b0, k_b1, k_z1, k_z0, k_o1, k_o0, Int.reduceEq, Int.reduceLT, Int.reduceLE, Int.reduceAdd, Int.reduceMul, Int.reduceNeg, Bool.false_eq_true, or_true, true_or, or_false, false_or, and_true, true_and, and_false, false_and, not_true_eq_false, not_false_eq_true, ↓reduceIte, z_0, z_k, s_I, s_J, s_uI, s_uJ, z, ↓c_gP_87_9, ↓c_bs_93, by_32]
            exact q1
        obtain ⟨I2, q1, q2, q3, q4⟩ := loop 80 999999 0 (u2 I 92 r.toNat (j_k n)) (Int.le_refl 0) (by decide) (by decide) (fun q a b => by funext m; rw [u2_r a]) (by show u1 I 92 (u1 (I 92) r.toNat (j_k n)) 92 = _; rw [u1_same]) (fun j j1 j2 => by
          rw [u2_r (by decide), if_neg (by omega)])
        simp (disch := first | assumption | omega) only [k_add, k_sub, k_mul, k_lt, k_eq, k_lt0, k_0lt, k_eq0, k_nat, k_b0, k_b1, k_z1, k_z0, k_o1, k_o0, Int.reduceEq, Int.reduceLT, Int.reduceLE, Int.reduceAdd, Int.reduceMul, Int.reduceNeg, Bool.false_eq_true, or_true, true_or, or_false, false_or, and_true, true_and, and_false, false_and, not_true_eq_false, not_false_eq_true, ↓reduceIte, z_0, z_k, s_I, s_J, s_uI, s_uJ, ↓jc1 a1, y', w, ↓c_gP_87_8, ↓c_is_92] at e
        refine .of ⟨I2, e.trans q1, hx.texts (tz := f2 (a_tz A) r n) (tv := f2 (a_tv A) r (fun _ => 32)) q2 (fun s s1 s2 => ⟨?_, fun k k1 k2 => ?_⟩) (fun s s1 s2 => ?_) (fun s k s1 s2 k1 k2 => ?_), fun q hq => q2 q (by omega) (by omega)⟩
        · rw [q3]
          unfold f2
          by_cases c : s = r
          · subst c
            rw [u1_same, if_pos rfl]
          · rw [u1_ne (by omega), if_neg c]
            exact (hx.2.2.1 s s1 s2).1
        · rw [q4 (80 * s + k) (by omega) (by omega)]
          unfold f2
          by_cases c : s = r
          · subst c
            rw [if_pos (by omega), if_pos rfl]
          · rw [if_neg (by omega), if_neg c]
            exact (hx.2.2.1 s s1 s2).2 k k1 k2
        · unfold f2
          by_cases c : s = r
          · rw [if_pos c]
            omega
          · rw [if_neg c]
            exact hx.1.2.2.2.2.1 s s1 s2
        · unfold f2
          by_cases c : s = r
          · rw [if_pos c]
            exact ⟨by decide, by decide⟩
          · rw [if_neg c]
            exact hx.1.2.2.2.2.2 s k s1 s2 k1 k2
    · have y' : 80 < n := by omega
      rw [if_neg (fun u => y u.2)]
      simp (disch := first | assumption | omega) only [k_add, k_sub, k_mul, k_lt, k_eq, k_lt0, k_0lt, k_eq0, k_nat, k_b0, k_b1, k_z1, k_z0, k_o1, k_o0, Int.reduceEq, Int.reduceLT, Int.reduceLE, Int.reduceAdd, Int.reduceMul, Int.reduceNeg, Bool.false_eq_true, or_true, true_or, or_false, false_or, and_true, true_and, and_false, false_and, not_true_eq_false, not_false_eq_true, ↓reduceIte, z_0, z_k, s_I, s_J, s_uI, s_uJ, ↓jc1 a1, y'] at e
      exact .no hx e
  · have z : j_z (0 ≤ r ∧ r ≤ 3) = j_k 0 := if_neg x
    rw [z] at a1
    rw [if_neg (fun u => x (by omega))]
    simp (disch := first | assumption | omega) only [k_add, k_sub, k_mul, k_lt, k_eq, k_lt0, k_0lt, k_eq0, k_nat, k_b0, k_b1, k_z1, k_z0, k_o1, k_o0, Int.reduceEq, Int.reduceLT, Int.reduceLE, Int.reduceAdd, Int.reduceMul, Int.reduceNeg, Bool.false_eq_true, or_true, true_or, or_false, false_or, and_true, true_and, and_false, false_and, not_true_eq_false, not_false_eq_true, ↓reduceIte, z_0, z_k, s_I, s_J, s_uI, s_uJ, ↓jc1 a1] at e
    exact .no hx e
theorem n_putC (hx : iM I J A) {r i : Int} {v : Int32} (h1 : -2147483648 ≤ r) (h2 : r < 2147483648) (h3 : -2147483648 ≤ i) (h4 : i < 2147483648) : mc L p I J (d + 3) 149 [.ref 87, .int (j_k r), .int (j_k i), .int v] (p_put r i v A) := by
  have a1 := n_isText (L := L) (p := p) (d := d) (I := I) (J := J) h1 h2
  have e := (r_149 (d + 2) (ST L p I J) 87 (j_k r) (j_k i) v).trans (t_149_0 _ _ _ _ _ _ _)
  by_cases x : 0 ≤ r ∧ r ≤ 3
  · have z : j_z (0 ≤ r ∧ r ≤ 3) = j_k 1 := if_pos x
    rw [z] at a1
    obtain ⟨r1, r2⟩ := x
    have r3 : r < 4 := by omega
    have hr := (hx.2.2.1 r r1 r3).1
    have br := hx.1.2.2.2.2.1 r r1 r3
    have br1 := br.1
    have br2 := br.2
    by_cases y : a_tz A r = -1
    · rw [show p_put r i v A = p_meets 1 A from by unfold p_put; rw [place_m ⟨r1, r3⟩ y]; exact if_neg (show ¬ (-3 : Int) = 0 by decide)]
      obtain ⟨I', e1, e2, e3⟩ := n_meets (L := L) (p := p) (d := d + 1) hx (q := 1) (by decide) (by decide)
      simp (disch := first | assumption | omega) only [k_add, k_sub, k_mul, k_lt, k_eq, k_lt0, k_0lt, k_eq0, k_nat, k_b0, k_b1, k_z1, k_z0, k_o1, k_o0, Int.reduceEq, Int.reduceLT, Int.reduceLE, Int.reduceAdd, Int.reduceMul, Int.reduceNeg, Bool.false_eq_true, or_true, true_or, or_false, false_or, and_true, true_and, and_false, false_and, not_true_eq_false, not_false_eq_true, ↓reduceIte, z_0, z_k, s_I, s_J, s_uI, s_uJ, ↓jc1 a1, ↓c_gP_87_8, ↓c_ia_92, hr, y, ↓c_oc_87, ↓jc1 e1] at e
      exact .meets e2 e3 e
    · have y2 : ¬ a_tz A r < 0 := by omega
      have a2 := n_in (L := L) (p := p) (d := d + 1) (I := I) (J := J) (v := i) (lo := 0) (hi := a_tz A r - 1) h3 h4 (by decide) (by decide) (by omega) (by omega)
      by_cases w : 0 ≤ i ∧ i ≤ a_tz A r - 1
      · have z2 : j_z (0 ≤ i ∧ i ≤ a_tz A r - 1) = j_k 1 := if_pos w
        rw [z2] at a2
        obtain ⟨w1, w2⟩ := w
        have i80 : i < 80 := by omega
        have a3 := (hx.2.2.1 r r1 r3).2 i w1 i80
        rw [show p_put r i v A = (1000 + a_tv A r i, A_tv A (f2 (a_tv A) r (f2 (a_tv A r) i (p_byte v)))) from by unfold p_put; rw [place_ok ⟨r1, r3⟩ y ⟨w1, by omega⟩, Int.add_comm 1000]; exact if_pos rfl]
        simp (disch := first | assumption | omega) only [k_add, k_sub, k_mul, k_lt, k_eq, k_lt0, k_0lt, k_eq0, k_nat, k_b0, k_b1, k_z1, k_z0, k_o1, k_o0, Int.reduceEq, Int.reduceLT, Int.reduceLE, Int.reduceAdd, Int.reduceMul, Int.reduceNeg, Bool.false_eq_true, or_true, true_or, or_false, false_or, and_true, true_and, and_false, false_and, not_true_eq_false, not_false_eq_true, ↓reduceIte, z_0, z_k, s_I, s_J, s_uI, s_uJ, ↓jc1 a1, ↓c_gP_87_8, ↓c_ia_92, hr, y2, ↓jc1 a2, ↓c_gP_87_9, ↓c_ba_93, a3, ↓c_bs_93, by_by] at e
        refine .of ⟨_, e, hx.texts (tz := a_tz A) (tv := f2 (a_tv A) r (f2 (a_tv A r) i (p_byte v))) (fun q a b => ?_) (fun s s1 s2 => ⟨?_, fun k k1 k2 => ?_⟩) hx.1.2.2.2.2.1 (fun s k s1 s2 k1 k2 => ?_), fun q hq => ?_⟩
        · funext m
          rw [u2_r b]
        · rw [u2_r (by decide)]
          exact (hx.2.2.1 s s1 s2).1
        · unfold f2
          by_cases c : s = r
          · subst c
            rw [if_pos rfl]
            by_cases c2 : k = i
            · subst c2
              rw [u2_ss, if_pos rfl]
            · rw [u2_k (by omega), if_neg c2]
              exact (hx.2.2.1 s s1 s2).2 k k1 k2
          · rw [u2_k (by omega), if_neg c]
            exact (hx.2.2.1 s s1 s2).2 k k1 k2
        · unfold f2
          by_cases c : s = r
          · rw [if_pos c]
            by_cases c2 : k = i
            · rw [if_pos c2]
              exact byte_rg v
            · rw [if_neg c2]
              exact hx.1.2.2.2.2.2 r k r1 r3 k1 k2
          · rw [if_neg c]
            exact hx.1.2.2.2.2.2 s k s1 s2 k1 k2
        · funext m
          rw [u2_r (by omega)]
      · have z2 : j_z (0 ≤ i ∧ i ≤ a_tz A r - 1) = j_k 0 := if_neg w
        rw [z2] at a2
        rw [show p_put r i v A = p_meets 2 A from by unfold p_put; rw [place_b ⟨r1, r3⟩ y (by omega)]; exact if_neg (show ¬ (-3 : Int) = 0 by decide)]
        obtain ⟨I', e1, e2, e3⟩ := n_meets (L := L) (p := p) (d := d + 1) hx (q := 2) (by decide) (by decide)
        simp (disch := first | assumption | omega) only [k_add, k_sub, k_mul, k_lt, k_eq, k_lt0, k_0lt, k_eq0, k_nat, k_b0, k_b1, k_z1, k_z0, k_o1, k_o0, Int.reduceEq, Int.reduceLT, Int.reduceLE, Int.reduceAdd, Int.reduceMul, Int.reduceNeg, Bool.false_eq_true, or_true, true_or, or_false, false_or, and_true, true_and, and_false, false_and, not_true_eq_false, not_false_eq_true, ↓reduceIte, z_0, z_k, s_I, s_J, s_uI, s_uJ, ↓jc1 a1, ↓c_gP_87_8, ↓c_ia_92, hr, y2, ↓jc1 a2, ↓c_oc_87, ↓jc1 e1] at e
        exact .meets e2 e3 e
  · have z : j_z (0 ≤ r ∧ r ≤ 3) = j_k 0 := if_neg x
    rw [z] at a1
    rw [show p_put r i v A = (-1, A) from by unfold p_put; rw [place_no (by omega)]; exact if_neg (show ¬ (-1 : Int) = 0 by decide)]
    simp (disch := first | assumption | omega) only [k_add, k_sub, k_mul, k_lt, k_eq, k_lt0, k_0lt, k_eq0, k_nat, k_b0, k_b1, k_z1, k_z0, k_o1, k_o0, Int.reduceEq, Int.reduceLT, Int.reduceLE, Int.reduceAdd, Int.reduceMul, Int.reduceNeg, Bool.false_eq_true, or_true, true_or, or_false, false_or, and_true, true_and, and_false, false_and, not_true_eq_false, not_false_eq_true, ↓reduceIte, z_0, z_k, s_I, s_J, s_uI, s_uJ, ↓jc1 a1] at e
    exact .no hx e
end MROWS2
