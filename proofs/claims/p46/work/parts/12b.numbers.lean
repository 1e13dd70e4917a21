/-! ===== the law's numbers of a ground, whole; off; tells ===== -/
section LAW2
variable {L p d : Nat} {I : Nat → Nat → Int32} {J : Nat → Nat → Int64}
theorem nu_beasts {w h u : Int} {gr : Fl} (u4 : u ≤ 4) : ∀ (t M : Nat) (k n : Int) (kd ce : Fl) (I : Nat → Nat → Int32), 0 ≤ k → k + t = u → n ≤ k → 20 * t + 20 < M → okG w h n gr kd ce → gI I w h n gr kd ce → ∃ (I' : Nat → Nat → Int32) (n' : Int) (kd' ce' : Fl), j_exec k_130 h_130 (j_run (d + 1)) M 155 [some (.ref 1000004), some (.int (j_k 10)), some (.int (j_k 4)), some (.ref 87), some (.int (j_k w)), some (.int (j_k h)), some (.int (j_k u)), some (.int (j_k k)), none, none, none, none] [] (ST L p I J) = some (none, ST L p I' J) ∧ okG w h n' gr kd' ce' ∧ gI I' w h n' gr kd' ce' ∧ ∀ r, r ≠ 87 → I' r = I r
  | 0, M, k, n, kd, ce, I, k0, kt, nk, hM, hG, hI => by
    obtain ⟨M, rfl⟩ : ∃ q, M = q + 1 := ⟨M - 1, by omega⟩
    have z : ¬ k < u := by omega
    refine ⟨I, n, kd, ce, ?_, hG, hI, fun _ _ => rfl⟩
    rw [x_exec, t_130_155]
    simp (disch := first | assumption | omega) only [k_add, k_sub, k_mul, k_lt, k_eq, k_lt0, k_0lt, k_eq0, k_nat, k_b0, k_b1, k_z1, k_z0, k_o1, k_o0, Int.reduceEq, Int.reduceLT, Int.reduceLE, Int.reduceAdd, Int.reduceMul, Int.reduceNeg, Int.reduceToNat, Bool.false_eq_true, or_true, true_or, or_false, false_or, and_true, true_and, and_false, false_and, not_true_eq_false, not_false_eq_true, ↓reduceIte, z_0, z_k, s_I, s_J, s_uI, s_uJ, z]
  | t + 1, M, k, n, kd, ce, I, k0, kt, nk, hM, hG, hI => by
    obtain ⟨M, rfl⟩ : ∃ q, M = q + 1 := ⟨M - 1, by omega⟩
    obtain ⟨M, rfl⟩ : ∃ q, M = q + 1 := ⟨M - 1, by omega⟩
    have z : k < u := by omega
    have hN := wh_30 hG.1
    have n0 := hG.2.1.1
    obtain ⟨x, x0, x1, e⟩ := lw_cell (L := L) (p := p) (d := d) (I := I) (J := J) (k := 23 + k) (by omega) (by omega)
    have q0 : 0 ≤ x / 8 % (w * h) := Int.emod_nonneg _ (by omega)
    have q1 : x / 8 % (w * h) < w * h := Int.emod_lt_of_pos _ (by omega)
    have eq : (j_k x / j_k 8) - (j_k x / j_k 8) / (j_k (w * h)) * (j_k (w * h)) = j_k (x / 8 % (w * h)) := by
      rw [k_divp x0 (by omega) (by decide) (by decide), k_modp (by omega) (by omega) (by omega) (by omega)]
    generalize x / 8 % (w * h) = q at q0 q1 eq
    have hg := hG.2.2.1 q q0 q1
    have ig := hI.2.2.1 q q0 q1
    have z2 : ¬ w * h = 0 := by omega
    have e1 : j_exec k_130 h_130 (j_run (d + 1)) (M + 1 + 1) 155 [some (.ref 1000004), some (.int (j_k 10)), some (.int (j_k 4)), some (.ref 87), some (.int (j_k w)), some (.int (j_k h)), some (.int (j_k u)), some (.int (j_k k)), none, none, none, none] [] (ST L p I J) = j_exec k_130 h_130 (j_run (d + 1)) (M + 1) 188 [some (.ref 1000004), some (.int (j_k 10)), some (.int (j_k 4)), some (.ref 87), some (.int (j_k w)), some (.int (j_k h)), some (.int (j_k u)), some (.int (j_k k)), some (.int (j_k x)), some (.int (j_k q)), none, none] [] (ST L p I J) := by
      rw [x_exec, t_130_155]
      simp (disch := first | assumption | omega) only [k_add, k_sub, k_mul, k_lt, k_eq, k_lt0, k_0lt, k_eq0, k_nat, k_b0, k_b1, k_z1, k_z0, k_o1, k_o0, Int.reduceEq, Int.reduceLT, Int.reduceLE, Int.reduceAdd, Int.reduceMul, Int.reduceNeg, Int.reduceToNat, Bool.false_eq_true, or_true, true_or, or_false, false_or, and_true, true_and, and_false, false_and, not_true_eq_false, not_false_eq_true, ↓reduceIte, z_0, z_k, s_I, s_J, s_uI, s_uJ, z, ↓jc1 e, z2, ↓eq]
    obtain ⟨m, hm, hm2, e2⟩ : ∃ m : Int, (m = 0 ∨ m = 1) ∧ (m = 1 → gr q ≠ 1 ∧ gr q ≠ 2) ∧ j_exec k_130 h_130 (j_run (d + 1)) (M + 1) 188 [some (.ref 1000004), some (.int (j_k 10)), some (.int (j_k 4)), some (.ref 87), some (.int (j_k w)), some (.int (j_k h)), some (.int (j_k u)), some (.int (j_k k)), some (.int (j_k x)), some (.int (j_k q)), none, none] [] (ST L p I J) = j_exec k_130 h_130 (j_run (d + 1)) M 218 (muL w h u k x q m 0) [] (ST L p I J) := by
      rw [x_exec, t_130_188]
      by_cases y1 : gr q = 1
      · exact ⟨0, Or.inl rfl, fun y => absurd y (by decide), by simp (disch := first | assumption | omega) only [k_add, k_sub, k_mul, k_lt, k_eq, k_lt0, k_0lt, k_eq0, k_nat, k_b0, k_b1, k_z1, k_z0, k_o1, k_o0, Int.reduceEq, Int.reduceLT, Int.reduceLE, Int.reduceAdd, Int.reduceMul, Int.reduceNeg, Int.reduceToNat, Bool.false_eq_true, or_true, true_or, or_false, false_or, and_true, true_and, and_false, false_and, not_true_eq_false, not_false_eq_true, ↓reduceIte, z_0, z_k, s_I, s_J, s_uI, s_uJ, ↓c_ia_87, ig, y1]⟩
      by_cases y2 : gr q = 2
      · exact ⟨0, Or.inl rfl, fun y => absurd y (by decide), by simp (disch := first | assumption | omega) only [k_add, k_sub, k_mul, k_lt, k_eq, k_lt0, k_0lt, k_eq0, k_nat, k_b0, k_b1, k_z1, k_z0, k_o1, k_o0, Int.reduceEq, Int.reduceLT, Int.reduceLE, Int.reduceAdd, Int.reduceMul, Int.reduceNeg, Int.reduceToNat, Bool.false_eq_true, or_true, true_or, or_false, false_or, and_true, true_and, and_false, false_and, not_true_eq_false, not_false_eq_true, ↓reduceIte, z_0, z_k, s_I, s_J, s_uI, s_uJ, ↓c_ia_87, ig, y1, y2]⟩
      · exact ⟨1, Or.inr rfl, fun _ => ⟨y1, y2⟩, by simp (disch := first | assumption | omega) only [k_add, k_sub, k_mul, k_lt, k_eq, k_lt0, k_0lt, k_eq0, k_nat, k_b0, k_b1, k_z1, k_z0, k_o1, k_o0, Int.reduceEq, Int.reduceLT, Int.reduceLE, Int.reduceAdd, Int.reduceMul, Int.reduceNeg, Int.reduceToNat, Bool.false_eq_true, or_true, true_or, or_false, false_or, and_true, true_and, and_false, false_and, not_true_eq_false, not_false_eq_true, ↓reduceIte, z_0, z_k, s_I, s_J, s_uI, s_uJ, ↓c_ia_87, ig, y1, y2]⟩
    obtain ⟨M2, m', r1, r2, r3, r4⟩ := nu_may (L := L) (p := p) (d := d) (J := J) (u := u) (k := k) (x := x) hG hI q0 q1 n.toNat M 0 m (Int.le_refl 0) (by omega) hm (by omega) (fun _ i i0 i1 => absurd i1 (by omega))
    obtain ⟨M2, rfl⟩ : ∃ q, M2 = q + 1 := ⟨M2 - 1, by omega⟩
    obtain ⟨M2, rfl⟩ : ∃ q, M2 = q + 1 := ⟨M2 - 1, by omega⟩
    obtain ⟨I2, n2, kd2, ce2, s1, s2, s3, s4, s5⟩ := nu_one (L := L) (p := p) (d := d) (J := J) (u := u) (k := k) hG hI q0 q1 x0 x1 (by omega) r2 (fun y => ⟨hm2 (r3 y).1, (r3 y).2⟩) (M := M2 + 1)
    obtain ⟨I3, n3, kd3, ce3, t1, t2, t3, t4⟩ := nu_beasts u4 t M2 (k + 1) n2 kd2 ce2 I2 (by omega) (by omega) (by omega) (by omega) s2 s3
    refine ⟨I3, n3, kd3, ce3, ?_, t2, t3, fun r hr => (t4 r hr).trans (s5 r hr)⟩
    rw [e1, e2, r4, s1, x_exec, t_130_306, k_add]
    exact t1
theorem nu_all : ∃ (I' : Nat → Nat → Int32) (w h n : Int) (gr kd ce : Fl), j_run (d + 2) 130 [.ref 1000004, .int (j_k 10), .int (j_k 4), .ref 87] (ST L p I J) = some (none, ST L p I' J) ∧ okG w h n gr kd ce ∧ gI I' w h n gr kd ce ∧ ∀ r, r ≠ 87 → I' r = I r := by
  obtain ⟨x, x0, x1, e1⟩ := lw_cell (L := L) (p := p) (d := d) (I := I) (J := J) (k := 10) (by decide) (by decide)
  obtain ⟨w, hw, w2, w6⟩ : ∃ w, w = 2 + (x - x / 5 * 5) ∧ 2 ≤ w ∧ w ≤ 6 := ⟨_, rfl, by omega, by omega⟩
  obtain ⟨h, hh, h1, h5⟩ : ∃ h, h = 1 + (x / 8 - x / 8 / 5 * 5) ∧ 1 ≤ h ∧ h ≤ 5 := ⟨_, rfl, by omega, by omega⟩
  have hW : 2 ≤ w ∧ w ≤ 6 ∧ 1 ≤ h ∧ h ≤ 5 := ⟨w2, w6, h1, h5⟩
  have hN := wh_30 hW
  obtain ⟨M, hM, hM2⟩ : ∃ M, M = 999999 ∧ 1000 < M := ⟨_, rfl, by decide⟩
  obtain ⟨M1, I1, gr, r1, r2, r3, r4, r5, r6⟩ := nu_cells (L := L) (p := p) (d := d) (J := J) hW (w * h).toNat M 0 (u2 (u2 I 87 0 (j_k w)) 87 1 (j_k h)) (fun _ => 0) (Int.le_refl 0) (by omega) (by omega) (by rw [u2_k (by decide), u2_ss]) (u2_ss _ _ _ _) (fun x a b => absurd b (by omega))
  obtain ⟨M1, rfl⟩ : ∃ q, M1 = q + 1 := ⟨M1 - 1, by omega⟩
  obtain ⟨y, y0, y1, e2⟩ := lw_cell (L := L) (p := p) (d := d) (I := u2 I1 87 40 (j_k 0)) (J := J) (k := 22) (by decide) (by decide)
  obtain ⟨I3, n3, kd3, ce3, t1, t2, t3, t4⟩ := nu_beasts (L := L) (p := p) (d := d) (J := J) (w := w) (h := h) (gr := gr) (u := 1 + (y - y / 4 * 4)) (by omega) (1 + (y - y / 4 * 4)).toNat M1 0 0 (fun _ => 0) (fun _ => 0) (u2 I1 87 40 (j_k 0)) (Int.le_refl 0) (by omega) (Int.le_refl 0) (by omega) ⟨hW, by omega, fun c c0 c1 => (r5 c c0 c1).2, fun k k0 k1 => absurd k1 (by omega), fun i j i0 ij j1 => absurd j1 (by omega)⟩ ⟨by rw [u2_k (by decide)]; exact r3, by rw [u2_k (by decide)]; exact r4, fun c c0 c1 => by rw [u2_k (by omega)]; exact (r5 c c0 c1).1, u2_ss _ _ _ _, fun k k0 k1 => absurd k1 (by omega)⟩
  have z : ¬ w * h < w * h := by omega
  refine ⟨I3, w, h, n3, gr, kd3, ce3, ?_, t2, t3, fun r hr => ?_⟩
  · rw [r_130, t_130_0, ← hM]
    simp (disch := first | assumption | omega) only [k_add, k_sub, k_mul, k_lt, k_eq, k_lt0, k_0lt, k_eq0, k_nat, k_b0, k_b1, k_z1, k_z0, k_o1, k_o0, Int.reduceEq, Int.reduceLT, Int.reduceLE, Int.reduceAdd, Int.reduceMul, Int.reduceNeg, Int.reduceToNat, Bool.false_eq_true, or_true, true_or, or_false, false_or, and_true, true_and, and_false, false_and, not_true_eq_false, not_false_eq_true, ↓reduceIte, z_0, z_k, s_I, s_J, s_uI, s_uJ, ↓jc1 e1, k_divp, ↓c_is_87, ← hw, ← hh]
    refine r2.trans ?_
    rw [x_exec, t_130_38]
    simp (disch := first | assumption | omega) only [k_add, k_sub, k_mul, k_lt, k_eq, k_lt0, k_0lt, k_eq0, k_nat, k_b0, k_b1, k_z1, k_z0, k_o1, k_o0, Int.reduceEq, Int.reduceLT, Int.reduceLE, Int.reduceAdd, Int.reduceMul, Int.reduceNeg, Int.reduceToNat, Bool.false_eq_true, or_true, true_or, or_false, false_or, and_true, true_and, and_false, false_and, not_true_eq_false, not_false_eq_true, ↓reduceIte, z_0, z_k, s_I, s_J, s_uI, s_uJ, z, ↓c_is_87, ↓jc1 e2, k_divp]
    exact t1
  · rw [t4 r hr, u2_row hr, r6 r hr, u2_row hr, u2_row hr]
/-- how far two cells are apart, as the law counts it -/
theorem lw_off {w h n : Int} {gr kd ce : Fl} (hw : 2 ≤ w ∧ w ≤ 6 ∧ 1 ≤ h ∧ h ≤ 5) (i0 : I 87 0 = j_k w) {a b : Int} (a0 : 0 ≤ a) (a1 : a < w * h) (b0 : 0 ≤ b) (b1 : b < w * h) : j_run (d + 1) 132 [.ref 87, .int (j_k a), .int (j_k b)] (ST L p I J) = some (some (.int (j_k (p_off w a b))), ST L p I J) := by
  have hN := wh_30 hw
  have x0 : 0 ≤ a % w := Int.emod_nonneg _ (by omega)
  have x1 : a % w < w := Int.emod_lt_of_pos _ (by omega)
  have y0 : 0 ≤ b % w := Int.emod_nonneg _ (by omega)
  have y1 : b % w < w := Int.emod_lt_of_pos _ (by omega)
  have u0 : 0 ≤ a / w := Int.ediv_nonneg a0 (by omega)
  have u1 : a / w ≤ a := Int.ediv_le_self _ a0
  have v0 : 0 ≤ b / w := Int.ediv_nonneg b0 (by omega)
  have v1 : b / w ≤ b := Int.ediv_le_self _ b0
  have ea : a - a / w * w = a % w := by rw [Int.emod_def, Int.mul_comm w]
  have eb : b - b / w * w = b % w := by rw [Int.emod_def, Int.mul_comm w]
  have z : ¬ w = 0 := by omega
  rw [r_132, t_132_0]
  unfold p_off p_abs
  by_cases z1 : a % w - b % w < 0
  · have z3 : ¬ 0 ≤ a % w - b % w := by omega
    by_cases z2 : a / w - b / w < 0
    · have z4 : ¬ 0 ≤ a / w - b / w := by omega
      simp (disch := first | assumption | omega) only [k_add, k_sub, k_mul, k_lt, k_eq, k_lt0, k_0lt, k_eq0, k_nat, k_b0, k_b1, k_z1, k_z0, k_o1, k_o0, Int.reduceEq, Int.reduceLT, Int.reduceLE, Int.reduceAdd, Int.reduceMul, Int.reduceNeg, Int.reduceToNat, Bool.false_eq_true, or_true, true_or, or_false, false_or, and_true, true_and, and_false, false_and, not_true_eq_false, not_false_eq_true, ↓reduceIte, z_0, z_k, s_I, s_J, s_uI, s_uJ, ↓c_ia_87, i0, z, ea, eb, k_divp, k_neg, z1, z2, z3, z4]
    · have z4 : 0 ≤ a / w - b / w := by omega
      simp (disch := first | assumption | omega) only [k_add, k_sub, k_mul, k_lt, k_eq, k_lt0, k_0lt, k_eq0, k_nat, k_b0, k_b1, k_z1, k_z0, k_o1, k_o0, Int.reduceEq, Int.reduceLT, Int.reduceLE, Int.reduceAdd, Int.reduceMul, Int.reduceNeg, Int.reduceToNat, Bool.false_eq_true, or_true, true_or, or_false, false_or, and_true, true_and, and_false, false_and, not_true_eq_false, not_false_eq_true, ↓reduceIte, z_0, z_k, s_I, s_J, s_uI, s_uJ, ↓c_ia_87, i0, z, ea, eb, k_divp, k_neg, z1, z2, z3, z4]
  · have z3 : 0 ≤ a % w - b % w := by omega
    by_cases z2 : a / w - b / w < 0
    · have z4 : ¬ 0 ≤ a / w - b / w := by omega
      simp (disch := first | assumption | omega) only [k_add, k_sub, k_mul, k_lt, k_eq, k_lt0, k_0lt, k_eq0, k_nat, k_b0, k_b1, k_z1, k_z0, k_o1, k_o0, Int.reduceEq, Int.reduceLT, Int.reduceLE, Int.reduceAdd, Int.reduceMul, Int.reduceNeg, Int.reduceToNat, Bool.false_eq_true, or_true, true_or, or_false, false_or, and_true, true_and, and_false, false_and, not_true_eq_false, not_false_eq_true, ↓reduceIte, z_0, z_k, s_I, s_J, s_uI, s_uJ, ↓c_ia_87, i0, z, ea, eb, k_divp, k_neg, z1, z2, z3, z4]
    · have z4 : 0 ≤ a / w - b / w := by omega
      simp (disch := first | assumption | omega) only [k_add, k_sub, k_mul, k_lt, k_eq, k_lt0, k_0lt, k_eq0, k_nat, k_b0, k_b1, k_z1, k_z0, k_o1, k_o0, Int.reduceEq, Int.reduceLT, Int.reduceLE, Int.reduceAdd, Int.reduceMul, Int.reduceNeg, Int.reduceToNat, Bool.false_eq_true, or_true, true_or, or_false, false_or, and_true, true_and, and_false, false_and, not_true_eq_false, not_false_eq_true, ↓reduceIte, z_0, z_k, s_I, s_J, s_uI, s_uJ, ↓c_ia_87, i0, z, ea, eb, k_divp, k_neg, z1, z2, z3, z4]
end LAW2
