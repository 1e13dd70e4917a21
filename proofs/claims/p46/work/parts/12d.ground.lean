/-! ===== the law's ground, whole; what a beast tells ===== -/
section LAW4
variable {L p d : Nat} {I : Nat → Nat → Int32} {J : Nat → Nat → Int64} {A : Ast} {w h n : Int} {gr kd ce : Fl}
/-- the state behind ground() -/
def stA (w h n : Int) (gr ce : Fl) (z : Int → Int) (A : Ast) : Prop := a_gw A = w ∧ a_gh A = h ∧ a_gn A = n ∧ (∀ c, 0 ≤ c → c < w * h → a_gr A c = gr c) ∧ (∀ k, 0 ≤ k → k < n → a_fl A (5 + k) = ce k ∧ a_fl A (9 + k) = 0) ∧ a_fl A 0 = 0 ∧ a_rz A = z
theorem tw_1 (hG : okG w h n gr kd ce) : tw w h n gr kd ce 1 = fun _ => 32 := by
  have hN := wh_30 hG.1
  funext i
  unfold tw
  by_cases y : i < 1
  · rw [if_pos y]
    unfold tgt
    rw [if_neg (by omega), if_neg (by omega), if_neg (by omega), if_neg (by omega), if_neg (by omega)]
  · rw [if_neg y]
theorem gd_all (hG : okG w h n gr kd ce) (hI : gI I w h n gr kd ce) (hx : iX I J A) : ∃ p' I' J' A', j_run (d + 7) 131 [.ref 0, .ref 87] (ST L p I J) = some (some (.int (j_k 1)), ST L p' I' J') ∧ iX I' J' A' ∧ frX I I' J J' ∧ stA w h n gr ce (a_rz A) A' := by
  have hw := hG.1
  have hN := wh_30 hw
  have hn := hG.2.1
  have e0 : p_text 3 80 A = (80, A_tv (A_tz A (f2 (a_tz A) 3 80)) (f2 (a_tv A) 3 (fun _ => 32))) := by
    unfold p_text
    rw [if_pos (by decide), if_neg (by decide)]
  have h0 := x_text (L := L) (p := p) (d := d + 1) hx (r := 3) (n := 80) (by decide) (by decide) (by decide) (by decide)
  rw [e0] at h0
  obtain ⟨p0, I0, J0, a1, a2, a3⟩ := h0
  have hS0 : wS w h n gr kd ce (a_rz A) 1 (A_tv (A_tz A (f2 (a_tz A) 3 80)) (f2 (a_tv A) 3 (fun _ => 32))) := by
    refine ⟨show f2 (a_tz A) 3 80 3 = 80 from if_pos rfl, ?_, rfl⟩
    rw [tw_1 hG]
    exact show f2 (a_tv A) 3 (fun _ => 32) 3 = fun _ => 32 from if_pos rfl
  obtain ⟨p1, I1, J1, A1, b1, b2, b3, b4⟩ := lw_put (L := L) (p := p0) (d := d) a2 hS0 (q := 1) (v := 103) (by decide) (by decide) rfl (by decide) (by decide)
  obtain ⟨p2, I2, J2, A2, c1, c2, c3, c4⟩ := lw_put (L := L) (p := p1) (d := d) b2 b4 (q := 1 + 1) (v := 48 + w) (by decide) (by decide) rfl (by omega) (by omega)
  obtain ⟨p3, I3, J3, A3, d1, d2, d3, d4⟩ := lw_put (L := L) (p := p2) (d := d) c2 c4 (q := 1 + 1 + 1) (v := 48 + h) (by decide) (by decide) rfl (by omega) (by omega)
  have c1 : j_run (d + 6) 129 [.ref 0, .int (j_k 2), .int (j_k (48 + w))] (ST L p1 I1 J1) = some (some (.int (j_k 3)), ST L p2 I2 J2) := c1
  have d1 : j_run (d + 6) 129 [.ref 0, .int (j_k 3), .int (j_k (48 + h))] (ST L p2 I2 J2) = some (some (.int (j_k 4)), ST L p3 I3 J3) := d1
  have f1 := a3.tr b3
  have f2' := f1.tr c3
  have f3 := f2'.tr d3
  have g1 : I1 87 = I 87 := f1.1 87 (by decide)
  have g2 : I2 87 = I 87 := f2'.1 87 (by decide)
  have hI3 := hI.cg (f3.1 87 (by decide))
  obtain ⟨M, hM⟩ : ∃ M, 999999 = M + 1 + 1 + 2 * n.toNat + 1 + 2 * (w * h).toNat := ⟨999999 - (1 + 1 + 2 * n.toNat + 1 + 2 * (w * h).toNat), by omega⟩
  obtain ⟨p4, I4, J4, A4, u1, u2, u3, u4⟩ := gd_cells (L := L) (d := d) (z := a_rz A) hG (w * h).toNat (M + 1 + 1 + 2 * n.toNat + 1) p3 0 I3 J3 A3 (Int.le_refl 0) (by omega) hI3 d2 d4
  have hI4 := hI3.cg (u3.1 87 (by decide))
  obtain ⟨p5, I5, J5, A5, v1, v2, v3, v4⟩ := gd_beasts (L := L) (d := d) (z := a_rz A) hG n.toNat (M + 1 + 1) p4 0 I4 J4 A4 (Int.le_refl 0) (by omega) hI4 u2 (by rw [show 4 + w * h + 3 * 0 = 4 + w * h by omega]; exact u4)
  have hI5 := hI4.cg (v3.1 87 (by decide))
  have hR := read_is hG (tw_okT hG)
  have em : p_miss 4 (a_tz A5) 3 A5 = (0, A5) := by
    unfold p_miss
    rw [if_pos (by decide), v4.1, if_neg (by decide)]
  have eF : p_faultC 3 A5 = (-9, A5) := by
    unfold p_faultC
    rw [em, if_pos rfl, v4.1, v4.2.1, hR.1]
  have hF := x_fault (L := L) (p := p5) (d := d) v2 (t := 3) (by decide) (by decide)
  rw [eF] at hF
  obtain ⟨p6, I6, J6, q1, q2, q3⟩ := hF
  obtain ⟨e9, eWH, gr', kd', f', eC, eB, hgr, hkf, hf0⟩ := hR
  have eG : p_groundC 3 A5 = (n, p_newA A5 w h gr' n kd' f') := by
    unfold p_groundC
    rw [em, if_pos rfl, v4.1, v4.2.1, if_pos e9, eWH, eC, eB]
  have hGr := x_ground (L := L) (p := p6) (d := d) q2 (t := 3) (by decide) (by decide)
  rw [eG] at hGr
  obtain ⟨p7, I7, J7, s1, s2, s3⟩ := hGr
  have f7 := ((f3.tr u3).tr v3).tr (q3.tr s3)
  have g7 : I7 87 = I 87 := f7.1 87 (by decide)
  refine ⟨p7, I7, J7, _, ?_, s2, f7, rfl, rfl, rfl, hgr, fun k k0 k1 => (hkf k k0 k1).2, hf0, v4.2.2⟩
  obtain ⟨i0, i1, ic, i40, ik⟩ := hI
  have z1 : ¬ w * h < w * h := by omega
  have z2 : ¬ n < n := by omega
  have z3 : 0 < 4 + w * h + 3 * n := by omega
  have g4 : I4 87 = I 87 := ((f3.tr u3).1 87 (by decide))
  have g5 : I5 87 = I 87 := (((f3.tr u3).tr v3).1 87 (by decide))
  have E5 : j_exec k_131 h_131 (j_run (d + 6)) (M + 1 + 1) 121 [some (.ref 0), some (.ref 87), some (.int (j_k (4 + w * h + 3 * n))), some (.int (j_k n)), none] [] (ST L p5 I5 J5) = some (some (.int (j_k 1)), ST L p7 I7 J7) := by
    rw [x_exec, t_131_121]
    simp (disch := first | assumption | omega) only [k_add, k_sub, k_mul, k_lt, k_eq, k_lt0, k_0lt, k_eq0, k_nat, k_b0, k_b1, k_z1, k_z0, k_o1, k_o0, Int.reduceEq, Int.reduceLT, Int.reduceLE, Int.reduceAdd, Int.reduceMul, Int.reduceNeg, Int.reduceToNat, Bool.false_eq_true, or_true, true_or, or_false, false_or, and_true, true_and, and_false, false_and, not_true_eq_false, not_false_eq_true, ↓reduceIte, z_0, z_k, s_I, s_J, s_uI, s_uJ, ↓c_ia_87, g5, i40, z2]
    rw [x_exec, t_131_241]
    simp (disch := first | assumption | omega) only [k_add, k_sub, k_mul, k_lt, k_eq, k_lt0, k_0lt, k_eq0, k_nat, k_b0, k_b1, k_z1, k_z0, k_o1, k_o0, Int.reduceEq, Int.reduceLT, Int.reduceLE, Int.reduceAdd, Int.reduceMul, Int.reduceNeg, Int.reduceToNat, Bool.false_eq_true, or_true, true_or, or_false, false_or, and_true, true_and, and_false, false_and, not_true_eq_false, not_false_eq_true, ↓reduceIte, z_0, z_k, s_I, s_J, s_uI, s_uJ, z3, ↓c_oc_0, ↓jc1 q1, ↓jc1 s1, ↓c_ia_87, g7, i40]
  have E4 : j_exec k_131 h_131 (j_run (d + 6)) (M + 1 + 1 + 2 * n.toNat + 1) 44 [some (.ref 0), some (.ref 87), some (.int (j_k (4 + w * h))), some (.int (j_k (w * h))), none] [] (ST L p4 I4 J4) = some (some (.int (j_k 1)), ST L p7 I7 J7) := by
    rw [x_exec, t_131_44]
    simp (disch := first | assumption | omega) only [k_add, k_sub, k_mul, k_lt, k_eq, k_lt0, k_0lt, k_eq0, k_nat, k_b0, k_b1, k_z1, k_z0, k_o1, k_o0, Int.reduceEq, Int.reduceLT, Int.reduceLE, Int.reduceAdd, Int.reduceMul, Int.reduceNeg, Int.reduceToNat, Bool.false_eq_true, or_true, true_or, or_false, false_or, and_true, true_and, and_false, false_and, not_true_eq_false, not_false_eq_true, ↓reduceIte, z_0, z_k, s_I, s_J, s_uI, s_uJ, ↓c_ia_87, g4, i0, i1, z1]
    rw [show 4 + w * h + 3 * 0 = 4 + w * h by omega] at v1
    exact v1.trans E5
  rw [r_131, t_131_0, hM]
  simp (disch := first | assumption | omega) only [k_add, k_sub, k_mul, k_lt, k_eq, k_lt0, k_0lt, k_eq0, k_nat, k_b0, k_b1, k_z1, k_z0, k_o1, k_o0, Int.reduceEq, Int.reduceLT, Int.reduceLE, Int.reduceAdd, Int.reduceMul, Int.reduceNeg, Int.reduceToNat, Bool.false_eq_true, or_true, true_or, or_false, false_or, and_true, true_and, and_false, false_and, not_true_eq_false, not_false_eq_true, ↓reduceIte, z_0, z_k, s_I, s_J, s_uI, s_uJ, ↓c_oc_0, ↓jc1 a1, ↓jc1 b1, ↓jc1 c1, ↓jc1 d1, ↓c_ia_87, g1, g2, i0, i1]
  exact u1.trans E4
theorem lw_tells (hx : iX I J A) : j_run (d + 2) 133 [.ref 0, .int (j_k 1)] (ST L p I J) = some (some (.int (a_told A)), ST L p I J) := by
  have e := x_asked (L := L) (p := p) (d := d) hx
  rw [r_133, t_133_0]
  simp (disch := first | assumption | omega) only [k_add, k_sub, k_mul, k_lt, k_eq, k_lt0, k_0lt, k_eq0, k_nat, k_b0, k_b1, k_z1, k_z0, k_o1, k_o0, Int.reduceEq, Int.reduceLT, Int.reduceLE, Int.reduceAdd, Int.reduceMul, Int.reduceNeg, Int.reduceToNat, Bool.false_eq_true, or_true, true_or, or_false, false_or, and_true, true_and, and_false, false_and, not_true_eq_false, not_false_eq_true, ↓reduceIte, z_0, z_k, s_I, s_J, s_uI, s_uJ, ↓c_oc_0, ↓jc1 e]
end LAW4
