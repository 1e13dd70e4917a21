/-! ===== the law looks at each of them behind a step ===== -/
theorem loop_snoc {α : Type} {b : Int → α → α} : ∀ (m : Nat) (k : Int) (s : α), p_loop b (m + 1) k s = b (k + m) (p_loop b m k s)
  | 0, k, s => by rw [p_loopS, p_loop0, p_loop0, show k + ((0 : Nat) : Int) = k by omega]
  | m + 1, k, s => by rw [p_loopS, loop_snoc m (k + 1), p_loopS, show k + 1 + (m : Int) = k + ((m + 1 : Nat) : Int) by omega]
theorem off_self {w c : Int} : p_off w c c = 0 := by
  unfold p_off p_abs
  rw [Int.sub_self, Int.sub_self]
  rfl
/-- how many of the first k are lost -/
def lostK (F : Fl) (k : Int) : Int := p_loop (fun k s => if F (5 + k) = -9 then s + 1 else s) k.toNat 0 0
theorem lostK_S {F : Fl} {k : Int} (k0 : 0 ≤ k) : lostK F (k + 1) = lostK F k + if F (5 + k) = -9 then 1 else 0 := by
  unfold lostK
  rw [show (k + 1).toNat = k.toNat + 1 by omega, loop_snoc, show (0 : Int) + (k.toNat : Int) = k by omega]
  split <;> omega
theorem lostK_rg {F : Fl} {k : Int} (k0 : 0 ≤ k) : 0 ≤ lostK F k ∧ lostK F k ≤ k := lost_rg (n := k) (f := F) k0
section LOOK
variable {L p d : Nat} {I : Nat → Nat → Int32} {J : Nat → Nat → Int64} {w h n : Int} {gr kd ce : Fl} {v6 v7 v8 v9 v10 : Int32}
theorem lk_chk (hL : 2000 ≤ L) (hG : okG w h n gr kd ce) (hI : gI I w h n gr kd ce) {k l b now many old wn : Int} (k0 : 0 ≤ k) (k4 : k < 4) (l0 : 0 ≤ l) (l4 : l < 100) (i88 : I 88 k.toNat = j_k old) (i89 : I 89 k.toNat = j_k wn) (ho : old = -9 ∨ ((0 ≤ old ∧ old < w * h) ∧ gr old ≠ 1 ∧ gr old ≠ 2)) (hb : (b = 0 ∧ now = old ∧ many = wn) ∨ (b = 1 ∧ old ≠ -9 ∧ many = wn + 1 ∧ (now = -9 ∨ ((0 ≤ now ∧ now < w * h) ∧ gr now ≠ 1 ∧ gr now ≠ 2 ∧ p_off w now old = 1)))) {M : Nat} : j_exec k_137 h_137 (j_run (d + 12)) (M + 1 + 1 + 1 + 1 + 1) 259 (lwL n v6 v7 v8 [some (.int v9), some (.int v10), some (.int (j_k l)), some (.int (j_k k)), some (.int (j_k now)), some (.int (j_k many)), some (.int (j_k b)), none]) [] (ST L p I J) = j_exec k_137 h_137 (j_run (d + 12)) M 367 (lwL n v6 v7 v8 [some (.int v9), some (.int v10), some (.int (j_k (l + if now = -9 then 1 else 0))), some (.int (j_k k)), some (.int (j_k now)), some (.int (j_k many)), some (.int (j_k b)), some (.int (j_k 0))]) [] (ST L p I J) := by
  have hN := wh_30 hG.1
  have i0 := hI.1
  have E5 : ∀ l', j_exec k_137 h_137 (j_run (d + 12)) (M + 1) 364 (lwL n v6 v7 v8 [some (.int v9), some (.int v10), some (.int (j_k l')), some (.int (j_k k)), some (.int (j_k now)), some (.int (j_k many)), some (.int (j_k b)), none]) [] (ST L p I J) = j_exec k_137 h_137 (j_run (d + 12)) M 367 (lwL n v6 v7 v8 [some (.int v9), some (.int v10), some (.int (j_k l')), some (.int (j_k k)), some (.int (j_k now)), some (.int (j_k many)), some (.int (j_k b)), some (.int (j_k 0))]) [] (ST L p I J) := fun l' => by rw [x_exec, t_137_364]
  by_cases y : now = -9
  · subst y
    rw [if_pos rfl, ← E5]
    have E4 : ∀ l', j_exec k_137 h_137 (j_run (d + 12)) (M + 1 + 1) 313 (lwL n v6 v7 v8 [some (.int v9), some (.int v10), some (.int (j_k l')), some (.int (j_k k)), some (.int (j_k (-9))), some (.int (j_k many)), some (.int (j_k b)), none]) [] (ST L p I J) = j_exec k_137 h_137 (j_run (d + 12)) (M + 1) 364 (lwL n v6 v7 v8 [some (.int v9), some (.int v10), some (.int (j_k l')), some (.int (j_k k)), some (.int (j_k (-9))), some (.int (j_k many)), some (.int (j_k b)), none]) [] (ST L p I J) := fun l' => by
      rw [x_exec, t_137_313]
      simp (disch := first | assumption | omega) only [k_add, k_sub, k_mul, k_lt, k_eq, k_lt0, k_0lt, k_eq0, k_nat, k_b0, k_b1, k_z1, k_z0, k_o1, k_o0, Int.reduceEq, Int.reduceLT, Int.reduceLE, Int.reduceAdd, Int.reduceMul, Int.reduceNeg, Int.reduceToNat, Bool.false_eq_true, or_true, true_or, or_false, false_or, and_true, true_and, and_false, false_and, not_true_eq_false, not_false_eq_true, ↓reduceIte, z_0, z_k, s_I, s_J, s_uI, s_uJ, ]
    rw [← E4]
    rcases hb with ⟨rfl, e1, rfl⟩ | ⟨rfl, e1, rfl, -⟩
    · rw [← e1] at i88
      rw [x_exec, t_137_259]
      simp (disch := first | assumption | omega) only [k_add, k_sub, k_mul, k_lt, k_eq, k_lt0, k_0lt, k_eq0, k_nat, k_b0, k_b1, k_z1, k_z0, k_o1, k_o0, Int.reduceEq, Int.reduceLT, Int.reduceLE, Int.reduceAdd, Int.reduceMul, Int.reduceNeg, Int.reduceToNat, Bool.false_eq_true, or_true, true_or, or_false, false_or, and_true, true_and, and_false, false_and, not_true_eq_false, not_false_eq_true, ↓reduceIte, z_0, z_k, s_I, s_J, s_uI, s_uJ, ]
      rw [x_exec, t_137_274]
      simp (disch := first | assumption | omega) only [k_add, k_sub, k_mul, k_lt, k_eq, k_lt0, k_0lt, k_eq0, k_nat, k_b0, k_b1, k_z1, k_z0, k_o1, k_o0, Int.reduceEq, Int.reduceLT, Int.reduceLE, Int.reduceAdd, Int.reduceMul, Int.reduceNeg, Int.reduceToNat, Bool.false_eq_true, or_true, true_or, or_false, false_or, and_true, true_and, and_false, false_and, not_true_eq_false, not_false_eq_true, ↓reduceIte, z_0, z_k, s_I, s_J, s_uI, s_uJ, ↓c_ia_89 hL, i89, Int.add_zero]
      rw [x_exec, t_137_295]
      simp (disch := first | assumption | omega) only [k_add, k_sub, k_mul, k_lt, k_eq, k_lt0, k_0lt, k_eq0, k_nat, k_b0, k_b1, k_z1, k_z0, k_o1, k_o0, Int.reduceEq, Int.reduceLT, Int.reduceLE, Int.reduceAdd, Int.reduceMul, Int.reduceNeg, Int.reduceToNat, Bool.false_eq_true, or_true, true_or, or_false, false_or, and_true, true_and, and_false, false_and, not_true_eq_false, not_false_eq_true, ↓reduceIte, z_0, z_k, s_I, s_J, s_uI, s_uJ, ↓c_ia_88 hL, i88]
    · have hr := ho.resolve_left e1
      have y1 : ¬ old < 0 := by omega
      have y2 : old < 2147483648 := by omega
      rw [x_exec, t_137_259]
      simp (disch := first | assumption | omega) only [k_add, k_sub, k_mul, k_lt, k_eq, k_lt0, k_0lt, k_eq0, k_nat, k_b0, k_b1, k_z1, k_z0, k_o1, k_o0, Int.reduceEq, Int.reduceLT, Int.reduceLE, Int.reduceAdd, Int.reduceMul, Int.reduceNeg, Int.reduceToNat, Bool.false_eq_true, or_true, true_or, or_false, false_or, and_true, true_and, and_false, false_and, not_true_eq_false, not_false_eq_true, ↓reduceIte, z_0, z_k, s_I, s_J, s_uI, s_uJ, ]
      rw [x_exec, t_137_274]
      simp (disch := first | assumption | omega) only [k_add, k_sub, k_mul, k_lt, k_eq, k_lt0, k_0lt, k_eq0, k_nat, k_b0, k_b1, k_z1, k_z0, k_o1, k_o0, Int.reduceEq, Int.reduceLT, Int.reduceLE, Int.reduceAdd, Int.reduceMul, Int.reduceNeg, Int.reduceToNat, Bool.false_eq_true, or_true, true_or, or_false, false_or, and_true, true_and, and_false, false_and, not_true_eq_false, not_false_eq_true, ↓reduceIte, z_0, z_k, s_I, s_J, s_uI, s_uJ, ↓c_ia_89 hL, i89]
      rw [x_exec, t_137_295]
      simp (disch := first | assumption | omega) only [k_add, k_sub, k_mul, k_lt, k_eq, k_lt0, k_0lt, k_eq0, k_nat, k_b0, k_b1, k_z1, k_z0, k_o1, k_o0, Int.reduceEq, Int.reduceLT, Int.reduceLE, Int.reduceAdd, Int.reduceMul, Int.reduceNeg, Int.reduceToNat, Bool.false_eq_true, or_true, true_or, or_false, false_or, and_true, true_and, and_false, false_and, not_true_eq_false, not_false_eq_true, ↓reduceIte, z_0, z_k, s_I, s_J, s_uI, s_uJ, ↓c_ia_88 hL, i88, y1]
  · rw [if_neg y, Int.add_zero, ← E5]
    have hnow : (0 ≤ now ∧ now < w * h) ∧ gr now ≠ 1 ∧ gr now ≠ 2 := by
      rcases hb with ⟨-, e1, -⟩ | ⟨-, -, -, e1⟩
      · rw [e1] at y ⊢
        exact ho.resolve_left y
      · have := e1.resolve_left y
        exact ⟨this.1, this.2.1, this.2.2.1⟩
    obtain ⟨⟨n0, n1⟩, g1, g2⟩ := hnow
    have ig := hI.2.2.1 now n0 n1
    have rg := hG.2.2.1 now n0 n1
    have y1 : ¬ now < 0 := by omega
    have hr : 0 ≤ old ∧ old < w * h := by
      rcases hb with ⟨-, e1, -⟩ | ⟨-, e1, -, -⟩
      · rw [← e1]
        exact ⟨n0, n1⟩
      · exact (ho.resolve_left e1).1
    have y2 : ¬ old < 0 := by omega
    have hoff : j_run (d + 12) 132 [.ref 87, .int (j_k now), .int (j_k old)] (ST L p I J) = some (some (.int (j_k (p_off w now old))), ST L p I J) := lw_off (d := d + 11) (n := n) (gr := gr) (kd := kd) (ce := ce) hG.1 i0 n0 n1 hr.1 hr.2
    rcases hb with ⟨rfl, rfl, rfl⟩ | ⟨rfl, e1, rfl, e2⟩
    · rw [off_self] at hoff
      rw [x_exec, t_137_259]
      simp (disch := first | assumption | omega) only [k_add, k_sub, k_mul, k_lt, k_eq, k_lt0, k_0lt, k_eq0, k_nat, k_b0, k_b1, k_z1, k_z0, k_o1, k_o0, Int.reduceEq, Int.reduceLT, Int.reduceLE, Int.reduceAdd, Int.reduceMul, Int.reduceNeg, Int.reduceToNat, Bool.false_eq_true, or_true, true_or, or_false, false_or, and_true, true_and, and_false, false_and, not_true_eq_false, not_false_eq_true, ↓reduceIte, z_0, z_k, s_I, s_J, s_uI, s_uJ, y1, Int.add_zero]
      rw [x_exec, t_137_274]
      simp (disch := first | assumption | omega) only [k_add, k_sub, k_mul, k_lt, k_eq, k_lt0, k_0lt, k_eq0, k_nat, k_b0, k_b1, k_z1, k_z0, k_o1, k_o0, Int.reduceEq, Int.reduceLT, Int.reduceLE, Int.reduceAdd, Int.reduceMul, Int.reduceNeg, Int.reduceToNat, Bool.false_eq_true, or_true, true_or, or_false, false_or, and_true, true_and, and_false, false_and, not_true_eq_false, not_false_eq_true, ↓reduceIte, z_0, z_k, s_I, s_J, s_uI, s_uJ, ↓c_ia_89 hL, i89, Int.add_zero]
      rw [x_exec, t_137_295]
      simp (disch := first | assumption | omega) only [k_add, k_sub, k_mul, k_lt, k_eq, k_lt0, k_0lt, k_eq0, k_nat, k_b0, k_b1, k_z1, k_z0, k_o1, k_o0, Int.reduceEq, Int.reduceLT, Int.reduceLE, Int.reduceAdd, Int.reduceMul, Int.reduceNeg, Int.reduceToNat, Bool.false_eq_true, or_true, true_or, or_false, false_or, and_true, true_and, and_false, false_and, not_true_eq_false, not_false_eq_true, ↓reduceIte, z_0, z_k, s_I, s_J, s_uI, s_uJ, ↓c_ia_88 hL, i88, y1]
      rw [x_exec, t_137_313]
      simp (disch := first | assumption | omega) only [k_add, k_sub, k_mul, k_lt, k_eq, k_lt0, k_0lt, k_eq0, k_nat, k_b0, k_b1, k_z1, k_z0, k_o1, k_o0, Int.reduceEq, Int.reduceLT, Int.reduceLE, Int.reduceAdd, Int.reduceMul, Int.reduceNeg, Int.reduceToNat, Bool.false_eq_true, or_true, true_or, or_false, false_or, and_true, true_and, and_false, false_and, not_true_eq_false, not_false_eq_true, ↓reduceIte, z_0, z_k, s_I, s_J, s_uI, s_uJ, y1, ↓c_ia_87, ig, g1, g2, ↓c_ia_88 hL, i88, ↓jc1 hoff]
    · have e3 := (e2.resolve_left y).2.2.2
      rw [e3] at hoff
      rw [x_exec, t_137_259]
      simp (disch := first | assumption | omega) only [k_add, k_sub, k_mul, k_lt, k_eq, k_lt0, k_0lt, k_eq0, k_nat, k_b0, k_b1, k_z1, k_z0, k_o1, k_o0, Int.reduceEq, Int.reduceLT, Int.reduceLE, Int.reduceAdd, Int.reduceMul, Int.reduceNeg, Int.reduceToNat, Bool.false_eq_true, or_true, true_or, or_false, false_or, and_true, true_and, and_false, false_and, not_true_eq_false, not_false_eq_true, ↓reduceIte, z_0, z_k, s_I, s_J, s_uI, s_uJ, y1, Int.add_zero]
      rw [x_exec, t_137_274]
      simp (disch := first | assumption | omega) only [k_add, k_sub, k_mul, k_lt, k_eq, k_lt0, k_0lt, k_eq0, k_nat, k_b0, k_b1, k_z1, k_z0, k_o1, k_o0, Int.reduceEq, Int.reduceLT, Int.reduceLE, Int.reduceAdd, Int.reduceMul, Int.reduceNeg, Int.reduceToNat, Bool.false_eq_true, or_true, true_or, or_false, false_or, and_true, true_and, and_false, false_and, not_true_eq_false, not_false_eq_true, ↓reduceIte, z_0, z_k, s_I, s_J, s_uI, s_uJ, ↓c_ia_89 hL, i89]
      rw [x_exec, t_137_295]
      simp (disch := first | assumption | omega) only [k_add, k_sub, k_mul, k_lt, k_eq, k_lt0, k_0lt, k_eq0, k_nat, k_b0, k_b1, k_z1, k_z0, k_o1, k_o0, Int.reduceEq, Int.reduceLT, Int.reduceLE, Int.reduceAdd, Int.reduceMul, Int.reduceNeg, Int.reduceToNat, Bool.false_eq_true, or_true, true_or, or_false, false_or, and_true, true_and, and_false, false_and, not_true_eq_false, not_false_eq_true, ↓reduceIte, z_0, z_k, s_I, s_J, s_uI, s_uJ, ↓c_ia_88 hL, i88, y2]
      rw [x_exec, t_137_313]
      simp (disch := first | assumption | omega) only [k_add, k_sub, k_mul, k_lt, k_eq, k_lt0, k_0lt, k_eq0, k_nat, k_b0, k_b1, k_z1, k_z0, k_o1, k_o0, Int.reduceEq, Int.reduceLT, Int.reduceLE, Int.reduceAdd, Int.reduceMul, Int.reduceNeg, Int.reduceToNat, Bool.false_eq_true, or_true, true_or, or_false, false_or, and_true, true_and, and_false, false_and, not_true_eq_false, not_false_eq_true, ↓reduceIte, z_0, z_k, s_I, s_J, s_uI, s_uJ, y1, ↓c_ia_87, ig, g1, g2, ↓c_ia_88 hL, i88, ↓jc1 hoff]
/-- no two in one cell -/
theorem lk_far {k now : Int} {v11 v14 v15 : Int32} (k4 : k < 4) : ∀ (t M p : Nat) (j : Int) (I : Nat → Nat → Int32) (J : Nat → Nat → Int64) (A : Ast), 0 ≤ j → j + t = k → k < a_gn A → a_fl A (5 + k) = now → t < M → iX I J A → ∃ (M' p' : Nat) (I' : Nat → Nat → Int32) (J' : Nat → Nat → Int64) (x : Int32), M ≤ M' + t ∧ j_exec k_137 h_137 (j_run (d + 12)) M 367 (lwL n v6 v7 v8 [some (.int v9), some (.int v10), some (.int v11), some (.int (j_k k)), some (.int (j_k now)), some (.int v14), some (.int v15), some (.int (j_k j))]) [] (ST L p I J) = j_exec k_137 h_137 (j_run (d + 12)) M' 367 (lwL n v6 v7 v8 [some (.int v9), some (.int v10), some (.int v11), some (.int (j_k k)), some (.int (j_k now)), some (.int v14), some (.int v15), some (.int (j_k k))]) [] (ST L p' I' J') ∧ iX I' J' (A_told A x) ∧ frX I I' J J'
  | 0, M, p, j, I, J, A, j0, jt, kn, en, hM, hx => by
    have e : j = k := by omega
    subst e
    exact ⟨M, p, I, J, a_told A, Nat.le_refl _, rfl, hx, frX.rf⟩
  | t + 1, M, p, j, I, J, A, j0, jt, kn, en, hM, hx => by
    obtain ⟨M, rfl⟩ : ∃ q, M = q + 1 := ⟨M - 1, by omega⟩
    have z : j < k := by omega
    have hN30 := (bd_N hx.1.1).2.1
    have rk := hx.1.2.1.1 k (by omega) kn
    rw [en] at rk
    by_cases y : now = -9
    · obtain ⟨M', p1, I1, J1, x, u1, u2, u3, u4⟩ := lk_far k4 t M p (j + 1) I J A (by omega) (by omega) kn en (by omega) hx
      refine ⟨M', p1, I1, J1, x, by omega, ?_, u3, u4⟩
      rw [x_exec, t_137_367]
      subst y
      simp (disch := first | assumption | omega) only [k_add, k_sub, k_mul, k_lt, k_eq, k_lt0, k_0lt, k_eq0, k_nat, k_b0, k_b1, k_z1, k_z0, k_o1, k_o0, Int.reduceEq, Int.reduceLT, Int.reduceLE, Int.reduceAdd, Int.reduceMul, Int.reduceNeg, Int.reduceToNat, Bool.false_eq_true, or_true, true_or, or_false, false_or, and_true, true_and, and_false, false_and, not_true_eq_false, not_false_eq_true, ↓reduceIte, z_0, z_k, s_I, s_J, s_uI, s_uJ, z]
      exact u2
    · have r0 := rk.resolve_left y
      have rj := hx.1.2.1.1 j j0 (by omega)
      have hd := hx.1.2.1.2.1 j k j0 z kn
      rw [en] at hd
      have hne : ¬ now = a_fl A (5 + j) := fun q => y (by rw [q]; exact hd q.symm)
      have y1 : ¬ now < 0 := by omega
      obtain ⟨p1, I1, J1, a1, a2, a3⟩ := c_beast (L := L) (p := p) (d := d + 1) hx (k := j) (q := 1) j0 (by omega) (by decide) (by decide)
      have a1 : j_run (d + 12) 81 [.ref 0, .int (j_k j), .int (j_k 1)] (ST L p I J) = some (some (.int (j_k 1)), ST L p1 I1 J1) := a1
      have b1 : j_run (d + 12) 133 [.ref 0, .int (j_k 1)] (ST L p1 I1 J1) = some (some (.int (j_k (a_fl A (5 + j)))), ST L p1 I1 J1) := c_tells (L := L) (p := p1) (d := d + 1) a2
      obtain ⟨M', p2, I2, J2, x, u1, u2, u3, u4⟩ := lk_far k4 t M p1 (j + 1) I1 J1 _ (by omega) (by omega) (by show k < a_gn A; exact kn) (by show a_fl A (5 + k) = now; exact en) (by omega) a2
      refine ⟨M', p2, I2, J2, x, by omega, ?_, u3, a3.tr u4⟩
      rw [x_exec, t_137_367]
      simp (disch := first | assumption | omega) only [k_add, k_sub, k_mul, k_lt, k_eq, k_lt0, k_0lt, k_eq0, k_nat, k_b0, k_b1, k_z1, k_z0, k_o1, k_o0, Int.reduceEq, Int.reduceLT, Int.reduceLE, Int.reduceAdd, Int.reduceMul, Int.reduceNeg, Int.reduceToNat, Bool.false_eq_true, or_true, true_or, or_false, false_or, and_true, true_and, and_false, false_and, not_true_eq_false, not_false_eq_true, ↓reduceIte, z_0, z_k, s_I, s_J, s_uI, s_uJ, z, y1, ↓c_oc_0, ↓jc1 a1, ↓jc1 b1, hne]
      exact u2
end LOOK
