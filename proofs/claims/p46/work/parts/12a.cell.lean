/-! ===== the law's own numbers: cell, off, the ground's numbers ===== -/
theorem c_ia_scr {L p : Nat} {I : Nat → Nat → Int32} {J : Nat → Nat → Int64} {K : Option Rr} {i : Int} (h1 : 0 ≤ i) (h2 : i < (L % 1000 : Nat)) : j_ia (ST L p I J) 1000004 (j_k i) K = K := q_ia (n := L % 1000) (show SH L 1000004 = some (.inr (.int, L % 1000)) from if_pos rfl) (by omega) h1 h2
theorem c_len_scr {L p : Nat} {I : Nat → Nat → Int32} {J : Nat → Nat → Int64} {K : Int32 → Option Rr} : j_len (ST L p I J) 1000004 K = K (j_k ((L % 1000 : Nat) : Int)) := q_len' (if_pos rfl)
theorem and_msk (x : Int32) : ∃ v : Int, 0 ≤ v ∧ v < 268435456 ∧ x &&& j_ci 3 = j_k v := by
  have h1 : ((x &&& j_ci 3).toBitVec).toNat ≤ 268435455 := by
    rw [Int32.toBitVec_and, BitVec.toNat_and]
    exact Nat.and_le_right
  have h2 : (x &&& j_ci 3).toInt = ((x &&& j_ci 3).toBitVec.toNat : Int) := BitVec.toInt_eq_toNat_of_lt (by omega)
  refine ⟨(x &&& j_ci 3).toInt, by omega, by omega, (k_toInt _).symm⟩
section LAW1
variable {L p d : Nat} {I : Nat → Nat → Int32} {J : Nat → Nat → Int64}
theorem lw_cell {k : Int} (k0 : 0 ≤ k) (k1 : k ≤ 100) : ∃ v : Int, 0 ≤ v ∧ v < 268435456 ∧ j_run (d + 1) 128 [.ref 1000004, .int (j_k k)] (ST L p I J) = some (some (.int (j_k v)), ST L p I J) := by
  have hL : L % 1000 < 1000 := Nat.mod_lt _ (by decide)
  by_cases z : k < ((L % 1000 : Nat) : Int)
  · obtain ⟨v, v0, v1, e⟩ := and_msk (I 1000004 k.toNat)
    refine ⟨v, v0, v1, ?_⟩
    rw [r_128, t_128_0, c_len_scr]
    simp (disch := first | assumption | omega) only [k_add, k_sub, k_mul, k_lt, k_eq, k_lt0, k_0lt, k_eq0, k_nat, k_b0, k_b1, k_z1, k_z0, k_o1, k_o0, Int.reduceEq, Int.reduceLT, Int.reduceLE, Int.reduceAdd, Int.reduceMul, Int.reduceNeg, Int.reduceToNat, Bool.false_eq_true, or_true, true_or, or_false, false_or, and_true, true_and, and_false, false_and, not_true_eq_false, not_false_eq_true, ↓reduceIte, z_0, z_k, s_I, s_J, s_uI, s_uJ, z, c_ia_scr, e]
  · have h1 : 0 ≤ (61 * k + 7) * (k + 3) := Int.mul_nonneg (by omega) (by omega)
    have h2 : (61 * k + 7) * (k + 3) ≤ 6107 * 103 := Int.mul_le_mul (by omega) (by omega) (by omega) (by omega)
    refine ⟨(61 * k + 7) * (k + 3), h1, by omega, ?_⟩
    rw [r_128, t_128_0, c_len_scr]
    simp (disch := first | assumption | omega) only [k_add, k_sub, k_mul, k_lt, k_eq, k_lt0, k_0lt, k_eq0, k_nat, k_b0, k_b1, k_z1, k_z0, k_o1, k_o0, Int.reduceEq, Int.reduceLT, Int.reduceLE, Int.reduceAdd, Int.reduceMul, Int.reduceNeg, Int.reduceToNat, Bool.false_eq_true, or_true, true_or, or_false, false_or, and_true, true_and, and_false, false_and, not_true_eq_false, not_false_eq_true, ↓reduceIte, z_0, z_k, s_I, s_J, s_uI, s_uJ, z]
/-- the ground's numbers, and where they stand -/
def gI (I : Nat → Nat → Int32) (w h n : Int) (gr kd ce : Fl) : Prop := I 87 0 = j_k w ∧ I 87 1 = j_k h ∧ (∀ c, 0 ≤ c → c < w * h → I 87 (2 + c).toNat = j_k (gr c)) ∧ I 87 40 = j_k n ∧ ∀ k, 0 ≤ k → k < n → I 87 (41 + k).toNat = j_k (kd k) ∧ I 87 (45 + k).toNat = j_k (ce k)
abbrev nuL (w h u v : Int) (r : List (Option Value)) : j_L := some (.ref 1000004) :: some (.int (j_k 10)) :: some (.int (j_k 4)) :: some (.ref 87) :: some (.int (j_k w)) :: some (.int (j_k h)) :: some (.int (j_k u)) :: some (.int (j_k v)) :: r
theorem nu_put {w h c v : Int} (hN : 0 ≤ w * h ∧ w * h ≤ 30) (c0 : 0 ≤ c) (c1 : c < w * h) (v0 : 0 ≤ v) (v1 : v < 16) {M : Nat} : ∃ u : Int, (0 ≤ u ∧ u ≤ 4) ∧ j_exec k_130 h_130 (j_run (d + 1)) (M + 1) 76 (nuL w h c v [none, none, none, none]) [] (ST L p I J) = j_exec k_130 h_130 (j_run (d + 1)) M 38 [some (.ref 1000004), some (.int (j_k 10)), some (.int (j_k 4)), some (.ref 87), some (.int (j_k w)), some (.int (j_k h)), some (.int (j_k (c + 1))), none, none, none, none, none] [] (ST L p (u2 I 87 (2 + c).toNat (j_k u)) J) := by
  rw [x_exec, t_130_76]
  by_cases z1 : v < 9
  · exact ⟨0, by decide, by simp (disch := first | assumption | omega) only [k_add, k_sub, k_mul, k_lt, k_eq, k_lt0, k_0lt, k_eq0, k_nat, k_b0, k_b1, k_z1, k_z0, k_o1, k_o0, Int.reduceEq, Int.reduceLT, Int.reduceLE, Int.reduceAdd, Int.reduceMul, Int.reduceNeg, Int.reduceToNat, Bool.false_eq_true, or_true, true_or, or_false, false_or, and_true, true_and, and_false, false_and, not_true_eq_false, not_false_eq_true, ↓reduceIte, z_0, z_k, s_I, s_J, s_uI, s_uJ, z1, c_is_87]⟩
  by_cases z2 : v < 11
  · exact ⟨1, by decide, by simp (disch := first | assumption | omega) only [k_add, k_sub, k_mul, k_lt, k_eq, k_lt0, k_0lt, k_eq0, k_nat, k_b0, k_b1, k_z1, k_z0, k_o1, k_o0, Int.reduceEq, Int.reduceLT, Int.reduceLE, Int.reduceAdd, Int.reduceMul, Int.reduceNeg, Int.reduceToNat, Bool.false_eq_true, or_true, true_or, or_false, false_or, and_true, true_and, and_false, false_and, not_true_eq_false, not_false_eq_true, ↓reduceIte, z_0, z_k, s_I, s_J, s_uI, s_uJ, z1, z2, c_is_87]⟩
  by_cases z3 : v < 12
  · exact ⟨2, by decide, by simp (disch := first | assumption | omega) only [k_add, k_sub, k_mul, k_lt, k_eq, k_lt0, k_0lt, k_eq0, k_nat, k_b0, k_b1, k_z1, k_z0, k_o1, k_o0, Int.reduceEq, Int.reduceLT, Int.reduceLE, Int.reduceAdd, Int.reduceMul, Int.reduceNeg, Int.reduceToNat, Bool.false_eq_true, or_true, true_or, or_false, false_or, and_true, true_and, and_false, false_and, not_true_eq_false, not_false_eq_true, ↓reduceIte, z_0, z_k, s_I, s_J, s_uI, s_uJ, z1, z2, z3, c_is_87]⟩
  by_cases z4 : v < 14
  · exact ⟨3, by decide, by simp (disch := first | assumption | omega) only [k_add, k_sub, k_mul, k_lt, k_eq, k_lt0, k_0lt, k_eq0, k_nat, k_b0, k_b1, k_z1, k_z0, k_o1, k_o0, Int.reduceEq, Int.reduceLT, Int.reduceLE, Int.reduceAdd, Int.reduceMul, Int.reduceNeg, Int.reduceToNat, Bool.false_eq_true, or_true, true_or, or_false, false_or, and_true, true_and, and_false, false_and, not_true_eq_false, not_false_eq_true, ↓reduceIte, z_0, z_k, s_I, s_J, s_uI, s_uJ, z1, z2, z3, z4, c_is_87]⟩
  · exact ⟨4, by decide, by simp (disch := first | assumption | omega) only [k_add, k_sub, k_mul, k_lt, k_eq, k_lt0, k_0lt, k_eq0, k_nat, k_b0, k_b1, k_z1, k_z0, k_o1, k_o0, Int.reduceEq, Int.reduceLT, Int.reduceLE, Int.reduceAdd, Int.reduceMul, Int.reduceNeg, Int.reduceToNat, Bool.false_eq_true, or_true, true_or, or_false, false_or, and_true, true_and, and_false, false_and, not_true_eq_false, not_false_eq_true, ↓reduceIte, z_0, z_k, s_I, s_J, s_uI, s_uJ, z1, z2, z3, z4, c_is_87]⟩
theorem nu_cells {w h : Int} (hw : 2 ≤ w ∧ w ≤ 6 ∧ 1 ≤ h ∧ h ≤ 5) : ∀ (m M : Nat) (c : Int) (I : Nat → Nat → Int32) (gr : Fl), 0 ≤ c → c + m = w * h → 2 * m + 1 < M → I 87 0 = j_k w → I 87 1 = j_k h → (∀ x, 0 ≤ x → x < c → I 87 (2 + x).toNat = j_k (gr x) ∧ 0 ≤ gr x ∧ gr x ≤ 4) → ∃ (M' : Nat) (I' : Nat → Nat → Int32) (gr' : Fl), M ≤ M' + 2 * m ∧ j_exec k_130 h_130 (j_run (d + 1)) M 38 [some (.ref 1000004), some (.int (j_k 10)), some (.int (j_k 4)), some (.ref 87), some (.int (j_k w)), some (.int (j_k h)), some (.int (j_k c)), none, none, none, none, none] [] (ST L p I J) = j_exec k_130 h_130 (j_run (d + 1)) M' 38 [some (.ref 1000004), some (.int (j_k 10)), some (.int (j_k 4)), some (.ref 87), some (.int (j_k w)), some (.int (j_k h)), some (.int (j_k (w * h))), none, none, none, none, none] [] (ST L p I' J) ∧ I' 87 0 = j_k w ∧ I' 87 1 = j_k h ∧ (∀ x, 0 ≤ x → x < w * h → I' 87 (2 + x).toNat = j_k (gr' x) ∧ 0 ≤ gr' x ∧ gr' x ≤ 4) ∧ ∀ r, r ≠ 87 → I' r = I r
  | 0, M, c, I, gr, c0, cm, hM, i0, i1, ic => ⟨M, I, gr, Nat.le_refl _, by rw [show c = w * h by omega], i0, i1, fun x x0 x1 => ic x x0 (by omega), fun _ _ => rfl⟩
  | m + 1, M, c, I, gr, c0, cm, hM, i0, i1, ic => by
    obtain ⟨M, rfl⟩ : ∃ q, M = q + 1 := ⟨M - 1, by omega⟩
    obtain ⟨M, rfl⟩ : ∃ q, M = q + 1 := ⟨M - 1, by omega⟩
    have hN := wh_30 hw
    have z : c < w * h := by omega
    obtain ⟨v, v0, v1, e⟩ := lw_cell (L := L) (p := p) (d := d) (I := I) (J := J) (k := 11 + c / 3) (by omega) (by omega)
    have D1 : 0 < (c - c / 3 * 3) * 300 + 1 := by omega
    have D2 : (c - c / 3 * 3) * 300 + 1 < 1000 := by omega
    generalize hD : (c - c / 3 * 3) * 300 + 1 = D at D1 D2
    have Q0 : 0 ≤ v / D := Int.ediv_nonneg v0 (by omega)
    have Q1 : v / D ≤ v := Int.ediv_le_self _ v0
    have z2 : ¬ D = 0 := by omega
    have q0 : 0 ≤ v / D - v / D / 16 * 16 := by omega
    have q1 : v / D - v / D / 16 * 16 < 16 := by omega
    obtain ⟨u, hu, eu⟩ := nu_put (L := L) (p := p) (d := d) (I := I) (J := J) (w := w) (h := h) (c := c) (by omega) c0 z q0 q1 (M := M)
    obtain ⟨M', I', gr', r1, r2, r3, r4, r5, r6⟩ := nu_cells hw m M (c + 1) (u2 I 87 (2 + c).toNat (j_k u)) (f2 gr c u) (by omega) (by omega) (by omega) (by rw [u2_k (by omega)]; exact i0) (by rw [u2_k (by omega)]; exact i1) (fun x x0 x1 => by
      unfold f2
      by_cases y : x = c
      · subst y
        rw [u2_ss, if_pos rfl]
        exact ⟨rfl, hu⟩
      · rw [u2_k (by omega), if_neg y]
        exact ic x x0 (by omega))
    refine ⟨M', I', gr', by omega, ?_, r3, r4, r5, fun r hr => ?_⟩
    · rw [← r2, ← eu, x_exec, t_130_38]
      simp (disch := first | assumption | omega) only [k_add, k_sub, k_mul, k_lt, k_eq, k_lt0, k_0lt, k_eq0, k_nat, k_b0, k_b1, k_z1, k_z0, k_o1, k_o0, Int.reduceEq, Int.reduceLT, Int.reduceLE, Int.reduceAdd, Int.reduceMul, Int.reduceNeg, Int.reduceToNat, Bool.false_eq_true, or_true, true_or, or_false, false_or, and_true, true_and, and_false, false_and, not_true_eq_false, not_false_eq_true, ↓reduceIte, z_0, z_k, s_I, s_J, s_uI, s_uJ, z, ↓jc1 e, k_divp, hD, z2]
    · rw [r6 r hr]
      exact u2_row hr
/-- whether a beast may stand there -/
abbrev muL (w h u k x q m j : Int) : j_L := [some (.ref 1000004), some (.int (j_k 10)), some (.int (j_k 4)), some (.ref 87), some (.int (j_k w)), some (.int (j_k h)), some (.int (j_k u)), some (.int (j_k k)), some (.int (j_k x)), some (.int (j_k q)), some (.int (j_k m)), some (.int (j_k j))]
theorem k_and0 : j_k 0 &&& j_k 0 = j_k 0 := by decide
theorem k_and1 : j_k 1 &&& j_k 0 = j_k 0 := by decide
theorem k_and2 : j_k 0 &&& j_k 1 = j_k 0 := by decide
theorem k_and3 : j_k 1 &&& j_k 1 = j_k 1 := by decide
theorem nu_may {w h n u k x q : Int} {gr kd ce : Fl} (hG : okG w h n gr kd ce) (hI : gI I w h n gr kd ce) (q0 : 0 ≤ q) (q1 : q < w * h) : ∀ (t M : Nat) (j m : Int), 0 ≤ j → j + t = n → (m = 0 ∨ m = 1) → t + 1 < M → (m = 1 → ∀ i, 0 ≤ i → i < j → ce i ≠ q) → ∃ (M' : Nat) (m' : Int), M ≤ M' + t + 1 ∧ (m' = 0 ∨ m' = 1) ∧ (m' = 1 → m = 1 ∧ ∀ i, 0 ≤ i → i < n → ce i ≠ q) ∧ j_exec k_130 h_130 (j_run (d + 1)) M 218 (muL w h u k x q m j) [] (ST L p I J) = j_exec k_130 h_130 (j_run (d + 1)) M' 255 (muL w h u k x q m' n) [] (ST L p I J)
  | 0, M, j, m, j0, jt, hm, hM, hc => by
    obtain ⟨M, rfl⟩ : ∃ q, M = q + 1 := ⟨M - 1, by omega⟩
    have e : j = n := by omega
    subst e
    refine ⟨M, m, by omega, hm, fun y => ⟨y, hc y⟩, ?_⟩
    have i40 := hI.2.2.2.1
    have n4 := hG.2.1.2
    have z : ¬ j < j := by omega
    rw [x_exec, t_130_218]
    simp (disch := first | assumption | omega) only [k_add, k_sub, k_mul, k_lt, k_eq, k_lt0, k_0lt, k_eq0, k_nat, k_b0, k_b1, k_z1, k_z0, k_o1, k_o0, Int.reduceEq, Int.reduceLT, Int.reduceLE, Int.reduceAdd, Int.reduceMul, Int.reduceNeg, Int.reduceToNat, Bool.false_eq_true, or_true, true_or, or_false, false_or, and_true, true_and, and_false, false_and, not_true_eq_false, not_false_eq_true, ↓reduceIte, z_0, z_k, s_I, s_J, s_uI, s_uJ, ↓c_ia_87, i40, z]
  | t + 1, M, j, m, j0, jt, hm, hM, hc => by
    obtain ⟨M, rfl⟩ : ∃ q, M = q + 1 := ⟨M - 1, by omega⟩
    have i40 := hI.2.2.2.1
    have ij := (hI.2.2.2.2 j j0 (by omega)).2
    have n4 := hG.2.1.2
    have hk := hG.2.2.2.1 j j0 (by omega)
    have hN := wh_30 hG.1
    have z : j < n := by omega
    by_cases y : ce j = q
    · obtain ⟨M', m', r1, r2, r3, r4⟩ := nu_may hG hI q0 q1 t M (j + 1) 0 (by omega) (by omega) (Or.inl rfl) (by omega) (fun y => absurd y (by decide))
      refine ⟨M', m', by omega, r2, fun y => absurd (r3 y).1 (by decide), ?_⟩
      rw [← r4, x_exec, t_130_218]
      rcases hm with rfl | rfl
      · simp (disch := first | assumption | omega) only [k_add, k_sub, k_mul, k_lt, k_eq, k_lt0, k_0lt, k_eq0, k_nat, k_b0, k_b1, k_z1, k_z0, k_o1, k_o0, Int.reduceEq, Int.reduceLT, Int.reduceLE, Int.reduceAdd, Int.reduceMul, Int.reduceNeg, Int.reduceToNat, Bool.false_eq_true, or_true, true_or, or_false, false_or, and_true, true_and, and_false, false_and, not_true_eq_false, not_false_eq_true, ↓reduceIte, z_0, z_k, s_I, s_J, s_uI, s_uJ, ↓c_ia_87, i40, z, ij, y, k_and0]
      · simp (disch := first | assumption | omega) only [k_add, k_sub, k_mul, k_lt, k_eq, k_lt0, k_0lt, k_eq0, k_nat, k_b0, k_b1, k_z1, k_z0, k_o1, k_o0, Int.reduceEq, Int.reduceLT, Int.reduceLE, Int.reduceAdd, Int.reduceMul, Int.reduceNeg, Int.reduceToNat, Bool.false_eq_true, or_true, true_or, or_false, false_or, and_true, true_and, and_false, false_and, not_true_eq_false, not_false_eq_true, ↓reduceIte, z_0, z_k, s_I, s_J, s_uI, s_uJ, ↓c_ia_87, i40, z, ij, y, k_and1]
    · obtain ⟨M', m', r1, r2, r3, r4⟩ := nu_may hG hI q0 q1 t M (j + 1) m (by omega) (by omega) hm (by omega) (fun y1 i i0 i1 => by
        by_cases y2 : i = j
        · rw [y2]
          exact y
        · exact hc y1 i i0 (by omega))
      refine ⟨M', m', by omega, r2, r3, ?_⟩
      rw [← r4, x_exec, t_130_218]
      rcases hm with rfl | rfl
      · simp (disch := first | assumption | omega) only [k_add, k_sub, k_mul, k_lt, k_eq, k_lt0, k_0lt, k_eq0, k_nat, k_b0, k_b1, k_z1, k_z0, k_o1, k_o0, Int.reduceEq, Int.reduceLT, Int.reduceLE, Int.reduceAdd, Int.reduceMul, Int.reduceNeg, Int.reduceToNat, Bool.false_eq_true, or_true, true_or, or_false, false_or, and_true, true_and, and_false, false_and, not_true_eq_false, not_false_eq_true, ↓reduceIte, z_0, z_k, s_I, s_J, s_uI, s_uJ, ↓c_ia_87, i40, z, ij, y, k_and2]
      · simp (disch := first | assumption | omega) only [k_add, k_sub, k_mul, k_lt, k_eq, k_lt0, k_0lt, k_eq0, k_nat, k_b0, k_b1, k_z1, k_z0, k_o1, k_o0, Int.reduceEq, Int.reduceLT, Int.reduceLE, Int.reduceAdd, Int.reduceMul, Int.reduceNeg, Int.reduceToNat, Bool.false_eq_true, or_true, true_or, or_false, false_or, and_true, true_and, and_false, false_and, not_true_eq_false, not_false_eq_true, ↓reduceIte, z_0, z_k, s_I, s_J, s_uI, s_uJ, ↓c_ia_87, i40, z, ij, y, k_and3]
/-- a beast is put among the others, or isn't -/
theorem nu_one {w h n u k x q : Int} {gr kd ce : Fl} (hG : okG w h n gr kd ce) (hI : gI I w h n gr kd ce) (q0 : 0 ≤ q) (q1 : q < w * h) (x0 : 0 ≤ x) (x1 : x < 268435456) (n3 : n < 4) {m : Int} (hm : m = 0 ∨ m = 1) (hc : m = 1 → (gr q ≠ 1 ∧ gr q ≠ 2) ∧ ∀ i, 0 ≤ i → i < n → ce i ≠ q) {M : Nat} : ∃ (I' : Nat → Nat → Int32) (n' : Int) (kd' ce' : Fl), j_exec k_130 h_130 (j_run (d + 1)) (M + 1) 255 (muL w h u k x q m n) [] (ST L p I J) = j_exec k_130 h_130 (j_run (d + 1)) M 306 (muL w h u k x q m n) [] (ST L p I' J) ∧ okG w h n' gr kd' ce' ∧ gI I' w h n' gr kd' ce' ∧ n' ≤ n + 1 ∧ ∀ r, r ≠ 87 → I' r = I r := by
  obtain ⟨i0, i1, ic, i40, ik⟩ := hI
  have n0 := hG.2.1.1
  have hN := wh_30 hG.1
  rcases hm with rfl | rfl
  · refine ⟨I, n, kd, ce, ?_, hG, ⟨i0, i1, ic, i40, ik⟩, by omega, fun _ _ => rfl⟩
    rw [x_exec, t_130_255]
    simp (disch := first | assumption | omega) only [k_add, k_sub, k_mul, k_lt, k_eq, k_lt0, k_0lt, k_eq0, k_nat, k_b0, k_b1, k_z1, k_z0, k_o1, k_o0, Int.reduceEq, Int.reduceLT, Int.reduceLE, Int.reduceAdd, Int.reduceMul, Int.reduceNeg, Int.reduceToNat, Bool.false_eq_true, or_true, true_or, or_false, false_or, and_true, true_and, and_false, false_and, not_true_eq_false, not_false_eq_true, ↓reduceIte, z_0, z_k, s_I, s_J, s_uI, s_uJ]
  · obtain ⟨hg, hd⟩ := hc rfl
    obtain ⟨v, v0, v5, ev⟩ : ∃ v : Int, 0 ≤ v ∧ v ≤ 5 ∧ j_exec k_130 h_130 (j_run (d + 1)) (M + 1) 255 (muL w h u k x q 1 n) [] (ST L p I J) = j_exec k_130 h_130 (j_run (d + 1)) M 306 (muL w h u k x q 1 n) [] (ST L p (u2 (u2 (u2 I 87 (41 + n).toNat (j_k v)) 87 (45 + n).toNat (j_k q)) 87 40 (j_k (n + 1))) J) := by
      by_cases y : 5 < x - x / 8 * 8
      · refine ⟨0, by decide, by decide, ?_⟩
        rw [x_exec, t_130_255]
        simp (disch := first | assumption | omega) only [k_add, k_sub, k_mul, k_lt, k_eq, k_lt0, k_0lt, k_eq0, k_nat, k_b0, k_b1, k_z1, k_z0, k_o1, k_o0, Int.reduceEq, Int.reduceLT, Int.reduceLE, Int.reduceAdd, Int.reduceMul, Int.reduceNeg, Int.reduceToNat, Bool.false_eq_true, or_true, true_or, or_false, false_or, and_true, true_and, and_false, false_and, not_true_eq_false, not_false_eq_true, ↓reduceIte, z_0, z_k, s_I, s_J, s_uI, s_uJ, ↓c_ia_87, ↓c_is_87, i40, y, k_divp, u2_k]
      · refine ⟨x - x / 8 * 8, by omega, by omega, ?_⟩
        rw [x_exec, t_130_255]
        simp (disch := first | assumption | omega) only [k_add, k_sub, k_mul, k_lt, k_eq, k_lt0, k_0lt, k_eq0, k_nat, k_b0, k_b1, k_z1, k_z0, k_o1, k_o0, Int.reduceEq, Int.reduceLT, Int.reduceLE, Int.reduceAdd, Int.reduceMul, Int.reduceNeg, Int.reduceToNat, Bool.false_eq_true, or_true, true_or, or_false, false_or, and_true, true_and, and_false, false_and, not_true_eq_false, not_false_eq_true, ↓reduceIte, z_0, z_k, s_I, s_J, s_uI, s_uJ, ↓c_ia_87, ↓c_is_87, i40, y, k_divp, u2_k]
    refine ⟨_, n + 1, f2 kd n v, f2 ce n q, ev, ⟨hG.1, by omega, hG.2.2.1, fun i i0 i1 => ?_, fun i j i0 ij j1 => ?_⟩, ⟨?_, ?_, fun c c0 c1 => ?_, u2_ss _ _ _ _, fun i i0 i1 => ?_⟩, by omega, fun r hr => ?_⟩
    · unfold f2
      by_cases y : i = n
      · rw [if_pos y, if_pos y]
        exact ⟨⟨v0, v5⟩, q0, q1, hg⟩
      · rw [if_neg y, if_neg y]
        exact hG.2.2.2.1 i i0 (by omega)
    · unfold f2
      rw [if_neg (show ¬ i = n by omega)]
      by_cases y : j = n
      · rw [if_pos y]
        exact hd i i0 (by omega)
      · rw [if_neg y]
        exact hG.2.2.2.2 i j i0 ij (by omega)
    · rw [u2_k (by omega), u2_k (by omega), u2_k (by omega)]
      exact i0
    · rw [u2_k (by omega), u2_k (by omega), u2_k (by omega)]
      exact i1
    · rw [u2_k (by omega), u2_k (by omega), u2_k (by omega)]
      exact ic c c0 c1
    · unfold f2
      by_cases y : i = n
      · subst y
        rw [u2_k (by omega), u2_k (by omega), u2_ss, u2_k (by omega), u2_ss, if_pos rfl, if_pos rfl]
        exact ⟨rfl, rfl⟩
      · rw [u2_k (by omega), u2_k (by omega), u2_k (by omega), u2_k (by omega), u2_k (by omega), u2_k (by omega), if_neg y, if_neg y]
        exact ik i i0 (by omega)
    · rw [u2_row hr, u2_row hr, u2_row hr]
end LAW1
