/-! ===== the class's flocks: the other reads ===== -/
def p_tells (kd f : Fl) (k what : Int) : Int := if what = 0 then kd k else if what = 1 then f (5 + k) else f (9 + k)
def p_shyN (n : Int) (kd : Fl) : Int := p_loop (fun k s => if p_shy kd k = true then s + 1 else s) n.toNat 0 0
section FLOCKU
variable {L p a g d : Nat} {I : Nat → Nat → Int32} {J : Nat → Nat → Int64} {n w h N b : Int} {kd f gr : Fl}
theorem s_whoIsIn (hF : FA a) (hi : iF I a n kd f) (hC : okC w h N n gr kd) (ho : okF N n b f) {c : Int} (c1 : 0 ≤ c) (c2 : c < N) : j_run (d + 1) 8 [.ref a, .int (j_k c)] (ST L p I J) = some (some (.int (j_k (p_who n f c (-9)))), ST L p I J) := by
  have hn := hC.2.2.1
  have hn4 := hC.2.2.2.1
  obtain ⟨b1, b2, -⟩ := bd_N hC
  obtain ⟨e3, e4, e5, e6, e7, e8, ek, ec, eg, ef⟩ := hi
  have key : ∀ (m M : Nat) (k : Int), 0 ≤ k → k + m = n → m < M → j_exec k_8 h_8 (j_run d) M 2 [some (.ref a), some (.int (j_k c)), some (.int (j_k k))] [] (ST L p I J) = some (some (.int (j_k (p_first (fun k => decide (k ≠ -9 ∧ f (5 + k) = c)) m k))), ST L p I J) := by
    intro m
    induction m with
    | zero =>
      intro M k k1 k2 hM
      obtain ⟨M, rfl⟩ : ∃ q, M = q + 1 := ⟨M - 1, by omega⟩
      have z : ¬ k < n := by omega
      rw [x_exec, t_8_2]
      simp (disch := first | assumption | omega) only [k_add, k_sub, k_mul, k_lt, k_eq, k_lt0, k_0lt, k_eq0, k_nat, k_b0, k_b1, k_z1, k_z0, k_o1, k_o0, Int.reduceEq, Int.reduceLT, Int.reduceLE, Int.reduceAdd, Int.reduceMul, Int.reduceNeg, Bool.false_eq_true, or_true, true_or, or_false, false_or, and_true, true_and, and_false, false_and, not_true_eq_false, not_false_eq_true, ↓reduceIte, z_0, z_k, s_I, s_J, s_uI, s_uJ, f_oc, f_gP0, f_gP1, f_gP2, f_ia0, f_ia1, f_ia2, f_is0, f_is1, f_is2, f_lt, e3, z]
      rfl
    | succ m ih =>
      intro M k k1 k2 hM
      obtain ⟨M, rfl⟩ : ∃ q, M = q + 1 := ⟨M - 1, by omega⟩
      have z : k < n := by omega
      have hc := ho.1 k k1 z
      have z9 : ¬ k = -9 := by omega
      rw [x_exec, t_8_2, p_firstS]
      simp (disch := first | assumption | omega) only [k_add, k_sub, k_mul, k_lt, k_eq, k_lt0, k_0lt, k_eq0, k_nat, k_b0, k_b1, k_z1, k_z0, k_o1, k_o0, Int.reduceEq, Int.reduceLT, Int.reduceLE, Int.reduceAdd, Int.reduceMul, Int.reduceNeg, Bool.false_eq_true, or_true, true_or, or_false, false_or, and_true, true_and, and_false, false_and, not_true_eq_false, not_false_eq_true, ↓reduceIte, z_0, z_k, s_I, s_J, s_uI, s_uJ, f_oc, f_gP0, f_gP1, f_gP2, f_ia0, f_ia1, f_ia2, f_is0, f_is1, f_is2, f_lt, e3, z, ec]
      simp only [decide_eq_true_eq, ne_eq, z9, not_false_eq_true, true_and]
      split
      · rfl
      · exact ih M (k + 1) (by omega) (by omega) (by omega)
  rw [r_8, t_8_0]
  exact key n.toNat 999999 0 (Int.le_refl 0) (by omega) (by omega)
theorem s_tells (hF : FA a) (hi : iF I a n kd f) (hn4 : n ≤ 4) {k what : Int} (k1 : 0 ≤ k) (k2 : k < n) (a1 : 0 ≤ what) (a2 : what ≤ 2) : j_run (d + 1) 12 [.ref a, .int (j_k k), .int (j_k what)] (ST L p I J) = some (some (.int (j_k (p_tells kd f k what))), ST L p I J) := by
  obtain ⟨e3, e4, e5, e6, e7, e8, ek, ec, eg, ef⟩ := hi
  rw [r_12, t_12_0]
  simp (disch := first | assumption | omega) only [k_add, k_sub, k_mul, k_lt, k_eq, k_lt0, k_0lt, k_eq0, k_nat, k_b0, k_b1, k_z1, k_z0, k_o1, k_o0, Int.reduceEq, Int.reduceLT, Int.reduceLE, Int.reduceAdd, Int.reduceMul, Int.reduceNeg, Bool.false_eq_true, or_true, true_or, or_false, false_or, and_true, true_and, and_false, false_and, not_true_eq_false, not_false_eq_true, ↓reduceIte, z_0, z_k, s_I, s_J, s_uI, s_uJ, f_oc, f_gP0, f_gP1, f_gP2, f_ia0, f_ia1, f_ia2, f_is0, f_is1, f_is2, f_lt, ek, ec, eg]
  unfold p_tells
  split
  · rfl
  · split <;> rfl
theorem s_shyOnes (hF : FA a) (hi : iF I a n kd f) (hC : okC w h N n gr kd) : j_run (d + 2) 15 [.ref a] (ST L p I J) = some (some (.int (j_k (p_shyN n kd))), ST L p I J) := by
  have hn := hC.2.2.1
  have hn4 := hC.2.2.2.1
  have hi0 := hi
  obtain ⟨e3, e4, e5, e6, e7, e8, ek, ec, eg, ef⟩ := hi
  have key : ∀ (m M : Nat) (k s : Int), 0 ≤ k → k + m = n → 0 ≤ s → s ≤ k → m < M → j_exec k_15 h_15 (j_run (d + 1)) M 4 [some (.ref a), some (.int (j_k s)), some (.int (j_k k))] [] (ST L p I J) = some (some (.int (j_k (p_loop (fun k s => if p_shy kd k = true then s + 1 else s) m k s))), ST L p I J) := by
    intro m
    induction m with
    | zero =>
      intro M k s k1 k2 s1 s2 hM
      obtain ⟨M, rfl⟩ : ∃ q, M = q + 1 := ⟨M - 1, by omega⟩
      have z : ¬ k < n := by omega
      rw [x_exec, t_15_4]
      simp (disch := first | assumption | omega) only [k_add, k_sub, k_mul, k_lt, k_eq, k_lt0, k_0lt, k_eq0, k_nat, k_b0, k_b1, k_z1, k_z0, k_o1, k_o0, Int.reduceEq, Int.reduceLT, Int.reduceLE, Int.reduceAdd, Int.reduceMul, Int.reduceNeg, Bool.false_eq_true, or_true, true_or, or_false, false_or, and_true, true_and, and_false, false_and, not_true_eq_false, not_false_eq_true, ↓reduceIte, z_0, z_k, s_I, s_J, s_uI, s_uJ, f_oc, f_gP0, f_gP1, f_gP2, f_ia0, f_ia1, f_ia2, f_is0, f_is1, f_is2, f_lt, e3, z]
      rfl
    | succ m ih =>
      intro M k s k1 k2 s1 s2 hM
      obtain ⟨M, rfl⟩ : ∃ q, M = q + 1 := ⟨M - 1, by omega⟩
      have z : k < n := by omega
      have q1 := s_isShy (L := L) (p := p) (d := d) (J := J) hF hi0 hn4 hC k1 z
      rw [x_exec, t_15_4, p_loopS]
      simp (disch := first | assumption | omega) only [k_add, k_sub, k_mul, k_lt, k_eq, k_lt0, k_0lt, k_eq0, k_nat, k_b0, k_b1, k_z1, k_z0, k_o1, k_o0, Int.reduceEq, Int.reduceLT, Int.reduceLE, Int.reduceAdd, Int.reduceMul, Int.reduceNeg, Bool.false_eq_true, or_true, true_or, or_false, false_or, and_true, true_and, and_false, false_and, not_true_eq_false, not_false_eq_true, ↓reduceIte, z_0, z_k, s_I, s_J, s_uI, s_uJ, f_oc, f_gP0, f_gP1, f_gP2, f_ia0, f_ia1, f_ia2, f_is0, f_is1, f_is2, f_lt, e3, z, jc1 q1]
      cases z3 : p_shy kd k
      · exact ih M (k + 1) s (by omega) (by omega) (by omega) (by omega) (by omega)
      · exact ih M (k + 1) (s + 1) (by omega) (by omega) (by omega) (by omega) (by omega)
  rw [r_15, t_15_0]
  exact key n.toNat 999999 0 0 (Int.le_refl 0) (by omega) (by decide) (by decide) (by omega)
theorem s_allOff (hF : FA a) (hg : GA g) (hi : iF I a n kd f) (hG : iG I g w h N gr) (hC : okC w h N n gr kd) (ho : okF N n b f) : j_run (d + 2) 16 [.ref a, .ref g] (ST L p I J) = some (some (.int (j_k (p_apart w n f))), ST L p I J) := by
  have hn := hC.2.2.1
  have hn4 := hC.2.2.2.1
  obtain ⟨b1, b2, -⟩ := bd_N hC
  have hi0 := hi
  obtain ⟨e3, e4, e5, e6, e7, e8, ek, ec, eg, ef⟩ := hi
  have inner : ∀ (m M : Nat) (k j s : Int), 0 ≤ k → k < n → k < j → j + m = n → j_exec k_16 h_16 (j_run (d + 1)) (M + m + 1) 17 [some (.ref a), some (.ref g), some (.int (j_k s)), some (.int (j_k k)), some (.int (j_k j))] [] (ST L p I J) = j_exec k_16 h_16 (j_run (d + 1)) M 4 [some (.ref a), some (.ref g), some (.int (j_k (p_loop (fun j s => if f (5 + k) ≠ -9 ∧ f (5 + j) ≠ -9 then s + p_off w (f (5 + k)) (f (5 + j)) else s) m j s))), some (.int (j_k (k + 1))), none] [] (ST L p I J) := by
    intro m
    induction m with
    | zero =>
      intro M k j s k1 k2 k3 k4
      have z : ¬ j < n := by omega
      rw [x_exec, t_16_17]
      simp (disch := first | assumption | omega) only [k_add, k_sub, k_mul, k_lt, k_eq, k_lt0, k_0lt, k_eq0, k_nat, k_b0, k_b1, k_z1, k_z0, k_o1, k_o0, Int.reduceEq, Int.reduceLT, Int.reduceLE, Int.reduceAdd, Int.reduceMul, Int.reduceNeg, Bool.false_eq_true, or_true, true_or, or_false, false_or, and_true, true_and, and_false, false_and, not_true_eq_false, not_false_eq_true, ↓reduceIte, z_0, z_k, s_I, s_J, s_uI, s_uJ, f_oc, f_gP0, f_gP1, f_gP2, f_ia0, f_ia1, f_ia2, f_is0, f_is1, f_is2, f_lt, e3, z]
      rfl
    | succ m ih =>
      intro M k j s k1 k2 k3 k4
      have z : j < n := by omega
      have hj0 : 0 ≤ j := by omega
      have hck := ho.1 k k1 k2
      have hcj := ho.1 j hj0 z
      rw [show M + (m + 1) + 1 = (M + m + 1) + 1 by omega, x_exec, t_16_17, p_loopS]
      by_cases z1 : f (5 + k) = -9
      · simp (disch := first | assumption | omega) only [k_add, k_sub, k_mul, k_lt, k_eq, k_lt0, k_0lt, k_eq0, k_nat, k_b0, k_b1, k_z1, k_z0, k_o1, k_o0, Int.reduceEq, Int.reduceLT, Int.reduceLE, Int.reduceAdd, Int.reduceMul, Int.reduceNeg, Bool.false_eq_true, or_true, true_or, or_false, false_or, and_true, true_and, and_false, false_and, not_true_eq_false, not_false_eq_true, ↓reduceIte, z_0, z_k, s_I, s_J, s_uI, s_uJ, f_oc, f_gP0, f_gP1, f_gP2, f_ia0, f_ia1, f_ia2, f_is0, f_is1, f_is2, f_lt, e3, z, ec, z1]
        rw [if_neg (fun y => y.1 rfl)]
        have := ih M k (j + 1) s k1 k2 (by omega) (by omega)
        rw [z1] at this
        exact this
      · by_cases z2 : f (5 + j) = -9
        · simp (disch := first | assumption | omega) only [k_add, k_sub, k_mul, k_lt, k_eq, k_lt0, k_0lt, k_eq0, k_nat, k_b0, k_b1, k_z1, k_z0, k_o1, k_o0, Int.reduceEq, Int.reduceLT, Int.reduceLE, Int.reduceAdd, Int.reduceMul, Int.reduceNeg, Bool.false_eq_true, or_true, true_or, or_false, false_or, and_true, true_and, and_false, false_and, not_true_eq_false, not_false_eq_true, ↓reduceIte, z_0, z_k, s_I, s_J, s_uI, s_uJ, f_oc, f_gP0, f_gP1, f_gP2, f_ia0, f_ia1, f_ia2, f_is0, f_is1, f_is2, f_lt, e3, z, ec, z1, z2]
          rw [if_neg (fun y => y.2 rfl)]
          exact ih M k (j + 1) s k1 k2 (by omega) (by omega)
        · have q1 := s_off (L := L) (p := p) (d := d) (J := J) hg hG hC (hck.resolve_left z1).1 (hck.resolve_left z1).2 (hcj.resolve_left z2).1 (hcj.resolve_left z2).2
          simp (disch := first | assumption | omega) only [k_add, k_sub, k_mul, k_lt, k_eq, k_lt0, k_0lt, k_eq0, k_nat, k_b0, k_b1, k_z1, k_z0, k_o1, k_o0, Int.reduceEq, Int.reduceLT, Int.reduceLE, Int.reduceAdd, Int.reduceMul, Int.reduceNeg, Bool.false_eq_true, or_true, true_or, or_false, false_or, and_true, true_and, and_false, false_and, not_true_eq_false, not_false_eq_true, ↓reduceIte, z_0, z_k, s_I, s_J, s_uI, s_uJ, f_oc, f_gP0, f_gP1, f_gP2, f_ia0, f_ia1, f_ia2, f_is0, f_is1, f_is2, f_lt, g_oc, g_gP0, g_gP1, g_gP2, g_ia0, g_ia1, g_ia2, g_is0, g_is1, g_is2, g_lt, e3, z, ec, z1, z2, jc1 q1]
          rw [if_pos (⟨z1, z2⟩ : f (5 + k) ≠ -9 ∧ f (5 + j) ≠ -9)]
          exact ih M k (j + 1) _ k1 k2 (by omega) (by omega)
  have key : ∀ (m M : Nat) (k s : Int), 0 ≤ k → k + m = n → j_exec k_16 h_16 (j_run (d + 1)) (M + 20 * m + 1) 4 [some (.ref a), some (.ref g), some (.int (j_k s)), some (.int (j_k k)), none] [] (ST L p I J) = some (some (.int (j_k (p_loop (fun k s => p_loop (fun j s => if f (5 + k) ≠ -9 ∧ f (5 + j) ≠ -9 then s + p_off w (f (5 + k)) (f (5 + j)) else s) (n - (k + 1)).toNat (k + 1) s) m k s))), ST L p I J) := by
    intro m
    induction m with
    | zero =>
      intro M k s k1 k2
      have z : ¬ k < n := by omega
      rw [x_exec, t_16_4]
      simp (disch := first | assumption | omega) only [k_add, k_sub, k_mul, k_lt, k_eq, k_lt0, k_0lt, k_eq0, k_nat, k_b0, k_b1, k_z1, k_z0, k_o1, k_o0, Int.reduceEq, Int.reduceLT, Int.reduceLE, Int.reduceAdd, Int.reduceMul, Int.reduceNeg, Bool.false_eq_true, or_true, true_or, or_false, false_or, and_true, true_and, and_false, false_and, not_true_eq_false, not_false_eq_true, ↓reduceIte, z_0, z_k, s_I, s_J, s_uI, s_uJ, f_oc, f_gP0, f_gP1, f_gP2, f_ia0, f_ia1, f_ia2, f_is0, f_is1, f_is2, f_lt, e3, z]
      rfl
    | succ m ih =>
      intro M k s k1 k2
      have z : k < n := by omega
      rw [x_exec, t_16_4, p_loopS]
      simp (disch := first | assumption | omega) only [k_add, k_sub, k_mul, k_lt, k_eq, k_lt0, k_0lt, k_eq0, k_nat, k_b0, k_b1, k_z1, k_z0, k_o1, k_o0, Int.reduceEq, Int.reduceLT, Int.reduceLE, Int.reduceAdd, Int.reduceMul, Int.reduceNeg, Bool.false_eq_true, or_true, true_or, or_false, false_or, and_true, true_and, and_false, false_and, not_true_eq_false, not_false_eq_true, ↓reduceIte, z_0, z_k, s_I, s_J, s_uI, s_uJ, f_oc, f_gP0, f_gP1, f_gP2, f_ia0, f_ia1, f_ia2, f_is0, f_is1, f_is2, f_lt, e3, z]
      obtain ⟨M2, hM2⟩ : ∃ q, M + 20 * (m + 1) = ((q + 20 * m + 1)) + (n - (k + 1)).toNat + 1 := ⟨M + 20 - 2 - (n - (k + 1)).toNat, by omega⟩
      rw [hM2, inner (n - (k + 1)).toNat (M2 + 20 * m + 1) k (k + 1) s k1 z (by omega) (by omega)]
      exact ih M2 (k + 1) _ (by omega) (by omega)
  rw [r_16, t_16_0]
  obtain ⟨M2, hM2⟩ : ∃ q, 999999 = q + 20 * n.toNat + 1 := ⟨999998 - 20 * n.toNat, by omega⟩
  rw [hM2]
  exact key n.toNat M2 0 0 (Int.le_refl 0) (by omega)
theorem s_areSafe (hF : FA a) (hg : GA g) (hi : iF I a n kd f) (hG : iG I g w h N gr) (hC : okC w h N n gr kd) (ho : okF N n b f) : j_run (d + 1) 17 [.ref a, .ref g] (ST L p I J) = some (some (.int (j_z (p_safe gr n f = true))), ST L p I J) := by
  have hn := hC.2.2.1
  have hn4 := hC.2.2.2.1
  obtain ⟨b1, b2, -⟩ := bd_N hC
  obtain ⟨e3, e4, e5, e6, e7, e8, ek, ec, eg, ef⟩ := hi
  obtain ⟨g3, g4, g5, g1, g2, g6⟩ := hG
  have key : ∀ (m M : Nat) (k : Int), 0 ≤ k → k + m = n → m < M → j_exec k_17 h_17 (j_run d) M 2 [some (.ref a), some (.ref g), some (.int (j_k k))] [] (ST L p I J) = some (some (.int (j_z (0 < n ∧ p_first (fun k => decide (f (5 + k) = -9 ∨ gr (f (5 + k)) ≠ 3)) m k = -9))), ST L p I J) := by
    intro m
    induction m with
    | zero =>
      intro M k k1 k2 hM
      obtain ⟨M, rfl⟩ : ∃ q, M = q + 1 := ⟨M - 1, by omega⟩
      have z : ¬ k < n := by omega
      rw [x_exec, t_17_2, p_first0]
      simp (disch := first | assumption | omega) only [k_add, k_sub, k_mul, k_lt, k_eq, k_lt0, k_0lt, k_eq0, k_nat, k_b0, k_b1, k_z1, k_z0, k_o1, k_o0, Int.reduceEq, Int.reduceLT, Int.reduceLE, Int.reduceAdd, Int.reduceMul, Int.reduceNeg, Bool.false_eq_true, or_true, true_or, or_false, false_or, and_true, true_and, and_false, false_and, not_true_eq_false, not_false_eq_true, ↓reduceIte, z_0, z_k, s_I, s_J, s_uI, s_uJ, f_oc, f_gP0, f_gP1, f_gP2, f_ia0, f_ia1, f_ia2, f_is0, f_is1, f_is2, f_lt, e3, z]
      unfold j_z
      ((repeat' split) <;> first | rfl | (exfalso; omega))
    | succ m ih =>
      intro M k k1 k2 hM
      obtain ⟨M, rfl⟩ : ∃ q, M = q + 1 := ⟨M - 1, by omega⟩
      have z : k < n := by omega
      have hc := ho.1 k k1 z
      rw [x_exec, t_17_2, p_firstS]
      by_cases z1 : f (5 + k) = -9
      · simp (disch := first | assumption | omega) only [k_add, k_sub, k_mul, k_lt, k_eq, k_lt0, k_0lt, k_eq0, k_nat, k_b0, k_b1, k_z1, k_z0, k_o1, k_o0, Int.reduceEq, Int.reduceLT, Int.reduceLE, Int.reduceAdd, Int.reduceMul, Int.reduceNeg, Bool.false_eq_true, or_true, true_or, or_false, false_or, and_true, true_and, and_false, false_and, not_true_eq_false, not_false_eq_true, ↓reduceIte, z_0, z_k, s_I, s_J, s_uI, s_uJ, f_oc, f_gP0, f_gP1, f_gP2, f_ia0, f_ia1, f_ia2, f_is0, f_is1, f_is2, f_lt, e3, z, ec, z1]
        unfold j_z
        simp only [decide_true, true_or, if_true]
        rw [if_neg (by omega)]
      · have hc := hc.resolve_left z1
        have hgr := hC.2.2.2.2.1 _ hc.1 hc.2
        simp (disch := first | assumption | omega) only [k_add, k_sub, k_mul, k_lt, k_eq, k_lt0, k_0lt, k_eq0, k_nat, k_b0, k_b1, k_z1, k_z0, k_o1, k_o0, Int.reduceEq, Int.reduceLT, Int.reduceLE, Int.reduceAdd, Int.reduceMul, Int.reduceNeg, Bool.false_eq_true, or_true, true_or, or_false, false_or, and_true, true_and, and_false, false_and, not_true_eq_false, not_false_eq_true, ↓reduceIte, z_0, z_k, s_I, s_J, s_uI, s_uJ, f_oc, f_gP0, f_gP1, f_gP2, f_ia0, f_ia1, f_ia2, f_is0, f_is1, f_is2, f_lt, g_oc, g_gP0, g_gP1, g_gP2, g_ia0, g_ia1, g_ia2, g_is0, g_is1, g_is2, g_lt, e3, z, ec, z1, g1]
        by_cases z2 : gr (f (5 + k)) = 3
        · simp only [z2, ne_eq, not_true_eq_false, decide_false, if_true, Bool.false_eq_true, if_false]
          exact ih M (k + 1) (by omega) (by omega) (by omega)
        · unfold j_z
          simp only [z2, ne_eq, not_false_eq_true, decide_true, if_true, if_false]
          rw [if_neg (by omega)]
  rw [r_17, t_17_0]
  unfold p_safe
  simp only [decide_eq_true_eq]
  exact key n.toNat 999999 0 (Int.le_refl 0) (by omega) (by omega)
theorem s_areAt (hF : FA a) (hi : iF I a n kd f) (hC : okC w h N n gr kd) (ho : okF N n b f) : j_run (d + 1) 18 [.ref a, .ref 71] (ST L p I J) = some (some (.int (j_z (p_at n (fun k => I 71 k.toNat) f = true))), ST L p I J) := by
  have hn := hC.2.2.1
  have hn4 := hC.2.2.2.1
  obtain ⟨b1, b2, -⟩ := bd_N hC
  obtain ⟨e3, e4, e5, e6, e7, e8, ek, ec, eg, ef⟩ := hi
  have key : ∀ (m M : Nat) (k : Int), 0 ≤ k → k + m = n → m < M → j_exec k_18 h_18 (j_run d) M 2 [some (.ref a), some (.ref 71), some (.int (j_k k))] [] (ST L p I J) = some (some (.int (j_z (p_first (fun k => decide (¬ j_k (f (5 + k)) = I 71 k.toNat)) m k = -9))), ST L p I J) := by
    intro m
    induction m with
    | zero =>
      intro M k k1 k2 hM
      obtain ⟨M, rfl⟩ : ∃ q, M = q + 1 := ⟨M - 1, by omega⟩
      have z : ¬ k < n := by omega
      rw [x_exec, t_18_2, p_first0]
      simp (disch := first | assumption | omega) only [k_add, k_sub, k_mul, k_lt, k_eq, k_lt0, k_0lt, k_eq0, k_nat, k_b0, k_b1, k_z1, k_z0, k_o1, k_o0, Int.reduceEq, Int.reduceLT, Int.reduceLE, Int.reduceAdd, Int.reduceMul, Int.reduceNeg, Bool.false_eq_true, or_true, true_or, or_false, false_or, and_true, true_and, and_false, false_and, not_true_eq_false, not_false_eq_true, ↓reduceIte, z_0, z_k, s_I, s_J, s_uI, s_uJ, f_oc, f_gP0, f_gP1, f_gP2, f_ia0, f_ia1, f_ia2, f_is0, f_is1, f_is2, f_lt, e3, z]
      rfl
    | succ m ih =>
      intro M k k1 k2 hM
      obtain ⟨M, rfl⟩ : ∃ q, M = q + 1 := ⟨M - 1, by omega⟩
      have z : k < n := by omega
      rw [x_exec, t_18_2, p_firstS]
      simp (disch := first | assumption | omega) only [k_add, k_sub, k_mul, k_lt, k_eq, k_lt0, k_0lt, k_eq0, k_nat, k_b0, k_b1, k_z1, k_z0, k_o1, k_o0, Int.reduceEq, Int.reduceLT, Int.reduceLE, Int.reduceAdd, Int.reduceMul, Int.reduceNeg, Bool.false_eq_true, or_true, true_or, or_false, false_or, and_true, true_and, and_false, false_and, not_true_eq_false, not_false_eq_true, ↓reduceIte, z_0, z_k, s_I, s_J, s_uI, s_uJ, f_oc, f_gP0, f_gP1, f_gP2, f_ia0, f_ia1, f_ia2, f_is0, f_is1, f_is2, f_lt, e3, z, ec, c_ia_71]
      by_cases z2 : j_k (f (5 + k)) = I 71 k.toNat
      · simp only [z2, not_true_eq_false, decide_false, if_true, Bool.false_eq_true, if_false]
        exact ih M (k + 1) (by omega) (by omega) (by omega)
      · unfold j_z
        simp only [z2, not_false_eq_true, decide_true, if_true, if_false]
        rw [if_neg (by omega)]
  rw [r_18, t_18_0]
  unfold p_at
  simp only [decide_eq_true_eq]
  exact key n.toNat 999999 0 (Int.le_refl 0) (by omega) (by omega)
end FLOCKU
