/-! ===== the model's reader: a beast ===== -/
section MREAD2
variable {L p d : Nat} {I : Nat → Nat → Int32} {J : Nat → Nat → Int64} {A : Ast} {t : Int}
theorem n_may {n C : Int} {f : Fl} {kd x y q : Int} (n0 : 0 ≤ n) (n4 : n < 4) (hn : I 87 20 = j_k n) (hq : I 87 15 = j_k q) {w : Int} (hw : I 87 17 = j_k w) (hC : w * y + x = C) (C1 : 0 ≤ C) (C2 : C < 30) (hp : ∀ k : Int, 0 ≤ k → k < n → I 98 k.toNat = j_k (f (5 + k)) ∧ 0 ≤ f (5 + k) ∧ f (5 + k) < 30) : ∀ (m M : Nat) (k : Int), 0 ≤ k → k + m = n → m + 1 < M → j_exec k_156 h_156 (j_run (d + 3)) M 136 [some (.ref 87), some (.int (j_k t)), some (.int (j_k kd)), some (.int (j_k x)), some (.int (j_k y)), some (.int (j_k 1)), some (.int (j_k k))] [] (ST L p I J) = if p_first (fun j => decide (j ≠ -9 ∧ f (5 + j) = C)) m k = -9 then some (some (.int (j_k 1)), ST L p (u2 (u2 (u2 (u2 I 87 15 (j_k (q + 1))) 97 n.toNat (j_k kd)) 98 n.toNat (j_k C)) 87 20 (j_k (n + 1))) J) else some (some (.int (j_k 0)), ST L p I J) := by
  intro m
  induction m with
  | zero =>
    intro M k k1 k2 hM
    obtain ⟨M, rfl⟩ : ∃ q, M = q + 1 := ⟨M - 1, by omega⟩
    have z : ¬ k < n := by omega
    rw [x_exec, t_156_136, p_first0, if_pos (show (-9 : Int) = -9 from rfl)]
    simp (disch := first | assumption | omega) only [k_add, k_sub, k_mul, k_lt, k_eq, k_lt0, k_0lt, k_eq0, k_nat, k_b0, k_b1, k_z1, k_z0, k_o1, k_o0, Int.reduceEq, Int.reduceLT, Int.reduceLE, Int.reduceAdd, Int.reduceMul, Int.reduceNeg, Bool.false_eq_true, or_true, true_or, or_false, false_or, and_true, true_and, and_false, false_and, not_true_eq_false, not_false_eq_true, ↓reduceIte, z_0, z_k, s_I, s_J, s_uI, s_uJ, ↓c_oc_87, hn, z, ↓c_lt_87, hq, ↓c_gP_87_22, ↓c_is_97, ↓c_gP_87_23, ↓c_is_98, u2_k, u2_r, hw, hC]
  | succ m ih =>
    intro M k k1 k2 hM
    obtain ⟨M, rfl⟩ : ∃ q, M = q + 1 := ⟨M - 1, by omega⟩
    have z : k < n := by omega
    have k4 : k < 4 := by omega
    obtain ⟨g1, g2, g3⟩ := hp k k1 z
    have hs20 : s_I (ST L p I J) 87 20 = j_k n := hn
    have hs17 : s_I (ST L p I J) 87 17 = j_k w := hw
    have h98 : s_I (ST L p I J) 98 (j_k k).toNatClampNeg = j_k (f (5 + k)) := by
      rw [k_nat (by omega) (by omega)]
      exact g1
    have kz : j_k k < j_k n := by rw [k_lt (by omega) (by omega) (by omega) (by omega)]; exact z
    have o1 : ¬ j_k 1 = 0 := by decide
    rw [x_exec, t_156_136, c_oc_87, hs20, if_pos kz, if_neg o1, c_gP_87_23, c_ia_98 k1 k4, c_oc_87, h98, hs17, k_mul, k_add, hC, p_firstS]
    by_cases x' : f (5 + k) = C
    · rw [if_pos (show j_k (f (5 + k)) = j_k C by rw [x']), decide_eq_true (show k ≠ -9 ∧ f (5 + k) = C from ⟨by omega, x'⟩), if_pos (show true = true from rfl), if_neg (show ¬ k = -9 by omega)]
      obtain ⟨M, rfl⟩ : ∃ q, M = q + 1 := ⟨M - 1, by omega⟩
      rw [k_add, x_exec, t_156_136]
      by_cases z2 : k + 1 < n
      · simp (disch := first | assumption | omega) only [k_add, k_sub, k_mul, k_lt, k_eq, k_lt0, k_0lt, k_eq0, k_nat, k_b0, k_b1, k_z1, k_z0, k_o1, k_o0, Int.reduceEq, Int.reduceLT, Int.reduceLE, Int.reduceAdd, Int.reduceMul, Int.reduceNeg, Bool.false_eq_true, or_true, true_or, or_false, false_or, and_true, true_and, and_false, false_and, not_true_eq_false, not_false_eq_true, ↓reduceIte, z_0, z_k, s_I, s_J, s_uI, s_uJ, ↓c_oc_87, hn, z2]
      · simp (disch := first | assumption | omega) only [k_add, k_sub, k_mul, k_lt, k_eq, k_lt0, k_0lt, k_eq0, k_nat, k_b0, k_b1, k_z1, k_z0, k_o1, k_o0, Int.reduceEq, Int.reduceLT, Int.reduceLE, Int.reduceAdd, Int.reduceMul, Int.reduceNeg, Bool.false_eq_true, or_true, true_or, or_false, false_or, and_true, true_and, and_false, false_and, not_true_eq_false, not_false_eq_true, ↓reduceIte, z_0, z_k, s_I, s_J, s_uI, s_uJ, ↓c_oc_87, hn, z2]
    · have x2 : ¬ j_k (f (5 + k)) = j_k C := by rw [k_eq (by omega) (by omega) (by omega) (by omega)]; exact x'
      rw [if_neg x2, decide_eq_false (show ¬ (k ≠ -9 ∧ f (5 + k) = C) from fun u => x' u.2), if_neg Bool.false_ne_true, k_add]
      exact ih M (k + 1) (by omega) (by omega) (by omega)
theorem n_mayNo {n : Int} {kd x y : Int32} (n0 : 0 ≤ n) (n4 : n < 4) (hn : I 87 20 = j_k n) {M : Nat} : j_exec k_156 h_156 (j_run (d + 3)) (M + 1) 136 [some (.ref 87), some (.int (j_k t)), some (.int kd), some (.int x), some (.int y), some (.int (j_k 0)), some (.int (j_k 0))] [] (ST L p I J) = some (some (.int (j_k 0)), ST L p I J) := by
  rw [x_exec, t_156_136]
  by_cases z : 0 < n
  · simp (disch := first | assumption | omega) only [k_add, k_sub, k_mul, k_lt, k_eq, k_lt0, k_0lt, k_eq0, k_nat, k_b0, k_b1, k_z1, k_z0, k_o1, k_o0, Int.reduceEq, Int.reduceLT, Int.reduceLE, Int.reduceAdd, Int.reduceMul, Int.reduceNeg, Bool.false_eq_true, or_true, true_or, or_false, false_or, and_true, true_and, and_false, false_and, not_true_eq_false, not_false_eq_true, ↓reduceIte, z_0, z_k, s_I, s_J, s_uI, s_uJ, ↓c_oc_87, hn, z]
  · simp (disch := first | assumption | omega) only [k_add, k_sub, k_mul, k_lt, k_eq, k_lt0, k_0lt, k_eq0, k_nat, k_b0, k_b1, k_z1, k_z0, k_o1, k_o0, Int.reduceEq, Int.reduceLT, Int.reduceLE, Int.reduceAdd, Int.reduceMul, Int.reduceNeg, Bool.false_eq_true, or_true, true_or, or_false, false_or, and_true, true_and, and_false, false_and, not_true_eq_false, not_false_eq_true, ↓reduceIte, z_0, z_k, s_I, s_J, s_uI, s_uJ, ↓c_oc_87, hn, z]
theorem n_beast4 (hx : iM I J A) {q : Int} (t1 : 0 ≤ t) (t2 : t < 4) (q1 : 0 ≤ q) (q2 : q < a_tz A t) (hq : I 87 15 = j_k q) (hn : I 87 20 = j_k 4) : j_run (d + 4) 156 [.ref 87, .int (j_k t)] (ST L p I J) = some (some (.int (j_k 0)), ST L p I J) := by
  have hz := hx.1.2.2.2.2.1 t t1 t2
  have hz2 := hz.2
  have b := n_byteAt (L := L) (p := p) (d := d + 2) hx t1 t2 q1 (show q ≤ 80 by omega)
  rw [byte_sg q2] at b
  have sr := sg_rg (T := a_tv A t) (s := a_tz A t) (q := q) (hx.1.2.2.2.2.2 t · t1 t2) q1 hz2
  have ko := n_kindOf (d := d + 2) (σ := ST L p I J) (v := p_sg (a_tv A t) (a_tz A t) q) (by omega) (by omega)
  have lr := lett_rg (p_sg (a_tv A t) (a_tz A t) q)
  have e := (r_156 (d + 3) (ST L p I J) 87 (j_k t)).trans (t_156_0 _ _ _ _ _)
  have hs : s_I (ST L p I J) 87 15 = j_k q := hq
  have hs20 : s_I (ST L p I J) 87 20 = j_k 4 := hn
  rw [c_oc_87, c_oc_87, hs, jc1 b, jc1 ko] at e
  rw [e]
  by_cases x : p_lett (p_sg (a_tv A t) (a_tz A t) q) = -9
  · rw [x, if_pos rfl, if_pos (Or.inl kk0)]
  · have x' : ¬ j_k (p_lett (p_sg (a_tv A t) (a_tz A t) q)) = j_k (-9) := by rw [k_eq (by omega) (by omega) (by decide) (by decide)]; exact x
    rw [if_neg x', c_oc_87, hs20, if_pos rfl, if_pos (Or.inl kk0)]
theorem n_beastR (hx : iM I J A) {q w h n : Int} {gr f : Fl} (t1 : 0 ≤ t) (t2 : t < 4) (q1 : 0 ≤ q) (q2 : q < a_tz A t) (hq : I 87 15 = j_k q) (hw : I 87 17 = j_k w) (hh : I 87 18 = j_k h) (hn : I 87 20 = j_k n) (n0 : 0 ≤ n) (n4 : n < 4) (w1 : 2 ≤ w) (w2 : w ≤ 6) (h1 : 1 ≤ h) (h2 : h ≤ 5) (hN : w * h ≤ 30) (hg : ∀ c : Int, 0 ≤ c → c < w * h → I 96 c.toNat = j_k (gr c) ∧ 0 ≤ gr c ∧ gr c ≤ 4) (hp : ∀ k : Int, 0 ≤ k → k < n → I 98 k.toNat = j_k (f (5 + k)) ∧ 0 ≤ f (5 + k) ∧ f (5 + k) < 30) : ∃ I', j_run (d + 4) 156 [.ref 87, .int (j_k t)] (ST L p I J) = some (some (.int (j_z ((p_rdB1 (a_tv A t) (a_tz A t) w h gr n f q).1 = true))), ST L p I' J) ∧ frL I I' ∧ I' 87 15 = j_k (p_rdB1 (a_tv A t) (a_tz A t) w h gr n f q).2.1 ∧ ((p_rdB1 (a_tv A t) (a_tz A t) w h gr n f q).1 = true → I' 87 20 = j_k (n + 1) ∧ (∀ r, r ≠ 87 → r ≠ 97 → r ≠ 98 → I' r = I r) ∧ I' 97 = u1 (I 97) n.toNat (j_k (p_rdB1 (a_tv A t) (a_tz A t) w h gr n f q).2.2.1) ∧ I' 98 = u1 (I 98) n.toNat (j_k (p_rdB1 (a_tv A t) (a_tz A t) w h gr n f q).2.2.2) ∧ (∀ k, k ≠ 15 → k ≠ 16 → k ≠ 20 → I' 87 k = I 87 k) ∧ q + 3 ≤ a_tz A t ∧ 0 ≤ (p_rdB1 (a_tv A t) (a_tz A t) w h gr n f q).2.2.2 ∧ (p_rdB1 (a_tv A t) (a_tz A t) w h gr n f q).2.2.2 < 30) := by
  have hz := hx.1.2.2.2.2.1 t t1 t2
  have hz2 := hz.2
  have hT := hx.1.2.2.2.2.2
  have b := n_byteAt (L := L) (p := p) (d := d + 2) hx t1 t2 q1 (show q ≤ 80 by omega)
  rw [byte_sg q2] at b
  have sr := sg_rg (T := a_tv A t) (s := a_tz A t) (q := q) (hT t · t1 t2) q1 hz2
  have ko := n_kindOf (d := d + 2) (σ := ST L p I J) (v := p_sg (a_tv A t) (a_tz A t) q) (by omega) (by omega)
  have lr := lett_rg (p_sg (a_tv A t) (a_tz A t) q)
  have e := (r_156 (d + 3) (ST L p I J) 87 (j_k t)).trans (t_156_0 _ _ _ _ _)
  have hs : s_I (ST L p I J) 87 15 = j_k q := hq
  have hs20 : s_I (ST L p I J) 87 20 = j_k n := hn
  have h87 : (87 < j_b) := by decide
  have t1' : ¬ j_k 1 = 0 := by decide
  have t0' : j_k 0 = 0 := by decide
  have n4' : ¬ j_k n = j_k 4 := by rw [k_eq (by omega) (by omega) (by decide) (by decide)]; omega
  rw [c_oc_87, c_oc_87, hs, jc1 b, jc1 ko] at e
  unfold p_rdB1
  by_cases x : p_lett (p_sg (a_tv A t) (a_tz A t) q) = -9
  · rw [if_pos x]
    rw [x, if_pos rfl, if_pos (Or.inl kk0)] at e
    exact ⟨I, e, .rf, hq, fun u => absurd u Bool.false_ne_true⟩
  · have x' : ¬ j_k (p_lett (p_sg (a_tv A t) (a_tz A t) q)) = j_k (-9) := by rw [k_eq (by omega) (by omega) (by decide) (by decide)]; exact x
    rw [if_neg x]
    have lr' := lr.resolve_left x
    generalize p_lett (p_sg (a_tv A t) (a_tz A t) q) = K at *
    have fr1 : frL I (u2 I 87 15 (j_k (q + 1))) := frL.o (by decide) (by decide)
    have hs17 : s_I (ST L p (u2 I 87 15 (j_k (q + 1))) J) 87 17 = j_k w := by
      show u2 I 87 15 (j_k (q + 1)) 87 17 = _
      rw [u2_k (by decide)]
      exact hw
    obtain ⟨I1, a1, a2, a3, a4, a5, a6⟩ := n_figure (L := L) (p := p) (d := d + 1) (t := t) (fr1.x hx) (lo := 0) (hi := w - 1) (q := q + 1) t1 t2 (by decide) (by decide) (by omega) (by omega) (by omega) (by omega) (u2_ss _ _ _ _)
    rw [if_neg x', c_oc_87, hs20, if_neg n4', c_oc_87, if_pos h87, c_oc_87, hs, k_add] at e
    have e2 := e
    clear e
    rw [show (s_uI (ST L p I J) 87 15 (j_k (q + 1)) : Sto) = ST L p (u2 I 87 15 (j_k (q + 1))) J from rfl] at e2
    rw [c_oc_87, c_oc_87, hs17, k_sub, jc1 a1] at e2
    have fr2 := fr1.tr a2
    have hr1 : ∀ r, r ≠ 87 → I1 r = I r := fun r a => by
      rw [a5 r a]
      funext m
      rw [u2_r a]
    have hk1 : ∀ k, k ≠ 15 → k ≠ 16 → I1 87 k = I 87 k := fun k a b => by rw [a6 k a b, u2_k a]
    by_cases y : p_fig (a_tv A t) (a_tz A t) 0 (w - 1) (q + 1) = -9
    · rw [if_pos y]
      rw [show j_z (p_fig (a_tv A t) (a_tz A t) 0 (w - 1) (q + 1) ≠ -9) = j_k 0 from if_neg (fun u => u y), if_pos t0', if_pos (Or.inl kk0)] at e2
      exact ⟨I1, e2, fr2, by rw [a3, if_pos y], fun u => absurd u Bool.false_ne_true⟩
    · rw [if_neg y]
      have lt1 := fig_lt (T := a_tv A t) (s := a_tz A t) (lo := 0) (hi := w - 1) (q := q + 1) (by omega) y
      rw [if_neg y] at a3
      have h16 := a4 y
      rw [show j_z (p_fig (a_tv A t) (a_tz A t) 0 (w - 1) (q + 1) ≠ -9) = j_k 1 from if_pos y, if_neg t1'] at e2
      have hx1 := fr2.x hx
      have b2 := n_byteAt (L := L) (p := p) (d := d + 2) hx1 t1 t2 (i := q + 1 + 1) (by omega) (by omega)
      have r16 : s_I (ST L p I1 J) 87 16 = j_k (p_fig (a_tv A t) (a_tz A t) 0 (w - 1) (q + 1)) := h16
      have r15 : s_I (ST L p I1 J) 87 15 = j_k (q + 1 + 1) := a3
      have r18 : s_I (ST L p I1 J) 87 18 = j_k h := (hk1 18 (by decide) (by decide)).trans hh
      have r17 : s_I (ST L p I1 J) 87 17 = j_k w := (hk1 17 (by decide) (by decide)).trans hw
      have n20 : I1 87 20 = j_k n := (hk1 20 (by decide) (by decide)).trans hn
      have br : -128 ≤ (if q + 1 + 1 < a_tz A t then a_tv A t (q + 1 + 1) else 0) ∧ (if q + 1 + 1 < a_tz A t then a_tv A t (q + 1 + 1) else 0) ≤ 127 := by
        split
        · exact hT t _ t1 t2 (by omega) (by omega)
        · omega
      have F : p_fig (a_tv A t) (a_tz A t) 0 (h - 1) (q + 2) = if 0 ≤ (if q + 1 + 1 < a_tz A t then a_tv A t (q + 1 + 1) else 0) - 48 ∧ (if q + 1 + 1 < a_tz A t then a_tv A t (q + 1 + 1) else 0) - 48 ≤ h - 1 then (if q + 1 + 1 < a_tz A t then a_tv A t (q + 1 + 1) else 0) - 48 else -9 := by
        unfold p_fig p_sg
        rw [show q + 2 = q + 1 + 1 by omega]
        by_cases u : q + 1 + 1 < a_tz A t
        · rw [if_pos u, if_pos u]
        · rw [if_neg u, if_neg u, if_neg (by omega), if_neg (by omega)]
      have ltF := fig_lt (T := a_tv A t) (s := a_tz A t) (lo := 0) (hi := h - 1) (q := q + 2) (by omega)
      generalize p_fig (a_tv A t) (a_tz A t) 0 (w - 1) (q + 1) = X at *
      generalize (if q + 1 + 1 < a_tz A t then a_tv A t (q + 1 + 1) else 0) = B at b2 br F
      have i1 := n_in (L := L) (p := p) (d := d + 2) (I := I1) (J := J) (v := B - 48) (lo := 0) (hi := h - 1) (by omega) (by omega) (by decide) (by decide) (by omega) (by omega)
      obtain ⟨M, hM, hM2⟩ : ∃ M, M = 999999 ∧ 100 < M := ⟨999999, rfl, by decide⟩
      obtain ⟨M', rfl⟩ : ∃ q, M = q + 1 := ⟨M - 1, by omega⟩
      rw [← hM, c_oc_87, r16, c_oc_87, c_oc_87, r15, jc1 b2, c_oc_87, k_sub, r18, k_sub, jc1 i1] at e2
      by_cases u : 0 ≤ B - 48 ∧ B - 48 ≤ h - 1
      · rw [if_pos u] at F
        have F9 : ¬ p_fig (a_tv A t) (a_tz A t) 0 (h - 1) (q + 2) = -9 := by omega
        rw [if_neg F9]
        have lt2 := ltF F9
        have W := cell_rg (w := w) (h := h) (x := X) (y := B - 48) (by omega) (by omega) u.1 (by omega)
        rw [F]
        have Ceq : (B - 48) * w + X = w * (B - 48) + X := by rw [Int.mul_comm]
        rw [Ceq]
        obtain ⟨C, hC⟩ : ∃ C, w * (B - 48) + X = C := ⟨_, rfl⟩
        rw [hC] at W ⊢
        have c1 := W.1
        have c2 : C < 30 := by omega
        have cc : j_k w * j_k (B - 48) + j_k X = j_k C := by rw [k_mul, k_add, hC]
        obtain ⟨gv, gb1, gb2⟩ := hg C c1 W.2
        have h96 : s_I (ST L p I1 J) 96 (j_k C).toNatClampNeg = j_k (gr C) := by
          rw [k_nat (by omega) (by omega)]
          show I1 96 C.toNat = _
          rw [hr1 96 (by decide)]
          exact gv
        rw [show j_z (0 ≤ B - 48 ∧ B - 48 ≤ h - 1) = j_k 1 from if_pos u, if_neg t1', c_gP_87_21, c_oc_87, r17, cc, c_ia_96 c1 c2, h96] at e2
        have NO : ∀ e3 : j_run (d + 3 + 1) 156 [.ref 87, .int (j_k t)] (ST L p I J) = some (some (.int (j_k 0)), ST L p I1 J), ¬ ((gr C ≠ 1 ∧ gr C ≠ 2) ∧ p_who n f C (-9) = -9) → ∃ I', j_run (d + 4) 156 [.ref 87, .int (j_k t)] (ST L p I J) = some (some (.int (j_z ((if (gr C ≠ 1 ∧ gr C ≠ 2) ∧ p_who n f C (-9) = -9 then (true, q + 3, K, C) else (false, q + 2, 0, 0)).1 = true))), ST L p I' J) ∧ frL I I' ∧ I' 87 15 = j_k (if (gr C ≠ 1 ∧ gr C ≠ 2) ∧ p_who n f C (-9) = -9 then (true, q + 3, K, C) else (false, q + 2, 0, 0)).2.1 ∧ ((if (gr C ≠ 1 ∧ gr C ≠ 2) ∧ p_who n f C (-9) = -9 then (true, q + 3, K, C) else (false, q + 2, 0, 0)).1 = true → I' 87 20 = j_k (n + 1) ∧ (∀ r, r ≠ 87 → r ≠ 97 → r ≠ 98 → I' r = I r) ∧ I' 97 = u1 (I 97) n.toNat (j_k (if (gr C ≠ 1 ∧ gr C ≠ 2) ∧ p_who n f C (-9) = -9 then (true, q + 3, K, C) else (false, q + 2, 0, 0)).2.2.1) ∧ I' 98 = u1 (I 98) n.toNat (j_k (if (gr C ≠ 1 ∧ gr C ≠ 2) ∧ p_who n f C (-9) = -9 then (true, q + 3, K, C) else (false, q + 2, 0, 0)).2.2.2) ∧ (∀ k, k ≠ 15 → k ≠ 16 → k ≠ 20 → I' 87 k = I 87 k) ∧ q + 3 ≤ a_tz A t ∧ 0 ≤ (if (gr C ≠ 1 ∧ gr C ≠ 2) ∧ p_who n f C (-9) = -9 then (true, q + 3, K, C) else (false, q + 2, 0, 0)).2.2.2 ∧ (if (gr C ≠ 1 ∧ gr C ≠ 2) ∧ p_who n f C (-9) = -9 then (true, q + 3, K, C) else (false, q + 2, 0, 0)).2.2.2 < 30) := fun e3 no => by
          rw [if_neg no]
          exact ⟨I1, e3, fr2, by rw [a3]; show j_k (q + 1 + 1) = j_k (q + 2); congr 1; omega, fun u => absurd u Bool.false_ne_true⟩
        by_cases g1 : gr C = 1
        · rw [g1, if_pos rfl] at e2
          exact NO (e2.trans (n_mayNo n0 n4 n20)) (fun v => v.1.1 g1)
        · have g1' : ¬ j_k (gr C) = j_k 1 := by rw [k_eq (by omega) (by omega) (by decide) (by decide)]; exact g1
          rw [if_neg g1', c_gP_87_21, c_oc_87, c_ia_96 c1 c2, h96] at e2
          by_cases g2 : gr C = 2
          · rw [g2, if_pos rfl] at e2
            exact NO (e2.trans (n_mayNo n0 n4 n20)) (fun v => v.1.2 g2)
          · have g2' : ¬ j_k (gr C) = j_k 2 := by rw [k_eq (by omega) (by omega) (by decide) (by decide)]; exact g2
            rw [if_neg g2'] at e2
            have my := n_may (L := L) (p := p) (d := d) (I := I1) (J := J) (t := t) (n := n) (C := C) (f := f) (kd := K) (x := X) (y := B - 48) (q := q + 1 + 1) (w := w) n0 n4 n20 a3 ((hk1 17 (by decide) (by decide)).trans hw) hC c1 c2 (fun k k1 k2 => by rw [hr1 98 (by decide)]; exact hp k k1 k2) n.toNat (M' + 1) 0 (Int.le_refl 0) (by omega) (by omega)
            have e3 := e2.trans my
            have pw : p_first (fun j => decide (j ≠ -9 ∧ f (5 + j) = C)) n.toNat 0 = p_who n f C (-9) := rfl
            rw [pw] at e3
            by_cases v : p_who n f C (-9) = -9
            · rw [if_pos v] at e3
              rw [if_pos (show (gr C ≠ 1 ∧ gr C ≠ 2) ∧ p_who n f C (-9) = -9 from ⟨⟨g1, g2⟩, v⟩)]
              refine ⟨_, e3, fr2.tr ((((frL.o (by decide) (by decide)).tr (frL.c (Or.inr (Or.inl rfl)))).tr (frL.c (Or.inr (Or.inr rfl)))).tr (frL.o (by decide) (by decide))), ?_, fun _ => ⟨u2_ss _ _ _ _, fun r a b c => ?_, ?_, ?_, fun k a b c => ?_, by omega, c1, c2⟩⟩
              · rw [u2_k (by decide), u2_r (by decide), u2_r (by decide), u2_ss]
                show j_k (q + 1 + 1 + 1) = j_k (q + 3)
                congr 1
                omega
              · rw [← hr1 r a]
                funext m
                rw [u2_r a, u2_r c, u2_r b, u2_r a]
              · funext m
                rw [u2_r (by decide), u2_r (by decide)]
                show u1 _ 97 (u1 _ _ _) 97 m = _
                rw [u1_same, ← hr1 97 (by decide)]
                have : u2 I1 87 15 (j_k (q + 1 + 1 + 1)) 97 = I1 97 := by funext m; rw [u2_r (by decide)]
                rw [this]
              · funext m
                rw [u2_r (by decide)]
                show u1 _ 98 (u1 _ _ _) 98 m = _
                rw [u1_same, ← hr1 98 (by decide)]
                have : u2 (u2 I1 87 15 (j_k (q + 1 + 1 + 1))) 97 n.toNat (j_k K) 98 = I1 98 := by funext m; rw [u2_r (by decide), u2_r (by decide)]
                rw [this]
              · rw [u2_k c, u2_r (by decide), u2_r (by decide), u2_k a]
                exact hk1 k a b
            · rw [if_neg v] at e3
              exact NO e3 (fun w => v w.2)
      · rw [if_neg u] at F
        rw [if_pos F]
        rw [show j_z (0 ≤ B - 48 ∧ B - 48 ≤ h - 1) = j_k 0 from if_neg u, if_pos t0'] at e2
        exact ⟨I1, e2.trans (n_mayNo n0 n4 n20), fr2, by rw [a3]; show j_k (q + 1 + 1) = j_k (q + 2); congr 1; omega, fun u => absurd u Bool.false_ne_true⟩
end MREAD2
