/-! ===== the law's run ===== -/
section RUN7
variable {L d : Nat}
theorem rn_go {v1 v2 v4 v5 : Int32} {T : Int} (T40 : T ≤ 40) : ∀ (t M p : Nat) (i : Int) (I : Nat → Nat → Int32) (J : Nat → Nat → Int64) (A : Ast), 0 ≤ i → i + t = T → t < M → iX I J A → a_N A ≠ 0 → a_fl A 0 + t ≤ 10000 → ∃ (M' p' : Nat) (I' : Nat → Nat → Int32) (J' : Nat → Nat → Int64), M ≤ M' + t ∧ j_exec k_136 h_136 (j_run (d + 11)) M 110 [some (.ref 0), some (.int v1), some (.int v2), some (.int (j_k T)), some (.int v4), some (.int v5), some (.int (j_k i)), none] [] (ST L p I J) = j_exec k_136 h_136 (j_run (d + 11)) M' 110 [some (.ref 0), some (.int v1), some (.int v2), some (.int (j_k T)), some (.int v4), some (.int v5), some (.int (j_k T)), none] [] (ST L p' I' J') ∧ iX I' J' (A_fl A (p_it A t (a_fl A))) ∧ frX I I' J J'
  | 0, M, p, i, I, J, A, i0, it, hM, hx, hN, hs => by
    have e : i = T := by omega
    subst e
    exact ⟨M, p, I, J, Nat.le_refl _, rfl, hx, frX.rf⟩
  | t + 1, M, p, i, I, J, A, i0, it, hM, hx, hN, hs => by
    obtain ⟨M, rfl⟩ : ∃ q, M = q + 1 := ⟨M - 1, by omega⟩
    have z : i < T := by omega
    have hg := c_go (L := L) (p := p) (d := d) hx (m := 1) (by decide) (by decide) hN (by omega)
    have rg := goes_rg hx.1.1 1 0 10000 (a_fl A) hx.1.2.1 (Int.le_refl 0) (by decide)
    obtain ⟨p1, I1, J1, r1, r2, r3⟩ := hg
    have r1 : j_run (d + 11) 85 [.ref 0, .int (j_k 1)] (ST L p I J) = some (some (.int (j_k (p_goes (a_gw A) (a_gh A) (a_gr A) (a_gn A) (a_kd A) 1 0 (a_fl A)).1)), ST L p1 I1 J1) := r1
    generalize (p_goes (a_gw A) (a_gh A) (a_gr A) (a_gn A) (a_kd A) 1 0 (a_fl A)).1 = v at r1 rg
    have z2 : ¬ v < 0 := by omega
    have e0 : p_it A 1 (a_fl A) 0 = a_fl A 0 + (1 : Nat) := its_0 hx.1.1 hx.1.2.1 1
    obtain ⟨M', p2, I2, J2, u1, u2, u3, u4⟩ := rn_go T40 t M p1 (i + 1) I1 J1 (A_fl A (p_it A 1 (a_fl A))) (by omega) (by omega) (by omega) r2 hN (by show p_it A 1 (a_fl A) 0 + (t : Int) ≤ 10000; omega)
    refine ⟨M', p2, I2, J2, by omega, ?_, ?_, r3.tr u4⟩
    · rw [← u2, x_exec, t_136_110]
      simp (disch := first | assumption | omega) only [k_add, k_sub, k_mul, k_lt, k_eq, k_lt0, k_0lt, k_eq0, k_nat, k_b0, k_b1, k_z1, k_z0, k_o1, k_o0, Int.reduceEq, Int.reduceLT, Int.reduceLE, Int.reduceAdd, Int.reduceMul, Int.reduceNeg, Int.reduceToNat, Bool.false_eq_true, or_true, true_or, or_false, false_or, and_true, true_and, and_false, false_and, not_true_eq_false, not_false_eq_true, ↓reduceIte, z_0, z_k, s_I, s_J, s_uI, s_uJ, z, ↓c_oc_0, ↓jc1 r1, z2]
    · have ea : p_it A t (p_it A 1 (a_fl A)) = p_it A (t + 1) (a_fl A) := by
        have := its_add (w := a_gw A) (h := a_gh A) (gr := a_gr A) (n := a_gn A) (kd := a_kd A) (f := a_fl A) 1 t
        rw [show 1 + t = t + 1 by omega] at this
        exact this
      rw [← ea]
      exact u3
theorem rn_same {v2 v3 v4 v5 : Int32} : ∀ (t M p : Nat) (k : Int) (I : Nat → Nat → Int32) (J : Nat → Nat → Int64) (A : Ast), 0 ≤ k → k + t = a_gn A → t < M → iX I J A → a_rz A 1 = a_gn A → (∀ i, 0 ≤ i → i < a_gn A → a_rv A 1 i = j_k (a_fl A (5 + i))) → ∃ (p' : Nat) (I' : Nat → Nat → Int32) (J' : Nat → Nat → Int64) (x : Int32), j_exec k_136 h_136 (j_run (d + 11)) M 135 [some (.ref 0), some (.int (j_k (a_gn A))), some (.int v2), some (.int v3), some (.int v4), some (.int v5), some (.int (j_k k)), none] [] (ST L p I J) = some (some (.int (j_k 1)), ST L p' I' J') ∧ iX I' J' (A_rz (A_told A x) (f2 (a_rz A) 1 (-1))) ∧ frX I I' J J'
  | 0, M, p, k, I, J, A, k0, kt, hM, hx, z1, hv => by
    obtain ⟨M, rfl⟩ : ∃ q, M = q + 1 := ⟨M - 1, by omega⟩
    have n0 := hx.1.1.2.2.1
    have n4 := hx.1.1.2.2.2.1
    have e : k = a_gn A := by omega
    have z : ¬ a_gn A < a_gn A := by omega
    obtain ⟨p1, I1, J1, a1, a2, a3⟩ := c_tear (L := L) (p := p) (d := d) hx (r := 1) (by decide) (by decide) (by omega)
    refine ⟨p1, I1, J1, a_told A, ?_, a2, a3⟩
    rw [x_exec, t_136_135, e]
    simp (disch := first | assumption | omega) only [k_add, k_sub, k_mul, k_lt, k_eq, k_lt0, k_0lt, k_eq0, k_nat, k_b0, k_b1, k_z1, k_z0, k_o1, k_o0, Int.reduceEq, Int.reduceLT, Int.reduceLE, Int.reduceAdd, Int.reduceMul, Int.reduceNeg, Int.reduceToNat, Bool.false_eq_true, or_true, true_or, or_false, false_or, and_true, true_and, and_false, false_and, not_true_eq_false, not_false_eq_true, ↓reduceIte, z_0, z_k, s_I, s_J, s_uI, s_uJ, ↓c_oc_0, z, ↓jc1 a1]
  | t + 1, M, p, k, I, J, A, k0, kt, hM, hx, z1, hv => by
    obtain ⟨M, rfl⟩ : ∃ q, M = q + 1 := ⟨M - 1, by omega⟩
    have n4 := hx.1.1.2.2.2.1
    have z : k < a_gn A := by omega
    obtain ⟨p1, I1, J1, a1, a2, a3⟩ := c_beast (L := L) (p := p) (d := d) hx (k := k) (q := 1) k0 z (by decide) (by decide)
    have b1 := c_tells (L := L) (p := p1) (d := d) a2
    obtain ⟨p2, I2, J2, c1, c2, c3⟩ := c_at (L := L) (p := p1) (d := d) a2 (r := 1) (i := k) (by decide) (by decide) k0 (by show k < a_rz A 1; rw [z1]; exact z) (by omega)
    have d1 := c_asked (L := L) (p := p2) (d := d) c2
    have b1 : j_run (d + 11) 133 [.ref 0, .int (j_k 1)] (ST L p1 I1 J1) = some (some (.int (j_k (a_fl A (5 + k)))), ST L p1 I1 J1) := b1
    have d1 : j_run (d + 11) 105 [.ref 0] (ST L p2 I2 J2) = some (some (.int (a_rv A 1 k)), ST L p2 I2 J2) := d1
    rw [hv k k0 z] at d1
    obtain ⟨p3, I3, J3, x, u2, u3, u4⟩ := rn_same t M p2 (k + 1) I2 J2 _ (by omega) (by show k + 1 + t = a_gn A; omega) (by omega) c2 z1 hv
    refine ⟨p3, I3, J3, x, ?_, u3, (a3.tr c3).tr u4⟩
    rw [x_exec, t_136_135]
    simp (disch := first | assumption | omega) only [k_add, k_sub, k_mul, k_lt, k_eq, k_lt0, k_0lt, k_eq0, k_nat, k_b0, k_b1, k_z1, k_z0, k_o1, k_o0, Int.reduceEq, Int.reduceLT, Int.reduceLE, Int.reduceAdd, Int.reduceMul, Int.reduceNeg, Int.reduceToNat, Bool.false_eq_true, or_true, true_or, or_false, false_or, and_true, true_and, and_false, false_and, not_true_eq_false, not_false_eq_true, ↓reduceIte, z_0, z_k, s_I, s_J, s_uI, s_uJ, ↓c_oc_0, z, ↓jc1 a1, ↓jc1 b1, ↓jc1 c1, ↓jc1 d1]
    exact u2
variable {p : Nat} {I : Nat → Nat → Int32} {J : Nat → Nat → Int64} {A : Ast}
theorem lw_runs (hx : iX I J A) (hN : a_N A ≠ 0) (hk : a_kp A 0 = true) (hf : a_kf A 0 = a_fl A) (h1 : a_rz A 1 = -1) (hs : a_fl A 0 ≤ 1000) : ∃ p' I' J' B, j_run (d + 12) 136 [.ref 0, .int (j_k (a_gn A))] (ST L p I J) = some (some (.int (j_k 1)), ST L p' I' J') ∧ iX I' J' B ∧ frX I I' J J' ∧ bq A B := by
  have n0 := hx.1.1.2.2.1
  have n4 := hx.1.1.2.2.2.1
  have s0 := hx.1.2.1.2.2.2.2.2.1
  obtain ⟨t, q, er, t2, t40, q2, hq, hq2⟩ := runs_its (w := a_gw A) (h := a_gh A) (gr := a_gr A) (n := a_gn A) (kd := a_kd A) (f := a_fl A)
  have e0 : ∀ m : Nat, p_it A m (a_fl A) 0 = a_fl A 0 + m := fun m => its_0 hx.1.1 hx.1.2.1 m
  have a1 : j_run (d + 11) 108 [.ref 0, .int (j_k 3)] (ST L p I J) = some (some (.int (j_k (a_fl A 0))), ST L p I J) := c_count hx (q := 3) (by decide) (by decide)
  obtain ⟨p1, I1, J1, b1, b2, b3⟩ := c_run (L := L) (p := p) (d := d) hx hN (by omega) er
  have c1 : j_run (d + 11) 105 [.ref 0] (ST L p1 I1 J1) = some (some (.int (j_z ((q : Int) = 2))), ST L p1 I1 J1) := c_asked b2
  obtain ⟨p2, I2, J2, d1, d2, d3⟩ := c_last (L := L) (p := p1) (d := d) b2
  have d1 : j_run (d + 11) 83 [.ref 0] (ST L p1 I1 J1) = some (some (.int (j_k (p_it A t (a_fl A) 1))), ST L p2 I2 J2) := d1
  have f1 : j_run (d + 11) 108 [.ref 0, .int (j_k 3)] (ST L p2 I2 J2) = some (some (.int (j_k (p_it A t (a_fl A) 0))), ST L p2 I2 J2) := c_count d2 (q := 3) (by decide) (by decide)
  rw [e0 t] at f1
  obtain ⟨p3, I3, J3, g1, g2, g3⟩ := c_where (L := L) (p := p2) (d := d) d2 (r := 1) (by decide) (by decide)
  have g1 : j_run (d + 11) 88 [.ref 0, .int (j_k 1)] (ST L p2 I2 J2) = some (some (.int (j_k (p_lost (a_gn A) (p_it A t (a_fl A))))), ST L p3 I3 J3) := g1
  have i1 : j_run (d + 11) 108 [.ref 0, .int (j_k 2)] (ST L p3 I3 J3) = some (some (.int (j_k (p_lost (a_gn A) (p_it A t (a_fl A))))), ST L p3 I3 J3) := c_count g2 (q := 2) (by decide) (by decide)
  obtain ⟨M, hM, hM2⟩ : ∃ M, M = 999999 ∧ 10000 < M := ⟨_, rfl, by decide⟩
  obtain ⟨M, rfl⟩ : ∃ q, M = q + 1 := ⟨M - 1, by omega⟩
  obtain ⟨M, rfl⟩ : ∃ q, M = q + 1 := ⟨M - 1, by omega⟩
  obtain ⟨M, rfl⟩ : ∃ q, M = q + 1 := ⟨M - 1, by omega⟩
  have y1 : ¬ (t : Int) < 2 := by omega
  have y2 : ¬ (40 : Int) < t := by omega
  have E0 : j_run (d + 12) 136 [.ref 0, .int (j_k (a_gn A))] (ST L p I J) = j_exec k_136 h_136 (j_run (d + 11)) (M + 1 + 1) 71 [some (.ref 0), some (.int (j_k (a_gn A))), some (.int (j_k (a_fl A 0))), some (.int (j_k t)), some (.int (j_z ((q : Int) = 2))), some (.int (j_k (p_it A t (a_fl A) 1))), none, none] [] (ST L p3 I3 J3) := by
    have E1 : j_exec k_136 h_136 (j_run (d + 11)) (M + 1 + 1 + 1) 56 [some (.ref 0), some (.int (j_k (a_gn A))), some (.int (j_k (a_fl A 0))), some (.int (j_k t)), some (.int (j_z ((q : Int) = 2))), some (.int (j_k (p_it A t (a_fl A) 1))), none, none] [] (ST L p2 I2 J2) = j_exec k_136 h_136 (j_run (d + 11)) (M + 1 + 1) 71 [some (.ref 0), some (.int (j_k (a_gn A))), some (.int (j_k (a_fl A 0))), some (.int (j_k t)), some (.int (j_z ((q : Int) = 2))), some (.int (j_k (p_it A t (a_fl A) 1))), none, none] [] (ST L p3 I3 J3) := by
      rw [x_exec, t_136_56]
      simp (disch := first | assumption | omega) only [k_add, k_sub, k_mul, k_lt, k_eq, k_lt0, k_0lt, k_eq0, k_nat, k_b0, k_b1, k_z1, k_z0, k_o1, k_o0, Int.reduceEq, Int.reduceLT, Int.reduceLE, Int.reduceAdd, Int.reduceMul, Int.reduceNeg, Int.reduceToNat, Bool.false_eq_true, or_true, true_or, or_false, false_or, and_true, true_and, and_false, false_and, not_true_eq_false, not_false_eq_true, ↓reduceIte, z_0, z_k, s_I, s_J, s_uI, s_uJ, ↓c_oc_0, ↓jc1 g1, ↓jc1 i1]
    rw [← E1, r_136, t_136_0, ← hM]
    by_cases y : (q : Int) = 2
    · simp (disch := first | assumption | omega) only [k_add, k_sub, k_mul, k_lt, k_eq, k_lt0, k_0lt, k_eq0, k_nat, k_b0, k_b1, k_z1, k_z0, k_o1, k_o0, Int.reduceEq, Int.reduceLT, Int.reduceLE, Int.reduceAdd, Int.reduceMul, Int.reduceNeg, Int.reduceToNat, Bool.false_eq_true, or_true, true_or, or_false, false_or, and_true, true_and, and_false, false_and, not_true_eq_false, not_false_eq_true, ↓reduceIte, z_0, z_k, s_I, s_J, s_uI, s_uJ, ↓c_oc_0, ↓jc1 a1, ↓jc1 b1, ↓jc1 c1, ↓jc1 d1, ↓jc1 f1, y1, y2, y]
    · have t40' : (t : Int) = 40 := by have := hq2 (by omega); omega
      rw [t40'] at b1 f1
      simp (disch := first | assumption | omega) only [k_add, k_sub, k_mul, k_lt, k_eq, k_lt0, k_0lt, k_eq0, k_nat, k_b0, k_b1, k_z1, k_z0, k_o1, k_o0, Int.reduceEq, Int.reduceLT, Int.reduceLE, Int.reduceAdd, Int.reduceMul, Int.reduceNeg, Int.reduceToNat, Bool.false_eq_true, or_true, true_or, or_false, false_or, and_true, true_and, and_false, false_and, not_true_eq_false, not_false_eq_true, ↓reduceIte, z_0, z_k, s_I, s_J, s_uI, s_uJ, ↓c_oc_0, ↓jc1 a1, ↓jc1 b1, ↓jc1 c1, ↓jc1 d1, ↓jc1 f1, y1, y2, y, t40']
  -- where they stand, two steps more change nothing
  obtain ⟨p4, I4, J4, f, E2, x2, x3⟩ : ∃ (p4 : Nat) (I4 : Nat → Nat → Int32) (J4 : Nat → Nat → Int64) (X : Ast), j_exec k_136 h_136 (j_run (d + 11)) (M + 1 + 1) 71 [some (.ref 0), some (.int (j_k (a_gn A))), some (.int (j_k (a_fl A 0))), some (.int (j_k t)), some (.int (j_z ((q : Int) = 2))), some (.int (j_k (p_it A t (a_fl A) 1))), none, none] [] (ST L p3 I3 J3) = j_exec k_136 h_136 (j_run (d + 11)) (M + 1) 96 [some (.ref 0), some (.int (j_k (a_gn A))), some (.int (j_k (a_fl A 0))), some (.int (j_k t)), some (.int (j_z ((q : Int) = 2))), some (.int (j_k (p_it A t (a_fl A) 1))), none, none] [] (ST L p4 I4 J4) ∧ (∃ (fl : Fl) (x : Int32), X = A_told (A_fl (A_rv (A_rz A (f2 (a_rz A) 1 (a_gn A))) (f2 (a_rv A) 1 (p_rw (a_gn A) (p_it A t (a_fl A))))) fl) x) ∧ iX I4 J4 X ∧ frX I3 I4 J3 J4 := by
    by_cases y : (q : Int) = 2
    · have hw := hq (by omega)
      have st := stand_stays hx.1.1 hx.1.2.1 t2 hw.1 hw.2 0
      obtain ⟨p4, I4, J4, j1, j2, j3⟩ := c_go (L := L) (p := p3) (d := d) g2 (m := 2) (by decide) (by decide) hN (by show p_it A t (a_fl A) 0 + 2 ≤ 10000; rw [e0 t]; omega)
      obtain ⟨p5, I5, J5, k1, k2, k3⟩ := c_last (L := L) (p := p4) (d := d) j2
      have j1 : j_run (d + 11) 85 [.ref 0, .int (j_k 2)] (ST L p3 I3 J3) = some (some (.int (j_k (p_goes (a_gw A) (a_gh A) (a_gr A) (a_gn A) (a_kd A) 2 0 (p_it A t (a_fl A))).1)), ST L p4 I4 J4) := j1
      rw [st.1] at j1
      have st2 : p_it A 2 (p_it A t (a_fl A)) 1 = p_it A t (a_fl A) 1 := by
        have := st.2
        rw [goes_its] at this
        exact this
      have k1 : j_run (d + 11) 83 [.ref 0] (ST L p4 I4 J4) = some (some (.int (j_k (p_it A 2 (p_it A t (a_fl A)) 1))), ST L p5 I5 J5) := k1
      rw [st2] at k1
      refine ⟨p5, I5, J5, _, ?_, ⟨p_it A 2 (p_it A t (a_fl A)), j_k (p_it A 2 (p_it A t (a_fl A)) 2), rfl⟩, k2, j3.tr k3⟩
      rw [x_exec, t_136_71]
      unfold j_z
      rw [if_pos y]
      simp (disch := first | assumption | omega) only [k_add, k_sub, k_mul, k_lt, k_eq, k_lt0, k_0lt, k_eq0, k_nat, k_b0, k_b1, k_z1, k_z0, k_o1, k_o0, Int.reduceEq, Int.reduceLT, Int.reduceLE, Int.reduceAdd, Int.reduceMul, Int.reduceNeg, Int.reduceToNat, Bool.false_eq_true, or_true, true_or, or_false, false_or, and_true, true_and, and_false, false_and, not_true_eq_false, not_false_eq_true, ↓reduceIte, z_0, z_k, s_I, s_J, s_uI, s_uJ, ↓c_oc_0, ↓jc1 j1, ↓jc1 k1]
    · refine ⟨p3, I3, J3, _, ?_, ⟨p_it A t (a_fl A), j_k (p_it A t (a_fl A) 2), rfl⟩, g2, frX.rf⟩
      rw [x_exec, t_136_71]
      unfold j_z
      rw [if_neg y]
      simp (disch := first | assumption | omega) only [k_add, k_sub, k_mul, k_lt, k_eq, k_lt0, k_0lt, k_eq0, k_nat, k_b0, k_b1, k_z1, k_z0, k_o1, k_o0, Int.reduceEq, Int.reduceLT, Int.reduceLE, Int.reduceAdd, Int.reduceMul, Int.reduceNeg, Int.reduceToNat, Bool.false_eq_true, or_true, true_or, or_false, false_or, and_true, true_and, and_false, false_and, not_true_eq_false, not_false_eq_true, ↓reduceIte, z_0, z_k, s_I, s_J, s_uI, s_uJ, ↓c_oc_0]
  obtain ⟨fl, x, rfl⟩ := x2
  obtain ⟨x2, x3⟩ := x3
  obtain ⟨p5, I5, J5, l1, l2, l3⟩ := c_on (L := L) (p := p4) (d := d) x2 hk
  have l1 : j_run (d + 11) 91 [.ref 0, .int (j_k 0)] (ST L p4 I4 J4) = some (some (.int (j_k (a_kf A 0 0))), ST L p5 I5 J5) := l1
  rw [hf] at l1
  have l2 : iX I5 J5 (A_told (A_fl (A_rv (A_rz A (f2 (a_rz A) 1 (a_gn A))) (f2 (a_rv A) 1 (p_rw (a_gn A) (p_it A t (a_fl A))))) (a_kf A 0)) x) := l2
  rw [hf] at l2
  obtain ⟨M5, p6, I6, J6, m1, m2, m3, m4⟩ := rn_go (L := L) (d := d) (v1 := j_k (a_gn A)) (v2 := j_k (a_fl A 0)) (v4 := j_z ((q : Int) = 2)) (v5 := j_k (p_it A t (a_fl A) 1)) (T := (t : Int)) (by omega) t M p5 0 I5 J5 _ (Int.le_refl 0) (by omega) (by omega) l2 hN (by show a_fl A 0 + (t : Int) ≤ 10000; omega)
  obtain ⟨M5, rfl⟩ : ∃ q, M5 = q + 1 := ⟨M5 - 1, by omega⟩
  obtain ⟨M5, rfl⟩ : ∃ q, M5 = q + 1 := ⟨M5 - 1, by omega⟩
  obtain ⟨p7, I7, J7, x', u1, u2, u3⟩ := rn_same (L := L) (d := d) (v2 := j_k (a_fl A 0)) (v3 := j_k (t : Int)) (v4 := j_z ((q : Int) = 2)) (v5 := j_k (p_it A t (a_fl A) 1)) (a_gn A).toNat M5 p6 0 I6 J6 _ (Int.le_refl 0) (by show 0 + ((a_gn A).toNat : Int) = a_gn A; omega) (by omega) m3 (show f2 (a_rz A) 1 (a_gn A) 1 = a_gn A from if_pos rfl) (fun i i0 i1 => by
    show f2 (a_rv A) 1 (p_rw (a_gn A) (p_it A t (a_fl A))) 1 i = j_k (p_it A t (a_fl A) (5 + i))
    rw [show f2 (a_rv A) 1 (p_rw (a_gn A) (p_it A t (a_fl A))) 1 = p_rw (a_gn A) (p_it A t (a_fl A)) from if_pos rfl]
    exact if_pos i1)
  refine ⟨p7, I7, J7, _, ?_, u2, ((b3.tr d3).tr (g3.tr x3)).tr ((l3.tr m4).tr u3), ⟨?_, fun r x1 x2 => ?_, rfl, rfl, rfl, rfl, rfl, rfl, rfl, rfl, rfl⟩⟩
  · have z : ¬ (t : Int) < t := by omega
    rw [E0, E2, x_exec, t_136_96]
    simp (disch := first | assumption | omega) only [k_add, k_sub, k_mul, k_lt, k_eq, k_lt0, k_0lt, k_eq0, k_nat, k_b0, k_b1, k_z1, k_z0, k_o1, k_o0, Int.reduceEq, Int.reduceLT, Int.reduceLE, Int.reduceAdd, Int.reduceMul, Int.reduceNeg, Int.reduceToNat, Bool.false_eq_true, or_true, true_or, or_false, false_or, and_true, true_and, and_false, false_and, not_true_eq_false, not_false_eq_true, ↓reduceIte, z_0, z_k, s_I, s_J, s_uI, s_uJ, ↓c_oc_0, ↓jc1 l1]
    rw [m2, x_exec, t_136_110]
    simp (disch := first | assumption | omega) only [k_add, k_sub, k_mul, k_lt, k_eq, k_lt0, k_0lt, k_eq0, k_nat, k_b0, k_b1, k_z1, k_z0, k_o1, k_o0, Int.reduceEq, Int.reduceLT, Int.reduceLE, Int.reduceAdd, Int.reduceMul, Int.reduceNeg, Int.reduceToNat, Bool.false_eq_true, or_true, true_or, or_false, false_or, and_true, true_and, and_false, false_and, not_true_eq_false, not_false_eq_true, ↓reduceIte, z_0, z_k, s_I, s_J, s_uI, s_uJ, z]
    rw [x_exec, t_136_132]
    exact u1
  · show f2 (f2 (a_rz A) 1 (a_gn A)) 1 (-1) = a_rz A
    funext r
    unfold f2
    by_cases y2 : r = 1
    · rw [if_pos y2, y2, h1]
    · rw [if_neg y2, if_neg y2]
  · show f2 (a_rv A) 1 _ r = a_rv A r
    exact if_neg x1
end RUN7
