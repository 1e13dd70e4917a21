/-! ===== the model's calls: stir, go, run, where, apart, keep, on ===== -/
section MCALLS2
variable {L p d : Nat} {I I' : Nat → Nat → Int32} {J : Nat → Nat → Int64} {A : Ast}
/-- behind a change of the flock: the frame of steps -/
theorem iM.went (hx : iM I J A) (h : frP (a_gn A) 0 I I') {f : Fl} (hf : iM1 I' 0 (a_gn A) f) (ho : okF (a_N A) (a_gn A) 10000 f) : iM I' J (A_fl A f) := hx.flock (v := a_told A) (fun r a => h.1 r (by omega) (by omega) (by omega)) (fun k a => h.2.1 k (by omega)) (fun i a b => h.2.2 i (by omega) (by omega)) (by rw [h.2.1 2 (by decide)]; exact hx.2.2.2.2.2.2.1) hf ho
theorem frP.n {n q : Int} (h : frP n q I I') : ∀ r, (r < 87 ∨ 104 ≤ r) → I' r = I r := fun r a => h.1 r (by omega) (by omega) (by omega)
theorem n_stir (hx : iM I J A) {k b : Int} (h1 : -2147483648 ≤ k) (h2 : k < 2147483648) (h3 : -2147483648 ≤ b) (h4 : b < 2147483648) : mc L p I J (d + 6) 190 [.ref 87, .int (j_k k), .int (j_k b)] (p_stirC k b A) := by
  have hC := hx.1.1
  have ho := hx.1.2.1
  have hm := hx.2.2.2.1
  have hf := hx.2.2.2.2.1
  have n0 := hC.2.2.1
  have n4 := hC.2.2.2.1
  have hw := hm.2.1
  have hN := hm.2.2.1
  have hn := hm.2.2.2.1
  have hk := hm.2.2.2.2.1
  have hg := hm.2.2.2.2.2
  obtain ⟨bN0, bN1, -⟩ := bd_N hC
  have a1 := n_isBeast (L := L) (p := p) (d := d + 3) (J := J) hn n0 n4 h1 h2
  have a2 := n_in (L := L) (p := p) (d := d + 4) (I := I) (J := J) (v := b) (lo := 0) (hi := 3) h3 h4 (by decide) (by decide) (by decide) (by decide)
  have e := (r_190 (d + 5) (ST L p I J) 87 (j_k k) (j_k b)).trans (t_190_0 _ _ _ _ _ _)
  unfold p_stirC
  by_cases x : 0 ≤ k ∧ k ≤ a_gn A - 1
  · have z : j_z (0 ≤ k ∧ k ≤ a_gn A - 1) = j_k 1 := if_pos x
    rw [z] at a1
    by_cases y : 0 ≤ b ∧ b ≤ 3
    · have z2 : j_z (0 ≤ b ∧ b ≤ 3) = j_k 1 := if_pos y
      rw [z2] at a2
      obtain ⟨k1, k2⟩ := x
      obtain ⟨y1, y2⟩ := y
      have k3 : k < a_gn A := by omega
      have y3 : b < 4 := by omega
      rw [if_pos ⟨⟨k1, k3⟩, y1, y3⟩]
      obtain ⟨I1, s1, s2, s3, s4⟩ := n_stirs (L := L) (p := p) (d := d) (J := J) (q := 0) (k := k) (y := b) (by decide) (by decide) hm hf ho k1 k3 y1 y3
      by_cases w : p_stir (a_gw A) (a_gh A) (a_gr A) (a_gn A) (a_kd A) (a_fl A) k b = -9
      · have w2 : j_z (p_stir (a_gw A) (a_gh A) (a_gr A) (a_gn A) (a_kd A) (a_fl A) k b ≠ -9) = j_k 0 := if_neg (fun u => u w)
        rw [w2] at s1
        rw [if_pos w]
        simp (disch := first | assumption | omega) only [k_add, k_sub, k_mul, k_lt, k_eq, k_lt0, k_0lt, k_eq0, k_nat, k_b0, k_b1, k_z1, k_z0, k_o1, k_o0, Int.reduceEq, Int.reduceLT, Int.reduceLE, Int.reduceAdd, Int.reduceMul, Int.reduceNeg, Bool.false_eq_true, or_true, true_or, or_false, false_or, and_true, true_and, and_false, false_and, not_true_eq_false, not_false_eq_true, ↓reduceIte, z_0, z_k, s_I, s_J, s_uI, s_uJ, ↓c_oc_87, ↓jc1 a1, ↓jc1 a2, ↓jc1 s1] at e
        exact .of ⟨_, e, hx.went s2.p (s3 w) ho, s2.p.n⟩
      · have w2 : j_z (p_stir (a_gw A) (a_gh A) (a_gr A) (a_gn A) (a_kd A) (a_fl A) k b ≠ -9) = j_k 1 := if_pos w
        rw [w2] at s1
        rw [if_neg w]
        obtain ⟨v1, v2⟩ := s4 w
        obtain ⟨t1, t2, t3⟩ := stir_ok hC ho k1 k3 y1 y3 w
        simp (disch := first | assumption | omega) only [k_add, k_sub, k_mul, k_lt, k_eq, k_lt0, k_0lt, k_eq0, k_nat, k_b0, k_b1, k_z1, k_z0, k_o1, k_o0, Int.reduceEq, Int.reduceLT, Int.reduceLE, Int.reduceAdd, Int.reduceMul, Int.reduceNeg, Bool.false_eq_true, or_true, true_or, or_false, false_or, and_true, true_and, and_false, false_and, not_true_eq_false, not_false_eq_true, ↓reduceIte, z_0, z_k, s_I, s_J, s_uI, s_uJ, ↓c_oc_87, ↓jc1 a1, ↓jc1 a2, ↓jc1 s1, v2] at e
        exact .of ⟨_, e, hx.went s2.p v1 t3, s2.p.n⟩
    · have z2 : j_z (0 ≤ b ∧ b ≤ 3) = j_k 0 := if_neg y
      rw [z2] at a2
      rw [if_neg (fun u => y (by omega))]
      simp (disch := first | assumption | omega) only [k_add, k_sub, k_mul, k_lt, k_eq, k_lt0, k_0lt, k_eq0, k_nat, k_b0, k_b1, k_z1, k_z0, k_o1, k_o0, Int.reduceEq, Int.reduceLT, Int.reduceLE, Int.reduceAdd, Int.reduceMul, Int.reduceNeg, Bool.false_eq_true, or_true, true_or, or_false, false_or, and_true, true_and, and_false, false_and, not_true_eq_false, not_false_eq_true, ↓reduceIte, z_0, z_k, s_I, s_J, s_uI, s_uJ, ↓c_oc_87, ↓jc1 a1, ↓jc1 a2] at e
      exact .no hx e
  · have z : j_z (0 ≤ k ∧ k ≤ a_gn A - 1) = j_k 0 := if_neg x
    rw [z] at a1
    rw [if_neg (fun u => x (by omega))]
    simp (disch := first | assumption | omega) only [k_add, k_sub, k_mul, k_lt, k_eq, k_lt0, k_0lt, k_eq0, k_nat, k_b0, k_b1, k_z1, k_z0, k_o1, k_o0, Int.reduceEq, Int.reduceLT, Int.reduceLE, Int.reduceAdd, Int.reduceMul, Int.reduceNeg, Bool.false_eq_true, or_true, true_or, or_false, false_or, and_true, true_and, and_false, false_and, not_true_eq_false, not_false_eq_true, ↓reduceIte, z_0, z_k, s_I, s_J, s_uI, s_uJ, ↓c_oc_87, ↓jc1 a1] at e
    exact .no hx e
theorem n_go (hx : iM I J A) {m : Int} (h1 : -2147483648 ≤ m) (h2 : m < 2147483648) : mc L p I J (d + 7) 191 [.ref 87, .int (j_k m)] (p_goC m A) := by
  have hC := hx.1.1
  have ho := hx.1.2.1
  have hm := hx.2.2.2.1
  have hf := hx.2.2.2.2.1
  have n0 := hC.2.2.1
  have n4 := hC.2.2.2.1
  have hw := hm.2.1
  have hN := hm.2.2.1
  have hn := hm.2.2.2.1
  have hk := hm.2.2.2.2.1
  have hg := hm.2.2.2.2.2
  obtain ⟨bN0, bN1, -⟩ := bd_N hC
  have a2 := n_in (L := L) (p := p) (d := d + 5) (I := I) (J := J) (v := m) (lo := 0) (hi := 40) h1 h2 (by decide) (by decide) (by decide) (by decide)
  have v0 := n_v (L := L) (p := p) (d := d + 5) (I := I) (J := J) (k := 0) (j := 0) (by decide) (by decide) (by decide) (by decide)
  rw [hf.1 0 (by decide) (by decide)] at v0
  have f0 := ho.2.2.2.2.2.1
  have f1 := ho.2.2.2.2.2.2
  have e := (r_191 (d + 6) (ST L p I J) 87 (j_k m)).trans (t_191_0 _ _ _ _ _)
  unfold p_goC
  by_cases y : 0 ≤ m ∧ m ≤ 40
  · have z2 : j_z (0 ≤ m ∧ m ≤ 40) = j_k 1 := if_pos y
    rw [z2] at a2
    rw [if_pos y]
    obtain ⟨m0, m4⟩ := y
    by_cases w : a_N A = 0
    · rw [if_pos w]
      rw [w] at hN
      simp (disch := first | assumption | omega) only [k_add, k_sub, k_mul, k_lt, k_eq, k_lt0, k_0lt, k_eq0, k_nat, k_b0, k_b1, k_z1, k_z0, k_o1, k_o0, Int.reduceEq, Int.reduceLT, Int.reduceLE, Int.reduceAdd, Int.reduceMul, Int.reduceNeg, Bool.false_eq_true, or_true, true_or, or_false, false_or, and_true, true_and, and_false, false_and, not_true_eq_false, not_false_eq_true, ↓reduceIte, z_0, z_k, s_I, s_J, s_uI, s_uJ, ↓jc1 a2, ↓c_oc_87, hN] at e
      exact .no hx e
    · rw [if_neg w]
      by_cases v : 10000 < a_fl A 0 + m
      · rw [if_pos v]
        simp (disch := first | assumption | omega) only [k_add, k_sub, k_mul, k_lt, k_eq, k_lt0, k_0lt, k_eq0, k_nat, k_b0, k_b1, k_z1, k_z0, k_o1, k_o0, Int.reduceEq, Int.reduceLT, Int.reduceLE, Int.reduceAdd, Int.reduceMul, Int.reduceNeg, Bool.false_eq_true, or_true, true_or, or_false, false_or, and_true, true_and, and_false, false_and, not_true_eq_false, not_false_eq_true, ↓reduceIte, z_0, z_k, s_I, s_J, s_uI, s_uJ, ↓jc1 a2, ↓c_oc_87, hN, w, ↓jc1 v0, v] at e
        exact .no hx e
      · rw [if_neg v]
        have loop : ∀ (t M : Nat) (i s b : Int) (f : Fl) (I1 : Nat → Nat → Int32), 0 ≤ i → i + t = m → t < M → iMg I1 (a_gw A) (a_gh A) (a_N A) (a_gn A) (a_gr A) (a_kd A) → iM1 I1 0 (a_gn A) f → okF (a_N A) (a_gn A) b f → b + t ≤ 10000 → frP (a_gn A) 0 I I1 → ∃ I2, j_exec k_191 h_191 (j_run (d + 6)) M 43 [some (.ref 87), some (.int (j_k m)), some (.int (j_k s)), some (.int (j_k i))] [] (ST L p I1 J) = some (some (.int (j_k (p_goes (a_gw A) (a_gh A) (a_gr A) (a_gn A) (a_kd A) t s f).1)), ST L p I2 J) ∧ iM1 I2 0 (a_gn A) (p_goes (a_gw A) (a_gh A) (a_gr A) (a_gn A) (a_kd A) t s f).2 ∧ okF (a_N A) (a_gn A) 10000 (p_goes (a_gw A) (a_gh A) (a_gr A) (a_gn A) (a_kd A) t s f).2 ∧ frP (a_gn A) 0 I I2 := by
          intro t
          induction t with
          | zero =>
            intro M i s b f I1 i1 i2 hM g1 g2 g3 g4 g5
            obtain ⟨M, rfl⟩ : ∃ q, M = q + 1 := ⟨M - 1, by omega⟩
            have z : ¬ i < m := by omega
            refine ⟨I1, ?_, g2, okF_le (by omega) g3, g5⟩
            rw [x_exec, t_191_43]
            simp (disch := first | assumption | omega) only [k_add, k_sub, k_mul, k_lt, k_eq, k_lt0, k_0lt, k_eq0, k_nat, k_b0, k_b1, k_z1, k_z0, k_o1, k_o0, Int.reduceEq, Int.reduceLT, Int.reduceLE, Int.reduceAdd, Int.reduceMul, Int.reduceNeg, Bool.false_eq_true, or_true, true_or, or_false, false_or, and_true, true_and, and_false, false_and, not_true_eq_false, not_false_eq_true, ↓reduceIte, z_0, z_k, s_I, s_J, s_uI, s_uJ, z]
            rfl
          | succ t ih =>
            intro M i s b f I1 i1 i2 hM g1 g2 g3 g4 g5
            obtain ⟨M, rfl⟩ : ∃ q, M = q + 1 := ⟨M - 1, by omega⟩
            have z : i < m := by omega
            obtain ⟨I2, s1, s2, s3, -⟩ := n_step (L := L) (p := p) (d := d) (J := J) (q := 0) (by decide) (by decide) g1 g2 g3 (by omega)
            obtain ⟨I3, t1, t2⟩ := ih M (i + 1) (p_stepW (a_gw A) (a_gh A) (a_gr A) (a_gn A) (a_kd A) f) (b + 1) _ I2 (by omega) (by omega) (by omega) (s3.m g1) s2 (stepF_ok hC g3) (by omega) (g5.tr s3)
            refine ⟨I3, ?_, t2⟩
            rw [x_exec, t_191_43]
            simp (disch := first | assumption | omega) only [k_add, k_sub, k_mul, k_lt, k_eq, k_lt0, k_0lt, k_eq0, k_nat, k_b0, k_b1, k_z1, k_z0, k_o1, k_o0, Int.reduceEq, Int.reduceLT, Int.reduceLE, Int.reduceAdd, Int.reduceMul, Int.reduceNeg, Bool.false_eq_true, or_true, true_or, or_false, false_or, and_true, true_and, and_false, false_and, not_true_eq_false, not_false_eq_true, ↓reduceIte, z_0, z_k, s_I, s_J, s_uI, s_uJ, z, ↓c_oc_87, ↓jc1 s1]
            exact t1
        obtain ⟨M, hM, hM2⟩ : ∃ M, M = 999999 ∧ 100 < M := ⟨999999, rfl, by decide⟩
        obtain ⟨I2, s1, s2, s3, s4⟩ := loop m.toNat M 0 0 (a_fl A 0) (a_fl A) I (Int.le_refl 0) (by omega) (by omega) hm hf (okF_ti ho) (by omega) .rf
        rw [← hM] at e
        simp (disch := first | assumption | omega) only [k_add, k_sub, k_mul, k_lt, k_eq, k_lt0, k_0lt, k_eq0, k_nat, k_b0, k_b1, k_z1, k_z0, k_o1, k_o0, Int.reduceEq, Int.reduceLT, Int.reduceLE, Int.reduceAdd, Int.reduceMul, Int.reduceNeg, Bool.false_eq_true, or_true, true_or, or_false, false_or, and_true, true_and, and_false, false_and, not_true_eq_false, not_false_eq_true, ↓reduceIte, z_0, z_k, s_I, s_J, s_uI, s_uJ, ↓jc1 a2, ↓c_oc_87, hN, w, ↓jc1 v0, v] at e
        exact .of ⟨_, e.trans s1, hx.went s4 s2 s3, s4.n⟩
  · have z2 : j_z (0 ≤ m ∧ m ≤ 40) = j_k 0 := if_neg y
    rw [z2] at a2
    rw [if_neg y]
    simp (disch := first | assumption | omega) only [k_add, k_sub, k_mul, k_lt, k_eq, k_lt0, k_0lt, k_eq0, k_nat, k_b0, k_b1, k_z1, k_z0, k_o1, k_o0, Int.reduceEq, Int.reduceLT, Int.reduceLE, Int.reduceAdd, Int.reduceMul, Int.reduceNeg, Bool.false_eq_true, or_true, true_or, or_false, false_or, and_true, true_and, and_false, false_and, not_true_eq_false, not_false_eq_true, ↓reduceIte, z_0, z_k, s_I, s_J, s_uI, s_uJ, ↓jc1 a2] at e
    exact .no hx e
theorem n_run (hx : iM I J A) : mc L p I J (d + 8) 192 [.ref 87] (p_runC A) := by
  have hC := hx.1.1
  have ho := hx.1.2.1
  have hm := hx.2.2.2.1
  have hf := hx.2.2.2.2.1
  have n0 := hC.2.2.1
  have n4 := hC.2.2.2.1
  have hw := hm.2.1
  have hN := hm.2.2.1
  have hn := hm.2.2.2.1
  have hk := hm.2.2.2.2.1
  have hg := hm.2.2.2.2.2
  obtain ⟨bN0, bN1, -⟩ := bd_N hC
  have v0 := n_v (L := L) (p := p) (d := d + 6) (I := I) (J := J) (k := 0) (j := 0) (by decide) (by decide) (by decide) (by decide)
  rw [hf.1 0 (by decide) (by decide)] at v0
  have f0 := ho.2.2.2.2.2.1
  have f1 := ho.2.2.2.2.2.2
  have e := (r_192 (d + 7) (ST L p I J) 87).trans (t_192_0 _ _ _ _)
  unfold p_runC
  by_cases w : a_N A = 0
  · rw [if_pos w]
    rw [w] at hN
    simp (disch := first | assumption | omega) only [k_add, k_sub, k_mul, k_lt, k_eq, k_lt0, k_0lt, k_eq0, k_nat, k_b0, k_b1, k_z1, k_z0, k_o1, k_o0, Int.reduceEq, Int.reduceLT, Int.reduceLE, Int.reduceAdd, Int.reduceMul, Int.reduceNeg, Bool.false_eq_true, or_true, true_or, or_false, false_or, and_true, true_and, and_false, false_and, not_true_eq_false, not_false_eq_true, ↓reduceIte, z_0, z_k, s_I, s_J, s_uI, s_uJ, ↓c_oc_87, hN] at e
    exact .no hx e
  · rw [if_neg w]
    by_cases v : 9960 < a_fl A 0
    · rw [if_pos v]
      simp (disch := first | assumption | omega) only [k_add, k_sub, k_mul, k_lt, k_eq, k_lt0, k_0lt, k_eq0, k_nat, k_b0, k_b1, k_z1, k_z0, k_o1, k_o0, Int.reduceEq, Int.reduceLT, Int.reduceLE, Int.reduceAdd, Int.reduceMul, Int.reduceNeg, Bool.false_eq_true, or_true, true_or, or_false, false_or, and_true, true_and, and_false, false_and, not_true_eq_false, not_false_eq_true, ↓reduceIte, z_0, z_k, s_I, s_J, s_uI, s_uJ, ↓c_oc_87, hN, w, ↓jc1 v0, v] at e
      exact .no hx e
    · rw [if_neg v]
      obtain ⟨I1, s1, s2, s3, s4, -⟩ := n_runs (L := L) (p := p) (d := d) (J := J) (q := 0) (by decide) (by decide) hm hf ho (by omega)
      have st := run_steps hC 40 0 0 10000 (a_fl A) ho
      have ok := run_ok hC 40 0 0 (a_fl A 0) (a_fl A) (okF_ti ho)
      have sp : (p_runs (a_gw A) (a_gh A) (a_gr A) (a_gn A) (a_kd A) (a_fl A)).2.2 = (p_runs (a_gw A) (a_gh A) (a_gr A) (a_gn A) (a_kd A) (a_fl A)).1 0 - a_fl A 0 := by
        unfold p_runs
        omega
      rw [sp] at s1
      have R : iM I1 J (A_fl A (p_runs (a_gw A) (a_gh A) (a_gr A) (a_gn A) (a_kd A) (a_fl A)).1) := hx.went s3 s2 (okF_le (by omega) ok)
      by_cases u : (p_runs (a_gw A) (a_gh A) (a_gr A) (a_gn A) (a_kd A) (a_fl A)).2.1 = 2
      · have u2 : j_z ((p_runs (a_gw A) (a_gh A) (a_gr A) (a_gn A) (a_kd A) (a_fl A)).2.1 = 2) = j_k 1 := if_pos u
        rw [u2] at s4 ⊢
        have t := n_tells (L := L) (p := p) (d := d + 6) (I := I1) (J := J) (v := j_k 1) (x := j_k ((p_runs (a_gw A) (a_gh A) (a_gr A) (a_gn A) (a_kd A) (a_fl A)).1 0 - a_fl A 0))
        simp (disch := first | assumption | omega) only [k_add, k_sub, k_mul, k_lt, k_eq, k_lt0, k_0lt, k_eq0, k_nat, k_b0, k_b1, k_z1, k_z0, k_o1, k_o0, Int.reduceEq, Int.reduceLT, Int.reduceLE, Int.reduceAdd, Int.reduceMul, Int.reduceNeg, Bool.false_eq_true, or_true, true_or, or_false, false_or, and_true, true_and, and_false, false_and, not_true_eq_false, not_false_eq_true, ↓reduceIte, z_0, z_k, s_I, s_J, s_uI, s_uJ, ↓c_oc_87, hN, w, ↓jc1 v0, v, ↓jc1 s1, s4, ↓jc1 t] at e
        refine .of ⟨_, e, R.told, fun r a => ?_⟩
        rw [fr_told r a]
        exact s3.n r a
      · have u2 : j_z ((p_runs (a_gw A) (a_gh A) (a_gr A) (a_gn A) (a_kd A) (a_fl A)).2.1 = 2) = j_k 0 := if_neg u
        rw [u2] at s4 ⊢
        have t := n_tells (L := L) (p := p) (d := d + 6) (I := I1) (J := J) (v := j_k 0) (x := j_k ((p_runs (a_gw A) (a_gh A) (a_gr A) (a_gn A) (a_kd A) (a_fl A)).1 0 - a_fl A 0))
        simp (disch := first | assumption | omega) only [k_add, k_sub, k_mul, k_lt, k_eq, k_lt0, k_0lt, k_eq0, k_nat, k_b0, k_b1, k_z1, k_z0, k_o1, k_o0, Int.reduceEq, Int.reduceLT, Int.reduceLE, Int.reduceAdd, Int.reduceMul, Int.reduceNeg, Bool.false_eq_true, or_true, true_or, or_false, false_or, and_true, true_and, and_false, false_and, not_true_eq_false, not_false_eq_true, ↓reduceIte, z_0, z_k, s_I, s_J, s_uI, s_uJ, ↓c_oc_87, hN, w, ↓jc1 v0, v, ↓jc1 s1, s4, ↓jc1 t] at e
        refine .of ⟨_, e, R.told, fun r a => ?_⟩
        rw [fr_told r a]
        exact s3.n r a
theorem n_where (hx : iM I J A) {r : Int} (h1 : -2147483648 ≤ r) (h2 : r < 2147483648) : mc L p I J (d + 4) 195 [.ref 87, .int (j_k r)] (p_where r A) := by
  have hC := hx.1.1
  have ho := hx.1.2.1
  have hm := hx.2.2.2.1
  have hf := hx.2.2.2.2.1
  have n0 := hC.2.2.1
  have n4 := hC.2.2.2.1
  have hw := hm.2.1
  have hN := hm.2.2.1
  have hn := hm.2.2.2.1
  have hk := hm.2.2.2.2.1
  have hg := hm.2.2.2.2.2
  obtain ⟨bN0, bN1, -⟩ := bd_N hC
  have a1 := n_isRow (L := L) (p := p) (d := d + 1) (I := I) (J := J) h1 h2
  have e := (r_195 (d + 3) (ST L p I J) 87 (j_k r)).trans (t_195_0 _ _ _ _ _)
  unfold p_where
  by_cases x : 0 ≤ r ∧ r ≤ 5
  · have z : j_z (0 ≤ r ∧ r ≤ 5) = j_k 1 := if_pos x
    rw [z] at a1
    obtain ⟨r1, r2⟩ := x
    have r3 : r < 6 := by omega
    rw [if_pos ⟨r1, r3⟩]
    have loop : ∀ (t M : Nat) (i : Int) (I1 : Nat → Nat → Int32), 0 ≤ i → i + t = 60 → t < M → (∀ q, q ≠ 89 → q ≠ 90 → I1 q = I q) → I1 89 = u1 (I 89) r.toNat (j_k (a_gn A)) → (∀ j : Int, 0 ≤ j → j < 360 → I1 90 j.toNat = if 60 * r ≤ j ∧ j < 60 * r + i then (if j - 60 * r < a_gn A then j_k (a_fl A (5 + (j - 60 * r))) else 0) else I 90 j.toNat) → ∃ I2, j_exec k_195 h_195 (j_run (d + 3)) M 21 [some (.ref 87), some (.int (j_k r)), some (.int (j_k i))] [] (ST L p I1 J) = some (some (.int (j_k (p_lost (a_gn A) (a_fl A)))), ST L p I2 J) ∧ (∀ q, q ≠ 89 → q ≠ 90 → I2 q = I q) ∧ I2 89 = u1 (I 89) r.toNat (j_k (a_gn A)) ∧ (∀ j : Int, 0 ≤ j → j < 360 → I2 90 j.toNat = if 60 * r ≤ j ∧ j < 60 * r + 60 then (if j - 60 * r < a_gn A then j_k (a_fl A (5 + (j - 60 * r))) else 0) else I 90 j.toNat) := by
      intro t
      induction t with
      | zero =>
        intro M i I1 i1 i2 hM g1 g2 g3
        obtain ⟨M, rfl⟩ : ∃ q, M = q + 1 := ⟨M - 1, by omega⟩
        have z : ¬ i < 60 := by omega
        have i60 : i = 60 := by omega
        subst i60
        refine ⟨I1, ?_, g1, g2, g3⟩
        have l := n_lost (L := L) (p := p) (d := d) (I := I1) (J := J) (k := 0) (by decide) (by decide) (by rw [g1 87 (by decide) (by decide)]; exact hn) n0 n4 (hf.cg (fun i _ _ => by rw [g1 99 (by decide) (by decide)]) n4) ho bN1
        rw [x_exec, t_195_21]
        simp (disch := first | assumption | omega) only [k_add, k_sub, k_mul, k_lt, k_eq, k_lt0, k_0lt, k_eq0, k_nat, k_b0, k_b1, k_z1, k_z0, k_o1, k_o0, Int.reduceEq, Int.reduceLT, Int.reduceLE, Int.reduceAdd, Int.reduceMul, Int.reduceNeg, Bool.false_eq_true, or_true, true_or, or_false, false_or, and_true, true_and, and_false, false_and, not_true_eq_false, not_false_eq_true, ↓reduceIte, z_0, z_k, s_I, s_J, s_uI, s_uJ, z, ↓c_oc_87, ↓jc1 l]
      | succ t ih =>
        intro M i I1 i1 i2 hM g1 g2 g3
        obtain ⟨M, rfl⟩ : ∃ q, M = q + 1 := ⟨M - 1, by omega⟩
        have z : i < 60 := by omega
        have hn1 : I1 87 13 = j_k (a_gn A) := by rw [g1 87 (by decide) (by decide)]; exact hn
        have ST1 : ∀ v : Int32, v = (if i < a_gn A then j_k (a_fl A (5 + i)) else 0) → ∃ I2, j_exec k_195 h_195 (j_run (d + 3)) M 21 [some (.ref 87), some (.int (j_k r)), some (.int (j_k (i + 1)))] [] (ST L p (u2 I1 90 (60 * r + i).toNat v) J) = some (some (.int (j_k (p_lost (a_gn A) (a_fl A)))), ST L p I2 J) ∧ (∀ q, q ≠ 89 → q ≠ 90 → I2 q = I q) ∧ I2 89 = u1 (I 89) r.toNat (j_k (a_gn A)) ∧ (∀ j : Int, 0 ≤ j → j < 360 → I2 90 j.toNat = if 60 * r ≤ j ∧ j < 60 * r + 60 then (if j - 60 * r < a_gn A then j_k (a_fl A (5 + (j - 60 * r))) else 0) else I 90 j.toNat) := fun v hv => ih M (i + 1) (u2 I1 90 (60 * r + i).toNat v) (by omega) (by omega) (by omega) (fun q a b => by rw [← g1 q a b]; funext m; rw [u2_r b]) (by rw [← g2]; funext m; rw [u2_r (by decide)]) (fun j j1 j2 => by
          by_cases c : j = 60 * r + i
          · subst c
            rw [u2_ss, if_pos (by omega), hv, show 60 * r + i - 60 * r = i by omega]
          · rw [u2_k (by omega), g3 j j1 j2]
            by_cases c2 : 60 * r ≤ j ∧ j < 60 * r + i
            · rw [if_pos c2]
              exact (if_pos ⟨c2.1, by omega⟩).symm
            · rw [if_neg c2]
              exact (if_neg (by omega)).symm)
        by_cases y : i < a_gn A
        · have v1 := n_v (L := L) (p := p) (d := d + 2) (I := I1) (J := J) (k := 0) (j := 5 + i) (by decide) (by decide) (by omega) (by omega)
          have hf1 : iM1 I1 0 (a_gn A) (a_fl A) := hf.cg (fun i _ _ => by rw [g1 99 (by decide) (by decide)]) n4
          rw [hf1.2.1 i i1 y] at v1
          obtain ⟨I2, q1, q2⟩ := ST1 (j_k (a_fl A (5 + i))) (if_pos y).symm
          refine ⟨I2, ?_, q2⟩
          rw [x_exec, t_195_21]
          simp (disch := first | assumption | omega) only [k_add, k_sub, k_mul, k_lt, k_eq, k_lt0, k_0lt, k_eq0, k_nat, k_b0, k_b1, k_z1, k_z0, k_o1, k_o0, Int.reduceEq, Int.reduceLT, Int.reduceLE, Int.reduceAdd, Int.reduceMul, Int.reduceNeg, Bool.false_eq_true, or_true, true_or, or_false, false_or, and_true, true_and, and_false, false_and, not_true_eq_false, not_false_eq_true, ↓reduceIte, z_0, z_k, s_I, s_J, s_uI, s_uJ, z, ↓c_gP_87_6, ↓c_oc_87, hn1, y, ↓jc1 v1, ↓c_is_90]
          exact q1
        · obtain ⟨I2, q1, q2⟩ := ST1 (j_k 0) (by rw [if_neg y]; exact kk0)
          refine ⟨I2, ?_, q2⟩
          rw [x_exec, t_195_21]
          simp (disch := first | assumption | omega) only [k_add, k_sub, k_mul, k_lt, k_eq, k_lt0, k_0lt, k_eq0, k_nat, k_b0, k_b1, k_z1, k_z0, k_o1, k_o0, Int.reduceEq, Int.reduceLT, Int.reduceLE, Int.reduceAdd, Int.reduceMul, Int.reduceNeg, Bool.false_eq_true, or_true, true_or, or_false, false_or, and_true, true_and, and_false, false_and, not_true_eq_false, not_false_eq_true, ↓reduceIte, z_0, z_k, s_I, s_J, s_uI, s_uJ, z, ↓c_gP_87_6, ↓c_oc_87, hn1, y, ↓c_is_90]
          exact q1
    obtain ⟨I2, q1, q2, q3, q4⟩ := loop 60 999999 0 (u2 I 89 r.toNat (j_k (a_gn A))) (Int.le_refl 0) (by decide) (by decide) (fun q a b => by funext m; rw [u2_r a]) (by show u1 I 89 (u1 (I 89) r.toNat (j_k (a_gn A))) 89 = _; rw [u1_same]) (fun j j1 j2 => by
      rw [u2_r (by decide), if_neg (by omega)])
    simp (disch := first | assumption | omega) only [k_add, k_sub, k_mul, k_lt, k_eq, k_lt0, k_0lt, k_eq0, k_nat, k_b0, k_b1, k_z1, k_z0, k_o1, k_o0, Int.reduceEq, Int.reduceLT, Int.reduceLE, Int.reduceAdd, Int.reduceMul, Int.reduceNeg, Bool.false_eq_true, or_true, true_or, or_false, false_or, and_true, true_and, and_false, false_and, not_true_eq_false, not_false_eq_true, ↓reduceIte, z_0, z_k, s_I, s_J, s_uI, s_uJ, ↓jc1 a1, ↓c_gP_87_5, ↓c_oc_87, hn, ↓c_is_89] at e
    refine .of ⟨I2, e.trans q1, hx.rows (v := a_told A) (rz := f2 (a_rz A) r (a_gn A)) (rv := f2 (a_rv A) r (fun i => if i < a_gn A then j_k (a_fl A (5 + i)) else 0)) (fun q a b c _ => q2 q b c) (fun k _ => by rw [q2 87 (by decide) (by decide)]) (by rw [q2 87 (by decide) (by decide)]; exact hx.2.2.2.2.2.2.1) (fun s s1 s2 => ⟨?_, fun k k1 k2 => ?_⟩) (fun s s1 s2 => ?_), fun q hq => q2 q (by omega) (by omega)⟩
    · rw [q3]
      unfold f2
      by_cases c : s = r
      · subst c
        rw [u1_same, if_pos rfl]
      · rw [u1_ne (by omega), if_neg c]
        exact (hx.2.1 s s1 s2).1
    · rw [q4 (60 * s + k) (by omega) (by omega)]
      unfold f2
      by_cases c : s = r
      · subst c
        rw [if_pos (by omega), if_pos rfl, show 60 * s + k - 60 * s = k by omega]
      · rw [if_neg (by omega), if_neg c]
        exact (hx.2.1 s s1 s2).2 k k1 k2
    · unfold f2
      by_cases c : s = r
      · rw [if_pos c]
        omega
      · rw [if_neg c]
        exact hx.1.2.2.2.1 s s1 s2
  · have z : j_z (0 ≤ r ∧ r ≤ 5) = j_k 0 := if_neg x
    rw [z] at a1
    rw [if_neg (fun u => x (by omega))]
    simp (disch := first | assumption | omega) only [k_add, k_sub, k_mul, k_lt, k_eq, k_lt0, k_0lt, k_eq0, k_nat, k_b0, k_b1, k_z1, k_z0, k_o1, k_o0, Int.reduceEq, Int.reduceLT, Int.reduceLE, Int.reduceAdd, Int.reduceMul, Int.reduceNeg, Bool.false_eq_true, or_true, true_or, or_false, false_or, and_true, true_and, and_false, false_and, not_true_eq_false, not_false_eq_true, ↓reduceIte, z_0, z_k, s_I, s_J, s_uI, s_uJ, ↓jc1 a1] at e
    exact .no hx e
theorem n_apartF {w h N n b q : Int} {gr kd f : Fl} (q1 : 0 ≤ q) (q2 : q < 9) (hm : iMg I w h N n gr kd) (hf : iM1 I q n f) (ho : okF N n b f) : j_run (d + 3) 196 [.ref 87, .int (j_k q)] (ST L p I J) = some (some (.int (j_k (p_apart w n f))), ST L p I J) := by
  have hC := hm.1
  have hn := hm.2.2.2.1
  have n0 := hC.2.2.1
  have n4 := hC.2.2.2.1
  obtain ⟨bN0, bN1, -⟩ := bd_N hC
  have inner : ∀ (m M : Nat) (k j s : Int), 0 ≤ k → k < n → k < j → j + m = n → j_exec k_196 h_196 (j_run (d + 2)) (M + m + 1) 17 [some (.ref 87), some (.int (j_k q)), some (.int (j_k s)), some (.int (j_k k)), some (.int (j_k j))] [] (ST L p I J) = j_exec k_196 h_196 (j_run (d + 2)) M 4 [some (.ref 87), some (.int (j_k q)), some (.int (j_k (p_loop (fun j s => if f (5 + k) ≠ -9 ∧ f (5 + j) ≠ -9 then s + p_off w (f (5 + k)) (f (5 + j)) else s) m j s))), some (.int (j_k (k + 1))), none] [] (ST L p I J) := by
    intro m
    induction m with
    | zero =>
      intro M k j s k1 k2 k3 k4
      have z : ¬ j < n := by omega
      rw [x_exec, t_196_17]
      simp (disch := first | assumption | omega) only [k_add, k_sub, k_mul, k_lt, k_eq, k_lt0, k_0lt, k_eq0, k_nat, k_b0, k_b1, k_z1, k_z0, k_o1, k_o0, Int.reduceEq, Int.reduceLT, Int.reduceLE, Int.reduceAdd, Int.reduceMul, Int.reduceNeg, Bool.false_eq_true, or_true, true_or, or_false, false_or, and_true, true_and, and_false, false_and, not_true_eq_false, not_false_eq_true, ↓reduceIte, z_0, z_k, s_I, s_J, s_uI, s_uJ, ↓c_oc_87, hn, z]
      rfl
    | succ m ih =>
      intro M k j s k1 k2 k3 k4
      have z : j < n := by omega
      have hj0 : 0 ≤ j := by omega
      have hck := ho.1 k k1 k2
      have hcj := ho.1 j hj0 z
      have lk := n_isLost (L := L) (p := p) (d := d) (J := J) q1 q2 hf ho bN1 k1 k2 n4
      have lj := n_isLost (L := L) (p := p) (d := d) (J := J) q1 q2 hf ho bN1 hj0 z n4
      rw [show M + (m + 1) + 1 = (M + m + 1) + 1 by omega, x_exec, t_196_17, p_loopS]
      by_cases z1 : f (5 + k) = -9
      · have y1 : j_z (f (5 + k) = -9) = j_k 1 := if_pos z1
        rw [y1] at lk
        have E : (if f (5 + k) ≠ -9 ∧ f (5 + j) ≠ -9 then s + p_off w (f (5 + k)) (f (5 + j)) else s) = s := if_neg (fun y => y.1 z1)
        rw [E]
        simp (disch := first | assumption | omega) only [k_add, k_sub, k_mul, k_lt, k_eq, k_lt0, k_0lt, k_eq0, k_nat, k_b0, k_b1, k_z1, k_z0, k_o1, k_o0, Int.reduceEq, Int.reduceLT, Int.reduceLE, Int.reduceAdd, Int.reduceMul, Int.reduceNeg, Bool.false_eq_true, or_true, true_or, or_false, false_or, and_true, true_and, and_false, false_and, not_true_eq_false, not_false_eq_true, ↓reduceIte, z_0, z_k, s_I, s_J, s_uI, s_uJ, ↓c_oc_87, hn, z, ↓jc1 lk]
        rw [Int.add_zero]
        exact ih M k (j + 1) s k1 k2 (by omega) (by omega)
      · have y1 : j_z (f (5 + k) = -9) = j_k 0 := if_neg z1
        rw [y1] at lk
        by_cases z2 : f (5 + j) = -9
        · have y2 : j_z (f (5 + j) = -9) = j_k 1 := if_pos z2
          rw [y2] at lj
          have E : (if f (5 + k) ≠ -9 ∧ f (5 + j) ≠ -9 then s + p_off w (f (5 + k)) (f (5 + j)) else s) = s := if_neg (fun y => y.2 z2)
          rw [E]
          simp (disch := first | assumption | omega) only [k_add, k_sub, k_mul, k_lt, k_eq, k_lt0, k_0lt, k_eq0, k_nat, k_b0, k_b1, k_z1, k_z0, k_o1, k_o0, Int.reduceEq, Int.reduceLT, Int.reduceLE, Int.reduceAdd, Int.reduceMul, Int.reduceNeg, Bool.false_eq_true, or_true, true_or, or_false, false_or, and_true, true_and, and_false, false_and, not_true_eq_false, not_false_eq_true, ↓reduceIte, z_0, z_k, s_I, s_J, s_uI, s_uJ, ↓c_oc_87, hn, z, ↓jc1 lk, ↓jc1 lj]
          rw [Int.add_zero]
          exact ih M k (j + 1) s k1 k2 (by omega) (by omega)
        · have y2 : j_z (f (5 + j) = -9) = j_k 0 := if_neg z2
          rw [y2] at lj
          have o := n_off (L := L) (p := p) (d := d) (J := J) hm.2.1 hC (hck.resolve_left z1).1 (hck.resolve_left z1).2 (hcj.resolve_left z2).1 (hcj.resolve_left z2).2
          have vk := n_v (L := L) (p := p) (d := d + 1) (I := I) (J := J) q1 q2 (show 0 ≤ 5 + k by omega) (show 5 + k < 13 by omega)
          have vj := n_v (L := L) (p := p) (d := d + 1) (I := I) (J := J) q1 q2 (show 0 ≤ 5 + j by omega) (show 5 + j < 13 by omega)
          rw [hf.2.1 k k1 k2] at vk
          rw [hf.2.1 j hj0 z] at vj
          have E : (if f (5 + k) ≠ -9 ∧ f (5 + j) ≠ -9 then s + p_off w (f (5 + k)) (f (5 + j)) else s) = s + p_off w (f (5 + k)) (f (5 + j)) := if_pos ⟨z1, z2⟩
          rw [E]
          simp (disch := first | assumption | omega) only [k_add, k_sub, k_mul, k_lt, k_eq, k_lt0, k_0lt, k_eq0, k_nat, k_b0, k_b1, k_z1, k_z0, k_o1, k_o0, Int.reduceEq, Int.reduceLT, Int.reduceLE, Int.reduceAdd, Int.reduceMul, Int.reduceNeg, Bool.false_eq_true, or_true, true_or, or_false, false_or, and_true, true_and, and_false, false_and, not_true_eq_false, not_false_eq_true, ↓reduceIte, z_0, z_k, s_I, s_J, s_uI, s_uJ, ↓c_oc_87, hn, z, ↓jc1 lk, ↓jc1 lj, ↓jc1 vk, ↓jc1 vj, ↓jc1 o]
          exact ih M k (j + 1) _ k1 k2 (by omega) (by omega)
  have key : ∀ (m M : Nat) (k s : Int), 0 ≤ k → k + m = n → j_exec k_196 h_196 (j_run (d + 2)) (M + 20 * m + 1) 4 [some (.ref 87), some (.int (j_k q)), some (.int (j_k s)), some (.int (j_k k)), none] [] (ST L p I J) = some (some (.int (j_k (p_loop (fun k s => p_loop (fun j s => if f (5 + k) ≠ -9 ∧ f (5 + j) ≠ -9 then s + p_off w (f (5 + k)) (f (5 + j)) else s) (n - (k + 1)).toNat (k + 1) s) m k s))), ST L p I J) := by
    intro m
    induction m with
    | zero =>
      intro M k s k1 k2
      have z : ¬ k < n := by omega
      rw [x_exec, t_196_4]
      simp (disch := first | assumption | omega) only [k_add, k_sub, k_mul, k_lt, k_eq, k_lt0, k_0lt, k_eq0, k_nat, k_b0, k_b1, k_z1, k_z0, k_o1, k_o0, Int.reduceEq, Int.reduceLT, Int.reduceLE, Int.reduceAdd, Int.reduceMul, Int.reduceNeg, Bool.false_eq_true, or_true, true_or, or_false, false_or, and_true, true_and, and_false, false_and, not_true_eq_false, not_false_eq_true, ↓reduceIte, z_0, z_k, s_I, s_J, s_uI, s_uJ, ↓c_oc_87, hn, z]
      rfl
    | succ m ih =>
      intro M k s k1 k2
      have z : k < n := by omega
      rw [x_exec, t_196_4, p_loopS]
      simp (disch := first | assumption | omega) only [k_add, k_sub, k_mul, k_lt, k_eq, k_lt0, k_0lt, k_eq0, k_nat, k_b0, k_b1, k_z1, k_z0, k_o1, k_o0, Int.reduceEq, Int.reduceLT, Int.reduceLE, Int.reduceAdd, Int.reduceMul, Int.reduceNeg, Bool.false_eq_true, or_true, true_or, or_false, false_or, and_true, true_and, and_false, false_and, not_true_eq_false, not_false_eq_true, ↓reduceIte, z_0, z_k, s_I, s_J, s_uI, s_uJ, ↓c_oc_87, hn, z]
      obtain ⟨M2, hM2⟩ : ∃ q, M + 20 * (m + 1) = ((q + 20 * m + 1)) + (n - (k + 1)).toNat + 1 := ⟨M + 20 - 2 - (n - (k + 1)).toNat, by omega⟩
      rw [hM2, inner (n - (k + 1)).toNat (M2 + 20 * m + 1) k (k + 1) s k1 z (by omega) (by omega)]
      exact ih M2 (k + 1) _ (by omega) (by omega)
  rw [r_196, t_196_0]
  obtain ⟨M2, hM2⟩ : ∃ q, 999999 = q + 20 * n.toNat + 1 := ⟨999998 - 20 * n.toNat, by omega⟩
  rw [hM2]
  exact key n.toNat M2 0 0 (Int.le_refl 0) (by omega)
theorem n_apart (hx : iM I J A) : mc L p I J (d + 4) 197 [.ref 87] (p_apartC A) := by
  have hC := hx.1.1
  have ho := hx.1.2.1
  have hm := hx.2.2.2.1
  have hf := hx.2.2.2.2.1
  have n0 := hC.2.2.1
  have n4 := hC.2.2.2.1
  have hw := hm.2.1
  have hN := hm.2.2.1
  have hn := hm.2.2.2.1
  have hk := hm.2.2.2.2.1
  have hg := hm.2.2.2.2.2
  obtain ⟨bN0, bN1, -⟩ := bd_N hC
  have a := n_apartF (L := L) (p := p) (d := d) (J := J) (q := 0) (by decide) (by decide) hm hf ho
  have e := (r_197 (d + 3) (ST L p I J) 87).trans (t_197_0 _ _ _ _)
  rw [c_oc_87, jc1 a] at e
  exact .no hx e
theorem n_keep (hx : iM I J A) {k : Int} (h1 : -2147483648 ≤ k) (h2 : k < 2147483648) : mc L p I J (d + 3) 198 [.ref 87, .int (j_k k)] (p_keep k A) := by
  have hC := hx.1.1
  have ho := hx.1.2.1
  have hm := hx.2.2.2.1
  have hf := hx.2.2.2.2.1
  have n0 := hC.2.2.1
  have n4 := hC.2.2.2.1
  have hw := hm.2.1
  have hN := hm.2.2.1
  have hn := hm.2.2.2.1
  have hk := hm.2.2.2.2.1
  have hg := hm.2.2.2.2.2
  obtain ⟨bN0, bN1, -⟩ := bd_N hC
  have a2 := n_in (L := L) (p := p) (d := d + 1) (I := I) (J := J) (v := k) (lo := 0) (hi := 2) h1 h2 (by decide) (by decide) (by decide) (by decide)
  have e := (r_198 (d + 2) (ST L p I J) 87 (j_k k)).trans (t_198_0 _ _ _ _ _)
  unfold p_keep
  by_cases y : 0 ≤ k ∧ k ≤ 2
  · have z2 : j_z (0 ≤ k ∧ k ≤ 2) = j_k 1 := if_pos y
    rw [z2] at a2
    obtain ⟨k1, k2⟩ := y
    have k3 : k < 3 := by omega
    rw [if_pos ⟨k1, k3⟩]
    by_cases w : a_N A = 0
    · rw [if_pos w]
      rw [w] at hN
      simp (disch := first | assumption | omega) only [k_add, k_sub, k_mul, k_lt, k_eq, k_lt0, k_0lt, k_eq0, k_nat, k_b0, k_b1, k_z1, k_z0, k_o1, k_o0, Int.reduceEq, Int.reduceLT, Int.reduceLE, Int.reduceAdd, Int.reduceMul, Int.reduceNeg, Bool.false_eq_true, or_true, true_or, or_false, false_or, and_true, true_and, and_false, false_and, not_true_eq_false, not_false_eq_true, ↓reduceIte, z_0, z_k, s_I, s_J, s_uI, s_uJ, ↓jc1 a2, ↓c_oc_87, hN] at e
      exact .no hx e
    · rw [if_neg w]
      obtain ⟨I1, c1, c2, c3⟩ := n_copy (L := L) (p := p) (d := d) (I := I) (J := J) (k := 0) (l := 1 + k) (by decide) (by decide) (by omega) (by omega) (by omega)
      have F0 : iM1 (u2 I1 100 k.toNat (j_k 1)) 0 (a_gn A) (a_fl A) := hf.cg (fun i _ _ => by rw [u2_r (by decide)]; exact c3.2 i (by omega) (by omega)) n4
      have v0 := n_v (L := L) (p := p) (d := d + 1) (I := u2 I1 100 k.toNat (j_k 1)) (J := J) (k := 0) (j := 0) (by decide) (by decide) (by decide) (by decide)
      rw [F0.1 0 (by decide) (by decide)] at v0
      have cb := fun Ks : Sto → Option Rr => c_bs_100 (L := L) (p := p) (I := I1) (J := J) (Ks := Ks) (v := j_k 1) k1 k3 (Or.inr kk1)
      simp (disch := first | assumption | omega) only [k_add, k_sub, k_mul, k_lt, k_eq, k_lt0, k_0lt, k_eq0, k_nat, k_b0, k_b1, k_z1, k_z0, k_o1, k_o0, Int.reduceEq, Int.reduceLT, Int.reduceLE, Int.reduceAdd, Int.reduceMul, Int.reduceNeg, Bool.false_eq_true, or_true, true_or, or_false, false_or, and_true, true_and, and_false, false_and, not_true_eq_false, not_false_eq_true, ↓reduceIte, z_0, z_k, s_I, s_J, s_uI, s_uJ, ↓jc1 a2, ↓c_oc_87, hN, w, ↓jc0 c1, ↓c_gP_87_25, ↓cb, ↓jc1 v0] at e
      have x1 := hx.1
      have x7 := hx.2.2.2.2.2.2
      have h87 : u2 I1 100 k.toNat (j_k 1) 87 = I 87 := by rw [← c3.1 87 (by decide)]; funext m; rw [u2_r (by decide)]
      have hr : ∀ r, r ≠ 99 → r ≠ 100 → u2 I1 100 k.toNat (j_k 1) r = I r := fun r a b => by rw [← c3.1 r a]; funext m; rw [u2_r b]
      refine .of ⟨_, e, ⟨⟨hC, ho, fun s s1 s2 hs => ?_, x1.2.2.2⟩, hx.2.1.cg (hr 89 (by decide) (by decide)) (hr 90 (by decide) (by decide)), hx.2.2.1.cg (hr 92 (by decide) (by decide)) (hr 93 (by decide) (by decide)), hm.cg' (fun k _ _ => by rw [h87]) (hr 94 (by decide) (by decide)) (hr 95 (by decide) (by decide)), F0, fun s s1 s2 => ⟨?_, fun hs => ?_⟩, by rw [h87]; exact x7.1, x7.2.1, x7.2.2.1, by rw [h87]; exact x7.2.2.2.1, fun q q1 q2 => by rw [hr 88 (by decide) (by decide)]; exact x7.2.2.2.2 q q1 q2⟩, fun r hq => hr r (by omega) (by omega)⟩
      · show okF _ _ _ (f2 (a_kf A) k (a_fl A) s)
        have hs' : f2 (a_kp A) k true s = true := hs
        unfold f2 at hs' ⊢
        by_cases c : s = k
        · rw [if_pos c]
          exact ho
        · rw [if_neg c] at hs' ⊢
          exact x1.2.2.1 s s1 s2 hs'
      · show _ = j_z (f2 (a_kp A) k true s = true)
        unfold f2
        by_cases c : s = k
        · subst c
          rw [u2_ss, if_pos rfl]
          rfl
        · rw [u2_k (by omega), if_neg c, c3.1 100 (by decide)]
          exact (hx.2.2.2.2.2.1 s s1 s2).1
      · show iM1 _ (1 + s) (a_gn A) (f2 (a_kf A) k (a_fl A) s)
        have hs' : f2 (a_kp A) k true s = true := hs
        unfold f2 at hs' ⊢
        by_cases c : s = k
        · subst c
          rw [if_pos rfl]
          have g : ∀ j : Int, 0 ≤ j → j < 13 → u2 I1 100 s.toNat (j_k 1) 99 (13 * (1 + s) + j).toNat = I 99 (13 * 0 + j).toNat := fun j j1 j2 => by rw [u2_r (by decide)]; exact c2 j j1 j2
          exact ⟨fun j j1 j2 => by rw [g j j1 (by omega)]; exact hf.1 j j1 j2, fun j j1 j2 => by rw [g _ (by omega) (by omega)]; exact hf.2.1 j j1 j2, fun j j1 j2 => by rw [g _ (by omega) (by omega)]; exact hf.2.2 j j1 j2⟩
        · rw [if_neg c] at hs' ⊢
          exact ((hx.2.2.2.2.2.1 s s1 s2).2 hs').cg (fun i i1 i2 => by rw [u2_r (by decide)]; exact c3.2 i (by omega) (by omega)) n4
  · have z2 : j_z (0 ≤ k ∧ k ≤ 2) = j_k 0 := if_neg y
    rw [z2] at a2
    rw [if_neg (fun u => y (by omega))]
    simp (disch := first | assumption | omega) only [k_add, k_sub, k_mul, k_lt, k_eq, k_lt0, k_0lt, k_eq0, k_nat, k_b0, k_b1, k_z1, k_z0, k_o1, k_o0, Int.reduceEq, Int.reduceLT, Int.reduceLE, Int.reduceAdd, Int.reduceMul, Int.reduceNeg, Bool.false_eq_true, or_true, true_or, or_false, false_or, and_true, true_and, and_false, false_and, not_true_eq_false, not_false_eq_true, ↓reduceIte, z_0, z_k, s_I, s_J, s_uI, s_uJ, ↓jc1 a2] at e
    exact .no hx e
theorem n_on (hx : iM I J A) {k : Int} (h1 : -2147483648 ≤ k) (h2 : k < 2147483648) : mc L p I J (d + 3) 199 [.ref 87, .int (j_k k)] (p_on k A) := by
  have hC := hx.1.1
  have ho := hx.1.2.1
  have hm := hx.2.2.2.1
  have hf := hx.2.2.2.2.1
  have n0 := hC.2.2.1
  have n4 := hC.2.2.2.1
  have hw := hm.2.1
  have hN := hm.2.2.1
  have hn := hm.2.2.2.1
  have hk := hm.2.2.2.2.1
  have hg := hm.2.2.2.2.2
  obtain ⟨bN0, bN1, -⟩ := bd_N hC
  have a2 := n_in (L := L) (p := p) (d := d + 1) (I := I) (J := J) (v := k) (lo := 0) (hi := 2) h1 h2 (by decide) (by decide) (by decide) (by decide)
  have e := (r_199 (d + 2) (ST L p I J) 87 (j_k k)).trans (t_199_0 _ _ _ _ _)
  unfold p_on
  by_cases y : 0 ≤ k ∧ k ≤ 2
  · have z2 : j_z (0 ≤ k ∧ k ≤ 2) = j_k 1 := if_pos y
    rw [z2] at a2
    obtain ⟨k1, k2⟩ := y
    have k3 : k < 3 := by omega
    rw [if_pos ⟨k1, k3⟩]
    obtain ⟨g1, g2⟩ := hx.2.2.2.2.2.1 k k1 k3
    by_cases w : a_kp A k = true
    · rw [if_pos w]
      rw [show j_z (a_kp A k = true) = j_k 1 from if_pos w] at g1
      obtain ⟨I1, c1, c2, c3⟩ := n_copy (L := L) (p := p) (d := d) (I := I) (J := J) (k := 1 + k) (l := 0) (by omega) (by omega) (by decide) (by decide) (by omega)
      have gk := g2 w
      have F0 : iM1 I1 0 (a_gn A) (a_kf A k) := ⟨fun j j1 j2 => by rw [c2 j j1 (by omega)]; exact gk.1 j j1 j2, fun j j1 j2 => by rw [c2 _ (by omega) (by omega)]; exact gk.2.1 j j1 j2, fun j j1 j2 => by rw [c2 _ (by omega) (by omega)]; exact gk.2.2 j j1 j2⟩
      have v0 := n_v (L := L) (p := p) (d := d + 1) (I := I1) (J := J) (k := 0) (j := 0) (by decide) (by decide) (by decide) (by decide)
      rw [F0.1 0 (by decide) (by decide)] at v0
      simp (disch := first | assumption | omega) only [k_add, k_sub, k_mul, k_lt, k_eq, k_lt0, k_0lt, k_eq0, k_nat, k_b0, k_b1, k_z1, k_z0, k_o1, k_o0, Int.reduceEq, Int.reduceLT, Int.reduceLE, Int.reduceAdd, Int.reduceMul, Int.reduceNeg, Bool.false_eq_true, or_true, true_or, or_false, false_or, and_true, true_and, and_false, false_and, not_true_eq_false, not_false_eq_true, ↓reduceIte, z_0, z_k, s_I, s_J, s_uI, s_uJ, ↓jc1 a2, ↓c_oc_87, ↓c_gP_87_25, ↓c_ba_100, g1, ↓jc0 c1, ↓jc1 v0] at e
      exact .of ⟨_, e, hx.flock (v := a_told A) (fun r a => c3.1 r (by omega)) (fun k _ => by rw [c3.1 87 (by decide)]) (fun i a b => c3.2 i (by omega) (by omega)) (by rw [c3.1 87 (by decide)]; exact hx.2.2.2.2.2.2.1) F0 (hx.1.2.2.1 k k1 k3 w), fun r a => c3.1 r (by omega)⟩
    · rw [if_neg w]
      rw [show j_z (a_kp A k = true) = j_k 0 from if_neg w] at g1
      obtain ⟨I', e1, e2, e3⟩ := n_meets (L := L) (p := p) (d := d + 1) hx (q := 1) (by decide) (by decide)
      simp (disch := first | assumption | omega) only [k_add, k_sub, k_mul, k_lt, k_eq, k_lt0, k_0lt, k_eq0, k_nat, k_b0, k_b1, k_z1, k_z0, k_o1, k_o0, Int.reduceEq, Int.reduceLT, Int.reduceLE, Int.reduceAdd, Int.reduceMul, Int.reduceNeg, Bool.false_eq_true, or_true, true_or, or_false, false_or, and_true, true_and, and_false, false_and, not_true_eq_false, not_false_eq_true, ↓reduceIte, z_0, z_k, s_I, s_J, s_uI, s_uJ, ↓jc1 a2, ↓c_oc_87, ↓c_gP_87_25, ↓c_ba_100, g1, ↓jc1 e1] at e
      exact .meets e2 e3 e
  · have z2 : j_z (0 ≤ k ∧ k ≤ 2) = j_k 0 := if_neg y
    rw [z2] at a2
    rw [if_neg (fun u => y (by omega))]
    simp (disch := first | assumption | omega) only [k_add, k_sub, k_mul, k_lt, k_eq, k_lt0, k_0lt, k_eq0, k_nat, k_b0, k_b1, k_z1, k_z0, k_o1, k_o0, Int.reduceEq, Int.reduceLT, Int.reduceLE, Int.reduceAdd, Int.reduceMul, Int.reduceNeg, Bool.false_eq_true, or_true, true_or, or_false, false_or, and_true, true_and, and_false, false_and, not_true_eq_false, not_false_eq_true, ↓reduceIte, z_0, z_k, s_I, s_J, s_uI, s_uJ, ↓jc1 a2] at e
    exact .no hx e
end MCALLS2
