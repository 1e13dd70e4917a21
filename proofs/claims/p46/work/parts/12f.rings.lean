/-! ===== the law's ring (by program wip/gen46/s12f.py) ===== -/
section RING7
variable {L d : Nat}
theorem rg_go1 {v1 v2 : Int32} : ∀ (t M p : Nat) (left : Int) (I : Nat → Nat → Int32) (J : Nat → Nat → Int64) (A : Ast), 0 ≤ left → left ≤ t → left ≤ 1000 → 2 * t < M → iX I J A → a_N A ≠ 0 → a_fl A 0 + left ≤ 10000 → ∃ (M' p' : Nat) (I' : Nat → Nat → Int32) (J' : Nat → Nat → Int64), M ≤ M' + 2 * t ∧ j_exec k_134 h_134 (j_run (d + 11)) M 47 [some (.ref 0), some (.int v1), some (.int v2), some (.int (j_k left)), none, none, none, none, none] [] (ST L p I J) = j_exec k_134 h_134 (j_run (d + 11)) M' 47 [some (.ref 0), some (.int v1), some (.int v2), some (.int (j_k 0)), none, none, none, none, none] [] (ST L p' I' J') ∧ iX I' J' (A_fl A (p_it A left.toNat (a_fl A))) ∧ frX I I' J J'
  | 0, M, p, left, I, J, A, l0, l1, l2, hM, hx, hN, hs => by
    have e : left = 0 := by omega
    subst e
    exact ⟨M, p, I, J, Nat.le_refl _, rfl, hx, frX.rf⟩
  | t + 1, M, p, left, I, J, A, l0, l1, l2, hM, hx, hN, hs => by
    by_cases e : left = 0
    · subst e
      exact ⟨M, p, I, J, by omega, rfl, hx, frX.rf⟩
    have z : 0 < left := by omega
    obtain ⟨M, rfl⟩ : ∃ q, M = q + 1 := ⟨M - 1, by omega⟩
    obtain ⟨M, rfl⟩ : ∃ q, M = q + 1 := ⟨M - 1, by omega⟩
    obtain ⟨g, g0, g40, gl, eg⟩ : ∃ g : Int, 0 < g ∧ g ≤ 40 ∧ g ≤ left ∧ j_exec k_134 h_134 (j_run (d + 11)) (M + 1 + 1) 47 [some (.ref 0), some (.int v1), some (.int v2), some (.int (j_k left)), none, none, none, none, none] [] (ST L p I J) = j_exec k_134 h_134 (j_run (d + 11)) (M + 1) 65 [some (.ref 0), some (.int v1), some (.int v2), some (.int (j_k left)), some (.int (j_k g)), none, none, none, none] [] (ST L p I J) := by
      rw [x_exec, t_134_47]
      by_cases y : 40 < left
      · exact ⟨40, by decide, by decide, by omega, by simp (disch := first | assumption | omega) only [k_add, k_sub, k_mul, k_lt, k_eq, k_lt0, k_0lt, k_eq0, k_nat, k_b0, k_b1, k_z1, k_z0, k_o1, k_o0, Int.reduceEq, Int.reduceLT, Int.reduceLE, Int.reduceAdd, Int.reduceMul, Int.reduceNeg, Int.reduceToNat, Bool.false_eq_true, or_true, true_or, or_false, false_or, and_true, true_and, and_false, false_and, not_true_eq_false, not_false_eq_true, ↓reduceIte, z_0, z_k, s_I, s_J, s_uI, s_uJ, z, y]⟩
      · exact ⟨left, z, by omega, Int.le_refl _, by simp (disch := first | assumption | omega) only [k_add, k_sub, k_mul, k_lt, k_eq, k_lt0, k_0lt, k_eq0, k_nat, k_b0, k_b1, k_z1, k_z0, k_o1, k_o0, Int.reduceEq, Int.reduceLT, Int.reduceLE, Int.reduceAdd, Int.reduceMul, Int.reduceNeg, Int.reduceToNat, Bool.false_eq_true, or_true, true_or, or_false, false_or, and_true, true_and, and_false, false_and, not_true_eq_false, not_false_eq_true, ↓reduceIte, z_0, z_k, s_I, s_J, s_uI, s_uJ, z, y]⟩
    have hg := c_go (L := L) (p := p) (d := d) hx (m := g) (by omega) g40 hN (by omega)
    have rg := goes_rg hx.1.1 g.toNat 0 10000 (a_fl A) hx.1.2.1 (Int.le_refl 0) (by decide)
    obtain ⟨p1, I1, J1, r1, r2, r3⟩ := hg
    dsimp only at r1 r2
    generalize (p_goes (a_gw A) (a_gh A) (a_gr A) (a_gn A) (a_kd A) g.toNat 0 (a_fl A)).1 = v at r1 rg
    have e0 : p_it A g.toNat (a_fl A) 0 = a_fl A 0 + g.toNat := its_0 hx.1.1 hx.1.2.1 g.toNat
    obtain ⟨M', p2, I2, J2, u1, u2, u3, u4⟩ := rg_go1 t M p1 (left - g) I1 J1 (A_fl A (p_it A g.toNat (a_fl A))) (by omega) (by omega) (by omega) (by omega) r2 hN (show p_it A g.toNat (a_fl A) 0 + (left - g) ≤ 10000 by omega)
    refine ⟨M', p2, I2, J2, by omega, ?_, ?_, r3.tr u4⟩
    · have z2 : ¬ v < 0 := by omega
      rw [eg, ← u2, x_exec, t_134_65]
      simp (disch := first | assumption | omega) only [k_add, k_sub, k_mul, k_lt, k_eq, k_lt0, k_0lt, k_eq0, k_nat, k_b0, k_b1, k_z1, k_z0, k_o1, k_o0, Int.reduceEq, Int.reduceLT, Int.reduceLE, Int.reduceAdd, Int.reduceMul, Int.reduceNeg, Int.reduceToNat, Bool.false_eq_true, or_true, true_or, or_false, false_or, and_true, true_and, and_false, false_and, not_true_eq_false, not_false_eq_true, ↓reduceIte, z_0, z_k, s_I, s_J, s_uI, s_uJ, ↓c_oc_0, ↓jc1 r1, z2]
    · have ea : p_it A (left - g).toNat (p_it A g.toNat (a_fl A)) = p_it A left.toNat (a_fl A) := by
        have := its_add (w := a_gw A) (h := a_gh A) (gr := a_gr A) (n := a_gn A) (kd := a_kd A) (f := a_fl A) g.toNat (left - g).toNat
        rw [show g.toNat + (left - g).toNat = left.toNat by omega] at this
        exact this
      rw [← ea]
      exact u3
theorem rg_go2 {v1 v2 v4 v5 v6 : Int32} : ∀ (t M p : Nat) (left : Int) (I : Nat → Nat → Int32) (J : Nat → Nat → Int64) (A : Ast), 0 ≤ left → left ≤ t → left ≤ 1000 → 2 * t < M → iX I J A → a_N A ≠ 0 → a_fl A 0 + left ≤ 10000 → ∃ (M' p' : Nat) (I' : Nat → Nat → Int32) (J' : Nat → Nat → Int64), M ≤ M' + 2 * t ∧ j_exec k_134 h_134 (j_run (d + 11)) M 105 [some (.ref 0), some (.int v1), some (.int v2), some (.int (j_k left)), some (.int v4), some (.int v5), some (.int v6), none, none] [] (ST L p I J) = j_exec k_134 h_134 (j_run (d + 11)) M' 105 [some (.ref 0), some (.int v1), some (.int v2), some (.int (j_k 0)), some (.int v4), some (.int v5), some (.int v6), none, none] [] (ST L p' I' J') ∧ iX I' J' (A_fl A (p_it A left.toNat (a_fl A))) ∧ frX I I' J J'
  | 0, M, p, left, I, J, A, l0, l1, l2, hM, hx, hN, hs => by
    have e : left = 0 := by omega
    subst e
    exact ⟨M, p, I, J, Nat.le_refl _, rfl, hx, frX.rf⟩
  | t + 1, M, p, left, I, J, A, l0, l1, l2, hM, hx, hN, hs => by
    by_cases e : left = 0
    · subst e
      exact ⟨M, p, I, J, by omega, rfl, hx, frX.rf⟩
    have z : 0 < left := by omega
    obtain ⟨M, rfl⟩ : ∃ q, M = q + 1 := ⟨M - 1, by omega⟩
    obtain ⟨M, rfl⟩ : ∃ q, M = q + 1 := ⟨M - 1, by omega⟩
    obtain ⟨g, g0, g40, gl, eg⟩ : ∃ g : Int, 0 < g ∧ g ≤ 40 ∧ g ≤ left ∧ j_exec k_134 h_134 (j_run (d + 11)) (M + 1 + 1) 105 [some (.ref 0), some (.int v1), some (.int v2), some (.int (j_k left)), some (.int v4), some (.int v5), some (.int v6), none, none] [] (ST L p I J) = j_exec k_134 h_134 (j_run (d + 11)) (M + 1) 123 [some (.ref 0), some (.int v1), some (.int v2), some (.int (j_k left)), some (.int v4), some (.int v5), some (.int v6), some (.int (j_k g)), none] [] (ST L p I J) := by
      rw [x_exec, t_134_105]
      by_cases y : 40 < left
      · exact ⟨40, by decide, by decide, by omega, by simp (disch := first | assumption | omega) only [k_add, k_sub, k_mul, k_lt, k_eq, k_lt0, k_0lt, k_eq0, k_nat, k_b0, k_b1, k_z1, k_z0, k_o1, k_o0, Int.reduceEq, Int.reduceLT, Int.reduceLE, Int.reduceAdd, Int.reduceMul, Int.reduceNeg, Int.reduceToNat, Bool.false_eq_true, or_true, true_or, or_false, false_or, and_true, true_and, and_false, false_and, not_true_eq_false, not_false_eq_true, ↓reduceIte, z_0, z_k, s_I, s_J, s_uI, s_uJ, z, y]⟩
      · exact ⟨left, z, by omega, Int.le_refl _, by simp (disch := first | assumption | omega) only [k_add, k_sub, k_mul, k_lt, k_eq, k_lt0, k_0lt, k_eq0, k_nat, k_b0, k_b1, k_z1, k_z0, k_o1, k_o0, Int.reduceEq, Int.reduceLT, Int.reduceLE, Int.reduceAdd, Int.reduceMul, Int.reduceNeg, Int.reduceToNat, Bool.false_eq_true, or_true, true_or, or_false, false_or, and_true, true_and, and_false, false_and, not_true_eq_false, not_false_eq_true, ↓reduceIte, z_0, z_k, s_I, s_J, s_uI, s_uJ, z, y]⟩
    have hg := c_go (L := L) (p := p) (d := d) hx (m := g) (by omega) g40 hN (by omega)
    have rg := goes_rg hx.1.1 g.toNat 0 10000 (a_fl A) hx.1.2.1 (Int.le_refl 0) (by decide)
    obtain ⟨p1, I1, J1, r1, r2, r3⟩ := hg
    dsimp only at r1 r2
    generalize (p_goes (a_gw A) (a_gh A) (a_gr A) (a_gn A) (a_kd A) g.toNat 0 (a_fl A)).1 = v at r1 rg
    have e0 : p_it A g.toNat (a_fl A) 0 = a_fl A 0 + g.toNat := its_0 hx.1.1 hx.1.2.1 g.toNat
    obtain ⟨M', p2, I2, J2, u1, u2, u3, u4⟩ := rg_go2 t M p1 (left - g) I1 J1 (A_fl A (p_it A g.toNat (a_fl A))) (by omega) (by omega) (by omega) (by omega) r2 hN (show p_it A g.toNat (a_fl A) 0 + (left - g) ≤ 10000 by omega)
    refine ⟨M', p2, I2, J2, by omega, ?_, ?_, r3.tr u4⟩
    · have z2 : ¬ v < 0 := by omega
      rw [eg, ← u2, x_exec, t_134_123]
      simp (disch := first | assumption | omega) only [k_add, k_sub, k_mul, k_lt, k_eq, k_lt0, k_0lt, k_eq0, k_nat, k_b0, k_b1, k_z1, k_z0, k_o1, k_o0, Int.reduceEq, Int.reduceLT, Int.reduceLE, Int.reduceAdd, Int.reduceMul, Int.reduceNeg, Int.reduceToNat, Bool.false_eq_true, or_true, true_or, or_false, false_or, and_true, true_and, and_false, false_and, not_true_eq_false, not_false_eq_true, ↓reduceIte, z_0, z_k, s_I, s_J, s_uI, s_uJ, ↓c_oc_0, ↓jc1 r1, z2]
    · have ea : p_it A (left - g).toNat (p_it A g.toNat (a_fl A)) = p_it A left.toNat (a_fl A) := by
        have := its_add (w := a_gw A) (h := a_gh A) (gr := a_gr A) (n := a_gn A) (kd := a_kd A) (f := a_fl A) g.toNat (left - g).toNat
        rw [show g.toNat + (left - g).toNat = left.toNat by omega] at this
        exact this
      rw [← ea]
      exact u3
/-- both rows hold the same cells -/
theorem rg_same {v1 v2 v3 v4 v5 v6 : Int32} : ∀ (t M p : Nat) (k : Int) (I : Nat → Nat → Int32) (J : Nat → Nat → Int64) (A : Ast), 0 ≤ k → k + t = a_gn A → t < M → iX I J A → a_rz A 1 = a_gn A → a_rz A 2 = a_gn A → (∀ i, 0 ≤ i → i < a_gn A → a_rv A 1 i = a_rv A 2 i) → ∃ (M' p' : Nat) (I' : Nat → Nat → Int32) (J' : Nat → Nat → Int64) (x : Int32), M ≤ M' + t + 1 ∧ j_exec k_134 h_134 (j_run (d + 11)) M 175 [some (.ref 0), some (.int v1), some (.int v2), some (.int v3), some (.int v4), some (.int v5), some (.int v6), some (.int (j_k k)), none] [] (ST L p I J) = j_exec k_134 h_134 (j_run (d + 11)) M' 232 [some (.ref 0), some (.int v1), some (.int v2), some (.int v3), some (.int v4), some (.int v5), some (.int v6), some (.int (j_k (a_gn A))), none] [] (ST L p' I' J') ∧ iX I' J' (A_told A x) ∧ frX I I' J J'
  | 0, M, p, k, I, J, A, k0, kt, hM, hx, z1, z2, hv => by
    obtain ⟨M, rfl⟩ : ∃ q, M = q + 1 := ⟨M - 1, by omega⟩
    have n4 := hx.1.1.2.2.2.1
    have e : k = a_gn A := by omega
    have z : ¬ a_gn A < a_gn A := by omega
    have hc := c_count (L := L) (p := p) (d := d) hx (q := 1) (by decide) (by decide)
    have hc : j_run (d + 11) 108 [.ref 0, .int (j_k 1)] (ST L p I J) = some (some (.int (j_k (a_gn A))), ST L p I J) := hc
    refine ⟨M, p, I, J, a_told A, by omega, ?_, hx, frX.rf⟩
    rw [x_exec, t_134_175, e]
    simp (disch := first | assumption | omega) only [k_add, k_sub, k_mul, k_lt, k_eq, k_lt0, k_0lt, k_eq0, k_nat, k_b0, k_b1, k_z1, k_z0, k_o1, k_o0, Int.reduceEq, Int.reduceLT, Int.reduceLE, Int.reduceAdd, Int.reduceMul, Int.reduceNeg, Int.reduceToNat, Bool.false_eq_true, or_true, true_or, or_false, false_or, and_true, true_and, and_false, false_and, not_true_eq_false, not_false_eq_true, ↓reduceIte, z_0, z_k, s_I, s_J, s_uI, s_uJ, ↓c_oc_0, ↓jc1 hc, z]
  | t + 1, M, p, k, I, J, A, k0, kt, hM, hx, z1, z2, hv => by
    obtain ⟨M, rfl⟩ : ∃ q, M = q + 1 := ⟨M - 1, by omega⟩
    have n4 := hx.1.1.2.2.2.1
    have z : k < a_gn A := by omega
    have hc := c_count (L := L) (p := p) (d := d) hx (q := 1) (by decide) (by decide)
    have hc : j_run (d + 11) 108 [.ref 0, .int (j_k 1)] (ST L p I J) = some (some (.int (j_k (a_gn A))), ST L p I J) := hc
    obtain ⟨p1, I1, J1, a1, a2, a3⟩ := c_at (L := L) (p := p) (d := d) hx (r := 1) (i := k) (by decide) (by decide) k0 (by rw [z1]; exact z) (by omega)
    have b1 := c_asked (L := L) (p := p1) (d := d) a2
    obtain ⟨p2, I2, J2, c1, c2, c3⟩ := c_at (L := L) (p := p1) (d := d) a2 (r := 2) (i := k) (by decide) (by decide) k0 (show k < a_rz A 2 by rw [z2]; exact z) (by omega)
    have d1 := c_asked (L := L) (p := p2) (d := d) c2
    have b1 : j_run (d + 11) 105 [.ref 0] (ST L p1 I1 J1) = some (some (.int (a_rv A 1 k)), ST L p1 I1 J1) := b1
    have d1 : j_run (d + 11) 105 [.ref 0] (ST L p2 I2 J2) = some (some (.int (a_rv A 2 k)), ST L p2 I2 J2) := d1
    rw [← hv k k0 z] at d1
    obtain ⟨M', p3, I3, J3, x, u1, u2, u3, u4⟩ := rg_same t M p2 (k + 1) I2 J2 _ (by omega) (by show k + 1 + t = a_gn A; omega) (by omega) c2 z1 z2 hv
    refine ⟨M', p3, I3, J3, x, by omega, ?_, u3, (a3.tr c3).tr u4⟩
    rw [x_exec, t_134_175]
    simp (disch := first | assumption | omega) only [k_add, k_sub, k_mul, k_lt, k_eq, k_lt0, k_0lt, k_eq0, k_nat, k_b0, k_b1, k_z1, k_z0, k_o1, k_o0, Int.reduceEq, Int.reduceLT, Int.reduceLE, Int.reduceAdd, Int.reduceMul, Int.reduceNeg, Int.reduceToNat, Bool.false_eq_true, or_true, true_or, or_false, false_or, and_true, true_and, and_false, false_and, not_true_eq_false, not_false_eq_true, ↓reduceIte, z_0, z_k, s_I, s_J, s_uI, s_uJ, ↓c_oc_0, ↓jc1 hc, z, ↓jc1 a1, ↓jc1 b1, ↓jc1 c1, ↓jc1 d1]
    exact u2
variable {p : Nat} {I : Nat → Nat → Int32} {J : Nat → Nat → Int64} {A : Ast}
theorem lw_rings (hx : iX I J A) (hN : a_N A ≠ 0) (hk : a_kp A 0 = true) (hf : a_kf A 0 = a_fl A) (h1 : a_rz A 1 = -1) (h2 : a_rz A 2 = -1) (hs : a_fl A 0 ≤ 1000) : ∃ p' I' J' B, j_run (d + 12) 134 [.ref 0] (ST L p I J) = some (some (.int (j_k 1)), ST L p' I' J') ∧ iX I' J' B ∧ frX I I' J J' ∧ bq A B ∧ a_fl B = a_fl A := by
  have n0 := hx.1.1.2.2.1
  have n4 := hx.1.1.2.2.2.1
  have hr := x_ring (L := L) (p := p) (d := d + 7) hx
  by_cases w9 : p_ringN A = -9
  · have e : p_ring A = (-9, A) := by
      unfold p_ring
      rw [if_neg hN, if_pos w9]
    rw [e] at hr
    obtain ⟨p1, I1, J1, a1, a2, a3⟩ := hr
    have b1 := c_asked (L := L) (p := p1) (d := d) a2
    refine ⟨p1, I1, J1, A, ?_, a2, a3, ⟨rfl, fun _ _ _ => rfl, rfl, rfl, rfl, rfl, rfl, rfl, rfl, rfl, rfl⟩, rfl⟩
    rw [r_134, t_134_0]
    simp (disch := first | assumption | omega) only [k_add, k_sub, k_mul, k_lt, k_eq, k_lt0, k_0lt, k_eq0, k_nat, k_b0, k_b1, k_z1, k_z0, k_o1, k_o0, Int.reduceEq, Int.reduceLT, Int.reduceLE, Int.reduceAdd, Int.reduceMul, Int.reduceNeg, Int.reduceToNat, Bool.false_eq_true, or_true, true_or, or_false, false_or, and_true, true_and, and_false, false_and, not_true_eq_false, not_false_eq_true, ↓reduceIte, z_0, z_k, s_I, s_J, s_uI, s_uJ, ↓c_oc_0, ↓jc1 a1, ↓jc1 b1]
  · have e : p_ring A = (p_ringN A, A_told A (j_k (p_ringN A - p_again A (p_ringN A)))) := by
      unfold p_ring
      rw [if_neg hN, if_neg w9]
    rw [e] at hr
    obtain ⟨r0, r200, m0, mr, ev, hc, hl1, hl2⟩ := ring_is hx.1 w9
    have hc : ∀ k, 0 ≤ k → k < a_gn A → p_it A (p_again A (p_ringN A)).toNat (a_fl A) (5 + k) = p_it A (p_ringN A).toNat (a_fl A) (5 + k) := hc
    have hl1 : p_it A (p_again A (p_ringN A)).toNat (a_fl A) 1 = p_it A (p_ringN A).toNat (a_fl A) 1 := hl1
    have hl2 : p_it A (p_again A (p_ringN A)).toNat (a_fl A) 2 = p_it A (p_ringN A).toNat (a_fl A) 2 := hl2
    obtain ⟨p1, I1, J1, a1, a2, a3⟩ := hr
    dsimp only at a1 a2
    have b1 := c_asked (L := L) (p := p1) (d := d) a2
    generalize hR : p_ringN A = R at *
    generalize hm : p_again A R = m at *
    have b1 : j_run (d + 11) 105 [.ref 0] (ST L p1 I1 J1) = some (some (.int (j_k (R - m))), ST L p1 I1 J1) := b1
    obtain ⟨M, hM, hM2⟩ : ∃ M, M = 999999 ∧ 10000 < M := ⟨_, rfl, by decide⟩
    obtain ⟨M, rfl⟩ : ∃ q, M = q + 1 := ⟨M - 1, by omega⟩
    have y1 : ¬ R < R - m := by omega
    have y2 : ¬ R - m < 1 := by omega
    have y3 : R - m - (R - m) / 2 * 2 = 0 := by omega
    have y4 : ¬ 200 < R := by omega
    have y5 : ¬ R = -9 := by omega
    have E0 : j_run (d + 12) 134 [.ref 0] (ST L p I J) = j_exec k_134 h_134 (j_run (d + 11)) M 47 [some (.ref 0), some (.int (j_k R)), some (.int (j_k (R - m))), some (.int (j_k m)), none, none, none, none, none] [] (ST L p1 I1 J1) := by
      rw [r_134, t_134_0, ← hM]
      simp (disch := first | assumption | omega) only [k_add, k_sub, k_mul, k_lt, k_eq, k_lt0, k_0lt, k_eq0, k_nat, k_b0, k_b1, k_z1, k_z0, k_o1, k_o0, Int.reduceEq, Int.reduceLT, Int.reduceLE, Int.reduceAdd, Int.reduceMul, Int.reduceNeg, Int.reduceToNat, Bool.false_eq_true, or_true, true_or, or_false, false_or, and_true, true_and, and_false, false_and, not_true_eq_false, not_false_eq_true, ↓reduceIte, z_0, z_k, s_I, s_J, s_uI, s_uJ, ↓c_oc_0, ↓jc1 a1, ↓jc1 b1, k_divp, y1, y2, y3, y4, y5]
      rw [x_exec, t_134_43, k_sub, show R - (R - m) = m by omega]
    obtain ⟨M1, p2, I2, J2, c1, c2, c3, c4⟩ := rg_go1 (L := L) (d := d) (v1 := j_k R) (v2 := j_k (R - m)) m.toNat M p1 m I1 J1 _ m0 (by omega) (by omega) (by omega) a2 hN (show a_fl A 0 + m ≤ 10000 by omega)
    obtain ⟨M1, rfl⟩ : ∃ q, M1 = q + 1 := ⟨M1 - 1, by omega⟩
    obtain ⟨M1, rfl⟩ : ∃ q, M1 = q + 1 := ⟨M1 - 1, by omega⟩
    obtain ⟨p3, I3, J3, d1, d2, d3⟩ := c_where (L := L) (p := p2) (d := d) c3 (r := 1) (by decide) (by decide)
    obtain ⟨p4, I4, J4, e1, e2, e3⟩ := c_last (L := L) (p := p3) (d := d) d2
    have f1 := c_asked (L := L) (p := p4) (d := d) e2
    have e0 : p_it A m.toNat (a_fl A) 0 = a_fl A 0 + m.toNat := its_0 hx.1.1 hx.1.2.1 m.toNat
    have ea : p_it A (R - m).toNat (p_it A m.toNat (a_fl A)) = p_it A R.toNat (a_fl A) := by
      have := its_add (w := a_gw A) (h := a_gh A) (gr := a_gr A) (n := a_gn A) (kd := a_kd A) (f := a_fl A) m.toNat (R - m).toNat
      rw [show m.toNat + (R - m).toNat = R.toNat by omega] at this
      exact this
    obtain ⟨M2, p5, I5, J5, g1, g2, g3, g4⟩ := rg_go2 (L := L) (d := d) (v1 := j_k R) (v2 := j_k (R - m)) (v4 := j_k (p_lost (a_gn A) (p_it A m.toNat (a_fl A)))) (v5 := j_k (p_it A m.toNat (a_fl A) 1)) (v6 := j_k (p_it A m.toNat (a_fl A) 2)) (R - m).toNat M1 p4 (R - m) I4 J4 _ (by omega) (by omega) (by omega) (by omega) e2 hN (show p_it A m.toNat (a_fl A) 0 + (R - m) ≤ 10000 by omega)
    obtain ⟨p6, I6, J6, i1, i2, i3⟩ := c_where (L := L) (p := p5) (d := d) g3 (r := 2) (by decide) (by decide)
    obtain ⟨p7, I7, J7, j1, j2, j3⟩ := c_last (L := L) (p := p6) (d := d) i2
    have k1 := c_asked (L := L) (p := p7) (d := d) j2
    have el : p_lost (a_gn A) (p_it A R.toNat (a_fl A)) = p_lost (a_gn A) (p_it A m.toNat (a_fl A)) := (lost_cg hc).symm
    have d1 : j_run (d + 11) 88 [.ref 0, .int (j_k 1)] (ST L p2 I2 J2) = some (some (.int (j_k (p_lost (a_gn A) (p_it A m.toNat (a_fl A))))), ST L p3 I3 J3) := d1
    have e1 : j_run (d + 11) 83 [.ref 0] (ST L p3 I3 J3) = some (some (.int (j_k (p_it A m.toNat (a_fl A) 1))), ST L p4 I4 J4) := e1
    have f1 : j_run (d + 11) 105 [.ref 0] (ST L p4 I4 J4) = some (some (.int (j_k (p_it A m.toNat (a_fl A) 2))), ST L p4 I4 J4) := f1
    have i1 : j_run (d + 11) 88 [.ref 0, .int (j_k 2)] (ST L p5 I5 J5) = some (some (.int (j_k (p_lost (a_gn A) (p_it A (R - m).toNat (p_it A m.toNat (a_fl A)))))), ST L p6 I6 J6) := i1
    have j1 : j_run (d + 11) 83 [.ref 0] (ST L p6 I6 J6) = some (some (.int (j_k (p_it A (R - m).toNat (p_it A m.toNat (a_fl A)) 1))), ST L p7 I7 J7) := j1
    have k1 : j_run (d + 11) 105 [.ref 0] (ST L p7 I7 J7) = some (some (.int (j_k (p_it A (R - m).toNat (p_it A m.toNat (a_fl A)) 2))), ST L p7 I7 J7) := k1
    rw [ea, el] at i1
    rw [ea, ← hl1] at j1
    rw [ea, ← hl2] at k1
    have hz1 : f2 (f2 (a_rz A) 1 (a_gn A)) 2 (a_gn A) 1 = a_gn A := by
      unfold f2
      rw [if_neg (by decide), if_pos rfl]
    have hz2 : f2 (f2 (a_rz A) 1 (a_gn A)) 2 (a_gn A) 2 = a_gn A := if_pos rfl
    have hrv : ∀ i, 0 ≤ i → i < a_gn A → f2 (f2 (a_rv A) 1 (p_rw (a_gn A) (p_it A m.toNat (a_fl A)))) 2 (p_rw (a_gn A) (p_it A (R - m).toNat (p_it A m.toNat (a_fl A)))) 1 i = f2 (f2 (a_rv A) 1 (p_rw (a_gn A) (p_it A m.toNat (a_fl A)))) 2 (p_rw (a_gn A) (p_it A (R - m).toNat (p_it A m.toNat (a_fl A)))) 2 i := fun i i0 i1 => by
      unfold f2
      rw [if_neg (by decide), if_pos rfl, if_pos rfl, ea]
      show (if i < a_gn A then j_k (p_it A m.toNat (a_fl A) (5 + i)) else 0) = if i < a_gn A then j_k (p_it A R.toNat (a_fl A) (5 + i)) else 0
      rw [hc i i0 i1]
    obtain ⟨M2, rfl⟩ : ∃ q, M2 = q + 1 := ⟨M2 - 1, by omega⟩
    obtain ⟨M2, rfl⟩ : ∃ q, M2 = q + 1 := ⟨M2 - 1, by omega⟩
    obtain ⟨M2, rfl⟩ : ∃ q, M2 = q + 1 := ⟨M2 - 1, by omega⟩
    obtain ⟨M3, p8, I8, J8, x, s1, s2, s3, s4⟩ := rg_same (L := L) (d := d) (v1 := j_k R) (v2 := j_k (R - m)) (v3 := j_k 0) (v4 := j_k (p_lost (a_gn A) (p_it A m.toNat (a_fl A)))) (v5 := j_k (p_it A m.toNat (a_fl A) 1)) (v6 := j_k (p_it A m.toNat (a_fl A) 2)) (a_gn A).toNat M2 p7 0 I7 J7 _ (Int.le_refl 0) (by show 0 + ((a_gn A).toNat : Int) = a_gn A; omega) (by omega) j2 hz1 hz2 hrv
    obtain ⟨M3, rfl⟩ : ∃ q, M3 = q + 1 := ⟨M3 - 1, by omega⟩
    obtain ⟨p9, I9, J9, t1, t2, t3⟩ := c_tear (L := L) (p := p8) (d := d) s3 (r := 1) (by decide) (by decide) (show f2 (f2 (a_rz A) 1 (a_gn A)) 2 (a_gn A) 1 ≠ -1 by rw [hz1]; omega)
    obtain ⟨pa, Ia, Ja, u1, u2, u3⟩ := c_tear (L := L) (p := p9) (d := d) t2 (r := 2) (by decide) (by decide) (show f2 (f2 (f2 (a_rz A) 1 (a_gn A)) 2 (a_gn A)) 1 (-1) 2 ≠ -1 by
      rw [show f2 (f2 (f2 (a_rz A) 1 (a_gn A)) 2 (a_gn A)) 1 (-1) 2 = a_gn A from rfl]; omega)
    obtain ⟨pb, Ib, Jb, v1, v2, v3⟩ := c_on (L := L) (p := pa) (d := d) u2 hk
    have v1 : j_run (d + 11) 91 [.ref 0, .int (j_k 0)] (ST L pa Ia Ja) = some (some (.int (j_k (a_kf A 0 0))), ST L pb Ib Jb) := v1
    have hf0 : 0 ≤ a_kf A 0 0 ∧ a_kf A 0 0 ≤ 1000 := by
      rw [hf]
      exact ⟨hx.1.2.1.2.2.2.2.2.1, hs⟩
    have q1 : ¬ a_kf A 0 0 < 0 := by omega
    have q2 : ¬ (0 : Int) < 0 := by decide
    refine ⟨pb, Ib, Jb, _, ?_, v2, (((a3.tr c4).tr (d3.tr e3)).tr ((g4.tr i3).tr j3)).tr ((s4.tr t3).tr (u3.tr v3)), ⟨?_, fun r x1 x2 => ?_, rfl, rfl, rfl, rfl, rfl, rfl, rfl, rfl, rfl⟩, hf⟩
    · rw [E0, c2, x_exec, t_134_47]
      simp (disch := first | assumption | omega) only [k_add, k_sub, k_mul, k_lt, k_eq, k_lt0, k_0lt, k_eq0, k_nat, k_b0, k_b1, k_z1, k_z0, k_o1, k_o0, Int.reduceEq, Int.reduceLT, Int.reduceLE, Int.reduceAdd, Int.reduceMul, Int.reduceNeg, Int.reduceToNat, Bool.false_eq_true, or_true, true_or, or_false, false_or, and_true, true_and, and_false, false_and, not_true_eq_false, not_false_eq_true, ↓reduceIte, z_0, z_k, s_I, s_J, s_uI, s_uJ, q2]
      rw [x_exec, t_134_84]
      simp (disch := first | assumption | omega) only [k_add, k_sub, k_mul, k_lt, k_eq, k_lt0, k_0lt, k_eq0, k_nat, k_b0, k_b1, k_z1, k_z0, k_o1, k_o0, Int.reduceEq, Int.reduceLT, Int.reduceLE, Int.reduceAdd, Int.reduceMul, Int.reduceNeg, Int.reduceToNat, Bool.false_eq_true, or_true, true_or, or_false, false_or, and_true, true_and, and_false, false_and, not_true_eq_false, not_false_eq_true, ↓reduceIte, z_0, z_k, s_I, s_J, s_uI, s_uJ, ↓c_oc_0, ↓jc1 d1, ↓jc1 e1, ↓jc1 f1]
      rw [g2, x_exec, t_134_105]
      simp (disch := first | assumption | omega) only [k_add, k_sub, k_mul, k_lt, k_eq, k_lt0, k_0lt, k_eq0, k_nat, k_b0, k_b1, k_z1, k_z0, k_o1, k_o0, Int.reduceEq, Int.reduceLT, Int.reduceLE, Int.reduceAdd, Int.reduceMul, Int.reduceNeg, Int.reduceToNat, Bool.false_eq_true, or_true, true_or, or_false, false_or, and_true, true_and, and_false, false_and, not_true_eq_false, not_false_eq_true, ↓reduceIte, z_0, z_k, s_I, s_J, s_uI, s_uJ, q2]
      rw [x_exec, t_134_142]
      simp (disch := first | assumption | omega) only [k_add, k_sub, k_mul, k_lt, k_eq, k_lt0, k_0lt, k_eq0, k_nat, k_b0, k_b1, k_z1, k_z0, k_o1, k_o0, Int.reduceEq, Int.reduceLT, Int.reduceLE, Int.reduceAdd, Int.reduceMul, Int.reduceNeg, Int.reduceToNat, Bool.false_eq_true, or_true, true_or, or_false, false_or, and_true, true_and, and_false, false_and, not_true_eq_false, not_false_eq_true, ↓reduceIte, z_0, z_k, s_I, s_J, s_uI, s_uJ, ↓c_oc_0, ↓jc1 i1, ↓jc1 j1, ↓jc1 k1]
      rw [x_exec, t_134_172, s2, x_exec, t_134_232]
      simp (disch := first | assumption | omega) only [k_add, k_sub, k_mul, k_lt, k_eq, k_lt0, k_0lt, k_eq0, k_nat, k_b0, k_b1, k_z1, k_z0, k_o1, k_o0, Int.reduceEq, Int.reduceLT, Int.reduceLE, Int.reduceAdd, Int.reduceMul, Int.reduceNeg, Int.reduceToNat, Bool.false_eq_true, or_true, true_or, or_false, false_or, and_true, true_and, and_false, false_and, not_true_eq_false, not_false_eq_true, ↓reduceIte, z_0, z_k, s_I, s_J, s_uI, s_uJ, ↓c_oc_0, ↓jc1 t1, ↓jc1 u1, ↓jc1 v1, q1]
    · show f2 (f2 (f2 (f2 (a_rz A) 1 (a_gn A)) 2 (a_gn A)) 1 (-1)) 2 (-1) = a_rz A
      funext r
      unfold f2
      by_cases y1 : r = 2
      · rw [if_pos y1, y1, h2]
      · rw [if_neg y1]
        by_cases y2 : r = 1
        · rw [if_pos y2, y2, h1]
        · rw [if_neg y2, if_neg y1, if_neg y2]
    · show f2 (f2 (a_rv A) 1 _) 2 _ r = a_rv A r
      unfold f2
      rw [if_neg x2, if_neg x1]
end RING7
