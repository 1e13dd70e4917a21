/-! ===== the law's drives, whole ===== -/
section DRIVE9
variable {L d : Nat} {p : Nat} {I : Nat → Nat → Int32} {J : Nat → Nat → Int64} {A : Ast}
theorem bit_test {s k : Int} (s0 : 0 ≤ s) (s1 : s < 16) (k0 : 0 ≤ k) (k1 : k < 4) (h : s / 2 ^ k.toNat % 2 = 1) : ((j_k s >>> (j_k k &&& 31)) &&& j_k 1) = j_k 1 := by
  have hp := pow_pos k
  have h0 : 0 ≤ s / 2 ^ k.toNat := Int.ediv_nonneg s0 (by omega)
  have h1 : s / 2 ^ k.toNat ≤ s := Int.ediv_le_self _ s0
  rw [k_shr s0 (by omega) k0 (by omega), k_par h0 (by omega), h]
theorem dr_two {v2 v3 : Int32} (hx : iX I J A) (hN : a_N A ≠ 0) (hk : a_kp A 0 = true) (hf : a_kf A 0 = a_fl A) (h1 : a_rz A 1 = -1) (hs : a_fl A 0 ≤ 1000) {M : Nat} (hM : 10 < M) : ∃ (p' : Nat) (I' : Nat → Nat → Int32) (J' : Nat → Nat → Int64) (B : Ast), j_exec k_135 h_135 (j_run (d + 11)) M 161 [some (.ref 0), some (.int (j_k (a_gn A))), some (.int v2), some (.int v3), none, none, none, none, none, none] [] (ST L p I J) = some (some (.int (j_k 1)), ST L p' I' J') ∧ iX I' J' B ∧ frX I I' J J' ∧ bq A B ∧ a_fl B = a_fl A := by
  have n0 := hx.1.1.2.2.1
  have n4 := hx.1.1.2.2.2.1
  have hN30 := (bd_N hx.1.1).2.1
  have s0 := hx.1.2.1.2.2.2.2.2.1
  obtain ⟨M, rfl⟩ : ∃ q, M = q + 1 := ⟨M - 1, by omega⟩
  obtain ⟨M, rfl⟩ : ∃ q, M = q + 1 := ⟨M - 1, by omega⟩
  obtain ⟨M, rfl⟩ : ∃ q, M = q + 1 := ⟨M - 1, by omega⟩
  obtain ⟨M, rfl⟩ : ∃ q, M = q + 1 := ⟨M - 1, by omega⟩
  have hg := x_gather (L := L) (p := p) (d := d + 4) hx
  by_cases g9 : (p_gatS A).1 = -9
  · have e : p_gather A = (-9, A) := by
      unfold p_gather
      rw [if_pos g9]
    rw [e] at hg
    obtain ⟨p1, I1, J1, a1, a2, a3⟩ := hg
    have a1 : j_run (d + 11) 94 [.ref 0] (ST L p I J) = some (some (.int (j_k (-9))), ST L p1 I1 J1) := a1
    have b1 := c_asked (L := L) (p := p1) (d := d) a2
    have c1 : j_run (d + 11) 108 [.ref 0, .int (j_k 2)] (ST L p1 I1 J1) = some (some (.int (j_k (p_lost (a_gn A) (a_fl A)))), ST L p1 I1 J1) := c_count a2 (q := 2) (by decide) (by decide)
    obtain ⟨p2, I2, J2, B, u1, u2, u3, u4, u5⟩ := dr_end (L := L) (d := d) (p := p1) (v2 := v2) (v3 := v3) (v4 := j_k (-9)) (v5 := a_told A) a2 h1 (M := M + 1 + 1)
    refine ⟨p2, I2, J2, B, ?_, u2, a3.tr u3, u4, u5⟩
    rw [x_exec, t_135_161]
    simp (disch := first | assumption | omega) only [k_add, k_sub, k_mul, k_lt, k_eq, k_lt0, k_0lt, k_eq0, k_nat, k_b0, k_b1, k_z1, k_z0, k_o1, k_o0, Int.reduceEq, Int.reduceLT, Int.reduceLE, Int.reduceAdd, Int.reduceMul, Int.reduceNeg, Int.reduceToNat, Bool.false_eq_true, or_true, true_or, or_false, false_or, and_true, true_and, and_false, false_and, not_true_eq_false, not_false_eq_true, ↓reduceIte, z_0, z_k, s_I, s_J, s_uI, s_uJ, ↓c_oc_0, ↓jc1 a1, ↓jc1 b1, ↓jc1 c1]
    exact u1
  · have e : p_gather A = ((p_gatS A).1, A_told A (j_k (p_gatS A).2)) := by
      unfold p_gather
      rw [if_neg g9]
    rw [e] at hg
    obtain ⟨g0, g1, f', hd, hl, hap⟩ := gat_is g9
    generalize (p_gatS A).1 = g at *
    rw [hap] at hg
    obtain ⟨p1, I1, J1, a1, a2, a3⟩ := hg
    have a1 : j_run (d + 11) 94 [.ref 0] (ST L p I J) = some (some (.int (j_k g)), ST L p1 I1 J1) := a1
    have b1 : j_run (d + 11) 105 [.ref 0] (ST L p1 I1 J1) = some (some (.int (j_k (p_apart (a_gw A) (a_gn A) f'))), ST L p1 I1 J1) := c_asked (L := L) (p := p1) (d := d) a2
    have c1 : j_run (d + 11) 108 [.ref 0, .int (j_k 2)] (ST L p1 I1 J1) = some (some (.int (j_k (p_lost (a_gn A) (a_fl A)))), ST L p1 I1 J1) := c_count a2 (q := 2) (by decide) (by decide)
    obtain ⟨s, t, p2, I2, J2, p3, I3, J3, x, q0, q30, t2, t40, d1, e1, e2, e3, e4, e5⟩ := c_drive (L := L) (d := d) (p := p1) a2 hN g0 g1 hd (by show a_fl A 0 ≤ 9960; omega)
    have hap2 := x_apart (L := L) (p := p3) (d := d + 8) e2
    obtain ⟨p4, I4, J4, i1, i2, i3⟩ := hap2
    have i1 : j_run (d + 11) 89 [.ref 0] (ST L p3 I3 J3) = some (some (.int (j_k (p_apart (a_gw A) (a_gn A) f'))), ST L p4 I4 J4) := i1
    have i2 : iX I4 J4 (A_told (A_fl A f') x) := i2
    have j1 : j_run (d + 11) 108 [.ref 0, .int (j_k 2)] (ST L p4 I4 J4) = some (some (.int (j_k (p_lost (a_gn A) f'))), ST L p4 I4 J4) := c_count i2 (q := 2) (by decide) (by decide)
    obtain ⟨p5, I5, J5, l1, l2, l3⟩ := c_where (L := L) (p := p4) (d := d) i2 (r := 1) (by decide) (by decide)
    have l1 : j_run (d + 11) 88 [.ref 0, .int (j_k 1)] (ST L p4 I4 J4) = some (some (.int (j_k (p_lost (a_gn A) f'))), ST L p5 I5 J5) := l1
    have m1 : j_run (d + 11) 108 [.ref 0, .int (j_k 2)] (ST L p5 I5 J5) = some (some (.int (j_k (p_lost (a_gn A) f'))), ST L p5 I5 J5) := c_count l2 (q := 2) (by decide) (by decide)
    obtain ⟨p6, I6, J6, o1, o2, o3⟩ := c_on (L := L) (p := p5) (d := d) l2 hk
    have o1 : j_run (d + 11) 91 [.ref 0, .int (j_k 0)] (ST L p5 I5 J5) = some (some (.int (j_k (a_kf A 0 0))), ST L p6 I6 J6) := o1
    have o2 : iX I6 J6 (A_told (A_fl (A_rv (A_rz A (f2 (a_rz A) 1 (a_gn A))) (f2 (a_rv A) 1 (p_rw (a_gn A) f'))) (a_kf A 0)) x) := o2
    rw [hf] at o1 o2
    have ll0 := lost_rg (n := a_gn A) (f := f') n0
    have ll1 := lost_rg (n := a_gn A) (f := a_fl A) n0
    have y1 : ¬ g < 0 := by omega
    have y2 : ¬ s < 0 := by omega
    have y3 : ¬ t < 2 := by omega
    have y4 : ¬ p_lost (a_gn A) (a_fl A) < p_lost (a_gn A) f' := by omega
    have y5 : ¬ a_fl A 0 < 0 := by omega
    have em : g - g / 4 * 4 = g % 4 := by omega
    have E1 : j_exec k_135 h_135 (j_run (d + 11)) (M + 1 + 1 + 1 + 1) 161 [some (.ref 0), some (.int (j_k (a_gn A))), some (.int v2), some (.int v3), none, none, none, none, none, none] [] (ST L p I J) = j_exec k_135 h_135 (j_run (d + 11)) (M + 1 + 1 + 1) 250 [some (.ref 0), some (.int (j_k (a_gn A))), some (.int v2), some (.int v3), some (.int (j_k g)), some (.int (j_k (p_apart (a_gw A) (a_gn A) f'))), some (.int (j_k (p_lost (a_gn A) (a_fl A)))), none, none, none] [] (ST L p6 I6 J6) := by
      rw [x_exec, t_135_161]
      simp (disch := first | assumption | omega) only [k_add, k_sub, k_mul, k_lt, k_eq, k_lt0, k_0lt, k_eq0, k_nat, k_b0, k_b1, k_z1, k_z0, k_o1, k_o0, Int.reduceEq, Int.reduceLT, Int.reduceLE, Int.reduceAdd, Int.reduceMul, Int.reduceNeg, Int.reduceToNat, Bool.false_eq_true, or_true, true_or, or_false, false_or, and_true, true_and, and_false, false_and, not_true_eq_false, not_false_eq_true, ↓reduceIte, z_0, z_k, s_I, s_J, s_uI, s_uJ, ↓c_oc_0, ↓jc1 a1, ↓jc1 b1, ↓jc1 c1, y1, k_divp, em, ↓jc1 d1, y2, ↓jc1 e1, y3, ↓jc1 i1, ↓jc1 j1, y4, ↓jc1 l1, ↓jc1 m1, ↓jc1 o1, y5]
    -- dawn of what the drive leads to
    have hn : ∀ x, p_need 1 (A_told (A_fl (A_rv (A_rz A (f2 (a_rz A) 1 (a_gn A))) (f2 (a_rv A) 1 (p_rw (a_gn A) f'))) (a_fl A)) x) = (0, A_told (A_fl (A_rv (A_rz A (f2 (a_rz A) 1 (a_gn A))) (f2 (a_rv A) 1 (p_rw (a_gn A) f'))) (a_fl A)) x) := fun x => need6_0 (by decide) n0 (show f2 (a_rz A) 1 (a_gn A) 1 = a_gn A from f2_pos) hN30 (fun i i0 i1 => ⟨f' (5 + i), by
      show f2 (a_rv A) 1 (p_rw (a_gn A) f') 1 i = _
      rw [f2_pos]
      exact rw_row i1, e5.1 i i0 i1⟩)
    have hsr := few_1 (drv := p_drive (a_gw A) (a_gh A) (a_gr A) (a_gn A) (a_kd A)) (m4 := (4 * a_gn A).toNat) (want := p_at (a_gn A) (f2 (a_rv A) 1 (p_rw (a_gn A) f') 1)) (f := a_fl A) (f' := f') (c := g) (by omega) g0 (by omega) hd (at_self (fun k k0 k1 => by
      rw [f2_pos]
      exact (rw_row k1).symm))
    have hsr' : (sr (A_told (A_fl (A_rv (A_rz A (f2 (a_rz A) 1 (a_gn A))) (f2 (a_rv A) 1 (p_rw (a_gn A) f'))) (a_fl A)) x)).1 = 0 ∨ ((sr (A_told (A_fl (A_rv (A_rz A (f2 (a_rz A) 1 (a_gn A))) (f2 (a_rv A) 1 (p_rw (a_gn A) f'))) (a_fl A)) x)).1 = 1 ∧ okS ((4 * a_gn A).toNat : Int) (sr (A_told (A_fl (A_rv (A_rz A (f2 (a_rz A) 1 (a_gn A))) (f2 (a_rv A) 1 (p_rw (a_gn A) f'))) (a_fl A)) x)).2 ∧ seen g (sr (A_told (A_fl (A_rv (A_rz A (f2 (a_rz A) 1 (a_gn A))) (f2 (a_rv A) 1 (p_rw (a_gn A) f'))) (a_fl A)) x)).2) := hsr
    obtain ⟨p7, I7, J7, r1, r2, r3⟩ := c_dawn (L := L) (p := p6) (d := d) o2 (hn x) (by rcases hsr' with z | z <;> omega)
    have E2 : ∃ (p8 : Nat) (I8 : Nat → Nat → Int32) (J8 : Nat → Nat → Int64) (x' : Int32) (v7 : Int32), j_exec k_135 h_135 (j_run (d + 11)) (M + 1 + 1 + 1) 250 [some (.ref 0), some (.int (j_k (a_gn A))), some (.int v2), some (.int v3), some (.int (j_k g)), some (.int (j_k (p_apart (a_gw A) (a_gn A) f'))), some (.int (j_k (p_lost (a_gn A) (a_fl A)))), none, none, none] [] (ST L p6 I6 J6) = j_exec k_135 h_135 (j_run (d + 11)) (M + 1 + 1) 317 [some (.ref 0), some (.int (j_k (a_gn A))), some (.int v2), some (.int v3), some (.int (j_k g)), some (.int (j_k (p_apart (a_gw A) (a_gn A) f'))), some (.int (j_k (p_lost (a_gn A) (a_fl A)))), some (.int v7), none, none] [] (ST L p8 I8 J8) ∧ iX I8 J8 (A_told (A_fl (A_rv (A_rz A (f2 (a_rz A) 1 (a_gn A))) (f2 (a_rv A) 1 (p_rw (a_gn A) f'))) (a_fl A)) x') ∧ frX I6 I8 J6 J8 := by
      rcases hsr' with z | ⟨z, zo, zs⟩
      · have r1 : j_run (d + 11) 102 [.ref 0, .int (j_k 1)] (ST L p6 I6 J6) = some (some (.int (j_k (sr (A_told (A_fl (A_rv (A_rz A (f2 (a_rz A) 1 (a_gn A))) (f2 (a_rv A) 1 (p_rw (a_gn A) f'))) (a_fl A)) x)).1)), ST L p7 I7 J7) := r1
        rw [z] at r1
        refine ⟨p7, I7, J7, _, j_k 0, ?_, r2, r3⟩
        rw [x_exec, t_135_250]
        simp (disch := first | assumption | omega) only [k_add, k_sub, k_mul, k_lt, k_eq, k_lt0, k_0lt, k_eq0, k_nat, k_b0, k_b1, k_z1, k_z0, k_o1, k_o0, Int.reduceEq, Int.reduceLT, Int.reduceLE, Int.reduceAdd, Int.reduceMul, Int.reduceNeg, Int.reduceToNat, Bool.false_eq_true, or_true, true_or, or_false, false_or, and_true, true_and, and_false, false_and, not_true_eq_false, not_false_eq_true, ↓reduceIte, z_0, z_k, s_I, s_J, s_uI, s_uJ, ↓c_oc_0, ↓jc1 r1]
      · have r1 : j_run (d + 11) 102 [.ref 0, .int (j_k 1)] (ST L p6 I6 J6) = some (some (.int (j_k (sr (A_told (A_fl (A_rv (A_rz A (f2 (a_rz A) 1 (a_gn A))) (f2 (a_rv A) 1 (p_rw (a_gn A) f'))) (a_fl A)) x)).1)), ST L p7 I7 J7) := r1
        rw [z] at r1
        obtain ⟨p8, I8, J8, w1, w2, w3⟩ := c_who (L := L) (p := p7) (d := d) r2 (hn _) (by show (sr (A_told (A_fl (A_rv (A_rz A (f2 (a_rz A) 1 (a_gn A))) (f2 (a_rv A) 1 (p_rw (a_gn A) f'))) (a_fl A)) x)).1 ≠ -9; rw [z]; decide) (by show (sr (A_told (A_fl (A_rv (A_rz A (f2 (a_rz A) 1 (a_gn A))) (f2 (a_rv A) 1 (p_rw (a_gn A) f'))) (a_fl A)) x)).1 ≠ 0; rw [z]; decide)
        have w4 := c_asked (L := L) (p := p8) (d := d) w2
        obtain ⟨-, -, -, b0, b16, c0, c16⟩ := zo
        obtain ⟨-, zb, zw⟩ := zs
        have w1 : j_run (d + 11) 103 [.ref 0, .int (j_k 1)] (ST L p7 I7 J7) = some (some (.int (j_k (sr (A_told (A_fl (A_rv (A_rz A (f2 (a_rz A) 1 (a_gn A))) (f2 (a_rv A) 1 (p_rw (a_gn A) f'))) (a_fl A)) x)).2.2.2.2.1)), ST L p8 I8 J8) := w1
        have w4 : j_run (d + 11) 105 [.ref 0] (ST L p8 I8 J8) = some (some (.int (j_k (sr (A_told (A_fl (A_rv (A_rz A (f2 (a_rz A) 1 (a_gn A))) (f2 (a_rv A) 1 (p_rw (a_gn A) f'))) (a_fl A)) x)).2.2.2.2.2)), ST L p8 I8 J8) := w4
        generalize (sr (A_told (A_fl (A_rv (A_rz A (f2 (a_rz A) 1 (a_gn A))) (f2 (a_rv A) 1 (p_rw (a_gn A) f'))) (a_fl A)) x)).2.2.2.2.1 = b at w1 b0 b16 zb
        refine ⟨p8, I8, J8, _, j_k 1, ?_, w2, r3.tr w3⟩
        generalize (sr (A_told (A_fl (A_rv (A_rz A (f2 (a_rz A) 1 (a_gn A))) (f2 (a_rv A) 1 (p_rw (a_gn A) f'))) (a_fl A)) x)).2.2.2.2.2 = c at w4 c0 c16 zw
        have hb := bit_test b0 b16 (k := g / 4) (by omega) (by omega) zb
        have hc := bit_test c0 c16 (k := g % 4) (by omega) (by omega) zw
        rw [x_exec, t_135_250]
        simp (disch := first | assumption | omega) only [k_add, k_sub, k_mul, k_lt, k_eq, k_lt0, k_0lt, k_eq0, k_nat, k_b0, k_b1, k_z1, k_z0, k_o1, k_o0, Int.reduceEq, Int.reduceLT, Int.reduceLE, Int.reduceAdd, Int.reduceMul, Int.reduceNeg, Int.reduceToNat, Bool.false_eq_true, or_true, true_or, or_false, false_or, and_true, true_and, and_false, false_and, not_true_eq_false, not_false_eq_true, ↓reduceIte, z_0, z_k, s_I, s_J, s_uI, s_uJ, ↓c_oc_0, ↓jc1 r1, ↓jc1 w1, ↓jc1 w4, k_divp, em, hb, hc]
    obtain ⟨p8, I8, J8, x', v7, E2, w2, w3⟩ := E2
    obtain ⟨p9, I9, J9, z1, z2, z3⟩ := c_tear (L := L) (p := p8) (d := d) w2 (r := 1) (by decide) (by decide) (by show f2 (a_rz A) 1 (a_gn A) 1 ≠ -1; rw [f2_pos]; omega)
    obtain ⟨pa, Ia, Ja, B, u1, u2, u3, u4, u5⟩ := dr_end (L := L) (d := d) (p := p9) (v2 := v2) (v3 := v3) (v4 := j_k g) (v5 := j_k (p_apart (a_gw A) (a_gn A) f')) z2 (show f2 (f2 (a_rz A) 1 (a_gn A)) 1 (-1) 1 = -1 from f2_pos) (M := M)
    refine ⟨pa, Ia, Ja, B, ?_, u2, (a3.tr e3).tr ((i3.tr l3).tr (o3.tr (w3.tr (z3.tr u3)))), ?_, u5⟩
    · rw [E1, E2, x_exec, t_135_317]
      simp (disch := first | assumption | omega) only [k_add, k_sub, k_mul, k_lt, k_eq, k_lt0, k_0lt, k_eq0, k_nat, k_b0, k_b1, k_z1, k_z0, k_o1, k_o0, Int.reduceEq, Int.reduceLT, Int.reduceLE, Int.reduceAdd, Int.reduceMul, Int.reduceNeg, Int.reduceToNat, Bool.false_eq_true, or_true, true_or, or_false, false_or, and_true, true_and, and_false, false_and, not_true_eq_false, not_false_eq_true, ↓reduceIte, z_0, z_k, s_I, s_J, s_uI, s_uJ, ↓c_oc_0, ↓jc1 z1]
      exact u1
    · refine bq.tr ?_ u4
      refine ⟨?_, fun r x1 x2 => ?_, rfl, rfl, rfl, rfl, rfl, rfl, rfl, rfl, rfl⟩
      · show f2 (f2 (a_rz A) 1 (a_gn A)) 1 (-1) = a_rz A
        funext r
        unfold f2
        by_cases y2 : r = 1
        · rw [if_pos y2, y2, h1]
        · rw [if_neg y2, if_neg y2]
      · show f2 (a_rv A) 1 _ r = a_rv A r
        exact if_neg x1
/-- the law's drives, whole -/
theorem lw_drives (hx : iX I J A) (hN : a_N A ≠ 0) (hk : a_kp A 0 = true) (hf : a_kf A 0 = a_fl A) (h1 : a_rz A 1 = -1) (hs : a_fl A 0 ≤ 1000) : ∃ (p' : Nat) (I' : Nat → Nat → Int32) (J' : Nat → Nat → Int64) (B : Ast), j_run (d + 12) 135 [.ref 0, .int (j_k (a_gn A))] (ST L p I J) = some (some (.int (j_k 1)), ST L p' I' J') ∧ iX I' J' B ∧ frX I I' J J' ∧ bq A B ∧ a_fl B = a_fl A := by
  have n0 := hx.1.1.2.2.1
  have n4 := hx.1.1.2.2.2.1
  have s0 := hx.1.2.1.2.2.2.2.2.1
  obtain ⟨M, hM, hM2⟩ : ∃ M, M = 999999 ∧ 10000 < M := ⟨_, rfl, by decide⟩
  obtain ⟨M, rfl⟩ : ∃ q, M = q + 1 := ⟨M - 1, by omega⟩
  have hF := x_fewest (L := L) (p := p) (d := d) hx
  by_cases f9 : (p_srch A (a_kd A) (p_safe (a_gr A) (a_gn A)) 3).1 = -9
  · have e : p_fewest A = (-9, A) := by
      unfold p_fewest
      rw [if_neg hN, if_pos f9]
    rw [e] at hF
    obtain ⟨p1, I1, J1, a1, a2, a3⟩ := hF
    have a1 : j_run (d + 11) 92 [.ref 0] (ST L p I J) = some (some (.int (j_k (-9))), ST L p1 I1 J1) := a1
    have b1 := c_asked (L := L) (p := p1) (d := d) a2
    obtain ⟨p2, I2, J2, B, u1, u2, u3, u4, u5⟩ := dr_two (L := L) (d := d) (p := p1) (v2 := j_k (-9)) (v3 := a_told A) a2 hN hk hf h1 hs (M := M + 1) (by omega)
    refine ⟨p2, I2, J2, B, ?_, u2, a3.tr u3, u4, u5⟩
    rw [r_135, t_135_0, ← hM]
    simp (disch := first | assumption | omega) only [k_add, k_sub, k_mul, k_lt, k_eq, k_lt0, k_0lt, k_eq0, k_nat, k_b0, k_b1, k_z1, k_z0, k_o1, k_o0, Int.reduceEq, Int.reduceLT, Int.reduceLE, Int.reduceAdd, Int.reduceMul, Int.reduceNeg, Int.reduceToNat, Bool.false_eq_true, or_true, true_or, or_false, false_or, and_true, true_and, and_false, false_and, not_true_eq_false, not_false_eq_true, ↓reduceIte, z_0, z_k, s_I, s_J, s_uI, s_uJ, ↓c_oc_0, ↓jc1 a1, ↓jc1 b1]
    exact u1
  · have e : p_fewest A = ((p_srch A (a_kd A) (p_safe (a_gr A) (a_gn A)) 3).1, A_told A (j_k (p_srch A (a_kd A) (p_safe (a_gr A) (a_gn A)) 3).2.2.2.1)) := by
      unfold p_fewest
      rw [if_neg hN, if_neg f9]
    rw [e] at hF
    obtain ⟨q, -, q3, eq, f', hp, hw⟩ := few_hit 3 0 f9
    have eq : (p_srch A (a_kd A) (p_safe (a_gr A) (a_gn A)) 3).1 = (q : Int) := eq
    obtain ⟨c, ec⟩ : ∃ c, (p_srch A (a_kd A) (p_safe (a_gr A) (a_gn A)) 3).2.2.2.1 = c := ⟨_, rfl⟩
    have hp : path (p_drive (a_gw A) (a_gh A) (a_gr A) (a_gn A) (a_kd A)) (4 * a_gn A).toNat q (a_fl A) 0 f' (p_srch A (a_kd A) (p_safe (a_gr A) (a_gn A)) 3).2.2.2.1 := hp
    rw [eq, ec] at hF
    rw [ec] at hp
    obtain ⟨p1, I1, J1, a1, a2, a3⟩ := hF
    have a1 : j_run (d + 11) 92 [.ref 0] (ST L p I J) = some (some (.int (j_k q)), ST L p1 I1 J1) := a1
    have b1 : j_run (d + 11) 105 [.ref 0] (ST L p1 I1 J1) = some (some (.int (j_k c)), ST L p1 I1 J1) := c_asked (L := L) (p := p1) (d := d) a2
    obtain ⟨M1, p2, I2, J2, x, c1, c2, c3, c4⟩ := dr_go (L := L) (d := d) (m4 := (4 * a_gn A).toNat) (v1 := j_k (a_gn A)) (v2 := j_k q) (c := c) q (M + 1) p1 0 I1 J1 _ f' (by omega) (by decide) (by rfl) (by omega) a2 hN (by show a_fl A 0 + 40 * (q : Int) ≤ 9960; omega) hp
    obtain ⟨M1, rfl⟩ : ∃ q, M1 = q + 1 := ⟨M1 - 1, by omega⟩
    obtain ⟨M1, rfl⟩ : ∃ q, M1 = q + 1 := ⟨M1 - 1, by omega⟩
    have hw' : p_safe (a_gr A) (a_gn A) f' = true := hw
    obtain ⟨M2, p3, I3, J3, x2, d1, d2, d3, d4⟩ := dr_safe (L := L) (d := d) (v2 := j_k q) (v3 := j_k c) (a_gn A).toNat M1 p2 0 I2 J2 _ (Int.le_refl 0) (by show 0 + ((a_gn A).toNat : Int) = a_gn A; omega) (by omega) c3 hw'
    obtain ⟨M2, rfl⟩ : ∃ q, M2 = q + 1 := ⟨M2 - 1, by omega⟩
    have hF2 := x_fewest (L := L) (p := p3) (d := d) d3
    have e2 : p_fewest (A_told (A_fl A f') x2) = (0, A_told (A_fl A f') (j_k (p_srch (A_fl A f') (a_kd A) (p_safe (a_gr A) (a_gn A)) 3).2.2.2.1)) := by
      have z0 : (p_srch (A_told (A_fl A f') x2) (a_kd A) (p_safe (a_gr A) (a_gn A)) 3).1 = 0 := few_0 hw' 3
      have z9 : (p_srch (A_told (A_fl A f') x2) (a_kd A) (p_safe (a_gr A) (a_gn A)) 3).1 ≠ -9 := by rw [z0]; decide
      refine (if_neg hN).trans ((if_neg z9).trans ?_)
      exact congrArg (fun u : Int => (u, A_told (A_fl A f') (j_k (p_srch (A_fl A f') (a_kd A) (p_safe (a_gr A) (a_gn A)) 3).2.2.2.1))) z0
    have hF2 : xc L p3 I3 J3 (d + 11) 92 [.ref 0] (p_fewest (A_told (A_fl A f') x2)) := hF2
    rw [e2] at hF2
    obtain ⟨p4, I4, J4, g1, g2, g3⟩ := hF2
    have g1 : j_run (d + 11) 92 [.ref 0] (ST L p3 I3 J3) = some (some (.int (j_k 0)), ST L p4 I4 J4) := g1
    have i1 : j_run (d + 11) 108 [.ref 0, .int (j_k 2)] (ST L p4 I4 J4) = some (some (.int (j_k (p_lost (a_gn A) f'))), ST L p4 I4 J4) := c_count g2 (q := 2) (by decide) (by decide)
    rw [lost_0 (fun k k0 k1 => (safe_is hw' k0 k1).1)] at i1
    obtain ⟨p5, I5, J5, j1, j2, j3⟩ := c_on (L := L) (p := p4) (d := d) g2 hk
    have j1 : j_run (d + 11) 91 [.ref 0, .int (j_k 0)] (ST L p4 I4 J4) = some (some (.int (j_k (a_kf A 0 0))), ST L p5 I5 J5) := j1
    have j2 : iX I5 J5 (A_told (A_fl A (a_kf A 0)) (j_k (p_srch (A_fl A f') (a_kd A) (p_safe (a_gr A) (a_gn A)) 3).2.2.2.1)) := j2
    rw [hf] at j1 j2
    obtain ⟨p6, I6, J6, B, u1, u2, u3, u4, u5⟩ := dr_two (L := L) (d := d) (p := p5) (v2 := j_k q) (v3 := j_k c) j2 hN hk hf h1 hs (M := M2) (by omega)
    have y1 : ¬ (q : Int) < 0 := by omega
    have y2 : ¬ a_fl A 0 < 0 := by omega
    refine ⟨p6, I6, J6, B, ?_, u2, (a3.tr c4).tr ((d4.tr g3).tr (j3.tr u3)), u4, u5⟩
    rw [r_135, t_135_0, ← hM]
    simp (disch := first | assumption | omega) only [k_add, k_sub, k_mul, k_lt, k_eq, k_lt0, k_0lt, k_eq0, k_nat, k_b0, k_b1, k_z1, k_z0, k_o1, k_o0, Int.reduceEq, Int.reduceLT, Int.reduceLE, Int.reduceAdd, Int.reduceMul, Int.reduceNeg, Int.reduceToNat, Bool.false_eq_true, or_true, true_or, or_false, false_or, and_true, true_and, and_false, false_and, not_true_eq_false, not_false_eq_true, ↓reduceIte, z_0, z_k, s_I, s_J, s_uI, s_uJ, ↓c_oc_0, ↓jc1 a1, ↓jc1 b1, y1]
    rw [c2, x_exec, t_135_19]
    simp (disch := first | assumption | omega) only [k_add, k_sub, k_mul, k_lt, k_eq, k_lt0, k_0lt, k_eq0, k_nat, k_b0, k_b1, k_z1, k_z0, k_o1, k_o0, Int.reduceEq, Int.reduceLT, Int.reduceLE, Int.reduceAdd, Int.reduceMul, Int.reduceNeg, Int.reduceToNat, Bool.false_eq_true, or_true, true_or, or_false, false_or, and_true, true_and, and_false, false_and, not_true_eq_false, not_false_eq_true, ↓reduceIte, z_0, z_k, s_I, s_J, s_uI, s_uJ, ]
    rw [x_exec, t_135_91, d2, x_exec, t_135_136]
    simp (disch := first | assumption | omega) only [k_add, k_sub, k_mul, k_lt, k_eq, k_lt0, k_0lt, k_eq0, k_nat, k_b0, k_b1, k_z1, k_z0, k_o1, k_o0, Int.reduceEq, Int.reduceLT, Int.reduceLE, Int.reduceAdd, Int.reduceMul, Int.reduceNeg, Int.reduceToNat, Bool.false_eq_true, or_true, true_or, or_false, false_or, and_true, true_and, and_false, false_and, not_true_eq_false, not_false_eq_true, ↓reduceIte, z_0, z_k, s_I, s_J, s_uI, s_uJ, ↓c_oc_0, ↓jc1 g1, ↓jc1 i1, ↓jc1 j1, y2]
    exact u1
end DRIVE9
