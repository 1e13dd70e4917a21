/-! ===== the class's flocks: a step, a run, a drive ===== -/
section FLOCKT
variable {L p a g d : Nat} {I : Nat → Nat → Int32} {J : Nat → Nat → Int64} {n w h N b : Int} {kd f gr : Fl}
theorem s_takeStep (hF : FA a) (hg : GA g) (hi : iF I a n kd f) (hG : iG I g w h N gr) (hT : iT I) (hC : okC w h N n gr kd) (ho : okF N n b f) (hb : b ≤ 1000000) : ∃ I', j_run (d + 3) 26 [.ref a, .ref g] (ST L p I J) = some (some (.int (j_k (p_stepW w h gr n kd f))), ST L p I' J) ∧ iF I' a n kd (p_stepF w h gr n kd f) ∧ fr a I I' := by
  have hn := hC.2.2.1
  have hn4 := hC.2.2.2.1
  rw [r_26, t_26_0]
  exact s_stepL (L := L) (p := p) (d := d) (J := J) hF hg hC hb n.toNat 999999 0 (f, 0, -9, -9, false) I (Int.le_refl 0) (by omega) (by omega) (in0 ho) hi hG hT
theorem stepW_rg (hC : okC w h N n gr kd) (ho : okF N n b f) : 0 ≤ p_stepW w h gr n kd f ∧ p_stepW w h gr n kd f < 16 := by
  have hn := hC.2.2.1
  have hn4 := hC.2.2.2.1
  have hin := stepL_in hC n.toNat 0 _ (Int.le_refl 0) (by omega) (in0 ho)
  have h1 := hin.2.2.1
  have h2 := hin.2.2.2.1
  have h3 : (2 : Int) ^ n.toNat ≤ 16 := by
    rcases (show n = 0 ∨ n = 1 ∨ n = 2 ∨ n = 3 ∨ n = 4 by omega) with rfl | rfl | rfl | rfl | rfl <;> decide
  exact ⟨h1, Int.lt_of_lt_of_le h2 h3⟩
theorem s_runL (hF : FA a) (hg : GA g) (hC : okC w h N n gr kd) : ∀ (m M : Nat) (st sp b : Int) (f : Fl) (I : Nat → Nat → Int32), 0 ≤ sp → sp + m = 40 → 0 ≤ st → st ≤ 2 → m < M → okF N n b f → b + m ≤ 1000000 → iF I a n kd f → iG I g w h N gr → iT I →
    ∃ I', j_exec k_28 h_28 (j_run (d + 3)) M 4 [some (.ref a), some (.ref g), some (.int (j_k st)), some (.int (j_k sp))] [] (ST L p I J) = some (some (.int (j_z ((p_run w h gr n kd m st sp f).2.1 = 2))), ST L p I' J) ∧ iF I' a n kd (p_run w h gr n kd m st sp f).1 ∧ fr a I I' := by
  intro m
  induction m with
  | zero =>
    intro M st sp b f I s1 s2 s3 s4 hM ho hb hi hG hT
    obtain ⟨M, rfl⟩ : ∃ q, M = q + 1 := ⟨M - 1, by omega⟩
    refine ⟨I, ?_, hi, fr.rf⟩
    rw [x_exec, t_28_4]
    have z : ¬ sp < 40 := by omega
    simp (disch := first | assumption | omega) only [k_add, k_sub, k_mul, k_lt, k_eq, k_lt0, k_0lt, k_eq0, k_nat, k_b0, k_b1, k_z1, k_z0, k_o1, k_o0, Int.reduceEq, Int.reduceLT, Int.reduceLE, Int.reduceAdd, Int.reduceMul, Int.reduceNeg, Bool.false_eq_true, or_true, true_or, or_false, false_or, and_true, true_and, and_false, false_and, not_true_eq_false, not_false_eq_true, ↓reduceIte, z_0, z_k, s_I, s_J, s_uI, s_uJ, z]
    show _ = some (some (Value.int (j_z (st = 2))), ST L p I J)
    unfold j_z
    ((repeat' split) <;> first | rfl | (exfalso; omega))
  | succ m ih =>
    intro M st sp b f I s1 s2 s3 s4 hM ho hb hi hG hT
    obtain ⟨M, rfl⟩ : ∃ q, M = q + 1 := ⟨M - 1, by omega⟩
    have z : sp < 40 := by omega
    rw [x_exec, t_28_4]
    by_cases hst : st < 2
    · obtain ⟨I1, m1, m2, m3⟩ := s_takeStep (L := L) (p := p) (d := d) (J := J) hF hg hi hG hT hC ho (by omega)
      have hw := stepW_rg hC ho
      have ho1 := stepF_ok hC ho
      have e : p_run w h gr n kd (m + 1) st sp f = p_run w h gr n kd m (if p_stepW w h gr n kd f = 0 then st + 1 else 0) (sp + 1) (p_stepF w h gr n kd f) := by
        show (if st < 2 then _ else _) = _
        rw [if_pos hst]
      rw [e]
      by_cases hz : p_stepW w h gr n kd f = 0
      · obtain ⟨I2, r1, r2, r3⟩ := ih M (st + 1) (sp + 1) (b + 1) _ I1 (by omega) (by omega) (by omega) (by omega) (by omega) ho1 (by omega) m2 (hG.fr hF hg m3) (hT.fr hF m3)
        refine ⟨I2, ?_, by rw [if_pos hz]; exact r2, m3.tr r3⟩
        rw [hz] at m1
        rw [if_pos hz]
        simp (disch := first | assumption | omega) only [k_add, k_sub, k_mul, k_lt, k_eq, k_lt0, k_0lt, k_eq0, k_nat, k_b0, k_b1, k_z1, k_z0, k_o1, k_o0, Int.reduceEq, Int.reduceLT, Int.reduceLE, Int.reduceAdd, Int.reduceMul, Int.reduceNeg, Bool.false_eq_true, or_true, true_or, or_false, false_or, and_true, true_and, and_false, false_and, not_true_eq_false, not_false_eq_true, ↓reduceIte, z_0, z_k, s_I, s_J, s_uI, s_uJ, f_oc, f_gP0, f_gP1, f_gP2, f_ia0, f_ia1, f_ia2, f_is0, f_is1, f_is2, f_lt, z, hst, jc1 m1]
        exact r1
      · obtain ⟨I2, r1, r2, r3⟩ := ih M 0 (sp + 1) (b + 1) _ I1 (by omega) (by omega) (by omega) (by omega) (by omega) ho1 (by omega) m2 (hG.fr hF hg m3) (hT.fr hF m3)
        refine ⟨I2, ?_, by rw [if_neg hz]; exact r2, m3.tr r3⟩
        rw [if_neg hz]
        simp (disch := first | assumption | omega) only [k_add, k_sub, k_mul, k_lt, k_eq, k_lt0, k_0lt, k_eq0, k_nat, k_b0, k_b1, k_z1, k_z0, k_o1, k_o0, Int.reduceEq, Int.reduceLT, Int.reduceLE, Int.reduceAdd, Int.reduceMul, Int.reduceNeg, Bool.false_eq_true, or_true, true_or, or_false, false_or, and_true, true_and, and_false, false_and, not_true_eq_false, not_false_eq_true, ↓reduceIte, z_0, z_k, s_I, s_J, s_uI, s_uJ, f_oc, f_gP0, f_gP1, f_gP2, f_ia0, f_ia1, f_ia2, f_is0, f_is1, f_is2, f_lt, z, hst, jc1 m1, hz]
        exact r1
    · have e : p_run w h gr n kd (m + 1) st sp f = (f, st, sp) := by
        show (if st < 2 then _ else _) = _
        rw [if_neg hst]
      rw [e]
      refine ⟨I, ?_, hi, fr.rf⟩
      have z2 : st = 2 := by omega
      simp (disch := first | assumption | omega) only [k_add, k_sub, k_mul, k_lt, k_eq, k_lt0, k_0lt, k_eq0, k_nat, k_b0, k_b1, k_z1, k_z0, k_o1, k_o0, Int.reduceEq, Int.reduceLT, Int.reduceLE, Int.reduceAdd, Int.reduceMul, Int.reduceNeg, Bool.false_eq_true, or_true, true_or, or_false, false_or, and_true, true_and, and_false, false_and, not_true_eq_false, not_false_eq_true, ↓reduceIte, z_0, z_k, s_I, s_J, s_uI, s_uJ, z, hst, z2]
      rfl
theorem s_runOut (hF : FA a) (hg : GA g) (hi : iF I a n kd f) (hG : iG I g w h N gr) (hT : iT I) (hC : okC w h N n gr kd) (ho : okF N n b f) (hb : b + 40 ≤ 1000000) : ∃ I', j_run (d + 4) 28 [.ref a, .ref g] (ST L p I J) = some (some (.int (j_z ((p_runs w h gr n kd f).2.1 = 2))), ST L p I' J) ∧ iF I' a n kd (p_runs w h gr n kd f).1 ∧ fr a I I' := by
  rw [r_28, t_28_0]
  exact s_runL hF hg hC 40 999999 0 0 b f I (Int.le_refl 0) (by decide) (Int.le_refl 0) (by decide) (by decide) ho (by omega) hi hG hT
theorem s_driveBy (hF : FA a) (hg : GA g) (hi : iF I a n kd f) (hG : iG I g w h N gr) (hT : iT I) (hC : okC w h N n gr kd) (ho : okF N n b f) (hb : b + 40 ≤ 1000000) {code : Int} (c1 : 0 ≤ code) (c2 : code < 4 * n) : ∃ I', j_run (d + 5) 29 [.ref a, .ref g, .int (j_k code)] (ST L p I J) = some (some (.int (if (p_drive w h gr n kd f code).isSome = true then j_k 1 else j_k 0)), ST L p I' J) ∧ iF I' a n kd ((p_drive w h gr n kd f code).getD f) ∧ fr a I I' := by
  have hn4 := hC.2.2.2.1
  obtain ⟨b1, b2, -⟩ := bd_N hC
  obtain ⟨I1, m1, m2, m3⟩ := s_stirBy (L := L) (p := p) (d := d + 2) (J := J) hF hg hi hG hT hC ho (k := code / 4) (way := code % 4) (by omega) (by omega) (by omega) (by omega)
  have e := (r_29 (d + 4) (ST L p I J) a g (j_k code)).trans (t_29_0 _ _ _ _ _ _)
  rw [k_modp c1 (by omega) (by decide) (by decide), k_divp c1 (by omega) (by decide) (by decide)] at e
  unfold p_drive
  by_cases hz : p_stir w h gr n kd f (code / 4) (code % 4) = -9
  · rw [if_pos hz] at m2 ⊢
    rw [hz] at m1
    refine ⟨I1, ?_, m2, m3⟩
    rw [e]
    simp (disch := first | assumption | omega) only [k_add, k_sub, k_mul, k_lt, k_eq, k_lt0, k_0lt, k_eq0, k_nat, k_b0, k_b1, k_z1, k_z0, k_o1, k_o0, Int.reduceEq, Int.reduceLT, Int.reduceLE, Int.reduceAdd, Int.reduceMul, Int.reduceNeg, Bool.false_eq_true, or_true, true_or, or_false, false_or, and_true, true_and, and_false, false_and, not_true_eq_false, not_false_eq_true, ↓reduceIte, z_0, z_k, s_I, s_J, s_uI, s_uJ, f_oc, f_gP0, f_gP1, f_gP2, f_ia0, f_ia1, f_ia2, f_is0, f_is1, f_is2, f_lt, jc1 m1]
    rfl
  · rw [if_neg hz] at m2 ⊢
    obtain ⟨s1, s2, s3⟩ := stir_ok hC ho (k := code / 4) (way := code % 4) (by omega) (by omega) (by omega) (by omega) hz
    obtain ⟨I2, r1, r2, r3⟩ := s_runOut (L := L) (p := p) (d := d) (J := J) hF hg m2 (hG.fr hF hg m3) (hT.fr hF m3) hC s3 hb
    refine ⟨I2, ?_, r2, m3.tr r3⟩
    rw [e]
    simp (disch := first | assumption | omega) only [k_add, k_sub, k_mul, k_lt, k_eq, k_lt0, k_0lt, k_eq0, k_nat, k_b0, k_b1, k_z1, k_z0, k_o1, k_o0, Int.reduceEq, Int.reduceLT, Int.reduceLE, Int.reduceAdd, Int.reduceMul, Int.reduceNeg, Bool.false_eq_true, or_true, true_or, or_false, false_or, and_true, true_and, and_false, false_and, not_true_eq_false, not_false_eq_true, ↓reduceIte, z_0, z_k, s_I, s_J, s_uI, s_uJ, f_oc, f_gP0, f_gP1, f_gP2, f_ia0, f_ia1, f_ia2, f_is0, f_is1, f_is2, f_lt, jc1 m1, hz, jc1 r1]
    rfl
theorem drive_ok (hC : okC w h N n gr kd) (ho : okF N n b f) {code : Int} (c1 : 0 ≤ code) (c2 : code < 4 * n) {f' : Fl} (hd : p_drive w h gr n kd f code = some f') : okF N n (b + 40) f' := by
  unfold p_drive at hd
  split at hd
  · cases hd
  · rename_i hz
    obtain ⟨s1, s2, s3⟩ := stir_ok hC ho (k := code / 4) (way := code % 4) (by omega) (by omega) (by omega) (by omega) hz
    cases hd
    exact run_ok hC 40 0 0 b _ s3
theorem okF_le {b' : Int} (h : b ≤ b') (ho : okF N n b f) : okF N n b' f := ⟨ho.1, ho.2.1, ho.2.2.1, ho.2.2.2.1, ho.2.2.2.2.1, ho.2.2.2.2.2.1, Int.le_trans ho.2.2.2.2.2.2 h⟩
theorem drive_ok' (hC : okC w h N n gr kd) (ho : okF N n b f) {code : Int} (c1 : 0 ≤ code) (c2 : code < 4 * n) : okF N n (b + 40) ((p_drive w h gr n kd f code).getD f) := by
  cases hd : p_drive w h gr n kd f code with
  | none => exact okF_le (by omega) ho
  | some f' => exact drive_ok hC ho c1 c2 hd
end FLOCKT
