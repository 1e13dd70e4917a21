/-! ===== the model: runs, stirrings, drives ===== -/
/-- who has gone since f0, as bits -/
def wentI (n : Int) (f0 f : Fl) (v : Int32) : Prop := (∀ i : Int, 0 ≤ i → i < n → f0 (9 + i) ≤ f (9 + i)) ∧ ∀ i : Int, 0 ≤ i → i < 32 → (bt v i.toNat = true ↔ i < n ∧ f0 (9 + i) < f (9 + i))
theorem stepE_went {s : Ss} {i : Int} (i0 : 0 ≤ i) : p_stepE s (9 + i) = s.1 (9 + i) := by
  unfold p_stepE
  split
  · exact set0_hi (by omega)
  · rw [bl_hi (by omega)]
    exact set0_hi (by omega)
theorem stepE_0 {s : Ss} : p_stepE s 0 = s.1 0 + 1 := by
  unfold p_stepE
  split
  · exact set0_0
  · rw [bl_0]
    exact set0_0
section MODEL13
variable {L p d : Nat} {I : Nat → Nat → Int32} {J : Nat → Nat → Int64} {n w h N b : Int} {f gr kd : Fl} {q : Int}
theorem stepF_0 (hC : okC w h N n gr kd) (ho : okF N n b f) : p_stepF w h gr n kd f 0 = f 0 + 1 := by
  have n0 := hC.2.2.1
  have hin := stepL_in hC n.toNat 0 _ (Int.le_refl 0) (by omega) (in0 ho)
  have h0 := hin.2.1 0 (by decide)
  unfold p_stepF
  rw [stepE_0]
  exact congrArg (· + 1) h0
theorem run_steps (hC : okC w h N n gr kd) : ∀ (m : Nat) (st sp b : Int) (f : Fl), okF N n b f → (p_run w h gr n kd m st sp f).1 0 - f 0 = (p_run w h gr n kd m st sp f).2.2 - sp
  | 0, st, sp, b, f, ho => by
    show f 0 - f 0 = sp - sp
    omega
  | m + 1, st, sp, b, f, ho => by
    have e := stepF_0 hC ho
    unfold p_run
    split
    · have r := run_steps hC m (if p_stepW w h gr n kd f = 0 then st + 1 else 0) (sp + 1) (b + 1) _ (stepF_ok hC ho)
      omega
    · show f 0 - f 0 = sp - sp
      omega
theorem run_sp : ∀ (m : Nat) (st sp : Int) (f : Fl), sp ≤ (p_run w h gr n kd m st sp f).2.2 ∧ (p_run w h gr n kd m st sp f).2.2 ≤ sp + m
  | 0, st, sp, f => ⟨Int.le_refl sp, by show sp ≤ sp + ((0 : Nat) : Int); omega⟩
  | m + 1, st, sp, f => by
    unfold p_run
    split
    · have r := run_sp m (if p_stepW w h gr n kd f = 0 then st + 1 else 0) (sp + 1) (p_stepF w h gr n kd f)
      omega
    · exact ⟨Int.le_refl sp, by show sp ≤ sp + ((m + 1 : Nat) : Int); omega⟩
/-- in a step: the bits of those that went -/
theorem step_bits (hC : okC w h N n gr kd) (ho : okF N n b f) : wentI n f (p_stepF w h gr n kd f) (j_k (p_stepW w h gr n kd f)) := by
  have n0 := hC.2.2.1
  have n4 := hC.2.2.2.1
  have L1 : ∀ (m : Nat) (k : Int) (s : Ss), 0 ≤ k → k + m = n → inS N n b f k s → (∀ i : Int, 0 ≤ i → i < n → f (9 + i) ≤ s.1 (9 + i)) → (∀ i : Int, k ≤ i → i < n → s.1 (9 + i) = f (9 + i)) → (∀ i : Int, 0 ≤ i → i < 32 → (bt (j_k s.2.1) i.toNat = true ↔ i < n ∧ f (9 + i) < s.1 (9 + i))) → wentI n f (p_loop (p_stepB w h gr n kd f) m k s).1 (j_k (p_loop (p_stepB w h gr n kd f) m k s).2.1) := by
    intro m
    induction m with
    | zero => exact fun k s _ _ _ h1 _ h3 => ⟨h1, h3⟩
    | succ m ih =>
      intro k s k1 k2 hs h1 h2 h3
      have hin := stepB_in hC k1 (by omega) hs
      rw [p_loopS]
      have hor := or_set k1 (by omega) hs.2.2.1 hs.2.2.2.1
      have S : p_stepB w h gr n kd f k s = s ∨ ∃ c r, p_stepB w h gr n kd f k s = (p_goTo gr s.1 k c, s.2.1 + 2 ^ k.toNat, r) := by
        unfold p_stepB
        split
        · exact Or.inl rfl
        · split
          · exact Or.inl rfl
          · exact Or.inr ⟨_, _, rfl⟩
      rcases S with e | ⟨c, r, e⟩
      · rw [e] at hin ⊢
        exact ih (k + 1) s (by omega) (by omega) hin h1 (fun i i1 i2 => h2 i (by omega) i2) h3
      · rw [e] at hin ⊢
        have g : ∀ i : Int, 0 ≤ i → p_goTo gr s.1 k c (9 + i) = if i = k then s.1 (9 + k) + 1 else s.1 (9 + i) := fun i i1 => goTo_went k1 (by omega) i1
        have hk := h2 k (Int.le_refl k) (by omega)
        refine ih (k + 1) _ (by omega) (by omega) hin (fun i i1 i2 => ?_) (fun i i1 i2 => ?_) (fun i i1 i2 => ?_)
        · show f (9 + i) ≤ p_goTo gr s.1 k c (9 + i)
          rw [g i i1]
          have := h1 i i1 i2
          split
          · rename_i x
            subst x
            omega
          · exact this
        · show p_goTo gr s.1 k c (9 + i) = _
          rw [g i (by omega), if_neg (by omega)]
          exact h2 i (by omega) i2
        · show bt (j_k (s.2.1 + 2 ^ k.toNat)) i.toNat = true ↔ i < n ∧ f (9 + i) < p_goTo gr s.1 k c (9 + i)
          rw [← hor, bt_on _ k1 (by omega) i1 i2, g i i1, Bool.or_eq_true, decide_eq_true_iff, h3 i i1 i2]
          by_cases x : i = k
          · subst x
            rw [if_pos rfl, hk]
            exact ⟨fun _ => ⟨by omega, by omega⟩, fun _ => Or.inr rfl⟩
          · rw [if_neg x]
            exact ⟨fun u => u.resolve_right x, Or.inl⟩
  have r := L1 n.toNat 0 (f, 0, -9, -9, false) (Int.le_refl 0) (by omega) (in0 ho) (fun i _ _ => Int.le_refl _) (fun i _ _ => rfl) (fun i i1 i2 => by
    show bt (j_k 0) i.toNat = true ↔ i < n ∧ f (9 + i) < f (9 + i)
    rw [kk0, b_0]
    exact ⟨fun u => absurd u (by decide), fun u => absurd u.2 (Int.lt_irrefl _)⟩)
  refine ⟨fun i i1 i2 => ?_, fun i i1 i2 => ?_⟩
  · unfold p_stepF
    rw [stepE_went i1]
    exact r.1 i i1 i2
  · unfold p_stepF
    rw [stepE_went i1]
    exact r.2 i i1 i2
theorem wentI.tr {f0 f1 f2 : Fl} {v v' : Int32} (h1 : wentI n f0 f1 v) (h2 : wentI n f1 f2 v') : wentI n f0 f2 (v ||| v') := by
  refine ⟨fun i i1 i2 => Int.le_trans (h1.1 i i1 i2) (h2.1 i i1 i2), fun i i1 i2 => ?_⟩
  rw [b_or, Bool.or_eq_true, h1.2 i i1 i2, h2.2 i i1 i2]
  constructor
  · intro u
    rcases u with u | u
    · have := h2.1 i i1 u.1
      exact ⟨u.1, by omega⟩
    · have := h1.1 i i1 u.1
      exact ⟨u.1, by omega⟩
  · intro u
    have a1 := h1.1 i i1 u.1
    have a2 := h2.1 i i1 u.1
    by_cases x : f0 (9 + i) < f1 (9 + i)
    · exact Or.inl ⟨u.1, x⟩
    · exact Or.inr ⟨u.1, by omega⟩
theorem n_runL (q1 : 0 ≤ q) (q2 : q < 9) {f0 : Fl} : ∀ (m M : Nat) (st sp b : Int) (f : Fl) (I : Nat → Nat → Int32), 0 ≤ sp → sp + m = 40 → 0 ≤ st → st ≤ 2 → m < M → okF N n b f → b + m ≤ 1000000 → iMg I w h N n gr kd → iM1 I q n f → wentI n f0 f (I 87 30) →
    ∃ I', j_exec k_187 h_187 (j_run (d + 6)) M 9 [some (.ref 87), some (.int (j_k q)), some (.int (j_k st)), some (.int (j_k sp)), none] [] (ST L p I J) = some (some (.int (j_k (p_run w h gr n kd m st sp f).2.2)), ST L p I' J) ∧ iM1 I' q n (p_run w h gr n kd m st sp f).1 ∧ frP n q I I' ∧ I' 87 29 = j_z ((p_run w h gr n kd m st sp f).2.1 = 2) ∧ wentI n f0 (p_run w h gr n kd m st sp f).1 (I' 87 30) := by
  intro m
  induction m with
  | zero =>
    intro M st sp b f I s1 s2 s3 s4 hM ho hb hm hf hw
    obtain ⟨M, rfl⟩ : ∃ q, M = q + 1 := ⟨M - 1, by omega⟩
    have n4 := hm.1.2.2.2.1
    have e : p_run w h gr n kd 0 st sp f = (f, st, sp) := rfl
    rw [e, x_exec, t_187_9]
    have z : ¬ sp < 40 := by omega
    by_cases y : st = 2
    · have z2 : ¬ st < 2 := by omega
      refine ⟨_, ?_, hf.o (k := 29) (v := j_k 1) n4, frP.o (by decide) (by decide), by rw [u2_ss]; exact (if_pos y).symm, by rw [u2_k (by decide)]; exact hw⟩
      rw [y]
      simp (disch := first | assumption | omega) only [k_add, k_sub, k_mul, k_lt, k_eq, k_lt0, k_0lt, k_eq0, k_nat, k_b0, k_b1, k_z1, k_z0, k_o1, k_o0, Int.reduceEq, Int.reduceLT, Int.reduceLE, Int.reduceAdd, Int.reduceMul, Int.reduceNeg, Bool.false_eq_true, or_true, true_or, or_false, false_or, and_true, true_and, and_false, false_and, not_true_eq_false, not_false_eq_true, ↓reduceIte, z_0, z_k, s_I, s_J, s_uI, s_uJ, ↓c_lt_87, ↓c_oc_87]
    · have z2 : st < 2 := by omega
      refine ⟨_, ?_, hf.o (k := 29) (v := j_k 0) n4, frP.o (by decide) (by decide), by rw [u2_ss]; exact (if_neg y).symm, by rw [u2_k (by decide)]; exact hw⟩
      simp (disch := first | assumption | omega) only [k_add, k_sub, k_mul, k_lt, k_eq, k_lt0, k_0lt, k_eq0, k_nat, k_b0, k_b1, k_z1, k_z0, k_o1, k_o0, Int.reduceEq, Int.reduceLT, Int.reduceLE, Int.reduceAdd, Int.reduceMul, Int.reduceNeg, Bool.false_eq_true, or_true, true_or, or_false, false_or, and_true, true_and, and_false, false_and, not_true_eq_false, not_false_eq_true, ↓reduceIte, z_0, z_k, s_I, s_J, s_uI, s_uJ, ↓c_lt_87, ↓c_oc_87, z, z2, y]
  | succ m ih =>
    intro M st sp b f I s1 s2 s3 s4 hM ho hb hm hf hw
    obtain ⟨M, rfl⟩ : ∃ q, M = q + 1 := ⟨M - 1, by omega⟩
    have n4 := hm.1.2.2.2.1
    have z : sp < 40 := by omega
    rw [x_exec, t_187_9]
    by_cases hst : st < 2
    · obtain ⟨I1, m1, m2, m3, m4⟩ := n_step (L := L) (p := p) (d := d) (J := J) q1 q2 hm hf ho (by omega)
      have hW := stepW_rg hm.1 ho
      have ho1 := stepF_ok hm.1 ho
      have e : p_run w h gr n kd (m + 1) st sp f = p_run w h gr n kd m (if p_stepW w h gr n kd f = 0 then st + 1 else 0) (sp + 1) (p_stepF w h gr n kd f) := by
        show (if st < 2 then _ else _) = _
        rw [if_pos hst]
      have W : wentI n f0 (p_stepF w h gr n kd f) (u2 I1 87 30 (I1 87 30 ||| j_k (p_stepW w h gr n kd f)) 87 30) := by
        rw [u2_ss, m4 30 (by decide) (by decide)]
        exact hw.tr (step_bits hm.1 ho)
      have fr1 : frP n q I (u2 I1 87 30 (I1 87 30 ||| j_k (p_stepW w h gr n kd f))) := m3.tr (frP.o (by decide) (by decide))
      rw [e]
      by_cases hz : p_stepW w h gr n kd f = 0
      · obtain ⟨I2, r1, r2, r3, r4, r5⟩ := ih M (st + 1) (sp + 1) (b + 1) _ _ (by omega) (by omega) (by omega) (by omega) (by omega) ho1 (by omega) (fr1.m hm) (m2.o n4) W
        refine ⟨I2, ?_, by rw [if_pos hz]; exact r2, fr1.tr r3, by rw [if_pos hz]; exact r4, by rw [if_pos hz]; exact r5⟩
        rw [hz] at m1 r1
        rw [if_pos hz]
        simp (disch := first | assumption | omega) only [k_add, k_sub, k_mul, k_lt, k_eq, k_lt0, k_0lt, k_eq0, k_nat, k_b0, k_b1, k_z1, k_z0, k_o1, k_o0, Int.reduceEq, Int.reduceLT, Int.reduceLE, Int.reduceAdd, Int.reduceMul, Int.reduceNeg, Bool.false_eq_true, or_true, true_or, or_false, false_or, and_true, true_and, and_false, false_and, not_true_eq_false, not_false_eq_true, ↓reduceIte, z_0, z_k, s_I, s_J, s_uI, s_uJ, ↓c_oc_87, ↓c_lt_87, z, hst, ↓jc1 m1]
        exact r1
      · obtain ⟨I2, r1, r2, r3, r4, r5⟩ := ih M 0 (sp + 1) (b + 1) _ _ (by omega) (by omega) (by omega) (by omega) (by omega) ho1 (by omega) (fr1.m hm) (m2.o n4) W
        refine ⟨I2, ?_, by rw [if_neg hz]; exact r2, fr1.tr r3, by rw [if_neg hz]; exact r4, by rw [if_neg hz]; exact r5⟩
        rw [if_neg hz]
        simp (disch := first | assumption | omega) only [k_add, k_sub, k_mul, k_lt, k_eq, k_lt0, k_0lt, k_eq0, k_nat, k_b0, k_b1, k_z1, k_z0, k_o1, k_o0, Int.reduceEq, Int.reduceLT, Int.reduceLE, Int.reduceAdd, Int.reduceMul, Int.reduceNeg, Bool.false_eq_true, or_true, true_or, or_false, false_or, and_true, true_and, and_false, false_and, not_true_eq_false, not_false_eq_true, ↓reduceIte, z_0, z_k, s_I, s_J, s_uI, s_uJ, ↓c_oc_87, ↓c_lt_87, z, hst, ↓jc1 m1, hz]
        exact r1
    · have e : p_run w h gr n kd (m + 1) st sp f = (f, st, sp) := by
        show (if st < 2 then _ else _) = _
        rw [if_neg hst]
      have y : st = 2 := by omega
      rw [e]
      refine ⟨_, ?_, hf.o (k := 29) (v := j_k 1) n4, frP.o (by decide) (by decide), by rw [u2_ss]; exact (if_pos y).symm, by rw [u2_k (by decide)]; exact hw⟩
      rw [y]
      simp (disch := first | assumption | omega) only [k_add, k_sub, k_mul, k_lt, k_eq, k_lt0, k_0lt, k_eq0, k_nat, k_b0, k_b1, k_z1, k_z0, k_o1, k_o0, Int.reduceEq, Int.reduceLT, Int.reduceLE, Int.reduceAdd, Int.reduceMul, Int.reduceNeg, Bool.false_eq_true, or_true, true_or, or_false, false_or, and_true, true_and, and_false, false_and, not_true_eq_false, not_false_eq_true, ↓reduceIte, z_0, z_k, s_I, s_J, s_uI, s_uJ, ↓c_lt_87, ↓c_oc_87]
theorem n_runs (q1 : 0 ≤ q) (q2 : q < 9) (hm : iMg I w h N n gr kd) (hf : iM1 I q n f) (ho : okF N n b f) (hb : b ≤ 900000) : ∃ I', j_run (d + 7) 187 [.ref 87, .int (j_k q)] (ST L p I J) = some (some (.int (j_k (p_runs w h gr n kd f).2.2)), ST L p I' J) ∧ iM1 I' q n (p_runs w h gr n kd f).1 ∧ frP n q I I' ∧ I' 87 29 = j_z ((p_runs w h gr n kd f).2.1 = 2) ∧ wentI n f (p_runs w h gr n kd f).1 (I' 87 30) := by
  have n4 := hm.1.2.2.2.1
  have fr1 : frP n q I (u2 I 87 30 (j_k 0)) := frP.o (by decide) (by decide)
  obtain ⟨I', r1, r2, r3, r4, r5⟩ := n_runL (L := L) (p := p) (d := d) (J := J) (f0 := f) q1 q2 40 999999 0 0 b f (u2 I 87 30 (j_k 0)) (Int.le_refl 0) (by decide) (Int.le_refl 0) (by decide) (by decide) ho (by omega) (fr1.m hm) (hf.o n4) ⟨fun i _ _ => Int.le_refl _, fun i i1 i2 => by
    rw [u2_ss, kk0, b_0]
    exact ⟨fun u => absurd u (by decide), fun u => absurd u.2 (Int.lt_irrefl _)⟩⟩
  refine ⟨I', ?_, r2, fr1.tr r3, r4, r5⟩
  rw [r_187, t_187_0, if_pos (show (87 < j_b) from by decide), c_oc_87]
  exact r1
theorem dxs : p_dx 0 = 0 ∧ p_dx 1 = 1 ∧ p_dx 2 = 0 ∧ p_dx 3 = -1 ∧ p_dy 0 = -1 ∧ p_dy 1 = 0 ∧ p_dy 2 = 1 ∧ p_dy 3 = 0 := ⟨rfl, rfl, rfl, rfl, rfl, rfl, rfl, rfl⟩
theorem n_stirs {k y : Int} (q1 : 0 ≤ q) (q2 : q < 9) (hm : iMg I w h N n gr kd) (hf : iM1 I q n f) (ho : okF N n b f) (k1 : 0 ≤ k) (k2 : k < n) (y1 : 0 ≤ y) (y2 : y < 4) : ∃ I', j_run (d + 5) 188 [.ref 87, .int (j_k q), .int (j_k k), .int (j_k y)] (ST L p I J) = some (some (.int (j_z (p_stir w h gr n kd f k y ≠ -9))), ST L p I' J) ∧ frQ n q I I' ∧ (p_stir w h gr n kd f k y = -9 → iM1 I' q n f) ∧ (p_stir w h gr n kd f k y ≠ -9 → iM1 I' q n (p_stirF gr f k (p_stir w h gr n kd f k y)) ∧ I' 87 27 = j_k (p_stir w h gr n kd f k y)) := by
  have hC := hm.1
  obtain ⟨bN0, bN1, -⟩ := bd_N hC
  have n4 := hC.2.2.2.1
  have L1 := n_isLost (L := L) (p := p) (d := d + 2) (J := J) q1 q2 hf ho bN1 k1 k2 n4
  have e := (r_188 (d + 4) (ST L p I J) 87 (j_k q) (j_k k) (j_k y)).trans (t_188_0 _ _ _ _ _ _ _)
  by_cases z : f (5 + k) = -9
  · have s : p_stir w h gr n kd f k y = -9 := if_pos z
    have l1 : j_z (f (5 + k) = -9) = j_k 1 := if_pos z
    have s0 : j_z (p_stir w h gr n kd f k y ≠ -9) = j_k 0 := if_neg (fun u => u s)
    rw [l1] at L1
    refine ⟨I, ?_, .rf, fun _ => hf, fun u => absurd s u⟩
    rw [s0, e]
    simp (disch := first | assumption | omega) only [k_add, k_sub, k_mul, k_lt, k_eq, k_lt0, k_0lt, k_eq0, k_nat, k_b0, k_b1, k_z1, k_z0, k_o1, k_o0, Int.reduceEq, Int.reduceLT, Int.reduceLE, Int.reduceAdd, Int.reduceMul, Int.reduceNeg, Bool.false_eq_true, or_true, true_or, or_false, false_or, and_true, true_and, and_false, false_and, not_true_eq_false, not_false_eq_true, ↓reduceIte, z_0, z_k, s_I, s_J, s_uI, s_uJ, ↓c_oc_87, ↓jc1 L1]
  · have l1 : j_z (f (5 + k) = -9) = j_k 0 := if_neg z
    rw [l1] at L1
    have hm1 : iMg (u2 I 87 26 (j_k 0)) w h N n gr kd := (frQ.o (q := q) (Or.inl rfl)).m hm
    have hf1 : iM1 (u2 I 87 26 (j_k 0)) q n f := hf.o n4
    have V := n_v (L := L) (p := p) (d := d + 3) (I := u2 I 87 26 (j_k 0)) (J := J) q1 q2 (show 0 ≤ 5 + k by omega) (show 5 + k < 13 by omega)
    rw [hf1.2.1 k k1 k2] at V
    have hd := dxy y1 y2
    obtain ⟨I1, e1, e2, e3⟩ := n_bg (L := L) (p := p) (d := d) (J := J) (gate := false) q1 q2 hm1 (by rw [u2_ss]; exact (if_neg Bool.false_ne_true).symm) hf1 ho k1 k2 z hd
    have s : p_stir w h gr n kd f k y = p_try gr n kd f k (p_by w h (f (5 + k)) (p_dx y) (p_dy y)) false := if_neg z
    rw [← s] at e2 e3
    have f0 : frQ n q I (u2 I 87 26 (j_k 0)) := frQ.o (Or.inl rfl)
    obtain ⟨X0, X1, X2, X3, Y0, Y1, Y2, Y3⟩ := dxs
    by_cases x : p_stir w h gr n kd f k y = -9
    · have s0 : j_z (p_stir w h gr n kd f k y ≠ -9) = j_k 0 := if_neg (fun u => u x)
      refine ⟨I1, ?_, f0.tr e3.1, fun _ => by rw [e3.2.1 x]; exact hf1, fun u => absurd x u⟩
      rw [s0] at e2 ⊢
      rw [e]
      clear s e3
      generalize p_by w h (f (5 + k)) (p_dx y) (p_dy y) = B at e1 e2
      rcases (show y = 0 ∨ y = 1 ∨ y = 2 ∨ y = 3 by omega) with rfl | rfl | rfl | rfl <;> (simp only [X0, X1, X2, X3, Y0, Y1, Y2, Y3] at e1) <;> (simp (disch := first | assumption | omega) only [k_add, k_sub, k_mul, k_lt, k_eq, k_lt0, k_0lt, k_eq0, k_nat, k_b0, k_b1, k_z1, k_z0, k_o1, k_o0, Int.reduceEq, Int.reduceLT, Int.reduceLE, Int.reduceAdd, Int.reduceMul, Int.reduceNeg, Bool.false_eq_true, or_true, true_or, or_false, false_or, and_true, true_and, and_false, false_and, not_true_eq_false, not_false_eq_true, ↓reduceIte, z_0, z_k, s_I, s_J, s_uI, s_uJ, ↓c_oc_87, ↓jc1 L1, ↓c_lt_87, ↓jc1 V, ↓jc1 e1, ↓jc1 e2])
    · have s0 : j_z (p_stir w h gr n kd f k y ≠ -9) = j_k 1 := if_pos x
      obtain ⟨g1, g2, g3⟩ := e3.2.2 x
      obtain ⟨I2, w1, w2, w3⟩ := n_bl (L := L) (p := p) (d := d + 2) (J := J) (k := k) (c := p_by w h (f (5 + k)) (p_dx y) (p_dy y)) g1 q1 q2 hC.2.2.1 n4
      have t := try_eq (show p_try gr n kd f k (p_by w h (f (5 + k)) (p_dx y) (p_dy y)) false ≠ -9 by rw [← s]; exact x)
      have t2 : p_by w h (f (5 + k)) (p_dx y) (p_dy y) = p_stir w h gr n kd f k y := by rw [s]; exact t.1.symm
      refine ⟨I2, ?_, (f0.tr e3.1).tr w3.q, fun u => absurd u x, fun _ => ⟨?_, ?_⟩⟩
      · rw [s0] at e2 ⊢
        rw [e]
        clear t t2 w2 g1 g3 s e3
        generalize p_by w h (f (5 + k)) (p_dx y) (p_dy y) = B at e1 e2 w1
        rcases (show y = 0 ∨ y = 1 ∨ y = 2 ∨ y = 3 by omega) with rfl | rfl | rfl | rfl <;> (simp only [X0, X1, X2, X3, Y0, Y1, Y2, Y3] at e1) <;> (simp (disch := first | assumption | omega) only [k_add, k_sub, k_mul, k_lt, k_eq, k_lt0, k_0lt, k_eq0, k_nat, k_b0, k_b1, k_z1, k_z0, k_o1, k_o0, Int.reduceEq, Int.reduceLT, Int.reduceLE, Int.reduceAdd, Int.reduceMul, Int.reduceNeg, Bool.false_eq_true, or_true, true_or, or_false, false_or, and_true, true_and, and_false, false_and, not_true_eq_false, not_false_eq_true, ↓reduceIte, z_0, z_k, s_I, s_J, s_uI, s_uJ, ↓c_oc_87, ↓jc1 L1, ↓c_lt_87, ↓jc1 V, ↓jc1 e1, ↓jc1 e2, ↓jc0 w1])
      · rw [t2] at w2
        exact w2
      · rw [w3.1 87 (by decide)]
        exact g3
theorem n_drives {c : Int} (q1 : 0 ≤ q) (q2 : q < 9) (hm : iMg I w h N n gr kd) (hf : iM1 I q n f) (ho : okF N n b f) (hb : b ≤ 900000) (c1 : 0 ≤ c) (c2 : c < 4 * n) : ∃ I', j_run (d + 8) 189 [.ref 87, .int (j_k q), .int (j_k c)] (ST L p I J) = some (some (.int (if (p_drive w h gr n kd f c).isSome = true then j_k 1 else j_k 0)), ST L p I' J) ∧ iM1 I' q n ((p_drive w h gr n kd f c).getD f) ∧ frP n q I I' := by
  have n4 := hm.1.2.2.2.1
  obtain ⟨I1, m1, m2, m3, m4⟩ := n_stirs (L := L) (p := p) (d := d + 2) (J := J) (k := c / 4) (y := c % 4) q1 q2 hm hf ho (by omega) (by omega) (by omega) (by omega)
  have e := (r_189 (d + 7) (ST L p I J) 87 (j_k q) (j_k c)).trans (t_189_0 _ _ _ _ _ _)
  rw [k_modp c1 (by omega) (by decide) (by decide), k_divp c1 (by omega) (by decide) (by decide)] at e
  unfold p_drive
  by_cases z : p_stir w h gr n kd f (c / 4) (c % 4) = -9
  · rw [if_pos z]
    have s0 : j_z (p_stir w h gr n kd f (c / 4) (c % 4) ≠ -9) = j_k 0 := if_neg (fun u => u z)
    rw [s0] at m1
    refine ⟨I1, ?_, m3 z, m2.p⟩
    rw [e]
    simp (disch := first | assumption | omega) only [k_add, k_sub, k_mul, k_lt, k_eq, k_lt0, k_0lt, k_eq0, k_nat, k_b0, k_b1, k_z1, k_z0, k_o1, k_o0, Int.reduceEq, Int.reduceLT, Int.reduceLE, Int.reduceAdd, Int.reduceMul, Int.reduceNeg, Bool.false_eq_true, or_true, true_or, or_false, false_or, and_true, true_and, and_false, false_and, not_true_eq_false, not_false_eq_true, ↓reduceIte, z_0, z_k, s_I, s_J, s_uI, s_uJ, ↓c_oc_87, ↓jc1 m1]
    rfl
  · rw [if_neg z]
    have s0 : j_z (p_stir w h gr n kd f (c / 4) (c % 4) ≠ -9) = j_k 1 := if_pos z
    rw [s0] at m1
    obtain ⟨s1, s2, s3⟩ := stir_ok hm.1 ho (k := c / 4) (way := c % 4) (by omega) (by omega) (by omega) (by omega) z
    obtain ⟨I2, r1, r2, r3, -⟩ := n_runs (L := L) (p := p) (d := d) (J := J) q1 q2 (m2.m hm) (m4 z).1 s3 hb
    refine ⟨I2, ?_, r2, m2.p.tr r3⟩
    rw [e]
    simp (disch := first | assumption | omega) only [k_add, k_sub, k_mul, k_lt, k_eq, k_lt0, k_0lt, k_eq0, k_nat, k_b0, k_b1, k_z1, k_z0, k_o1, k_o0, Int.reduceEq, Int.reduceLT, Int.reduceLE, Int.reduceAdd, Int.reduceMul, Int.reduceNeg, Bool.false_eq_true, or_true, true_or, or_false, false_or, and_true, true_and, and_false, false_and, not_true_eq_false, not_false_eq_true, ↓reduceIte, z_0, z_k, s_I, s_J, s_uI, s_uJ, ↓c_oc_87, ↓jc1 m1, ↓jc1 r1]
    rfl
end MODEL13
