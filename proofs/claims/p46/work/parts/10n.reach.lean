/-! ===== the class's calls: reach, never ===== -/
def clR (w h : Int) (gr : Fl) (g : Bool) (P : Int → Prop) : Prop := ∀ a y, P a → 0 ≤ y → y < 4 → p_by w h a (p_dx y) (p_dy y) ≠ -9 → p_og gr g (p_by w h a (p_dx y) (p_dy y)) → P (p_by w h a (p_dx y) (p_dy y))
section REACH2
variable {L p g d : Nat} {I : Nat → Nat → Int32} {J : Nat → Nat → Int64} {n w h N : Int} {kd gr : Fl} {gt : Bool}
theorem s_pass (hg : GA g) (hG : iG I g w h N gr) (hT : iT I) (hC : okC w h N n gr kd) {c bf rd : Int32} : ∀ (t M : Nat) (k : Int) (v0 : Int32), 0 ≤ k → k + t = N → ∃ v, j_exec k_40 h_40 (j_run (d + 2)) (M + t + 1) 41 [some (.ref g), some (.int c), some (.int (j_z (gt = true))), some (.int v0), some (.int bf), some (.int rd), some (.int (j_k k))] [] (ST L p I J) = j_exec k_40 h_40 (j_run (d + 2)) M 20 [some (.ref g), some (.int c), some (.int (j_z (gt = true))), some (.int v), some (.int bf), some (.int (rd + j_k 1)), none] [] (ST L p I J) ∧ (∀ i, mb v0 i → mb v i) ∧ (∀ x y, k ≤ x → x < N → mb v0 x → 0 ≤ y → y < 4 → p_by w h x (p_dx y) (p_dy y) ≠ -9 → p_og gr gt (p_by w h x (p_dx y) (p_dy y)) → mb v (p_by w h x (p_dx y) (p_dy y))) ∧ (∀ P, clR w h gr gt P → (∀ i, mb v0 i → P i) → ∀ i, mb v i → P i) := by
  obtain ⟨bN0, bN1, -⟩ := bd_N hC
  intro t
  induction t with
  | zero =>
    intro M k v0 k1 k2
    have z : ¬ k < N := by omega
    refine ⟨v0, ?_, fun _ u => u, fun x y a b => absurd b (by omega), fun P _ u => u⟩
    rw [x_exec, t_40_41]
    simp (disch := first | assumption | omega) only [k_add, k_sub, k_mul, k_lt, k_eq, k_lt0, k_0lt, k_eq0, k_nat, k_b0, k_b1, k_z1, k_z0, k_o1, k_o0, Int.reduceEq, Int.reduceLT, Int.reduceLE, Int.reduceAdd, Int.reduceMul, Int.reduceNeg, Bool.false_eq_true, or_true, true_or, or_false, false_or, and_true, true_and, and_false, false_and, not_true_eq_false, not_false_eq_true, ↓reduceIte, z_0, z_k, s_I, s_J, s_uI, s_uJ, ↓g_oc, hG.2.2.1, z]
  | succ t ih =>
    intro M k v0 k1 k2
    have z : k < N := by omega
    have k3 : k < 32 := by omega
    rw [show M + (t + 1) + 1 = (M + t + 1) + 1 by omega]
    by_cases x : bt v0 k.toNat = true
    · obtain ⟨u, q1, q2⟩ := s_openBeside (L := L) (p := p) (d := d) (J := J) (gt := gt) hg hG hT hC k1 z
      obtain ⟨v, e1, e2, e3, e4⟩ := ih M (k + 1) (v0 ||| u) (by omega) (by omega)
      refine ⟨v, ?_, fun i a => e2 i (mb_or.mpr (Or.inl a)), fun a y a1 a2 a3 y1 y2 y3 y4 => ?_, fun P hP h0 => e4 P hP (fun i a => (mb_or.mp a).elim (h0 i) (fun b => ?_))⟩
      · rw [x_exec, t_40_41]
        simp (disch := first | assumption | omega) only [k_add, k_sub, k_mul, k_lt, k_eq, k_lt0, k_0lt, k_eq0, k_nat, k_b0, k_b1, k_z1, k_z0, k_o1, k_o0, Int.reduceEq, Int.reduceLT, Int.reduceLE, Int.reduceAdd, Int.reduceMul, Int.reduceNeg, Bool.false_eq_true, or_true, true_or, or_false, false_or, and_true, true_and, and_false, false_and, not_true_eq_false, not_false_eq_true, ↓reduceIte, z_0, z_k, s_I, s_J, s_uI, s_uJ, ↓g_oc, hG.2.2.1, z, tb_iff, x, ↓jc1 q1]
        exact e1
      · by_cases ak : a = k
        · subst ak
          exact e2 _ (mb_or.mpr (Or.inr ((q2 _).mpr ⟨y, y1, y2, y3, y4, rfl⟩)))
        · exact e3 a y (by omega) a2 (mb_or.mpr (Or.inl a3)) y1 y2 y3 y4
      · obtain ⟨y, y1, y2, y3, y4, y5⟩ := (q2 i).mp b
        rw [y5]
        exact hP k y (h0 k ⟨k1, k3, x⟩) y1 y2 y3 y4
    · obtain ⟨v, e1, e2, e3, e4⟩ := ih M (k + 1) v0 (by omega) (by omega)
      refine ⟨v, ?_, e2, fun a y a1 a2 a3 y1 y2 y3 y4 => ?_, e4⟩
      · rw [x_exec, t_40_41]
        simp (disch := first | assumption | omega) only [k_add, k_sub, k_mul, k_lt, k_eq, k_lt0, k_0lt, k_eq0, k_nat, k_b0, k_b1, k_z1, k_z0, k_o1, k_o0, Int.reduceEq, Int.reduceLT, Int.reduceLE, Int.reduceAdd, Int.reduceMul, Int.reduceNeg, Bool.false_eq_true, or_true, true_or, or_false, false_or, and_true, true_and, and_false, false_and, not_true_eq_false, not_false_eq_true, ↓reduceIte, z_0, z_k, s_I, s_J, s_uI, s_uJ, ↓g_oc, hG.2.2.1, z, tb_iff, x]
        exact e1
      · by_cases ak : a = k
        · subst ak
          exact absurd a3.2.2 x
        · exact e3 a y (by omega) a2 a3 y1 y2 y3 y4
theorem cl_rg (hC : okC w h N n gr kd) : clR w h gr gt (fun i => 0 ≤ i ∧ i < N) := fun a y ha y1 y2 y3 _ => (by_ok hC ha.1 ha.2 y1 y2).resolve_left y3
theorem s_reach (hg : GA g) (hG : iG I g w h N gr) (hT : iT I) (hC : okC w h N n gr kd) {c : Int} (c1 : 0 ≤ c) (c2 : c < N) : ∃ v, j_run (d + 3) 40 [.ref g, .int (j_k c), .int (j_z (gt = true))] (ST L p I J) = some (some (.int v), ST L p I J) ∧ isR w h gr gt c v := by
  obtain ⟨bN0, bN1, -⟩ := bd_N hC
  have q1 := s_isOpen (L := L) (p := p) (d := d + 1) (J := J) hg hG hC c1 c2
  have loop : ∀ (t M : Nat) (rd : Int) (v bf : Int32), 0 ≤ rd → rd + t = N → 40 * t + 1 < M → (v = bf → ∀ x y, 0 ≤ x → x < N → mb v x → 0 ≤ y → y < 4 → p_by w h x (p_dx y) (p_dy y) ≠ -9 → p_og gr gt (p_by w h x (p_dx y) (p_dy y)) → mb v (p_by w h x (p_dx y) (p_dy y))) → (v ≠ bf → rd + 1 ≤ p_cn v N.toNat) → (∀ i, mb v i → 0 ≤ i ∧ i < N) →
      ∃ v', j_exec k_40 h_40 (j_run (d + 2)) M 20 [some (.ref g), some (.int (j_k c)), some (.int (j_z (gt = true))), some (.int v), some (.int bf), some (.int (j_k rd)), none] [] (ST L p I J) = some (some (.int v'), ST L p I J) ∧ (∀ i, mb v i → mb v' i) ∧ (∀ x y, 0 ≤ x → x < N → mb v' x → 0 ≤ y → y < 4 → p_by w h x (p_dx y) (p_dy y) ≠ -9 → p_og gr gt (p_by w h x (p_dx y) (p_dy y)) → mb v' (p_by w h x (p_dx y) (p_dy y))) ∧ (∀ P, clR w h gr gt P → (∀ i, mb v i → P i) → ∀ i, mb v' i → P i) := by
    intro t
    induction t with
    | zero =>
      intro M rd v bf r1 r2 hM h1 h2 h3
      obtain ⟨M, rfl⟩ : ∃ q, M = q + 1 := ⟨M - 1, by omega⟩
      have z : ¬ rd < N := by omega
      have eq : v = bf := Classical.byContradiction fun u => by
        have a := h2 u
        have b := cn_le v N.toNat
        omega
      refine ⟨v, ?_, fun _ a => a, h1 eq, fun _ _ a => a⟩
      rw [x_exec, t_40_20]
      simp (disch := first | assumption | omega) only [k_add, k_sub, k_mul, k_lt, k_eq, k_lt0, k_0lt, k_eq0, k_nat, k_b0, k_b1, k_z1, k_z0, k_o1, k_o0, Int.reduceEq, Int.reduceLT, Int.reduceLE, Int.reduceAdd, Int.reduceMul, Int.reduceNeg, Bool.false_eq_true, or_true, true_or, or_false, false_or, and_true, true_and, and_false, false_and, not_true_eq_false, not_false_eq_true, ↓reduceIte, z_0, z_k, s_I, s_J, s_uI, s_uJ, ↓g_oc, hG.2.2.1, z]
    | succ t ih =>
      intro M rd v bf r1 r2 hM h1 h2 h3
      obtain ⟨M, rfl⟩ : ∃ q, M = q + 1 := ⟨M - 1, by omega⟩
      have z : rd < N := by omega
      by_cases eq : v = bf
      · refine ⟨v, ?_, fun _ a => a, h1 eq, fun _ _ a => a⟩
        rw [x_exec, t_40_20]
        simp (disch := first | assumption | omega) only [k_add, k_sub, k_mul, k_lt, k_eq, k_lt0, k_0lt, k_eq0, k_nat, k_b0, k_b1, k_z1, k_z0, k_o1, k_o0, Int.reduceEq, Int.reduceLT, Int.reduceLE, Int.reduceAdd, Int.reduceMul, Int.reduceNeg, Bool.false_eq_true, or_true, true_or, or_false, false_or, and_true, true_and, and_false, false_and, not_true_eq_false, not_false_eq_true, ↓reduceIte, z_0, z_k, s_I, s_J, s_uI, s_uJ, ↓g_oc, hG.2.2.1, z]
        exact if_pos eq
      · obtain ⟨M2, hM2⟩ : ∃ q, M = q + N.toNat + 1 := ⟨M - N.toNat - 1, by omega⟩
        obtain ⟨u, e1, e2, e3, e4⟩ := s_pass (L := L) (p := p) (d := d) (J := J) (gt := gt) (c := j_k c) (bf := v) (rd := j_k rd) hg hG hT hC N.toNat M2 0 v (Int.le_refl 0) (by omega)
        have h3' : ∀ i, mb u i → 0 ≤ i ∧ i < N := e4 _ (cl_rg hC) h3
        obtain ⟨v', f1, f2', f3, f4⟩ := ih M2 (rd + 1) u v (by omega) (by omega) (by omega) (fun w1 => by
          rw [← w1] at e3
          exact fun x y a b => e3 x y a b) (fun w1 => by
          have a := h2 eq
          have ex : ∃ i, mb u i ∧ ¬ mb v i := Classical.byContradiction fun no => w1 (mb_ext fun i => ⟨fun a => Classical.byContradiction fun b => no ⟨i, a, b⟩, e2 i⟩)
          obtain ⟨i, i1, i2⟩ := ex
          have i3 := h3' i i1
          have cl := cn_lt (v := v) (v' := u) (fun j hj => by
            by_cases j3 : j < 32
            · have t : ((j : Nat) : Int).toNat = j := by omega
              have := (e2 j ⟨by omega, by omega, by rw [t]; exact hj⟩).2.2
              rw [t] at this
              exact this
            · rw [b_big (by omega)] at hj
              exact absurd hj (by decide)) (j := i.toNat) i1.2.2 (fun y => i2 ⟨i1.1, i1.2.1, y⟩) N.toNat (by omega)
          omega) h3'
        refine ⟨v', ?_, fun i a => f2' i (e2 i a), f3, fun P hP h0 => f4 P hP (e4 P hP h0)⟩
        rw [x_exec, t_40_20]
        simp (disch := first | assumption | omega) only [k_add, k_sub, k_mul, k_lt, k_eq, k_lt0, k_0lt, k_eq0, k_nat, k_b0, k_b1, k_z1, k_z0, k_o1, k_o0, Int.reduceEq, Int.reduceLT, Int.reduceLE, Int.reduceAdd, Int.reduceMul, Int.reduceNeg, Bool.false_eq_true, or_true, true_or, or_false, false_or, and_true, true_and, and_false, false_and, not_true_eq_false, not_false_eq_true, ↓reduceIte, z_0, z_k, s_I, s_J, s_uI, s_uJ, ↓g_oc, hG.2.2.1, z]
        rw [if_neg eq, hM2, e1, k_add]
        exact f1
  have e := (r_40 (d + 2) (ST L p I J) g (j_k c) (j_z (gt = true))).trans (t_40_0 _ _ _ _ _ _)
  by_cases o : gr c ≠ 1 ∧ gr c ≠ 2
  · have o1 : j_z (gr c ≠ 1 ∧ gr c ≠ 2) = j_k 1 := if_pos o
    rw [o1] at q1
    have m1 : ∀ i, mb (j_k 1 <<< (j_k c &&& 31)) i ↔ i = c := fun i => mb_1 c1 (by omega)
    have mc : mb (j_k 1 <<< (j_k c &&& 31)) c := (m1 c).mpr rfl
    obtain ⟨v, e1, e2, e3, e4⟩ := loop N.toNat 999999 0 (j_k 1 <<< (j_k c &&& 31)) (j_k 0) (Int.le_refl 0) (by omega) (by omega) (fun u => absurd mc (by rw [u]; exact mb_0)) (fun _ => by
      have cl := cn_lt (v := j_k 0) (v' := j_k 1 <<< (j_k c &&& 31)) (fun j hj => by
        have : bt (j_k 0) j = false := b_0 _
        rw [this] at hj
        exact absurd hj (by decide)) (j := c.toNat) mc.2.2 (fun y => mb_0 ⟨c1, by omega, y⟩) N.toNat (by omega)
      omega) (fun i a => by rw [(m1 i).mp a]; exact ⟨c1, c2⟩)
    refine ⟨v, ?_, fun i => ⟨fun a => ⟨o, fun P pc cl => e4 P cl (fun i b => by rw [(m1 i).mp b]; exact pc) i a⟩, fun a => ?_⟩⟩
    · simp (disch := first | assumption | omega) only [k_add, k_sub, k_mul, k_lt, k_eq, k_lt0, k_0lt, k_eq0, k_nat, k_b0, k_b1, k_z1, k_z0, k_o1, k_o0, Int.reduceEq, Int.reduceLT, Int.reduceLE, Int.reduceAdd, Int.reduceMul, Int.reduceNeg, Bool.false_eq_true, or_true, true_or, or_false, false_or, and_true, true_and, and_false, false_and, not_true_eq_false, not_false_eq_true, ↓reduceIte, z_0, z_k, s_I, s_J, s_uI, s_uJ, ↓g_oc, ↓jc1 q1] at e
      exact e.trans e1
    · exact (a.2 (fun i => mb v i ∧ 0 ≤ i ∧ i < N) ⟨e2 c mc, c1, c2⟩ (fun a y ha y1 y2 y3 y4 => ⟨e3 a y ha.2.1 ha.2.2 ha.1 y1 y2 y3 y4, (by_ok hC ha.2.1 ha.2.2 y1 y2).resolve_left y3⟩)).1
  · have o1 : j_z (gr c ≠ 1 ∧ gr c ≠ 2) = j_k 0 := if_neg o
    rw [o1] at q1
    refine ⟨j_k 0, ?_, fun i => ⟨fun a => absurd a mb_0, fun a => absurd a.1 o⟩⟩
    simp (disch := first | assumption | omega) only [k_add, k_sub, k_mul, k_lt, k_eq, k_lt0, k_0lt, k_eq0, k_nat, k_b0, k_b1, k_z1, k_z0, k_o1, k_o0, Int.reduceEq, Int.reduceLT, Int.reduceLE, Int.reduceAdd, Int.reduceMul, Int.reduceNeg, Bool.false_eq_true, or_true, true_or, or_false, false_or, and_true, true_and, and_false, false_and, not_true_eq_false, not_false_eq_true, ↓reduceIte, z_0, z_k, s_I, s_J, s_uI, s_uJ, ↓g_oc, ↓jc1 q1] at e
    exact e
end REACH2
section CALLS11
variable {L p d : Nat} {J : Nat → Nat → Int64} {I I' : Nat → Nat → Int32} {A : Ast}
end CALLS11
