/-! ===== the model's calls: reach, never ===== -/
theorem by_sym {w h N n c y : Int} {gr kd : Fl} (hC : okC w h N n gr kd) (c1 : 0 ≤ c) (c2 : c < N) (y1 : 0 ≤ y) (y2 : y < 4) (ho : p_by w h c (p_dx y) (p_dy y) ≠ -9) : ∃ y', 0 ≤ y' ∧ y' < 4 ∧ p_by w h (p_by w h c (p_dx y) (p_dy y)) (p_dx y') (p_dy y') = c := by
  obtain ⟨x1, x2, x3, x4, x5, x6, x7, x8, x9, x10, x11⟩ := bd_xy hC c1 c2
  have key : ∀ dx dy : Int, p_by w h c dx dy ≠ -9 → p_by w h (p_by w h c dx dy) (-dx) (-dy) = c := fun dx dy hz => by
    by_cases z : 0 ≤ c % w + dx ∧ c % w + dx < w ∧ 0 ≤ c / w + dy ∧ c / w + dy < h
    · have e : p_by w h c dx dy = w * (c / w + dy) + (c % w + dx) := if_pos z
      obtain ⟨m1, m2⟩ := cell_xy (w := w) (x := c % w + dx) (y := c / w + dy) z.1 z.2.1
      rw [e]
      unfold p_by
      rw [m1, m2, if_pos (by omega), show c / w + dy + -dy = c / w by omega, show c % w + dx + -dx = c % w by omega]
      exact x5.symm
    · exact absurd (if_neg z) hz
  have k := key _ _ ho
  rcases (show y = 0 ∨ y = 1 ∨ y = 2 ∨ y = 3 by omega) with rfl | rfl | rfl | rfl
  · exact ⟨2, by decide, by decide, k⟩
  · exact ⟨3, by decide, by decide, k⟩
  · exact ⟨0, by decide, by decide, k⟩
  · exact ⟨1, by decide, by decide, k⟩
/-- whether one of the cells beside is in a set -/
def p_nr (w h : Int) (v : Int32) (c : Int) : Nat → Int → Bool → Bool
  | 0, _, b => b
  | t + 1, y, b => p_nr w h v c t (y + 1) (b || decide (p_by w h c (p_dx y) (p_dy y) ≠ -9 ∧ bt v (p_by w h c (p_dx y) (p_dy y)).toNat = true))
theorem nr_iff {w h N n c : Int} {gr kd : Fl} {v : Int32} (hC : okC w h N n gr kd) (c1 : 0 ≤ c) (c2 : c < N) : ∀ (t : Nat) (y : Int) (b : Bool), 0 ≤ y → y + t = 4 → (p_nr w h v c t y b = true ↔ b = true ∨ ∃ y', y ≤ y' ∧ y' < 4 ∧ p_by w h c (p_dx y') (p_dy y') ≠ -9 ∧ mb v (p_by w h c (p_dx y') (p_dy y')))
  | 0, y, b, y1, y2 => ⟨Or.inl, fun u => u.elim id (fun ⟨y', a1, a2, _⟩ => absurd a2 (by omega))⟩
  | t + 1, y, b, y1, y2 => by
    obtain ⟨bN0, bN1, -⟩ := bd_N hC
    have r := by_ok hC c1 c2 y1 (show y < 4 by omega)
    unfold p_nr
    rw [nr_iff hC c1 c2 t (y + 1) _ (by omega) (by omega), Bool.or_eq_true, decide_eq_true_iff]
    constructor
    · rintro ((u | u) | ⟨y', a1, a2, a3⟩)
      · exact Or.inl u
      · have r' := r.resolve_left u.1
        exact Or.inr ⟨y, Int.le_refl _, by omega, u.1, r'.1, by omega, u.2⟩
      · exact Or.inr ⟨y', by omega, a2, a3⟩
    · rintro (u | ⟨y', a1, a2, a3, a4⟩)
      · exact Or.inl (Or.inl u)
      · by_cases z : y' = y
        · subst z
          exact Or.inl (Or.inr ⟨a3, a4.2.2⟩)
        · exact Or.inr ⟨y', by omega, a2, a3, a4⟩
section MREACH
variable {L p d : Nat} {I : Nat → Nat → Int32} {J : Nat → Nat → Int64} {n w h N : Int} {kd gr : Fl} {gt : Bool}
theorem n_has {v : Int32} {c : Int} {σ : Sto} (c1 : 0 ≤ c) (c2 : c < 32) : j_run (d + 1) 128 [.int v, .int (j_k c)] σ = some (some (.int (j_z (bt v c.toNat = true))), σ) := by
  have e := tb_iff v c1 c2
  rw [r_128, t_128_0]
  unfold j_z
  by_cases z : bt v c.toNat = true
  · rw [if_pos z, if_pos (e.mpr z), if_pos (Or.inr kk1)]
  · rw [if_neg z, if_neg (fun u => z (e.mp u)), if_pos (Or.inl kk0)]
theorem n_open (hm : iMg I w h N n gr kd) {c : Int} (c1 : 0 ≤ c) (c2 : c < N) : j_run (d + 1) 216 [.ref 87, .int (j_k c), .int (j_z (gt = true))] (ST L p I J) = some (some (.int (j_z (gr c ≠ 1 ∧ gr c ≠ 2 ∧ (gt = true ∨ gr c ≠ 4)))), ST L p I J) := by
  obtain ⟨bN0, bN1, -⟩ := bd_N hm.1
  have c3 : c < 30 := by omega
  have gv := hm.2.2.2.2.2 c c1 c2
  have gb := hm.1.2.2.2.2.1 c c1 c2
  rw [r_216, t_216_0]
  by_cases x : gr c = 1
  · rw [show j_z (gr c ≠ 1 ∧ gr c ≠ 2 ∧ (gt = true ∨ gr c ≠ 4)) = j_k 0 from if_neg (fun u => u.1 x)]
    simp (disch := first | assumption | omega) only [k_add, k_sub, k_mul, k_lt, k_eq, k_lt0, k_0lt, k_eq0, k_nat, k_b0, k_b1, k_z1, k_z0, k_o1, k_o0, Int.reduceEq, Int.reduceLT, Int.reduceLE, Int.reduceAdd, Int.reduceMul, Int.reduceNeg, Bool.false_eq_true, or_true, true_or, or_false, false_or, and_true, true_and, and_false, false_and, not_true_eq_false, not_false_eq_true, ↓reduceIte, z_0, z_k, s_I, s_J, s_uI, s_uJ, ↓c_gP_87_12, ↓c_ia_94, gv, x]
  · by_cases y : gr c = 2
    · rw [show j_z (gr c ≠ 1 ∧ gr c ≠ 2 ∧ (gt = true ∨ gr c ≠ 4)) = j_k 0 from if_neg (fun u => u.2.1 y)]
      simp (disch := first | assumption | omega) only [k_add, k_sub, k_mul, k_lt, k_eq, k_lt0, k_0lt, k_eq0, k_nat, k_b0, k_b1, k_z1, k_z0, k_o1, k_o0, Int.reduceEq, Int.reduceLT, Int.reduceLE, Int.reduceAdd, Int.reduceMul, Int.reduceNeg, Bool.false_eq_true, or_true, true_or, or_false, false_or, and_true, true_and, and_false, false_and, not_true_eq_false, not_false_eq_true, ↓reduceIte, z_0, z_k, s_I, s_J, s_uI, s_uJ, ↓c_gP_87_12, ↓c_ia_94, gv, x, y]
    · cases gt
      · rw [z_f]
        by_cases z : gr c = 4
        · rw [show j_z (gr c ≠ 1 ∧ gr c ≠ 2 ∧ (false = true ∨ gr c ≠ 4)) = j_k 0 from if_neg (fun u => u.2.2.elim Bool.false_ne_true (fun t => t z))]
          simp (disch := first | assumption | omega) only [k_add, k_sub, k_mul, k_lt, k_eq, k_lt0, k_0lt, k_eq0, k_nat, k_b0, k_b1, k_z1, k_z0, k_o1, k_o0, Int.reduceEq, Int.reduceLT, Int.reduceLE, Int.reduceAdd, Int.reduceMul, Int.reduceNeg, Bool.false_eq_true, or_true, true_or, or_false, false_or, and_true, true_and, and_false, false_and, not_true_eq_false, not_false_eq_true, ↓reduceIte, z_0, z_k, s_I, s_J, s_uI, s_uJ, ↓c_gP_87_12, ↓c_ia_94, gv, x, y, z]
        · rw [show j_z (gr c ≠ 1 ∧ gr c ≠ 2 ∧ (false = true ∨ gr c ≠ 4)) = j_k 1 from if_pos ⟨x, y, Or.inr z⟩]
          simp (disch := first | assumption | omega) only [k_add, k_sub, k_mul, k_lt, k_eq, k_lt0, k_0lt, k_eq0, k_nat, k_b0, k_b1, k_z1, k_z0, k_o1, k_o0, Int.reduceEq, Int.reduceLT, Int.reduceLE, Int.reduceAdd, Int.reduceMul, Int.reduceNeg, Bool.false_eq_true, or_true, true_or, or_false, false_or, and_true, true_and, and_false, false_and, not_true_eq_false, not_false_eq_true, ↓reduceIte, z_0, z_k, s_I, s_J, s_uI, s_uJ, ↓c_gP_87_12, ↓c_ia_94, gv, x, y, z]
      · rw [z_t, show j_z (gr c ≠ 1 ∧ gr c ≠ 2 ∧ (true = true ∨ gr c ≠ 4)) = j_k 1 from if_pos ⟨x, y, Or.inl rfl⟩]
        simp (disch := first | assumption | omega) only [k_add, k_sub, k_mul, k_lt, k_eq, k_lt0, k_0lt, k_eq0, k_nat, k_b0, k_b1, k_z1, k_z0, k_o1, k_o0, Int.reduceEq, Int.reduceLT, Int.reduceLE, Int.reduceAdd, Int.reduceMul, Int.reduceNeg, Bool.false_eq_true, or_true, true_or, or_false, false_or, and_true, true_and, and_false, false_and, not_true_eq_false, not_false_eq_true, ↓reduceIte, z_0, z_k, s_I, s_J, s_uI, s_uJ, ↓c_gP_87_12, ↓c_ia_94, gv, x, y]
theorem n_nearL (hm : iMg I w h N n gr kd) {c0 : Int} {v v4 v5 : Int32} {g : Int32} {c : Int} (c1 : 0 ≤ c) (c2 : c < N) : ∀ (t M : Nat) (y : Int) (b : Bool), 0 ≤ y → y + t = 4 → j_exec k_217 h_217 (j_run (d + 2)) (M + t) 55 [some (.ref 87), some (.int (j_k c0)), some (.int g), some (.int v), some (.int v4), some (.int v5), some (.int (j_k c)), some (.int (j_z (b = true))), some (.int (j_k y)), none] [] (ST L p I J) = j_exec k_217 h_217 (j_run (d + 2)) M 55 [some (.ref 87), some (.int (j_k c0)), some (.int g), some (.int v), some (.int v4), some (.int v5), some (.int (j_k c)), some (.int (j_z (p_nr w h v c t y b = true))), some (.int (j_k 4)), none] [] (ST L p I J) := by
  intro t
  induction t with
  | zero =>
    intro M y b y1 y2
    rw [show y = 4 by omega]
    rfl
  | succ t ih =>
    intro M y b y1 y2
    obtain ⟨bN0, bN1, -⟩ := bd_N hm.1
    have r := by_ok hm.1 c1 c2 y1 (show y < 4 by omega)
    have B := n_by (L := L) (p := p) (d := d) (I := I) (J := J) (c := c) (dx := p_dx y) (dy := p_dy y) hm.2.1 hm.2.2.1 hm.1 c1 c2 (by rcases (show y = 0 ∨ y = 1 ∨ y = 2 ∨ y = 3 by omega) with rfl | rfl | rfl | rfl <;> decide) (by rcases (show y = 0 ∨ y = 1 ∨ y = 2 ∨ y = 3 by omega) with rfl | rfl | rfl | rfl <;> decide) (by rcases (show y = 0 ∨ y = 1 ∨ y = 2 ∨ y = 3 by omega) with rfl | rfl | rfl | rfl <;> decide) (by rcases (show y = 0 ∨ y = 1 ∨ y = 2 ∨ y = 3 by omega) with rfl | rfl | rfl | rfl <;> decide)
    have ih' := ih M (y + 1) (b || decide (p_by w h c (p_dx y) (p_dy y) ≠ -9 ∧ bt v (p_by w h c (p_dx y) (p_dy y)).toNat = true)) (by omega) (by omega)
    have U : p_nr w h v c (t + 1) y b = p_nr w h v c t (y + 1) (b || decide (p_by w h c (p_dx y) (p_dy y) ≠ -9 ∧ bt v (p_by w h c (p_dx y) (p_dy y)).toNat = true)) := rfl
    rw [U, ← ih', show M + (t + 1) = M + t + 1 by omega, x_exec, t_217_55]
    clear ih' U ih
    generalize p_by w h c (p_dx y) (p_dy y) = o at *
    obtain ⟨X0, X1, X2, X3, Y0, Y1, Y2, Y3⟩ := dxs
    cases b
    · rw [z_f, Bool.false_or]
      by_cases x : o = -9
      · rw [decide_eq_false (show ¬ (o ≠ -9 ∧ bt v o.toNat = true) from fun u => u.1 x), z_f]
        rw [x] at B
        rcases (show y = 0 ∨ y = 1 ∨ y = 2 ∨ y = 3 by omega) with rfl | rfl | rfl | rfl <;> (simp only [X0, X1, X2, X3, Y0, Y1, Y2, Y3] at B) <;> (simp (disch := first | assumption | omega) only [k_add, k_sub, k_mul, k_lt, k_eq, k_lt0, k_0lt, k_eq0, k_nat, k_b0, k_b1, k_z1, k_z0, k_o1, k_o0, Int.reduceEq, Int.reduceLT, Int.reduceLE, Int.reduceAdd, Int.reduceMul, Int.reduceNeg, Bool.false_eq_true, or_true, true_or, or_false, false_or, and_true, true_and, and_false, false_and, not_true_eq_false, not_false_eq_true, ↓reduceIte, z_0, z_k, s_I, s_J, s_uI, s_uJ, ↓c_oc_87, ↓jc1 B])
      · have r' := r.resolve_left x
        have x1 : -2147483648 ≤ o := by omega
        have x2 : o < 2147483648 := by omega
        have H := n_has (d := d + 1) (v := v) (σ := ST L p I J) r'.1 (show o < 32 by omega)
        by_cases z : bt v o.toNat = true
        · rw [show j_z (bt v o.toNat = true) = j_k 1 from if_pos z] at H
          rw [decide_eq_true (show o ≠ -9 ∧ bt v o.toNat = true from ⟨x, z⟩), z_t]
          rcases (show y = 0 ∨ y = 1 ∨ y = 2 ∨ y = 3 by omega) with rfl | rfl | rfl | rfl <;> (simp only [X0, X1, X2, X3, Y0, Y1, Y2, Y3] at B) <;> (simp (disch := first | assumption | omega) only [k_add, k_sub, k_mul, k_lt, k_eq, k_lt0, k_0lt, k_eq0, k_nat, k_b0, k_b1, k_z1, k_z0, k_o1, k_o0, Int.reduceEq, Int.reduceLT, Int.reduceLE, Int.reduceAdd, Int.reduceMul, Int.reduceNeg, Bool.false_eq_true, or_true, true_or, or_false, false_or, and_true, true_and, and_false, false_and, not_true_eq_false, not_false_eq_true, ↓reduceIte, z_0, z_k, s_I, s_J, s_uI, s_uJ, ↓c_oc_87, ↓jc1 B, x, ↓jc1 H])
        · rw [show j_z (bt v o.toNat = true) = j_k 0 from if_neg z] at H
          rw [decide_eq_false (show ¬ (o ≠ -9 ∧ bt v o.toNat = true) from fun u => z u.2), z_f]
          rcases (show y = 0 ∨ y = 1 ∨ y = 2 ∨ y = 3 by omega) with rfl | rfl | rfl | rfl <;> (simp only [X0, X1, X2, X3, Y0, Y1, Y2, Y3] at B) <;> (simp (disch := first | assumption | omega) only [k_add, k_sub, k_mul, k_lt, k_eq, k_lt0, k_0lt, k_eq0, k_nat, k_b0, k_b1, k_z1, k_z0, k_o1, k_o0, Int.reduceEq, Int.reduceLT, Int.reduceLE, Int.reduceAdd, Int.reduceMul, Int.reduceNeg, Bool.false_eq_true, or_true, true_or, or_false, false_or, and_true, true_and, and_false, false_and, not_true_eq_false, not_false_eq_true, ↓reduceIte, z_0, z_k, s_I, s_J, s_uI, s_uJ, ↓c_oc_87, ↓jc1 B, x, ↓jc1 H])
    · rw [Bool.true_or, z_t]
      rcases (show y = 0 ∨ y = 1 ∨ y = 2 ∨ y = 3 by omega) with rfl | rfl | rfl | rfl <;> (simp only [X0, X1, X2, X3, Y0, Y1, Y2, Y3] at B) <;> (simp (disch := first | assumption | omega) only [k_add, k_sub, k_mul, k_lt, k_eq, k_lt0, k_0lt, k_eq0, k_nat, k_b0, k_b1, k_z1, k_z0, k_o1, k_o0, Int.reduceEq, Int.reduceLT, Int.reduceLE, Int.reduceAdd, Int.reduceMul, Int.reduceNeg, Bool.false_eq_true, or_true, true_or, or_false, false_or, and_true, true_and, and_false, false_and, not_true_eq_false, not_false_eq_true, ↓reduceIte, z_0, z_k, s_I, s_J, s_uI, s_uJ, ↓c_oc_87, ↓jc1 B])
theorem n_pass (hm : iMg I w h N n gr kd) {c0 : Int} {v4 v5 : Int32} : ∀ (t M : Nat) (k : Int) (v0 : Int32), 0 ≤ k → k + t = N → ∃ v, j_exec k_217 h_217 (j_run (d + 2)) (M + 6 * t) 40 [some (.ref 87), some (.int (j_k c0)), some (.int (j_z (gt = true))), some (.int v0), some (.int v4), some (.int v5), some (.int (j_k k)), none, none, none] [] (ST L p I J) = j_exec k_217 h_217 (j_run (d + 2)) M 40 [some (.ref 87), some (.int (j_k c0)), some (.int (j_z (gt = true))), some (.int v), some (.int v4), some (.int v5), some (.int (j_k N)), none, none, none] [] (ST L p I J) ∧ (∀ i, mb v0 i → mb v i) ∧ (∀ x y, k ≤ x → x < N → p_og gr gt x → 0 ≤ y → y < 4 → p_by w h x (p_dx y) (p_dy y) ≠ -9 → mb v0 (p_by w h x (p_dx y) (p_dy y)) → mb v x) ∧ (∀ P, clR w h gr gt P → (∀ i, mb v0 i → P i) → ∀ i, mb v i → P i) := by
  obtain ⟨bN0, bN1, -⟩ := bd_N hm.1
  intro t
  induction t with
  | zero =>
    intro M k v0 k1 k2
    refine ⟨v0, ?_, fun _ u => u, fun x y a b => absurd b (by omega), fun P _ u => u⟩
    rw [show k = N by omega]
    rfl
  | succ t ih =>
    intro M k v0 k1 k2
    have z : k < N := by omega
    have k3 : k < 32 := by omega
    have hN := hm.2.2.1
    have e1 : j_exec k_217 h_217 (j_run (d + 2)) (M + 6 * (t + 1)) 40 [some (.ref 87), some (.int (j_k c0)), some (.int (j_z (gt = true))), some (.int v0), some (.int v4), some (.int v5), some (.int (j_k k)), none, none, none] [] (ST L p I J) = j_exec k_217 h_217 (j_run (d + 2)) (M + 6 * t + 1) 55 [some (.ref 87), some (.int (j_k c0)), some (.int (j_z (gt = true))), some (.int v0), some (.int v4), some (.int v5), some (.int (j_k k)), some (.int (j_z (p_nr w h v0 k 4 0 false = true))), some (.int (j_k 4)), none] [] (ST L p I J) := by
      rw [show M + 6 * (t + 1) = (M + 6 * t + 1) + 4 + 1 by omega, x_exec, t_217_40]
      have hs : s_I (ST L p I J) 87 11 = j_k N := hN
      have kz : j_k k < j_k N := by rw [k_lt (by omega) (by omega) (by omega) (by omega)]; exact z
      rw [c_oc_87, hs, if_pos kz]
      have nl := n_nearL (L := L) (p := p) (d := d) (J := J) (c0 := c0) (v := v0) (v4 := v4) (v5 := v5) (g := j_z (gt = true)) hm k1 z 4 (M + 6 * t + 1) 0 false (Int.le_refl 0) (by decide)
      rw [z_f] at nl
      exact nl
    have ni := nr_iff (v := v0) hm.1 k1 z 4 0 false (Int.le_refl 0) (by decide)
    have O := n_open (L := L) (p := p) (d := d + 1) (J := J) (gt := gt) hm k1 z
    have f4 : ¬ (4 : Int) < 4 := by decide
    rw [e1]
    have NO : (∀ y, 0 ≤ y → y < 4 → p_og gr gt k → p_by w h k (p_dx y) (p_dy y) ≠ -9 → ¬ mb v0 (p_by w h k (p_dx y) (p_dy y))) → ∀ v, (∀ i, mb v0 i → mb v i) → (∀ x y, k + 1 ≤ x → x < N → p_og gr gt x → 0 ≤ y → y < 4 → p_by w h x (p_dx y) (p_dy y) ≠ -9 → mb v0 (p_by w h x (p_dx y) (p_dy y)) → mb v x) → ∀ x y, k ≤ x → x < N → p_og gr gt x → 0 ≤ y → y < 4 → p_by w h x (p_dx y) (p_dy y) ≠ -9 → mb v0 (p_by w h x (p_dx y) (p_dy y)) → mb v x := fun no v _ q x y a1 a2 a3 y1 y2 y3 y4 => by
      by_cases xk : x = k
      · subst xk
        exact absurd y4 (no y y1 y2 a3 y3)
      · exact q x y (by omega) a2 a3 y1 y2 y3 y4
    by_cases nr : p_nr w h v0 k 4 0 false = true
    · rw [show j_z (p_nr w h v0 k 4 0 false = true) = j_k 1 from if_pos nr]
      obtain ⟨y, y1, y2, y3, y4⟩ := (ni.mp nr).resolve_left Bool.false_ne_true
      by_cases op : gr k ≠ 1 ∧ gr k ≠ 2 ∧ (gt = true ∨ gr k ≠ 4)
      · rw [show j_z (gr k ≠ 1 ∧ gr k ≠ 2 ∧ (gt = true ∨ gr k ≠ 4)) = j_k 1 from if_pos op] at O
        obtain ⟨v, q1, q2, q3, q4⟩ := ih M (k + 1) (v0 ||| (j_k 1 <<< (j_k k &&& 31))) (by omega) (by omega)
        refine ⟨v, ?_, fun i a => q2 i ((mb_on k1 k3).mpr (Or.inl a)), fun x y' a1 a2 a3 b1 b2 b3 b4 => ?_, fun P hP h0 => q4 P hP (fun i a => ((mb_on k1 k3).mp a).elim (h0 i) (fun b => ?_))⟩
        · rw [x_exec, t_217_55]
          simp (disch := first | assumption | omega) only [k_add, k_sub, k_mul, k_lt, k_eq, k_lt0, k_0lt, k_eq0, k_nat, k_b0, k_b1, k_z1, k_z0, k_o1, k_o0, Int.reduceEq, Int.reduceLT, Int.reduceLE, Int.reduceAdd, Int.reduceMul, Int.reduceNeg, Bool.false_eq_true, or_true, true_or, or_false, false_or, and_true, true_and, and_false, false_and, not_true_eq_false, not_false_eq_true, ↓reduceIte, z_0, z_k, s_I, s_J, s_uI, s_uJ, ↓c_oc_87, f4, ↓jc1 O]
          exact q1
        · by_cases xk : x = k
          · subst xk
            exact q2 _ ((mb_on k1 k3).mpr (Or.inr rfl))
          · exact q3 x y' (by omega) a2 a3 b1 b2 b3 ((mb_on k1 k3).mpr (Or.inl b4))
        · subst b
          obtain ⟨y', c1, c2, c3⟩ := by_sym hm.1 k1 z y1 y2 y3
          have := hP _ y' (h0 _ y4) c1 c2 (by rw [c3]; omega) (by rw [c3]; exact op)
          rwa [c3] at this
      · rw [show j_z (gr k ≠ 1 ∧ gr k ≠ 2 ∧ (gt = true ∨ gr k ≠ 4)) = j_k 0 from if_neg op] at O
        obtain ⟨v, q1, q2, q3, q4⟩ := ih M (k + 1) v0 (by omega) (by omega)
        refine ⟨v, ?_, q2, NO (fun y _ _ a => absurd a op) v q2 q3, q4⟩
        rw [x_exec, t_217_55]
        simp (disch := first | assumption | omega) only [k_add, k_sub, k_mul, k_lt, k_eq, k_lt0, k_0lt, k_eq0, k_nat, k_b0, k_b1, k_z1, k_z0, k_o1, k_o0, Int.reduceEq, Int.reduceLT, Int.reduceLE, Int.reduceAdd, Int.reduceMul, Int.reduceNeg, Bool.false_eq_true, or_true, true_or, or_false, false_or, and_true, true_and, and_false, false_and, not_true_eq_false, not_false_eq_true, ↓reduceIte, z_0, z_k, s_I, s_J, s_uI, s_uJ, ↓c_oc_87, f4, ↓jc1 O, or_z0]
        exact q1
    · rw [show j_z (p_nr w h v0 k 4 0 false = true) = j_k 0 from if_neg nr]
      obtain ⟨v, q1, q2, q3, q4⟩ := ih M (k + 1) v0 (by omega) (by omega)
      refine ⟨v, ?_, q2, NO (fun y y1 y2 _ y3 y4 => nr (ni.mpr (Or.inr ⟨y, y1, y2, y3, y4⟩))) v q2 q3, q4⟩
      rw [x_exec, t_217_55]
      simp (disch := first | assumption | omega) only [k_add, k_sub, k_mul, k_lt, k_eq, k_lt0, k_0lt, k_eq0, k_nat, k_b0, k_b1, k_z1, k_z0, k_o1, k_o0, Int.reduceEq, Int.reduceLT, Int.reduceLE, Int.reduceAdd, Int.reduceMul, Int.reduceNeg, Bool.false_eq_true, or_true, true_or, or_false, false_or, and_true, true_and, and_false, false_and, not_true_eq_false, not_false_eq_true, ↓reduceIte, z_0, z_k, s_I, s_J, s_uI, s_uJ, ↓c_oc_87, f4, or_z0]
      exact q1
theorem n_reached (hm : iMg I w h N n gr kd) {c : Int} (c1 : 0 ≤ c) (c2 : c < N) : ∃ v, j_run (d + 3) 217 [.ref 87, .int (j_k c), .int (j_z (gt = true))] (ST L p I J) = some (some (.int v), ST L p I J) ∧ isR w h gr gt c v := by
  have hC := hm.1
  obtain ⟨bN0, bN1, -⟩ := bd_N hC
  have hN := hm.2.2.1
  have c3 : c < 30 := by omega
  have gv := hm.2.2.2.2.2 c c1 c2
  have gb := hC.2.2.2.2.1 c c1 c2
  have loop : ∀ (t M : Nat) (v : Int32), N.toNat ≤ p_cn v N.toNat + t → 200 * t + 200 < M → (∀ i, mb v i → 0 ≤ i ∧ i < N) →
      ∃ v', j_exec k_217 h_217 (j_run (d + 2)) M 29 [some (.ref 87), some (.int (j_k c)), some (.int (j_z (gt = true))), some (.int v), some (.int (j_k 1)), none, none, none, none, none] [] (ST L p I J) = some (some (.int v'), ST L p I J) ∧ (∀ i, mb v i → mb v' i) ∧ (∀ x y, 0 ≤ x → x < N → mb v' x → 0 ≤ y → y < 4 → p_by w h x (p_dx y) (p_dy y) ≠ -9 → p_og gr gt (p_by w h x (p_dx y) (p_dy y)) → mb v' (p_by w h x (p_dx y) (p_dy y))) ∧ (∀ P, clR w h gr gt P → (∀ i, mb v i → P i) → ∀ i, mb v' i → P i) := by
    intro t
    induction t with
    | zero =>
      intro M v hcn hM h3
      obtain ⟨M, rfl⟩ : ∃ q, M = q + 4 + 6 * N.toNat := ⟨M - 4 - 6 * N.toNat, by omega⟩
      obtain ⟨u, e1, e2, e3, e4⟩ := n_pass (L := L) (p := p) (d := d) (J := J) (gt := gt) (c0 := c) (v4 := j_k 1) (v5 := v) hm N.toNat (M + 3) 0 v (Int.le_refl 0) (by omega)
      have h3' : ∀ i, mb u i → 0 ≤ i ∧ i < N := e4 _ (cl_rg hC) h3
      have eq : u = v := Classical.byContradiction fun w1 => by
        have ex : ∃ i, mb u i ∧ ¬ mb v i := Classical.byContradiction fun no => w1 (mb_ext fun i => ⟨fun a => Classical.byContradiction fun b => no ⟨i, a, b⟩, e2 i⟩)
        obtain ⟨i, i1, i2⟩ := ex
        have i3 := h3' i i1
        have cl := cn_lt (v := v) (v' := u) (fun j hj => by
          by_cases j3 : j < 32
          · have t : ((j : Nat) : Int).toNat = j := by omega
            have := (e2 j ⟨by omega, by omega, by rw [t]; exact hj⟩).2.2
            rw [t] at this
            exact this
          · rw [b_big (by omega)] at hj
            exact absurd hj (by decide)) (j := i.toNat) i1.2.2 (fun y => i2 ⟨i1.1, i1.2.1, y⟩) N.toNat (by omega)
        have := cn_le u N.toNat
        omega
      subst eq
      refine ⟨u, ?_, fun _ a => a, fun x y a1 a2 a3 y1 y2 y3 y4 => ?_, fun _ _ a => a⟩
      · have z : ¬ N < N := by omega
        rw [show M + 4 + 6 * N.toNat = (M + 3 + 6 * N.toNat) + 1 by omega, x_exec, t_217_29]
        simp (disch := first | assumption | omega) only [k_add, k_sub, k_mul, k_lt, k_eq, k_lt0, k_0lt, k_eq0, k_nat, k_b0, k_b1, k_z1, k_z0, k_o1, k_o0, Int.reduceEq, Int.reduceLT, Int.reduceLE, Int.reduceAdd, Int.reduceMul, Int.reduceNeg, Bool.false_eq_true, or_true, true_or, or_false, false_or, and_true, true_and, and_false, false_and, not_true_eq_false, not_false_eq_true, ↓reduceIte, z_0, z_k, s_I, s_J, s_uI, s_uJ, ]
        rw [e1, x_exec, t_217_40]
        simp (disch := first | assumption | omega) only [k_add, k_sub, k_mul, k_lt, k_eq, k_lt0, k_0lt, k_eq0, k_nat, k_b0, k_b1, k_z1, k_z0, k_o1, k_o0, Int.reduceEq, Int.reduceLT, Int.reduceLE, Int.reduceAdd, Int.reduceMul, Int.reduceNeg, Bool.false_eq_true, or_true, true_or, or_false, false_or, and_true, true_and, and_false, false_and, not_true_eq_false, not_false_eq_true, ↓reduceIte, z_0, z_k, s_I, s_J, s_uI, s_uJ, ↓c_oc_87, hN, z]
        rw [x_exec, t_217_29]
        simp (disch := first | assumption | omega) only [k_add, k_sub, k_mul, k_lt, k_eq, k_lt0, k_0lt, k_eq0, k_nat, k_b0, k_b1, k_z1, k_z0, k_o1, k_o0, Int.reduceEq, Int.reduceLT, Int.reduceLE, Int.reduceAdd, Int.reduceMul, Int.reduceNeg, Bool.false_eq_true, or_true, true_or, or_false, false_or, and_true, true_and, and_false, false_and, not_true_eq_false, not_false_eq_true, ↓reduceIte, z_0, z_k, s_I, s_J, s_uI, s_uJ, ]
      · have ok := (by_ok hC a1 a2 y1 y2).resolve_left y3
        obtain ⟨y', b1, b2, b3⟩ := by_sym hC a1 a2 y1 y2 y3
        exact e3 _ y' ok.1 ok.2 y4 b1 b2 (by rw [b3]; omega) (by rw [b3]; exact a3)
    | succ t ih =>
      intro M v hcn hM h3
      obtain ⟨M, rfl⟩ : ∃ q, M = q + 4 + 6 * N.toNat := ⟨M - 4 - 6 * N.toNat, by omega⟩
      obtain ⟨u, e1, e2, e3, e4⟩ := n_pass (L := L) (p := p) (d := d) (J := J) (gt := gt) (c0 := c) (v4 := j_k 1) (v5 := v) hm N.toNat (M + 3) 0 v (Int.le_refl 0) (by omega)
      have h3' : ∀ i, mb u i → 0 ≤ i ∧ i < N := e4 _ (cl_rg hC) h3
      have z : ¬ N < N := by omega
      by_cases eq : u = v
      · subst eq
        refine ⟨u, ?_, fun _ a => a, fun x y a1 a2 a3 y1 y2 y3 y4 => ?_, fun _ _ a => a⟩
        · rw [show M + 4 + 6 * N.toNat = (M + 3 + 6 * N.toNat) + 1 by omega, x_exec, t_217_29]
          simp (disch := first | assumption | omega) only [k_add, k_sub, k_mul, k_lt, k_eq, k_lt0, k_0lt, k_eq0, k_nat, k_b0, k_b1, k_z1, k_z0, k_o1, k_o0, Int.reduceEq, Int.reduceLT, Int.reduceLE, Int.reduceAdd, Int.reduceMul, Int.reduceNeg, Bool.false_eq_true, or_true, true_or, or_false, false_or, and_true, true_and, and_false, false_and, not_true_eq_false, not_false_eq_true, ↓reduceIte, z_0, z_k, s_I, s_J, s_uI, s_uJ, ]
          rw [e1, x_exec, t_217_40]
          simp (disch := first | assumption | omega) only [k_add, k_sub, k_mul, k_lt, k_eq, k_lt0, k_0lt, k_eq0, k_nat, k_b0, k_b1, k_z1, k_z0, k_o1, k_o0, Int.reduceEq, Int.reduceLT, Int.reduceLE, Int.reduceAdd, Int.reduceMul, Int.reduceNeg, Bool.false_eq_true, or_true, true_or, or_false, false_or, and_true, true_and, and_false, false_and, not_true_eq_false, not_false_eq_true, ↓reduceIte, z_0, z_k, s_I, s_J, s_uI, s_uJ, ↓c_oc_87, hN, z]
          rw [x_exec, t_217_29]
          simp (disch := first | assumption | omega) only [k_add, k_sub, k_mul, k_lt, k_eq, k_lt0, k_0lt, k_eq0, k_nat, k_b0, k_b1, k_z1, k_z0, k_o1, k_o0, Int.reduceEq, Int.reduceLT, Int.reduceLE, Int.reduceAdd, Int.reduceMul, Int.reduceNeg, Bool.false_eq_true, or_true, true_or, or_false, false_or, and_true, true_and, and_false, false_and, not_true_eq_false, not_false_eq_true, ↓reduceIte, z_0, z_k, s_I, s_J, s_uI, s_uJ, ]
        · have ok := (by_ok hC a1 a2 y1 y2).resolve_left y3
          obtain ⟨y', b1, b2, b3⟩ := by_sym hC a1 a2 y1 y2 y3
          exact e3 _ y' ok.1 ok.2 y4 b1 b2 (by rw [b3]; omega) (by rw [b3]; exact a3)
      · have ex : ∃ i, mb u i ∧ ¬ mb v i := Classical.byContradiction fun no => eq (mb_ext fun i => ⟨fun a => Classical.byContradiction fun b => no ⟨i, a, b⟩, e2 i⟩)
        obtain ⟨i, i1, i2⟩ := ex
        have i3 := h3' i i1
        have cl := cn_lt (v := v) (v' := u) (fun j hj => by
          by_cases j3 : j < 32
          · have t : ((j : Nat) : Int).toNat = j := by omega
            have := (e2 j ⟨by omega, by omega, by rw [t]; exact hj⟩).2.2
            rw [t] at this
            exact this
          · rw [b_big (by omega)] at hj
            exact absurd hj (by decide)) (j := i.toNat) i1.2.2 (fun y => i2 ⟨i1.1, i1.2.1, y⟩) N.toNat (by omega)
        obtain ⟨v', f1, f2', f3, f4⟩ := ih (M + 2) u (by omega) (by omega) h3'
        refine ⟨v', ?_, fun i a => f2' i (e2 i a), f3, fun P hP h0 => f4 P hP (e4 P hP h0)⟩
        rw [show M + 4 + 6 * N.toNat = (M + 3 + 6 * N.toNat) + 1 by omega, x_exec, t_217_29]
        simp (disch := first | assumption | omega) only [k_add, k_sub, k_mul, k_lt, k_eq, k_lt0, k_0lt, k_eq0, k_nat, k_b0, k_b1, k_z1, k_z0, k_o1, k_o0, Int.reduceEq, Int.reduceLT, Int.reduceLE, Int.reduceAdd, Int.reduceMul, Int.reduceNeg, Bool.false_eq_true, or_true, true_or, or_false, false_or, and_true, true_and, and_false, false_and, not_true_eq_false, not_false_eq_true, ↓reduceIte, z_0, z_k, s_I, s_J, s_uI, s_uJ, ]
        rw [e1, x_exec, t_217_40]
        simp (disch := first | assumption | omega) only [k_add, k_sub, k_mul, k_lt, k_eq, k_lt0, k_0lt, k_eq0, k_nat, k_b0, k_b1, k_z1, k_z0, k_o1, k_o0, Int.reduceEq, Int.reduceLT, Int.reduceLE, Int.reduceAdd, Int.reduceMul, Int.reduceNeg, Bool.false_eq_true, or_true, true_or, or_false, false_or, and_true, true_and, and_false, false_and, not_true_eq_false, not_false_eq_true, ↓reduceIte, z_0, z_k, s_I, s_J, s_uI, s_uJ, ↓c_oc_87, hN, z]
        rw [if_neg eq]
        exact f1
  have e := (r_217 (d + 2) (ST L p I J) 87 (j_k c) (j_z (gt = true))).trans (t_217_0 _ _ _ _ _ _)
  by_cases o : gr c ≠ 1 ∧ gr c ≠ 2
  · have o1 : ¬ gr c = 1 := o.1
    have o2 : ¬ gr c = 2 := o.2
    have m1 : ∀ i, mb (j_k 1 <<< (j_k c &&& 31)) i ↔ i = c := fun i => mb_1 c1 (by omega)
    have mc : mb (j_k 1 <<< (j_k c &&& 31)) c := (m1 c).mpr rfl
    obtain ⟨M, hM, hM2⟩ : ∃ M, M = 999999 ∧ 200 * 30 + 200 < M := ⟨999999, rfl, by decide⟩
    obtain ⟨v, e1, e2, e3, e4⟩ := loop N.toNat M (j_k 1 <<< (j_k c &&& 31)) (by omega) (by omega) (fun i a => by rw [(m1 i).mp a]; exact ⟨c1, c2⟩)
    refine ⟨v, ?_, fun i => ⟨fun a => ⟨o, fun P pc cl => e4 P cl (fun i b => by rw [(m1 i).mp b]; exact pc) i a⟩, fun a => ?_⟩⟩
    · rw [← hM] at e
      simp (disch := first | assumption | omega) only [k_add, k_sub, k_mul, k_lt, k_eq, k_lt0, k_0lt, k_eq0, k_nat, k_b0, k_b1, k_z1, k_z0, k_o1, k_o0, Int.reduceEq, Int.reduceLT, Int.reduceLE, Int.reduceAdd, Int.reduceMul, Int.reduceNeg, Bool.false_eq_true, or_true, true_or, or_false, false_or, and_true, true_and, and_false, false_and, not_true_eq_false, not_false_eq_true, ↓reduceIte, z_0, z_k, s_I, s_J, s_uI, s_uJ, ↓c_gP_87_12, ↓c_ia_94, gv, o1, o2] at e
      exact e.trans e1
    · exact (a.2 (fun i => mb v i ∧ 0 ≤ i ∧ i < N) ⟨e2 c mc, c1, c2⟩ (fun a y ha y1 y2 y3 y4 => ⟨e3 a y ha.2.1 ha.2.2 ha.1 y1 y2 y3 y4, (by_ok hC ha.2.1 ha.2.2 y1 y2).resolve_left y3⟩)).1
  · refine ⟨j_k 0, ?_, fun i => ⟨fun a => absurd a mb_0, fun a => absurd a.1 o⟩⟩
    by_cases o1 : gr c = 1
    · simp (disch := first | assumption | omega) only [k_add, k_sub, k_mul, k_lt, k_eq, k_lt0, k_0lt, k_eq0, k_nat, k_b0, k_b1, k_z1, k_z0, k_o1, k_o0, Int.reduceEq, Int.reduceLT, Int.reduceLE, Int.reduceAdd, Int.reduceMul, Int.reduceNeg, Bool.false_eq_true, or_true, true_or, or_false, false_or, and_true, true_and, and_false, false_and, not_true_eq_false, not_false_eq_true, ↓reduceIte, z_0, z_k, s_I, s_J, s_uI, s_uJ, ↓c_gP_87_12, ↓c_ia_94, gv, o1] at e
      exact e
    · have o2 : gr c = 2 := Decidable.byContradiction (fun u => o ⟨o1, u⟩)
      simp (disch := first | assumption | omega) only [k_add, k_sub, k_mul, k_lt, k_eq, k_lt0, k_0lt, k_eq0, k_nat, k_b0, k_b1, k_z1, k_z0, k_o1, k_o0, Int.reduceEq, Int.reduceLT, Int.reduceLE, Int.reduceAdd, Int.reduceMul, Int.reduceNeg, Bool.false_eq_true, or_true, true_or, or_false, false_or, and_true, true_and, and_false, false_and, not_true_eq_false, not_false_eq_true, ↓reduceIte, z_0, z_k, s_I, s_J, s_uI, s_uJ, ↓c_gP_87_12, ↓c_ia_94, gv, o1, o2] at e
      exact e
end MREACH
section MCALLS7
variable {L p d : Nat} {I : Nat → Nat → Int32} {J : Nat → Nat → Int64} {A : Ast}
theorem n_reach (hx : iM I J A) {c b : Int} (h1 : -2147483648 ≤ c) (h2 : c < 2147483648) (h3 : -2147483648 ≤ b) (h4 : b < 2147483648) : ∃ v : Int32, ((0 ≤ c ∧ c < a_N A) ∧ 0 ≤ b ∧ b ≤ 1 → isR (a_gw A) (a_gh A) (a_gr A) (decide (b = 1)) c v) ∧ (¬ ((0 ≤ c ∧ c < a_N A) ∧ 0 ≤ b ∧ b ≤ 1) → v = j_k (-1)) ∧ j_run (d + 4) 218 [.ref 87, .int (j_k c), .int (j_k b)] (ST L p I J) = some (some (.int v), ST L p I J) := by
  have hC := hx.1.1
  have ho := hx.1.2.1
  have hm := hx.2.2.2.1
  have hf := hx.2.2.2.2.1
  have n0 := hC.2.2.1
  have n4 := hC.2.2.2.1
  have hw := hm.2.1
  have hN := hm.2.2.1
  have hn := hm.2.2.2.1
  have hk := hm.2.2.2.2.1
  have hg := hm.2.2.2.2.2
  obtain ⟨bN0, bN1, -⟩ := bd_N hC
  have a1 := n_isCell (L := L) (p := p) (d := d + 1) (J := J) hN bN0 bN1 h1 h2
  have a2 := n_in (L := L) (p := p) (d := d + 2) (I := I) (J := J) (v := b) (lo := 0) (hi := 1) h3 h4 (by decide) (by decide) (by decide) (by decide)
  have e := (r_218 (d + 3) (ST L p I J) 87 (j_k c) (j_k b)).trans (t_218_0 _ _ _ _ _ _)
  by_cases x : 0 ≤ c ∧ c ≤ a_N A - 1
  · have z : j_z (0 ≤ c ∧ c ≤ a_N A - 1) = j_k 1 := if_pos x
    rw [z] at a1
    have c3 : c < a_N A := by omega
    by_cases y : 0 ≤ b ∧ b ≤ 1
    · have z2 : j_z (0 ≤ b ∧ b ≤ 1) = j_k 1 := if_pos y
      rw [z2] at a2
      by_cases w : b = 1
      · obtain ⟨v, q2, q3⟩ := n_reached (L := L) (p := p) (d := d) (J := J) (gt := true) hm x.1 c3
        rw [z_t] at q2
        refine ⟨v, fun _ => by rw [decide_eq_true w]; exact q3, fun u => absurd ⟨⟨x.1, c3⟩, y⟩ u, ?_⟩
        simp (disch := first | assumption | omega) only [k_add, k_sub, k_mul, k_lt, k_eq, k_lt0, k_0lt, k_eq0, k_nat, k_b0, k_b1, k_z1, k_z0, k_o1, k_o0, Int.reduceEq, Int.reduceLT, Int.reduceLE, Int.reduceAdd, Int.reduceMul, Int.reduceNeg, Bool.false_eq_true, or_true, true_or, or_false, false_or, and_true, true_and, and_false, false_and, not_true_eq_false, not_false_eq_true, ↓reduceIte, z_0, z_k, s_I, s_J, s_uI, s_uJ, ↓c_oc_87, ↓jc1 a1, ↓jc1 a2, w, ↓jc1 q2] at e
        rw [w]
        exact e
      · obtain ⟨v, q2, q3⟩ := n_reached (L := L) (p := p) (d := d) (J := J) (gt := false) hm x.1 c3
        rw [z_f] at q2
        refine ⟨v, fun _ => by rw [decide_eq_false w]; exact q3, fun u => absurd ⟨⟨x.1, c3⟩, y⟩ u, ?_⟩
        simp (disch := first | assumption | omega) only [k_add, k_sub, k_mul, k_lt, k_eq, k_lt0, k_0lt, k_eq0, k_nat, k_b0, k_b1, k_z1, k_z0, k_o1, k_o0, Int.reduceEq, Int.reduceLT, Int.reduceLE, Int.reduceAdd, Int.reduceMul, Int.reduceNeg, Bool.false_eq_true, or_true, true_or, or_false, false_or, and_true, true_and, and_false, false_and, not_true_eq_false, not_false_eq_true, ↓reduceIte, z_0, z_k, s_I, s_J, s_uI, s_uJ, ↓c_oc_87, ↓jc1 a1, ↓jc1 a2, w, ↓jc1 q2] at e
        exact e
    · have z2 : j_z (0 ≤ b ∧ b ≤ 1) = j_k 0 := if_neg y
      rw [z2] at a2
      refine ⟨j_k (-1), fun u => absurd u.2 y, fun _ => rfl, ?_⟩
      simp (disch := first | assumption | omega) only [k_add, k_sub, k_mul, k_lt, k_eq, k_lt0, k_0lt, k_eq0, k_nat, k_b0, k_b1, k_z1, k_z0, k_o1, k_o0, Int.reduceEq, Int.reduceLT, Int.reduceLE, Int.reduceAdd, Int.reduceMul, Int.reduceNeg, Bool.false_eq_true, or_true, true_or, or_false, false_or, and_true, true_and, and_false, false_and, not_true_eq_false, not_false_eq_true, ↓reduceIte, z_0, z_k, s_I, s_J, s_uI, s_uJ, ↓c_oc_87, ↓jc1 a1, ↓jc1 a2] at e
      exact e
  · have z : j_z (0 ≤ c ∧ c ≤ a_N A - 1) = j_k 0 := if_neg x
    rw [z] at a1
    refine ⟨j_k (-1), fun u => absurd u.1 (by omega), fun _ => rfl, ?_⟩
    simp (disch := first | assumption | omega) only [k_add, k_sub, k_mul, k_lt, k_eq, k_lt0, k_0lt, k_eq0, k_nat, k_b0, k_b1, k_z1, k_z0, k_o1, k_o0, Int.reduceEq, Int.reduceLT, Int.reduceLE, Int.reduceAdd, Int.reduceMul, Int.reduceNeg, Bool.false_eq_true, or_true, true_or, or_false, false_or, and_true, true_and, and_false, false_and, not_true_eq_false, not_false_eq_true, ↓reduceIte, z_0, z_k, s_I, s_J, s_uI, s_uJ, ↓c_oc_87, ↓jc1 a1] at e
    exact e
theorem n_never (hx : iM I J A) {rb : Int → Int → Bool} (hrb : okR A rb) : mc L p I J (d + 4) 219 [.ref 87] (p_never rb A) := by
  have hC := hx.1.1
  have ho := hx.1.2.1
  have hm := hx.2.2.2.1
  have hf := hx.2.2.2.2.1
  have n0 := hC.2.2.1
  have n4 := hC.2.2.2.1
  have hw := hm.2.1
  have hN := hm.2.2.1
  have hn := hm.2.2.2.1
  have hk := hm.2.2.2.2.1
  have hg := hm.2.2.2.2.2
  obtain ⟨bN0, bN1, -⟩ := bd_N hC
  have e := (r_219 (d + 3) (ST L p I J) 87).trans (t_219_0 _ _ _ _)
  have inner : ∀ (t M : Nat) (k j : Int) (s : Int × Int), 0 ≤ k → k < a_gn A → k < j → j + t = a_gn A → 0 ≤ s.1 → s.1 ≤ 4 * k + j - k →
      j_exec k_219 h_219 (j_run (d + 3)) (M + t + 1) 20 [some (.ref 87), some (.int (j_k s.1)), some (.int (j_k s.2)), some (.int (j_k k)), some (.int (j_k j))] [] (ST L p I J) = j_exec k_219 h_219 (j_run (d + 3)) M 7 [some (.ref 87), some (.int (j_k (if a_fl A (5 + k) = -9 then s else p_loop (p_nevI rb (a_fl A) k) t j s).1)), some (.int (j_k (if a_fl A (5 + k) = -9 then s else p_loop (p_nevI rb (a_fl A) k) t j s).2)), some (.int (j_k (k + 1))), none] [] (ST L p I J) ∧ 0 ≤ (if a_fl A (5 + k) = -9 then s else p_loop (p_nevI rb (a_fl A) k) t j s).1 ∧ (if a_fl A (5 + k) = -9 then s else p_loop (p_nevI rb (a_fl A) k) t j s).1 ≤ 4 * (k + 1) := by
    intro t
    induction t with
    | zero =>
      intro M k j s k1 k2 j1 j2 s1 s2
      have z : ¬ j < a_gn A := by omega
      have E : (if a_fl A (5 + k) = -9 then s else p_loop (p_nevI rb (a_fl A) k) 0 j s) = s := by
        split <;> rfl
      rw [E]
      refine ⟨?_, s1, by omega⟩
      rw [x_exec, t_219_20]
      simp (disch := first | assumption | omega) only [k_add, k_sub, k_mul, k_lt, k_eq, k_lt0, k_0lt, k_eq0, k_nat, k_b0, k_b1, k_z1, k_z0, k_o1, k_o0, Int.reduceEq, Int.reduceLT, Int.reduceLE, Int.reduceAdd, Int.reduceMul, Int.reduceNeg, Bool.false_eq_true, or_true, true_or, or_false, false_or, and_true, true_and, and_false, false_and, not_true_eq_false, not_false_eq_true, ↓reduceIte, z_0, z_k, s_I, s_J, s_uI, s_uJ, ↓c_oc_87, hn, z]
    | succ t ih =>
      intro M k j s k1 k2 j1 j2 s1 s2
      have z : j < a_gn A := by omega
      have j0 : 0 ≤ j := by omega
      have lk := n_isLost (L := L) (p := p) (d := d + 1) (J := J) (k := 0) (by decide) (by decide) hf ho bN1 k1 k2 n4
      have lj := n_isLost (L := L) (p := p) (d := d + 1) (J := J) (k := 0) (by decide) (by decide) hf ho bN1 j0 z n4
      rw [show M + (t + 1) + 1 = (M + t + 1) + 1 by omega, x_exec, t_219_20, p_loopS]
      by_cases xk : a_fl A (5 + k) = -9
      · have x1 : j_z (a_fl A (5 + k) = -9) = j_k 1 := if_pos xk
        rw [x1] at lk
        have ih0 := ih M k (j + 1) s k1 k2 (by omega) (by omega) s1 (by omega)
        rw [if_pos xk] at ih0
        rw [if_pos xk]
        refine ⟨?_, ih0.2⟩
        simp (disch := first | assumption | omega) only [k_add, k_sub, k_mul, k_lt, k_eq, k_lt0, k_0lt, k_eq0, k_nat, k_b0, k_b1, k_z1, k_z0, k_o1, k_o0, Int.reduceEq, Int.reduceLT, Int.reduceLE, Int.reduceAdd, Int.reduceMul, Int.reduceNeg, Bool.false_eq_true, or_true, true_or, or_false, false_or, and_true, true_and, and_false, false_and, not_true_eq_false, not_false_eq_true, ↓reduceIte, z_0, z_k, s_I, s_J, s_uI, s_uJ, ↓c_oc_87, hn, z, ↓jc1 lk]
        exact ih0.1
      · have x1 : j_z (a_fl A (5 + k) = -9) = j_k 0 := if_neg xk
        rw [x1] at lk
        rw [if_neg xk]
        by_cases x : a_fl A (5 + j) = -9
        · have x1 : j_z (a_fl A (5 + j) = -9) = j_k 1 := if_pos x
          rw [x1] at lj
          have eb : p_nevI rb (a_fl A) k j s = s := if_pos (Or.inl x)
          have ih0 := ih M k (j + 1) s k1 k2 (by omega) (by omega) s1 (by omega)
          rw [if_neg xk] at ih0
          rw [eb]
          refine ⟨?_, ih0.2⟩
          simp (disch := first | assumption | omega) only [k_add, k_sub, k_mul, k_lt, k_eq, k_lt0, k_0lt, k_eq0, k_nat, k_b0, k_b1, k_z1, k_z0, k_o1, k_o0, Int.reduceEq, Int.reduceLT, Int.reduceLE, Int.reduceAdd, Int.reduceMul, Int.reduceNeg, Bool.false_eq_true, or_true, true_or, or_false, false_or, and_true, true_and, and_false, false_and, not_true_eq_false, not_false_eq_true, ↓reduceIte, z_0, z_k, s_I, s_J, s_uI, s_uJ, ↓c_oc_87, hn, z, ↓jc1 lk, ↓jc1 lj]
          exact ih0.1
        · have x1 : j_z (a_fl A (5 + j) = -9) = j_k 0 := if_neg x
          rw [x1] at lj
          have ck := (ho.1 k k1 k2).resolve_left xk
          have cj := (ho.1 j j0 z).resolve_left x
          have cj1 := cj.1
          have cj2 : a_fl A (5 + j) < 32 := by omega
          have rbe := hrb k j k1 k2 j0 z xk x
          obtain ⟨v, q2, q3⟩ := n_reached (L := L) (p := p) (d := d) (J := J) (gt := true) hm ck.1 ck.2
          rw [z_t] at q2
          have vk := n_v (L := L) (p := p) (d := d + 2) (I := I) (J := J) (k := 0) (j := 5 + k) (by decide) (by decide) (by omega) (by omega)
          have vj := n_v (L := L) (p := p) (d := d + 2) (I := I) (J := J) (k := 0) (j := 5 + j) (by decide) (by decide) (by omega) (by omega)
          rw [hf.2.1 k k1 k2] at vk
          rw [hf.2.1 j j0 z] at vj
          have H := n_has (d := d + 2) (v := v) (σ := ST L p I J) cj1 cj2
          by_cases y : rb k j = true
          · have eb : p_nevI rb (a_fl A) k j s = s := if_pos (Or.inr y)
            have bv : bt v (a_fl A (5 + j)).toNat = true := ((q3 _).mpr (rbe.mp y)).2.2
            rw [show j_z (bt v (a_fl A (5 + j)).toNat = true) = j_k 1 from if_pos bv] at H
            have ih0 := ih M k (j + 1) s k1 k2 (by omega) (by omega) s1 (by omega)
            rw [if_neg xk] at ih0
            rw [eb]
            refine ⟨?_, ih0.2⟩
            simp (disch := first | assumption | omega) only [k_add, k_sub, k_mul, k_lt, k_eq, k_lt0, k_0lt, k_eq0, k_nat, k_b0, k_b1, k_z1, k_z0, k_o1, k_o0, Int.reduceEq, Int.reduceLT, Int.reduceLE, Int.reduceAdd, Int.reduceMul, Int.reduceNeg, Bool.false_eq_true, or_true, true_or, or_false, false_or, and_true, true_and, and_false, false_and, not_true_eq_false, not_false_eq_true, ↓reduceIte, z_0, z_k, s_I, s_J, s_uI, s_uJ, ↓c_oc_87, hn, z, ↓jc1 lk, ↓jc1 lj, ↓jc1 vk, ↓jc1 q2, ↓jc1 vj, ↓jc1 H]
            exact ih0.1
          · have eb : p_nevI rb (a_fl A) k j s = (s.1 + 1, if s.1 = 0 then 10 * k + j else s.2) := if_neg (fun u => u.elim x y)
            have bv : ¬ bt v (a_fl A (5 + j)).toNat = true := fun u => y (rbe.mpr ((q3 _).mp ⟨cj1, cj2, u⟩))
            rw [show j_z (bt v (a_fl A (5 + j)).toNat = true) = j_k 0 from if_neg bv] at H
            rw [eb]
            by_cases u : s.1 = 0
            · have ih2 := ih M k (j + 1) (s.1 + 1, 10 * k + j) k1 k2 (by omega) (by omega) (by show 0 ≤ s.1 + 1; omega) (by show s.1 + 1 ≤ 4 * k + (j + 1) - k; omega)
              rw [if_neg xk] at ih2
              rw [if_pos u]
              refine ⟨?_, ih2.2⟩
              simp (disch := first | assumption | omega) only [k_add, k_sub, k_mul, k_lt, k_eq, k_lt0, k_0lt, k_eq0, k_nat, k_b0, k_b1, k_z1, k_z0, k_o1, k_o0, Int.reduceEq, Int.reduceLT, Int.reduceLE, Int.reduceAdd, Int.reduceMul, Int.reduceNeg, Bool.false_eq_true, or_true, true_or, or_false, false_or, and_true, true_and, and_false, false_and, not_true_eq_false, not_false_eq_true, ↓reduceIte, z_0, z_k, s_I, s_J, s_uI, s_uJ, ↓c_oc_87, hn, z, ↓jc1 lk, ↓jc1 lj, ↓jc1 vk, ↓jc1 q2, ↓jc1 vj, ↓jc1 H, u]
              rw [u] at ih2
              exact ih2.1
            · have ih2 := ih M k (j + 1) (s.1 + 1, s.2) k1 k2 (by omega) (by omega) (by show 0 ≤ s.1 + 1; omega) (by show s.1 + 1 ≤ 4 * k + (j + 1) - k; omega)
              rw [if_neg xk] at ih2
              rw [if_neg u]
              refine ⟨?_, ih2.2⟩
              simp (disch := first | assumption | omega) only [k_add, k_sub, k_mul, k_lt, k_eq, k_lt0, k_0lt, k_eq0, k_nat, k_b0, k_b1, k_z1, k_z0, k_o1, k_o0, Int.reduceEq, Int.reduceLT, Int.reduceLE, Int.reduceAdd, Int.reduceMul, Int.reduceNeg, Bool.false_eq_true, or_true, true_or, or_false, false_or, and_true, true_and, and_false, false_and, not_true_eq_false, not_false_eq_true, ↓reduceIte, z_0, z_k, s_I, s_J, s_uI, s_uJ, ↓c_oc_87, hn, z, ↓jc1 lk, ↓jc1 lj, ↓jc1 vk, ↓jc1 q2, ↓jc1 vj, ↓jc1 H, u]
              exact ih2.1
  have outer : ∀ (t M : Nat) (k : Int) (s : Int × Int), 0 ≤ k → k + t = a_gn A → 0 ≤ s.1 → s.1 ≤ 4 * k → j_exec k_219 h_219 (j_run (d + 3)) (M + 20 * t + 1) 7 [some (.ref 87), some (.int (j_k s.1)), some (.int (j_k s.2)), some (.int (j_k k)), none] [] (ST L p I J) = some (some (.int (j_k (p_loop (p_nevO rb (a_gn A) (a_fl A)) t k s).1)), ST L p (u2 I 87 2 (j_k (p_loop (p_nevO rb (a_gn A) (a_fl A)) t k s).2)) J) := by
    intro t
    induction t with
    | zero =>
      intro M k s k1 k2 s1 s2
      have z : ¬ k < a_gn A := by omega
      have T := n_tells (L := L) (p := p) (d := d + 2) (I := I) (J := J) (v := j_k s.2) (x := j_k s.1)
      rw [x_exec, t_219_7]
      simp (disch := first | assumption | omega) only [k_add, k_sub, k_mul, k_lt, k_eq, k_lt0, k_0lt, k_eq0, k_nat, k_b0, k_b1, k_z1, k_z0, k_o1, k_o0, Int.reduceEq, Int.reduceLT, Int.reduceLE, Int.reduceAdd, Int.reduceMul, Int.reduceNeg, Bool.false_eq_true, or_true, true_or, or_false, false_or, and_true, true_and, and_false, false_and, not_true_eq_false, not_false_eq_true, ↓reduceIte, z_0, z_k, s_I, s_J, s_uI, s_uJ, ↓c_oc_87, hn, z, ↓jc1 T]
      rfl
    | succ t ih =>
      intro M k s k1 k2 s1 s2
      have z : k < a_gn A := by omega
      rw [show M + 20 * (t + 1) + 1 = (M + 19 + 20 * t + 1) + 1 by omega, x_exec, t_219_7, p_loopS]
      obtain ⟨M2, hM2⟩ : ∃ q, M + 19 + 20 * t + 1 = (q + 20 * t + 1) + (a_gn A - (k + 1)).toNat + 1 := ⟨M + 18 - (a_gn A - (k + 1)).toNat, by omega⟩
      obtain ⟨i1, i2, i3⟩ := inner (a_gn A - (k + 1)).toNat (M2 + 20 * t + 1) k (k + 1) s k1 z (by omega) (by omega) s1 (by omega)
      have eb : p_nevO rb (a_gn A) (a_fl A) k s = (if a_fl A (5 + k) = -9 then s else p_loop (p_nevI rb (a_fl A) k) (a_gn A - (k + 1)).toNat (k + 1) s) := rfl
      rw [← eb] at i1 i2 i3
      rw [hM2]
      simp (disch := first | assumption | omega) only [k_add, k_sub, k_mul, k_lt, k_eq, k_lt0, k_0lt, k_eq0, k_nat, k_b0, k_b1, k_z1, k_z0, k_o1, k_o0, Int.reduceEq, Int.reduceLT, Int.reduceLE, Int.reduceAdd, Int.reduceMul, Int.reduceNeg, Bool.false_eq_true, or_true, true_or, or_false, false_or, and_true, true_and, and_false, false_and, not_true_eq_false, not_false_eq_true, ↓reduceIte, z_0, z_k, s_I, s_J, s_uI, s_uJ, ↓c_oc_87, hn, z]
      exact i1.trans (ih M2 (k + 1) _ (by omega) (by omega) i2 i3)
  obtain ⟨M, hM⟩ : ∃ q, 999999 = q + 20 * (a_gn A).toNat + 1 := ⟨999998 - 20 * (a_gn A).toNat, by omega⟩
  rw [hM] at e
  exact .of ⟨_, e.trans (outer (a_gn A).toNat M 0 (0, -9) (Int.le_refl 0) (by omega) (Int.le_refl 0) (Int.le_refl 0)), hx.told, fr_told⟩
end MCALLS7
