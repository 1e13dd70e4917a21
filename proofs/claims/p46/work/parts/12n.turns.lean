/-! ===== the law's eight turns ===== -/
def lwI (kd ce : Fl) (I : Nat → Nat → Int32) (A : Ast) (turn : Int) : Prop := okG (a_gw A) (a_gh A) (a_gn A) (a_gr A) kd ce ∧ gI I (a_gw A) (a_gh A) (a_gn A) (a_gr A) kd ce ∧ okD (a_gr A) (a_gn A) (a_fl A) ∧ (∀ j, 0 ≤ j → j < a_gn A → I 88 j.toNat = j_k (a_fl A (5 + j)) ∧ I 89 j.toNat = j_k (a_fl A (9 + j))) ∧ a_fl A 0 = turn ∧ a_rz A 1 = -1 ∧ a_rz A 2 = -1
def sepI (A : Ast) (nv pr : Int) : Prop := 0 < nv → ∃ i j, 0 ≤ i ∧ i < j ∧ j < a_gn A ∧ pr = 10 * i + j ∧ ∃ P, clR (a_gw A) (a_gh A) (a_gr A) true P ∧ sep P (a_fl A) i j
def mvA (A : Ast) (g : Fl) : Prop := ∀ k, 0 ≤ k → k < a_gn A → mv (a_gw A) (a_gh A) (a_gr A) (a_fl A) g k
theorem sepI_mv {A : Ast} {g : Fl} {nv pr : Int} (hA : okA A) (hD : okD (a_gr A) (a_gn A) (a_fl A)) (hm : mvA A g) (hs : sepI A nv pr) : sepI (A_fl A g) nv pr := by
  intro h
  obtain ⟨i, j, i0, ij, j1, e, P, hc, hp⟩ := hs h
  exact ⟨i, j, i0, ij, j1, e, P, hc, mv_sep hA.1 hA.2.1 hD hc i0 (by omega) (by omega) j1 hp hm⟩
section TURNS
variable {L p d : Nat} {kd ce : Fl} {v6 v7 : Int32} {I : Nat → Nat → Int32} {J : Nat → Nat → Int64} {A : Ast}
/-- a step, and all looked at -/
theorem lw_go (hL : 2000 ≤ L) {turn : Int} {v9 : Int32} {nv pr : Int} (t0 : 0 ≤ turn) (t1 : turn ≤ 100) (hN : a_N A ≠ 0) (hx : iX I J A) (hw : lwI kd ce I A turn) (hs : sepI A nv pr) {M : Nat} (hM : 200 < M) : ∃ (M' p' : Nat) (I' : Nat → Nat → Int32) (J' : Nat → Nat → Int64) (B : Ast), M ≤ M' + 100 ∧ j_exec k_137 h_137 (j_run (d + 12)) M 196 (lwL (a_gn A) v6 v7 (j_k turn) [some (.int v9), none, none, none, none, none, none, none]) [] (ST L p I J) = j_exec k_137 h_137 (j_run (d + 12)) M' 88 (lwL (a_gn B) v6 v7 (j_k (turn + 1)) [none, none, none, none, none, none, none, none]) [] (ST L p' I' J') ∧ a_N B ≠ 0 ∧ iX I' J' B ∧ lwI kd ce I' B (turn + 1) ∧ sepI B nv pr := by
  obtain ⟨hG, hI, hD, ha, hf0, h1, h2⟩ := hw
  have hC := hx.1.1
  have ho := hx.1.2.1
  have n4 := hC.2.2.2.1
  have n0 := hC.2.2.1
  obtain ⟨M, rfl⟩ : ∃ q, M = q + 1 := ⟨M - 1, by omega⟩
  have hW := stepW_rg hC ho
  obtain ⟨p1, I1, J1, a1, a2, a3⟩ := c_go (L := L) (p := p) (d := d + 1) hx (m := 1) (by decide) (by decide) hN (by omega)
  have a1 : j_run (d + 12) 85 [.ref 0, .int (j_k 1)] (ST L p I J) = some (some (.int (j_k (p_stepW (a_gw A) (a_gh A) (a_gr A) (a_gn A) (a_kd A) (a_fl A)))), ST L p1 I1 J1) := a1
  have a2 : iX I1 J1 (A_fl A (p_stepF (a_gw A) (a_gh A) (a_gr A) (a_gn A) (a_kd A) (a_fl A))) := a2
  have hst : stepI (A_fl A (p_stepF (a_gw A) (a_gh A) (a_gr A) (a_gn A) (a_kd A) (a_fl A))) (a_fl A) (p_stepW (a_gw A) (a_gh A) (a_gr A) (a_gn A) (a_kd A) (a_fl A)) := fun j j0 j1 => step_all hC ho j0 j1
  have hmv : mvA A (p_stepF (a_gw A) (a_gh A) (a_gr A) (a_gn A) (a_kd A) (a_fl A)) := fun k k0 k1 => by
    rcases step_all hC ho k0 k1 with ⟨-, h⟩ | ⟨-, h5, -, h6⟩
    · exact Or.inl h.1
    · exact Or.inr ⟨h5, h6⟩
  have hs2 := sepI_mv hx.1 hD hmv hs
  have hF0 := step_0 hC ho
  have hD2 := mv_okD hD hmv
  generalize p_stepF (a_gw A) (a_gh A) (a_gr A) (a_gn A) (a_kd A) (a_fl A) = F at a2 hst hmv hs2 hF0 hD2
  generalize p_stepW (a_gw A) (a_gh A) (a_gr A) (a_gn A) (a_kd A) (a_fl A) = W at hW a1 hst
  have g87 : I1 87 = I 87 := a3.1 87 (by decide)
  obtain ⟨M2, p2, I2, J2, x, b1, b2, b3, b4, b5⟩ := lk_all (L := L) (d := d) (v6 := v6) (v7 := v7) (v8 := j_k turn) (v9 := v9) hL hW.1 hW.2 (a_gn A).toNat M p1 0 I1 J1 _ (Int.le_refl 0) (by show 0 + ((a_gn A).toNat : Int) = a_gn A; omega) (by omega) a2 hG (hI.cg g87) ho hD hst (fun j j0 j1 => absurd j1 (by omega)) (fun j j0 j1 => by
    rw [a3.1 88 (by decide), a3.1 89 (by decide)]
    exact ha j j0 j1)
  obtain ⟨M2, rfl⟩ : ∃ q, M2 = q + 1 := ⟨M2 - 1, by omega⟩
  have c1 : j_run (d + 12) 108 [.ref 0, .int (j_k 2)] (ST L p2 I2 J2) = some (some (.int (j_k (lostK F (a_gn A)))), ST L p2 I2 J2) := c_count (d := d + 1) b3 (q := 2) (by decide) (by decide)
  obtain ⟨p3, I3, J3, d1, d2, d3⟩ := c_where (L := L) (p := p2) (d := d + 1) b3 (r := 0) (by decide) (by decide)
  have d1 : j_run (d + 12) 88 [.ref 0, .int (j_k 0)] (ST L p2 I2 J2) = some (some (.int (j_k (lostK F (a_gn A)))), ST L p3 I3 J3) := d1
  have g3 : I3 87 = I 87 := (d3.1 87 (by decide)).trans (b4.trans g87)
  refine ⟨M2, p3, I3, J3, _, by omega, ?_, (by exact hN), d2, ⟨hG, hI.cg g3, hD2, fun j j0 j1 => ?_, ?_, ?_, ?_⟩, hs2⟩
  · rw [x_exec, t_137_196]
    simp (disch := first | assumption | omega) only [k_add, k_sub, k_mul, k_lt, k_eq, k_lt0, k_0lt, k_eq0, k_nat, k_b0, k_b1, k_z1, k_z0, k_o1, k_o0, Int.reduceEq, Int.reduceLT, Int.reduceLE, Int.reduceAdd, Int.reduceMul, Int.reduceNeg, Int.reduceToNat, Bool.false_eq_true, or_true, true_or, or_false, false_or, and_true, true_and, and_false, false_and, not_true_eq_false, not_false_eq_true, ↓reduceIte, z_0, z_k, s_I, s_J, s_uI, s_uJ, ↓c_oc_0, ↓jc1 a1]
    refine b2.trans ?_
    rw [x_exec, t_137_423]
    simp (disch := first | assumption | omega) only [k_add, k_sub, k_mul, k_lt, k_eq, k_lt0, k_0lt, k_eq0, k_nat, k_b0, k_b1, k_z1, k_z0, k_o1, k_o0, Int.reduceEq, Int.reduceLT, Int.reduceLE, Int.reduceAdd, Int.reduceMul, Int.reduceNeg, Int.reduceToNat, Bool.false_eq_true, or_true, true_or, or_false, false_or, and_true, true_and, and_false, false_and, not_true_eq_false, not_false_eq_true, ↓reduceIte, z_0, z_k, s_I, s_J, s_uI, s_uJ, ↓c_oc_0, ↓jc1 c1, ↓jc1 d1]
  · rw [d3.1 88 (by decide), d3.1 89 (by decide)]
    exact b5 j j0 j1
  · show F 0 = turn + 1
    rw [hF0, hf0]
  · exact h1
  · exact h2
theorem stirF_5 {gr f : Fl} {k c j : Int} (k0 : 0 ≤ k) (j0 : 0 ≤ j) (j4 : j < 4) : p_stirF gr f k c (5 + j) = if j = k then (if gr c = 2 then -9 else c) else f (5 + j) := by
  unfold p_stirF
  rw [bl_hi (by omega), gt_c k0 j0 j4]
theorem stirF_9 {gr f : Fl} {k c j : Int} (k4 : k < 4) (j0 : 0 ≤ j) : p_stirF gr f k c (9 + j) = if j = k then f (9 + k) + 1 else f (9 + j) := by
  unfold p_stirF
  rw [bl_hi (by omega), gt_w k4 j0]
/-- one may be stirred -/
theorem lw_stir (hL : 2000 ≤ L) {turn x nv pr : Int} (x0 : 0 ≤ x) (x1 : x < 268435456) (hn : 0 < a_gn A) (hx : iX I J A) (hw : lwI kd ce I A turn) (hs : sepI A nv pr) {v8 : Int32} {M : Nat} (hM : 200 < M) : ∃ (M' p' : Nat) (I' : Nat → Nat → Int32) (J' : Nat → Nat → Int64) (B : Ast), M ≤ M' + 2 ∧ j_exec k_137 h_137 (j_run (d + 12)) M 110 (lwL (a_gn A) v6 v7 v8 [some (.int (j_k x)), none, none, none, none, none, none, none]) [] (ST L p I J) = j_exec k_137 h_137 (j_run (d + 12)) M' 196 (lwL (a_gn B) v6 v7 v8 [some (.int (j_k x)), none, none, none, none, none, none, none]) [] (ST L p' I' J') ∧ a_N B = a_N A ∧ iX I' J' B ∧ lwI kd ce I' B turn ∧ sepI B nv pr := by
  have hw0 := hw
  obtain ⟨hG, hI, hD, ha, hf0, h1, h2⟩ := hw
  have hC := hx.1.1
  have ho := hx.1.2.1
  have n4 := hC.2.2.2.1
  have hN30 := (bd_N hC).2.1
  obtain ⟨M, rfl⟩ : ∃ q, M = q + 1 := ⟨M - 1, by omega⟩
  obtain ⟨M, rfl⟩ : ∃ q, M = q + 1 := ⟨M - 1, by omega⟩
  by_cases z3 : x - x / 3 * 3 = 0
  · have k0 : 0 ≤ x / 4 % a_gn A := Int.emod_nonneg _ (by omega)
    have k1 : x / 4 % a_gn A < a_gn A := Int.emod_lt_of_pos _ hn
    have eq : j_k x / j_k 4 - j_k x / j_k 4 / j_k (a_gn A) * j_k (a_gn A) = j_k (x / 4 % a_gn A) := by
      rw [k_divp x0 (by omega) (by decide) (by decide), k_modp (by omega) (by omega) (by omega) (by omega)]
    generalize x / 4 % a_gn A = k at k0 k1 eq
    have k4 : k < 4 := by omega
    have ey : x / 16 - x / 16 / 4 * 4 = x / 16 % 4 := by omega
    have y0 : 0 ≤ x / 16 % 4 := by omega
    have y4 : x / 16 % 4 < 4 := by omega
    have zn : ¬ a_gn A = 0 := by omega
    by_cases st : p_stir (a_gw A) (a_gh A) (a_gr A) (a_gn A) (a_kd A) (a_fl A) k (x / 16 % 4) = -9
    · have hst := x_stir (L := L) (p := p) (d := d + 9) hx (k := k) (b := x / 16 % 4) (by omega) (by omega) (by omega) (by omega)
      have e : p_stirC k (x / 16 % 4) A = (-4, A) := by
        unfold p_stirC
        rw [if_pos ⟨⟨k0, k1⟩, y0, y4⟩, if_pos st]
      rw [e] at hst
      obtain ⟨p1, I1, J1, a1, a2, a3⟩ := hst
      have a1 : j_run (d + 12) 84 [.ref 0, .int (j_k k), .int (j_k (x / 16 % 4))] (ST L p I J) = some (some (.int (j_k (-4))), ST L p1 I1 J1) := a1
      refine ⟨M + 1, p1, I1, J1, A, by omega, ?_, rfl, a2, ⟨hG, hI.cg (a3.1 87 (by decide)), hD, fun j j0 j1 => by rw [a3.1 88 (by decide), a3.1 89 (by decide)]; exact ha j j0 j1, hf0, h1, h2⟩, hs⟩
      rw [x_exec, t_137_110]
      simp (disch := first | assumption | omega) only [k_add, k_sub, k_mul, k_lt, k_eq, k_lt0, k_0lt, k_eq0, k_nat, k_b0, k_b1, k_z1, k_z0, k_o1, k_o0, Int.reduceEq, Int.reduceLT, Int.reduceLE, Int.reduceAdd, Int.reduceMul, Int.reduceNeg, Int.reduceToNat, Bool.false_eq_true, or_true, true_or, or_false, false_or, and_true, true_and, and_false, false_and, not_true_eq_false, not_false_eq_true, ↓reduceIte, z_0, z_k, s_I, s_J, s_uI, s_uJ, z3, zn, ↓eq, k_divp, ey, ↓c_oc_0, ↓jc1 a1]
    · obtain ⟨s, es⟩ : ∃ s, p_stir (a_gw A) (a_gh A) (a_gr A) (a_gn A) (a_kd A) (a_fl A) k (x / 16 % 4) = s := ⟨_, rfl⟩
      have so := stir_ok hC ho k0 k1 y0 y4 st
      have s9 : s ≠ -9 := by rw [← es]; exact st
      have hl : a_fl A (5 + k) ≠ -9 := fun q => st (by unfold p_stir; rw [if_pos q])
      have hnb : nb (a_gw A) (a_gh A) (a_fl A (5 + k)) s ∧ a_gr A s ≠ 1 := by
        have e2 := es
        unfold p_stir at e2
        rw [if_neg hl] at e2
        have ht := try_eq (by rw [e2]; exact s9)
        rw [e2] at ht
        have hg := can_gr ht.2.2
        rw [← ht.1] at hg
        exact ⟨⟨s9, x / 16 % 4, y0, y4, ht.1⟩, hg⟩
      rw [es] at so
      obtain ⟨p1, I1, J1, a1, a2, a3⟩ := c_stir (L := L) (p := p) (d := d + 1) hx k0 k1 y0 y4 es s9
      have a1 : j_run (d + 12) 84 [.ref 0, .int (j_k k), .int (j_k (x / 16 % 4))] (ST L p I J) = some (some (.int (j_k s)), ST L p1 I1 J1) := a1
      have a2 : iX I1 J1 (A_fl A (p_stirF (a_gr A) (a_fl A) k s)) := a2
      have i89 : I1 89 k.toNat = j_k (a_fl A (9 + k)) := by rw [a3.1 89 (by decide)]; exact (ha k k0 k1).2
      have i87 : I1 87 (2 + s).toNat = j_k (a_gr A s) := by rw [a3.1 87 (by decide)]; exact hI.2.2.1 s so.1 so.2.1
      have rg := hG.2.2.1 s so.1 so.2.1
      have ys : ¬ s < 0 := by omega
      have s30 : s < 30 := by omega
      obtain ⟨u, hu, eu⟩ : ∃ u : Int, u = (if a_gr A s = 2 then -9 else s) ∧ j_exec k_137 h_137 (j_run (d + 12)) (M + 1 + 1) 110 (lwL (a_gn A) v6 v7 v8 [some (.int (j_k x)), none, none, none, none, none, none, none]) [] (ST L p I J) = j_exec k_137 h_137 (j_run (d + 12)) (M + 1) 176 (lwL (a_gn A) v6 v7 v8 [some (.int (j_k x)), some (.int (j_k k)), some (.int (j_k s)), none, none, none, none, none]) [] (ST L p1 (u2 (u2 I1 89 k.toNat (j_k (a_fl A (9 + k) + 1))) 88 k.toNat (j_k u)) J1) := by
        rw [x_exec, t_137_110]
        by_cases g2 : a_gr A s = 2
        · refine ⟨-9, (if_pos g2).symm, ?_⟩
          simp (disch := first | assumption | omega) only [k_add, k_sub, k_mul, k_lt, k_eq, k_lt0, k_0lt, k_eq0, k_nat, k_b0, k_b1, k_z1, k_z0, k_o1, k_o0, Int.reduceEq, Int.reduceLT, Int.reduceLE, Int.reduceAdd, Int.reduceMul, Int.reduceNeg, Int.reduceToNat, Bool.false_eq_true, or_true, true_or, or_false, false_or, and_true, true_and, and_false, false_and, not_true_eq_false, not_false_eq_true, ↓reduceIte, z_0, z_k, s_I, s_J, s_uI, s_uJ, z3, zn, ↓eq, k_divp, ey, ↓c_oc_0, ↓jc1 a1, ys, ↓c_ia_89 hL, ↓c_is_89 hL, i89, ↓c_ia_87, u2_r, i87, g2, ↓c_is_88 hL]
        · refine ⟨s, (if_neg g2).symm, ?_⟩
          simp (disch := first | assumption | omega) only [k_add, k_sub, k_mul, k_lt, k_eq, k_lt0, k_0lt, k_eq0, k_nat, k_b0, k_b1, k_z1, k_z0, k_o1, k_o0, Int.reduceEq, Int.reduceLT, Int.reduceLE, Int.reduceAdd, Int.reduceMul, Int.reduceNeg, Int.reduceToNat, Bool.false_eq_true, or_true, true_or, or_false, false_or, and_true, true_and, and_false, false_and, not_true_eq_false, not_false_eq_true, ↓reduceIte, z_0, z_k, s_I, s_J, s_uI, s_uJ, z3, zn, ↓eq, k_divp, ey, ↓c_oc_0, ↓jc1 a1, ys, ↓c_ia_89 hL, ↓c_is_89 hL, i89, ↓c_ia_87, u2_r, i87, g2, ↓c_is_88 hL]
      have hx2 : iX (u2 (u2 I1 89 k.toNat (j_k (a_fl A (9 + k) + 1))) 88 k.toNat (j_k u)) J1 (A_fl A (p_stirF (a_gr A) (a_fl A) k s)) := iX.hi a2 (fun r hr => by rw [u2_row (by omega), u2_row (by omega)]) rfl
      obtain ⟨p3, I3, J3, b1, b2, b3⟩ := c_last (L := L) (p := p1) (d := d + 1) hx2
      have b1 : j_run (d + 12) 83 [.ref 0] (ST L p1 (u2 (u2 I1 89 k.toNat (j_k (a_fl A (9 + k) + 1))) 88 k.toNat (j_k u)) J1) = some (some (.int (j_k k)), ST L p3 I3 J3) := b1
      have c1 : j_run (d + 12) 105 [.ref 0] (ST L p3 I3 J3) = some (some (.int (j_k s)), ST L p3 I3 J3) := c_asked (L := L) (p := p3) (d := d + 1) b2
      have hmv : mvA A (p_stirF (a_gr A) (a_fl A) k s) := fun j j0 j1 => by
        unfold mv
        rw [stirF_5 k0 j0 (by omega)]
        by_cases y : j = k
        · subst y
          rw [if_pos rfl]
          exact Or.inr ⟨hl, s, hnb.1, hnb.2, rfl⟩
        · rw [if_neg y]
          exact Or.inl rfl
      refine ⟨M, p3, I3, J3, _, by omega, ?_, (by rfl), b2, ⟨hG, hI.cg ?_, mv_okD hD hmv, fun j j0 j1 => ?_, ?_, h1, h2⟩, show sepI (A_fl A (p_stirF (a_gr A) (a_fl A) k s)) nv pr from sepI_mv hx.1 hD hmv hs⟩
      · rw [eu, x_exec, t_137_176]
        simp (disch := first | assumption | omega) only [k_add, k_sub, k_mul, k_lt, k_eq, k_lt0, k_0lt, k_eq0, k_nat, k_b0, k_b1, k_z1, k_z0, k_o1, k_o0, Int.reduceEq, Int.reduceLT, Int.reduceLE, Int.reduceAdd, Int.reduceMul, Int.reduceNeg, Int.reduceToNat, Bool.false_eq_true, or_true, true_or, or_false, false_or, and_true, true_and, and_false, false_and, not_true_eq_false, not_false_eq_true, ↓reduceIte, z_0, z_k, s_I, s_J, s_uI, s_uJ, ↓c_oc_0, ↓jc1 b1, ↓jc1 c1]
      · rw [b3.1 87 (by decide), u2_row (by decide), u2_row (by decide)]
        exact a3.1 87 (by decide)
      · have j1 : j < a_gn A := j1
        show I3 88 j.toNat = j_k (p_stirF (a_gr A) (a_fl A) k s (5 + j)) ∧ I3 89 j.toNat = j_k (p_stirF (a_gr A) (a_fl A) k s (9 + j))
        rw [b3.1 88 (by decide), b3.1 89 (by decide), stirF_5 k0 j0 (by omega), stirF_9 k4 j0]
        by_cases y : j = k
        · subst y
          rw [u2_ss, u2_r (by decide), u2_ss, if_pos rfl, if_pos rfl, hu]
          exact ⟨rfl, rfl⟩
        · rw [u2_k (by omega), u2_r (by decide), u2_r (by decide), u2_k (by omega), if_neg y, if_neg y, a3.1 88 (by decide), a3.1 89 (by decide)]
          exact ha j j0 j1
      · show p_stirF (a_gr A) (a_fl A) k s 0 = turn
        rw [stirF_0 k0]
        exact hf0
  · refine ⟨M + 1, p, I, J, A, by omega, ?_, rfl, hx, hw0, hs⟩
    rw [x_exec, t_137_110]
    simp (disch := first | assumption | omega) only [k_add, k_sub, k_mul, k_lt, k_eq, k_lt0, k_0lt, k_eq0, k_nat, k_b0, k_b1, k_z1, k_z0, k_o1, k_o0, Int.reduceEq, Int.reduceLT, Int.reduceLE, Int.reduceAdd, Int.reduceMul, Int.reduceNeg, Int.reduceToNat, Bool.false_eq_true, or_true, true_or, or_false, false_or, and_true, true_and, and_false, false_and, not_true_eq_false, not_false_eq_true, ↓reduceIte, z_0, z_k, s_I, s_J, s_uI, s_uJ, z3, k_divp]
end TURNS
