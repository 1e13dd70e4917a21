/-! ===== the law's drives: gathering, dusk and dawn ===== -/
section DRIVE8
variable {L d : Nat}
theorem dr_safe {v2 v3 : Int32} : ∀ (t M p : Nat) (k : Int) (I : Nat → Nat → Int32) (J : Nat → Nat → Int64) (A : Ast), 0 ≤ k → k + t = a_gn A → t < M → iX I J A → p_safe (a_gr A) (a_gn A) (a_fl A) = true → ∃ (M' p' : Nat) (I' : Nat → Nat → Int32) (J' : Nat → Nat → Int64) (x : Int32), M ≤ M' + t + 1 ∧ j_exec k_135 h_135 (j_run (d + 11)) M 94 [some (.ref 0), some (.int (j_k (a_gn A))), some (.int v2), some (.int v3), some (.int (j_k k)), none, none, none, none, none] [] (ST L p I J) = j_exec k_135 h_135 (j_run (d + 11)) M' 136 [some (.ref 0), some (.int (j_k (a_gn A))), some (.int v2), some (.int v3), some (.int (j_k (a_gn A))), none, none, none, none, none] [] (ST L p' I' J') ∧ iX I' J' (A_told A x) ∧ frX I I' J J'
  | 0, M, p, k, I, J, A, k0, kt, hM, hx, hs => by
    obtain ⟨M, rfl⟩ : ∃ q, M = q + 1 := ⟨M - 1, by omega⟩
    have n4 := hx.1.1.2.2.2.1
    have e : k = a_gn A := by omega
    have z : ¬ a_gn A < a_gn A := by omega
    refine ⟨M, p, I, J, a_told A, by omega, ?_, hx, frX.rf⟩
    rw [x_exec, t_135_94, e]
    simp (disch := first | assumption | omega) only [k_add, k_sub, k_mul, k_lt, k_eq, k_lt0, k_0lt, k_eq0, k_nat, k_b0, k_b1, k_z1, k_z0, k_o1, k_o0, Int.reduceEq, Int.reduceLT, Int.reduceLE, Int.reduceAdd, Int.reduceMul, Int.reduceNeg, Int.reduceToNat, Bool.false_eq_true, or_true, true_or, or_false, false_or, and_true, true_and, and_false, false_and, not_true_eq_false, not_false_eq_true, ↓reduceIte, z_0, z_k, s_I, s_J, s_uI, s_uJ, z]
  | t + 1, M, p, k, I, J, A, k0, kt, hM, hx, hs => by
    obtain ⟨M, rfl⟩ : ∃ q, M = q + 1 := ⟨M - 1, by omega⟩
    have n4 := hx.1.1.2.2.2.1
    have z : k < a_gn A := by omega
    have hk := safe_is hs k0 z
    have rg := (hx.1.2.1.1 k k0 z).resolve_left hk.1
    have hN30 := (bd_N hx.1.1).2.1
    obtain ⟨p1, I1, J1, a1, a2, a3⟩ := c_beast (L := L) (p := p) (d := d) hx (k := k) (q := 1) k0 z (by decide) (by decide)
    have b1 : j_run (d + 11) 133 [.ref 0, .int (j_k 1)] (ST L p1 I1 J1) = some (some (.int (j_k (a_fl A (5 + k)))), ST L p1 I1 J1) := c_tells (L := L) (p := p1) (d := d) a2
    have hc := x_cell (L := L) (p := p1) (d := d + 9) a2 (c := a_fl A (5 + k)) (by omega) (by omega)
    have ec : p_cell (a_fl A (5 + k)) (A_told A (j_k (p_tells (a_kd A) (a_fl A) k 1))) = (3, A_told A (j_k (p_who (a_gn A) (a_fl A) (a_fl A (5 + k)) (-9)))) := by
      unfold p_cell
      refine (if_pos rg).trans ?_
      show (a_gr A (a_fl A (5 + k)), _) = _
      rw [hk.2]
    have hc2 : xc L p1 I1 J1 (d + 11) 79 [.ref 0, .int (j_k (a_fl A (5 + k)))] (p_cell (a_fl A (5 + k)) (A_told A (j_k (p_tells (a_kd A) (a_fl A) k 1)))) := hc
    rw [ec] at hc2
    obtain ⟨p2, I2, J2, c1, c2, c3⟩ := hc2
    obtain ⟨M', p3, I3, J3, x, u1, u2, u3, u4⟩ := dr_safe t M p2 (k + 1) I2 J2 _ (by omega) (by show k + 1 + t = a_gn A; omega) (by omega) c2 hs
    refine ⟨M', p3, I3, J3, x, by omega, ?_, u3, (a3.tr c3).tr u4⟩
    have z2 : ¬ a_fl A (5 + k) < 0 := by omega
    rw [x_exec, t_135_94]
    simp (disch := first | assumption | omega) only [k_add, k_sub, k_mul, k_lt, k_eq, k_lt0, k_0lt, k_eq0, k_nat, k_b0, k_b1, k_z1, k_z0, k_o1, k_o0, Int.reduceEq, Int.reduceLT, Int.reduceLE, Int.reduceAdd, Int.reduceMul, Int.reduceNeg, Int.reduceToNat, Bool.false_eq_true, or_true, true_or, or_false, false_or, and_true, true_and, and_false, false_and, not_true_eq_false, not_false_eq_true, ↓reduceIte, z_0, z_k, s_I, s_J, s_uI, s_uJ, ↓c_oc_0, z, ↓jc1 a1, ↓jc1 b1, z2, ↓jc1 c1]
    exact u2
theorem need6_0 {A : Ast} {r : Int} (r0 : 0 ≤ r ∧ r < 6) (n0 : 0 ≤ a_gn A) (hz : a_rz A r = a_gn A) (hN : a_N A ≤ 30) (hv : ∀ i, 0 ≤ i → i < a_gn A → ∃ v, a_rv A r i = j_k v ∧ (v = -9 ∨ (0 ≤ v ∧ v < a_N A))) : p_need r A = (0, A) := by
  have hf : p_first (fun i => decide (a_rv A r i ≠ j_k (-9) ∧ ¬ (0 ≤ (a_rv A r i).toInt ∧ (a_rv A r i).toInt < a_N A))) (a_gn A).toNat 0 = -9 := (first_none _ 0 (Int.le_refl 0)).mpr (fun j j0 j1 => by
    obtain ⟨v, ev, hv2⟩ := hv j j0 (by omega)
    rw [ev]
    refine decide_eq_false (fun hh => ?_)
    rcases hv2 with rfl | hv2
    · exact hh.1 rfl
    · rw [k_int (by omega) (by omega)] at hh
      exact hh.2 hv2)
  have em : p_miss 6 (a_rz A) r A = (0, A) := by
    unfold p_miss
    rw [if_pos r0, if_neg (by omega)]
  unfold p_need
  rw [em, if_pos rfl, if_pos hz]
  exact if_pos hf
variable {p : Nat} {I : Nat → Nat → Int32} {J : Nat → Nat → Int64} {A : Ast}
abbrev sr (A : Ast) : Int × Sc := p_srch A (a_kd A) (p_at (a_gn A) (a_rv A 1)) 2
theorem c_dawn (hx : iX I J A) (hn : p_need 1 A = (0, A)) (h9 : (sr A).1 ≠ -9) : xc L p I J (d + 11) 102 [.ref 0, .int (j_k 1)] ((sr A).1, A_told A (j_k (sr A).2.2.1)) := by
  have h := x_dawn (L := L) (p := p) (d := d) hx (r := 1) (by decide) (by decide)
  have e : p_dawn 1 A = ((sr A).1, A_told A (j_k (sr A).2.2.1)) := by
    unfold p_dawn
    rw [hn, if_pos rfl, if_neg h9]
  rw [e] at h
  exact h
theorem c_who (hx : iX I J A) (hn : p_need 1 A = (0, A)) (h9 : (sr A).1 ≠ -9) (h0 : (sr A).1 ≠ 0) : xc L p I J (d + 11) 103 [.ref 0, .int (j_k 1)] ((sr A).2.2.2.2.1, A_told A (j_k (sr A).2.2.2.2.2)) := by
  have h := x_who (L := L) (p := p) (d := d) hx (r := 1) (by decide) (by decide)
  have e : p_whoC 1 A = ((sr A).2.2.2.2.1, A_told A (j_k (sr A).2.2.2.2.2)) := by
    unfold p_whoC
    rw [hn, if_pos rfl, if_neg (fun z => z.elim h9 h0)]
  rw [e] at h
  exact h
theorem rw_row {n : Int} {f : Fl} {i : Int} (h : i < n) : p_rw n f i = j_k (f (5 + i)) := if_pos h
theorem f2_pos {α : Type} {f : Int → α} {k : Int} {v : α} : f2 f k v k = v := if_pos rfl
/-- what is left at the end: where they are now is dawn at once -/
theorem dr_end {v2 v3 v4 v5 : Int32} (hx : iX I J A) (h1 : a_rz A 1 = -1) {M : Nat} : ∃ (p' : Nat) (I' : Nat → Nat → Int32) (J' : Nat → Nat → Int64) (B : Ast), j_exec k_135 h_135 (j_run (d + 11)) (M + 1) 328 [some (.ref 0), some (.int (j_k (a_gn A))), some (.int v2), some (.int v3), some (.int v4), some (.int v5), some (.int (j_k (p_lost (a_gn A) (a_fl A)))), none, none, none] [] (ST L p I J) = some (some (.int (j_k 1)), ST L p' I' J') ∧ iX I' J' B ∧ frX I I' J J' ∧ bq A B ∧ a_fl B = a_fl A := by
  have n0 := hx.1.1.2.2.1
  have hN30 := (bd_N hx.1.1).2.1
  obtain ⟨p1, I1, J1, a1, a2, a3⟩ := c_where (L := L) (p := p) (d := d) hx (r := 1) (by decide) (by decide)
  have a1 : j_run (d + 11) 88 [.ref 0, .int (j_k 1)] (ST L p I J) = some (some (.int (j_k (p_lost (a_gn A) (a_fl A)))), ST L p1 I1 J1) := a1
  have hn := need6_0 (A := A_rv (A_rz A (f2 (a_rz A) 1 (a_gn A))) (f2 (a_rv A) 1 (p_rw (a_gn A) (a_fl A)))) (r := 1) (by decide) n0 (show f2 (a_rz A) 1 (a_gn A) 1 = a_gn A from f2_pos) hN30 (fun i i0 i1 => ⟨a_fl A (5 + i), by
    show f2 (a_rv A) 1 (p_rw (a_gn A) (a_fl A)) 1 i = _
    rw [f2_pos]
    exact rw_row i1, hx.1.2.1.1 i i0 i1⟩)
  have hs : (sr (A_rv (A_rz A (f2 (a_rz A) 1 (a_gn A))) (f2 (a_rv A) 1 (p_rw (a_gn A) (a_fl A))))).1 = 0 := few_0 (at_self (fun k k0 k1 => by
    show j_k (a_fl A (5 + k)) = f2 (a_rv A) 1 (p_rw (a_gn A) (a_fl A)) 1 k
    rw [f2_pos]
    exact (rw_row k1).symm)) 2
  obtain ⟨p2, I2, J2, b1, b2, b3⟩ := c_dawn (L := L) (p := p1) (d := d) a2 hn (by rw [hs]; decide)
  rw [hs] at b1
  have b1 : j_run (d + 11) 102 [.ref 0, .int (j_k 1)] (ST L p1 I1 J1) = some (some (.int (j_k 0)), ST L p2 I2 J2) := b1
  obtain ⟨p3, I3, J3, c1, c2, c3⟩ := c_tear (L := L) (p := p2) (d := d) b2 (r := 1) (by decide) (by decide) (by show f2 (a_rz A) 1 (a_gn A) 1 ≠ -1; rw [f2_pos]; omega)
  refine ⟨p3, I3, J3, _, ?_, c2, (a3.tr b3).tr c3, ⟨?_, fun r x1 x2 => ?_, rfl, rfl, rfl, rfl, rfl, rfl, rfl, rfl, rfl⟩, rfl⟩
  · rw [x_exec, t_135_328]
    simp (disch := first | assumption | omega) only [k_add, k_sub, k_mul, k_lt, k_eq, k_lt0, k_0lt, k_eq0, k_nat, k_b0, k_b1, k_z1, k_z0, k_o1, k_o0, Int.reduceEq, Int.reduceLT, Int.reduceLE, Int.reduceAdd, Int.reduceMul, Int.reduceNeg, Int.reduceToNat, Bool.false_eq_true, or_true, true_or, or_false, false_or, and_true, true_and, and_false, false_and, not_true_eq_false, not_false_eq_true, ↓reduceIte, z_0, z_k, s_I, s_J, s_uI, s_uJ, ↓c_oc_0, ↓jc1 a1, ↓jc1 b1, ↓jc1 c1]
  · show f2 (f2 (a_rz A) 1 (a_gn A)) 1 (-1) = a_rz A
    funext r
    unfold f2
    by_cases y2 : r = 1
    · rw [if_pos y2, y2, h1]
    · rw [if_neg y2, if_neg y2]
  · show f2 (a_rv A) 1 _ r = a_rv A r
    exact if_neg x1
end DRIVE8
