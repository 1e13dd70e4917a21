/-! ===== the law's own rows; its end ===== -/
/-- cells from 87 on may change -/
theorem iX.hi {I I' : Nat → Nat → Int32} {J J' : Nat → Nat → Int64} {A : Ast} (hx : iX I J A) (h : ∀ r, r < 87 ∨ 1000000 ≤ r → I' r = I r) (hJ : J' 0 = J 0) : iX I' J' A := by
  obtain ⟨x1, x2, x3, x4, x5, x6, x7, x8, x9, x10⟩ := hx
  have e0 := h 0 (by omega)
  have e86 := h 86 (by omega)
  refine ⟨x1, x2.cg (fun r a b => h r (by omega)), x3.cg (fun r a b => h r (by omega)), x4.cg (fun r a b => h r (by omega)), x5.cg (fun r a b => h r (by omega)), x6.cg (by rw [e0]) (fun r a b => h r (by omega)), ?_, ?_, x9.cg (h _ (Or.inr (by decide))) (h _ (Or.inr (by decide))), x10.cg (h _ (Or.inr (by decide))) (h _ (Or.inr (by decide)))⟩
  · unfold xK2
    rw [e0]
    exact x7
  · unfold xM
    rw [e0, hJ, e86]
    exact x8
theorem sh_88 {L : Nat} (hL : 2000 ≤ L) : SH L 88 = some (.inr (.int, 4)) := by
  unfold SH
  rw [if_neg (by decide), if_neg (by decide), if_neg (by decide), if_pos (by omega)]
theorem sh_89 {L : Nat} (hL : 2000 ≤ L) : SH L 89 = some (.inr (.int, 4)) := by
  unfold SH
  rw [if_neg (by decide), if_neg (by decide), if_neg (by decide), if_pos (by omega)]
section LAWEND
variable {L p d : Nat} {I : Nat → Nat → Int32} {J : Nat → Nat → Int64} {A : Ast} {K : Option Rr} {i : Int}
theorem c_ia_88 (hL : 2000 ≤ L) (h1 : 0 ≤ i) (h2 : i < 4) : j_ia (ST L p I J) 88 (j_k i) K = K := q_ia (n := 4) (sh_88 hL) (by decide) h1 h2
theorem c_is_88 (hL : 2000 ≤ L) (h1 : 0 ≤ i) (h2 : i < 4) : j_is (ST L p I J) 88 (j_k i) K = K := q_is (n := 4) (sh_88 hL) (by decide) (by decide) h1 h2
theorem c_ia_89 (hL : 2000 ≤ L) (h1 : 0 ≤ i) (h2 : i < 4) : j_ia (ST L p I J) 89 (j_k i) K = K := q_ia (n := 4) (sh_89 hL) (by decide) h1 h2
theorem c_is_89 (hL : 2000 ≤ L) (h1 : 0 ≤ i) (h2 : i < 4) : j_is (ST L p I J) 89 (j_k i) K = K := q_is (n := 4) (sh_89 hL) (by decide) (by decide) h1 h2
/-- the law's locals -/
abbrev lwL (n : Int) (v6 v7 v8 : Int32) (r : List (Option Value)) : j_L := some (.ref 1000004) :: some (.ref 0) :: some (.ref 87) :: some (.int (j_k n)) :: some (.ref 88) :: some (.ref 89) :: some (.int v6) :: some (.int v7) :: some (.int v8) :: r
theorem lw_end {v6 v7 v8 : Int32} (hx : iX I J A) (hN : a_N A ≠ 0) (h1 : a_rz A 1 = -1) (h2 : a_rz A 2 = -1) (hs : a_fl A 0 ≤ 1000) {M : Nat} : ∃ (p' : Nat) (I' : Nat → Nat → Int32) (J' : Nat → Nat → Int64), j_exec k_137 h_137 (j_run (d + 12)) (M + 1) 506 (lwL (a_gn A) v6 v7 v8 [none, none, none, none, none, none, none, none]) [] (ST L p I J) = some (some (.int (j_k 1)), ST L p' I' J') := by
  have s0 := hx.1.2.1.2.2.2.2.2.1
  have hkp := x_keep (L := L) (p := p) (d := d + 10) hx (k := 0) (by decide) (by decide)
  have ek : p_keep 0 A = (a_fl A 0, A_kf (A_kp A (f2 (a_kp A) 0 true)) (f2 (a_kf A) 0 (a_fl A))) := by
    unfold p_keep
    rw [if_pos (by decide), if_neg hN]
  rw [ek] at hkp
  obtain ⟨p1, I1, J1, a1, a2, a3⟩ := hkp
  have a1 : j_run (d + 12) 90 [.ref 0, .int (j_k 0)] (ST L p I J) = some (some (.int (j_k (a_fl A 0))), ST L p1 I1 J1) := a1
  have b1 := x_digest (L := L) (p := p1) (d := d + 8) a2
  have b1 : j_run (d + 12) 111 [.ref 0] (ST L p1 I1 J1) = some (some (.long (p_digest (A_kf (A_kp A (f2 (a_kp A) 0 true)) (f2 (a_kf A) 0 (a_fl A))))), ST L p1 I1 J1) := b1
  have kp0 : f2 (a_kp A) 0 true 0 = true := f2_pos
  have kf0 : f2 (a_kf A) 0 (a_fl A) 0 = a_fl A := f2_pos
  obtain ⟨p2, I2, J2, B, c1, c2, c3, c4, c5⟩ := lw_rings (L := L) (p := p1) (d := d) a2 hN kp0 kf0 h1 h2 hs
  obtain ⟨q1, q2, q3, q4, q5, q6, q7, q8, q9, q10, q11⟩ := c4
  have c4 : bq (A_kf (A_kp A (f2 (a_kp A) 0 true)) (f2 (a_kf A) 0 (a_fl A))) B := ⟨q1, q2, q3, q4, q5, q6, q7, q8, q9, q10, q11⟩
  have eN : a_N B = a_N A := by
    show a_gw B * a_gh B = _
    rw [q5, q6]
    rfl
  obtain ⟨p3, I3, J3, C, e1, e2, e3, e4, e5⟩ := lw_drives (L := L) (p := p2) (d := d) c2 (by rw [eN]; exact hN) (by rw [q10]; exact kp0) (by rw [q11, c5]; exact kf0) (by rw [q1]; exact h1) (by rw [c5]; exact hs)
  rw [q8] at e1
  have e1 : j_run (d + 12) 135 [.ref 0, .int (j_k (a_gn A))] (ST L p2 I2 J2) = some (some (.int (j_k 1)), ST L p3 I3 J3) := e1
  have e4' := c4.tr e4
  obtain ⟨r1, r2, r3, r4, r5, r6, r7, r8, r9, r10, r11⟩ := e4'
  have e4' := c4.tr e4
  have eN2 : a_N C = a_N A := by
    show a_gw C * a_gh C = _
    rw [r5, r6]
    rfl
  have eC : a_fl C = a_fl A := e5.trans c5
  obtain ⟨p4, I4, J4, D, g1, g2, g3, g4⟩ := lw_runs (L := L) (p := p3) (d := d) e2 (by rw [eN2]; exact hN) (by rw [r10]; exact kp0) (by rw [r11, eC]; exact kf0) (by rw [r1]; exact h1) (by rw [eC]; exact hs)
  rw [r8] at g1
  have g1 : j_run (d + 12) 136 [.ref 0, .int (j_k (a_gn A))] (ST L p3 I3 J3) = some (some (.int (j_k 1)), ST L p4 I4 J4) := g1
  obtain ⟨t1, t2, t3, t4, t5, t6, t7, t8, t9, t10, t11⟩ := e4'.tr g4
  have hkD : a_kp D 0 = true := by rw [t10]; exact kp0
  have hfD : a_kf D 0 = a_fl A := by rw [t11]; exact kf0
  obtain ⟨p5, I5, J5, i1, i2, i3⟩ := c_on (L := L) (p := p4) (d := d + 1) g2 hkD
  have i1 : j_run (d + 12) 91 [.ref 0, .int (j_k 0)] (ST L p4 I4 J4) = some (some (.int (j_k (a_kf D 0 0))), ST L p5 I5 J5) := i1
  have i2 : iX I5 J5 (A_fl D (a_kf D 0)) := i2
  rw [hfD] at i1 i2
  have j1 := x_digest (L := L) (p := p5) (d := d + 8) i2
  have j1 : j_run (d + 12) 111 [.ref 0] (ST L p5 I5 J5) = some (some (.long (p_digest (A_fl D (a_fl A)))), ST L p5 I5 J5) := j1
  have ed : p_digest (A_fl D (a_fl A)) = p_digest (A_kf (A_kp A (f2 (a_kp A) 0 true)) (f2 (a_kf A) 0 (a_fl A))) := dig_cg ⟨t1, fun r hr => by
    by_cases y1 : r = 1
    · subst y1
      exact absurd h1 hr
    by_cases y2 : r = 2
    · subst y2
      exact absurd h2 hr
    exact t2 r y1 y2, t3, t4, t5, t6, t7, t8, t9, rfl, t10, t11⟩
  rw [ed] at j1
  have y1 : ¬ a_fl A 0 < 0 := by omega
  have yl : (lg_cmp (p_digest (A_kf (A_kp A (f2 (a_kp A) 0 true)) (f2 (a_kf A) 0 (a_fl A)))) (p_digest (A_kf (A_kp A (f2 (a_kp A) 0 true)) (f2 (a_kf A) 0 (a_fl A)))) = 0) = True := by
    rw [lc_eq]
    exact eq_true rfl
  refine ⟨p5, I5, J5, ?_⟩
  rw [x_exec, t_137_506]
  generalize p_digest (A_kf (A_kp A (f2 (a_kp A) 0 true)) (f2 (a_kf A) 0 (a_fl A))) = D0 at b1 j1 yl
  simp (disch := first | assumption | omega) only [k_add, k_sub, k_mul, k_lt, k_eq, k_lt0, k_0lt, k_eq0, k_nat, k_b0, k_b1, k_z1, k_z0, k_o1, k_o0, Int.reduceEq, Int.reduceLT, Int.reduceLE, Int.reduceAdd, Int.reduceMul, Int.reduceNeg, Int.reduceToNat, Bool.false_eq_true, or_true, true_or, or_false, false_or, and_true, true_and, and_false, false_and, not_true_eq_false, not_false_eq_true, ↓reduceIte, z_0, z_k, s_I, s_J, s_uI, s_uJ, ↓c_oc_0, ↓jc1 a1, y1, ↓jc2 b1, ↓jc1 c1, ↓jc1 e1, ↓jc1 g1, ↓jc1 i1, ↓jc2 j1, yl]
end LAWEND
