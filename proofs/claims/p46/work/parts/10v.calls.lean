/-! ===== the class's calls: fault, ground ===== -/
def p_faultC (t : Int) (A : Ast) : Int × Ast := if (p_miss 4 (a_tz A) t A).1 = 0 then (p_faultV (a_tv A t) (a_tz A t), A) else p_miss 4 (a_tz A) t A
def p_newA (A : Ast) (w h : Int) (gr : Fl) (n : Int) (kd f : Fl) : Ast := A_gw (A_gh (A_gr (A_gn (A_kd (A_fl (A_kp A (fun _ => false)) f) kd) n) gr) h) w
def p_groundC (t : Int) (A : Ast) : Int × Ast := if (p_miss 4 (a_tz A) t A).1 = 0 then (if p_faultV (a_tv A t) (a_tz A t) = -9 then ((p_rB (a_tv A t) (a_tz A t)).2.2.1, p_newA A (p_rdG (a_tv A t) (a_tz A t)).2.2.1 (p_rdG (a_tv A t) (a_tz A t)).2.2.2 (p_rC (a_tv A t) (a_tz A t)).2.2 (p_rB (a_tv A t) (a_tz A t)).2.2.1 (p_rB (a_tv A t) (a_tz A t)).2.2.2.1 (p_rB (a_tv A t) (a_tz A t)).2.2.2.2) else (-4, A)) else p_miss 4 (a_tz A) t A
section CALLS13
variable {L p d : Nat} {J : Nat → Nat → Int64} {I I' : Nat → Nat → Int32} {A : Ast}
theorem x_fault (hx : iX I J A) {t : Int} (h1 : -2147483648 ≤ t) (h2 : t < 2147483648) : xc L p I J (d + 6) 77 [.ref 0, .int (j_k t)] (p_faultC t A) := by
  obtain ⟨I1, q1, q2, q3, q4⟩ := x_miss10 (L := L) (p := p) (d := d + 3) hx h1 h2
  have e := (r_77 (d + 5) (ST L p I J) 0 (j_k t)).trans (t_77_0 _ _ _ _ _)
  unfold p_faultC
  by_cases c : (p_miss 4 (a_tz A) t A).1 = 0
  · rw [if_pos c]
    obtain ⟨⟨r1, r2⟩, m2⟩ := miss_0 c
    rw [c, q4 c] at q1
    have hr := (hx.2.2.1 t r1 r2).1
    have br := hx.1.2.2.2.2.1 t r1 r2
    obtain ⟨I2, a1, a2, a3, a4⟩ := s_readAll (L := L) (p := 12 + 1 * t.toNat) (p0 := p) (d := d) (J := J) (I := I) (T := a_tv A t) (s := a_tz A t) ⟨by omega, by omega, sh_txt r1 r2⟩ (by omega) (by omega) (fun i i1 i2 => hx.1.2.2.2.2.2 t i r1 r2 i1 i2) (hx.2.2.1 t r1 r2).2 hx.2.2.2.2.2.2.2.2.2
    simp (disch := first | assumption | omega) only [k_add, k_sub, k_mul, k_lt, k_eq, k_lt0, k_0lt, k_eq0, k_nat, k_b0, k_b1, k_z1, k_z0, k_o1, k_o0, Int.reduceEq, Int.reduceLT, Int.reduceLE, Int.reduceAdd, Int.reduceMul, Int.reduceNeg, Bool.false_eq_true, or_true, true_or, or_false, false_or, and_true, true_and, and_false, false_and, not_true_eq_false, not_false_eq_true, ↓reduceIte, z_0, z_k, s_I, s_J, s_uI, s_uJ, ↓c_gP_0_1, ↓c_oc_0, ↓jc1 q1, ↓c_gP_0_2, ↓c_gP_10_0, ↓c_gP_10_1, ↓c_qa_11, ↓c_ia_16, hr, ↓c_oc_17, ↓jc1 a1] at e
    exact ⟨_, I2, J, e, hx.same (fun r hr => a4 r (by omega)) rfl, fun q hq => a4 q (by omega), fun _ _ => rfl⟩
  · rw [if_neg c]
    have c5 := miss_rg (C := 4) (z := a_tz A) (r := t) (A := A)
    simp (disch := first | assumption | omega) only [k_add, k_sub, k_mul, k_lt, k_eq, k_lt0, k_0lt, k_eq0, k_nat, k_b0, k_b1, k_z1, k_z0, k_o1, k_o0, Int.reduceEq, Int.reduceLT, Int.reduceLE, Int.reduceAdd, Int.reduceMul, Int.reduceNeg, Bool.false_eq_true, or_true, true_or, or_false, false_or, and_true, true_and, and_false, false_and, not_true_eq_false, not_false_eq_true, ↓reduceIte, z_0, z_k, s_I, s_J, s_uI, s_uJ, c_gP_0_1, c_oc_0, jc1 q1, c] at e
    exact .of ⟨_, e, q2, fun q hq => q3 q (by omega) (by omega)⟩
theorem x_ground (hx : iX I J A) {t : Int} (h1 : -2147483648 ≤ t) (h2 : t < 2147483648) : xc L p I J (d + 6) 78 [.ref 0, .int (j_k t)] (p_groundC t A) := by
  obtain ⟨I1, q1, q2, q3, q4⟩ := x_miss10 (L := L) (p := p) (d := d + 3) hx h1 h2
  have e := (r_78 (d + 5) (ST L p I J) 0 (j_k t)).trans (t_78_0 _ _ _ _ _)
  unfold p_groundC
  by_cases c : (p_miss 4 (a_tz A) t A).1 = 0
  · rw [if_pos c]
    obtain ⟨⟨r1, r2⟩, m2⟩ := miss_0 c
    rw [c, q4 c] at q1
    have hr := (hx.2.2.1 t r1 r2).1
    have br := hx.1.2.2.2.2.1 t r1 r2
    obtain ⟨I2, a1, a2, a3, a4⟩ := s_readAll (L := L) (p := 12 + 1 * t.toNat) (p0 := p) (d := d) (J := J) (I := I) (T := a_tv A t) (s := a_tz A t) ⟨by omega, by omega, sh_txt r1 r2⟩ (by omega) (by omega) (fun i i1 i2 => hx.1.2.2.2.2.2 t i r1 r2 i1 i2) (hx.2.2.1 t r1 r2).2 hx.2.2.2.2.2.2.2.2.2
    have b1 := a3.1
    have b2 := a3.2
    by_cases y : p_faultV (a_tv A t) (a_tz A t) = -9
    · rw [if_pos y]
      obtain ⟨hC, w2, ho, hG, hF⟩ := a2 y
      rw [y] at a1
      obtain ⟨I3, g1, g2, g3⟩ := s_gtake (L := L) (p := 12 + 1 * t.toNat) (d := d + 3) (J := J) hG hC w2
      have hF3 := hF.cg (I' := I3) (fun r x1 x2 => g3 r (by omega))
      obtain ⟨I4, f1, f2', f3⟩ := s_take (L := L) (p := 12 + 1 * t.toNat) (d := d + 4) (J := J) fa_31 fa_22 (by decide) hF3 hC.2.2.1 hC.2.2.2.1
      have h3 := f2'.1
      have fr4 : ∀ r, (r < 17 ∨ 35 ≤ r) → I4 r = I r := fun r hr => (f3 r (by omega)).trans ((g3 r (by omega)).trans (a4 r (by omega)))
      simp (disch := first | assumption | omega) only [k_add, k_sub, k_mul, k_lt, k_eq, k_lt0, k_0lt, k_eq0, k_nat, k_b0, k_b1, k_z1, k_z0, k_o1, k_o0, Int.reduceEq, Int.reduceLT, Int.reduceLE, Int.reduceAdd, Int.reduceMul, Int.reduceNeg, Bool.false_eq_true, or_true, true_or, or_false, false_or, and_true, true_and, and_false, false_and, not_true_eq_false, not_false_eq_true, ↓reduceIte, z_0, z_k, s_I, s_J, s_uI, s_uJ, ↓c_gP_0_1, ↓c_oc_0, ↓jc1 q1, ↓c_gP_0_2, ↓c_gP_10_0, ↓c_gP_10_1, ↓c_qa_11, ↓c_ia_16, hr, ↓c_oc_17, ↓jc1 a1, ↓c_gP_0_3, ↓c_gP_0_4, ↓c_gP_17_0, ↓c_gP_17_1, ↓g_oc ga_27, ↓f_oc fa_31, ↓jc0 g1, ↓jc0 f1, ↓c_lt_0, u2_r, h3] at e
      obtain ⟨x1, x2, x3, x4, x5, x6, x7, x8, x9, x10⟩ := hx
      refine ⟨_, _, J, e, ⟨⟨hC, okF_le (by decide) ho, fun k _ _ u => absurd u Bool.false_ne_true, x1.2.2.2⟩, x2.cg (fun r a b => ?_), x3.cg (fun r a b => ?_), g2.cg (fun r a b => ?_), f2'.cg (fun r a b => ?_), fun k k1 k2 => ⟨?_, fun u => absurd u Bool.false_ne_true⟩, ⟨0, by decide, by decide, u2_ss _ _ _ _⟩, ⟨?_, x8.2.1, x8.2.2.1, ?_, fun q s1 s2 => ?_⟩, x9.cg ?_ ?_, x10.cg ?_ ?_⟩, fun q hq => ?_, fun _ _ => rfl⟩
      · funext k
        rw [u2_r (by omega), fr4 r (by omega)]
      · funext k
        rw [u2_r (by omega), fr4 r (by omega)]
      · funext k
        rw [u2_r (by omega), f3 r (by omega)]
      · funext k
        rw [u2_r (by omega)]
      · rw [u2_ss]
        exact b_0 _
      · rw [u2_k (by decide), fr4 0 (by decide)]
        exact x8.1
      · rw [u2_k (by decide), fr4 0 (by decide)]
        exact x8.2.2.2.1
      · rw [u2_r (by decide), fr4 86 (by decide)]
        exact x8.2.2.2.2 q s1 s2
      · funext k
        rw [u2_r (by decide), fr4 _ (Or.inr (by decide))]
      · funext k
        rw [u2_r (by decide), fr4 _ (Or.inr (by decide))]
      · funext k
        rw [u2_r (by decide), fr4 _ (Or.inr (by decide))]
      · funext k
        rw [u2_r (by decide), fr4 _ (Or.inr (by decide))]
      · funext k
        rw [u2_r (by omega), fr4 q (by omega)]
    · rw [if_neg y]
      simp (disch := first | assumption | omega) only [k_add, k_sub, k_mul, k_lt, k_eq, k_lt0, k_0lt, k_eq0, k_nat, k_b0, k_b1, k_z1, k_z0, k_o1, k_o0, Int.reduceEq, Int.reduceLT, Int.reduceLE, Int.reduceAdd, Int.reduceMul, Int.reduceNeg, Bool.false_eq_true, or_true, true_or, or_false, false_or, and_true, true_and, and_false, false_and, not_true_eq_false, not_false_eq_true, ↓reduceIte, z_0, z_k, s_I, s_J, s_uI, s_uJ, ↓c_gP_0_1, ↓c_oc_0, ↓jc1 q1, ↓c_gP_0_2, ↓c_gP_10_0, ↓c_gP_10_1, ↓c_qa_11, ↓c_ia_16, hr, ↓c_oc_17, ↓jc1 a1, y] at e
      exact ⟨_, I2, J, e, hx.same (fun r hr => a4 r (by omega)) rfl, fun q hq => a4 q (by omega), fun _ _ => rfl⟩
  · rw [if_neg c]
    have c5 := miss_rg (C := 4) (z := a_tz A) (r := t) (A := A)
    simp (disch := first | assumption | omega) only [k_add, k_sub, k_mul, k_lt, k_eq, k_lt0, k_0lt, k_eq0, k_nat, k_b0, k_b1, k_z1, k_z0, k_o1, k_o0, Int.reduceEq, Int.reduceLT, Int.reduceLE, Int.reduceAdd, Int.reduceMul, Int.reduceNeg, Bool.false_eq_true, or_true, true_or, or_false, false_or, and_true, true_and, and_false, false_and, not_true_eq_false, not_false_eq_true, ↓reduceIte, z_0, z_k, s_I, s_J, s_uI, s_uJ, c_gP_0_1, c_oc_0, jc1 q1, c] at e
    exact .of ⟨_, e, q2, fun q hq => q3 q (by omega) (by omega)⟩
end CALLS13
