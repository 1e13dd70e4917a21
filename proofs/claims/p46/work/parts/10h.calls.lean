/-! ===== the class's calls: fewest, ways, dawn, who, breed, wolf ===== -/
def p_need (r : Int) (A : Ast) : Int × Ast := if (p_miss 6 (a_rz A) r A).1 = 0 then (if a_rz A r = a_gn A then (if p_first (fun i => decide (a_rv A r i ≠ j_k (-9) ∧ ¬ (0 ≤ (a_rv A r i).toInt ∧ (a_rv A r i).toInt < a_N A))) (a_gn A).toNat 0 = -9 then (0, A) else p_meets 3 A) else p_meets 5 A) else p_miss 6 (a_rz A) r A
def p_srch (A : Ast) (kd : Fl) (want : Fl → Bool) (most : Nat) : Int × Sc := p_few (p_drive (a_gw A) (a_gh A) (a_gr A) (a_gn A) kd) (4 * a_gn A).toNat want (a_fl A) most 0
def p_fewest (A : Ast) : Int × Ast := if a_N A = 0 then (-4, A) else if (p_srch A (a_kd A) (p_safe (a_gr A) (a_gn A)) 3).1 = -9 then (-9, A) else ((p_srch A (a_kd A) (p_safe (a_gr A) (a_gn A)) 3).1, A_told A (j_k (p_srch A (a_kd A) (p_safe (a_gr A) (a_gn A)) 3).2.2.2.1))
def p_dawn (r : Int) (A : Ast) : Int × Ast := if (p_need r A).1 = 0 then (if (p_srch A (a_kd A) (p_at (a_gn A) (a_rv A r)) 2).1 = -9 then (-9, A) else ((p_srch A (a_kd A) (p_at (a_gn A) (a_rv A r)) 2).1, A_told A (j_k (p_srch A (a_kd A) (p_at (a_gn A) (a_rv A r)) 2).2.2.1))) else p_need r A
def p_whoC (r : Int) (A : Ast) : Int × Ast := if (p_need r A).1 = 0 then (if (p_srch A (a_kd A) (p_at (a_gn A) (a_rv A r)) 2).1 = -9 ∨ (p_srch A (a_kd A) (p_at (a_gn A) (a_rv A r)) 2).1 = 0 then (-9, A) else ((p_srch A (a_kd A) (p_at (a_gn A) (a_rv A r)) 2).2.2.2.2.1, A_told A (j_k (p_srch A (a_kd A) (p_at (a_gn A) (a_rv A r)) 2).2.2.2.2.2))) else p_need r A
def p_breed (q : Int) (A : Ast) : Int × Ast := if 0 ≤ q ∧ q ≤ 5 then (if a_N A = 0 then (-4, A) else ((p_srch A (fun _ => q) (p_safe (a_gr A) (a_gn A)) 2).1, A)) else (-1, A)
theorem few_rg {drv : Fl → Int → Option Fl} {m4 : Nat} {want : Fl → Bool} {f : Fl} : ∀ (t r : Nat), (p_few drv m4 want f t r).1 = -9 ∨ ((r : Int) ≤ (p_few drv m4 want f t r).1 ∧ (p_few drv m4 want f t r).1 ≤ r + t)
  | 0, r => by
    unfold p_few
    split
    · right; show (r : Int) ≤ r ∧ (r : Int) ≤ r + 0; omega
    · exact Or.inl rfl
  | t + 1, r => by
    unfold p_few
    split
    · right; show (r : Int) ≤ r ∧ (r : Int) ≤ r + _; omega
    · have := few_rg (drv := drv) (m4 := m4) (want := want) (f := f) t (r + 1)
      omega
section CALLS6
variable {L p d : Nat} {J : Nat → Nat → Int64} {I I' : Nat → Nat → Int32} {A : Ast} {K : Option Rr} {r i : Int}
theorem frB.x (h : frB I I') : ∀ r, (r < 17 ∨ (27 ≤ r ∧ r < 48) ∨ 86 ≤ r) → I' r = I r := fun r hr => h.1 r (by omega) (by omega)
theorem x_fewest (hx : iX I J A) : xc L p I J (d + 11) 92 [.ref 0] (p_fewest A) := by
  have hC := hx.1.1
  have ho := hx.1.2.1
  have hG := hx.2.2.2.1
  have hF := hx.2.2.2.2.1
  have hT := hx.2.2.2.2.2.2.2.2.1
  have hM := hx.2.2.2.2.2.2.2.1
  have hn := hC.2.2.1
  have hn4 := hC.2.2.2.1
  obtain ⟨bN0, bN1, -⟩ := bd_N hC
  have hA := fa_31
  have hg := ga_27
  have e := (r_92 (d + 10) (ST L p I J) 0).trans (t_92_0 _ _ _ _)
  unfold p_fewest
  by_cases y : a_N A = 0
  · rw [if_pos y]
    simp (disch := first | assumption | omega) only [k_add, k_sub, k_mul, k_lt, k_eq, k_lt0, k_0lt, k_eq0, k_nat, k_b0, k_b1, k_z1, k_z0, k_o1, k_o0, Int.reduceEq, Int.reduceLT, Int.reduceLE, Int.reduceAdd, Int.reduceMul, Int.reduceNeg, Bool.false_eq_true, or_true, true_or, or_false, false_or, and_true, true_and, and_false, false_and, not_true_eq_false, not_false_eq_true, ↓reduceIte, z_0, z_k, s_I, s_J, s_uI, s_uJ, ↓c_gP_0_3, ↓g_oc, hG.2.2.1, y] at e
    exact .of ⟨_, e, hx, fun _ _ => rfl⟩
  · rw [if_neg y]
    obtain ⟨q1, q2⟩ := s_seekSafe (L := L) (p := p) (d := d + 9) (I := I) (J := J) (gr := a_gr A) (n := a_gn A)
    have w1 : ∀ r, r ≠ 53 → u2 I 53 2 (j_k 1) r = I r := fun r hr => by funext k; rw [u2_r hr]
    obtain ⟨I', s1, s2, s3⟩ := s_fewFrom (L := L) (p := p) (d := d) (J := J) hC hA (by decide) (hF.cg (fun r r1 r2 => w1 r (by omega))) ho (by decide) (hG.cg (fun r r1 r2 => w1 r (by omega))) (hT.cg (w1 _ (by decide)) (w1 _ (by decide))) q2 (most := 3) (by decide)
    have s1' : j_run (d + 10) 54 [.ref 53, .ref 27, .ref 31, .int (j_k 3)] (ST L p (u2 I 53 2 (j_k 1)) J) = some (some (.int (j_k (p_srch A (a_kd A) (p_safe (a_gr A) (a_gn A)) 3).1)), ST L p I' J) := s1
    have s2' : iS I' (p_srch A (a_kd A) (p_safe (a_gr A) (a_gn A)) 3).2 := s2
    have rg : (p_srch A (a_kd A) (p_safe (a_gr A) (a_gn A)) 3).1 = -9 ∨ (0 ≤ (p_srch A (a_kd A) (p_safe (a_gr A) (a_gn A)) 3).1 ∧ (p_srch A (a_kd A) (p_safe (a_gr A) (a_gn A)) 3).1 ≤ 0 + 3) := few_rg 3 0
    have fr' : ∀ r, (r < 17 ∨ (27 ≤ r ∧ r < 48) ∨ 86 ≤ r) → I' r = I r := fun r hr => (s3.x r hr).trans (w1 r (by omega))
    by_cases x : (p_srch A (a_kd A) (p_safe (a_gr A) (a_gn A)) 3).1 = -9
    · rw [if_pos x]
      rw [x] at s1'
      simp (disch := first | assumption | omega) only [k_add, k_sub, k_mul, k_lt, k_eq, k_lt0, k_0lt, k_eq0, k_nat, k_b0, k_b1, k_z1, k_z0, k_o1, k_o0, Int.reduceEq, Int.reduceLT, Int.reduceLE, Int.reduceAdd, Int.reduceMul, Int.reduceNeg, Bool.false_eq_true, or_true, true_or, or_false, false_or, and_true, true_and, and_false, false_and, not_true_eq_false, not_false_eq_true, ↓reduceIte, z_0, z_k, s_I, s_J, s_uI, s_uJ, ↓c_gP_0_3, ↓g_oc, hG.2.2.1, y, ↓c_gP_0_8, ↓c_oc_53, ↓jc0 q1, ↓c_gP_0_4, ↓jc1 s1'] at e
      exact .of ⟨I', e, hx.same fr' rfl, fun q hq => fr' q (by omega)⟩
    · rw [if_neg x]
      obtain ⟨x1, x2⟩ := rg.resolve_left x
      simp (disch := first | assumption | omega) only [k_add, k_sub, k_mul, k_lt, k_eq, k_lt0, k_0lt, k_eq0, k_nat, k_b0, k_b1, k_z1, k_z0, k_o1, k_o0, Int.reduceEq, Int.reduceLT, Int.reduceLE, Int.reduceAdd, Int.reduceMul, Int.reduceNeg, Bool.false_eq_true, or_true, true_or, or_false, false_or, and_true, true_and, and_false, false_and, not_true_eq_false, not_false_eq_true, ↓reduceIte, z_0, z_k, s_I, s_J, s_uI, s_uJ, ↓c_gP_0_3, ↓g_oc, hG.2.2.1, y, ↓c_gP_0_8, ↓c_oc_53, ↓jc0 q1, ↓c_gP_0_4, ↓jc1 s1', x, ↓c_lt_0, ↓c_oc_0, s2'.2.2.1] at e
      refine .of ⟨_, e, (hx.same fr' rfl).tell (fun q a b => by funext k; rw [u2_r a]) (fun k hk => by rw [u2_k hk]) (u2_ss _ _ _ _), fun q hq => by funext k; rw [u2_r (by omega), fr' q (by omega)]⟩
theorem need_0 {r : Int} {A : Ast} (h : (p_need r A).1 = 0) : (0 ≤ r ∧ r < 6) ∧ a_rz A r = a_gn A := by
  unfold p_need at h
  by_cases c : (p_miss 6 (a_rz A) r A).1 = 0
  · rw [if_pos c] at h
    by_cases y : a_rz A r = a_gn A
    · exact ⟨(miss_0 c).1, y⟩
    · rw [if_neg y] at h
      exact absurd h (by show ¬ (-3 : Int) = 0; decide)
  · rw [if_neg c] at h
    exact absurd h c
theorem need_rg {r : Int} {A : Ast} : -3 ≤ (p_need r A).1 ∧ (p_need r A).1 ≤ 0 := by
  unfold p_need
  split
  · split
    · split
      · exact ⟨by show (-3 : Int) ≤ 0; decide, by show (0 : Int) ≤ 0; decide⟩
      · exact ⟨by show (-3 : Int) ≤ -3; decide, by show (-3 : Int) ≤ 0; decide⟩
    · exact ⟨by show (-3 : Int) ≤ -3; decide, by show (-3 : Int) ≤ 0; decide⟩
  · exact miss_rg
theorem k_self (v : Int32) : v = j_k v.toInt := (Int32.ofInt_toInt _).symm
theorem x_need (hx : iX I J A) {r : Int} (h1 : -2147483648 ≤ r) (h2 : r < 2147483648) : ∃ I', j_run (d + 3) 116 [.ref 0, .int (j_k r)] (ST L p I J) = some (some (.int (j_k (p_need r A).1)), ST L p I' J) ∧ iX I' J (p_need r A).2 ∧ (∀ q, q ≠ 0 → q ≠ 86 → I' q = I q) ∧ ((p_need r A).1 = 0 → I' = I) := by
  have hC := hx.1.1
  have ho := hx.1.2.1
  have hG := hx.2.2.2.1
  have hF := hx.2.2.2.2.1
  have hT := hx.2.2.2.2.2.2.2.2.1
  have hM := hx.2.2.2.2.2.2.2.1
  have hn := hC.2.2.1
  have hn4 := hC.2.2.2.1
  obtain ⟨bN0, bN1, -⟩ := bd_N hC
  have hA := fa_31
  have hg := ga_27
  obtain ⟨I1, q1, q2, q3, q4⟩ := x_miss1 (L := L) (p := p) (d := d) hx h1 h2
  have e := (r_116 (d + 2) (ST L p I J) 0 (j_k r)).trans (t_116_0 _ _ _ _ _)
  unfold p_need
  by_cases c : (p_miss 6 (a_rz A) r A).1 = 0
  · rw [if_pos c]
    obtain ⟨⟨r1, r2⟩, m2⟩ := miss_0 c
    rw [c, q4 c] at q1
    have hr := (hx.2.1 r r1 r2).1
    have br := hx.1.2.2.2.1 r r1 r2
    have br1 := br.1
    have br2 := br.2
    by_cases y : a_rz A r = a_gn A
    · rw [if_pos y]
      simp (disch := first | assumption | omega) only [k_add, k_sub, k_mul, k_lt, k_eq, k_lt0, k_0lt, k_eq0, k_nat, k_b0, k_b1, k_z1, k_z0, k_o1, k_o0, Int.reduceEq, Int.reduceLT, Int.reduceLE, Int.reduceAdd, Int.reduceMul, Int.reduceNeg, Bool.false_eq_true, or_true, true_or, or_false, false_or, and_true, true_and, and_false, false_and, not_true_eq_false, not_false_eq_true, ↓reduceIte, z_0, z_k, s_I, s_J, s_uI, s_uJ, ↓c_gP_0_0, ↓c_oc_0, ↓jc1 q1, ↓c_gP_1_1, ↓c_ia_9, hr, ↓c_gP_0_4, ↓f_oc, hF.1, y] at e
      obtain ⟨I', e1, e2, e3⟩ := x_finds (L := L) (p := p) (d := d + 1) hx (q := 3) (by decide) (by decide)
      have check : ∀ (t M : Nat) (k : Int), 0 ≤ k → k + t = a_gn A → t < M →
          (p_first (fun i => decide (a_rv A r i ≠ j_k (-9) ∧ ¬ (0 ≤ (a_rv A r i).toInt ∧ (a_rv A r i).toInt < a_N A))) t k ≠ -9 → j_exec k_116 h_116 (j_run (d + 2)) M 43 [some (.ref 0), some (.int (j_k r)), some (.int (j_k 0)), some (.int (j_k k)), none] [] (ST L p I J) = some (some (.int (j_k (p_meets 3 A).1)), ST L p I' J)) ∧
          (p_first (fun i => decide (a_rv A r i ≠ j_k (-9) ∧ ¬ (0 ≤ (a_rv A r i).toInt ∧ (a_rv A r i).toInt < a_N A))) t k = -9 → j_exec k_116 h_116 (j_run (d + 2)) M 43 [some (.ref 0), some (.int (j_k r)), some (.int (j_k 0)), some (.int (j_k k)), none] [] (ST L p I J) = some (some (.int (j_k 0)), ST L p I J)) := by
        intro t
        induction t with
        | zero =>
          intro M k k1 k2 hM
          obtain ⟨M, rfl⟩ : ∃ q, M = q + 1 := ⟨M - 1, by omega⟩
          have z : ¬ k < a_gn A := by omega
          refine ⟨fun u => absurd rfl u, fun _ => ?_⟩
          rw [x_exec, t_116_43]
          simp (disch := first | assumption | omega) only [k_add, k_sub, k_mul, k_lt, k_eq, k_lt0, k_0lt, k_eq0, k_nat, k_b0, k_b1, k_z1, k_z0, k_o1, k_o0, Int.reduceEq, Int.reduceLT, Int.reduceLE, Int.reduceAdd, Int.reduceMul, Int.reduceNeg, Bool.false_eq_true, or_true, true_or, or_false, false_or, and_true, true_and, and_false, false_and, not_true_eq_false, not_false_eq_true, ↓reduceIte, z_0, z_k, s_I, s_J, s_uI, s_uJ, ↓c_gP_0_4, ↓f_oc, hF.1, z]
        | succ t ih =>
          intro M k k1 k2 hM
          obtain ⟨M, rfl⟩ : ∃ q, M = q + 1 := ⟨M - 1, by omega⟩
          have z : k < a_gn A := by omega
          have k6 : k < 60 := by omega
          have hv : I (3 + 1 * r.toNat) k.toNat = j_k (a_rv A r k).toInt := ((hx.2.1 r r1 r2).2 k k1 k6).trans (k_self _)
          have v1 := Int32.le_toInt (a_rv A r k)
          have v2 := Int32.toInt_lt (a_rv A r k)
          have v9 : (a_rv A r k = j_k (-9)) = ((a_rv A r k).toInt = -9) := by
            conv => lhs; lhs; rw [k_self (a_rv A r k)]
            exact k_eq (by omega) (by omega) (by decide) (by decide)
          have ih' := ih M (k + 1) (by omega) (by omega) (by omega)
          have qg := s_ghas (L := L) (p := p) (d := d + 1) (J := J) hg hG bN0 bN1 (c := (a_rv A r k).toInt) (by omega) (by omega)
          rw [x_exec, t_116_43, p_firstS]
          by_cases w1 : (a_rv A r k).toInt = -9
          · have w0 : ¬ (a_rv A r k ≠ j_k (-9) ∧ ¬ (0 ≤ (a_rv A r k).toInt ∧ (a_rv A r k).toInt < a_N A)) := fun u => u.1 (v9.mpr w1)
            rw [decide_eq_false w0, if_neg (by decide)]
            simp (disch := first | assumption | omega) only [k_add, k_sub, k_mul, k_lt, k_eq, k_lt0, k_0lt, k_eq0, k_nat, k_b0, k_b1, k_z1, k_z0, k_o1, k_o0, Int.reduceEq, Int.reduceLT, Int.reduceLE, Int.reduceAdd, Int.reduceMul, Int.reduceNeg, Bool.false_eq_true, or_true, true_or, or_false, false_or, and_true, true_and, and_false, false_and, not_true_eq_false, not_false_eq_true, ↓reduceIte, z_0, z_k, s_I, s_J, s_uI, s_uJ, ↓c_gP_0_4, ↓f_oc, hF.1, z, ↓c_gP_0_0, ↓c_gP_1_0, ↓c_qa_2, ↓ia_row, hv, w1]
            exact ih'
          · by_cases w2 : 0 ≤ (a_rv A r k).toInt ∧ (a_rv A r k).toInt < a_N A
            · have w0 : ¬ (a_rv A r k ≠ j_k (-9) ∧ ¬ (0 ≤ (a_rv A r k).toInt ∧ (a_rv A r k).toInt < a_N A)) := fun u => u.2 w2
              have w3 : j_z (0 ≤ (a_rv A r k).toInt ∧ (a_rv A r k).toInt < a_N A) = j_k 1 := if_pos w2
              rw [w3] at qg
              rw [decide_eq_false w0, if_neg (by decide)]
              simp (disch := first | assumption | omega) only [k_add, k_sub, k_mul, k_lt, k_eq, k_lt0, k_0lt, k_eq0, k_nat, k_b0, k_b1, k_z1, k_z0, k_o1, k_o0, Int.reduceEq, Int.reduceLT, Int.reduceLE, Int.reduceAdd, Int.reduceMul, Int.reduceNeg, Bool.false_eq_true, or_true, true_or, or_false, false_or, and_true, true_and, and_false, false_and, not_true_eq_false, not_false_eq_true, ↓reduceIte, z_0, z_k, s_I, s_J, s_uI, s_uJ, ↓c_gP_0_4, ↓c_gP_0_3, ↓f_oc, ↓g_oc, hF.1, z, ↓c_gP_0_0, ↓c_gP_1_0, ↓c_qa_2, ↓ia_row, hv, w1, ↓jc1 qg]
              exact ih'
            · have w0 : a_rv A r k ≠ j_k (-9) ∧ ¬ (0 ≤ (a_rv A r k).toInt ∧ (a_rv A r k).toInt < a_N A) := ⟨fun u => w1 (v9.mp u), w2⟩
              have w3 : j_z (0 ≤ (a_rv A r k).toInt ∧ (a_rv A r k).toInt < a_N A) = j_k 0 := if_neg w2
              rw [w3] at qg
              rw [decide_eq_true w0, if_pos rfl]
              refine ⟨fun _ => ?_, fun u => absurd u (by omega)⟩
              simp (disch := first | assumption | omega) only [k_add, k_sub, k_mul, k_lt, k_eq, k_lt0, k_0lt, k_eq0, k_nat, k_b0, k_b1, k_z1, k_z0, k_o1, k_o0, Int.reduceEq, Int.reduceLT, Int.reduceLE, Int.reduceAdd, Int.reduceMul, Int.reduceNeg, Bool.false_eq_true, or_true, true_or, or_false, false_or, and_true, true_and, and_false, false_and, not_true_eq_false, not_false_eq_true, ↓reduceIte, z_0, z_k, s_I, s_J, s_uI, s_uJ, ↓c_gP_0_4, ↓c_gP_0_3, ↓f_oc, ↓g_oc, hF.1, z, ↓c_gP_0_0, ↓c_gP_1_0, ↓c_qa_2, ↓ia_row, hv, w1, ↓jc1 qg, ↓c_oc_0, ↓jc1 e1]
      obtain ⟨ch1, ch2⟩ := check (a_gn A).toNat 999999 0 (Int.le_refl 0) (by omega) (by omega)
      by_cases w : p_first (fun i => decide (a_rv A r i ≠ j_k (-9) ∧ ¬ (0 ≤ (a_rv A r i).toInt ∧ (a_rv A r i).toInt < a_N A))) (a_gn A).toNat 0 = -9
      · rw [if_pos w]
        exact ⟨I, e.trans (ch2 w), hx, fun _ _ _ => rfl, fun _ => rfl⟩
      · rw [if_neg w]
        exact ⟨I', e.trans (ch1 w), e2, e3, fun u => absurd u (by show ¬ (-3 : Int) = 0; decide)⟩
    · rw [if_neg y]
      obtain ⟨I', e1, e2, e3⟩ := x_finds (L := L) (p := p) (d := d + 1) hx (q := 5) (by decide) (by decide)
      simp (disch := first | assumption | omega) only [k_add, k_sub, k_mul, k_lt, k_eq, k_lt0, k_0lt, k_eq0, k_nat, k_b0, k_b1, k_z1, k_z0, k_o1, k_o0, Int.reduceEq, Int.reduceLT, Int.reduceLE, Int.reduceAdd, Int.reduceMul, Int.reduceNeg, Bool.false_eq_true, or_true, true_or, or_false, false_or, and_true, true_and, and_false, false_and, not_true_eq_false, not_false_eq_true, ↓reduceIte, z_0, z_k, s_I, s_J, s_uI, s_uJ, ↓c_gP_0_0, ↓c_oc_0, ↓jc1 q1, ↓c_gP_1_1, ↓c_ia_9, hr, ↓c_gP_0_4, ↓f_oc, hF.1, y, ↓jc1 e1] at e
      exact ⟨I', e, e2, e3, fun u => absurd u (by show ¬ (-3 : Int) = 0; decide)⟩
  · rw [if_neg c]
    have c5 := miss_rg (C := 6) (z := a_rz A) (r := r) (A := A)
    have c6 := c5.1
    have c7 := c5.2
    simp (disch := first | assumption | omega) only [k_add, k_sub, k_mul, k_lt, k_eq, k_lt0, k_0lt, k_eq0, k_nat, k_b0, k_b1, k_z1, k_z0, k_o1, k_o0, Int.reduceEq, Int.reduceLT, Int.reduceLE, Int.reduceAdd, Int.reduceMul, Int.reduceNeg, Bool.false_eq_true, or_true, true_or, or_false, false_or, and_true, true_and, and_false, false_and, not_true_eq_false, not_false_eq_true, ↓reduceIte, z_0, z_k, s_I, s_J, s_uI, s_uJ, ↓c_gP_0_0, ↓c_oc_0, ↓jc1 q1, c] at e
    exact ⟨I1, e, q2, q3, fun u => absurd u c⟩
theorem x_seek (hx : iX I J A) {r : Int} (r1 : 0 ≤ r) (r2 : r < 6) : ∃ I1 I2, j_run (d + 10) 53 [.ref 53, .ref (3 + 1 * r.toNat)] (ST L p I J) = some (none, ST L p I1 J) ∧ j_run (d + 10) 54 [.ref 53, .ref 27, .ref 31, .int (j_k 2)] (ST L p I1 J) = some (some (.int (j_k (p_srch A (a_kd A) (p_at (a_gn A) (a_rv A r)) 2).1)), ST L p I2 J) ∧ iS I2 (p_srch A (a_kd A) (p_at (a_gn A) (a_rv A r)) 2).2 ∧ ∀ r, (r < 17 ∨ (27 ≤ r ∧ r < 48) ∨ 86 ≤ r) → I2 r = I r := by
  have hC := hx.1.1
  have ho := hx.1.2.1
  have hG := hx.2.2.2.1
  have hF := hx.2.2.2.2.1
  have hT := hx.2.2.2.2.2.2.2.2.1
  have hM := hx.2.2.2.2.2.2.2.1
  have hn := hC.2.2.1
  have hn4 := hC.2.2.2.1
  obtain ⟨bN0, bN1, -⟩ := bd_N hC
  have hA := fa_31
  have hg := ga_27
  obtain ⟨I1, t1, t2, t3⟩ := s_seekDawn (L := L) (p := p) (d := d + 9) (I := I) (J := J) (gr := a_gr A) (n := a_gn A) (sh_row (L := L) r1 r2) (by omega) hn hn4
  have ea : p_at (a_gn A) (fun k => I (3 + 1 * r.toNat) k.toNat) = p_at (a_gn A) (a_rv A r) := at_cg (fun j j1 j2 => (hx.2.1 r r1 r2).2 j j1 (by omega))
  rw [ea] at t2
  obtain ⟨I2, s1, s2, s3⟩ := s_fewFrom (L := L) (p := p) (d := d) (J := J) hC hA (by decide) (hF.cg (fun r r1 r2 => t3 r (by omega) (by omega))) ho (by decide) (hG.cg (fun r r1 r2 => t3 r (by omega) (by omega))) (hT.cg (t3 _ (by decide) (by decide)) (t3 _ (by decide) (by decide))) t2 (most := 2) (by decide)
  exact ⟨I1, I2, t1, s1, s2, fun r hr => (s3.x r hr).trans (t3 r (by omega) (by omega))⟩
theorem x_dawn (hx : iX I J A) {r : Int} (h1 : -2147483648 ≤ r) (h2 : r < 2147483648) : xc L p I J (d + 11) 102 [.ref 0, .int (j_k r)] (p_dawn r A) := by
  obtain ⟨I1, q1, q2, q3, q4⟩ := x_need (L := L) (p := p) (d := d + 7) hx h1 h2
  have e := (r_102 (d + 10) (ST L p I J) 0 (j_k r)).trans (t_102_0 _ _ _ _ _)
  unfold p_dawn
  by_cases c : (p_need r A).1 = 0
  · rw [if_pos c]
    obtain ⟨⟨r1, r2⟩, y⟩ := need_0 c
    rw [c, q4 c] at q1
    obtain ⟨I2, I3, t1, t2, t3, t4⟩ := x_seek (L := L) (p := p) (d := d) hx r1 r2
    have rg : (p_srch A (a_kd A) (p_at (a_gn A) (a_rv A r)) 2).1 = -9 ∨ (0 ≤ (p_srch A (a_kd A) (p_at (a_gn A) (a_rv A r)) 2).1 ∧ (p_srch A (a_kd A) (p_at (a_gn A) (a_rv A r)) 2).1 ≤ 0 + 2) := few_rg 2 0
    by_cases x : (p_srch A (a_kd A) (p_at (a_gn A) (a_rv A r)) 2).1 = -9
    · rw [if_pos x]
      rw [x] at t2
      simp (disch := first | assumption | omega) only [k_add, k_sub, k_mul, k_lt, k_eq, k_lt0, k_0lt, k_eq0, k_nat, k_b0, k_b1, k_z1, k_z0, k_o1, k_o0, Int.reduceEq, Int.reduceLT, Int.reduceLE, Int.reduceAdd, Int.reduceMul, Int.reduceNeg, Bool.false_eq_true, or_true, true_or, or_false, false_or, and_true, true_and, and_false, false_and, not_true_eq_false, not_false_eq_true, ↓reduceIte, z_0, z_k, s_I, s_J, s_uI, s_uJ, ↓c_oc_0, ↓jc1 q1, ↓c_gP_0_8, ↓c_gP_0_0, ↓c_gP_1_0, ↓c_qa_2, ↓c_oc_53, ↓jc0 t1, ↓c_gP_0_3, ↓c_gP_0_4, ↓jc1 t2] at e
      exact .of ⟨I3, e, hx.same t4 rfl, fun q hq => t4 q (by omega)⟩
    · rw [if_neg x]
      obtain ⟨x1, x2⟩ := rg.resolve_left x
      simp (disch := first | assumption | omega) only [k_add, k_sub, k_mul, k_lt, k_eq, k_lt0, k_0lt, k_eq0, k_nat, k_b0, k_b1, k_z1, k_z0, k_o1, k_o0, Int.reduceEq, Int.reduceLT, Int.reduceLE, Int.reduceAdd, Int.reduceMul, Int.reduceNeg, Bool.false_eq_true, or_true, true_or, or_false, false_or, and_true, true_and, and_false, false_and, not_true_eq_false, not_false_eq_true, ↓reduceIte, z_0, z_k, s_I, s_J, s_uI, s_uJ, ↓c_oc_0, ↓jc1 q1, ↓c_gP_0_8, ↓c_gP_0_0, ↓c_gP_1_0, ↓c_qa_2, ↓c_oc_53, ↓jc0 t1, ↓c_gP_0_3, ↓c_gP_0_4, ↓jc1 t2, x, ↓c_lt_0, t3.2.1] at e
      refine .of ⟨_, e, (hx.same t4 rfl).tell (fun q a b => by funext k; rw [u2_r a]) (fun k hk => by rw [u2_k hk]) (u2_ss _ _ _ _), fun q hq => by funext k; rw [u2_r (by omega), t4 q (by omega)]⟩
  · rw [if_neg c]
    have c5 := need_rg (r := r) (A := A)
    have c6 := c5.1
    have c7 := c5.2
    simp (disch := first | assumption | omega) only [k_add, k_sub, k_mul, k_lt, k_eq, k_lt0, k_0lt, k_eq0, k_nat, k_b0, k_b1, k_z1, k_z0, k_o1, k_o0, Int.reduceEq, Int.reduceLT, Int.reduceLE, Int.reduceAdd, Int.reduceMul, Int.reduceNeg, Bool.false_eq_true, or_true, true_or, or_false, false_or, and_true, true_and, and_false, false_and, not_true_eq_false, not_false_eq_true, ↓reduceIte, z_0, z_k, s_I, s_J, s_uI, s_uJ, ↓c_oc_0, ↓jc1 q1, c] at e
    exact .of ⟨I1, e, q2, fun q hq => q3 q (by omega) (by omega)⟩
theorem x_who (hx : iX I J A) {r : Int} (h1 : -2147483648 ≤ r) (h2 : r < 2147483648) : xc L p I J (d + 11) 103 [.ref 0, .int (j_k r)] (p_whoC r A) := by
  obtain ⟨I1, q1, q2, q3, q4⟩ := x_need (L := L) (p := p) (d := d + 7) hx h1 h2
  have e := (r_103 (d + 10) (ST L p I J) 0 (j_k r)).trans (t_103_0 _ _ _ _ _)
  unfold p_whoC
  by_cases c : (p_need r A).1 = 0
  · rw [if_pos c]
    obtain ⟨⟨r1, r2⟩, y⟩ := need_0 c
    rw [c, q4 c] at q1
    obtain ⟨I2, I3, t1, t2, t3, t4⟩ := x_seek (L := L) (p := p) (d := d) hx r1 r2
    have rg : (p_srch A (a_kd A) (p_at (a_gn A) (a_rv A r)) 2).1 = -9 ∨ (0 ≤ (p_srch A (a_kd A) (p_at (a_gn A) (a_rv A r)) 2).1 ∧ (p_srch A (a_kd A) (p_at (a_gn A) (a_rv A r)) 2).1 ≤ 0 + 2) := few_rg 2 0
    by_cases x : (p_srch A (a_kd A) (p_at (a_gn A) (a_rv A r)) 2).1 = -9
    · rw [if_pos (Or.inl x)]
      rw [x] at t2
      simp (disch := first | assumption | omega) only [k_add, k_sub, k_mul, k_lt, k_eq, k_lt0, k_0lt, k_eq0, k_nat, k_b0, k_b1, k_z1, k_z0, k_o1, k_o0, Int.reduceEq, Int.reduceLT, Int.reduceLE, Int.reduceAdd, Int.reduceMul, Int.reduceNeg, Bool.false_eq_true, or_true, true_or, or_false, false_or, and_true, true_and, and_false, false_and, not_true_eq_false, not_false_eq_true, ↓reduceIte, z_0, z_k, s_I, s_J, s_uI, s_uJ, ↓c_oc_0, ↓jc1 q1, ↓c_gP_0_8, ↓c_gP_0_0, ↓c_gP_1_0, ↓c_qa_2, ↓c_oc_53, ↓jc0 t1, ↓c_gP_0_3, ↓c_gP_0_4, ↓jc1 t2] at e
      exact .of ⟨I3, e, hx.same t4 rfl, fun q hq => t4 q (by omega)⟩
    · obtain ⟨x1, x2⟩ := rg.resolve_left x
      by_cases x0 : (p_srch A (a_kd A) (p_at (a_gn A) (a_rv A r)) 2).1 = 0
      · rw [if_pos (Or.inr x0)]
        rw [x0] at t2
        simp (disch := first | assumption | omega) only [k_add, k_sub, k_mul, k_lt, k_eq, k_lt0, k_0lt, k_eq0, k_nat, k_b0, k_b1, k_z1, k_z0, k_o1, k_o0, Int.reduceEq, Int.reduceLT, Int.reduceLE, Int.reduceAdd, Int.reduceMul, Int.reduceNeg, Bool.false_eq_true, or_true, true_or, or_false, false_or, and_true, true_and, and_false, false_and, not_true_eq_false, not_false_eq_true, ↓reduceIte, z_0, z_k, s_I, s_J, s_uI, s_uJ, ↓c_oc_0, ↓jc1 q1, ↓c_gP_0_8, ↓c_gP_0_0, ↓c_gP_1_0, ↓c_qa_2, ↓c_oc_53, ↓jc0 t1, ↓c_gP_0_3, ↓c_gP_0_4, ↓jc1 t2] at e
        exact .of ⟨I3, e, hx.same t4 rfl, fun q hq => t4 q (by omega)⟩
      · rw [if_neg (fun u => u.elim x x0)]
        simp (disch := first | assumption | omega) only [k_add, k_sub, k_mul, k_lt, k_eq, k_lt0, k_0lt, k_eq0, k_nat, k_b0, k_b1, k_z1, k_z0, k_o1, k_o0, Int.reduceEq, Int.reduceLT, Int.reduceLE, Int.reduceAdd, Int.reduceMul, Int.reduceNeg, Bool.false_eq_true, or_true, true_or, or_false, false_or, and_true, true_and, and_false, false_and, not_true_eq_false, not_false_eq_true, ↓reduceIte, z_0, z_k, s_I, s_J, s_uI, s_uJ, ↓c_oc_0, ↓jc1 q1, ↓c_gP_0_8, ↓c_gP_0_0, ↓c_gP_1_0, ↓c_qa_2, ↓c_oc_53, ↓jc0 t1, ↓c_gP_0_3, ↓c_gP_0_4, ↓jc1 t2, x, x0, ↓c_lt_0, t3.2.2.2.1, t3.2.2.2.2, u2_r] at e
        refine .of ⟨_, e, (hx.same t4 rfl).tell (fun q a b => by funext k; rw [u2_r a]) (fun k hk => by rw [u2_k hk]) (u2_ss _ _ _ _), fun q hq => by funext k; rw [u2_r (by omega), t4 q (by omega)]⟩
  · rw [if_neg c]
    have c5 := need_rg (r := r) (A := A)
    have c6 := c5.1
    have c7 := c5.2
    simp (disch := first | assumption | omega) only [k_add, k_sub, k_mul, k_lt, k_eq, k_lt0, k_0lt, k_eq0, k_nat, k_b0, k_b1, k_z1, k_z0, k_o1, k_o0, Int.reduceEq, Int.reduceLT, Int.reduceLE, Int.reduceAdd, Int.reduceMul, Int.reduceNeg, Bool.false_eq_true, or_true, true_or, or_false, false_or, and_true, true_and, and_false, false_and, not_true_eq_false, not_false_eq_true, ↓reduceIte, z_0, z_k, s_I, s_J, s_uI, s_uJ, ↓c_oc_0, ↓jc1 q1, c] at e
    exact .of ⟨I1, e, q2, fun q hq => q3 q (by omega) (by omega)⟩
end CALLS6
