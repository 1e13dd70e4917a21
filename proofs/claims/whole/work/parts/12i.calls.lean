/-! ===== the model's calls: dawn, who, breed ===== -/
theorem ite_tt {α : Type} {P : Prop} [Decidable P] {a b : α} : (if true = true ∧ P then a else b) = if P then a else b := by
  by_cases x : P
  · rw [if_pos ⟨rfl, x⟩, if_pos x]
  · rw [if_neg (fun u => x u.2), if_neg x]
section MCALLS3B
variable {L p d : Nat} {I : Nat → Nat → Int32} {J : Nat → Nat → Int64} {A : Ast}
theorem n_need (hx : iM I J A) {r : Int} (r1 : 0 ≤ r) (r2 : r < 6) : ∃ I', j_run (d + 3) 225 [.ref 87, .int (j_k r)] (ST L p I J) = some (some (.int (j_k (p_need r A).1)), ST L p I' J) ∧ iM I' J (p_need r A).2 ∧ (∀ r, (r < 87 ∨ 104 ≤ r) → I' r = I r) ∧ ((p_need r A).1 = 0 → I' = I) := by
  have hC := hx.1.1
  have ho := hx.1.2.1
  have hm := hx.2.2.2.1
  have hf := hx.2.2.2.2.1
  have n0 := hC.2.2.1
  have n4 := hC.2.2.2.1
  have hw := hm.2.1
  have hN := hm.2.2.1
  have hn := hm.2.2.2.1
  have hk := hm.2.2.2.2.1
  have hg := hm.2.2.2.2.2
  obtain ⟨bN0, bN1, -⟩ := bd_N hC
  have hr := (hx.2.1 r r1 r2).1
  have br := hx.1.2.2.2.1 r r1 r2
  have br1 := br.1
  have br2 := br.2
  have e := (r_225 (d + 2) (ST L p I J) 87 (j_k r)).trans (t_225_0 _ _ _ _ _)
  have n3 : ¬ (-3 : Int) = 0 := by decide
  by_cases y : a_rz A r = -1
  · have E : p_need r A = p_meets 1 A := by
      unfold p_need
      rw [miss_m ⟨r1, r2⟩ y]
      exact if_neg n3
    rw [E]
    obtain ⟨I', e1, e2, e3⟩ := n_meets (L := L) (p := p) (d := d + 1) hx (q := 1) (by decide) (by decide)
    simp (disch := first | assumption | omega) only [k_add, k_sub, k_mul, k_lt, k_eq, k_lt0, k_0lt, k_eq0, k_nat, k_b0, k_b1, k_z1, k_z0, k_o1, k_o0, Int.reduceEq, Int.reduceLT, Int.reduceLE, Int.reduceAdd, Int.reduceMul, Int.reduceNeg, Bool.false_eq_true, or_true, true_or, or_false, false_or, and_true, true_and, and_false, false_and, not_true_eq_false, not_false_eq_true, ↓reduceIte, z_0, z_k, s_I, s_J, s_uI, s_uJ, ↓c_gP_87_5, ↓c_ia_89, hr, y, ↓c_oc_87, ↓jc1 e1] at e
    exact ⟨I', e, e2, e3, fun u => absurd u n3⟩
  · have y' : ¬ a_rz A r < 0 := by omega
    by_cases w : a_rz A r = a_gn A
    · obtain ⟨I', e1, e2, e3⟩ := n_meets (L := L) (p := p) (d := d + 1) hx (q := 3) (by decide) (by decide)
      have loop : ∀ (t M : Nat) (k : Int) (s : Bool), 0 ≤ k → k + t = a_gn A → t < M → j_exec k_225 h_225 (j_run (d + 2)) M 38 [some (.ref 87), some (.int (j_k r)), some (.int (j_z (s = true))), some (.int (j_k k))] [] (ST L p I J) = if s = true ∧ p_first (fun i => decide (a_rv A r i ≠ j_k (-9) ∧ ¬ (0 ≤ (a_rv A r i).toInt ∧ (a_rv A r i).toInt < a_N A))) t k = -9 then some (some (.int (j_k 0)), ST L p I J) else some (some (.int (j_k (-3))), ST L p I' J) := by
        intro t
        induction t with
        | zero =>
          intro M k s k1 k2 hM
          obtain ⟨M, rfl⟩ : ∃ q, M = q + 1 := ⟨M - 1, by omega⟩
          have z : ¬ k < a_gn A := by omega
          rw [x_exec, t_225_38, p_first0]
          cases s
          · rw [if_neg (show ¬ (false = true ∧ (-9 : Int) = -9) from fun u => absurd u.1 Bool.false_ne_true), z_f]
            simp (disch := first | assumption | omega) only [k_add, k_sub, k_mul, k_lt, k_eq, k_lt0, k_0lt, k_eq0, k_nat, k_b0, k_b1, k_z1, k_z0, k_o1, k_o0, Int.reduceEq, Int.reduceLT, Int.reduceLE, Int.reduceAdd, Int.reduceMul, Int.reduceNeg, Bool.false_eq_true, or_true, true_or, or_false, false_or, and_true, true_and, and_false, false_and, not_true_eq_false, not_false_eq_true, ↓reduceIte, z_0, z_k, s_I, s_J, s_uI, s_uJ, ↓c_oc_87, hn, z, ↓jc1 e1]
          · rw [if_pos (show true = true ∧ (-9 : Int) = -9 from ⟨rfl, rfl⟩), z_t]
            simp (disch := first | assumption | omega) only [k_add, k_sub, k_mul, k_lt, k_eq, k_lt0, k_0lt, k_eq0, k_nat, k_b0, k_b1, k_z1, k_z0, k_o1, k_o0, Int.reduceEq, Int.reduceLT, Int.reduceLE, Int.reduceAdd, Int.reduceMul, Int.reduceNeg, Bool.false_eq_true, or_true, true_or, or_false, false_or, and_true, true_and, and_false, false_and, not_true_eq_false, not_false_eq_true, ↓reduceIte, z_0, z_k, s_I, s_J, s_uI, s_uJ, ↓c_oc_87, hn, z]
        | succ t ih =>
          intro M k s k1 k2 hM
          obtain ⟨M, rfl⟩ : ∃ q, M = q + 1 := ⟨M - 1, by omega⟩
          have z : k < a_gn A := by omega
          have i0 := ih M (k + 1) false (by omega) (by omega) (by omega)
          have i1 := ih M (k + 1) true (by omega) (by omega) (by omega)
          rw [z_f, if_neg (fun u => absurd u.1 Bool.false_ne_true)] at i0
          rw [z_t, ite_tt] at i1
          rw [x_exec, t_225_38, p_firstS]
          cases s
          · rw [if_neg (show ¬ (false = true ∧ _) from fun u => absurd u.1 Bool.false_ne_true), z_f]
            simp (disch := first | assumption | omega) only [k_add, k_sub, k_mul, k_lt, k_eq, k_lt0, k_0lt, k_eq0, k_nat, k_b0, k_b1, k_z1, k_z0, k_o1, k_o0, Int.reduceEq, Int.reduceLT, Int.reduceLE, Int.reduceAdd, Int.reduceMul, Int.reduceNeg, Bool.false_eq_true, or_true, true_or, or_false, false_or, and_true, true_and, and_false, false_and, not_true_eq_false, not_false_eq_true, ↓reduceIte, z_0, z_k, s_I, s_J, s_uI, s_uJ, ↓c_oc_87, hn, z]
            exact i0
          · have ra := n_rowAt (L := L) (p := p) (d := d + 1) hx r1 r2 k1 (show k < 60 by omega)
            obtain ⟨c, hc, c1, c2⟩ : ∃ c, a_rv A r k = j_k c ∧ -2147483648 ≤ c ∧ c < 2147483648 := k_ex _
            have ct : (a_rv A r k).toInt = c := by rw [hc, k_int c1 c2]
            have ic := n_isCell (L := L) (p := p) (d := d) (J := J) hN bN0 bN1 c1 c2
            rw [hc] at ra
            rw [z_t]
            by_cases u : 0 ≤ c ∧ c ≤ a_N A - 1
            · have u1 : j_z (0 ≤ c ∧ c ≤ a_N A - 1) = j_k 1 := if_pos u
              rw [u1] at ic
              rw [decide_eq_false (show ¬ (a_rv A r k ≠ j_k (-9) ∧ ¬ (0 ≤ (a_rv A r k).toInt ∧ (a_rv A r k).toInt < a_N A)) from fun v => v.2 (by rw [ct]; omega)), if_neg Bool.false_ne_true, ite_tt]
              simp (disch := first | assumption | omega) only [k_add, k_sub, k_mul, k_lt, k_eq, k_lt0, k_0lt, k_eq0, k_nat, k_b0, k_b1, k_z1, k_z0, k_o1, k_o0, Int.reduceEq, Int.reduceLT, Int.reduceLE, Int.reduceAdd, Int.reduceMul, Int.reduceNeg, Bool.false_eq_true, or_true, true_or, or_false, false_or, and_true, true_and, and_false, false_and, not_true_eq_false, not_false_eq_true, ↓reduceIte, z_0, z_k, s_I, s_J, s_uI, s_uJ, ↓c_oc_87, hn, z, ↓jc1 ra, ↓jc1 ic]
              exact i1
            · have u1 : j_z (0 ≤ c ∧ c ≤ a_N A - 1) = j_k 0 := if_neg u
              rw [u1] at ic
              by_cases v : c = -9
              · rw [decide_eq_false (show ¬ (a_rv A r k ≠ j_k (-9) ∧ ¬ (0 ≤ (a_rv A r k).toInt ∧ (a_rv A r k).toInt < a_N A)) from fun t => t.1 (by rw [hc, v])), if_neg Bool.false_ne_true, ite_tt]
                simp (disch := first | assumption | omega) only [k_add, k_sub, k_mul, k_lt, k_eq, k_lt0, k_0lt, k_eq0, k_nat, k_b0, k_b1, k_z1, k_z0, k_o1, k_o0, Int.reduceEq, Int.reduceLT, Int.reduceLE, Int.reduceAdd, Int.reduceMul, Int.reduceNeg, Bool.false_eq_true, or_true, true_or, or_false, false_or, and_true, true_and, and_false, false_and, not_true_eq_false, not_false_eq_true, ↓reduceIte, z_0, z_k, s_I, s_J, s_uI, s_uJ, ↓c_oc_87, hn, z, ↓jc1 ra, ↓jc1 ic, v]
                exact i1
              · have v2 : ¬ j_k c = j_k (-9) := by rw [k_eq c1 c2 (by decide) (by decide)]; exact v
                rw [decide_eq_true (show a_rv A r k ≠ j_k (-9) ∧ ¬ (0 ≤ (a_rv A r k).toInt ∧ (a_rv A r k).toInt < a_N A) from ⟨by rw [hc]; exact v2, by rw [ct]; omega⟩), if_pos rfl, if_neg (show ¬ (true = true ∧ k = -9) from fun t => by omega)]
                simp (disch := first | assumption | omega) only [k_add, k_sub, k_mul, k_lt, k_eq, k_lt0, k_0lt, k_eq0, k_nat, k_b0, k_b1, k_z1, k_z0, k_o1, k_o0, Int.reduceEq, Int.reduceLT, Int.reduceLE, Int.reduceAdd, Int.reduceMul, Int.reduceNeg, Bool.false_eq_true, or_true, true_or, or_false, false_or, and_true, true_and, and_false, false_and, not_true_eq_false, not_false_eq_true, ↓reduceIte, z_0, z_k, s_I, s_J, s_uI, s_uJ, ↓c_oc_87, hn, z, ↓jc1 ra, ↓jc1 ic, v]
                exact i0
      have lp := loop (a_gn A).toNat 999999 0 true (Int.le_refl 0) (by omega) (by omega)
      rw [z_t] at lp
      have w' : a_rz A r = a_gn A := w
      rw [w] at hr
      have wn : ¬ a_gn A < 0 := by omega
      simp (disch := first | assumption | omega) only [k_add, k_sub, k_mul, k_lt, k_eq, k_lt0, k_0lt, k_eq0, k_nat, k_b0, k_b1, k_z1, k_z0, k_o1, k_o0, Int.reduceEq, Int.reduceLT, Int.reduceLE, Int.reduceAdd, Int.reduceMul, Int.reduceNeg, Bool.false_eq_true, or_true, true_or, or_false, false_or, and_true, true_and, and_false, false_and, not_true_eq_false, not_false_eq_true, ↓reduceIte, z_0, z_k, s_I, s_J, s_uI, s_uJ, ↓c_gP_87_5, ↓c_ia_89, hr, wn, ↓c_oc_87, hn] at e
      by_cases v : p_first (fun i => decide (a_rv A r i ≠ j_k (-9) ∧ ¬ (0 ≤ (a_rv A r i).toInt ∧ (a_rv A r i).toInt < a_N A))) (a_gn A).toNat 0 = -9
      · have E : p_need r A = (0, A) := by
          unfold p_need
          rw [miss_ok ⟨r1, r2⟩ y]
          exact (if_pos rfl).trans ((if_pos w').trans (if_pos v))
        rw [if_pos ⟨rfl, v⟩] at lp
        rw [E]
        exact ⟨I, e.trans lp, hx, fun _ _ => rfl, fun _ => rfl⟩
      · have E : p_need r A = p_meets 3 A := by
          unfold p_need
          rw [miss_ok ⟨r1, r2⟩ y]
          exact (if_pos rfl).trans ((if_pos w').trans (if_neg v))
        rw [if_neg (fun u => v u.2)] at lp
        rw [E]
        exact ⟨I', e.trans lp, e2, e3, fun u => absurd u n3⟩
    · have E : p_need r A = p_meets 5 A := by
        unfold p_need
        rw [miss_ok ⟨r1, r2⟩ y]
        exact (if_pos rfl).trans (if_neg w)
      rw [E]
      obtain ⟨I', e1, e2, e3⟩ := n_meets (L := L) (p := p) (d := d + 1) hx (q := 5) (by decide) (by decide)
      simp (disch := first | assumption | omega) only [k_add, k_sub, k_mul, k_lt, k_eq, k_lt0, k_0lt, k_eq0, k_nat, k_b0, k_b1, k_z1, k_z0, k_o1, k_o0, Int.reduceEq, Int.reduceLT, Int.reduceLE, Int.reduceAdd, Int.reduceMul, Int.reduceNeg, Bool.false_eq_true, or_true, true_or, or_false, false_or, and_true, true_and, and_false, false_and, not_true_eq_false, not_false_eq_true, ↓reduceIte, z_0, z_k, s_I, s_J, s_uI, s_uJ, ↓c_gP_87_5, ↓c_ia_89, hr, y', ↓c_oc_87, hn, w, ↓jc1 e1] at e
      exact ⟨I', e, e2, e3, fun u => absurd u n3⟩
theorem n_dawn (hx : iM I J A) {r : Int} (h1 : -2147483648 ≤ r) (h2 : r < 2147483648) : mc L p I J (d + 14) 226 [.ref 87, .int (j_k r)] (p_dawn r A) := by
  have hC := hx.1.1
  have ho := hx.1.2.1
  have hm := hx.2.2.2.1
  have hf := hx.2.2.2.2.1
  have n0 := hC.2.2.1
  have n4 := hC.2.2.2.1
  have hw := hm.2.1
  have hN := hm.2.2.1
  have hn := hm.2.2.2.1
  have hk := hm.2.2.2.2.1
  have hg := hm.2.2.2.2.2
  obtain ⟨bN0, bN1, -⟩ := bd_N hC
  have a1 := n_isRow (L := L) (p := p) (d := d + 11) (I := I) (J := J) h1 h2
  have e := (r_226 (d + 13) (ST L p I J) 87 (j_k r)).trans (t_226_0 _ _ _ _ _)
  by_cases x : 0 ≤ r ∧ r ≤ 5
  · have z : j_z (0 ≤ r ∧ r ≤ 5) = j_k 1 := if_pos x
    rw [z] at a1
    obtain ⟨r1, r2⟩ := x
    have r3 : r < 6 := by omega
    obtain ⟨I0, q1, q2, q3, q4⟩ := n_need (L := L) (p := p) (d := d + 10) hx r1 r3
    have nr := need_rg (r := r) (A := A)
    unfold p_dawn
    by_cases c : (p_need r A).1 = 0
    · rw [if_pos c]
      rw [c, q4 c] at q1
      obtain ⟨I1, b1, b2, b3⟩ := n_few (L := L) (p := p) (d := d) (J := J) (row := r) (want := p_at (a_gn A) (a_rv A r)) (most := 2) (by decide) hm hf ho (by decide) (Or.inr ⟨r1, r3, _, _, hx.2.1, rfl⟩)
      have fr := few_rg (drv := p_drive (a_gw A) (a_gh A) (a_gr A) (a_gn A) (a_kd A)) (m4 := (4 * a_gn A).toNat) (want := p_at (a_gn A) (a_rv A r)) (f := a_fl A) 2 0
      show mc L p I J (d + 14) 226 [.ref 87, .int (j_k r)] (if (p_few (p_drive (a_gw A) (a_gh A) (a_gr A) (a_gn A) (a_kd A)) (4 * a_gn A).toNat (p_at (a_gn A) (a_rv A r)) (a_fl A) 2 0).1 = -9 then (-9, A) else ((p_few (p_drive (a_gw A) (a_gh A) (a_gr A) (a_gn A) (a_kd A)) (4 * a_gn A).toNat (p_at (a_gn A) (a_rv A r)) (a_fl A) 2 0).1, A_told A (j_k (p_few (p_drive (a_gw A) (a_gh A) (a_gr A) (a_gn A) (a_kd A)) (4 * a_gn A).toNat (p_at (a_gn A) (a_rv A r)) (a_fl A) 2 0).2.2.1)))
      generalize p_few (p_drive (a_gw A) (a_gh A) (a_gr A) (a_gn A) (a_kd A)) (4 * a_gn A).toNat (p_at (a_gn A) (a_rv A r)) (a_fl A) 2 0 = F at *
      have c3 : ((2 : Nat) : Int) = 2 := rfl
      rw [c3] at b1
      by_cases y : F.1 = -9
      · rw [if_pos y]
        rw [y] at b1
        simp (disch := first | assumption | omega) only [k_add, k_sub, k_mul, k_lt, k_eq, k_lt0, k_0lt, k_eq0, k_nat, k_b0, k_b1, k_z1, k_z0, k_o1, k_o0, Int.reduceEq, Int.reduceLT, Int.reduceLE, Int.reduceAdd, Int.reduceMul, Int.reduceNeg, Bool.false_eq_true, or_true, true_or, or_false, false_or, and_true, true_and, and_false, false_and, not_true_eq_false, not_false_eq_true, ↓reduceIte, z_0, z_k, s_I, s_J, s_uI, s_uJ, ↓jc1 a1, ↓c_oc_87, ↓jc1 q1, ↓jc1 b1] at e
        exact .of ⟨_, e, b3.x hx, b3.n⟩
      · rw [if_neg y]
        have h33 := b2.2.1
        have t := n_tells (L := L) (p := p) (d := d + 12) (I := I1) (J := J) (v := j_k F.2.2.1) (x := j_k F.1)
        simp (disch := first | assumption | omega) only [k_add, k_sub, k_mul, k_lt, k_eq, k_lt0, k_0lt, k_eq0, k_nat, k_b0, k_b1, k_z1, k_z0, k_o1, k_o0, Int.reduceEq, Int.reduceLT, Int.reduceLE, Int.reduceAdd, Int.reduceMul, Int.reduceNeg, Bool.false_eq_true, or_true, true_or, or_false, false_or, and_true, true_and, and_false, false_and, not_true_eq_false, not_false_eq_true, ↓reduceIte, z_0, z_k, s_I, s_J, s_uI, s_uJ, ↓jc1 a1, ↓c_oc_87, ↓jc1 q1, ↓jc1 b1, y, h33, ↓jc1 t] at e
        refine .of ⟨_, e, (b3.x hx).told, fun r a => ?_⟩
        rw [fr_told r a]
        exact b3.n r a
    · rw [if_neg c]
      have c' : (p_need r A).1 < 0 := by omega
      simp (disch := first | assumption | omega) only [k_add, k_sub, k_mul, k_lt, k_eq, k_lt0, k_0lt, k_eq0, k_nat, k_b0, k_b1, k_z1, k_z0, k_o1, k_o0, Int.reduceEq, Int.reduceLT, Int.reduceLE, Int.reduceAdd, Int.reduceMul, Int.reduceNeg, Bool.false_eq_true, or_true, true_or, or_false, false_or, and_true, true_and, and_false, false_and, not_true_eq_false, not_false_eq_true, ↓reduceIte, z_0, z_k, s_I, s_J, s_uI, s_uJ, ↓jc1 a1, ↓c_oc_87, ↓jc1 q1, c'] at e
      exact .of ⟨I0, e, q2, q3⟩
  · have z : j_z (0 ≤ r ∧ r ≤ 5) = j_k 0 := if_neg x
    rw [z] at a1
    have E0 : p_need r A = (-1, A) := by
      unfold p_need
      rw [miss_no (by omega)]
      exact if_neg (show ¬ (-1 : Int) = 0 by decide)
    rw [show p_dawn r A = (-1, A) from by unfold p_dawn; rw [E0]; exact if_neg (show ¬ (-1 : Int) = 0 by decide)]
    simp (disch := first | assumption | omega) only [k_add, k_sub, k_mul, k_lt, k_eq, k_lt0, k_0lt, k_eq0, k_nat, k_b0, k_b1, k_z1, k_z0, k_o1, k_o0, Int.reduceEq, Int.reduceLT, Int.reduceLE, Int.reduceAdd, Int.reduceMul, Int.reduceNeg, Bool.false_eq_true, or_true, true_or, or_false, false_or, and_true, true_and, and_false, false_and, not_true_eq_false, not_false_eq_true, ↓reduceIte, z_0, z_k, s_I, s_J, s_uI, s_uJ, ↓jc1 a1] at e
    exact .no hx e
theorem n_whoC (hx : iM I J A) {r : Int} (h1 : -2147483648 ≤ r) (h2 : r < 2147483648) : mc L p I J (d + 14) 227 [.ref 87, .int (j_k r)] (p_whoC r A) := by
  have hC := hx.1.1
  have ho := hx.1.2.1
  have hm := hx.2.2.2.1
  have hf := hx.2.2.2.2.1
  have n0 := hC.2.2.1
  have n4 := hC.2.2.2.1
  have hw := hm.2.1
  have hN := hm.2.2.1
  have hn := hm.2.2.2.1
  have hk := hm.2.2.2.2.1
  have hg := hm.2.2.2.2.2
  obtain ⟨bN0, bN1, -⟩ := bd_N hC
  have a1 := n_isRow (L := L) (p := p) (d := d + 11) (I := I) (J := J) h1 h2
  have e := (r_227 (d + 13) (ST L p I J) 87 (j_k r)).trans (t_227_0 _ _ _ _ _)
  by_cases x : 0 ≤ r ∧ r ≤ 5
  · have z : j_z (0 ≤ r ∧ r ≤ 5) = j_k 1 := if_pos x
    rw [z] at a1
    obtain ⟨r1, r2⟩ := x
    have r3 : r < 6 := by omega
    obtain ⟨I0, q1, q2, q3, q4⟩ := n_need (L := L) (p := p) (d := d + 10) hx r1 r3
    have nr := need_rg (r := r) (A := A)
    unfold p_whoC
    by_cases c : (p_need r A).1 = 0
    · rw [if_pos c]
      rw [c, q4 c] at q1
      obtain ⟨I1, b1, b2, b3⟩ := n_few (L := L) (p := p) (d := d) (J := J) (row := r) (want := p_at (a_gn A) (a_rv A r)) (most := 2) (by decide) hm hf ho (by decide) (Or.inr ⟨r1, r3, _, _, hx.2.1, rfl⟩)
      have fr := few_rg (drv := p_drive (a_gw A) (a_gh A) (a_gr A) (a_gn A) (a_kd A)) (m4 := (4 * a_gn A).toNat) (want := p_at (a_gn A) (a_rv A r)) (f := a_fl A) 2 0
      show mc L p I J (d + 14) 227 [.ref 87, .int (j_k r)] (if (p_few (p_drive (a_gw A) (a_gh A) (a_gr A) (a_gn A) (a_kd A)) (4 * a_gn A).toNat (p_at (a_gn A) (a_rv A r)) (a_fl A) 2 0).1 = -9 ∨ (p_few (p_drive (a_gw A) (a_gh A) (a_gr A) (a_gn A) (a_kd A)) (4 * a_gn A).toNat (p_at (a_gn A) (a_rv A r)) (a_fl A) 2 0).1 = 0 then (-9, A) else ((p_few (p_drive (a_gw A) (a_gh A) (a_gr A) (a_gn A) (a_kd A)) (4 * a_gn A).toNat (p_at (a_gn A) (a_rv A r)) (a_fl A) 2 0).2.2.2.2.1, A_told A (j_k (p_few (p_drive (a_gw A) (a_gh A) (a_gr A) (a_gn A) (a_kd A)) (4 * a_gn A).toNat (p_at (a_gn A) (a_rv A r)) (a_fl A) 2 0).2.2.2.2.2)))
      generalize p_few (p_drive (a_gw A) (a_gh A) (a_gr A) (a_gn A) (a_kd A)) (4 * a_gn A).toNat (p_at (a_gn A) (a_rv A r)) (a_fl A) 2 0 = F at *
      have c3 : ((2 : Nat) : Int) = 2 := rfl
      rw [c3] at b1
      by_cases y : F.1 = -9
      · rw [if_pos (Or.inl y)]
        rw [y] at b1
        simp (disch := first | assumption | omega) only [k_add, k_sub, k_mul, k_lt, k_eq, k_lt0, k_0lt, k_eq0, k_nat, k_b0, k_b1, k_z1, k_z0, k_o1, k_o0, Int.reduceEq, Int.reduceLT, Int.reduceLE, Int.reduceAdd, Int.reduceMul, Int.reduceNeg, Bool.false_eq_true, or_true, true_or, or_false, false_or, and_true, true_and, and_false, false_and, not_true_eq_false, not_false_eq_true, ↓reduceIte, z_0, z_k, s_I, s_J, s_uI, s_uJ, ↓jc1 a1, ↓c_oc_87, ↓jc1 q1, ↓jc1 b1] at e
        exact .of ⟨_, e, b3.x hx, b3.n⟩
      · by_cases y0 : F.1 = 0
        · rw [if_pos (Or.inr y0)]
          rw [y0] at b1
          simp (disch := first | assumption | omega) only [k_add, k_sub, k_mul, k_lt, k_eq, k_lt0, k_0lt, k_eq0, k_nat, k_b0, k_b1, k_z1, k_z0, k_o1, k_o0, Int.reduceEq, Int.reduceLT, Int.reduceLE, Int.reduceAdd, Int.reduceMul, Int.reduceNeg, Bool.false_eq_true, or_true, true_or, or_false, false_or, and_true, true_and, and_false, false_and, not_true_eq_false, not_false_eq_true, ↓reduceIte, z_0, z_k, s_I, s_J, s_uI, s_uJ, ↓jc1 a1, ↓c_oc_87, ↓jc1 q1, ↓jc1 b1] at e
          exact .of ⟨_, e, b3.x hx, b3.n⟩
        · rw [if_neg (fun u => u.elim y y0)]
          have h35 := b2.2.2.2.1
          have h36 := b2.2.2.2.2
          have t := n_tells (L := L) (p := p) (d := d + 12) (I := I1) (J := J) (v := j_k F.2.2.2.2.2) (x := j_k F.2.2.2.2.1)
          simp (disch := first | assumption | omega) only [k_add, k_sub, k_mul, k_lt, k_eq, k_lt0, k_0lt, k_eq0, k_nat, k_b0, k_b1, k_z1, k_z0, k_o1, k_o0, Int.reduceEq, Int.reduceLT, Int.reduceLE, Int.reduceAdd, Int.reduceMul, Int.reduceNeg, Bool.false_eq_true, or_true, true_or, or_false, false_or, and_true, true_and, and_false, false_and, not_true_eq_false, not_false_eq_true, ↓reduceIte, z_0, z_k, s_I, s_J, s_uI, s_uJ, ↓jc1 a1, ↓c_oc_87, ↓jc1 q1, ↓jc1 b1, y, y0, h35, h36, ↓jc1 t] at e
          refine .of ⟨_, e, (b3.x hx).told, fun r a => ?_⟩
          rw [fr_told r a]
          exact b3.n r a
    · rw [if_neg c]
      have c' : (p_need r A).1 < 0 := by omega
      simp (disch := first | assumption | omega) only [k_add, k_sub, k_mul, k_lt, k_eq, k_lt0, k_0lt, k_eq0, k_nat, k_b0, k_b1, k_z1, k_z0, k_o1, k_o0, Int.reduceEq, Int.reduceLT, Int.reduceLE, Int.reduceAdd, Int.reduceMul, Int.reduceNeg, Bool.false_eq_true, or_true, true_or, or_false, false_or, and_true, true_and, and_false, false_and, not_true_eq_false, not_false_eq_true, ↓reduceIte, z_0, z_k, s_I, s_J, s_uI, s_uJ, ↓jc1 a1, ↓c_oc_87, ↓jc1 q1, c'] at e
      exact .of ⟨I0, e, q2, q3⟩
  · have z : j_z (0 ≤ r ∧ r ≤ 5) = j_k 0 := if_neg x
    rw [z] at a1
    have E0 : p_need r A = (-1, A) := by
      unfold p_need
      rw [miss_no (by omega)]
      exact if_neg (show ¬ (-1 : Int) = 0 by decide)
    rw [show p_whoC r A = (-1, A) from by unfold p_whoC; rw [E0]; exact if_neg (show ¬ (-1 : Int) = 0 by decide)]
    simp (disch := first | assumption | omega) only [k_add, k_sub, k_mul, k_lt, k_eq, k_lt0, k_0lt, k_eq0, k_nat, k_b0, k_b1, k_z1, k_z0, k_o1, k_o0, Int.reduceEq, Int.reduceLT, Int.reduceLE, Int.reduceAdd, Int.reduceMul, Int.reduceNeg, Bool.false_eq_true, or_true, true_or, or_false, false_or, and_true, true_and, and_false, false_and, not_true_eq_false, not_false_eq_true, ↓reduceIte, z_0, z_k, s_I, s_J, s_uI, s_uJ, ↓jc1 a1] at e
    exact .no hx e
theorem n_breed (hx : iM I J A) {q : Int} (h1 : -2147483648 ≤ q) (h2 : q < 2147483648) : mc L p I J (d + 14) 228 [.ref 87, .int (j_k q)] (p_breed q A) := by
  have hC := hx.1.1
  have ho := hx.1.2.1
  have hm := hx.2.2.2.1
  have hf := hx.2.2.2.2.1
  have n0 := hC.2.2.1
  have n4 := hC.2.2.2.1
  have hw := hm.2.1
  have hN := hm.2.2.1
  have hn := hm.2.2.2.1
  have hk := hm.2.2.2.2.1
  have hg := hm.2.2.2.2.2
  obtain ⟨bN0, bN1, -⟩ := bd_N hC
  have a2 := n_in (L := L) (p := p) (d := d + 12) (I := I) (J := J) (v := q) (lo := 0) (hi := 5) h1 h2 (by decide) (by decide) (by decide) (by decide)
  have e := (r_228 (d + 13) (ST L p I J) 87 (j_k q)).trans (t_228_0 _ _ _ _ _)
  unfold p_breed
  by_cases y : 0 ≤ q ∧ q ≤ 5
  · have z2 : j_z (0 ≤ q ∧ q ≤ 5) = j_k 1 := if_pos y
    rw [z2] at a2
    rw [if_pos y]
    by_cases w : a_N A = 0
    · rw [if_pos w]
      rw [w] at hN
      simp (disch := first | assumption | omega) only [k_add, k_sub, k_mul, k_lt, k_eq, k_lt0, k_0lt, k_eq0, k_nat, k_b0, k_b1, k_z1, k_z0, k_o1, k_o0, Int.reduceEq, Int.reduceLT, Int.reduceLE, Int.reduceAdd, Int.reduceMul, Int.reduceNeg, Bool.false_eq_true, or_true, true_or, or_false, false_or, and_true, true_and, and_false, false_and, not_true_eq_false, not_false_eq_true, ↓reduceIte, z_0, z_k, s_I, s_J, s_uI, s_uJ, ↓jc1 a2, ↓c_oc_87, hN] at e
      exact .no hx e
    · rw [if_neg w]
      have one : ∀ (t M : Nat) (k : Int) (I1 : Nat → Nat → Int32), 0 ≤ k → k + t = a_gn A → (∀ r, r ≠ 95 → r ≠ 103 → I1 r = I r) → (∀ j : Nat, I1 95 j = if (j : Int) < k then j_k q else I 95 j) → (∀ j : Nat, (j : Int) < k → I1 103 j = I 95 j) → ∃ I2, j_exec k_228 h_228 (j_run (d + 13)) (M + t + 1) 23 [some (.ref 87), some (.int (j_k q)), some (.int (j_k k)), none] [] (ST L p I1 J) = j_oc (ST L p I2 J) 7 87 (j_c1 (j_run (d + 13)) 207 [.ref 87, .int (j_k 2), .int (j_k (-1))] (ST L p I2 J) (fun x7 τ6 => j_exec k_228 h_228 (j_run (d + 13)) M 65 [some (.ref 87), some (.int (j_k q)), some (.int x7), some (.int (j_k 0))] [] τ6)) ∧ (∀ r, r ≠ 95 → r ≠ 103 → I2 r = I r) ∧ (∀ j : Nat, I2 95 j = if (j : Int) < a_gn A then j_k q else I 95 j) ∧ (∀ j : Nat, (j : Int) < a_gn A → I2 103 j = I 95 j) := by
        intro t
        induction t with
        | zero =>
          intro M k I1 k1 k2 g1 g2 g3
          have z : ¬ k < a_gn A := by omega
          have kn : k = a_gn A := by omega
          subst kn
          have hn1 : I1 87 13 = j_k (a_gn A) := by rw [g1 87 (by decide) (by decide)]; exact hn
          refine ⟨I1, ?_, g1, g2, g3⟩
          rw [x_exec, t_228_23, c_oc_87, show s_I (ST L p I1 J) 87 13 = j_k (a_gn A) from hn1, if_neg (show ¬ j_k (a_gn A) < j_k (a_gn A) from Int32.lt_irrefl)]
        | succ t ih =>
          intro M k I1 k1 k2 g1 g2 g3
          have z : k < a_gn A := by omega
          have k4 : k < 4 := by omega
          have hn1 : I1 87 13 = j_k (a_gn A) := by rw [g1 87 (by decide) (by decide)]; exact hn
          obtain ⟨I2, r1, r2⟩ := ih M (k + 1) (u2 (u2 I1 103 k.toNat (I1 95 k.toNat)) 95 k.toNat (j_k q)) (by omega) (by omega) (fun r a b => by rw [← g1 r a b]; funext m; rw [u2_r a, u2_r b]) (fun j => by
            by_cases c : j = k.toNat
            · subst c
              rw [u2_ss, if_pos (by omega)]
            · rw [u2_k c, u2_r (by decide), g2 j]
              by_cases c2 : (j : Int) < k
              · rw [if_pos c2, if_pos (by omega)]
              · rw [if_neg c2, if_neg (by omega)]) (fun j hj => by
            rw [u2_r (by decide)]
            by_cases c : j = k.toNat
            · subst c
              rw [u2_ss, g2, if_neg (by omega)]
            · rw [u2_k c]
              exact g3 j (by omega))
          refine ⟨I2, ?_, r2⟩
          rw [show M + (t + 1) + 1 = M + t + 1 + 1 by omega, x_exec, t_228_23]
          simp (disch := first | assumption | omega) only [k_add, k_sub, k_mul, k_lt, k_eq, k_lt0, k_0lt, k_eq0, k_nat, k_b0, k_b1, k_z1, k_z0, k_o1, k_o0, Int.reduceEq, Int.reduceLT, Int.reduceLE, Int.reduceAdd, Int.reduceMul, Int.reduceNeg, Bool.false_eq_true, or_true, true_or, or_false, false_or, and_true, true_and, and_false, false_and, not_true_eq_false, not_false_eq_true, ↓reduceIte, z_0, z_k, s_I, s_J, s_uI, s_uJ, ↓c_oc_87, hn1, z, ↓c_gP_87_37, ↓c_gP_87_14, ↓c_ia_95, ↓c_is_103, ↓c_is_95]
          exact r1
      have two : ∀ (t M : Nat) (k : Int) (v : Int32) (I3 I1 : Nat → Nat → Int32), 0 ≤ k → k + t = a_gn A → t < M → I3 87 13 = j_k (a_gn A) → (∀ j : Nat, (j : Int) < a_gn A → I3 103 j = I 95 j) → (∀ j : Nat, ¬ (j : Int) < a_gn A → I3 95 j = I 95 j) → (∀ r, r ≠ 95 → I1 r = I3 r) → (∀ j : Nat, I1 95 j = if (j : Int) < k then I 95 j else I3 95 j) → ∃ I2, j_exec k_228 h_228 (j_run (d + 13)) M 65 [some (.ref 87), some (.int (j_k q)), some (.int v), some (.int (j_k k))] [] (ST L p I1 J) = some (some (.int v), ST L p I2 J) ∧ (∀ r, r ≠ 95 → I2 r = I3 r) ∧ ∀ j : Nat, I2 95 j = I 95 j := by
        intro t
        induction t with
        | zero =>
          intro M k v I3 I1 k1 k2 hM g0 g3 g4 g1 g2
          obtain ⟨M, rfl⟩ : ∃ q, M = q + 1 := ⟨M - 1, by omega⟩
          have z : ¬ k < a_gn A := by omega
          have hn1 : I1 87 13 = j_k (a_gn A) := by rw [g1 87 (by decide)]; exact g0
          refine ⟨I1, ?_, g1, fun j => ?_⟩
          · rw [x_exec, t_228_65]
            simp (disch := first | assumption | omega) only [k_add, k_sub, k_mul, k_lt, k_eq, k_lt0, k_0lt, k_eq0, k_nat, k_b0, k_b1, k_z1, k_z0, k_o1, k_o0, Int.reduceEq, Int.reduceLT, Int.reduceLE, Int.reduceAdd, Int.reduceMul, Int.reduceNeg, Bool.false_eq_true, or_true, true_or, or_false, false_or, and_true, true_and, and_false, false_and, not_true_eq_false, not_false_eq_true, ↓reduceIte, z_0, z_k, s_I, s_J, s_uI, s_uJ, ↓c_oc_87, hn1, z]
          · rw [g2 j]
            by_cases c : (j : Int) < k
            · rw [if_pos c]
            · rw [if_neg c]
              exact g4 j (by omega)
        | succ t ih =>
          intro M k v I3 I1 k1 k2 hM g0 g3 g4 g1 g2
          obtain ⟨M, rfl⟩ : ∃ q, M = q + 1 := ⟨M - 1, by omega⟩
          have z : k < a_gn A := by omega
          have k4 : k < 4 := by omega
          have hn1 : I1 87 13 = j_k (a_gn A) := by rw [g1 87 (by decide)]; exact g0
          obtain ⟨I2, r1, r2⟩ := ih M (k + 1) v I3 (u2 I1 95 k.toNat (I1 103 k.toNat)) (by omega) (by omega) (by omega) g0 g3 g4 (fun r a => by rw [← g1 r a]; funext m; rw [u2_r a]) (fun j => by
            by_cases c : j = k.toNat
            · subst c
              rw [u2_ss, if_pos (by omega), g1 103 (by decide)]
              exact g3 _ (by omega)
            · rw [u2_k c, g2 j]
              by_cases c2 : (j : Int) < k
              · rw [if_pos c2, if_pos (by omega)]
              · rw [if_neg c2, if_neg (by omega)])
          refine ⟨I2, ?_, r2⟩
          rw [x_exec, t_228_65]
          simp (disch := first | assumption | omega) only [k_add, k_sub, k_mul, k_lt, k_eq, k_lt0, k_0lt, k_eq0, k_nat, k_b0, k_b1, k_z1, k_z0, k_o1, k_o0, Int.reduceEq, Int.reduceLT, Int.reduceLE, Int.reduceAdd, Int.reduceMul, Int.reduceNeg, Bool.false_eq_true, or_true, true_or, or_false, false_or, and_true, true_and, and_false, false_and, not_true_eq_false, not_false_eq_true, ↓reduceIte, z_0, z_k, s_I, s_J, s_uI, s_uJ, ↓c_oc_87, hn1, z, ↓c_gP_87_37, ↓c_gP_87_14, ↓c_ia_103, ↓c_is_95]
          exact r1
      obtain ⟨M, hM, hM2⟩ : ∃ M, M = 999999 ∧ 5000 < M := ⟨999999, rfl, by decide⟩
      obtain ⟨I1, o1, o2, o3, o4⟩ := one (a_gn A).toNat (M - (a_gn A).toNat - 1) 0 I (Int.le_refl 0) (by omega) (fun _ _ _ => rfl) (fun j => by rw [if_neg (by omega)]) (fun j hj => absurd hj (by omega))
      rw [show M - (a_gn A).toNat - 1 + (a_gn A).toNat + 1 = M by omega] at o1
      have hm1 : iMg I1 (a_gw A) (a_gh A) (a_N A) (a_gn A) (a_gr A) (fun _ => q) := ⟨⟨hC.1, hC.2.1, hC.2.2.1, hC.2.2.2.1, hC.2.2.2.2.1, fun _ _ _ => y⟩, by rw [o2 87 (by decide) (by decide)]; exact hw, by rw [o2 87 (by decide) (by decide)]; exact hN, by rw [o2 87 (by decide) (by decide)]; exact hn, fun k k1 k2 => by rw [o3, if_pos (by omega)], fun c c1 c2 => by rw [o2 94 (by decide) (by decide)]; exact hg c c1 c2⟩
      obtain ⟨I2, a1, -, a3⟩ := n_few (L := L) (p := p) (d := d) (J := J) (row := -1) (want := p_safe (a_gr A) (a_gn A)) (most := 2) (by decide) hm1 (hf.cg (fun i _ _ => by rw [o2 99 (by decide) (by decide)]) n4) ho (by decide) (Or.inl ⟨rfl, rfl⟩)
      have c2 : ((2 : Nat) : Int) = 2 := rfl
      rw [c2] at a1
      obtain ⟨I3, t1, t2, t3⟩ := two (a_gn A).toNat (M - (a_gn A).toNat - 1) 0 _ I2 I2 (Int.le_refl 0) (by omega) (by omega) (by rw [a3.2.1 13 (by decide), o2 87 (by decide) (by decide)]; exact hn) (fun j hj => by rw [a3.1 103 (by decide) (by decide) (by decide)]; exact o4 j hj) (fun j hj => by rw [a3.1 95 (by decide) (by decide) (by decide), o3, if_neg hj]) (fun _ _ => rfl) (fun j => by rw [if_neg (by omega)])
      rw [← hM] at e
      simp (disch := first | assumption | omega) only [k_add, k_sub, k_mul, k_lt, k_eq, k_lt0, k_0lt, k_eq0, k_nat, k_b0, k_b1, k_z1, k_z0, k_o1, k_o0, Int.reduceEq, Int.reduceLT, Int.reduceLE, Int.reduceAdd, Int.reduceMul, Int.reduceNeg, Bool.false_eq_true, or_true, true_or, or_false, false_or, and_true, true_and, and_false, false_and, not_true_eq_false, not_false_eq_true, ↓reduceIte, z_0, z_k, s_I, s_J, s_uI, s_uJ, ↓jc1 a2, ↓c_oc_87, hN, w] at e
      rw [o1, c_oc_87, jc1 a1] at e
      have hr : ∀ r, r ≠ 87 → r ≠ 99 → r ≠ 101 → r ≠ 103 → I3 r = I r := fun r x1 x2 x3 x4 => by
        by_cases x : r = 95
        · subst x
          funext j
          exact t3 j
        · rw [t2 r x, a3.1 r x1 x2 x3, o2 r x x4]
      have h87 : ∀ k, (k < 26 ∨ 36 < k) → I3 87 k = I 87 k := fun k hk => by rw [t2 87 (by decide), a3.2.1 k hk, o2 87 (by decide) (by decide)]
      have h99 : ∀ i : Int, 0 ≤ i → i < 52 → I3 99 i.toNat = I 99 i.toNat := fun i i1 i2 => by rw [t2 99 (by decide), a3.2.2 i i1 (by omega), o2 99 (by decide) (by decide)]
      exact .of ⟨I3, e.trans t1, hx.same ⟨fun r a => hr r (by omega) (by omega) (by omega) (by omega), fun k _ _ => h87 k (by omega), h99⟩ (h87 0 (by decide)) (h87 2 (by decide)) (hr 88 (by decide) (by decide) (by decide) (by decide)) rfl, fun r a => hr r (by omega) (by omega) (by omega) (by omega)⟩
  · have z2 : j_z (0 ≤ q ∧ q ≤ 5) = j_k 0 := if_neg y
    rw [z2] at a2
    rw [if_neg y]
    simp (disch := first | assumption | omega) only [k_add, k_sub, k_mul, k_lt, k_eq, k_lt0, k_0lt, k_eq0, k_nat, k_b0, k_b1, k_z1, k_z0, k_o1, k_o0, Int.reduceEq, Int.reduceLT, Int.reduceLE, Int.reduceAdd, Int.reduceMul, Int.reduceNeg, Bool.false_eq_true, or_true, true_or, or_false, false_or, and_true, true_and, and_false, false_and, not_true_eq_false, not_false_eq_true, ↓reduceIte, z_0, z_k, s_I, s_J, s_uI, s_uJ, ↓jc1 a2] at e
    exact .no hx e
end MCALLS3B
