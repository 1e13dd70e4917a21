/-! ===== the model's calls: cell, build, beast, mark, last ===== -/
theorem off_cm {w a b : Int} : p_off w a b = p_off w b a := by
  unfold p_off p_abs
  congr 1 <;> (split <;> split <;> omega)
section MCALLS1
variable {L p d : Nat} {I : Nat → Nat → Int32} {J : Nat → Nat → Int64} {A : Ast}
theorem n_cell (hx : iM I J A) {c : Int} (h1 : -2147483648 ≤ c) (h2 : c < 2147483648) : mc L p I J (d + 3) 169 [.ref 87, .int (j_k c)] (p_cell c A) := by
  have hC := hx.1.1
  have ho := hx.1.2.1
  have hm := hx.2.2.2.1
  have hf := hx.2.2.2.2.1
  have n0 := hC.2.2.1
  have n4 := hC.2.2.2.1
  have hw := hm.2.1
  have hN := hm.2.2.1
  have hn := hm.2.2.2.1
  have hk := hm.2.2.2.2.1
  have hg := hm.2.2.2.2.2
  obtain ⟨bN0, bN1, -⟩ := bd_N hC
  have a1 := n_isCell (L := L) (p := p) (d := d) (J := J) hN bN0 bN1 h1 h2
  have e := (r_169 (d + 2) (ST L p I J) 87 (j_k c)).trans (t_169_0 _ _ _ _ _)
  unfold p_cell
  by_cases x : 0 ≤ c ∧ c ≤ a_N A - 1
  · have z : j_z (0 ≤ c ∧ c ≤ a_N A - 1) = j_k 1 := if_pos x
    rw [z] at a1
    obtain ⟨c1, c2⟩ := x
    have c3 : c < a_N A := by omega
    have c4 : c < 30 := by omega
    rw [if_pos ⟨c1, c3⟩]
    have a2 := n_who (L := L) (p := p) (d := d) (J := J) (k := 0) (c := c) (but := -9) (by decide) (by decide) hn n0 n4 hf ho bN1 (by omega) (by omega) (by decide) (by decide)
    have gv := hg c c1 c3
    have a3 := n_tells (L := L) (p := p) (d := d + 1) (I := I) (J := J) (v := j_k (p_who (a_gn A) (a_fl A) c (-9))) (x := j_k (a_gr A c))
    simp (disch := first | assumption | omega) only [k_add, k_sub, k_mul, k_lt, k_eq, k_lt0, k_0lt, k_eq0, k_nat, k_b0, k_b1, k_z1, k_z0, k_o1, k_o0, Int.reduceEq, Int.reduceLT, Int.reduceLE, Int.reduceAdd, Int.reduceMul, Int.reduceNeg, Bool.false_eq_true, or_true, true_or, or_false, false_or, and_true, true_and, and_false, false_and, not_true_eq_false, not_false_eq_true, ↓reduceIte, z_0, z_k, s_I, s_J, s_uI, s_uJ, ↓c_oc_87, ↓jc1 a1, ↓jc1 a2, ↓c_gP_87_12, ↓c_ia_94, gv, ↓jc1 a3] at e
    exact .of ⟨_, e, hx.told, fr_told⟩
  · have z : j_z (0 ≤ c ∧ c ≤ a_N A - 1) = j_k 0 := if_neg x
    rw [z] at a1
    rw [if_neg (fun u => x (by omega))]
    simp (disch := first | assumption | omega) only [k_add, k_sub, k_mul, k_lt, k_eq, k_lt0, k_0lt, k_eq0, k_nat, k_b0, k_b1, k_z1, k_z0, k_o1, k_o0, Int.reduceEq, Int.reduceLT, Int.reduceLE, Int.reduceAdd, Int.reduceMul, Int.reduceNeg, Bool.false_eq_true, or_true, true_or, or_false, false_or, and_true, true_and, and_false, false_and, not_true_eq_false, not_false_eq_true, ↓reduceIte, z_0, z_k, s_I, s_J, s_uI, s_uJ, ↓c_oc_87, ↓jc1 a1] at e
    exact .no hx e
theorem iM.built {I' : Nat → Nat → Int32} (hx : iM I J A) (h : ∀ r, r ≠ 94 → I' r = I r) {gr : Fl} (hg : iMg I' (a_gw A) (a_gh A) (a_N A) (a_gn A) gr (a_kd A)) : iM I' J (A_gr A gr) := by
  have n4 := hx.n4
  obtain ⟨x1, x2, x3, x4, x5, x6, x7⟩ := hx
  have h99 := h 99 (by decide)
  have h87 := h 87 (by decide)
  exact ⟨⟨hg.1, x1.2⟩, x2.cg (h 89 (by decide)) (h 90 (by decide)), x3.cg (h 92 (by decide)) (h 93 (by decide)), hg, x5.cg (fun i a b => by rw [h99]) n4, x6.cg n4 (h 100 (by decide)) (fun i a b => by rw [h99]), by rw [h87]; exact x7.1, x7.2.1, x7.2.2.1, by rw [h87]; exact x7.2.2.2.1, fun q q1 q2 => by rw [h 88 (by decide)]; exact x7.2.2.2.2 q q1 q2⟩
theorem n_build (hx : iM I J A) {c q : Int} (h1 : -2147483648 ≤ c) (h2 : c < 2147483648) (h3 : -2147483648 ≤ q) (h4 : q < 2147483648) : mc L p I J (d + 3) 170 [.ref 87, .int (j_k c), .int (j_k q)] (p_build c q A) := by
  have hC := hx.1.1
  have ho := hx.1.2.1
  have hm := hx.2.2.2.1
  have hf := hx.2.2.2.2.1
  have n0 := hC.2.2.1
  have n4 := hC.2.2.2.1
  have hw := hm.2.1
  have hN := hm.2.2.1
  have hn := hm.2.2.2.1
  have hk := hm.2.2.2.2.1
  have hg := hm.2.2.2.2.2
  obtain ⟨bN0, bN1, -⟩ := bd_N hC
  have a1 := n_isCell (L := L) (p := p) (d := d) (J := J) hN bN0 bN1 h1 h2
  have a2 := n_in (L := L) (p := p) (d := d + 1) (I := I) (J := J) (v := q) (lo := 0) (hi := 4) h3 h4 (by decide) (by decide) (by decide) (by decide)
  have e := (r_170 (d + 2) (ST L p I J) 87 (j_k c) (j_k q)).trans (t_170_0 _ _ _ _ _ _)
  unfold p_build
  by_cases x : 0 ≤ c ∧ c ≤ a_N A - 1
  · have z : j_z (0 ≤ c ∧ c ≤ a_N A - 1) = j_k 1 := if_pos x
    rw [z] at a1
    obtain ⟨c1, c2⟩ := x
    have c3 : c < a_N A := by omega
    have c4 : c < 30 := by omega
    by_cases y : 0 ≤ q ∧ q ≤ 4
    · have z2 : j_z (0 ≤ q ∧ q ≤ 4) = j_k 1 := if_pos y
      rw [z2] at a2
      obtain ⟨y1, y2⟩ := y
      rw [if_pos ⟨⟨c1, c3⟩, y1, y2⟩]
      have a3 := n_who (L := L) (p := p) (d := d) (J := J) (k := 0) (c := c) (but := -9) (by decide) (by decide) hn n0 n4 hf ho bN1 (by omega) (by omega) (by decide) (by decide)
      have wr := first_rg (P := fun j => decide (j ≠ -9 ∧ a_fl A (5 + j) = c)) (a_gn A).toNat 0
      have wr' : p_who (a_gn A) (a_fl A) c (-9) = -9 ∨ (0 ≤ p_who (a_gn A) (a_fl A) c (-9) ∧ p_who (a_gn A) (a_fl A) c (-9) < 0 + ((a_gn A).toNat : Int)) := wr
      have gv := hg c c1 c3
      have OK : mc L p I J (d + 3) 170 [.ref 87, .int (j_k c), .int (j_k q)] (a_gr A c, A_gr A (f2 (a_gr A) c q)) ↔ j_run (d + 3) 170 [.ref 87, .int (j_k c), .int (j_k q)] (ST L p I J) = some (some (.int (j_k (a_gr A c))), ST L p (u2 I 94 c.toNat (j_k q)) J) ∨ mc L p I J (d + 3) 170 [.ref 87, .int (j_k c), .int (j_k q)] (a_gr A c, A_gr A (f2 (a_gr A) c q)) := by
        refine ⟨Or.inr, fun u => u.elim (fun e => .of ⟨_, e, hx.built (gr := f2 (a_gr A) c q) (fun r hr => by funext m; rw [u2_r hr]) ⟨⟨hC.1, hC.2.1, hC.2.2.1, hC.2.2.2.1, fun s s1 s2 => ?_, hC.2.2.2.2.2⟩, by rw [u2_r (by decide)]; exact hm.2.1, by rw [u2_r (by decide)]; exact hN, by rw [u2_r (by decide)]; exact hn, fun k k1 k2 => by rw [u2_r (by decide)]; exact hk k k1 k2, fun s s1 s2 => ?_⟩, fun r hr => by funext m; rw [u2_r (by omega)]⟩) id⟩
        · unfold f2
          split
          · exact ⟨y1, y2⟩
          · exact hC.2.2.2.2.1 s s1 s2
        · unfold f2
          by_cases c5 : s = c
          · subst c5
            rw [u2_ss, if_pos rfl]
          · rw [u2_k (by omega), if_neg c5]
            exact hg s s1 s2
      by_cases w : q = 1 ∨ q = 2
      · by_cases v : p_who (a_gn A) (a_fl A) c (-9) = -9
        · rw [if_neg (fun u => u.2 v)]
          rw [v] at a3
          refine OK.mpr (Or.inl ?_)
          rcases w with rfl | rfl <;> (simp (disch := first | assumption | omega) only [k_add, k_sub, k_mul, k_lt, k_eq, k_lt0, k_0lt, k_eq0, k_nat, k_b0, k_b1, k_z1, k_z0, k_o1, k_o0, Int.reduceEq, Int.reduceLT, Int.reduceLE, Int.reduceAdd, Int.reduceMul, Int.reduceNeg, Bool.false_eq_true, or_true, true_or, or_false, false_or, and_true, true_and, and_false, false_and, not_true_eq_false, not_false_eq_true, ↓reduceIte, z_0, z_k, s_I, s_J, s_uI, s_uJ, ↓c_oc_87, ↓jc1 a1, ↓jc1 a2, ↓jc1 a3, ↓c_gP_87_12, ↓c_ia_94, ↓c_is_94, gv] at e) <;> exact e
        · rw [if_pos ⟨w, v⟩]
          rcases w with rfl | rfl <;> (simp (disch := first | assumption | omega) only [k_add, k_sub, k_mul, k_lt, k_eq, k_lt0, k_0lt, k_eq0, k_nat, k_b0, k_b1, k_z1, k_z0, k_o1, k_o0, Int.reduceEq, Int.reduceLT, Int.reduceLE, Int.reduceAdd, Int.reduceMul, Int.reduceNeg, Bool.false_eq_true, or_true, true_or, or_false, false_or, and_true, true_and, and_false, false_and, not_true_eq_false, not_false_eq_true, ↓reduceIte, z_0, z_k, s_I, s_J, s_uI, s_uJ, ↓c_oc_87, ↓jc1 a1, ↓jc1 a2, ↓jc1 a3, v] at e) <;> exact .no hx e
      · rw [if_neg (fun u => w u.1)]
        have w1 : ¬ q = 1 := fun u => w (Or.inl u)
        have w2 : ¬ q = 2 := fun u => w (Or.inr u)
        refine OK.mpr (Or.inl ?_)
        simp (disch := first | assumption | omega) only [k_add, k_sub, k_mul, k_lt, k_eq, k_lt0, k_0lt, k_eq0, k_nat, k_b0, k_b1, k_z1, k_z0, k_o1, k_o0, Int.reduceEq, Int.reduceLT, Int.reduceLE, Int.reduceAdd, Int.reduceMul, Int.reduceNeg, Bool.false_eq_true, or_true, true_or, or_false, false_or, and_true, true_and, and_false, false_and, not_true_eq_false, not_false_eq_true, ↓reduceIte, z_0, z_k, s_I, s_J, s_uI, s_uJ, ↓c_oc_87, ↓jc1 a1, ↓jc1 a2, w1, w2, ↓c_gP_87_12, ↓c_ia_94, ↓c_is_94, gv] at e
        exact e
    · have z2 : j_z (0 ≤ q ∧ q ≤ 4) = j_k 0 := if_neg y
      rw [z2] at a2
      rw [if_neg (fun u => y u.2)]
      simp (disch := first | assumption | omega) only [k_add, k_sub, k_mul, k_lt, k_eq, k_lt0, k_0lt, k_eq0, k_nat, k_b0, k_b1, k_z1, k_z0, k_o1, k_o0, Int.reduceEq, Int.reduceLT, Int.reduceLE, Int.reduceAdd, Int.reduceMul, Int.reduceNeg, Bool.false_eq_true, or_true, true_or, or_false, false_or, and_true, true_and, and_false, false_and, not_true_eq_false, not_false_eq_true, ↓reduceIte, z_0, z_k, s_I, s_J, s_uI, s_uJ, ↓c_oc_87, ↓jc1 a1, ↓jc1 a2] at e
      exact .no hx e
  · have z : j_z (0 ≤ c ∧ c ≤ a_N A - 1) = j_k 0 := if_neg x
    rw [z] at a1
    rw [if_neg (fun u => x (by omega))]
    simp (disch := first | assumption | omega) only [k_add, k_sub, k_mul, k_lt, k_eq, k_lt0, k_0lt, k_eq0, k_nat, k_b0, k_b1, k_z1, k_z0, k_o1, k_o0, Int.reduceEq, Int.reduceLT, Int.reduceLE, Int.reduceAdd, Int.reduceMul, Int.reduceNeg, Bool.false_eq_true, or_true, true_or, or_false, false_or, and_true, true_and, and_false, false_and, not_true_eq_false, not_false_eq_true, ↓reduceIte, z_0, z_k, s_I, s_J, s_uI, s_uJ, ↓c_oc_87, ↓jc1 a1] at e
    exact .no hx e
theorem n_beastTells (hx : iM I J A) {k q : Int} (k1 : 0 ≤ k) (k2 : k < a_gn A) (q1 : 0 ≤ q) (q2 : q ≤ 2) : j_run (d + 2) 171 [.ref 87, .int (j_k k), .int (j_k q)] (ST L p I J) = some (some (.int (j_k (p_tells (a_kd A) (a_fl A) k q))), ST L p I J) := by
  have hC := hx.1.1
  have ho := hx.1.2.1
  have hm := hx.2.2.2.1
  have hf := hx.2.2.2.2.1
  have n0 := hC.2.2.1
  have n4 := hC.2.2.2.1
  have hw := hm.2.1
  have hN := hm.2.2.1
  have hn := hm.2.2.2.1
  have hk := hm.2.2.2.2.1
  have hg := hm.2.2.2.2.2
  obtain ⟨bN0, bN1, -⟩ := bd_N hC
  have k4 : k < 4 := by omega
  have hv := hk k k1 k2
  have v1 := n_v (L := L) (p := p) (d := d) (I := I) (J := J) (k := 0) (j := 5 + k) (by decide) (by decide) (by omega) (by omega)
  have v2 := n_v (L := L) (p := p) (d := d) (I := I) (J := J) (k := 0) (j := 9 + k) (by decide) (by decide) (by omega) (by omega)
  rw [hf.2.1 k k1 k2] at v1
  rw [hf.2.2 k k1 k2] at v2
  rw [r_171, t_171_0]
  unfold p_tells
  rcases (show q = 0 ∨ q = 1 ∨ q = 2 by omega) with rfl | rfl | rfl
  · simp (disch := first | assumption | omega) only [k_add, k_sub, k_mul, k_lt, k_eq, k_lt0, k_0lt, k_eq0, k_nat, k_b0, k_b1, k_z1, k_z0, k_o1, k_o0, Int.reduceEq, Int.reduceLT, Int.reduceLE, Int.reduceAdd, Int.reduceMul, Int.reduceNeg, Bool.false_eq_true, or_true, true_or, or_false, false_or, and_true, true_and, and_false, false_and, not_true_eq_false, not_false_eq_true, ↓reduceIte, z_0, z_k, s_I, s_J, s_uI, s_uJ, ↓c_gP_87_14, ↓c_ia_95, hv]
  · simp (disch := first | assumption | omega) only [k_add, k_sub, k_mul, k_lt, k_eq, k_lt0, k_0lt, k_eq0, k_nat, k_b0, k_b1, k_z1, k_z0, k_o1, k_o0, Int.reduceEq, Int.reduceLT, Int.reduceLE, Int.reduceAdd, Int.reduceMul, Int.reduceNeg, Bool.false_eq_true, or_true, true_or, or_false, false_or, and_true, true_and, and_false, false_and, not_true_eq_false, not_false_eq_true, ↓reduceIte, z_0, z_k, s_I, s_J, s_uI, s_uJ, ↓c_oc_87, ↓jc1 v1]
  · simp (disch := first | assumption | omega) only [k_add, k_sub, k_mul, k_lt, k_eq, k_lt0, k_0lt, k_eq0, k_nat, k_b0, k_b1, k_z1, k_z0, k_o1, k_o0, Int.reduceEq, Int.reduceLT, Int.reduceLE, Int.reduceAdd, Int.reduceMul, Int.reduceNeg, Bool.false_eq_true, or_true, true_or, or_false, false_or, and_true, true_and, and_false, false_and, not_true_eq_false, not_false_eq_true, ↓reduceIte, z_0, z_k, s_I, s_J, s_uI, s_uJ, ↓c_oc_87, ↓jc1 v2]
theorem n_beast (hx : iM I J A) {k q : Int} (h1 : -2147483648 ≤ k) (h2 : k < 2147483648) (h3 : -2147483648 ≤ q) (h4 : q < 2147483648) : mc L p I J (d + 3) 172 [.ref 87, .int (j_k k), .int (j_k q)] (p_beast k q A) := by
  have hC := hx.1.1
  have ho := hx.1.2.1
  have hm := hx.2.2.2.1
  have hf := hx.2.2.2.2.1
  have n0 := hC.2.2.1
  have n4 := hC.2.2.2.1
  have hw := hm.2.1
  have hN := hm.2.2.1
  have hn := hm.2.2.2.1
  have hk := hm.2.2.2.2.1
  have hg := hm.2.2.2.2.2
  obtain ⟨bN0, bN1, -⟩ := bd_N hC
  have a1 := n_isBeast (L := L) (p := p) (d := d) (J := J) hn n0 n4 h1 h2
  have a2 := n_in (L := L) (p := p) (d := d + 1) (I := I) (J := J) (v := q) (lo := 0) (hi := 2) h3 h4 (by decide) (by decide) (by decide) (by decide)
  have e := (r_172 (d + 2) (ST L p I J) 87 (j_k k) (j_k q)).trans (t_172_0 _ _ _ _ _ _)
  unfold p_beast
  by_cases x : 0 ≤ k ∧ k ≤ a_gn A - 1
  · have z : j_z (0 ≤ k ∧ k ≤ a_gn A - 1) = j_k 1 := if_pos x
    rw [z] at a1
    by_cases y : 0 ≤ q ∧ q ≤ 2
    · have z2 : j_z (0 ≤ q ∧ q ≤ 2) = j_k 1 := if_pos y
      rw [z2] at a2
      rw [if_pos ⟨⟨x.1, by omega⟩, y⟩]
      have a3 := n_beastTells (L := L) (p := p) (d := d) hx x.1 (by omega) y.1 y.2
      have a4 := n_tells (L := L) (p := p) (d := d + 1) (I := I) (J := J) (v := j_k (p_tells (a_kd A) (a_fl A) k q)) (x := j_k 1)
      simp (disch := first | assumption | omega) only [k_add, k_sub, k_mul, k_lt, k_eq, k_lt0, k_0lt, k_eq0, k_nat, k_b0, k_b1, k_z1, k_z0, k_o1, k_o0, Int.reduceEq, Int.reduceLT, Int.reduceLE, Int.reduceAdd, Int.reduceMul, Int.reduceNeg, Bool.false_eq_true, or_true, true_or, or_false, false_or, and_true, true_and, and_false, false_and, not_true_eq_false, not_false_eq_true, ↓reduceIte, z_0, z_k, s_I, s_J, s_uI, s_uJ, ↓c_oc_87, ↓jc1 a1, ↓jc1 a2, ↓jc1 a3, ↓jc1 a4] at e
      exact .of ⟨_, e, hx.told, fr_told⟩
    · have z2 : j_z (0 ≤ q ∧ q ≤ 2) = j_k 0 := if_neg y
      rw [z2] at a2
      rw [if_neg (fun u => y u.2)]
      simp (disch := first | assumption | omega) only [k_add, k_sub, k_mul, k_lt, k_eq, k_lt0, k_0lt, k_eq0, k_nat, k_b0, k_b1, k_z1, k_z0, k_o1, k_o0, Int.reduceEq, Int.reduceLT, Int.reduceLE, Int.reduceAdd, Int.reduceMul, Int.reduceNeg, Bool.false_eq_true, or_true, true_or, or_false, false_or, and_true, true_and, and_false, false_and, not_true_eq_false, not_false_eq_true, ↓reduceIte, z_0, z_k, s_I, s_J, s_uI, s_uJ, ↓c_oc_87, ↓jc1 a1, ↓jc1 a2] at e
      exact .no hx e
  · have z : j_z (0 ≤ k ∧ k ≤ a_gn A - 1) = j_k 0 := if_neg x
    rw [z] at a1
    rw [if_neg (fun u => x (by omega))]
    simp (disch := first | assumption | omega) only [k_add, k_sub, k_mul, k_lt, k_eq, k_lt0, k_0lt, k_eq0, k_nat, k_b0, k_b1, k_z1, k_z0, k_o1, k_o0, Int.reduceEq, Int.reduceLT, Int.reduceLE, Int.reduceAdd, Int.reduceMul, Int.reduceNeg, Bool.false_eq_true, or_true, true_or, or_false, false_or, and_true, true_and, and_false, false_and, not_true_eq_false, not_false_eq_true, ↓reduceIte, z_0, z_k, s_I, s_J, s_uI, s_uJ, ↓c_oc_87, ↓jc1 a1] at e
    exact .no hx e
theorem n_near (hx : iM I J A) {k : Int} (k1 : 0 ≤ k) (k2 : k < a_gn A) (hl : a_fl A (5 + k) ≠ -9) : j_run (d + 3) 176 [.ref 87, .int (j_k k)] (ST L p I J) = some (some (.int (j_k (p_near (a_gw A) (a_gn A) (a_fl A) k))), ST L p I J) := by
  have hC := hx.1.1
  have ho := hx.1.2.1
  have hm := hx.2.2.2.1
  have hf := hx.2.2.2.2.1
  have n0 := hC.2.2.1
  have n4 := hC.2.2.2.1
  have hw := hm.2.1
  have hN := hm.2.2.1
  have hn := hm.2.2.2.1
  have hk := hm.2.2.2.2.1
  have hg := hm.2.2.2.2.2
  obtain ⟨bN0, bN1, -⟩ := bd_N hC
  have k4 : k < 4 := by omega
  have hck := (ho.1 k k1 k2).resolve_left hl
  have vk := n_v (L := L) (p := p) (d := d + 1) (I := I) (J := J) (k := 0) (j := 5 + k) (by decide) (by decide) (by omega) (by omega)
  rw [hf.2.1 k k1 k2] at vk
  have loop : ∀ (t M : Nat) (i s : Int), 0 ≤ i → i + t = a_gn A → t < M → j_exec k_176 h_176 (j_run (d + 2)) M 4 [some (.ref 87), some (.int (j_k k)), some (.int (j_k s)), some (.int (j_k i))] [] (ST L p I J) = some (some (.int (j_k (p_loop (fun j s => if j ≠ k ∧ a_fl A (5 + j) ≠ -9 ∧ p_off (a_gw A) (a_fl A (5 + k)) (a_fl A (5 + j)) < 3 then s + 1 else s) t i s))), ST L p I J) := by
    intro t
    induction t with
    | zero =>
      intro M i s i1 i2 hM
      obtain ⟨M, rfl⟩ : ∃ q, M = q + 1 := ⟨M - 1, by omega⟩
      have z : ¬ i < a_gn A := by omega
      rw [x_exec, t_176_4]
      simp (disch := first | assumption | omega) only [k_add, k_sub, k_mul, k_lt, k_eq, k_lt0, k_0lt, k_eq0, k_nat, k_b0, k_b1, k_z1, k_z0, k_o1, k_o0, Int.reduceEq, Int.reduceLT, Int.reduceLE, Int.reduceAdd, Int.reduceMul, Int.reduceNeg, Bool.false_eq_true, or_true, true_or, or_false, false_or, and_true, true_and, and_false, false_and, not_true_eq_false, not_false_eq_true, ↓reduceIte, z_0, z_k, s_I, s_J, s_uI, s_uJ, ↓c_oc_87, hn, z]
      rfl
    | succ t ih =>
      intro M i s i1 i2 hM
      obtain ⟨M, rfl⟩ : ∃ q, M = q + 1 := ⟨M - 1, by omega⟩
      have z : i < a_gn A := by omega
      have i4 : i < 4 := by omega
      have ih0 := ih M (i + 1) s (by omega) (by omega) (by omega)
      have ih1 := ih M (i + 1) (s + 1) (by omega) (by omega) (by omega)
      have l1 := n_isLost (L := L) (p := p) (d := d) (J := J) (k := 0) (by decide) (by decide) hf ho bN1 i1 z n4
      have v1 := n_v (L := L) (p := p) (d := d + 1) (I := I) (J := J) (k := 0) (j := 5 + i) (by decide) (by decide) (by omega) (by omega)
      rw [hf.2.1 i i1 z] at v1
      rw [x_exec, t_176_4, p_loopS]
      by_cases y : i = k
      · have E : (if i ≠ k ∧ a_fl A (5 + i) ≠ -9 ∧ p_off (a_gw A) (a_fl A (5 + k)) (a_fl A (5 + i)) < 3 then s + 1 else s) = s := if_neg (fun u => u.1 y)
        rw [E]
        simp (disch := first | assumption | omega) only [k_add, k_sub, k_mul, k_lt, k_eq, k_lt0, k_0lt, k_eq0, k_nat, k_b0, k_b1, k_z1, k_z0, k_o1, k_o0, Int.reduceEq, Int.reduceLT, Int.reduceLE, Int.reduceAdd, Int.reduceMul, Int.reduceNeg, Bool.false_eq_true, or_true, true_or, or_false, false_or, and_true, true_and, and_false, false_and, not_true_eq_false, not_false_eq_true, ↓reduceIte, z_0, z_k, s_I, s_J, s_uI, s_uJ, ↓c_oc_87, hn, z]
        rw [if_pos y, Int.add_zero]
        exact ih0
      · by_cases v : a_fl A (5 + i) = -9
        · have l2 : j_z (a_fl A (5 + i) = -9) = j_k 1 := if_pos v
          rw [l2] at l1
          have E : (if i ≠ k ∧ a_fl A (5 + i) ≠ -9 ∧ p_off (a_gw A) (a_fl A (5 + k)) (a_fl A (5 + i)) < 3 then s + 1 else s) = s := if_neg (fun u => u.2.1 v)
          rw [E]
          simp (disch := first | assumption | omega) only [k_add, k_sub, k_mul, k_lt, k_eq, k_lt0, k_0lt, k_eq0, k_nat, k_b0, k_b1, k_z1, k_z0, k_o1, k_o0, Int.reduceEq, Int.reduceLT, Int.reduceLE, Int.reduceAdd, Int.reduceMul, Int.reduceNeg, Bool.false_eq_true, or_true, true_or, or_false, false_or, and_true, true_and, and_false, false_and, not_true_eq_false, not_false_eq_true, ↓reduceIte, z_0, z_k, s_I, s_J, s_uI, s_uJ, ↓c_oc_87, hn, z, y, ↓jc1 l1]
          rw [Int.add_zero]
          exact ih0
        · have l2 : j_z (a_fl A (5 + i) = -9) = j_k 0 := if_neg v
          rw [l2] at l1
          have hci := (ho.1 i i1 z).resolve_left v
          have o := n_off (L := L) (p := p) (d := d) (J := J) hw hC hci.1 hci.2 hck.1 hck.2
          rw [off_cm] at o
          have orr := off_rg hC hck.1 hck.2 hci.1 hci.2
          by_cases u : p_off (a_gw A) (a_fl A (5 + k)) (a_fl A (5 + i)) < 3
          · have E : (if i ≠ k ∧ a_fl A (5 + i) ≠ -9 ∧ p_off (a_gw A) (a_fl A (5 + k)) (a_fl A (5 + i)) < 3 then s + 1 else s) = s + 1 := if_pos ⟨y, v, u⟩
            rw [E]
            simp (disch := first | assumption | omega) only [k_add, k_sub, k_mul, k_lt, k_eq, k_lt0, k_0lt, k_eq0, k_nat, k_b0, k_b1, k_z1, k_z0, k_o1, k_o0, Int.reduceEq, Int.reduceLT, Int.reduceLE, Int.reduceAdd, Int.reduceMul, Int.reduceNeg, Bool.false_eq_true, or_true, true_or, or_false, false_or, and_true, true_and, and_false, false_and, not_true_eq_false, not_false_eq_true, ↓reduceIte, z_0, z_k, s_I, s_J, s_uI, s_uJ, ↓c_oc_87, hn, z, y, ↓jc1 l1, ↓jc1 v1, ↓jc1 vk, ↓jc1 o, u]
            exact ih1
          · have E : (if i ≠ k ∧ a_fl A (5 + i) ≠ -9 ∧ p_off (a_gw A) (a_fl A (5 + k)) (a_fl A (5 + i)) < 3 then s + 1 else s) = s := if_neg (fun t => u t.2.2)
            rw [E]
            simp (disch := first | assumption | omega) only [k_add, k_sub, k_mul, k_lt, k_eq, k_lt0, k_0lt, k_eq0, k_nat, k_b0, k_b1, k_z1, k_z0, k_o1, k_o0, Int.reduceEq, Int.reduceLT, Int.reduceLE, Int.reduceAdd, Int.reduceMul, Int.reduceNeg, Bool.false_eq_true, or_true, true_or, or_false, false_or, and_true, true_and, and_false, false_and, not_true_eq_false, not_false_eq_true, ↓reduceIte, z_0, z_k, s_I, s_J, s_uI, s_uJ, ↓c_oc_87, hn, z, y, ↓jc1 l1, ↓jc1 v1, ↓jc1 vk, ↓jc1 o, u]
            rw [Int.add_zero]
            exact ih0
  rw [r_176, t_176_0]
  exact loop (a_gn A).toNat 999999 0 0 (Int.le_refl 0) (by omega) (by omega)
theorem n_gates (hx : iM I J A) : j_run (d + 1) 177 [.ref 87] (ST L p I J) = some (some (.int (j_k (p_gates (a_N A) (a_gr A) 4))), ST L p I J) := by
  have hC := hx.1.1
  have ho := hx.1.2.1
  have hm := hx.2.2.2.1
  have hf := hx.2.2.2.2.1
  have n0 := hC.2.2.1
  have n4 := hC.2.2.2.1
  have hw := hm.2.1
  have hN := hm.2.2.1
  have hn := hm.2.2.2.1
  have hk := hm.2.2.2.2.1
  have hg := hm.2.2.2.2.2
  obtain ⟨bN0, bN1, -⟩ := bd_N hC
  have loop : ∀ (t M : Nat) (i s : Int), 0 ≤ i → i + t = a_N A → t < M → j_exec k_177 h_177 (j_run d) M 4 [some (.ref 87), some (.int (j_k s)), some (.int (j_k i))] [] (ST L p I J) = some (some (.int (j_k (p_loop (fun c s => if a_gr A c = 4 then s + 1 else s) t i s))), ST L p I J) := by
    intro t
    induction t with
    | zero =>
      intro M i s i1 i2 hM
      obtain ⟨M, rfl⟩ : ∃ q, M = q + 1 := ⟨M - 1, by omega⟩
      have z : ¬ i < a_N A := by omega
      rw [x_exec, t_177_4]
      simp (disch := first | assumption | omega) only [k_add, k_sub, k_mul, k_lt, k_eq, k_lt0, k_0lt, k_eq0, k_nat, k_b0, k_b1, k_z1, k_z0, k_o1, k_o0, Int.reduceEq, Int.reduceLT, Int.reduceLE, Int.reduceAdd, Int.reduceMul, Int.reduceNeg, Bool.false_eq_true, or_true, true_or, or_false, false_or, and_true, true_and, and_false, false_and, not_true_eq_false, not_false_eq_true, ↓reduceIte, z_0, z_k, s_I, s_J, s_uI, s_uJ, ↓c_oc_87, hN, z]
      rfl
    | succ t ih =>
      intro M i s i1 i2 hM
      obtain ⟨M, rfl⟩ : ∃ q, M = q + 1 := ⟨M - 1, by omega⟩
      have z : i < a_N A := by omega
      have i4 : i < 30 := by omega
      have gv := hg i i1 z
      have gb := hC.2.2.2.2.1 i i1 z
      rw [x_exec, t_177_4, p_loopS]
      by_cases y : a_gr A i = 4
      · rw [if_pos y]
        simp (disch := first | assumption | omega) only [k_add, k_sub, k_mul, k_lt, k_eq, k_lt0, k_0lt, k_eq0, k_nat, k_b0, k_b1, k_z1, k_z0, k_o1, k_o0, Int.reduceEq, Int.reduceLT, Int.reduceLE, Int.reduceAdd, Int.reduceMul, Int.reduceNeg, Bool.false_eq_true, or_true, true_or, or_false, false_or, and_true, true_and, and_false, false_and, not_true_eq_false, not_false_eq_true, ↓reduceIte, z_0, z_k, s_I, s_J, s_uI, s_uJ, ↓c_oc_87, hN, z, ↓c_gP_87_12, ↓c_ia_94, gv, y]
        exact ih M (i + 1) (s + 1) (by omega) (by omega) (by omega)
      · rw [if_neg y]
        simp (disch := first | assumption | omega) only [k_add, k_sub, k_mul, k_lt, k_eq, k_lt0, k_0lt, k_eq0, k_nat, k_b0, k_b1, k_z1, k_z0, k_o1, k_o0, Int.reduceEq, Int.reduceLT, Int.reduceLE, Int.reduceAdd, Int.reduceMul, Int.reduceNeg, Bool.false_eq_true, or_true, true_or, or_false, false_or, and_true, true_and, and_false, false_and, not_true_eq_false, not_false_eq_true, ↓reduceIte, z_0, z_k, s_I, s_J, s_uI, s_uJ, ↓c_oc_87, hN, z, ↓c_gP_87_12, ↓c_ia_94, gv, y]
        rw [Int.add_zero]
        exact ih M (i + 1) s (by omega) (by omega) (by omega)
  rw [r_177, t_177_0]
  exact loop (a_N A).toNat 999999 0 0 (Int.le_refl 0) (by omega) (by omega)
theorem n_mark (hx : iM I J A) {k q : Int} (h1 : -2147483648 ≤ k) (h2 : k < 2147483648) (h3 : -2147483648 ≤ q) (h4 : q < 2147483648) : mc L p I J (d + 4) 178 [.ref 87, .int (j_k k), .int (j_k q)] (p_mark k q A) := by
  have hC := hx.1.1
  have ho := hx.1.2.1
  have hm := hx.2.2.2.1
  have hf := hx.2.2.2.2.1
  have n0 := hC.2.2.1
  have n4 := hC.2.2.2.1
  have hw := hm.2.1
  have hN := hm.2.2.1
  have hn := hm.2.2.2.1
  have hk := hm.2.2.2.2.1
  have hg := hm.2.2.2.2.2
  obtain ⟨bN0, bN1, -⟩ := bd_N hC
  have a1 := n_isBeast (L := L) (p := p) (d := d + 1) (J := J) hn n0 n4 h1 h2
  have a2 := n_in (L := L) (p := p) (d := d + 2) (I := I) (J := J) (v := q) (lo := 1) (hi := 5) h3 h4 (by decide) (by decide) (by decide) (by decide)
  have e := (r_178 (d + 3) (ST L p I J) 87 (j_k k) (j_k q)).trans (t_178_0 _ _ _ _ _ _)
  unfold p_mark
  by_cases x : 0 ≤ k ∧ k ≤ a_gn A - 1
  · have z : j_z (0 ≤ k ∧ k ≤ a_gn A - 1) = j_k 1 := if_pos x
    rw [z] at a1
    by_cases y : 1 ≤ q ∧ q ≤ 5
    · have z2 : j_z (1 ≤ q ∧ q ≤ 5) = j_k 1 := if_pos y
      rw [z2] at a2
      obtain ⟨k1, k2⟩ := x
      obtain ⟨y1, y2⟩ := y
      have k3 : k < a_gn A := by omega
      have k4 : k < 4 := by omega
      have hv := hk k k1 k3
      have hr := hC.2.2.2.2.2 k k1 k3
      rw [if_pos ⟨⟨k1, k3⟩, y1, y2⟩]
      obtain ⟨I', e1, e2, e3⟩ := n_meets (L := L) (p := p) (d := d + 2) hx (q := 3) (by decide) (by decide)
      have b1 := n_shy (L := L) (p := p) (d := d + 2) (J := J) hC hk k1 k3
      have b2 := n_slow (L := L) (p := p) (d := d + 2) (J := J) hC hk k1 k3
      have l1 := n_isLost (L := L) (p := p) (d := d + 1) (J := J) (k := 0) (by decide) (by decide) hf ho bN1 k1 k3 n4
      have v0 := n_v (L := L) (p := p) (d := d + 2) (I := I) (J := J) (k := 0) (j := 0) (by decide) (by decide) (by decide) (by decide)
      have v1 := n_v (L := L) (p := p) (d := d + 2) (I := I) (J := J) (k := 0) (j := 1) (by decide) (by decide) (by decide) (by decide)
      have v2 := n_v (L := L) (p := p) (d := d + 2) (I := I) (J := J) (k := 0) (j := 2) (by decide) (by decide) (by decide) (by decide)
      have v5 := n_v (L := L) (p := p) (d := d + 2) (I := I) (J := J) (k := 0) (j := 5 + k) (by decide) (by decide) (by omega) (by omega)
      rw [hf.1 0 (by decide) (by decide)] at v0
      rw [hf.1 1 (by decide) (by decide)] at v1
      rw [hf.1 2 (by decide) (by decide)] at v2
      rw [hf.2.1 k k1 k3] at v5
      have hlr := ho.2.2.1
      have hf0 := ho.2.2.2.2.2.1
      have hf1 := ho.2.2.2.2.2.2
      have m2 : j_k (a_fl A 0) - j_k (a_fl A 0) / j_k 2 * j_k 2 = j_k (a_fl A 0 % 2) := k_modp hf0 (by omega) (by decide) (by decide)
      -- whether it is of that kind
      have P1 : (p_shy (a_kd A) k = true) = (a_kd A k = 1 ∨ a_kd A k = 5) := propext decide_eq_true_iff
      have P2 : (p_slow (a_kd A) k = true) = (a_kd A k = 2 ∨ a_kd A k = 4) := propext decide_eq_true_iff
      rcases (show q = 1 ∨ q = 2 ∨ q = 3 ∨ q = 4 ∨ q = 5 by omega) with rfl | rfl | rfl | rfl | rfl
      · by_cases s : p_shy (a_kd A) k = true
        · have s1 : j_z (p_shy (a_kd A) k = true) = j_k 1 := if_pos s
          rw [s1] at b1
          rw [if_pos (Or.inr (Or.inl ⟨rfl, s⟩))]
          refine mc.no hx (e.trans ?_)
          clear e
          have PA : p_markA 1 k A = (if a_fl A 1 = -9 ∨ a_fl A (5 + k) = -9 then -9 else p_off (a_gw A) (a_fl A (5 + k)) (a_fl A 2)) := rfl
          rw [PA]
          by_cases l : a_fl A (5 + k) = -9
          · have l2 : j_z (a_fl A (5 + k) = -9) = j_k 1 := if_pos l
            rw [l2] at l1
            rw [if_pos (Or.inr l)]
            by_cases t : a_kd A k = 1
            · simp (disch := first | assumption | omega) only [k_add, k_sub, k_mul, k_lt, k_eq, k_lt0, k_0lt, k_eq0, k_nat, k_b0, k_b1, k_z1, k_z0, k_o1, k_o0, Int.reduceEq, Int.reduceLT, Int.reduceLE, Int.reduceAdd, Int.reduceMul, Int.reduceNeg, Bool.false_eq_true, or_true, true_or, or_false, false_or, and_true, true_and, and_false, false_and, not_true_eq_false, not_false_eq_true, ↓reduceIte, z_0, z_k, s_I, s_J, s_uI, s_uJ, ↓c_oc_87, ↓jc1 a1, ↓jc1 a2, ↓c_gP_87_14, ↓c_ia_95, hv, t, ↓jc1 l1]
            · simp (disch := first | assumption | omega) only [k_add, k_sub, k_mul, k_lt, k_eq, k_lt0, k_0lt, k_eq0, k_nat, k_b0, k_b1, k_z1, k_z0, k_o1, k_o0, Int.reduceEq, Int.reduceLT, Int.reduceLE, Int.reduceAdd, Int.reduceMul, Int.reduceNeg, Bool.false_eq_true, or_true, true_or, or_false, false_or, and_true, true_and, and_false, false_and, not_true_eq_false, not_false_eq_true, ↓reduceIte, z_0, z_k, s_I, s_J, s_uI, s_uJ, ↓c_oc_87, ↓jc1 a1, ↓jc1 a2, ↓c_gP_87_14, ↓c_ia_95, hv, t, ↓jc1 b1, ↓jc1 l1]
          · have l2 : j_z (a_fl A (5 + k) = -9) = j_k 0 := if_neg l
            rw [l2] at l1
            by_cases m : a_fl A 1 = -9
            · rw [if_pos (Or.inl m)]
              by_cases t : a_kd A k = 1
              · simp (disch := first | assumption | omega) only [k_add, k_sub, k_mul, k_lt, k_eq, k_lt0, k_0lt, k_eq0, k_nat, k_b0, k_b1, k_z1, k_z0, k_o1, k_o0, Int.reduceEq, Int.reduceLT, Int.reduceLE, Int.reduceAdd, Int.reduceMul, Int.reduceNeg, Bool.false_eq_true, or_true, true_or, or_false, false_or, and_true, true_and, and_false, false_and, not_true_eq_false, not_false_eq_true, ↓reduceIte, z_0, z_k, s_I, s_J, s_uI, s_uJ, ↓c_oc_87, ↓jc1 a1, ↓jc1 a2, ↓c_gP_87_14, ↓c_ia_95, hv, t, ↓jc1 l1, ↓jc1 v1, m]
              · simp (disch := first | assumption | omega) only [k_add, k_sub, k_mul, k_lt, k_eq, k_lt0, k_0lt, k_eq0, k_nat, k_b0, k_b1, k_z1, k_z0, k_o1, k_o0, Int.reduceEq, Int.reduceLT, Int.reduceLE, Int.reduceAdd, Int.reduceMul, Int.reduceNeg, Bool.false_eq_true, or_true, true_or, or_false, false_or, and_true, true_and, and_false, false_and, not_true_eq_false, not_false_eq_true, ↓reduceIte, z_0, z_k, s_I, s_J, s_uI, s_uJ, ↓c_oc_87, ↓jc1 a1, ↓jc1 a2, ↓c_gP_87_14, ↓c_ia_95, hv, t, ↓jc1 b1, ↓jc1 l1, ↓jc1 v1, m]
            · rw [if_neg (fun u => u.elim m l)]
              have hck := (ho.1 k k1 k3).resolve_left l
              have h2' := hlr.resolve_left (fun u => m u.1)
              have o := n_off (L := L) (p := p) (d := d + 1) (J := J) hw hC hck.1 hck.2 h2'.2.2.1 h2'.2.2.2
              by_cases t : a_kd A k = 1
              · simp (disch := first | assumption | omega) only [k_add, k_sub, k_mul, k_lt, k_eq, k_lt0, k_0lt, k_eq0, k_nat, k_b0, k_b1, k_z1, k_z0, k_o1, k_o0, Int.reduceEq, Int.reduceLT, Int.reduceLE, Int.reduceAdd, Int.reduceMul, Int.reduceNeg, Bool.false_eq_true, or_true, true_or, or_false, false_or, and_true, true_and, and_false, false_and, not_true_eq_false, not_false_eq_true, ↓reduceIte, z_0, z_k, s_I, s_J, s_uI, s_uJ, ↓c_oc_87, ↓jc1 a1, ↓jc1 a2, ↓c_gP_87_14, ↓c_ia_95, hv, t, ↓jc1 l1, ↓jc1 v1, m, ↓jc1 v5, ↓jc1 v2, ↓jc1 o]
              · simp (disch := first | assumption | omega) only [k_add, k_sub, k_mul, k_lt, k_eq, k_lt0, k_0lt, k_eq0, k_nat, k_b0, k_b1, k_z1, k_z0, k_o1, k_o0, Int.reduceEq, Int.reduceLT, Int.reduceLE, Int.reduceAdd, Int.reduceMul, Int.reduceNeg, Bool.false_eq_true, or_true, true_or, or_false, false_or, and_true, true_and, and_false, false_and, not_true_eq_false, not_false_eq_true, ↓reduceIte, z_0, z_k, s_I, s_J, s_uI, s_uJ, ↓c_oc_87, ↓jc1 a1, ↓jc1 a2, ↓c_gP_87_14, ↓c_ia_95, hv, t, ↓jc1 b1, ↓jc1 l1, ↓jc1 v1, m, ↓jc1 v5, ↓jc1 v2, ↓jc1 o]
        · have s1 : j_z (p_shy (a_kd A) k = true) = j_k 0 := if_neg s
          rw [s1] at b1
          have t : ¬ a_kd A k = 1 := fun u => s (P1.mpr (Or.inl u))
          rw [if_neg (fun u => u.elim t (fun u => u.elim (fun u => s u.2) (fun u => absurd u.1 (by decide))))]
          simp (disch := first | assumption | omega) only [k_add, k_sub, k_mul, k_lt, k_eq, k_lt0, k_0lt, k_eq0, k_nat, k_b0, k_b1, k_z1, k_z0, k_o1, k_o0, Int.reduceEq, Int.reduceLT, Int.reduceLE, Int.reduceAdd, Int.reduceMul, Int.reduceNeg, Bool.false_eq_true, or_true, true_or, or_false, false_or, and_true, true_and, and_false, false_and, not_true_eq_false, not_false_eq_true, ↓reduceIte, z_0, z_k, s_I, s_J, s_uI, s_uJ, ↓c_oc_87, ↓jc1 a1, ↓jc1 a2, ↓c_gP_87_14, ↓c_ia_95, hv, t, ↓jc1 b1, ↓jc1 e1] at e
          exact .meets e2 e3 e
      · by_cases s : p_slow (a_kd A) k = true
        · have s1 : j_z (p_slow (a_kd A) k = true) = j_k 1 := if_pos s
          rw [s1] at b2
          rw [if_pos (Or.inr (Or.inr ⟨rfl, s⟩))]
          refine mc.no hx (e.trans ?_)
          clear e
          have PA : p_markA 2 k A = (a_fl A 0 % 2) := rfl
          rw [PA]
          by_cases t : a_kd A k = 2
          · simp (disch := first | assumption | omega) only [k_add, k_sub, k_mul, k_lt, k_eq, k_lt0, k_0lt, k_eq0, k_nat, k_b0, k_b1, k_z1, k_z0, k_o1, k_o0, Int.reduceEq, Int.reduceLT, Int.reduceLE, Int.reduceAdd, Int.reduceMul, Int.reduceNeg, Bool.false_eq_true, or_true, true_or, or_false, false_or, and_true, true_and, and_false, false_and, not_true_eq_false, not_false_eq_true, ↓reduceIte, z_0, z_k, s_I, s_J, s_uI, s_uJ, ↓c_oc_87, ↓jc1 a1, ↓jc1 a2, ↓c_gP_87_14, ↓c_ia_95, hv, t, ↓jc1 v0]
            rw [m2]
          · simp (disch := first | assumption | omega) only [k_add, k_sub, k_mul, k_lt, k_eq, k_lt0, k_0lt, k_eq0, k_nat, k_b0, k_b1, k_z1, k_z0, k_o1, k_o0, Int.reduceEq, Int.reduceLT, Int.reduceLE, Int.reduceAdd, Int.reduceMul, Int.reduceNeg, Bool.false_eq_true, or_true, true_or, or_false, false_or, and_true, true_and, and_false, false_and, not_true_eq_false, not_false_eq_true, ↓reduceIte, z_0, z_k, s_I, s_J, s_uI, s_uJ, ↓c_oc_87, ↓jc1 a1, ↓jc1 a2, ↓c_gP_87_14, ↓c_ia_95, hv, t, ↓jc1 b2, ↓jc1 v0]
            rw [m2]
        · have s1 : j_z (p_slow (a_kd A) k = true) = j_k 0 := if_neg s
          rw [s1] at b2
          have t : ¬ a_kd A k = 2 := fun u => s (P2.mpr (Or.inl u))
          rw [if_neg (fun u => u.elim t (fun u => u.elim (fun u => absurd u.1 (by decide)) (fun u => s u.2)))]
          simp (disch := first | assumption | omega) only [k_add, k_sub, k_mul, k_lt, k_eq, k_lt0, k_0lt, k_eq0, k_nat, k_b0, k_b1, k_z1, k_z0, k_o1, k_o0, Int.reduceEq, Int.reduceLT, Int.reduceLE, Int.reduceAdd, Int.reduceMul, Int.reduceNeg, Bool.false_eq_true, or_true, true_or, or_false, false_or, and_true, true_and, and_false, false_and, not_true_eq_false, not_false_eq_true, ↓reduceIte, z_0, z_k, s_I, s_J, s_uI, s_uJ, ↓c_oc_87, ↓jc1 a1, ↓jc1 a2, ↓c_gP_87_14, ↓c_ia_95, hv, t, ↓jc1 b2, ↓jc1 e1] at e
          exact .meets e2 e3 e
      · by_cases t : a_kd A k = 3
        · rw [if_pos (Or.inl t)]
          have o := n_aim (L := L) (p := p) (d := d + 1) (J := J) (q := 0) (by decide) (by decide) hC hk hf ho k1 k3
          simp (disch := first | assumption | omega) only [k_add, k_sub, k_mul, k_lt, k_eq, k_lt0, k_0lt, k_eq0, k_nat, k_b0, k_b1, k_z1, k_z0, k_o1, k_o0, Int.reduceEq, Int.reduceLT, Int.reduceLE, Int.reduceAdd, Int.reduceMul, Int.reduceNeg, Bool.false_eq_true, or_true, true_or, or_false, false_or, and_true, true_and, and_false, false_and, not_true_eq_false, not_false_eq_true, ↓reduceIte, z_0, z_k, s_I, s_J, s_uI, s_uJ, ↓c_oc_87, ↓jc1 a1, ↓jc1 a2, ↓c_gP_87_14, ↓c_ia_95, hv, t, ↓jc1 o] at e
          exact .no hx e
        · rw [if_neg (fun u => u.elim t (fun u => u.elim (fun u => absurd u.1 (by decide)) (fun u => absurd u.1 (by decide))))]
          simp (disch := first | assumption | omega) only [k_add, k_sub, k_mul, k_lt, k_eq, k_lt0, k_0lt, k_eq0, k_nat, k_b0, k_b1, k_z1, k_z0, k_o1, k_o0, Int.reduceEq, Int.reduceLT, Int.reduceLE, Int.reduceAdd, Int.reduceMul, Int.reduceNeg, Bool.false_eq_true, or_true, true_or, or_false, false_or, and_true, true_and, and_false, false_and, not_true_eq_false, not_false_eq_true, ↓reduceIte, z_0, z_k, s_I, s_J, s_uI, s_uJ, ↓c_oc_87, ↓jc1 a1, ↓jc1 a2, ↓c_gP_87_14, ↓c_ia_95, hv, t, ↓jc1 e1] at e
          exact .meets e2 e3 e
      · by_cases t : a_kd A k = 4
        · rw [if_pos (Or.inl t)]
          have o := n_gates (L := L) (p := p) (d := d + 2) hx
          simp (disch := first | assumption | omega) only [k_add, k_sub, k_mul, k_lt, k_eq, k_lt0, k_0lt, k_eq0, k_nat, k_b0, k_b1, k_z1, k_z0, k_o1, k_o0, Int.reduceEq, Int.reduceLT, Int.reduceLE, Int.reduceAdd, Int.reduceMul, Int.reduceNeg, Bool.false_eq_true, or_true, true_or, or_false, false_or, and_true, true_and, and_false, false_and, not_true_eq_false, not_false_eq_true, ↓reduceIte, z_0, z_k, s_I, s_J, s_uI, s_uJ, ↓c_oc_87, ↓jc1 a1, ↓jc1 a2, ↓c_gP_87_14, ↓c_ia_95, hv, t, ↓jc1 o] at e
          exact .no hx e
        · rw [if_neg (fun u => u.elim t (fun u => u.elim (fun u => absurd u.1 (by decide)) (fun u => absurd u.1 (by decide))))]
          simp (disch := first | assumption | omega) only [k_add, k_sub, k_mul, k_lt, k_eq, k_lt0, k_0lt, k_eq0, k_nat, k_b0, k_b1, k_z1, k_z0, k_o1, k_o0, Int.reduceEq, Int.reduceLT, Int.reduceLE, Int.reduceAdd, Int.reduceMul, Int.reduceNeg, Bool.false_eq_true, or_true, true_or, or_false, false_or, and_true, true_and, and_false, false_and, not_true_eq_false, not_false_eq_true, ↓reduceIte, z_0, z_k, s_I, s_J, s_uI, s_uJ, ↓c_oc_87, ↓jc1 a1, ↓jc1 a2, ↓c_gP_87_14, ↓c_ia_95, hv, t, ↓jc1 e1] at e
          exact .meets e2 e3 e
      · by_cases t : a_kd A k = 5
        · rw [if_pos (Or.inl t)]
          refine mc.no hx (e.trans ?_)
          clear e
          have PA : p_markA 5 k A = (if a_fl A (5 + k) = -9 then -9 else p_near (a_gw A) (a_gn A) (a_fl A) k) := rfl
          rw [PA]
          by_cases l : a_fl A (5 + k) = -9
          · have l2 : j_z (a_fl A (5 + k) = -9) = j_k 1 := if_pos l
            rw [l2] at l1
            rw [if_pos l]
            simp (disch := first | assumption | omega) only [k_add, k_sub, k_mul, k_lt, k_eq, k_lt0, k_0lt, k_eq0, k_nat, k_b0, k_b1, k_z1, k_z0, k_o1, k_o0, Int.reduceEq, Int.reduceLT, Int.reduceLE, Int.reduceAdd, Int.reduceMul, Int.reduceNeg, Bool.false_eq_true, or_true, true_or, or_false, false_or, and_true, true_and, and_false, false_and, not_true_eq_false, not_false_eq_true, ↓reduceIte, z_0, z_k, s_I, s_J, s_uI, s_uJ, ↓c_oc_87, ↓jc1 a1, ↓jc1 a2, ↓c_gP_87_14, ↓c_ia_95, hv, t, ↓jc1 l1]
          · have l2 : j_z (a_fl A (5 + k) = -9) = j_k 0 := if_neg l
            rw [l2] at l1
            rw [if_neg l]
            have o := n_near (L := L) (p := p) (d := d) hx k1 k3 l
            simp (disch := first | assumption | omega) only [k_add, k_sub, k_mul, k_lt, k_eq, k_lt0, k_0lt, k_eq0, k_nat, k_b0, k_b1, k_z1, k_z0, k_o1, k_o0, Int.reduceEq, Int.reduceLT, Int.reduceLE, Int.reduceAdd, Int.reduceMul, Int.reduceNeg, Bool.false_eq_true, or_true, true_or, or_false, false_or, and_true, true_and, and_false, false_and, not_true_eq_false, not_false_eq_true, ↓reduceIte, z_0, z_k, s_I, s_J, s_uI, s_uJ, ↓c_oc_87, ↓jc1 a1, ↓jc1 a2, ↓c_gP_87_14, ↓c_ia_95, hv, t, ↓jc1 l1, ↓jc1 o]
        · rw [if_neg (fun u => u.elim t (fun u => u.elim (fun u => absurd u.1 (by decide)) (fun u => absurd u.1 (by decide))))]
          simp (disch := first | assumption | omega) only [k_add, k_sub, k_mul, k_lt, k_eq, k_lt0, k_0lt, k_eq0, k_nat, k_b0, k_b1, k_z1, k_z0, k_o1, k_o0, Int.reduceEq, Int.reduceLT, Int.reduceLE, Int.reduceAdd, Int.reduceMul, Int.reduceNeg, Bool.false_eq_true, or_true, true_or, or_false, false_or, and_true, true_and, and_false, false_and, not_true_eq_false, not_false_eq_true, ↓reduceIte, z_0, z_k, s_I, s_J, s_uI, s_uJ, ↓c_oc_87, ↓jc1 a1, ↓jc1 a2, ↓c_gP_87_14, ↓c_ia_95, hv, t, ↓jc1 e1] at e
          exact .meets e2 e3 e
    · have z2 : j_z (1 ≤ q ∧ q ≤ 5) = j_k 0 := if_neg y
      rw [z2] at a2
      rw [if_neg (fun u => y u.2)]
      simp (disch := first | assumption | omega) only [k_add, k_sub, k_mul, k_lt, k_eq, k_lt0, k_0lt, k_eq0, k_nat, k_b0, k_b1, k_z1, k_z0, k_o1, k_o0, Int.reduceEq, Int.reduceLT, Int.reduceLE, Int.reduceAdd, Int.reduceMul, Int.reduceNeg, Bool.false_eq_true, or_true, true_or, or_false, false_or, and_true, true_and, and_false, false_and, not_true_eq_false, not_false_eq_true, ↓reduceIte, z_0, z_k, s_I, s_J, s_uI, s_uJ, ↓c_oc_87, ↓jc1 a1, ↓jc1 a2] at e
      exact .no hx e
  · have z : j_z (0 ≤ k ∧ k ≤ a_gn A - 1) = j_k 0 := if_neg x
    rw [z] at a1
    rw [if_neg (fun u => x (by omega))]
    simp (disch := first | assumption | omega) only [k_add, k_sub, k_mul, k_lt, k_eq, k_lt0, k_0lt, k_eq0, k_nat, k_b0, k_b1, k_z1, k_z0, k_o1, k_o0, Int.reduceEq, Int.reduceLT, Int.reduceLE, Int.reduceAdd, Int.reduceMul, Int.reduceNeg, Bool.false_eq_true, or_true, true_or, or_false, false_or, and_true, true_and, and_false, false_and, not_true_eq_false, not_false_eq_true, ↓reduceIte, z_0, z_k, s_I, s_J, s_uI, s_uJ, ↓c_oc_87, ↓jc1 a1] at e
    exact .no hx e
theorem n_last (hx : iM I J A) : mc L p I J (d + 2) 179 [.ref 87] (p_last A) := by
  have hC := hx.1.1
  have ho := hx.1.2.1
  have hm := hx.2.2.2.1
  have hf := hx.2.2.2.2.1
  have n0 := hC.2.2.1
  have n4 := hC.2.2.2.1
  have hw := hm.2.1
  have hN := hm.2.2.1
  have hn := hm.2.2.2.1
  have hk := hm.2.2.2.2.1
  have hg := hm.2.2.2.2.2
  obtain ⟨bN0, bN1, -⟩ := bd_N hC
  have v1 := n_v (L := L) (p := p) (d := d) (I := I) (J := J) (k := 0) (j := 1) (by decide) (by decide) (by decide) (by decide)
  have v2 := n_v (L := L) (p := p) (d := d) (I := I) (J := J) (k := 0) (j := 2) (by decide) (by decide) (by decide) (by decide)
  rw [hf.1 1 (by decide) (by decide)] at v1
  rw [hf.1 2 (by decide) (by decide)] at v2
  have a := n_tells (L := L) (p := p) (d := d) (I := I) (J := J) (v := j_k (a_fl A 2)) (x := j_k (a_fl A 1))
  have e := (r_179 (d + 1) (ST L p I J) 87).trans (t_179_0 _ _ _ _)
  rw [c_oc_87, jc1 v2, c_oc_87, jc1 v1, c_oc_87, jc1 a] at e
  exact .of ⟨_, e, hx.told, fr_told⟩
end MCALLS1
