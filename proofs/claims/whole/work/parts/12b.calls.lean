/-! ===== the model's calls: row, lay, at, tear ===== -/
section PLACES
variable {C : Int} {z : Int → Int} {r i : Int} {A : Ast}
theorem miss_no (h : ¬ (0 ≤ r ∧ r < C)) : p_miss C z r A = (-1, A) := if_neg h
theorem miss_m (h : 0 ≤ r ∧ r < C) (y : z r = -1) : p_miss C z r A = p_meets 1 A := (if_pos h).trans (if_pos y)
theorem miss_ok (h : 0 ≤ r ∧ r < C) (y : z r ≠ -1) : p_miss C z r A = (0, A) := (if_pos h).trans (if_neg y)
theorem place_no (h : ¬ (0 ≤ r ∧ r < C)) : p_place C z r i A = (-1, A) := by
  unfold p_place
  rw [miss_no h]
  exact if_neg (show ¬ (-1 : Int) = 0 by decide)
theorem place_m (h : 0 ≤ r ∧ r < C) (y : z r = -1) : p_place C z r i A = p_meets 1 A := by
  unfold p_place
  rw [miss_m h y]
  exact if_neg (show ¬ (-3 : Int) = 0 by decide)
theorem place_b (h : 0 ≤ r ∧ r < C) (y : z r ≠ -1) (w : ¬ (0 ≤ i ∧ i < z r)) : p_place C z r i A = p_meets 2 A := by
  unfold p_place
  rw [miss_ok h y]
  exact (if_pos rfl).trans (if_neg w)
theorem place_ok (h : 0 ≤ r ∧ r < C) (y : z r ≠ -1) (w : 0 ≤ i ∧ i < z r) : p_place C z r i A = (0, A) := by
  unfold p_place
  rw [miss_ok h y]
  exact (if_pos rfl).trans (if_pos w)
end PLACES
section MROWS
variable {L p d : Nat} {I : Nat → Nat → Int32} {J : Nat → Nat → Int64} {A : Ast}
theorem n_row (hx : iM I J A) {r n : Int} (h1 : -2147483648 ≤ r) (h2 : r < 2147483648) (h3 : -2147483648 ≤ n) (h4 : n < 2147483648) : mc L p I J (d + 3) 141 [.ref 87, .int (j_k r), .int (j_k n)] (p_row r n A) := by
  have a1 := n_isRow (L := L) (p := p) (d := d) (I := I) (J := J) h1 h2
  have e := (r_141 (d + 2) (ST L p I J) 87 (j_k r) (j_k n)).trans (t_141_0 _ _ _ _ _ _)
  unfold p_row
  by_cases x : 0 ≤ r ∧ r ≤ 5
  · have z : j_z (0 ≤ r ∧ r ≤ 5) = j_k 1 := if_pos x
    rw [z] at a1
    obtain ⟨r1, r2⟩ := x
    have r3 : r < 6 := by omega
    by_cases y : n ≤ 60
    · have y' : ¬ 60 < n := by omega
      rw [if_pos ⟨⟨r1, r3⟩, y⟩]
      by_cases w : n < 0
      · rw [if_pos w]
        obtain ⟨I', e1, e2, e3⟩ := n_meets (L := L) (p := p) (d := d + 1) hx (q := 5) (by decide) (by decide)
        simp (disch := first | assumption | omega) only [k_add, k_sub, k_mul, k_lt, k_eq, k_lt0, k_0lt, k_eq0, k_nat, k_b0, k_b1, k_z1, k_z0, k_o1, k_o0, Int.reduceEq, Int.reduceLT, Int.reduceLE, Int.reduceAdd, Int.reduceMul, Int.reduceNeg, Bool.false_eq_true, or_true, true_or, or_false, false_or, and_true, true_and, and_false, false_and, not_true_eq_false, not_false_eq_true, ↓reduceIte, z_0, z_k, s_I, s_J, s_uI, s_uJ, ↓jc1 a1, y', w, ↓c_oc_87, ↓jc1 e1] at e
        exact .meets e2 e3 e
      · rw [if_neg w]
        have loop : ∀ (t M : Nat) (i : Int) (I1 : Nat → Nat → Int32), 0 ≤ i → i + t = 60 → t < M → (∀ q, q ≠ 89 → q ≠ 90 → I1 q = I q) → I1 89 = u1 (I 89) r.toNat (j_k n) → (∀ j : Int, 0 ≤ j → j < 360 → I1 90 j.toNat = if 60 * r ≤ j ∧ j < 60 * r + i then j_k 0 else I 90 j.toNat) → ∃ I2, j_exec k_141 h_141 (j_run (d + 2)) M 34 [some (.ref 87), some (.int (j_k r)), some (.int (j_k n)), some (.int (j_k i))] [] (ST L p I1 J) = some (some (.int (j_k n)), ST L p I2 J) ∧ (∀ q, q ≠ 89 → q ≠ 90 → I2 q = I q) ∧ I2 89 = u1 (I 89) r.toNat (j_k n) ∧ (∀ j : Int, 0 ≤ j → j < 360 → I2 90 j.toNat = if 60 * r ≤ j ∧ j < 60 * r + 60 then j_k 0 else I 90 j.toNat) := by
          intro t
          induction t with
          | zero =>
            intro M i I1 i1 i2 hM g1 g2 g3
            obtain ⟨M, rfl⟩ : ∃ q, M = q + 1 := ⟨M - 1, by omega⟩
            have z : ¬ i < 60 := by omega
            have i60 : i = 60 := by omega
            subst i60
            refine ⟨I1, ?_, g1, g2, g3⟩
            rw [x_exec, t_141_34]
            simp (disch := first | assumption | omega) only [k_add, k_sub, k_mul, k_lt, k_eq, k_lt0, k_0lt, k_eq0, k_nat, k_b0, k_b1, k_z1, k_z0, k_o1, k_o0, Int.reduceEq, Int.reduceLT, Int.reduceLE, Int.reduceAdd, Int.reduceMul, Int.reduceNeg, Bool.false_eq_true, or_true, true_or, or_false, false_or, and_true, true_and, and_false, false_and, not_true_eq_false, not_false_eq_true, ↓reduceIte, z_0, z_k, s_I, s_J, s_uI, s_uJ, z]
          | succ t ih =>
            intro M i I1 i1 i2 hM g1 g2 g3
            obtain ⟨M, rfl⟩ : ∃ q, M = q + 1 := ⟨M - 1, by omega⟩
            have z : i < 60 := by omega
            obtain ⟨I2, q1, q2⟩ := ih M (i + 1) (u2 I1 90 (60 * r + i).toNat (j_k 0)) (by omega) (by omega) (by omega) (fun q a b => by rw [← g1 q a b]; funext m; rw [u2_r b]) (by rw [← g2]; funext m; rw [u2_r (by decide)]) (fun j j1 j2 => by
              by_cases c : j = 60 * r + i
              · subst c
                rw [u2_ss, if_pos (by omega)]
              · rw [u2_k (by omega), g3 j j1 j2]
                by_cases c2 : 60 * r ≤ j ∧ j < 60 * r + i
                · rw [if_pos c2, if_pos (by omega)]
                · rw [if_neg c2, if_neg (by omega)])
            refine ⟨I2, ?_, q2⟩
            rw [x_exec, t_141_34]
            simp (disch := first | assumption | omega) only [k_add, k_sub, k_mul, k_lt, k_eq, k_lt0, k_0lt, k_eq0, k_nat, k_b0, k_b1, k_z1, k_z0, k_o1, k_o0, Int.reduceEq, Int.reduceLT, Int.reduceLE, Int.reduceAdd, Int.reduceMul, Int.reduceNeg, Bool.false_eq_true, or_true, true_or, or_false, false_or, and_true, true_and, and_false, false_and, not_true_eq_false, not_false_eq_true, ↓reduceIte, z_0, z_k, s_I, s_J, s_uI, s_uJ, z, ↓c_gP_87_6, ↓c_is_90]
            exact q1
        obtain ⟨I2, q1, q2, q3, q4⟩ := loop 60 999999 0 (u2 I 89 r.toNat (j_k n)) (Int.le_refl 0) (by decide) (by decide) (fun q a b => by funext m; rw [u2_r a]) (by show u1 I 89 (u1 (I 89) r.toNat (j_k n)) 89 = _; rw [u1_same]) (fun j j1 j2 => by
          rw [u2_r (by decide), if_neg (by omega)])
        simp (disch := first | assumption | omega) only [k_add, k_sub, k_mul, k_lt, k_eq, k_lt0, k_0lt, k_eq0, k_nat, k_b0, k_b1, k_z1, k_z0, k_o1, k_o0, Int.reduceEq, Int.reduceLT, Int.reduceLE, Int.reduceAdd, Int.reduceMul, Int.reduceNeg, Bool.false_eq_true, or_true, true_or, or_false, false_or, and_true, true_and, and_false, false_and, not_true_eq_false, not_false_eq_true, ↓reduceIte, z_0, z_k, s_I, s_J, s_uI, s_uJ, ↓jc1 a1, y', w, ↓c_gP_87_5, ↓c_is_89] at e
        refine .of ⟨I2, e.trans q1, hx.rows (v := a_told A) (rz := f2 (a_rz A) r n) (rv := f2 (a_rv A) r (fun _ => 0)) (fun q a b c _ => q2 q b c) (fun k _ => by rw [q2 87 (by decide) (by decide)]) (by rw [q2 87 (by decide) (by decide)]; exact hx.2.2.2.2.2.2.1) (fun s s1 s2 => ⟨?_, fun k k1 k2 => ?_⟩) (fun s s1 s2 => ?_), fun q hq => q2 q (by omega) (by omega)⟩
        · rw [q3]
          unfold f2
          by_cases c : s = r
          · subst c
            rw [u1_same, if_pos rfl]
          · rw [u1_ne (by omega), if_neg c]
            exact (hx.2.1 s s1 s2).1
        · rw [q4 (60 * s + k) (by omega) (by omega)]
          unfold f2
          by_cases c : s = r
          · subst c
            rw [if_pos (by omega), if_pos rfl]
            exact kk0
          · rw [if_neg (by omega), if_neg c]
            exact (hx.2.1 s s1 s2).2 k k1 k2
        · unfold f2
          by_cases c : s = r
          · rw [if_pos c]
            omega
          · rw [if_neg c]
            exact hx.1.2.2.2.1 s s1 s2
    · have y' : 60 < n := by omega
      rw [if_neg (fun u => y u.2)]
      simp (disch := first | assumption | omega) only [k_add, k_sub, k_mul, k_lt, k_eq, k_lt0, k_0lt, k_eq0, k_nat, k_b0, k_b1, k_z1, k_z0, k_o1, k_o0, Int.reduceEq, Int.reduceLT, Int.reduceLE, Int.reduceAdd, Int.reduceMul, Int.reduceNeg, Bool.false_eq_true, or_true, true_or, or_false, false_or, and_true, true_and, and_false, false_and, not_true_eq_false, not_false_eq_true, ↓reduceIte, z_0, z_k, s_I, s_J, s_uI, s_uJ, ↓jc1 a1, y'] at e
      exact .no hx e
  · have z : j_z (0 ≤ r ∧ r ≤ 5) = j_k 0 := if_neg x
    rw [z] at a1
    rw [if_neg (fun u => x (by omega))]
    simp (disch := first | assumption | omega) only [k_add, k_sub, k_mul, k_lt, k_eq, k_lt0, k_0lt, k_eq0, k_nat, k_b0, k_b1, k_z1, k_z0, k_o1, k_o0, Int.reduceEq, Int.reduceLT, Int.reduceLE, Int.reduceAdd, Int.reduceMul, Int.reduceNeg, Bool.false_eq_true, or_true, true_or, or_false, false_or, and_true, true_and, and_false, false_and, not_true_eq_false, not_false_eq_true, ↓reduceIte, z_0, z_k, s_I, s_J, s_uI, s_uJ, ↓jc1 a1] at e
    exact .no hx e
theorem n_lay (hx : iM I J A) {r i : Int} {v : Int32} (h1 : -2147483648 ≤ r) (h2 : r < 2147483648) (h3 : -2147483648 ≤ i) (h4 : i < 2147483648) : mc L p I J (d + 3) 142 [.ref 87, .int (j_k r), .int (j_k i), .int v] (p_lay1 r i v A) := by
  have a1 := n_isRow (L := L) (p := p) (d := d) (I := I) (J := J) h1 h2
  have e := (r_142 (d + 2) (ST L p I J) 87 (j_k r) (j_k i) v).trans (t_142_0 _ _ _ _ _ _ _)
  by_cases x : 0 ≤ r ∧ r ≤ 5
  · have z : j_z (0 ≤ r ∧ r ≤ 5) = j_k 1 := if_pos x
    rw [z] at a1
    obtain ⟨r1, r2⟩ := x
    have r3 : r < 6 := by omega
    have hr := (hx.2.1 r r1 r3).1
    have br := hx.1.2.2.2.1 r r1 r3
    have br1 := br.1
    have br2 := br.2
    by_cases y : a_rz A r = -1
    · rw [show p_lay1 r i v A = p_meets 1 A from by unfold p_lay1; rw [place_m ⟨r1, r3⟩ y]; exact if_neg (show ¬ (-3 : Int) = 0 by decide)]
      obtain ⟨I', e1, e2, e3⟩ := n_meets (L := L) (p := p) (d := d + 1) hx (q := 1) (by decide) (by decide)
      simp (disch := first | assumption | omega) only [k_add, k_sub, k_mul, k_lt, k_eq, k_lt0, k_0lt, k_eq0, k_nat, k_b0, k_b1, k_z1, k_z0, k_o1, k_o0, Int.reduceEq, Int.reduceLT, Int.reduceLE, Int.reduceAdd, Int.reduceMul, Int.reduceNeg, Bool.false_eq_true, or_true, true_or, or_false, false_or, and_true, true_and, and_false, false_and, not_true_eq_false, not_false_eq_true, ↓reduceIte, z_0, z_k, s_I, s_J, s_uI, s_uJ, ↓jc1 a1, ↓c_gP_87_5, ↓c_ia_89, hr, y, ↓c_oc_87, ↓jc1 e1] at e
      exact .meets e2 e3 e
    · have y2 : ¬ a_rz A r < 0 := by omega
      have a2 := n_in (L := L) (p := p) (d := d + 1) (I := I) (J := J) (v := i) (lo := 0) (hi := a_rz A r - 1) h3 h4 (by decide) (by decide) (by omega) (by omega)
      by_cases w : 0 ≤ i ∧ i ≤ a_rz A r - 1
      · have z2 : j_z (0 ≤ i ∧ i ≤ a_rz A r - 1) = j_k 1 := if_pos w
        rw [z2] at a2
        obtain ⟨w1, w2⟩ := w
        have i60 : i < 60 := by omega
        have a3 := n_rowAt (L := L) (p := p) (d := d + 1) hx r1 r3 w1 i60
        have a4 := n_tells (L := L) (p := p) (d := d + 1) (I := u2 I 90 (60 * r + i).toNat v) (J := J) (v := a_rv A r i) (x := j_k 1)
        rw [show p_lay1 r i v A = (1, A_told (A_rv A (f2 (a_rv A) r (f2 (a_rv A r) i v))) (a_rv A r i)) from by unfold p_lay1; rw [place_ok ⟨r1, r3⟩ y ⟨w1, by omega⟩]; exact if_pos rfl]
        simp (disch := first | assumption | omega) only [k_add, k_sub, k_mul, k_lt, k_eq, k_lt0, k_0lt, k_eq0, k_nat, k_b0, k_b1, k_z1, k_z0, k_o1, k_o0, Int.reduceEq, Int.reduceLT, Int.reduceLE, Int.reduceAdd, Int.reduceMul, Int.reduceNeg, Bool.false_eq_true, or_true, true_or, or_false, false_or, and_true, true_and, and_false, false_and, not_true_eq_false, not_false_eq_true, ↓reduceIte, z_0, z_k, s_I, s_J, s_uI, s_uJ, ↓jc1 a1, ↓c_gP_87_5, ↓c_ia_89, hr, y2, ↓jc1 a2, ↓c_oc_87, ↓jc1 a3, ↓c_gP_87_6, ↓c_is_90, ↓jc1 a4] at e
        refine .of ⟨_, e, hx.rows (rz := a_rz A) (rv := f2 (a_rv A) r (f2 (a_rv A r) i v)) (fun q a b c _ => ?_) (fun k a => ?_) (u2_ss _ _ _ _) (fun s s1 s2 => ⟨?_, fun k k1 k2 => ?_⟩) hx.1.2.2.2.1, fun q hq => ?_⟩
        · funext m
          rw [u2_r a, u2_r c]
        · rw [u2_k a, u2_r (by decide)]
        · rw [u2_r (by decide), u2_r (by decide)]
          exact (hx.2.1 s s1 s2).1
        · rw [u2_r (by decide)]
          unfold f2
          by_cases c : s = r
          · subst c
            rw [if_pos rfl]
            by_cases c2 : k = i
            · subst c2
              rw [u2_ss, if_pos rfl]
            · rw [u2_k (by omega), if_neg c2]
              exact (hx.2.1 s s1 s2).2 k k1 k2
          · rw [u2_k (by omega), if_neg c]
            exact (hx.2.1 s s1 s2).2 k k1 k2
        · funext m
          rw [u2_r (by omega), u2_r (by omega)]
      · have z2 : j_z (0 ≤ i ∧ i ≤ a_rz A r - 1) = j_k 0 := if_neg w
        rw [z2] at a2
        rw [show p_lay1 r i v A = p_meets 2 A from by unfold p_lay1; rw [place_b ⟨r1, r3⟩ y (by omega)]; exact if_neg (show ¬ (-3 : Int) = 0 by decide)]
        obtain ⟨I', e1, e2, e3⟩ := n_meets (L := L) (p := p) (d := d + 1) hx (q := 2) (by decide) (by decide)
        simp (disch := first | assumption | omega) only [k_add, k_sub, k_mul, k_lt, k_eq, k_lt0, k_0lt, k_eq0, k_nat, k_b0, k_b1, k_z1, k_z0, k_o1, k_o0, Int.reduceEq, Int.reduceLT, Int.reduceLE, Int.reduceAdd, Int.reduceMul, Int.reduceNeg, Bool.false_eq_true, or_true, true_or, or_false, false_or, and_true, true_and, and_false, false_and, not_true_eq_false, not_false_eq_true, ↓reduceIte, z_0, z_k, s_I, s_J, s_uI, s_uJ, ↓jc1 a1, ↓c_gP_87_5, ↓c_ia_89, hr, y2, ↓jc1 a2, ↓c_oc_87, ↓jc1 e1] at e
        exact .meets e2 e3 e
  · have z : j_z (0 ≤ r ∧ r ≤ 5) = j_k 0 := if_neg x
    rw [z] at a1
    rw [show p_lay1 r i v A = (-1, A) from by unfold p_lay1; rw [place_no (by omega)]; exact if_neg (show ¬ (-1 : Int) = 0 by decide)]
    simp (disch := first | assumption | omega) only [k_add, k_sub, k_mul, k_lt, k_eq, k_lt0, k_0lt, k_eq0, k_nat, k_b0, k_b1, k_z1, k_z0, k_o1, k_o0, Int.reduceEq, Int.reduceLT, Int.reduceLE, Int.reduceAdd, Int.reduceMul, Int.reduceNeg, Bool.false_eq_true, or_true, true_or, or_false, false_or, and_true, true_and, and_false, false_and, not_true_eq_false, not_false_eq_true, ↓reduceIte, z_0, z_k, s_I, s_J, s_uI, s_uJ, ↓jc1 a1] at e
    exact .no hx e
theorem n_at (hx : iM I J A) {r i : Int} (h1 : -2147483648 ≤ r) (h2 : r < 2147483648) (h3 : -2147483648 ≤ i) (h4 : i < 2147483648) : mc L p I J (d + 3) 143 [.ref 87, .int (j_k r), .int (j_k i)] (p_at1 r i A) := by
  have a1 := n_isRow (L := L) (p := p) (d := d) (I := I) (J := J) h1 h2
  have e := (r_143 (d + 2) (ST L p I J) 87 (j_k r) (j_k i)).trans (t_143_0 _ _ _ _ _ _)
  by_cases x : 0 ≤ r ∧ r ≤ 5
  · have z : j_z (0 ≤ r ∧ r ≤ 5) = j_k 1 := if_pos x
    rw [z] at a1
    obtain ⟨r1, r2⟩ := x
    have r3 : r < 6 := by omega
    have hr := (hx.2.1 r r1 r3).1
    have br := hx.1.2.2.2.1 r r1 r3
    have br1 := br.1
    have br2 := br.2
    by_cases y : a_rz A r = -1
    · rw [show p_at1 r i A = p_meets 1 A from by unfold p_at1; rw [place_m ⟨r1, r3⟩ y]; exact if_neg (show ¬ (-3 : Int) = 0 by decide)]
      obtain ⟨I', e1, e2, e3⟩ := n_meets (L := L) (p := p) (d := d + 1) hx (q := 1) (by decide) (by decide)
      simp (disch := first | assumption | omega) only [k_add, k_sub, k_mul, k_lt, k_eq, k_lt0, k_0lt, k_eq0, k_nat, k_b0, k_b1, k_z1, k_z0, k_o1, k_o0, Int.reduceEq, Int.reduceLT, Int.reduceLE, Int.reduceAdd, Int.reduceMul, Int.reduceNeg, Bool.false_eq_true, or_true, true_or, or_false, false_or, and_true, true_and, and_false, false_and, not_true_eq_false, not_false_eq_true, ↓reduceIte, z_0, z_k, s_I, s_J, s_uI, s_uJ, ↓jc1 a1, ↓c_gP_87_5, ↓c_ia_89, hr, y, ↓c_oc_87, ↓jc1 e1] at e
      exact .meets e2 e3 e
    · have y2 : ¬ a_rz A r < 0 := by omega
      have a2 := n_in (L := L) (p := p) (d := d + 1) (I := I) (J := J) (v := i) (lo := 0) (hi := a_rz A r - 1) h3 h4 (by decide) (by decide) (by omega) (by omega)
      by_cases w : 0 ≤ i ∧ i ≤ a_rz A r - 1
      · have z2 : j_z (0 ≤ i ∧ i ≤ a_rz A r - 1) = j_k 1 := if_pos w
        rw [z2] at a2
        obtain ⟨w1, w2⟩ := w
        have i60 : i < 60 := by omega
        have a3 := n_rowAt (L := L) (p := p) (d := d + 1) hx r1 r3 w1 i60
        have a4 := n_tells (L := L) (p := p) (d := d + 1) (I := I) (J := J) (v := a_rv A r i) (x := j_k 1)
        rw [show p_at1 r i A = (1, A_told A (a_rv A r i)) from by unfold p_at1; rw [place_ok ⟨r1, r3⟩ y ⟨w1, by omega⟩]; exact if_pos rfl]
        simp (disch := first | assumption | omega) only [k_add, k_sub, k_mul, k_lt, k_eq, k_lt0, k_0lt, k_eq0, k_nat, k_b0, k_b1, k_z1, k_z0, k_o1, k_o0, Int.reduceEq, Int.reduceLT, Int.reduceLE, Int.reduceAdd, Int.reduceMul, Int.reduceNeg, Bool.false_eq_true, or_true, true_or, or_false, false_or, and_true, true_and, and_false, false_and, not_true_eq_false, not_false_eq_true, ↓reduceIte, z_0, z_k, s_I, s_J, s_uI, s_uJ, ↓jc1 a1, ↓c_gP_87_5, ↓c_ia_89, hr, y2, ↓jc1 a2, ↓c_oc_87, ↓jc1 a3, ↓jc1 a4] at e
        exact .of ⟨_, e, hx.told, fr_told⟩
      · have z2 : j_z (0 ≤ i ∧ i ≤ a_rz A r - 1) = j_k 0 := if_neg w
        rw [z2] at a2
        rw [show p_at1 r i A = p_meets 2 A from by unfold p_at1; rw [place_b ⟨r1, r3⟩ y (by omega)]; exact if_neg (show ¬ (-3 : Int) = 0 by decide)]
        obtain ⟨I', e1, e2, e3⟩ := n_meets (L := L) (p := p) (d := d + 1) hx (q := 2) (by decide) (by decide)
        simp (disch := first | assumption | omega) only [k_add, k_sub, k_mul, k_lt, k_eq, k_lt0, k_0lt, k_eq0, k_nat, k_b0, k_b1, k_z1, k_z0, k_o1, k_o0, Int.reduceEq, Int.reduceLT, Int.reduceLE, Int.reduceAdd, Int.reduceMul, Int.reduceNeg, Bool.false_eq_true, or_true, true_or, or_false, false_or, and_true, true_and, and_false, false_and, not_true_eq_false, not_false_eq_true, ↓reduceIte, z_0, z_k, s_I, s_J, s_uI, s_uJ, ↓jc1 a1, ↓c_gP_87_5, ↓c_ia_89, hr, y2, ↓jc1 a2, ↓c_oc_87, ↓jc1 e1] at e
        exact .meets e2 e3 e
  · have z : j_z (0 ≤ r ∧ r ≤ 5) = j_k 0 := if_neg x
    rw [z] at a1
    rw [show p_at1 r i A = (-1, A) from by unfold p_at1; rw [place_no (by omega)]; exact if_neg (show ¬ (-1 : Int) = 0 by decide)]
    simp (disch := first | assumption | omega) only [k_add, k_sub, k_mul, k_lt, k_eq, k_lt0, k_0lt, k_eq0, k_nat, k_b0, k_b1, k_z1, k_z0, k_o1, k_o0, Int.reduceEq, Int.reduceLT, Int.reduceLE, Int.reduceAdd, Int.reduceMul, Int.reduceNeg, Bool.false_eq_true, or_true, true_or, or_false, false_or, and_true, true_and, and_false, false_and, not_true_eq_false, not_false_eq_true, ↓reduceIte, z_0, z_k, s_I, s_J, s_uI, s_uJ, ↓jc1 a1] at e
    exact .no hx e
theorem n_tear (hx : iM I J A) {r : Int} (h1 : -2147483648 ≤ r) (h2 : r < 2147483648) : mc L p I J (d + 3) 144 [.ref 87, .int (j_k r)] (p_tear r A) := by
  have a1 := n_isRow (L := L) (p := p) (d := d) (I := I) (J := J) h1 h2
  have e := (r_144 (d + 2) (ST L p I J) 87 (j_k r)).trans (t_144_0 _ _ _ _ _)
  by_cases x : 0 ≤ r ∧ r ≤ 5
  · have z : j_z (0 ≤ r ∧ r ≤ 5) = j_k 1 := if_pos x
    rw [z] at a1
    obtain ⟨r1, r2⟩ := x
    have r3 : r < 6 := by omega
    have hr := (hx.2.1 r r1 r3).1
    have br := hx.1.2.2.2.1 r r1 r3
    have br1 := br.1
    have br2 := br.2
    by_cases y : a_rz A r = -1
    · rw [show p_tear r A = p_meets 1 A from by unfold p_tear; rw [miss_m ⟨r1, r3⟩ y]; exact if_neg (show ¬ (-3 : Int) = 0 by decide)]
      obtain ⟨I', e1, e2, e3⟩ := n_meets (L := L) (p := p) (d := d + 1) hx (q := 1) (by decide) (by decide)
      simp (disch := first | assumption | omega) only [k_add, k_sub, k_mul, k_lt, k_eq, k_lt0, k_0lt, k_eq0, k_nat, k_b0, k_b1, k_z1, k_z0, k_o1, k_o0, Int.reduceEq, Int.reduceLT, Int.reduceLE, Int.reduceAdd, Int.reduceMul, Int.reduceNeg, Bool.false_eq_true, or_true, true_or, or_false, false_or, and_true, true_and, and_false, false_and, not_true_eq_false, not_false_eq_true, ↓reduceIte, z_0, z_k, s_I, s_J, s_uI, s_uJ, ↓jc1 a1, ↓c_gP_87_5, ↓c_ia_89, hr, y, ↓c_oc_87, ↓jc1 e1] at e
      exact .meets e2 e3 e
    · have y2 : ¬ a_rz A r < 0 := by omega
      rw [show p_tear r A = (1, A_rz A (f2 (a_rz A) r (-1))) from by unfold p_tear; rw [miss_ok ⟨r1, r3⟩ y]; exact if_pos rfl]
      simp (disch := first | assumption | omega) only [k_add, k_sub, k_mul, k_lt, k_eq, k_lt0, k_0lt, k_eq0, k_nat, k_b0, k_b1, k_z1, k_z0, k_o1, k_o0, Int.reduceEq, Int.reduceLT, Int.reduceLE, Int.reduceAdd, Int.reduceMul, Int.reduceNeg, Bool.false_eq_true, or_true, true_or, or_false, false_or, and_true, true_and, and_false, false_and, not_true_eq_false, not_false_eq_true, ↓reduceIte, z_0, z_k, s_I, s_J, s_uI, s_uJ, ↓jc1 a1, ↓c_gP_87_5, ↓c_ia_89, ↓c_is_89, hr, y2] at e
      refine .of ⟨_, e, hx.rows (rv := a_rv A) (rz := f2 (a_rz A) r (-1)) (v := a_told A) (fun q a b c _ => ?_) (fun k a => ?_) ?_ (fun s s1 s2 => ⟨?_, fun k k1 k2 => ?_⟩) (fun s s1 s2 => ?_), fun q hq => ?_⟩
      · funext m
        rw [u2_r b]
      · rw [u2_r (by decide)]
      · rw [u2_r (by decide)]
        exact hx.2.2.2.2.2.2.1
      · unfold f2
        by_cases c : s = r
        · subst c
          rw [u2_ss, if_pos rfl]
        · rw [u2_k (by omega), if_neg c]
          exact (hx.2.1 s s1 s2).1
      · rw [u2_r (by decide)]
        exact (hx.2.1 s s1 s2).2 k k1 k2
      · unfold f2
        by_cases c : s = r
        · rw [if_pos c]
          omega
        · rw [if_neg c]
          exact hx.1.2.2.2.1 s s1 s2
      · funext m
        rw [u2_r (by omega)]
  · have z : j_z (0 ≤ r ∧ r ≤ 5) = j_k 0 := if_neg x
    rw [z] at a1
    rw [show p_tear r A = (-1, A) from by unfold p_tear; rw [miss_no (by omega)]; exact if_neg (show ¬ (-1 : Int) = 0 by decide)]
    simp (disch := first | assumption | omega) only [k_add, k_sub, k_mul, k_lt, k_eq, k_lt0, k_0lt, k_eq0, k_nat, k_b0, k_b1, k_z1, k_z0, k_o1, k_o0, Int.reduceEq, Int.reduceLT, Int.reduceLE, Int.reduceAdd, Int.reduceMul, Int.reduceNeg, Bool.false_eq_true, or_true, true_or, or_false, false_or, and_true, true_and, and_false, false_and, not_true_eq_false, not_false_eq_true, ↓reduceIte, z_0, z_k, s_I, s_J, s_uI, s_uJ, ↓jc1 a1] at e
    exact .no hx e
end MROWS
