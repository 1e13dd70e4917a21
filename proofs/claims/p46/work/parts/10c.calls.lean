/-! ===== the class's calls: row, lay, at, tear, text, put ===== -/
section CALLS1
variable {L p d : Nat} {J : Nat → Nat → Int64} {I I' : Nat → Nat → Int32} {A : Ast} {K : Option Rr} {r i : Int}
theorem sh_row (r1 : 0 ≤ r) (r2 : r < 6) : SH L (3 + 1 * r.toNat) = some (.inr (.int, 60)) := by
  rcases (show r = 0 ∨ r = 1 ∨ r = 2 ∨ r = 3 ∨ r = 4 ∨ r = 5 by omega) with rfl | rfl | rfl | rfl | rfl | rfl <;> rfl
theorem sh_txt (r1 : 0 ≤ r) (r2 : r < 4) : SH L (12 + 1 * r.toNat) = some (.inr (.int, 80)) := by
  rcases (show r = 0 ∨ r = 1 ∨ r = 2 ∨ r = 3 by omega) with rfl | rfl | rfl | rfl <;> rfl
theorem ia_row (r1 : 0 ≤ r) (r2 : r < 6) (h1 : 0 ≤ i) (h2 : i < 60) : j_ia (ST L p I J) (3 + 1 * r.toNat) (j_k i) K = K := q_ia (σ := ST L p I J) (n := 60) (sh_row r1 r2) (by decide) h1 h2
theorem is_row (r1 : 0 ≤ r) (r2 : r < 6) (h1 : 0 ≤ i) (h2 : i < 60) : j_is (ST L p I J) (3 + 1 * r.toNat) (j_k i) K = K := q_is (σ := ST L p I J) (n := 60) (sh_row r1 r2) (by omega) (by decide) h1 h2
theorem ia_txt (r1 : 0 ≤ r) (r2 : r < 4) (h1 : 0 ≤ i) (h2 : i < 80) : j_ia (ST L p I J) (12 + 1 * r.toNat) (j_k i) K = K := q_ia (σ := ST L p I J) (n := 80) (sh_txt r1 r2) (by decide) h1 h2
theorem is_txt (r1 : 0 ≤ r) (r2 : r < 4) (h1 : 0 ≤ i) (h2 : i < 80) : j_is (ST L p I J) (12 + 1 * r.toNat) (j_k i) K = K := q_is (σ := ST L p I J) (n := 80) (sh_txt r1 r2) (by omega) (by decide) h1 h2
/-- only rows are written, and 'told' -/
theorem iX.rows (hx : iX I J A) (h : ∀ q, q ≠ 0 → (q < 3 ∨ 9 < q) → I' q = I q) (h0 : ∀ k, k ≠ 13 → I' 0 k = I 0 k) {rz : Int → Int} {rv : Int → Int → Int32} {v : Int32} (hv : I' 0 13 = v) (hr : xR I' rz rv) (hb : ∀ r, 0 ≤ r → r < 6 → -1 ≤ rz r ∧ rz r ≤ 60) : iX I' J (A_told (A_rv (A_rz A rz) rv) v) := by
  obtain ⟨x1, x2, x3, x4, x5, x6, x7, x8, x9, x10⟩ := hx
  refine ⟨⟨x1.1, x1.2.1, x1.2.2.1, hb, x1.2.2.2.2⟩, hr, x3.cg (fun r a b => h r (by omega) (by omega)), x4.cg (fun r a b => h r (by omega) (by omega)), x5.cg (fun r a b => h r (by omega) (by omega)), x6.cg (h0 11 (by decide)) (fun r a b => h r (by omega) (by omega)), ?_, ⟨hv, x8.2.1, x8.2.2.1, ?_, fun q q1 q2 => ?_⟩, x9.cg (h _ (by decide) (Or.inr (by decide))) (h _ (by decide) (Or.inr (by decide))), x10.cg (h _ (by decide) (Or.inr (by decide))) (h _ (by decide) (Or.inr (by decide)))⟩
  · unfold xK2
    rw [h0 11 (by decide)]
    exact x7
  · rw [h0 12 (by decide)]
    exact x8.2.2.2.1
  · rw [h 86 (by decide) (by decide)]
    exact x8.2.2.2.2 q q1 q2
theorem iX.texts (hx : iX I J A) (h : ∀ q, (q < 12 ∨ 16 < q) → I' q = I q) {tz : Int → Int} {tv : Int → Int → Int} (hr : xT I' tz tv) (hb : ∀ r, 0 ≤ r → r < 4 → -1 ≤ tz r ∧ tz r ≤ 80) (hb2 : ∀ t i, 0 ≤ t → t < 4 → 0 ≤ i → i < 80 → -128 ≤ tv t i ∧ tv t i ≤ 127) : iX I' J (A_tv (A_tz A tz) tv) := by
  obtain ⟨x1, x2, x3, x4, x5, x6, x7, x8, x9, x10⟩ := hx
  refine ⟨⟨x1.1, x1.2.1, x1.2.2.1, x1.2.2.2.1, hb, hb2⟩, x2.cg (fun r a b => h r (by omega)), hr, x4.cg (fun r a b => h r (by omega)), x5.cg (fun r a b => h r (by omega)), x6.cg (by rw [h 0 (by decide)]) (fun r a b => h r (by omega)), ?_, ⟨?_, x8.2.1, x8.2.2.1, ?_, fun q q1 q2 => ?_⟩, x9.cg (h _ (Or.inr (by decide))) (h _ (Or.inr (by decide))), x10.cg (h _ (Or.inr (by decide))) (h _ (Or.inr (by decide)))⟩
  · unfold xK2
    rw [h 0 (by decide)]
    exact x7
  · rw [h 0 (by decide)]
    exact x8.1
  · rw [h 0 (by decide)]
    exact x8.2.2.2.1
  · rw [h 86 (by decide)]
    exact x8.2.2.2.2 q q1 q2
theorem xc.of {m : Nat} {as : List Value} {r : Int × Ast} (h : ∃ I', j_run d m as (ST L p I J) = some (some (.int (j_k r.1)), ST L p I' J) ∧ iX I' J r.2 ∧ (∀ q, 87 ≤ q → I' q = I q)) : xc L p I J d m as r := by
  obtain ⟨I', e1, e2, e3⟩ := h
  exact ⟨p, I', J, e1, e2, e3, fun _ _ => rfl⟩
theorem x_text (hx : iX I J A) {r n : Int} (h1 : -2147483648 ≤ r) (h2 : r < 2147483648) (h3 : -2147483648 ≤ n) (h4 : n < 2147483648) : xc L p I J (d + 5) 75 [.ref 0, .int (j_k r), .int (j_k n)] (p_text r n A) := by
  obtain ⟨I', q1, q2, q3, q4⟩ := x_make10 (L := L) (p := p) (d := d) (v := j_k 32) hx h1 h2 h3 h4
  have hm : j_run (d + 5) 75 [.ref 0, .int (j_k r), .int (j_k n)] (ST L p I J) = some (some (.int (j_k (if (0 ≤ r ∧ r < 4) ∧ n ≤ 80 then (if n < 0 then -3 else n) else -1))), ST L p I' J) := by
    rw [r_75, t_75_0]
    simp (disch := first | assumption | omega) only [k_add, k_sub, k_mul, k_lt, k_eq, k_lt0, k_0lt, k_eq0, k_nat, k_b0, k_b1, k_z1, k_z0, k_o1, k_o0, Int.reduceEq, Int.reduceLT, Int.reduceLE, Int.reduceAdd, Int.reduceMul, Int.reduceNeg, Bool.false_eq_true, or_true, true_or, or_false, false_or, and_true, true_and, and_false, false_and, not_true_eq_false, not_false_eq_true, ↓reduceIte, z_0, z_k, s_I, s_J, s_uI, s_uJ, c_gP_0_1, c_oc_0, jc1 q1]
  unfold p_text
  by_cases c : (0 ≤ r ∧ r < 4) ∧ n ≤ 80
  · rw [if_pos c] at hm ⊢
    by_cases c2 : n < 0
    · rw [if_pos c2] at hm ⊢
      exact .of ⟨I', hm, (q3 c c2).1, fun q hq => (q3 c c2).2 q (by omega) (by omega) ⟩
    · rw [if_neg c2] at hm ⊢
      have e := q4 c (by omega)
      obtain ⟨⟨r1, r2⟩, c3⟩ := c
      refine .of ⟨I', hm, ?_, fun q hq => ?_⟩
      · refine hx.texts (tz := f2 (a_tz A) r n) (tv := f2 (a_tv A) r (fun _ => 32)) (fun q z1 => ?_) (fun s s1 s2 => ?_) (fun s s1 s2 => ?_) (fun s i s1 s2 i1 i2 => ?_)
        · rw [e]
          funext k
          rw [u2_r (by omega), u1_ne (by omega)]
        · rw [e]
          unfold f2
          by_cases z : s = r
          · subst z
            refine ⟨by rw [u2_ss, if_pos rfl], fun i i1 i2 => ?_⟩
            rw [u2_r (by omega), u1_same, if_pos rfl]
            exact if_pos (by omega)
          · rw [if_neg z, if_neg z, u2_k (by omega), u1_ne (by omega)]
            refine ⟨(hx.2.2.1 s s1 s2).1, fun i i1 i2 => ?_⟩
            rw [u2_r (by omega), u1_ne (by omega)]
            exact (hx.2.2.1 s s1 s2).2 i i1 i2
        · unfold f2
          by_cases z : s = r
          · rw [if_pos z]; omega
          · rw [if_neg z]; exact hx.1.2.2.2.2.1 s s1 s2
        · unfold f2
          by_cases z : s = r
          · rw [if_pos z]; omega
          · rw [if_neg z]; exact hx.1.2.2.2.2.2 s i s1 s2 i1 i2
      · rw [e]
        funext k
        rw [u2_r (by omega), u1_ne (by omega)]
  · rw [if_neg c] at hm ⊢
    have e := q2 c
    subst e
    exact .of ⟨I', hm, hx, fun _ _ => rfl⟩
theorem x_at (hx : iX I J A) {r i : Int} (h1 : -2147483648 ≤ r) (h2 : r < 2147483648) (h3 : -2147483648 ≤ i) (h4 : i < 2147483648) : xc L p I J (d + 4) 71 [.ref 0, .int (j_k r), .int (j_k i)] (p_at1 r i A) := by
  obtain ⟨I1, q1, q2, q3, q4⟩ := x_place1 (L := L) (p := p) (d := d) hx h1 h2 h3 h4
  have e := (r_71 (d + 3) (ST L p I J) 0 (j_k r) (j_k i)).trans (t_71_0 _ _ _ _ _ _)
  unfold p_at1
  by_cases c : (p_place 6 (a_rz A) r i A).1 = 0
  · rw [if_pos c]
    obtain ⟨⟨r1, r2⟩, i1, i2⟩ := place_0 c
    rw [c, q4 c] at q1
    have hb := (hx.1.2.2.2.1 r r1 r2).2
    have hv := (hx.2.1 r r1 r2).2 i i1 (by omega)
    simp (disch := first | assumption | omega) only [k_add, k_sub, k_mul, k_lt, k_eq, k_lt0, k_0lt, k_eq0, k_nat, k_b0, k_b1, k_z1, k_z0, k_o1, k_o0, Int.reduceEq, Int.reduceLT, Int.reduceLE, Int.reduceAdd, Int.reduceMul, Int.reduceNeg, Bool.false_eq_true, or_true, true_or, or_false, false_or, and_true, true_and, and_false, false_and, not_true_eq_false, not_false_eq_true, ↓reduceIte, z_0, z_k, s_I, s_J, s_uI, s_uJ, c_gP_0_0, c_oc_0, jc1 q1, c_gP_1_0, c_qa_2, ia_row, c_lt_0, hv] at e
    refine .of ⟨_, e, hx.tell (fun q z1 z2 => ?_) (fun k hk => ?_) ?_, fun q hq => ?_⟩
    · funext k
      rw [u2_r (by omega)]
    · rw [u2_k hk]
    · rw [u2_ss]
    · funext k
      rw [u2_r (by omega)]
  · rw [if_neg c]
    have c5 := place_rg (C := 6) (z := a_rz A) (r := r) (i := i) (A := A)
    simp (disch := first | assumption | omega) only [k_add, k_sub, k_mul, k_lt, k_eq, k_lt0, k_0lt, k_eq0, k_nat, k_b0, k_b1, k_z1, k_z0, k_o1, k_o0, Int.reduceEq, Int.reduceLT, Int.reduceLE, Int.reduceAdd, Int.reduceMul, Int.reduceNeg, Bool.false_eq_true, or_true, true_or, or_false, false_or, and_true, true_and, and_false, false_and, not_true_eq_false, not_false_eq_true, ↓reduceIte, z_0, z_k, s_I, s_J, s_uI, s_uJ, c_gP_0_0, c_oc_0, jc1 q1, c] at e
    exact .of ⟨_, e, q2, fun q hq => q3 q (by omega) (by omega)⟩
theorem x_tear (hx : iX I J A) {r : Int} (h1 : -2147483648 ≤ r) (h2 : r < 2147483648) : xc L p I J (d + 3) 72 [.ref 0, .int (j_k r)] (p_tear r A) := by
  obtain ⟨I1, q1, q2, q3, q4⟩ := x_miss1 (L := L) (p := p) (d := d) hx h1 h2
  have e := (r_72 (d + 2) (ST L p I J) 0 (j_k r)).trans (t_72_0 _ _ _ _ _)
  unfold p_tear
  by_cases c : (p_miss 6 (a_rz A) r A).1 = 0
  · rw [if_pos c]
    obtain ⟨⟨r1, r2⟩, m2⟩ := miss_0 c
    rw [c, q4 c] at q1
    have hz := hx.2.1
    simp (disch := first | assumption | omega) only [k_add, k_sub, k_mul, k_lt, k_eq, k_lt0, k_0lt, k_eq0, k_nat, k_b0, k_b1, k_z1, k_z0, k_o1, k_o0, Int.reduceEq, Int.reduceLT, Int.reduceLE, Int.reduceAdd, Int.reduceMul, Int.reduceNeg, Bool.false_eq_true, or_true, true_or, or_false, false_or, and_true, true_and, and_false, false_and, not_true_eq_false, not_false_eq_true, ↓reduceIte, z_0, z_k, s_I, s_J, s_uI, s_uJ, c_gP_0_0, c_oc_0, jc1 q1, c_gP_1_1, c_is_9] at e
    refine .of ⟨_, e, ?_, fun q hq => ?_⟩
    · refine hx.rows (rz := f2 (a_rz A) r (-1)) (rv := a_rv A) (v := a_told A) (fun q z1 z2 => ?_) (fun k hk => ?_) ?_ (fun s s1 s2 => ?_) (fun s s1 s2 => ?_)
      · funext k
        rw [u2_r (by omega)]
      · rw [u2_r (by omega)]
      · rw [u2_r (by omega)]
        exact hx.2.2.2.2.2.2.2.1.1
      · unfold f2
        refine ⟨?_, fun j j1 j2 => by rw [u2_r (by omega)]; exact (hz s s1 s2).2 j j1 j2⟩
        by_cases z : s = r
        · subst z
          rw [u2_ss, if_pos rfl]
        · rw [u2_k (by omega), if_neg z]
          exact (hz s s1 s2).1
      · unfold f2
        by_cases z : s = r
        · rw [if_pos z]; omega
        · rw [if_neg z]; exact hx.1.2.2.2.1 s s1 s2
    · funext k
      rw [u2_r (by omega)]
  · rw [if_neg c]
    have c5 := miss_rg (C := 6) (z := a_rz A) (r := r) (A := A)
    simp (disch := first | assumption | omega) only [k_add, k_sub, k_mul, k_lt, k_eq, k_lt0, k_0lt, k_eq0, k_nat, k_b0, k_b1, k_z1, k_z0, k_o1, k_o0, Int.reduceEq, Int.reduceLT, Int.reduceLE, Int.reduceAdd, Int.reduceMul, Int.reduceNeg, Bool.false_eq_true, or_true, true_or, or_false, false_or, and_true, true_and, and_false, false_and, not_true_eq_false, not_false_eq_true, ↓reduceIte, z_0, z_k, s_I, s_J, s_uI, s_uJ, c_gP_0_0, c_oc_0, jc1 q1, c] at e
    exact .of ⟨_, e, q2, fun q hq => q3 q (by omega) (by omega)⟩
theorem x_put (hx : iX I J A) {r i : Int} {v : Int32} (h1 : -2147483648 ≤ r) (h2 : r < 2147483648) (h3 : -2147483648 ≤ i) (h4 : i < 2147483648) : xc L p I J (d + 4) 76 [.ref 0, .int (j_k r), .int (j_k i), .int v] (p_put r i v A) := by
  obtain ⟨I1, q1, q2, q3, q4⟩ := x_place10 (L := L) (p := p) (d := d) hx h1 h2 h3 h4
  have e := (r_76 (d + 3) (ST L p I J) 0 (j_k r) (j_k i) v).trans (t_76_0 _ _ _ _ _ _ _)
  unfold p_put
  by_cases c : (p_place 4 (a_tz A) r i A).1 = 0
  · rw [if_pos c]
    obtain ⟨⟨r1, r2⟩, i1, i2⟩ := place_0 c
    rw [c, q4 c] at q1
    have hb := (hx.1.2.2.2.2.1 r r1 r2).2
    have hz := hx.2.2.1
    have hv := (hz r r1 r2).2 i i1 (by omega)
    have hvb := hx.1.2.2.2.2.2 r i r1 r2 i1 (by omega)
    have hy : v.toInt8.toInt32 = j_k (p_byte v) := (Int32.ofInt_toInt _).symm
    simp (disch := first | assumption | omega) only [k_add, k_sub, k_mul, k_lt, k_eq, k_lt0, k_0lt, k_eq0, k_nat, k_b0, k_b1, k_z1, k_z0, k_o1, k_o0, Int.reduceEq, Int.reduceLT, Int.reduceLE, Int.reduceAdd, Int.reduceMul, Int.reduceNeg, Bool.false_eq_true, or_true, true_or, or_false, false_or, and_true, true_and, and_false, false_and, not_true_eq_false, not_false_eq_true, ↓reduceIte, z_0, z_k, s_I, s_J, s_uI, s_uJ, c_gP_0_1, c_oc_0, jc1 q1, c_gP_10_0, c_qa_11, ia_txt, is_txt, hv, hy] at e
    refine .of ⟨_, e, ?_, fun q hq => ?_⟩
    · refine hx.texts (tz := a_tz A) (tv := f2 (a_tv A) r (f2 (a_tv A r) i (p_byte v))) (fun q z1 => ?_) (fun s s1 s2 => ?_) hx.1.2.2.2.2.1 (fun s j s1 s2 j1 j2 => ?_)
      · funext k
        rw [u2_r (by omega)]
      · rw [u2_r (by omega)]
        refine ⟨(hz s s1 s2).1, fun j j1 j2 => ?_⟩
        unfold f2
        by_cases z : s = r
        · subst z
          rw [if_pos rfl]
          by_cases z2 : j = i
          · subst z2
            rw [u2_ss, if_pos rfl]
          · rw [u2_k (by omega), if_neg z2]
            exact (hz s s1 s2).2 j j1 j2
        · rw [if_neg z, u2_r (by omega)]
          exact (hz s s1 s2).2 j j1 j2
      · unfold f2
        by_cases z : s = r
        · subst z
          rw [if_pos rfl]
          by_cases z2 : j = i
          · rw [if_pos z2]; exact byte_rg v
          · rw [if_neg z2]; exact hx.1.2.2.2.2.2 s j s1 s2 j1 j2
        · rw [if_neg z]; exact hx.1.2.2.2.2.2 s j s1 s2 j1 j2
    · funext k
      rw [u2_r (by omega)]
  · rw [if_neg c]
    have c5 := place_rg (C := 4) (z := a_tz A) (r := r) (i := i) (A := A)
    simp (disch := first | assumption | omega) only [k_add, k_sub, k_mul, k_lt, k_eq, k_lt0, k_0lt, k_eq0, k_nat, k_b0, k_b1, k_z1, k_z0, k_o1, k_o0, Int.reduceEq, Int.reduceLT, Int.reduceLE, Int.reduceAdd, Int.reduceMul, Int.reduceNeg, Bool.false_eq_true, or_true, true_or, or_false, false_or, and_true, true_and, and_false, false_and, not_true_eq_false, not_false_eq_true, ↓reduceIte, z_0, z_k, s_I, s_J, s_uI, s_uJ, c_gP_0_1, c_oc_0, jc1 q1, c] at e
    exact .of ⟨_, e, q2, fun q hq => q3 q (by omega) (by omega)⟩
end CALLS1
