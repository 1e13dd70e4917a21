/-! ===== the model: what its cells say; small methods ===== -/
/-- a flock's row of the model: places 0..4, cells, what they went -/
def iM1 (I : Nat → Nat → Int32) (k n : Int) (f : Fl) : Prop := (∀ j : Int, 0 ≤ j → j < 5 → I 99 (13 * k + j).toNat = j_k (f j)) ∧ (∀ i : Int, 0 ≤ i → i < n → I 99 (13 * k + (5 + i)).toNat = j_k (f (5 + i))) ∧ (∀ i : Int, 0 ≤ i → i < n → I 99 (13 * k + (9 + i)).toNat = j_k (f (9 + i)))
section MODEL1
variable {L p d : Nat} {I : Nat → Nat → Int32} {J : Nat → Nat → Int64} {n : Int} {f : Fl}
theorem n_in {v lo hi : Int} (h1 : -2147483648 ≤ v) (h2 : v < 2147483648) (h3 : -2147483648 ≤ lo) (h4 : lo < 2147483648) (h5 : -2147483648 ≤ hi) (h6 : hi < 2147483648) : j_run (d + 1) 127 [.int (j_k v), .int (j_k lo), .int (j_k hi)] (ST L p I J) = some (some (.int (j_z (lo ≤ v ∧ v ≤ hi))), ST L p I J) := by
  rw [r_127, t_127_0]
  simp (disch := first | assumption | omega) only [k_add, k_sub, k_mul, k_lt, k_eq, k_lt0, k_0lt, k_eq0, k_nat, k_b0, k_b1, k_z1, k_z0, k_o1, k_o0, Int.reduceEq, Int.reduceLT, Int.reduceLE, Int.reduceAdd, Int.reduceMul, Int.reduceNeg, Bool.false_eq_true, or_true, true_or, or_false, false_or, and_true, true_and, and_false, false_and, not_true_eq_false, not_false_eq_true, ↓reduceIte, z_0, z_k, s_I, s_J, s_uI, s_uJ]
  unfold j_z
  ((repeat' split) <;> first | rfl | (exfalso; omega))
theorem n_v {k j : Int} (k1 : 0 ≤ k) (k2 : k < 9) (j1 : 0 ≤ j) (j2 : j < 13) : j_run (d + 1) 162 [.ref 87, .int (j_k k), .int (j_k j)] (ST L p I J) = some (some (.int (I 99 (13 * k + j).toNat)), ST L p I J) := by
  rw [r_162, t_162_0]
  simp (disch := first | assumption | omega) only [k_add, k_sub, k_mul, k_lt, k_eq, k_lt0, k_0lt, k_eq0, k_nat, k_b0, k_b1, k_z1, k_z0, k_o1, k_o0, Int.reduceEq, Int.reduceLT, Int.reduceLE, Int.reduceAdd, Int.reduceMul, Int.reduceNeg, Bool.false_eq_true, or_true, true_or, or_false, false_or, and_true, true_and, and_false, false_and, not_true_eq_false, not_false_eq_true, ↓reduceIte, z_0, z_k, s_I, s_J, s_uI, s_uJ, ↓c_gP_87_24, ↓c_ia_99]
theorem n_place {k j : Int} {v : Int32} (k1 : 0 ≤ k) (k2 : k < 9) (j1 : 0 ≤ j) (j2 : j < 13) : j_run (d + 1) 163 [.ref 87, .int (j_k k), .int (j_k j), .int v] (ST L p I J) = some (none, ST L p (u2 I 99 (13 * k + j).toNat v) J) := by
  rw [r_163, t_163_0]
  simp (disch := first | assumption | omega) only [k_add, k_sub, k_mul, k_lt, k_eq, k_lt0, k_0lt, k_eq0, k_nat, k_b0, k_b1, k_z1, k_z0, k_o1, k_o0, Int.reduceEq, Int.reduceLT, Int.reduceLE, Int.reduceAdd, Int.reduceMul, Int.reduceNeg, Bool.false_eq_true, or_true, true_or, or_false, false_or, and_true, true_and, and_false, false_and, not_true_eq_false, not_false_eq_true, ↓reduceIte, z_0, z_k, s_I, s_J, s_uI, s_uJ, ↓c_gP_87_24, ↓c_is_99]
theorem jz_ok (P : Prop) [Decidable P] : (j_z P = 0 ∨ j_z P = 1) = True := by
  unfold j_z
  split
  · exact eq_true (Or.inr rfl)
  · exact eq_true (Or.inl rfl)
theorem n_isRow {r : Int} (h1 : -2147483648 ≤ r) (h2 : r < 2147483648) : j_run (d + 2) 139 [.int (j_k r)] (ST L p I J) = some (some (.int (j_z (0 ≤ r ∧ r ≤ 5))), ST L p I J) := by
  have q := n_in (L := L) (p := p) (d := d) (I := I) (J := J) (lo := 0) (hi := 5) h1 h2 (by decide) (by decide) (by decide) (by decide)
  rw [r_139, t_139_0, jc1 q]
  simp only [jz_ok, ↓reduceIte]
theorem n_isText {r : Int} (h1 : -2147483648 ≤ r) (h2 : r < 2147483648) : j_run (d + 2) 147 [.int (j_k r)] (ST L p I J) = some (some (.int (j_z (0 ≤ r ∧ r ≤ 3))), ST L p I J) := by
  have q := n_in (L := L) (p := p) (d := d) (I := I) (J := J) (lo := 0) (hi := 3) h1 h2 (by decide) (by decide) (by decide) (by decide)
  rw [r_147, t_147_0, jc1 q]
  simp only [jz_ok, ↓reduceIte]
theorem n_isCell {N c : Int} (hN : I 87 11 = j_k N) (n1 : 0 ≤ N) (n2 : N ≤ 30) (h1 : -2147483648 ≤ c) (h2 : c < 2147483648) : j_run (d + 2) 160 [.ref 87, .int (j_k c)] (ST L p I J) = some (some (.int (j_z (0 ≤ c ∧ c ≤ N - 1))), ST L p I J) := by
  have q := n_in (L := L) (p := p) (d := d) (I := I) (J := J) (lo := 0) (hi := N - 1) h1 h2 (by decide) (by decide) (by omega) (by omega)
  rw [r_160, t_160_0]
  rw [c_oc_87, show s_I (ST L p I J) 87 11 = j_k N from hN, k_sub, jc1 q]
  simp only [jz_ok, ↓reduceIte]
theorem n_isBeast {k : Int} (hn : I 87 13 = j_k n) (n1 : 0 ≤ n) (n2 : n ≤ 4) (h1 : -2147483648 ≤ k) (h2 : k < 2147483648) : j_run (d + 2) 161 [.ref 87, .int (j_k k)] (ST L p I J) = some (some (.int (j_z (0 ≤ k ∧ k ≤ n - 1))), ST L p I J) := by
  have q := n_in (L := L) (p := p) (d := d) (I := I) (J := J) (lo := 0) (hi := n - 1) h1 h2 (by decide) (by decide) (by omega) (by omega)
  rw [r_161, t_161_0]
  rw [c_oc_87, show s_I (ST L p I J) 87 13 = j_k n from hn, k_sub, jc1 q]
  simp only [jz_ok, ↓reduceIte]
theorem n_isLost {k i N b : Int} (k1 : 0 ≤ k) (k2 : k < 9) (hf : iM1 I k n f) (ho : okF N n b f) (hN : N ≤ 30) (i1 : 0 ≤ i) (i2 : i < n) (n4 : n ≤ 4) : j_run (d + 2) 165 [.ref 87, .int (j_k k), .int (j_k i)] (ST L p I J) = some (some (.int (j_z (f (5 + i) = -9))), ST L p I J) := by
  have q := n_v (L := L) (p := p) (d := d) (I := I) (J := J) k1 k2 (show 0 ≤ 5 + i by omega) (show 5 + i < 13 by omega)
  rw [hf.2.1 i i1 i2] at q
  have hc := ho.1 i i1 i2
  rw [r_165, t_165_0]
  simp (disch := first | assumption | omega) only [k_add, k_sub, k_mul, k_lt, k_eq, k_lt0, k_0lt, k_eq0, k_nat, k_b0, k_b1, k_z1, k_z0, k_o1, k_o0, Int.reduceEq, Int.reduceLT, Int.reduceLE, Int.reduceAdd, Int.reduceMul, Int.reduceNeg, Bool.false_eq_true, or_true, true_or, or_false, false_or, and_true, true_and, and_false, false_and, not_true_eq_false, not_false_eq_true, ↓reduceIte, z_0, z_k, s_I, s_J, s_uI, s_uJ, c_oc_87, jc1 q]
  unfold j_z
  ((repeat' split) <;> first | rfl | (exfalso; omega))
end MODEL1
