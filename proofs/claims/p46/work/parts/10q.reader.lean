/-! ===== the reader: tables, a flock cleared, one more beast; the size ===== -/
section READER2
variable {L p a d : Nat} {I : Nat → Nat → Int32} {J : Nat → Nat → Int64} {T : Int → Int} {s q n : Int} {kd f : Fl}
theorem s_place {r n : Nat} {tb : Int → Int} (hsh : SH L r = some (.inr (.int, n))) (hn : n ≤ 100) (hv : ∀ i : Int, 0 ≤ i → i < n → I r i.toNat = j_k (tb i)) (hr : ∀ i : Int, 0 ≤ i → i < n → -1000 ≤ tb i ∧ tb i ≤ 1000) {v : Int} (v1 : -1000 ≤ v) (v2 : v ≤ 1000) : j_run (d + 1) 125 [.ref r, .int (j_k v)] (ST L p I J) = some (some (.int (j_k (p_first (fun i => decide (tb i = v)) n 0))), ST L p I J) := by
  have ia : ∀ (i : Int) (K : Option Rr), 0 ≤ i → i < n → j_ia (ST L p I J) r (j_k i) K = K := fun i K h1 h2 => q_ia (σ := ST L p I J) hsh (by omega) h1 h2
  have loop : ∀ (t M : Nat) (i : Int), 0 ≤ i → i + t = n → t < M → j_exec k_125 h_125 (j_run d) M 2 [some (.ref r), some (.int (j_k v)), some (.int (j_k i))] [] (ST L p I J) = some (some (.int (j_k (p_first (fun i => decide (tb i = v)) t i))), ST L p I J) := by
    intro t
    induction t with
    | zero =>
      intro M i i1 i2 hM
      obtain ⟨M, rfl⟩ : ∃ q, M = q + 1 := ⟨M - 1, by omega⟩
      have z : ¬ j_k i < j_k (n : Int) := by rw [k_lt (by omega) (by omega) (by omega) (by omega)]; omega
      rw [x_exec, t_125_2, q_len' hsh, if_neg z]
      rfl
    | succ t ih =>
      intro M i i1 i2 hM
      obtain ⟨M, rfl⟩ : ∃ q, M = q + 1 := ⟨M - 1, by omega⟩
      have z0 : i < n := by omega
      have z : j_k i < j_k (n : Int) := by rw [k_lt (by omega) (by omega) (by omega) (by omega)]; exact z0
      have hi := hv i i1 z0
      have hj := hr i i1 z0
      rw [x_exec, t_125_2, q_len' hsh, if_pos z, ia i _ i1 z0, p_firstS]
      have hs : s_I (ST L p I J) r (j_k i).toNatClampNeg = j_k (tb i) := by
        show I r (j_k i).toNatClampNeg = _
        rw [k_nat (by omega) (by omega)]
        exact hi
      rw [hs]
      by_cases x : tb i = v
      · rw [if_pos (show j_k (tb i) = j_k v by rw [x]), if_pos (decide_eq_true x)]
      · rw [if_neg (show ¬ j_k (tb i) = j_k v by rw [k_eq (by omega) (by omega) (by omega) (by omega)]; exact x), if_neg (by rw [decide_eq_true_iff]; exact x), k_add]
        exact ih M (i + 1) (by omega) (by omega) (by omega)
  rw [r_125, t_125_0]
  exact loop n 999999 0 (Int.le_refl 0) (by omega) (by omega)
theorem s_signOf (hS : xS I) {v : Int} (v1 : -1000 ≤ v) (v2 : v ≤ 1000) : j_run (d + 1) 125 [.ref (j_b + 0), .int (j_k v)] (ST L p I J) = some (some (.int (j_k (p_sign v))), ST L p I J) := by
  obtain ⟨⟨h0, h1, h2, h3, h4⟩, -⟩ := hS
  refine s_place (r := j_b + 0) (n := 5) (tb := p_tbS) rfl (by decide) (fun i i1 i2 => ?_) (fun i i1 i2 => ?_) v1 v2
  · rcases (show i = 0 ∨ i = 1 ∨ i = 2 ∨ i = 3 ∨ i = 4 by omega) with rfl | rfl | rfl | rfl | rfl
    · exact h0
    · exact h1
    · exact h2
    · exact h3
    · exact h4
  · rcases (show i = 0 ∨ i = 1 ∨ i = 2 ∨ i = 3 ∨ i = 4 by omega) with rfl | rfl | rfl | rfl | rfl <;> decide
theorem s_lettOf (hS : xS I) {v : Int} (v1 : -1000 ≤ v) (v2 : v ≤ 1000) : j_run (d + 1) 125 [.ref (j_b + 1), .int (j_k v)] (ST L p I J) = some (some (.int (j_k (p_lett v))), ST L p I J) := by
  obtain ⟨-, h0, h1, h2, h3, h4, h5⟩ := hS
  refine s_place (r := j_b + 1) (n := 6) (tb := p_tbL) rfl (by decide) (fun i i1 i2 => ?_) (fun i i1 i2 => ?_) v1 v2
  · rcases (show i = 0 ∨ i = 1 ∨ i = 2 ∨ i = 3 ∨ i = 4 ∨ i = 5 by omega) with rfl | rfl | rfl | rfl | rfl | rfl
    · exact h0
    · exact h1
    · exact h2
    · exact h3
    · exact h4
    · exact h5
  · rcases (show i = 0 ∨ i = 1 ∨ i = 2 ∨ i = 3 ∨ i = 4 ∨ i = 5 by omega) with rfl | rfl | rfl | rfl | rfl | rfl <;> decide
/-- no beasts -/
def p_clr : Fl := fun i => if 1 ≤ i ∧ i ≤ 4 then -9 else 0
theorem s_clear (hA : FA a) : ∃ I', j_run (d + 1) 1 [.ref a] (ST L p I J) = some (none, ST L p I' J) ∧ iF I' a 0 kd p_clr ∧ fr a I I' := by
  have e := (r_1 d (ST L p I J) a).trans (t_1_0 _ _ _ _)
  simp (disch := first | assumption | omega) only [k_add, k_sub, k_mul, k_lt, k_eq, k_lt0, k_0lt, k_eq0, k_nat, k_b0, k_b1, k_z1, k_z0, k_o1, k_o0, Int.reduceEq, Int.reduceLT, Int.reduceLE, Int.reduceAdd, Int.reduceMul, Int.reduceNeg, Bool.false_eq_true, or_true, true_or, or_false, false_or, and_true, true_and, and_false, false_and, not_true_eq_false, not_false_eq_true, ↓reduceIte, z_0, z_k, s_I, s_J, s_uI, s_uJ, ↓f_oc, ↓f_gP0, ↓f_gP1, ↓f_gP2, ↓f_ia0, ↓f_ia1, ↓f_ia2, ↓f_is0, ↓f_is1, ↓f_is2, ↓f_lt] at e
  refine ⟨_, e, ⟨?_, ?_, ?_, ?_, ?_, ?_, fun k k1 k2 => absurd k2 (by omega), fun k k1 k2 => absurd k2 (by omega), fun k k1 k2 => absurd k2 (by omega), fun c c1 c2 => ?_⟩, fun r hr => ?_⟩
  · simp (disch := first | assumption | omega) only [k_add, k_sub, k_mul, k_lt, k_eq, k_lt0, k_0lt, k_eq0, k_nat, k_b0, k_b1, k_z1, k_z0, k_o1, k_o0, Int.reduceEq, Int.reduceLT, Int.reduceLE, Int.reduceAdd, Int.reduceMul, Int.reduceNeg, Bool.false_eq_true, or_true, true_or, or_false, false_or, and_true, true_and, and_false, false_and, not_true_eq_false, not_false_eq_true, ↓reduceIte, z_0, z_k, s_I, s_J, s_uI, s_uJ, u2_k, u2_ss]
  · simp (disch := first | assumption | omega) only [k_add, k_sub, k_mul, k_lt, k_eq, k_lt0, k_0lt, k_eq0, k_nat, k_b0, k_b1, k_z1, k_z0, k_o1, k_o0, Int.reduceEq, Int.reduceLT, Int.reduceLE, Int.reduceAdd, Int.reduceMul, Int.reduceNeg, Bool.false_eq_true, or_true, true_or, or_false, false_or, and_true, true_and, and_false, false_and, not_true_eq_false, not_false_eq_true, ↓reduceIte, z_0, z_k, s_I, s_J, s_uI, s_uJ, u2_k, u2_ss]
    rfl
  · simp (disch := first | assumption | omega) only [k_add, k_sub, k_mul, k_lt, k_eq, k_lt0, k_0lt, k_eq0, k_nat, k_b0, k_b1, k_z1, k_z0, k_o1, k_o0, Int.reduceEq, Int.reduceLT, Int.reduceLE, Int.reduceAdd, Int.reduceMul, Int.reduceNeg, Bool.false_eq_true, or_true, true_or, or_false, false_or, and_true, true_and, and_false, false_and, not_true_eq_false, not_false_eq_true, ↓reduceIte, z_0, z_k, s_I, s_J, s_uI, s_uJ, u2_k, u2_ss]
    rfl
  · simp (disch := first | assumption | omega) only [k_add, k_sub, k_mul, k_lt, k_eq, k_lt0, k_0lt, k_eq0, k_nat, k_b0, k_b1, k_z1, k_z0, k_o1, k_o0, Int.reduceEq, Int.reduceLT, Int.reduceLE, Int.reduceAdd, Int.reduceMul, Int.reduceNeg, Bool.false_eq_true, or_true, true_or, or_false, false_or, and_true, true_and, and_false, false_and, not_true_eq_false, not_false_eq_true, ↓reduceIte, z_0, z_k, s_I, s_J, s_uI, s_uJ, u2_k, u2_ss]
    rfl
  · simp (disch := first | assumption | omega) only [k_add, k_sub, k_mul, k_lt, k_eq, k_lt0, k_0lt, k_eq0, k_nat, k_b0, k_b1, k_z1, k_z0, k_o1, k_o0, Int.reduceEq, Int.reduceLT, Int.reduceLE, Int.reduceAdd, Int.reduceMul, Int.reduceNeg, Bool.false_eq_true, or_true, true_or, or_false, false_or, and_true, true_and, and_false, false_and, not_true_eq_false, not_false_eq_true, ↓reduceIte, z_0, z_k, s_I, s_J, s_uI, s_uJ, u2_k, u2_ss]
    rfl
  · simp (disch := first | assumption | omega) only [k_add, k_sub, k_mul, k_lt, k_eq, k_lt0, k_0lt, k_eq0, k_nat, k_b0, k_b1, k_z1, k_z0, k_o1, k_o0, Int.reduceEq, Int.reduceLT, Int.reduceLE, Int.reduceAdd, Int.reduceMul, Int.reduceNeg, Bool.false_eq_true, or_true, true_or, or_false, false_or, and_true, true_and, and_false, false_and, not_true_eq_false, not_false_eq_true, ↓reduceIte, z_0, z_k, s_I, s_J, s_uI, s_uJ, u2_k, u2_ss]
    rfl
  · rw [u2_ss]
    refine ⟨fun z => ?_, fun ⟨k, k1, k2, _⟩ => absurd k2 (by omega)⟩
    have : bt (j_k 0) c.toNat = false := b_0 _
    rw [this] at z
    exact absurd z (by decide)
  · funext k
    simp (disch := first | assumption | omega) only [k_add, k_sub, k_mul, k_lt, k_eq, k_lt0, k_0lt, k_eq0, k_nat, k_b0, k_b1, k_z1, k_z0, k_o1, k_o0, Int.reduceEq, Int.reduceLT, Int.reduceLE, Int.reduceAdd, Int.reduceMul, Int.reduceNeg, Bool.false_eq_true, or_true, true_or, or_false, false_or, and_true, true_and, and_false, false_and, not_true_eq_false, not_false_eq_true, ↓reduceIte, z_0, z_k, s_I, s_J, s_uI, s_uJ, u2_r]
def p_put1 (f : Fl) (n c : Int) : Fl := p_set (p_set f (5 + n) c) (9 + n) 0
theorem s_add (hA : FA a) (hi : iF I a n kd f) (hn : 0 ≤ n) (hn4 : n < 4) {k c : Int} (c1 : 0 ≤ c) (c2 : c < 30) : ∃ I', j_run (d + 1) 2 [.ref a, .int (j_k k), .int (j_k c)] (ST L p I J) = some (none, ST L p I' J) ∧ iF I' a (n + 1) (f2 kd n k) (p_put1 f n c) ∧ fr a I I' := by
  obtain ⟨e3, e4, e5, e6, e7, e8, ek, ec, eg, ef⟩ := hi
  have e := (r_2 d (ST L p I J) a (j_k k) (j_k c)).trans (t_2_0 _ _ _ _ _ _)
  simp (disch := first | assumption | omega) only [k_add, k_sub, k_mul, k_lt, k_eq, k_lt0, k_0lt, k_eq0, k_nat, k_b0, k_b1, k_z1, k_z0, k_o1, k_o0, Int.reduceEq, Int.reduceLT, Int.reduceLE, Int.reduceAdd, Int.reduceMul, Int.reduceNeg, Bool.false_eq_true, or_true, true_or, or_false, false_or, and_true, true_and, and_false, false_and, not_true_eq_false, not_false_eq_true, ↓reduceIte, z_0, z_k, s_I, s_J, s_uI, s_uJ, ↓f_oc, ↓f_gP0, ↓f_gP1, ↓f_gP2, ↓f_ia0, ↓f_ia1, ↓f_ia2, ↓f_is0, ↓f_is1, ↓f_is2, ↓f_lt, e3, hn4, u2_r, u2_k] at e
  have s1 : ∀ j, j ≤ 4 → p_put1 f n c j = f j := fun j hj => by
    unfold p_put1 p_set
    rw [if_neg (by omega), if_neg (by omega)]
  refine ⟨_, e, ⟨?_, ?_, ?_, ?_, ?_, ?_, fun j j1 j2 => ?_, fun j j1 j2 => ?_, fun j j1 j2 => ?_, fun x x1 x2 => ?_⟩, fun r hr => ?_⟩
  · simp (disch := first | assumption | omega) only [k_add, k_sub, k_mul, k_lt, k_eq, k_lt0, k_0lt, k_eq0, k_nat, k_b0, k_b1, k_z1, k_z0, k_o1, k_o0, Int.reduceEq, Int.reduceLT, Int.reduceLE, Int.reduceAdd, Int.reduceMul, Int.reduceNeg, Bool.false_eq_true, or_true, true_or, or_false, false_or, and_true, true_and, and_false, false_and, not_true_eq_false, not_false_eq_true, ↓reduceIte, z_0, z_k, s_I, s_J, s_uI, s_uJ, u2_ss]
  · rw [s1 1 (by decide)]
    simp (disch := first | assumption | omega) only [k_add, k_sub, k_mul, k_lt, k_eq, k_lt0, k_0lt, k_eq0, k_nat, k_b0, k_b1, k_z1, k_z0, k_o1, k_o0, Int.reduceEq, Int.reduceLT, Int.reduceLE, Int.reduceAdd, Int.reduceMul, Int.reduceNeg, Bool.false_eq_true, or_true, true_or, or_false, false_or, and_true, true_and, and_false, false_and, not_true_eq_false, not_false_eq_true, ↓reduceIte, z_0, z_k, s_I, s_J, s_uI, s_uJ, u2_k, u2_r, e4]
  · rw [s1 2 (by decide)]
    simp (disch := first | assumption | omega) only [k_add, k_sub, k_mul, k_lt, k_eq, k_lt0, k_0lt, k_eq0, k_nat, k_b0, k_b1, k_z1, k_z0, k_o1, k_o0, Int.reduceEq, Int.reduceLT, Int.reduceLE, Int.reduceAdd, Int.reduceMul, Int.reduceNeg, Bool.false_eq_true, or_true, true_or, or_false, false_or, and_true, true_and, and_false, false_and, not_true_eq_false, not_false_eq_true, ↓reduceIte, z_0, z_k, s_I, s_J, s_uI, s_uJ, u2_k, u2_r, e5]
  · rw [s1 3 (by decide)]
    simp (disch := first | assumption | omega) only [k_add, k_sub, k_mul, k_lt, k_eq, k_lt0, k_0lt, k_eq0, k_nat, k_b0, k_b1, k_z1, k_z0, k_o1, k_o0, Int.reduceEq, Int.reduceLT, Int.reduceLE, Int.reduceAdd, Int.reduceMul, Int.reduceNeg, Bool.false_eq_true, or_true, true_or, or_false, false_or, and_true, true_and, and_false, false_and, not_true_eq_false, not_false_eq_true, ↓reduceIte, z_0, z_k, s_I, s_J, s_uI, s_uJ, u2_k, u2_r, e6]
  · rw [s1 4 (by decide)]
    simp (disch := first | assumption | omega) only [k_add, k_sub, k_mul, k_lt, k_eq, k_lt0, k_0lt, k_eq0, k_nat, k_b0, k_b1, k_z1, k_z0, k_o1, k_o0, Int.reduceEq, Int.reduceLT, Int.reduceLE, Int.reduceAdd, Int.reduceMul, Int.reduceNeg, Bool.false_eq_true, or_true, true_or, or_false, false_or, and_true, true_and, and_false, false_and, not_true_eq_false, not_false_eq_true, ↓reduceIte, z_0, z_k, s_I, s_J, s_uI, s_uJ, u2_k, u2_r, e7]
  · rw [s1 0 (by decide)]
    simp (disch := first | assumption | omega) only [k_add, k_sub, k_mul, k_lt, k_eq, k_lt0, k_0lt, k_eq0, k_nat, k_b0, k_b1, k_z1, k_z0, k_o1, k_o0, Int.reduceEq, Int.reduceLT, Int.reduceLE, Int.reduceAdd, Int.reduceMul, Int.reduceNeg, Bool.false_eq_true, or_true, true_or, or_false, false_or, and_true, true_and, and_false, false_and, not_true_eq_false, not_false_eq_true, ↓reduceIte, z_0, z_k, s_I, s_J, s_uI, s_uJ, u2_k, u2_r, e8]
  · unfold f2
    by_cases z : j = n
    · subst z
      rw [if_pos rfl]
      simp (disch := first | assumption | omega) only [k_add, k_sub, k_mul, k_lt, k_eq, k_lt0, k_0lt, k_eq0, k_nat, k_b0, k_b1, k_z1, k_z0, k_o1, k_o0, Int.reduceEq, Int.reduceLT, Int.reduceLE, Int.reduceAdd, Int.reduceMul, Int.reduceNeg, Bool.false_eq_true, or_true, true_or, or_false, false_or, and_true, true_and, and_false, false_and, not_true_eq_false, not_false_eq_true, ↓reduceIte, z_0, z_k, s_I, s_J, s_uI, s_uJ, u2_r, u2_ss]
    · rw [if_neg z]
      simp (disch := first | assumption | omega) only [k_add, k_sub, k_mul, k_lt, k_eq, k_lt0, k_0lt, k_eq0, k_nat, k_b0, k_b1, k_z1, k_z0, k_o1, k_o0, Int.reduceEq, Int.reduceLT, Int.reduceLE, Int.reduceAdd, Int.reduceMul, Int.reduceNeg, Bool.false_eq_true, or_true, true_or, or_false, false_or, and_true, true_and, and_false, false_and, not_true_eq_false, not_false_eq_true, ↓reduceIte, z_0, z_k, s_I, s_J, s_uI, s_uJ, u2_r, u2_k]
      exact ek j j1 (by omega)
  · by_cases z : j = n
    · subst z
      have : p_put1 f j c (5 + j) = c := by
        unfold p_put1 p_set
        rw [if_neg (by omega), if_pos rfl]
      rw [this]
      simp (disch := first | assumption | omega) only [k_add, k_sub, k_mul, k_lt, k_eq, k_lt0, k_0lt, k_eq0, k_nat, k_b0, k_b1, k_z1, k_z0, k_o1, k_o0, Int.reduceEq, Int.reduceLT, Int.reduceLE, Int.reduceAdd, Int.reduceMul, Int.reduceNeg, Bool.false_eq_true, or_true, true_or, or_false, false_or, and_true, true_and, and_false, false_and, not_true_eq_false, not_false_eq_true, ↓reduceIte, z_0, z_k, s_I, s_J, s_uI, s_uJ, u2_r, u2_ss]
    · have : p_put1 f n c (5 + j) = f (5 + j) := by
        unfold p_put1 p_set
        rw [if_neg (by omega), if_neg (by omega)]
      rw [this]
      simp (disch := first | assumption | omega) only [k_add, k_sub, k_mul, k_lt, k_eq, k_lt0, k_0lt, k_eq0, k_nat, k_b0, k_b1, k_z1, k_z0, k_o1, k_o0, Int.reduceEq, Int.reduceLT, Int.reduceLE, Int.reduceAdd, Int.reduceMul, Int.reduceNeg, Bool.false_eq_true, or_true, true_or, or_false, false_or, and_true, true_and, and_false, false_and, not_true_eq_false, not_false_eq_true, ↓reduceIte, z_0, z_k, s_I, s_J, s_uI, s_uJ, u2_r, u2_k]
      exact ec j j1 (by omega)
  · by_cases z : j = n
    · subst z
      have : p_put1 f j c (9 + j) = 0 := by
        unfold p_put1 p_set
        rw [if_pos rfl]
      rw [this]
      simp (disch := first | assumption | omega) only [k_add, k_sub, k_mul, k_lt, k_eq, k_lt0, k_0lt, k_eq0, k_nat, k_b0, k_b1, k_z1, k_z0, k_o1, k_o0, Int.reduceEq, Int.reduceLT, Int.reduceLE, Int.reduceAdd, Int.reduceMul, Int.reduceNeg, Bool.false_eq_true, or_true, true_or, or_false, false_or, and_true, true_and, and_false, false_and, not_true_eq_false, not_false_eq_true, ↓reduceIte, z_0, z_k, s_I, s_J, s_uI, s_uJ, u2_r, u2_ss]
    · have : p_put1 f n c (9 + j) = f (9 + j) := by
        unfold p_put1 p_set
        rw [if_neg (by omega), if_neg (by omega)]
      rw [this]
      simp (disch := first | assumption | omega) only [k_add, k_sub, k_mul, k_lt, k_eq, k_lt0, k_0lt, k_eq0, k_nat, k_b0, k_b1, k_z1, k_z0, k_o1, k_o0, Int.reduceEq, Int.reduceLT, Int.reduceLE, Int.reduceAdd, Int.reduceMul, Int.reduceNeg, Bool.false_eq_true, or_true, true_or, or_false, false_or, and_true, true_and, and_false, false_and, not_true_eq_false, not_false_eq_true, ↓reduceIte, z_0, z_k, s_I, s_J, s_uI, s_uJ, u2_r, u2_k]
      exact eg j j1 (by omega)
  · have eb : ∀ b : Bool, (b || decide (x = c)) = true ↔ b = true ∨ x = c := fun b => by rw [Bool.or_eq_true, decide_eq_true_iff]
    simp (disch := first | assumption | omega) only [k_add, k_sub, k_mul, k_lt, k_eq, k_lt0, k_0lt, k_eq0, k_nat, k_b0, k_b1, k_z1, k_z0, k_o1, k_o0, Int.reduceEq, Int.reduceLT, Int.reduceLE, Int.reduceAdd, Int.reduceMul, Int.reduceNeg, Bool.false_eq_true, or_true, true_or, or_false, false_or, and_true, true_and, and_false, false_and, not_true_eq_false, not_false_eq_true, ↓reduceIte, z_0, z_k, s_I, s_J, s_uI, s_uJ, u2_k, u2_r, u2_ss]
    rw [bt_on _ c1 (by omega) x1 (by omega), eb, ef x x1 x2]
    constructor
    · intro z
      rcases z with ⟨j, j1, j2, j3⟩ | z
      · refine ⟨j, j1, by omega, ?_⟩
        unfold p_put1 p_set
        rw [if_neg (by omega), if_neg (by omega)]
        exact j3
      · refine ⟨n, hn, by omega, ?_⟩
        unfold p_put1 p_set
        rw [if_neg (by omega), if_pos rfl]
        exact z.symm
    · rintro ⟨j, j1, j2, j3⟩
      by_cases z : j = n
      · subst z
        unfold p_put1 p_set at j3
        rw [if_neg (by omega), if_pos rfl] at j3
        exact Or.inr j3.symm
      · unfold p_put1 p_set at j3
        rw [if_neg (by omega), if_neg (by omega)] at j3
        exact Or.inl ⟨j, j1, by omega, j3⟩
  · funext j
    simp (disch := first | assumption | omega) only [k_add, k_sub, k_mul, k_lt, k_eq, k_lt0, k_0lt, k_eq0, k_nat, k_b0, k_b1, k_z1, k_z0, k_o1, k_o0, Int.reduceEq, Int.reduceLT, Int.reduceLE, Int.reduceAdd, Int.reduceMul, Int.reduceNeg, Bool.false_eq_true, or_true, true_or, or_false, false_or, and_true, true_and, and_false, false_and, not_true_eq_false, not_false_eq_true, ↓reduceIte, z_0, z_k, s_I, s_J, s_uI, s_uJ, u2_r]
end READER2
