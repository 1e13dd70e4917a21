/-! ===== the class's calls: count, digest ===== -/
def p_there (C : Nat) (z : Int → Int) : Int := p_loop (fun r s => if z r = -1 then s else s + 1) C 0 0
def p_mix (h : Int64) (x : Int32) : Int64 := j_cJ 2 * h + x.toInt64
def p_add (C : Nat) (z : Int → Int) (v : Int → Int → Int32) (h : Int64) : Int64 := p_loop (fun r s => p_loop (fun i s => p_mix s (v r i)) (z r).toNat 0 (p_mix s (j_k (z r)))) C 0 h
def p_keptN (A : Ast) : Int := (if a_kp A 0 = true then 1 else 0) + (if a_kp A 1 = true then 1 else 0) + (if a_kp A 2 = true then 1 else 0)
def p_countV (q : Int) (A : Ast) : Int := if q = 0 then a_N A else if q = 1 then a_gn A else if q = 2 then p_lost (a_gn A) (a_fl A) else if q = 3 then a_fl A 0 else if q = 4 then p_shyN (a_gn A) (a_kd A) else if q = 5 then p_keptN A else if q = 6 then p_there 6 (a_rz A) else if q = 7 then p_there 4 (a_tz A) else -1
def p_hashF (A : Ast) (h : Int64) : Int64 := p_mix (p_mix (p_mix (p_mix (p_loop (fun k h => p_loop (fun q h => p_mix h (j_k (p_tells (a_kd A) (a_fl A) k q))) 3 0 h) (a_gn A).toNat 0 (p_loop (fun c h => p_mix h (j_k (a_gr A c))) (a_N A).toNat 0 h)) (j_k (a_fl A 1))) (j_k (a_fl A 2))) (j_k (a_fl A 3))) (j_k (a_fl A 4))
def p_digest (A : Ast) : Int64 := p_add 4 (a_tz A) (fun t i => j_k (a_tv A t i)) (p_add 6 (a_rz A) (a_rv A) (p_loop (fun k h => p_mix h (if a_kp A k = true then j_k (a_kf A k 0) else j_k (-1))) 3 0 (p_hashF A (p_loop (fun q h => p_mix h (j_k (p_countV q A))) 8 0 (j_cJ 1)))))
section CALLS8
variable {L p d : Nat} {J : Nat → Nat → Int64} {I I' : Nat → Nat → Int32} {A : Ast} {K : Option Rr} {r i : Int}
theorem bc8 {σ : Sto} {v : Int} (h1 : 0 ≤ v) (h2 : v < 8) : j_run (d + 1) 126 [.int (j_k v)] σ = some (some (.int (j_k ((if bt (j_k v) 0 = true then 1 else 0) + (if bt (j_k v) 1 = true then 1 else 0) + (if bt (j_k v) 2 = true then 1 else 0)))), σ) := by
  rw [r_126, t_126_0]
  refine congrArg (fun x => some (some (Value.int x), σ)) ?_
  rcases (show v = 0 ∨ v = 1 ∨ v = 2 ∨ v = 3 ∨ v = 4 ∨ v = 5 ∨ v = 6 ∨ v = 7 by omega) with rfl | rfl | rfl | rfl | rfl | rfl | rfl | rfl <;> decide +kernel

theorem x_there1 (hx : iX I J A) : j_run (d + 1) 62 [.ref 1] (ST L p I J) = some (some (.int (j_k (p_there 6 (a_rz A)))), ST L p I J) := by
  have loop : ∀ (t M : Nat) (k s : Int), 0 ≤ k → k + t = 6 → t < M → j_exec k_62 h_62 (j_run d) M 13 [some (.ref 1), some (.int (j_k s)), some (.ref 9), some (.int (j_k 6)), some (.int (j_k k)), none] [] (ST L p I J) = some (some (.int (j_k (p_loop (fun r s => if a_rz A r = -1 then s else s + 1) t k s))), ST L p I J) := by
    intro t
    induction t with
    | zero =>
      intro M k s k1 k2 hM
      obtain ⟨M, rfl⟩ : ∃ q, M = q + 1 := ⟨M - 1, by omega⟩
      have z : ¬ k < 6 := by omega
      rw [x_exec, t_62_13]
      simp (disch := first | assumption | omega) only [k_add, k_sub, k_mul, k_lt, k_eq, k_lt0, k_0lt, k_eq0, k_nat, k_b0, k_b1, k_z1, k_z0, k_o1, k_o0, Int.reduceEq, Int.reduceLT, Int.reduceLE, Int.reduceAdd, Int.reduceMul, Int.reduceNeg, Bool.false_eq_true, or_true, true_or, or_false, false_or, and_true, true_and, and_false, false_and, not_true_eq_false, not_false_eq_true, ↓reduceIte, z_0, z_k, s_I, s_J, s_uI, s_uJ, z]
      rfl
    | succ t ih =>
      intro M k s k1 k2 hM
      obtain ⟨M, rfl⟩ : ∃ q, M = q + 1 := ⟨M - 1, by omega⟩
      have z : k < 6 := by omega
      have hr := (hx.2.1 k k1 z).1
      have br := hx.1.2.2.2.1 k k1 z
      have br1 := br.1
      have br2 := br.2
      rw [x_exec, t_62_13, p_loopS]
      by_cases y : a_rz A k = -1
      · rw [if_pos y]
        simp (disch := first | assumption | omega) only [k_add, k_sub, k_mul, k_lt, k_eq, k_lt0, k_0lt, k_eq0, k_nat, k_b0, k_b1, k_z1, k_z0, k_o1, k_o0, Int.reduceEq, Int.reduceLT, Int.reduceLE, Int.reduceAdd, Int.reduceMul, Int.reduceNeg, Bool.false_eq_true, or_true, true_or, or_false, false_or, and_true, true_and, and_false, false_and, not_true_eq_false, not_false_eq_true, ↓reduceIte, z_0, z_k, s_I, s_J, s_uI, s_uJ, z, ↓c_ia_9, hr, y]
        exact ih M (k + 1) s (by omega) (by omega) (by omega)
      · rw [if_neg y]
        simp (disch := first | assumption | omega) only [k_add, k_sub, k_mul, k_lt, k_eq, k_lt0, k_0lt, k_eq0, k_nat, k_b0, k_b1, k_z1, k_z0, k_o1, k_o0, Int.reduceEq, Int.reduceLT, Int.reduceLE, Int.reduceAdd, Int.reduceMul, Int.reduceNeg, Bool.false_eq_true, or_true, true_or, or_false, false_or, and_true, true_and, and_false, false_and, not_true_eq_false, not_false_eq_true, ↓reduceIte, z_0, z_k, s_I, s_J, s_uI, s_uJ, z, ↓c_ia_9, hr, y]
        exact ih M (k + 1) (s + 1) (by omega) (by omega) (by omega)
  rw [r_62, t_62_0]
  simp (disch := first | assumption | omega) only [k_add, k_sub, k_mul, k_lt, k_eq, k_lt0, k_0lt, k_eq0, k_nat, k_b0, k_b1, k_z1, k_z0, k_o1, k_o0, Int.reduceEq, Int.reduceLT, Int.reduceLE, Int.reduceAdd, Int.reduceMul, Int.reduceNeg, Bool.false_eq_true, or_true, true_or, or_false, false_or, and_true, true_and, and_false, false_and, not_true_eq_false, not_false_eq_true, ↓reduceIte, z_0, z_k, s_I, s_J, s_uI, s_uJ, ↓c_gP_1_1, ↓c_len_9]
  exact loop 6 999999 0 0 (Int.le_refl 0) (by decide) (by decide)
theorem x_add1 (hx : iX I J A) {h : Int64} : j_run (d + 1) 63 [.ref 1, .long h] (ST L p I J) = some (some (.long (p_add 6 (a_rz A) (fun r i => a_rv A r i) h)), ST L p I J) := by
  have inner : ∀ (t M : Nat) (r k : Int) (s : Int64), 0 ≤ r → r < 6 → 0 ≤ k → k + t = a_rz A r → j_exec k_63 h_63 (j_run d) (M + t + 1) 33 [some (.ref 1), some (.long h), none, some (.long s), none, some (.int (j_k r)), some (.int (j_k k))] [] (ST L p I J) = j_exec k_63 h_63 (j_run d) M 5 [some (.ref 1), some (.long h), none, some (.long (p_loop (fun i s => p_mix s (a_rv A r i)) t k s)), none, some (.int (j_k (r + 1))), none] [] (ST L p I J) := by
    intro t
    induction t with
    | zero =>
      intro M r k s r1 r2 k1 k2
      have hr := (hx.2.1 r r1 r2).1
      have br := hx.1.2.2.2.1 r r1 r2
      have br2 := br.2
      have z : ¬ k < a_rz A r := by omega
      rw [x_exec, t_63_33]
      simp (disch := first | assumption | omega) only [k_add, k_sub, k_mul, k_lt, k_eq, k_lt0, k_0lt, k_eq0, k_nat, k_b0, k_b1, k_z1, k_z0, k_o1, k_o0, Int.reduceEq, Int.reduceLT, Int.reduceLE, Int.reduceAdd, Int.reduceMul, Int.reduceNeg, Bool.false_eq_true, or_true, true_or, or_false, false_or, and_true, true_and, and_false, false_and, not_true_eq_false, not_false_eq_true, ↓reduceIte, z_0, z_k, s_I, s_J, s_uI, s_uJ, ↓c_gP_1_1, ↓c_ia_9, hr, z]
      rfl
    | succ t ih =>
      intro M r k s r1 r2 k1 k2
      have hr := (hx.2.1 r r1 r2).1
      have br := hx.1.2.2.2.1 r r1 r2
      have br2 := br.2
      have z : k < a_rz A r := by omega
      have k6 : k < 60 := by omega
      have hv := (hx.2.1 r r1 r2).2 k k1 k6
      rw [show M + (t + 1) + 1 = (M + t + 1) + 1 by omega, x_exec, t_63_33, p_loopS]
      simp (disch := first | assumption | omega) only [k_add, k_sub, k_mul, k_lt, k_eq, k_lt0, k_0lt, k_eq0, k_nat, k_b0, k_b1, k_z1, k_z0, k_o1, k_o0, Int.reduceEq, Int.reduceLT, Int.reduceLE, Int.reduceAdd, Int.reduceMul, Int.reduceNeg, Bool.false_eq_true, or_true, true_or, or_false, false_or, and_true, true_and, and_false, false_and, not_true_eq_false, not_false_eq_true, ↓reduceIte, z_0, z_k, s_I, s_J, s_uI, s_uJ, ↓c_gP_1_1, ↓c_gP_1_0, ↓c_ia_9, hr, z, ↓c_qa_2, ↓ia_row, hv]
      exact ih M r (k + 1) _ r1 r2 (by omega) (by omega)
  have loop : ∀ (t M : Nat) (r : Int) (s : Int64), 0 ≤ r → r + t = 6 → j_exec k_63 h_63 (j_run d) (M + 100 * t + 1) 5 [some (.ref 1), some (.long h), none, some (.long s), none, some (.int (j_k r)), none] [] (ST L p I J) = some (some (.long (p_loop (fun r s => p_loop (fun i s => p_mix s (a_rv A r i)) (a_rz A r).toNat 0 (p_mix s (j_k (a_rz A r)))) t r s)), ST L p I J) := by
    intro t
    induction t with
    | zero =>
      intro M r s r1 r2
      have z : ¬ r < 6 := by omega
      rw [x_exec, t_63_5]
      simp (disch := first | assumption | omega) only [k_add, k_sub, k_mul, k_lt, k_eq, k_lt0, k_0lt, k_eq0, k_nat, k_b0, k_b1, k_z1, k_z0, k_o1, k_o0, Int.reduceEq, Int.reduceLT, Int.reduceLE, Int.reduceAdd, Int.reduceMul, Int.reduceNeg, Bool.false_eq_true, or_true, true_or, or_false, false_or, and_true, true_and, and_false, false_and, not_true_eq_false, not_false_eq_true, ↓reduceIte, z_0, z_k, s_I, s_J, s_uI, s_uJ, ↓c_gP_1_1, ↓c_len_9, z]
      rfl
    | succ t ih =>
      intro M r s r1 r2
      have z : r < 6 := by omega
      have hr := (hx.2.1 r r1 z).1
      have br := hx.1.2.2.2.1 r r1 z
      have br1 := br.1
      have br2 := br.2
      rw [x_exec, t_63_5, p_loopS]
      simp (disch := first | assumption | omega) only [k_add, k_sub, k_mul, k_lt, k_eq, k_lt0, k_0lt, k_eq0, k_nat, k_b0, k_b1, k_z1, k_z0, k_o1, k_o0, Int.reduceEq, Int.reduceLT, Int.reduceLE, Int.reduceAdd, Int.reduceMul, Int.reduceNeg, Bool.false_eq_true, or_true, true_or, or_false, false_or, and_true, true_and, and_false, false_and, not_true_eq_false, not_false_eq_true, ↓reduceIte, z_0, z_k, s_I, s_J, s_uI, s_uJ, ↓c_gP_1_1, ↓c_len_9, z, ↓c_ia_9, hr]
      by_cases y : a_rz A r = -1
      · have e0 : (a_rz A r).toNat = 0 := by omega
        have w : ¬ (0 : Int) < a_rz A r := by omega
        rw [show M + 100 * (t + 1) = (M + 99 + 100 * t) + 1 by omega, x_exec, t_63_33, e0]
        simp (disch := first | assumption | omega) only [k_add, k_sub, k_mul, k_lt, k_eq, k_lt0, k_0lt, k_eq0, k_nat, k_b0, k_b1, k_z1, k_z0, k_o1, k_o0, Int.reduceEq, Int.reduceLT, Int.reduceLE, Int.reduceAdd, Int.reduceMul, Int.reduceNeg, Bool.false_eq_true, or_true, true_or, or_false, false_or, and_true, true_and, and_false, false_and, not_true_eq_false, not_false_eq_true, ↓reduceIte, z_0, z_k, s_I, s_J, s_uI, s_uJ, ↓c_gP_1_1, ↓c_ia_9, hr, w]
        rw [show M + 99 + 100 * t = M + 98 + 100 * t + 1 by omega]
        exact ih (M + 98) (r + 1) _ (by omega) (by omega)
      · obtain ⟨M2, hM2⟩ : ∃ q, M + 100 * (t + 1) = (q + 100 * t + 1) + (a_rz A r).toNat + 1 := ⟨M + 98 - (a_rz A r).toNat, by omega⟩
        rw [hM2]
        refine (inner (a_rz A r).toNat (M2 + 100 * t + 1) r 0 _ r1 z (Int.le_refl 0) (by omega)).trans ?_
        exact ih M2 (r + 1) _ (by omega) (by omega)
  rw [r_63, t_63_0]
  obtain ⟨M2, hM2⟩ : ∃ q, 999999 = q + 100 * 6 + 1 := ⟨999998 - 100 * 6, by decide⟩
  rw [hM2]
  exact loop 6 M2 0 h (Int.le_refl 0) (by decide)


theorem x_there10 (hx : iX I J A) : j_run (d + 1) 62 [.ref 10] (ST L p I J) = some (some (.int (j_k (p_there 4 (a_tz A)))), ST L p I J) := by
  have loop : ∀ (t M : Nat) (k s : Int), 0 ≤ k → k + t = 4 → t < M → j_exec k_62 h_62 (j_run d) M 13 [some (.ref 10), some (.int (j_k s)), some (.ref 16), some (.int (j_k 4)), some (.int (j_k k)), none] [] (ST L p I J) = some (some (.int (j_k (p_loop (fun r s => if a_tz A r = -1 then s else s + 1) t k s))), ST L p I J) := by
    intro t
    induction t with
    | zero =>
      intro M k s k1 k2 hM
      obtain ⟨M, rfl⟩ : ∃ q, M = q + 1 := ⟨M - 1, by omega⟩
      have z : ¬ k < 4 := by omega
      rw [x_exec, t_62_13]
      simp (disch := first | assumption | omega) only [k_add, k_sub, k_mul, k_lt, k_eq, k_lt0, k_0lt, k_eq0, k_nat, k_b0, k_b1, k_z1, k_z0, k_o1, k_o0, Int.reduceEq, Int.reduceLT, Int.reduceLE, Int.reduceAdd, Int.reduceMul, Int.reduceNeg, Bool.false_eq_true, or_true, true_or, or_false, false_or, and_true, true_and, and_false, false_and, not_true_eq_false, not_false_eq_true, ↓reduceIte, z_0, z_k, s_I, s_J, s_uI, s_uJ, z]
      rfl
    | succ t ih =>
      intro M k s k1 k2 hM
      obtain ⟨M, rfl⟩ : ∃ q, M = q + 1 := ⟨M - 1, by omega⟩
      have z : k < 4 := by omega
      have hr := (hx.2.2.1 k k1 z).1
      have br := hx.1.2.2.2.2.1 k k1 z
      have br1 := br.1
      have br2 := br.2
      rw [x_exec, t_62_13, p_loopS]
      by_cases y : a_tz A k = -1
      · rw [if_pos y]
        simp (disch := first | assumption | omega) only [k_add, k_sub, k_mul, k_lt, k_eq, k_lt0, k_0lt, k_eq0, k_nat, k_b0, k_b1, k_z1, k_z0, k_o1, k_o0, Int.reduceEq, Int.reduceLT, Int.reduceLE, Int.reduceAdd, Int.reduceMul, Int.reduceNeg, Bool.false_eq_true, or_true, true_or, or_false, false_or, and_true, true_and, and_false, false_and, not_true_eq_false, not_false_eq_true, ↓reduceIte, z_0, z_k, s_I, s_J, s_uI, s_uJ, z, ↓c_ia_16, hr, y]
        exact ih M (k + 1) s (by omega) (by omega) (by omega)
      · rw [if_neg y]
        simp (disch := first | assumption | omega) only [k_add, k_sub, k_mul, k_lt, k_eq, k_lt0, k_0lt, k_eq0, k_nat, k_b0, k_b1, k_z1, k_z0, k_o1, k_o0, Int.reduceEq, Int.reduceLT, Int.reduceLE, Int.reduceAdd, Int.reduceMul, Int.reduceNeg, Bool.false_eq_true, or_true, true_or, or_false, false_or, and_true, true_and, and_false, false_and, not_true_eq_false, not_false_eq_true, ↓reduceIte, z_0, z_k, s_I, s_J, s_uI, s_uJ, z, ↓c_ia_16, hr, y]
        exact ih M (k + 1) (s + 1) (by omega) (by omega) (by omega)
  rw [r_62, t_62_0]
  simp (disch := first | assumption | omega) only [k_add, k_sub, k_mul, k_lt, k_eq, k_lt0, k_0lt, k_eq0, k_nat, k_b0, k_b1, k_z1, k_z0, k_o1, k_o0, Int.reduceEq, Int.reduceLT, Int.reduceLE, Int.reduceAdd, Int.reduceMul, Int.reduceNeg, Bool.false_eq_true, or_true, true_or, or_false, false_or, and_true, true_and, and_false, false_and, not_true_eq_false, not_false_eq_true, ↓reduceIte, z_0, z_k, s_I, s_J, s_uI, s_uJ, ↓c_gP_10_1, ↓c_len_16]
  exact loop 4 999999 0 0 (Int.le_refl 0) (by decide) (by decide)
theorem x_add10 (hx : iX I J A) {h : Int64} : j_run (d + 1) 63 [.ref 10, .long h] (ST L p I J) = some (some (.long (p_add 4 (a_tz A) (fun r i => j_k (a_tv A r i)) h)), ST L p I J) := by
  have inner : ∀ (t M : Nat) (r k : Int) (s : Int64), 0 ≤ r → r < 4 → 0 ≤ k → k + t = a_tz A r → j_exec k_63 h_63 (j_run d) (M + t + 1) 33 [some (.ref 10), some (.long h), none, some (.long s), none, some (.int (j_k r)), some (.int (j_k k))] [] (ST L p I J) = j_exec k_63 h_63 (j_run d) M 5 [some (.ref 10), some (.long h), none, some (.long (p_loop (fun i s => p_mix s (j_k (a_tv A r i))) t k s)), none, some (.int (j_k (r + 1))), none] [] (ST L p I J) := by
    intro t
    induction t with
    | zero =>
      intro M r k s r1 r2 k1 k2
      have hr := (hx.2.2.1 r r1 r2).1
      have br := hx.1.2.2.2.2.1 r r1 r2
      have br2 := br.2
      have z : ¬ k < a_tz A r := by omega
      rw [x_exec, t_63_33]
      simp (disch := first | assumption | omega) only [k_add, k_sub, k_mul, k_lt, k_eq, k_lt0, k_0lt, k_eq0, k_nat, k_b0, k_b1, k_z1, k_z0, k_o1, k_o0, Int.reduceEq, Int.reduceLT, Int.reduceLE, Int.reduceAdd, Int.reduceMul, Int.reduceNeg, Bool.false_eq_true, or_true, true_or, or_false, false_or, and_true, true_and, and_false, false_and, not_true_eq_false, not_false_eq_true, ↓reduceIte, z_0, z_k, s_I, s_J, s_uI, s_uJ, ↓c_gP_10_1, ↓c_ia_16, hr, z]
      rfl
    | succ t ih =>
      intro M r k s r1 r2 k1 k2
      have hr := (hx.2.2.1 r r1 r2).1
      have br := hx.1.2.2.2.2.1 r r1 r2
      have br2 := br.2
      have z : k < a_tz A r := by omega
      have k6 : k < 80 := by omega
      have hv := (hx.2.2.1 r r1 r2).2 k k1 k6
      rw [show M + (t + 1) + 1 = (M + t + 1) + 1 by omega, x_exec, t_63_33, p_loopS]
      simp (disch := first | assumption | omega) only [k_add, k_sub, k_mul, k_lt, k_eq, k_lt0, k_0lt, k_eq0, k_nat, k_b0, k_b1, k_z1, k_z0, k_o1, k_o0, Int.reduceEq, Int.reduceLT, Int.reduceLE, Int.reduceAdd, Int.reduceMul, Int.reduceNeg, Bool.false_eq_true, or_true, true_or, or_false, false_or, and_true, true_and, and_false, false_and, not_true_eq_false, not_false_eq_true, ↓reduceIte, z_0, z_k, s_I, s_J, s_uI, s_uJ, ↓c_gP_10_1, ↓c_gP_10_0, ↓c_ia_16, hr, z, ↓c_qa_11, ↓ia_txt, hv]
      exact ih M r (k + 1) _ r1 r2 (by omega) (by omega)
  have loop : ∀ (t M : Nat) (r : Int) (s : Int64), 0 ≤ r → r + t = 4 → j_exec k_63 h_63 (j_run d) (M + 100 * t + 1) 5 [some (.ref 10), some (.long h), none, some (.long s), none, some (.int (j_k r)), none] [] (ST L p I J) = some (some (.long (p_loop (fun r s => p_loop (fun i s => p_mix s (j_k (a_tv A r i))) (a_tz A r).toNat 0 (p_mix s (j_k (a_tz A r)))) t r s)), ST L p I J) := by
    intro t
    induction t with
    | zero =>
      intro M r s r1 r2
      have z : ¬ r < 4 := by omega
      rw [x_exec, t_63_5]
      simp (disch := first | assumption | omega) only [k_add, k_sub, k_mul, k_lt, k_eq, k_lt0, k_0lt, k_eq0, k_nat, k_b0, k_b1, k_z1, k_z0, k_o1, k_o0, Int.reduceEq, Int.reduceLT, Int.reduceLE, Int.reduceAdd, Int.reduceMul, Int.reduceNeg, Bool.false_eq_true, or_true, true_or, or_false, false_or, and_true, true_and, and_false, false_and, not_true_eq_false, not_false_eq_true, ↓reduceIte, z_0, z_k, s_I, s_J, s_uI, s_uJ, ↓c_gP_10_1, ↓c_len_16, z]
      rfl
    | succ t ih =>
      intro M r s r1 r2
      have z : r < 4 := by omega
      have hr := (hx.2.2.1 r r1 z).1
      have br := hx.1.2.2.2.2.1 r r1 z
      have br1 := br.1
      have br2 := br.2
      rw [x_exec, t_63_5, p_loopS]
      simp (disch := first | assumption | omega) only [k_add, k_sub, k_mul, k_lt, k_eq, k_lt0, k_0lt, k_eq0, k_nat, k_b0, k_b1, k_z1, k_z0, k_o1, k_o0, Int.reduceEq, Int.reduceLT, Int.reduceLE, Int.reduceAdd, Int.reduceMul, Int.reduceNeg, Bool.false_eq_true, or_true, true_or, or_false, false_or, and_true, true_and, and_false, false_and, not_true_eq_false, not_false_eq_true, ↓reduceIte, z_0, z_k, s_I, s_J, s_uI, s_uJ, ↓c_gP_10_1, ↓c_len_16, z, ↓c_ia_16, hr]
      by_cases y : a_tz A r = -1
      · have e0 : (a_tz A r).toNat = 0 := by omega
        have w : ¬ (0 : Int) < a_tz A r := by omega
        rw [show M + 100 * (t + 1) = (M + 99 + 100 * t) + 1 by omega, x_exec, t_63_33, e0]
        simp (disch := first | assumption | omega) only [k_add, k_sub, k_mul, k_lt, k_eq, k_lt0, k_0lt, k_eq0, k_nat, k_b0, k_b1, k_z1, k_z0, k_o1, k_o0, Int.reduceEq, Int.reduceLT, Int.reduceLE, Int.reduceAdd, Int.reduceMul, Int.reduceNeg, Bool.false_eq_true, or_true, true_or, or_false, false_or, and_true, true_and, and_false, false_and, not_true_eq_false, not_false_eq_true, ↓reduceIte, z_0, z_k, s_I, s_J, s_uI, s_uJ, ↓c_gP_10_1, ↓c_ia_16, hr, w]
        rw [show M + 99 + 100 * t = M + 98 + 100 * t + 1 by omega]
        exact ih (M + 98) (r + 1) _ (by omega) (by omega)
      · obtain ⟨M2, hM2⟩ : ∃ q, M + 100 * (t + 1) = (q + 100 * t + 1) + (a_tz A r).toNat + 1 := ⟨M + 98 - (a_tz A r).toNat, by omega⟩
        rw [hM2]
        refine (inner (a_tz A r).toNat (M2 + 100 * t + 1) r 0 _ r1 z (Int.le_refl 0) (by omega)).trans ?_
        exact ih M2 (r + 1) _ (by omega) (by omega)
  rw [r_63, t_63_0]
  obtain ⟨M2, hM2⟩ : ∃ q, 999999 = q + 100 * 4 + 1 := ⟨999998 - 100 * 4, by decide⟩
  rw [hM2]
  exact loop 4 M2 0 h (Int.le_refl 0) (by decide)


theorem x_count (hx : iX I J A) {q : Int} (h1 : -2147483648 ≤ q) (h2 : q < 2147483648) : j_run (d + 3) 108 [.ref 0, .int (j_k q)] (ST L p I J) = some (some (.int (j_k (p_countV q A))), ST L p I J) := by
  have hC := hx.1.1
  have ho := hx.1.2.1
  have hG := hx.2.2.2.1
  have hF := hx.2.2.2.2.1
  have hT := hx.2.2.2.2.2.2.2.2.1
  have hM := hx.2.2.2.2.2.2.2.1
  have hn := hC.2.2.1
  have hn4 := hC.2.2.2.1
  obtain ⟨bN0, bN1, -⟩ := bd_N hC
  have hA := fa_31
  have hg := ga_27
  have e := (r_108 (d + 2) (ST L p I J) 0 (j_k q)).trans (t_108_0 _ _ _ _ _)
  rw [e]
  unfold p_countV
  by_cases q0 : q = 0
  · subst q0
    simp (disch := first | assumption | omega) only [k_add, k_sub, k_mul, k_lt, k_eq, k_lt0, k_0lt, k_eq0, k_nat, k_b0, k_b1, k_z1, k_z0, k_o1, k_o0, Int.reduceEq, Int.reduceLT, Int.reduceLE, Int.reduceAdd, Int.reduceMul, Int.reduceNeg, Bool.false_eq_true, or_true, true_or, or_false, false_or, and_true, true_and, and_false, false_and, not_true_eq_false, not_false_eq_true, ↓reduceIte, z_0, z_k, s_I, s_J, s_uI, s_uJ, ↓c_gP_0_3, ↓g_oc, hG.2.2.1]
  by_cases q1 : q = 1
  · subst q1
    simp (disch := first | assumption | omega) only [k_add, k_sub, k_mul, k_lt, k_eq, k_lt0, k_0lt, k_eq0, k_nat, k_b0, k_b1, k_z1, k_z0, k_o1, k_o0, Int.reduceEq, Int.reduceLT, Int.reduceLE, Int.reduceAdd, Int.reduceMul, Int.reduceNeg, Bool.false_eq_true, or_true, true_or, or_false, false_or, and_true, true_and, and_false, false_and, not_true_eq_false, not_false_eq_true, ↓reduceIte, z_0, z_k, s_I, s_J, s_uI, s_uJ, ↓c_gP_0_4, ↓f_oc, hF.1]
  by_cases q2 : q = 2
  · subst q2
    have h := s_lostOnes (L := L) (p := p) (d := d + 1) (J := J) hA hF hn hn4 ho bN1
    simp (disch := first | assumption | omega) only [k_add, k_sub, k_mul, k_lt, k_eq, k_lt0, k_0lt, k_eq0, k_nat, k_b0, k_b1, k_z1, k_z0, k_o1, k_o0, Int.reduceEq, Int.reduceLT, Int.reduceLE, Int.reduceAdd, Int.reduceMul, Int.reduceNeg, Bool.false_eq_true, or_true, true_or, or_false, false_or, and_true, true_and, and_false, false_and, not_true_eq_false, not_false_eq_true, ↓reduceIte, z_0, z_k, s_I, s_J, s_uI, s_uJ, ↓c_gP_0_4, ↓f_oc, ↓jc1 h]
  by_cases q3 : q = 3
  · subst q3
    simp (disch := first | assumption | omega) only [k_add, k_sub, k_mul, k_lt, k_eq, k_lt0, k_0lt, k_eq0, k_nat, k_b0, k_b1, k_z1, k_z0, k_o1, k_o0, Int.reduceEq, Int.reduceLT, Int.reduceLE, Int.reduceAdd, Int.reduceMul, Int.reduceNeg, Bool.false_eq_true, or_true, true_or, or_false, false_or, and_true, true_and, and_false, false_and, not_true_eq_false, not_false_eq_true, ↓reduceIte, z_0, z_k, s_I, s_J, s_uI, s_uJ, ↓c_gP_0_4, ↓f_oc, hF.2.2.2.2.2.1]
  by_cases q4 : q = 4
  · subst q4
    have h := s_shyOnes (L := L) (p := p) (d := d) (J := J) hA hF hC
    simp (disch := first | assumption | omega) only [k_add, k_sub, k_mul, k_lt, k_eq, k_lt0, k_0lt, k_eq0, k_nat, k_b0, k_b1, k_z1, k_z0, k_o1, k_o0, Int.reduceEq, Int.reduceLT, Int.reduceLE, Int.reduceAdd, Int.reduceMul, Int.reduceNeg, Bool.false_eq_true, or_true, true_or, or_false, false_or, and_true, true_and, and_false, false_and, not_true_eq_false, not_false_eq_true, ↓reduceIte, z_0, z_k, s_I, s_J, s_uI, s_uJ, ↓c_gP_0_4, ↓f_oc, ↓jc1 h]
  by_cases q5 : q = 5
  · subst q5
    obtain ⟨v, v1, v2, v3⟩ := hx.2.2.2.2.2.2.1
    have h := bc8 (d := d + 1) (σ := ST L p I J) v1 v2
    have b0 : bt (j_k v) 0 = a_kp A 0 := by rw [← v3]; exact (hx.2.2.2.2.2.1 0 (by decide) (by decide)).1
    have b1 : bt (j_k v) 1 = a_kp A 1 := by rw [← v3]; exact (hx.2.2.2.2.2.1 1 (by decide) (by decide)).1
    have b2 : bt (j_k v) 2 = a_kp A 2 := by rw [← v3]; exact (hx.2.2.2.2.2.1 2 (by decide) (by decide)).1
    rw [b0, b1, b2] at h
    simp (disch := first | assumption | omega) only [k_add, k_sub, k_mul, k_lt, k_eq, k_lt0, k_0lt, k_eq0, k_nat, k_b0, k_b1, k_z1, k_z0, k_o1, k_o0, Int.reduceEq, Int.reduceLT, Int.reduceLE, Int.reduceAdd, Int.reduceMul, Int.reduceNeg, Bool.false_eq_true, or_true, true_or, or_false, false_or, and_true, true_and, and_false, false_and, not_true_eq_false, not_false_eq_true, ↓reduceIte, z_0, z_k, s_I, s_J, s_uI, s_uJ, ↓c_oc_0, v3, ↓jc1 h]
    rfl
  by_cases q6 : q = 6
  · subst q6
    have h := x_there1 (L := L) (p := p) (d := d + 1) hx
    simp (disch := first | assumption | omega) only [k_add, k_sub, k_mul, k_lt, k_eq, k_lt0, k_0lt, k_eq0, k_nat, k_b0, k_b1, k_z1, k_z0, k_o1, k_o0, Int.reduceEq, Int.reduceLT, Int.reduceLE, Int.reduceAdd, Int.reduceMul, Int.reduceNeg, Bool.false_eq_true, or_true, true_or, or_false, false_or, and_true, true_and, and_false, false_and, not_true_eq_false, not_false_eq_true, ↓reduceIte, z_0, z_k, s_I, s_J, s_uI, s_uJ, ↓c_gP_0_0, ↓c_oc_1, ↓jc1 h]
  by_cases q7 : q = 7
  · subst q7
    have h := x_there10 (L := L) (p := p) (d := d + 1) hx
    simp (disch := first | assumption | omega) only [k_add, k_sub, k_mul, k_lt, k_eq, k_lt0, k_0lt, k_eq0, k_nat, k_b0, k_b1, k_z1, k_z0, k_o1, k_o0, Int.reduceEq, Int.reduceLT, Int.reduceLE, Int.reduceAdd, Int.reduceMul, Int.reduceNeg, Bool.false_eq_true, or_true, true_or, or_false, false_or, and_true, true_and, and_false, false_and, not_true_eq_false, not_false_eq_true, ↓reduceIte, z_0, z_k, s_I, s_J, s_uI, s_uJ, ↓c_gP_0_1, ↓c_oc_10, ↓jc1 h]
  · simp (disch := first | assumption | omega) only [k_add, k_sub, k_mul, k_lt, k_eq, k_lt0, k_0lt, k_eq0, k_nat, k_b0, k_b1, k_z1, k_z0, k_o1, k_o0, Int.reduceEq, Int.reduceLT, Int.reduceLE, Int.reduceAdd, Int.reduceMul, Int.reduceNeg, Bool.false_eq_true, or_true, true_or, or_false, false_or, and_true, true_and, and_false, false_and, not_true_eq_false, not_false_eq_true, ↓reduceIte, z_0, z_k, s_I, s_J, s_uI, s_uJ, q0, q1, q2, q3, q4, q5, q6, q7]
theorem x_digest (hx : iX I J A) : j_run (d + 4) 111 [.ref 0] (ST L p I J) = some (some (.long (p_digest A)), ST L p I J) := by
  have hC := hx.1.1
  have ho := hx.1.2.1
  have hG := hx.2.2.2.1
  have hF := hx.2.2.2.2.1
  have hT := hx.2.2.2.2.2.2.2.2.1
  have hM := hx.2.2.2.2.2.2.2.1
  have hn := hC.2.2.1
  have hn4 := hC.2.2.2.1
  obtain ⟨bN0, bN1, -⟩ := bd_N hC
  have hA := fa_31
  have hg := ga_27
  have l4 : ∀ (t M : Nat) (k : Int) (h : Int64), 0 ≤ k → k + t = 3 → j_exec k_111 h_111 (j_run (d + 3)) (M + t + 1) 181 [some (.ref 0), some (.long h), none, some (.int (j_k k)), none] [] (ST L p I J) = some (some (.long (p_add 4 (a_tz A) (fun t i => j_k (a_tv A t i)) (p_add 6 (a_rz A) (a_rv A) (p_loop (fun k h => p_mix h (if a_kp A k = true then j_k (a_kf A k 0) else j_k (-1))) t k h)))), ST L p I J) := by
    intro t
    induction t with
    | zero =>
      intro M k h k1 k2
      have z : ¬ k < 3 := by omega
      have e1 := x_add1 (L := L) (p := p) (d := d + 2) hx (h := h)
      have e2 := x_add10 (L := L) (p := p) (d := d + 2) hx (h := p_add 6 (a_rz A) (a_rv A) h)
      rw [x_exec, t_111_181]
      simp (disch := first | assumption | omega) only [k_add, k_sub, k_mul, k_lt, k_eq, k_lt0, k_0lt, k_eq0, k_nat, k_b0, k_b1, k_z1, k_z0, k_o1, k_o0, Int.reduceEq, Int.reduceLT, Int.reduceLE, Int.reduceAdd, Int.reduceMul, Int.reduceNeg, Bool.false_eq_true, or_true, true_or, or_false, false_or, and_true, true_and, and_false, false_and, not_true_eq_false, not_false_eq_true, ↓reduceIte, z_0, z_k, s_I, s_J, s_uI, s_uJ, ↓c_gP_0_5, ↓c_len_35, z, ↓c_gP_0_0, ↓c_gP_0_1, ↓c_oc_1, ↓c_oc_10, ↓jc2 e1, ↓jc2 e2]
      rfl
    | succ t ih =>
      intro M k h k1 k2
      have z : k < 3 := by omega
      have q2 := x_isKept (L := L) (p := p) (d := d + 2) hx k1 z
      rw [show M + (t + 1) + 1 = (M + t + 1) + 1 by omega, x_exec, t_111_181, p_loopS]
      by_cases y : a_kp A k = true
      · have y1 : j_z (a_kp A k = true) = j_k 1 := if_pos y
        rw [y1] at q2
        have h8 := ((hx.2.2.2.2.2.1 k k1 z).2 y).2.2.2.2.2.1
        have hK := fa_k k1 z
        have h8' : I (36 + 4 * k.toNat) 8 = j_k (a_kf A k 0) := h8
        rw [if_pos y]
        simp (disch := first | assumption | omega) only [k_add, k_sub, k_mul, k_lt, k_eq, k_lt0, k_0lt, k_eq0, k_nat, k_b0, k_b1, k_z1, k_z0, k_o1, k_o0, Int.reduceEq, Int.reduceLT, Int.reduceLE, Int.reduceAdd, Int.reduceMul, Int.reduceNeg, Bool.false_eq_true, or_true, true_or, or_false, false_or, and_true, true_and, and_false, false_and, not_true_eq_false, not_false_eq_true, ↓reduceIte, z_0, z_k, s_I, s_J, s_uI, s_uJ, ↓c_gP_0_5, ↓c_len_35, z, ↓c_oc_0, ↓jc1 q2, ↓c_qa_35, ↓f_oc hK, h8']
        exact ih M (k + 1) _ (by omega) (by omega)
      · have y1 : j_z (a_kp A k = true) = j_k 0 := if_neg y
        rw [y1] at q2
        rw [if_neg y]
        simp (disch := first | assumption | omega) only [k_add, k_sub, k_mul, k_lt, k_eq, k_lt0, k_0lt, k_eq0, k_nat, k_b0, k_b1, k_z1, k_z0, k_o1, k_o0, Int.reduceEq, Int.reduceLT, Int.reduceLE, Int.reduceAdd, Int.reduceMul, Int.reduceNeg, Bool.false_eq_true, or_true, true_or, or_false, false_or, and_true, true_and, and_false, false_and, not_true_eq_false, not_false_eq_true, ↓reduceIte, z_0, z_k, s_I, s_J, s_uI, s_uJ, ↓c_gP_0_5, ↓c_len_35, z, ↓c_oc_0, ↓jc1 q2]
        exact ih M (k + 1) _ (by omega) (by omega)
  have l3i : ∀ (t M : Nat) (k q : Int) (h : Int64), 0 ≤ k → k < a_gn A → 0 ≤ q → q + t = 3 → j_exec k_111 h_111 (j_run (d + 3)) (M + t + 1) 83 [some (.ref 0), some (.long h), none, some (.int (j_k k)), some (.int (j_k q))] [] (ST L p I J) = j_exec k_111 h_111 (j_run (d + 3)) M 69 [some (.ref 0), some (.long (p_loop (fun q h => p_mix h (j_k (p_tells (a_kd A) (a_fl A) k q))) t q h)), none, some (.int (j_k (k + 1))), none] [] (ST L p I J) := by
    intro t
    induction t with
    | zero =>
      intro M k q h k1 k2 q1 q2
      have z : ¬ q < 3 := by omega
      rw [x_exec, t_111_83]
      simp (disch := first | assumption | omega) only [k_add, k_sub, k_mul, k_lt, k_eq, k_lt0, k_0lt, k_eq0, k_nat, k_b0, k_b1, k_z1, k_z0, k_o1, k_o0, Int.reduceEq, Int.reduceLT, Int.reduceLE, Int.reduceAdd, Int.reduceMul, Int.reduceNeg, Bool.false_eq_true, or_true, true_or, or_false, false_or, and_true, true_and, and_false, false_and, not_true_eq_false, not_false_eq_true, ↓reduceIte, z_0, z_k, s_I, s_J, s_uI, s_uJ, z]
      rfl
    | succ t ih =>
      intro M k q h k1 k2 q1 q2
      have z : q < 3 := by omega
      have e1 := s_tells (L := L) (p := p) (d := d + 2) (J := J) hA hF hn4 k1 k2 q1 (show q ≤ 2 by omega)
      rw [show M + (t + 1) + 1 = (M + t + 1) + 1 by omega, x_exec, t_111_83, p_loopS]
      simp (disch := first | assumption | omega) only [k_add, k_sub, k_mul, k_lt, k_eq, k_lt0, k_0lt, k_eq0, k_nat, k_b0, k_b1, k_z1, k_z0, k_o1, k_o0, Int.reduceEq, Int.reduceLT, Int.reduceLE, Int.reduceAdd, Int.reduceMul, Int.reduceNeg, Bool.false_eq_true, or_true, true_or, or_false, false_or, and_true, true_and, and_false, false_and, not_true_eq_false, not_false_eq_true, ↓reduceIte, z_0, z_k, s_I, s_J, s_uI, s_uJ, z, ↓c_gP_0_4, ↓f_oc, ↓jc1 e1]
      exact ih M k (q + 1) _ k1 k2 (by omega) (by omega)
  have l3 : ∀ (t M : Nat) (k : Int) (h : Int64), 0 ≤ k → k + t = a_gn A → j_exec k_111 h_111 (j_run (d + 3)) (M + 5 + 5 * t) 69 [some (.ref 0), some (.long h), none, some (.int (j_k k)), none] [] (ST L p I J) = j_exec k_111 h_111 (j_run (d + 3)) (M + 4) 181 [some (.ref 0), some (.long (p_mix (p_mix (p_mix (p_mix (p_loop (fun k h => p_loop (fun q h => p_mix h (j_k (p_tells (a_kd A) (a_fl A) k q))) 3 0 h) t k h) (j_k (a_fl A 1))) (j_k (a_fl A 2))) (j_k (a_fl A 3))) (j_k (a_fl A 4)))), none, some (.int (j_k 0)), none] [] (ST L p I J) := by
    intro t
    induction t with
    | zero =>
      intro M k h k1 k2
      have z : ¬ k < a_gn A := by omega
      rw [show M + 5 + 5 * 0 = (M + 4) + 1 by omega, x_exec, t_111_69]
      simp (disch := first | assumption | omega) only [k_add, k_sub, k_mul, k_lt, k_eq, k_lt0, k_0lt, k_eq0, k_nat, k_b0, k_b1, k_z1, k_z0, k_o1, k_o0, Int.reduceEq, Int.reduceLT, Int.reduceLE, Int.reduceAdd, Int.reduceMul, Int.reduceNeg, Bool.false_eq_true, or_true, true_or, or_false, false_or, and_true, true_and, and_false, false_and, not_true_eq_false, not_false_eq_true, ↓reduceIte, z_0, z_k, s_I, s_J, s_uI, s_uJ, ↓c_gP_0_4, ↓f_oc, hF.1, z, hF.2.1, hF.2.2.1, hF.2.2.2.1, hF.2.2.2.2.1]
      rfl
    | succ t ih =>
      intro M k h k1 k2
      have z : k < a_gn A := by omega
      rw [show M + 5 + 5 * (t + 1) = ((M + 5 + 5 * t) + 3 + 1) + 1 by omega, x_exec, t_111_69, p_loopS]
      simp (disch := first | assumption | omega) only [k_add, k_sub, k_mul, k_lt, k_eq, k_lt0, k_0lt, k_eq0, k_nat, k_b0, k_b1, k_z1, k_z0, k_o1, k_o0, Int.reduceEq, Int.reduceLT, Int.reduceLE, Int.reduceAdd, Int.reduceMul, Int.reduceNeg, Bool.false_eq_true, or_true, true_or, or_false, false_or, and_true, true_and, and_false, false_and, not_true_eq_false, not_false_eq_true, ↓reduceIte, z_0, z_k, s_I, s_J, s_uI, s_uJ, ↓c_gP_0_4, ↓f_oc, hF.1, z]
      refine (l3i 3 (M + 5 + 5 * t) k 0 h k1 z (Int.le_refl 0) (by decide)).trans ?_
      exact ih M (k + 1) _ (by omega) (by omega)
  have l2 : ∀ (t M : Nat) (c : Int) (h : Int64), 0 ≤ c → c + t = a_N A → j_exec k_111 h_111 (j_run (d + 3)) (M + t + 1) 33 [some (.ref 0), some (.long h), none, some (.int (j_k c)), none] [] (ST L p I J) = j_exec k_111 h_111 (j_run (d + 3)) M 69 [some (.ref 0), some (.long (p_loop (fun c h => p_mix h (j_k (a_gr A c))) t c h)), none, some (.int (j_k 0)), none] [] (ST L p I J) := by
    intro t
    induction t with
    | zero =>
      intro M c h c1 c2
      have z : ¬ c < a_N A := by omega
      rw [x_exec, t_111_33]
      simp (disch := first | assumption | omega) only [k_add, k_sub, k_mul, k_lt, k_eq, k_lt0, k_0lt, k_eq0, k_nat, k_b0, k_b1, k_z1, k_z0, k_o1, k_o0, Int.reduceEq, Int.reduceLT, Int.reduceLE, Int.reduceAdd, Int.reduceMul, Int.reduceNeg, Bool.false_eq_true, or_true, true_or, or_false, false_or, and_true, true_and, and_false, false_and, not_true_eq_false, not_false_eq_true, ↓reduceIte, z_0, z_k, s_I, s_J, s_uI, s_uJ, ↓c_gP_0_3, ↓g_oc, hG.2.2.1, z]
      rfl
    | succ t ih =>
      intro M c h c1 c2
      have z : c < a_N A := by omega
      have c3 : c < 30 := by omega
      have hv := hG.2.2.2.1 c c1 z
      rw [show M + (t + 1) + 1 = (M + t + 1) + 1 by omega, x_exec, t_111_33, p_loopS]
      simp (disch := first | assumption | omega) only [k_add, k_sub, k_mul, k_lt, k_eq, k_lt0, k_0lt, k_eq0, k_nat, k_b0, k_b1, k_z1, k_z0, k_o1, k_o0, Int.reduceEq, Int.reduceLT, Int.reduceLE, Int.reduceAdd, Int.reduceMul, Int.reduceNeg, Bool.false_eq_true, or_true, true_or, or_false, false_or, and_true, true_and, and_false, false_and, not_true_eq_false, not_false_eq_true, ↓reduceIte, z_0, z_k, s_I, s_J, s_uI, s_uJ, ↓c_gP_0_3, ↓g_oc, ↓g_gP0, ↓g_gP1, ↓g_gP2, ↓g_ia0, ↓g_ia1, ↓g_ia2, ↓g_is0, ↓g_is1, ↓g_is2, ↓g_lt, hG.2.2.1, z, hv]
      exact ih M (c + 1) _ (by omega) (by omega)
  have l1 : ∀ (t M : Nat) (q : Int) (h : Int64), 0 ≤ q → q + t = 8 → j_exec k_111 h_111 (j_run (d + 3)) (M + t + 1) 6 [some (.ref 0), some (.long h), none, some (.int (j_k q)), none] [] (ST L p I J) = j_exec k_111 h_111 (j_run (d + 3)) M 33 [some (.ref 0), some (.long (p_loop (fun q h => p_mix h (j_k (p_countV q A))) t q h)), none, some (.int (j_k 0)), none] [] (ST L p I J) := by
    intro t
    induction t with
    | zero =>
      intro M q h q1 q2
      have z : ¬ q < 8 := by omega
      rw [x_exec, t_111_6]
      simp (disch := first | assumption | omega) only [k_add, k_sub, k_mul, k_lt, k_eq, k_lt0, k_0lt, k_eq0, k_nat, k_b0, k_b1, k_z1, k_z0, k_o1, k_o0, Int.reduceEq, Int.reduceLT, Int.reduceLE, Int.reduceAdd, Int.reduceMul, Int.reduceNeg, Bool.false_eq_true, or_true, true_or, or_false, false_or, and_true, true_and, and_false, false_and, not_true_eq_false, not_false_eq_true, ↓reduceIte, z_0, z_k, s_I, s_J, s_uI, s_uJ, z]
      rfl
    | succ t ih =>
      intro M q h q1 q2
      have z : q < 8 := by omega
      have e1 := x_count (L := L) (p := p) (d := d) hx (q := q) (by omega) (by omega)
      rw [show M + (t + 1) + 1 = (M + t + 1) + 1 by omega, x_exec, t_111_6, p_loopS]
      simp (disch := first | assumption | omega) only [k_add, k_sub, k_mul, k_lt, k_eq, k_lt0, k_0lt, k_eq0, k_nat, k_b0, k_b1, k_z1, k_z0, k_o1, k_o0, Int.reduceEq, Int.reduceLT, Int.reduceLE, Int.reduceAdd, Int.reduceMul, Int.reduceNeg, Bool.false_eq_true, or_true, true_or, or_false, false_or, and_true, true_and, and_false, false_and, not_true_eq_false, not_false_eq_true, ↓reduceIte, z_0, z_k, s_I, s_J, s_uI, s_uJ, z, ↓c_oc_0, ↓jc1 e1]
      exact ih M (q + 1) _ (by omega) (by omega)
  rw [r_111, t_111_0]
  obtain ⟨M, hM⟩ : ∃ q, 999999 = ((q + 5 + 5 * (a_gn A).toNat) + (a_N A).toNat + 1) + 8 + 1 := ⟨999984 - 5 * (a_gn A).toNat - (a_N A).toNat, by omega⟩
  rw [hM]
  refine (l1 8 _ 0 _ (Int.le_refl 0) (by decide)).trans ?_
  refine (l2 (a_N A).toNat _ 0 _ (Int.le_refl 0) (by omega)).trans ?_
  refine (l3 (a_gn A).toNat M 0 _ (Int.le_refl 0) (by omega)).trans ?_
  exact l4 3 M 0 _ (Int.le_refl 0) (by decide)
end CALLS8
