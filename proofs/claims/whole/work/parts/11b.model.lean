/-! ===== the model: flocks copied, the lost, who is in a cell ===== -/
/-- only the row l of the flocks has changed, and there no cell of beasts that are not -/
def frM (n l : Int) (I I' : Nat → Nat → Int32) : Prop := (∀ r, r ≠ 99 → I' r = I r) ∧ ∀ q : Int, 0 ≤ q → (q < 13 * l ∨ 13 * l + 13 ≤ q ∨ (13 * l + (5 + n) ≤ q ∧ q < 13 * l + 9)) → I' 99 q.toNat = I 99 q.toNat
theorem frM.rf {n l : Int} {I : Nat → Nat → Int32} : frM n l I I := ⟨fun _ _ => rfl, fun _ _ _ => rfl⟩
theorem frM.tr {n l : Int} {I I' I'' : Nat → Nat → Int32} (h : frM n l I I') (h' : frM n l I' I'') : frM n l I I'' := ⟨fun r a => (h'.1 r a).trans (h.1 r a), fun q a b => (h'.2 q a b).trans (h.2 q a b)⟩
section MODEL2
variable {L p d : Nat} {I : Nat → Nat → Int32} {J : Nat → Nat → Int64} {n : Int} {f : Fl}
theorem n_copy {k l : Int} (k1 : 0 ≤ k) (k2 : k < 9) (l1 : 0 ≤ l) (l2 : l < 9) (hkl : k ≠ l) : ∃ I', j_run (d + 2) 164 [.ref 87, .int (j_k k), .int (j_k l)] (ST L p I J) = some (none, ST L p I' J) ∧ (∀ j : Int, 0 ≤ j → j < 13 → I' 99 (13 * l + j).toNat = I 99 (13 * k + j).toNat) ∧ frM 4 l I I' := by
  have loop : ∀ (t M : Nat) (i : Int) (I1 : Nat → Nat → Int32), 0 ≤ i → i + t = 13 → t < M → (∀ j : Int, 0 ≤ j → j < i → I1 99 (13 * l + j).toNat = I 99 (13 * k + j).toNat) → frM 4 l I I1 → ∃ I', j_exec k_164 h_164 (j_run (d + 1)) M 2 [some (.ref 87), some (.int (j_k k)), some (.int (j_k l)), some (.int (j_k i))] [] (ST L p I1 J) = some (none, ST L p I' J) ∧ (∀ j : Int, 0 ≤ j → j < 13 → I' 99 (13 * l + j).toNat = I 99 (13 * k + j).toNat) ∧ frM 4 l I I' := by
    intro t
    induction t with
    | zero =>
      intro M i I1 i1 i2 hM h1 h2
      obtain ⟨M, rfl⟩ : ∃ q, M = q + 1 := ⟨M - 1, by omega⟩
      have z : ¬ i < 13 := by omega
      refine ⟨I1, ?_, fun j j1 j2 => h1 j j1 (by omega), h2⟩
      rw [x_exec, t_164_2]
      simp (disch := first | assumption | omega) only [k_add, k_sub, k_mul, k_lt, k_eq, k_lt0, k_0lt, k_eq0, k_nat, k_b0, k_b1, k_z1, k_z0, k_o1, k_o0, Int.reduceEq, Int.reduceLT, Int.reduceLE, Int.reduceAdd, Int.reduceMul, Int.reduceNeg, Bool.false_eq_true, or_true, true_or, or_false, false_or, and_true, true_and, and_false, false_and, not_true_eq_false, not_false_eq_true, ↓reduceIte, z_0, z_k, s_I, s_J, s_uI, s_uJ, z]
    | succ t ih =>
      intro M i I1 i1 i2 hM h1 h2
      obtain ⟨M, rfl⟩ : ∃ q, M = q + 1 := ⟨M - 1, by omega⟩
      have z : i < 13 := by omega
      have q1 := n_v (L := L) (p := p) (d := d) (I := I1) (J := J) k1 k2 i1 z
      have q2 := n_place (L := L) (p := p) (d := d) (I := I1) (J := J) (v := I1 99 (13 * k + i).toNat) l1 l2 i1 z
      have hk : I1 99 (13 * k + i).toNat = I 99 (13 * k + i).toNat := h2.2 (13 * k + i) (by omega) (by omega)
      obtain ⟨I', e1, e2, e3⟩ := ih M (i + 1) (u2 I1 99 (13 * l + i).toNat (I1 99 (13 * k + i).toNat)) (by omega) (by omega) (by omega) (fun j j1 j2 => by
        by_cases x : j = i
        · subst x
          rw [u2_ss]
          exact hk
        · rw [u2_k (by omega)]
          exact h1 j j1 (by omega)) ⟨fun r a => by
          rw [← h2.1 r a]
          funext m
          rw [u2_r a], fun q a b => by
          rw [u2_k (by omega)]
          exact h2.2 q a b⟩
      refine ⟨I', ?_, e2, e3⟩
      rw [x_exec, t_164_2]
      simp (disch := first | assumption | omega) only [k_add, k_sub, k_mul, k_lt, k_eq, k_lt0, k_0lt, k_eq0, k_nat, k_b0, k_b1, k_z1, k_z0, k_o1, k_o0, Int.reduceEq, Int.reduceLT, Int.reduceLE, Int.reduceAdd, Int.reduceMul, Int.reduceNeg, Bool.false_eq_true, or_true, true_or, or_false, false_or, and_true, true_and, and_false, false_and, not_true_eq_false, not_false_eq_true, ↓reduceIte, z_0, z_k, s_I, s_J, s_uI, s_uJ, z, ↓c_oc_87, ↓jc1 q1, ↓jc0 q2]
      exact e1
  rw [r_164, t_164_0]
  exact loop 13 999999 0 I (Int.le_refl 0) (by decide) (by decide) (fun j j1 j2 => absurd j2 (by omega)) frM.rf
theorem n_lost {k N b : Int} (k1 : 0 ≤ k) (k2 : k < 9) (hn : I 87 13 = j_k n) (n1 : 0 ≤ n) (n4 : n ≤ 4) (hf : iM1 I k n f) (ho : okF N n b f) (hN : N ≤ 30) : j_run (d + 3) 166 [.ref 87, .int (j_k k)] (ST L p I J) = some (some (.int (j_k (p_lost n f))), ST L p I J) := by
  have loop : ∀ (t M : Nat) (i s : Int), 0 ≤ i → i + t = n → t < M → j_exec k_166 h_166 (j_run (d + 2)) M 4 [some (.ref 87), some (.int (j_k k)), some (.int (j_k s)), some (.int (j_k i))] [] (ST L p I J) = some (some (.int (j_k (p_loop (fun k s => if f (5 + k) = -9 then s + 1 else s) t i s))), ST L p I J) := by
    intro t
    induction t with
    | zero =>
      intro M i s i1 i2 hM
      obtain ⟨M, rfl⟩ : ∃ q, M = q + 1 := ⟨M - 1, by omega⟩
      have z : ¬ i < n := by omega
      rw [x_exec, t_166_4]
      simp (disch := first | assumption | omega) only [k_add, k_sub, k_mul, k_lt, k_eq, k_lt0, k_0lt, k_eq0, k_nat, k_b0, k_b1, k_z1, k_z0, k_o1, k_o0, Int.reduceEq, Int.reduceLT, Int.reduceLE, Int.reduceAdd, Int.reduceMul, Int.reduceNeg, Bool.false_eq_true, or_true, true_or, or_false, false_or, and_true, true_and, and_false, false_and, not_true_eq_false, not_false_eq_true, ↓reduceIte, z_0, z_k, s_I, s_J, s_uI, s_uJ, ↓c_oc_87, hn, z]
      rfl
    | succ t ih =>
      intro M i s i1 i2 hM
      obtain ⟨M, rfl⟩ : ∃ q, M = q + 1 := ⟨M - 1, by omega⟩
      have z : i < n := by omega
      have q1 := n_isLost (L := L) (p := p) (d := d) (J := J) k1 k2 hf ho hN i1 z n4
      rw [x_exec, t_166_4, p_loopS]
      by_cases x : f (5 + i) = -9
      · have x1 : j_z (f (5 + i) = -9) = j_k 1 := if_pos x
        rw [x1] at q1
        rw [if_pos x]
        simp (disch := first | assumption | omega) only [k_add, k_sub, k_mul, k_lt, k_eq, k_lt0, k_0lt, k_eq0, k_nat, k_b0, k_b1, k_z1, k_z0, k_o1, k_o0, Int.reduceEq, Int.reduceLT, Int.reduceLE, Int.reduceAdd, Int.reduceMul, Int.reduceNeg, Bool.false_eq_true, or_true, true_or, or_false, false_or, and_true, true_and, and_false, false_and, not_true_eq_false, not_false_eq_true, ↓reduceIte, z_0, z_k, s_I, s_J, s_uI, s_uJ, ↓c_oc_87, hn, z, ↓jc1 q1]
        exact ih M (i + 1) (s + 1) (by omega) (by omega) (by omega)
      · have x1 : j_z (f (5 + i) = -9) = j_k 0 := if_neg x
        rw [x1] at q1
        rw [if_neg x]
        simp (disch := first | assumption | omega) only [k_add, k_sub, k_mul, k_lt, k_eq, k_lt0, k_0lt, k_eq0, k_nat, k_b0, k_b1, k_z1, k_z0, k_o1, k_o0, Int.reduceEq, Int.reduceLT, Int.reduceLE, Int.reduceAdd, Int.reduceMul, Int.reduceNeg, Bool.false_eq_true, or_true, true_or, or_false, false_or, and_true, true_and, and_false, false_and, not_true_eq_false, not_false_eq_true, ↓reduceIte, z_0, z_k, s_I, s_J, s_uI, s_uJ, ↓c_oc_87, hn, z, ↓jc1 q1]
        rw [Int.add_zero]
        exact ih M (i + 1) s (by omega) (by omega) (by omega)
  rw [r_166, t_166_0]
  exact loop n.toNat 999999 0 0 (Int.le_refl 0) (by omega) (by omega)
end MODEL2
