/-! ===== all of them behind a step; how many are lost ===== -/
theorem bit_test0 {s k : Int} (s0 : 0 ≤ s) (s1 : s < 16) (k0 : 0 ≤ k) (k1 : k < 4) (h : s / 2 ^ k.toNat % 2 = 0) : ¬ ((j_k s >>> (j_k k &&& 31)) &&& j_k 1) = j_k 1 := by
  have hp := pow_pos k
  have h0 : 0 ≤ s / 2 ^ k.toNat := Int.ediv_nonneg s0 (by omega)
  have h1 : s / 2 ^ k.toNat ≤ s := Int.ediv_le_self _ s0
  rw [k_shr s0 (by omega) k0 (by omega), k_par h0 (by omega), h]
  decide
section LOOKALL
variable {L d : Nat} {kd ce : Fl} {v6 v7 v8 v9 : Int32}
/-- what stands of the step for each -/
def stepI (A : Ast) (f : Fl) (W : Int) : Prop := ∀ j, 0 ≤ j → j < a_gn A → (W / 2 ^ j.toNat % 2 = 0 ∧ stays f (a_fl A) j) ∨ (W / 2 ^ j.toNat % 2 = 1 ∧ went (a_gw A) (a_gh A) (a_gr A) f (a_fl A) j)
theorem lk_all (hL : 2000 ≤ L) {f : Fl} {W : Int} (W0 : 0 ≤ W) (W1 : W < 16) : ∀ (t M p : Nat) (k : Int) (I : Nat → Nat → Int32) (J : Nat → Nat → Int64) (A : Ast), 0 ≤ k → k + t = a_gn A → 20 * t + 1 < M → iX I J A → okG (a_gw A) (a_gh A) (a_gn A) (a_gr A) kd ce → gI I (a_gw A) (a_gh A) (a_gn A) (a_gr A) kd ce → okF (a_N A) (a_gn A) 10000 f → okD (a_gr A) (a_gn A) f → stepI A f W → (∀ j, 0 ≤ j → j < k → I 88 j.toNat = j_k (a_fl A (5 + j)) ∧ I 89 j.toNat = j_k (a_fl A (9 + j))) → (∀ j, k ≤ j → j < a_gn A → I 88 j.toNat = j_k (f (5 + j)) ∧ I 89 j.toNat = j_k (f (9 + j))) → ∃ (M' p' : Nat) (I' : Nat → Nat → Int32) (J' : Nat → Nat → Int64) (x : Int32), M ≤ M' + 20 * t + 1 ∧ j_exec k_137 h_137 (j_run (d + 12)) M 209 (lwL (a_gn A) v6 v7 v8 [some (.int v9), some (.int (j_k W)), some (.int (j_k (lostK (a_fl A) k))), some (.int (j_k k)), none, none, none, none]) [] (ST L p I J) = j_exec k_137 h_137 (j_run (d + 12)) M' 423 (lwL (a_gn A) v6 v7 v8 [some (.int v9), some (.int (j_k W)), some (.int (j_k (lostK (a_fl A) (a_gn A)))), some (.int (j_k (a_gn A))), none, none, none, none]) [] (ST L p' I' J') ∧ iX I' J' (A_told A x) ∧ I' 87 = I 87 ∧ (∀ j, 0 ≤ j → j < a_gn A → I' 88 j.toNat = j_k (a_fl A (5 + j)) ∧ I' 89 j.toNat = j_k (a_fl A (9 + j)))
  | 0, M, p, k, I, J, A, k0, kt, hM, hx, hG, hI, ho, hD, hst, ha, hb => by
    obtain ⟨M, rfl⟩ : ∃ q, M = q + 1 := ⟨M - 1, by omega⟩
    have n4 := hx.1.1.2.2.2.1
    have e : k = a_gn A := by omega
    have z : ¬ a_gn A < a_gn A := by omega
    refine ⟨M, p, I, J, a_told A, by omega, ?_, hx, rfl, fun j j0 j1 => ha j j0 (by omega)⟩
    rw [x_exec, t_137_209, e]
    simp (disch := first | assumption | omega) only [k_add, k_sub, k_mul, k_lt, k_eq, k_lt0, k_0lt, k_eq0, k_nat, k_b0, k_b1, k_z1, k_z0, k_o1, k_o0, Int.reduceEq, Int.reduceLT, Int.reduceLE, Int.reduceAdd, Int.reduceMul, Int.reduceNeg, Int.reduceToNat, Bool.false_eq_true, or_true, true_or, or_false, false_or, and_true, true_and, and_false, false_and, not_true_eq_false, not_false_eq_true, ↓reduceIte, z_0, z_k, s_I, s_J, s_uI, s_uJ, z]
  | t + 1, M, p, k, I, J, A, k0, kt, hM, hx, hG, hI, ho, hD, hst, ha, hb => by
    have n4 := hx.1.1.2.2.2.1
    have hC := hx.1.1
    have z : k < a_gn A := by omega
    have k4 : k < 4 := by omega
    obtain ⟨M, rfl⟩ : ∃ q, M = q + 1 + 1 + 1 + 1 + 1 + 1 := ⟨M - 6, by omega⟩
    obtain ⟨p1, I1, J1, a1, a2, a3⟩ := c_beast (L := L) (p := p) (d := d + 1) hx (k := k) (q := 1) k0 z (by decide) (by decide)
    have a1 : j_run (d + 12) 81 [.ref 0, .int (j_k k), .int (j_k 1)] (ST L p I J) = some (some (.int (j_k 1)), ST L p1 I1 J1) := a1
    have b1 : j_run (d + 12) 133 [.ref 0, .int (j_k 1)] (ST L p1 I1 J1) = some (some (.int (j_k (a_fl A (5 + k)))), ST L p1 I1 J1) := c_tells (L := L) (p := p1) (d := d + 1) a2
    obtain ⟨p2, I2, J2, c1, c2, c3⟩ := c_beast (L := L) (p := p1) (d := d + 1) a2 (k := k) (q := 2) k0 z (by decide) (by decide)
    have c1 : j_run (d + 12) 81 [.ref 0, .int (j_k k), .int (j_k 2)] (ST L p1 I1 J1) = some (some (.int (j_k 1)), ST L p2 I2 J2) := c1
    have d1 : j_run (d + 12) 133 [.ref 0, .int (j_k 1)] (ST L p2 I2 J2) = some (some (.int (j_k (a_fl A (9 + k)))), ST L p2 I2 J2) := c_tells (L := L) (p := p2) (d := d + 1) c2
    have fr2 := a3.tr c3
    have hI2 := hI.cg (fr2.1 87 (by decide))
    have e88 : I2 88 k.toNat = j_k (f (5 + k)) := by rw [fr2.1 88 (by decide)]; exact (hb k (Int.le_refl k) z).1
    have e89 : I2 89 k.toNat = j_k (f (9 + k)) := by rw [fr2.1 89 (by decide)]; exact (hb k (Int.le_refl k) z).2
    have hold : f (5 + k) = -9 ∨ ((0 ≤ f (5 + k) ∧ f (5 + k) < a_gw A * a_gh A) ∧ a_gr A (f (5 + k)) ≠ 1 ∧ a_gr A (f (5 + k)) ≠ 2) := by
      by_cases y : f (5 + k) = -9
      · exact Or.inl y
      · exact Or.inr ⟨(ho.1 k k0 z).resolve_left y, hD k k0 z y⟩
    have hs := hst k k0 z
    obtain ⟨b, hbit, hbb⟩ : ∃ b : Int, (W / 2 ^ k.toNat % 2 = b) ∧ ((b = 0 ∧ a_fl A (5 + k) = f (5 + k) ∧ a_fl A (9 + k) = f (9 + k)) ∨ (b = 1 ∧ f (5 + k) ≠ -9 ∧ a_fl A (9 + k) = f (9 + k) + 1 ∧ (a_fl A (5 + k) = -9 ∨ ((0 ≤ a_fl A (5 + k) ∧ a_fl A (5 + k) < a_gw A * a_gh A) ∧ a_gr A (a_fl A (5 + k)) ≠ 1 ∧ a_gr A (a_fl A (5 + k)) ≠ 2 ∧ p_off (a_gw A) (a_fl A (5 + k)) (f (5 + k)) = 1)))) := by
      rcases hs with ⟨h1, h2⟩ | ⟨h1, h2, h3, c, h4, h5, h6⟩
      · exact ⟨0, h1, Or.inl ⟨rfl, h2⟩⟩
      · refine ⟨1, h1, Or.inr ⟨rfl, h2, h3, ?_⟩⟩
        rw [h6]
        by_cases y : a_gr A c = 2
        · rw [if_pos y]
          exact Or.inl rfl
        · rw [if_neg y]
          have ro := (ho.1 k k0 z).resolve_left h2
          have ha := nb_all hC ro.1 ro.2 h4
          exact Or.inr ⟨⟨ha.1, ha.2.1⟩, h5, y, ha.2.2.1⟩
    have lr := lostK_rg (F := a_fl A) k0
    have E1 : j_exec k_137 h_137 (j_run (d + 12)) (M + 1 + 1 + 1 + 1 + 1 + 1) 209 (lwL (a_gn A) v6 v7 v8 [some (.int v9), some (.int (j_k W)), some (.int (j_k (lostK (a_fl A) k))), some (.int (j_k k)), none, none, none, none]) [] (ST L p I J) = j_exec k_137 h_137 (j_run (d + 12)) (M + 1 + 1 + 1 + 1 + 1) 259 (lwL (a_gn A) v6 v7 v8 [some (.int v9), some (.int (j_k W)), some (.int (j_k (lostK (a_fl A) k))), some (.int (j_k k)), some (.int (j_k (a_fl A (5 + k)))), some (.int (j_k (a_fl A (9 + k)))), some (.int (j_k b)), none]) [] (ST L p2 I2 J2) := by
      rw [x_exec, t_137_209]
      rcases hbb with ⟨rfl, -⟩ | ⟨rfl, -⟩
      · have ht := bit_test0 W0 W1 k0 k4 hbit
        simp (disch := first | assumption | omega) only [k_add, k_sub, k_mul, k_lt, k_eq, k_lt0, k_0lt, k_eq0, k_nat, k_b0, k_b1, k_z1, k_z0, k_o1, k_o0, Int.reduceEq, Int.reduceLT, Int.reduceLE, Int.reduceAdd, Int.reduceMul, Int.reduceNeg, Int.reduceToNat, Bool.false_eq_true, or_true, true_or, or_false, false_or, and_true, true_and, and_false, false_and, not_true_eq_false, not_false_eq_true, ↓reduceIte, z_0, z_k, s_I, s_J, s_uI, s_uJ, z, ↓c_oc_0, ↓jc1 a1, ↓jc1 b1, ↓jc1 c1, ↓jc1 d1, ht]
      · have ht := bit_test W0 W1 k0 k4 hbit
        simp (disch := first | assumption | omega) only [k_add, k_sub, k_mul, k_lt, k_eq, k_lt0, k_0lt, k_eq0, k_nat, k_b0, k_b1, k_z1, k_z0, k_o1, k_o0, Int.reduceEq, Int.reduceLT, Int.reduceLE, Int.reduceAdd, Int.reduceMul, Int.reduceNeg, Int.reduceToNat, Bool.false_eq_true, or_true, true_or, or_false, false_or, and_true, true_and, and_false, false_and, not_true_eq_false, not_false_eq_true, ↓reduceIte, z_0, z_k, s_I, s_J, s_uI, s_uJ, z, ↓c_oc_0, ↓jc1 a1, ↓jc1 b1, ↓jc1 c1, ↓jc1 d1, ht]
    have E2 := lk_chk (L := L) (p := p2) (d := d) (J := J2) (v6 := v6) (v7 := v7) (v8 := v8) (v9 := v9) (v10 := j_k W) hL hG hI2 k0 k4 lr.1 (show lostK (a_fl A) k < 100 by omega) e88 e89 hold hbb (M := M)
    rw [← lostK_S k0] at E2
    obtain ⟨M3, p3, I3, J3, x, o1, o2, o3, o4⟩ := lk_far (L := L) (d := d) (n := a_gn A) (v6 := v6) (v7 := v7) (v8 := v8) (v9 := v9) (v10 := j_k W) (v11 := j_k (lostK (a_fl A) (k + 1))) (v14 := j_k (a_fl A (9 + k))) (v15 := j_k b) (now := a_fl A (5 + k)) k4 k.toNat M p2 0 I2 J2 _ (Int.le_refl 0) (by omega) (by show k < a_gn A; exact z) (by rfl) (by omega) c2
    obtain ⟨M3, rfl⟩ : ∃ q, M3 = q + 1 := ⟨M3 - 1, by omega⟩
    have f3 := fr2.tr o4
    have hx4 : iX (u2 (u2 I3 88 k.toNat (j_k (a_fl A (5 + k)))) 89 k.toNat (j_k (a_fl A (9 + k)))) J3 (A_told A x) := iX.hi o3 (fun r hr => by rw [u2_row (by omega), u2_row (by omega)]) rfl
    have g87 : u2 (u2 I3 88 k.toNat (j_k (a_fl A (5 + k)))) 89 k.toNat (j_k (a_fl A (9 + k))) 87 = I 87 := by
      rw [u2_row (by decide), u2_row (by decide)]
      exact f3.1 87 (by decide)
    obtain ⟨M4, p4, I4, J4, x', w1, w2, w3, w4, w5⟩ := lk_all hL W0 W1 t M3 p3 (k + 1) _ J3 _ (by omega) (by show k + 1 + t = a_gn A; omega) (by omega) hx4 hG (hI.cg g87) ho hD hst (fun j j0 j1 => by
      show _ = j_k (a_fl A (5 + j)) ∧ _ = j_k (a_fl A (9 + j))
      by_cases y : j = k
      · subst y
        rw [u2_r (by decide), u2_ss, u2_ss]
        exact ⟨rfl, rfl⟩
      · rw [u2_r (by decide), u2_k (by omega), u2_k (by omega), u2_r (by decide), f3.1 88 (by decide), f3.1 89 (by decide)]
        exact ha j j0 (by omega)) (fun j j0 j1 => by
      rw [u2_r (by decide), u2_k (by omega), u2_k (by omega), u2_r (by decide), f3.1 88 (by decide), f3.1 89 (by decide)]
      exact hb j (by omega) j1)
    refine ⟨M4, p4, I4, J4, x', by omega, ?_, w3, w4.trans g87, w5⟩
    have z2 : ¬ k < k := by omega
    rw [E1, E2, o2, x_exec, t_137_367]
    simp (disch := first | assumption | omega) only [k_add, k_sub, k_mul, k_lt, k_eq, k_lt0, k_0lt, k_eq0, k_nat, k_b0, k_b1, k_z1, k_z0, k_o1, k_o0, Int.reduceEq, Int.reduceLT, Int.reduceLE, Int.reduceAdd, Int.reduceMul, Int.reduceNeg, Int.reduceToNat, Bool.false_eq_true, or_true, true_or, or_false, false_or, and_true, true_and, and_false, false_and, not_true_eq_false, not_false_eq_true, ↓reduceIte, z_0, z_k, s_I, s_J, s_uI, s_uJ, z2, ↓c_is_88 hL, ↓c_is_89 hL]
    exact w2
end LOOKALL
