/-! ===== the class's grounds ===== -/
def p_gates (N : Int) (gr : Fl) (kind : Int) : Int := p_loop (fun c s => if gr c = kind then s + 1 else s) N.toNat 0 0
def iGc (I : Nat → Nat → Int32) (g : Nat) (w S : Int) : Prop := (∀ c : Int, 0 ≤ c → c < S → I (g + 2) c.toNat = j_k (c % w)) ∧ (∀ c : Int, 0 ≤ c → c < S → I (g + 3) c.toNat = j_k (c / w))
def frg (g : Nat) (I I' : Nat → Nat → Int32) : Prop := (∀ r, r ≠ g → r ≠ g + 2 → r ≠ g + 3 → I' r = I r) ∧ ∀ k, k ≠ 5 → I' g k = I g k
section GROUNDS
variable {L p a g d : Nat} {I : Nat → Nat → Int32} {J : Nat → Nat → Int64} {n w h N b : Int} {kd f gr : Fl}
theorem s_ghas (hg : GA g) (hG : iG I g w h N gr) (hN : 0 ≤ N) (hN2 : N ≤ 30) {c : Int} (c1 : -2147483648 ≤ c) (c2 : c < 2147483648) : j_run (d + 1) 35 [.ref g, .int (j_k c)] (ST L p I J) = some (some (.int (j_z (0 ≤ c ∧ c < N))), ST L p I J) := by
  obtain ⟨g3, g4, g5, g1, g2, g6⟩ := hG
  rw [r_35, t_35_0]
  simp (disch := first | assumption | omega) only [k_add, k_sub, k_mul, k_lt, k_eq, k_lt0, k_0lt, k_eq0, k_nat, k_b0, k_b1, k_z1, k_z0, k_o1, k_o0, Int.reduceEq, Int.reduceLT, Int.reduceLE, Int.reduceAdd, Int.reduceMul, Int.reduceNeg, Bool.false_eq_true, or_true, true_or, or_false, false_or, and_true, true_and, and_false, false_and, not_true_eq_false, not_false_eq_true, ↓reduceIte, z_0, z_k, s_I, s_J, s_uI, s_uJ, g_oc, g_gP0, g_gP1, g_gP2, g_ia0, g_ia1, g_ia2, g_is0, g_is1, g_is2, g_lt, g5]
  unfold j_z
  ((repeat' split) <;> first | rfl | (exfalso; omega))
theorem frg.tr {I I' I'' : Nat → Nat → Int32} (h1 : frg g I I') (h2 : frg g I' I'') : frg g I I'' := ⟨fun r a b c => (h2.1 r a b c).trans (h1.1 r a b c), fun k hk => (h2.2 k hk).trans (h1.2 k hk)⟩
theorem s_spread (hg : GA g) (w1 : 2 ≤ w) (w2 : w ≤ 6) (h1 : 1 ≤ h) (h2 : h ≤ 5) : ∃ I', j_run (d + 1) 33 [.ref g, .int (j_k w), .int (j_k h)] (ST L p I J) = some (none, ST L p I' J) ∧ I' g 3 = j_k w ∧ I' g 4 = j_k h ∧ I' g 5 = j_k (w * h) ∧ iGc I' g w (w * h) ∧ (∀ r, r ≠ g → r ≠ g + 2 → r ≠ g + 3 → I' r = I r) := by
  have hN : w * h ≤ 30 := by
    rcases (show w = 2 ∨ w = 3 ∨ w = 4 ∨ w = 5 ∨ w = 6 by omega) with rfl | rfl | rfl | rfl | rfl <;> omega
  have inner : ∀ (m M : Nat) (x y : Int) (I1 : Nat → Nat → Int32), 0 ≤ x → x + m = w → 0 ≤ y → y < h → I1 g 5 = j_k (w * y + x) → iGc I1 g w (w * y + x) →
      ∃ I', j_exec k_33 h_33 (j_run d) (M + m + 1) 25 [some (.ref g), some (.int (j_k w)), some (.int (j_k h)), some (.int (j_k y)), some (.int (j_k x))] [] (ST L p I1 J) = j_exec k_33 h_33 (j_run d) M 17 [some (.ref g), some (.int (j_k w)), some (.int (j_k h)), some (.int (j_k (y + 1))), none] [] (ST L p I' J) ∧ I' g 5 = j_k (w * (y + 1)) ∧ iGc I' g w (w * (y + 1)) ∧ frg g I1 I' := by
    intro m
    induction m with
    | zero =>
      intro M x y I1 x1 x2 y1 y2 i5 ic
      have z : ¬ x < w := by omega
      have e : w * (y + 1) = w * y + x := by rw [Int.mul_add, Int.mul_one]; omega
      refine ⟨I1, ?_, by rw [e]; exact i5, by rw [e]; exact ic, fun _ _ _ _ => rfl, fun _ _ => rfl⟩
      rw [x_exec, t_33_25]
      simp (disch := first | assumption | omega) only [k_add, k_sub, k_mul, k_lt, k_eq, k_lt0, k_0lt, k_eq0, k_nat, k_b0, k_b1, k_z1, k_z0, k_o1, k_o0, Int.reduceEq, Int.reduceLT, Int.reduceLE, Int.reduceAdd, Int.reduceMul, Int.reduceNeg, Bool.false_eq_true, or_true, true_or, or_false, false_or, and_true, true_and, and_false, false_and, not_true_eq_false, not_false_eq_true, ↓reduceIte, z_0, z_k, s_I, s_J, s_uI, s_uJ, z]
    | succ m ih =>
      intro M x y I1 x1 x2 y1 y2 i5 ic
      have z : x < w := by omega
      obtain ⟨r1, r2⟩ := cell_rg x1 z y1 y2
      obtain ⟨c1, c2⟩ := cell_xy (y := y) x1 z
      have z2 : w * y + x < 30 := by omega
      have ih2 := ih M (x + 1) y (u2 (u2 (u2 I1 (g + 2) (w * y + x).toNat (j_k x)) (g + 3) (w * y + x).toNat (j_k y)) g 5 (j_k (w * y + x + 1))) (by omega) (by omega) y1 y2 (by rw [u2_ss]; congr 1; omega) ⟨fun c q1 q2 => by
          simp (disch := first | assumption | omega) only [k_add, k_sub, k_mul, k_lt, k_eq, k_lt0, k_0lt, k_eq0, k_nat, k_b0, k_b1, k_z1, k_z0, k_o1, k_o0, Int.reduceEq, Int.reduceLT, Int.reduceLE, Int.reduceAdd, Int.reduceMul, Int.reduceNeg, Bool.false_eq_true, or_true, true_or, or_false, false_or, and_true, true_and, and_false, false_and, not_true_eq_false, not_false_eq_true, ↓reduceIte, z_0, z_k, s_I, s_J, s_uI, s_uJ, u2_ss, u2_k, u2_r]
          by_cases q3 : c = w * y + x
          · subst q3
            rw [u2_ss, c1]
          · rw [u2_k (by omega)]
            exact ic.1 c q1 (by omega), fun c q1 q2 => by
          simp (disch := first | assumption | omega) only [k_add, k_sub, k_mul, k_lt, k_eq, k_lt0, k_0lt, k_eq0, k_nat, k_b0, k_b1, k_z1, k_z0, k_o1, k_o0, Int.reduceEq, Int.reduceLT, Int.reduceLE, Int.reduceAdd, Int.reduceMul, Int.reduceNeg, Bool.false_eq_true, or_true, true_or, or_false, false_or, and_true, true_and, and_false, false_and, not_true_eq_false, not_false_eq_true, ↓reduceIte, z_0, z_k, s_I, s_J, s_uI, s_uJ, u2_ss, u2_k, u2_r]
          by_cases q3 : c = w * y + x
          · subst q3
            rw [u2_ss, c2]
          · rw [u2_k (by omega), u2_r (by omega)]
            exact ic.2 c q1 (by omega)⟩
      obtain ⟨I', e1, e2, e3, e4⟩ := ih2
      refine ⟨I', ?_, e2, e3, ⟨fun r a1 a2 a3 => (e4.1 r a1 a2 a3).trans ?_, fun k hk => (e4.2 k hk).trans ?_⟩⟩
      · rw [show M + (m + 1) + 1 = (M + m + 1) + 1 by omega, x_exec, t_33_25]
        simp (disch := first | assumption | omega) only [k_add, k_sub, k_mul, k_lt, k_eq, k_lt0, k_0lt, k_eq0, k_nat, k_b0, k_b1, k_z1, k_z0, k_o1, k_o0, Int.reduceEq, Int.reduceLT, Int.reduceLE, Int.reduceAdd, Int.reduceMul, Int.reduceNeg, Bool.false_eq_true, or_true, true_or, or_false, false_or, and_true, true_and, and_false, false_and, not_true_eq_false, not_false_eq_true, ↓reduceIte, z_0, z_k, s_I, s_J, s_uI, s_uJ, g_oc, g_gP0, g_gP1, g_gP2, g_ia0, g_ia1, g_ia2, g_is0, g_is1, g_is2, g_lt, z, i5, z2, u2_ss, u2_k, u2_r]
        exact e1
      · funext i
        simp (disch := first | assumption | omega) only [k_add, k_sub, k_mul, k_lt, k_eq, k_lt0, k_0lt, k_eq0, k_nat, k_b0, k_b1, k_z1, k_z0, k_o1, k_o0, Int.reduceEq, Int.reduceLT, Int.reduceLE, Int.reduceAdd, Int.reduceMul, Int.reduceNeg, Bool.false_eq_true, or_true, true_or, or_false, false_or, and_true, true_and, and_false, false_and, not_true_eq_false, not_false_eq_true, ↓reduceIte, z_0, z_k, s_I, s_J, s_uI, s_uJ, u2_r]
      · simp (disch := first | assumption | omega) only [k_add, k_sub, k_mul, k_lt, k_eq, k_lt0, k_0lt, k_eq0, k_nat, k_b0, k_b1, k_z1, k_z0, k_o1, k_o0, Int.reduceEq, Int.reduceLT, Int.reduceLE, Int.reduceAdd, Int.reduceMul, Int.reduceNeg, Bool.false_eq_true, or_true, true_or, or_false, false_or, and_true, true_and, and_false, false_and, not_true_eq_false, not_false_eq_true, ↓reduceIte, z_0, z_k, s_I, s_J, s_uI, s_uJ, u2_k, u2_r]
  have outer : ∀ (m M : Nat) (y : Int) (I1 : Nat → Nat → Int32), 0 ≤ y → y + m = h → I1 g 5 = j_k (w * y) → iGc I1 g w (w * y) →
      ∃ I', j_exec k_33 h_33 (j_run d) (M + 20 * m + 1) 17 [some (.ref g), some (.int (j_k w)), some (.int (j_k h)), some (.int (j_k y)), none] [] (ST L p I1 J) = some (none, ST L p I' J) ∧ I' g 5 = j_k (w * h) ∧ iGc I' g w (w * h) ∧ frg g I1 I' := by
    intro m
    induction m with
    | zero =>
      intro M y I1 y1 y2 i5 ic
      have z : ¬ y < h := by omega
      have e : h = y := by omega
      refine ⟨I1, ?_, by rw [e]; exact i5, by rw [e]; exact ic, fun _ _ _ _ => rfl, fun _ _ => rfl⟩
      rw [x_exec, t_33_17]
      simp (disch := first | assumption | omega) only [k_add, k_sub, k_mul, k_lt, k_eq, k_lt0, k_0lt, k_eq0, k_nat, k_b0, k_b1, k_z1, k_z0, k_o1, k_o0, Int.reduceEq, Int.reduceLT, Int.reduceLE, Int.reduceAdd, Int.reduceMul, Int.reduceNeg, Bool.false_eq_true, or_true, true_or, or_false, false_or, and_true, true_and, and_false, false_and, not_true_eq_false, not_false_eq_true, ↓reduceIte, z_0, z_k, s_I, s_J, s_uI, s_uJ, z]
    | succ m ih =>
      intro M y I1 y1 y2 i5 ic
      have z : y < h := by omega
      obtain ⟨M2, hM2⟩ : ∃ q, M + 20 * (m + 1) = (q + 20 * m + 1) + w.toNat + 1 := ⟨M + 18 - w.toNat, by omega⟩
      obtain ⟨I2, a1, a2, a3, a4⟩ := inner w.toNat (M2 + 20 * m + 1) 0 y I1 (Int.le_refl 0) (by omega) y1 z (by rw [i5, Int.add_zero]) (by rw [Int.add_zero]; exact ic)
      obtain ⟨I3, q1, q2, q3, q4⟩ := ih M2 (y + 1) I2 (by omega) (by omega) a2 a3
      refine ⟨I3, ?_, q2, q3, a4.tr q4⟩
      rw [x_exec, t_33_17]
      simp (disch := first | assumption | omega) only [k_add, k_sub, k_mul, k_lt, k_eq, k_lt0, k_0lt, k_eq0, k_nat, k_b0, k_b1, k_z1, k_z0, k_o1, k_o0, Int.reduceEq, Int.reduceLT, Int.reduceLE, Int.reduceAdd, Int.reduceMul, Int.reduceNeg, Bool.false_eq_true, or_true, true_or, or_false, false_or, and_true, true_and, and_false, false_and, not_true_eq_false, not_false_eq_true, ↓reduceIte, z_0, z_k, s_I, s_J, s_uI, s_uJ, z]
      rw [hM2, a1, q1]
  have O := outer h.toNat (999998 - 20 * h.toNat) 0 (u2 (u2 (u2 I g 3 (j_k w)) g 4 (j_k h)) g 5 (j_k 0)) (Int.le_refl 0) (by omega) (by rw [u2_ss, Int.mul_zero]) ⟨fun c q1 q2 => by rw [Int.mul_zero] at q2; omega, fun c q1 q2 => by rw [Int.mul_zero] at q2; omega⟩
  obtain ⟨I', e1, e2, e3, e4⟩ := O
  refine ⟨I', ?_, ?_, ?_, e2, e3, fun r a1 a2 a3 => (e4.1 r a1 a2 a3).trans ?_⟩
  · rw [r_33, t_33_0]
    simp (disch := first | assumption | omega) only [k_add, k_sub, k_mul, k_lt, k_eq, k_lt0, k_0lt, k_eq0, k_nat, k_b0, k_b1, k_z1, k_z0, k_o1, k_o0, Int.reduceEq, Int.reduceLT, Int.reduceLE, Int.reduceAdd, Int.reduceMul, Int.reduceNeg, Bool.false_eq_true, or_true, true_or, or_false, false_or, and_true, true_and, and_false, false_and, not_true_eq_false, not_false_eq_true, ↓reduceIte, z_0, z_k, s_I, s_J, s_uI, s_uJ, g_oc, g_gP0, g_gP1, g_gP2, g_ia0, g_ia1, g_ia2, g_is0, g_is1, g_is2, g_lt]
    rw [show 999998 - 20 * h.toNat + 20 * h.toNat + 1 = 999999 by omega] at e1
    exact e1
  · rw [e4.2 3 (by decide)]
    simp (disch := first | assumption | omega) only [k_add, k_sub, k_mul, k_lt, k_eq, k_lt0, k_0lt, k_eq0, k_nat, k_b0, k_b1, k_z1, k_z0, k_o1, k_o0, Int.reduceEq, Int.reduceLT, Int.reduceLE, Int.reduceAdd, Int.reduceMul, Int.reduceNeg, Bool.false_eq_true, or_true, true_or, or_false, false_or, and_true, true_and, and_false, false_and, not_true_eq_false, not_false_eq_true, ↓reduceIte, z_0, z_k, s_I, s_J, s_uI, s_uJ, u2_ss, u2_k]
  · rw [e4.2 4 (by decide)]
    simp (disch := first | assumption | omega) only [k_add, k_sub, k_mul, k_lt, k_eq, k_lt0, k_0lt, k_eq0, k_nat, k_b0, k_b1, k_z1, k_z0, k_o1, k_o0, Int.reduceEq, Int.reduceLT, Int.reduceLE, Int.reduceAdd, Int.reduceMul, Int.reduceNeg, Bool.false_eq_true, or_true, true_or, or_false, false_or, and_true, true_and, and_false, false_and, not_true_eq_false, not_false_eq_true, ↓reduceIte, z_0, z_k, s_I, s_J, s_uI, s_uJ, u2_ss, u2_k]
  · funext i
    simp (disch := first | assumption | omega) only [k_add, k_sub, k_mul, k_lt, k_eq, k_lt0, k_0lt, k_eq0, k_nat, k_b0, k_b1, k_z1, k_z0, k_o1, k_o0, Int.reduceEq, Int.reduceLT, Int.reduceLE, Int.reduceAdd, Int.reduceMul, Int.reduceNeg, Bool.false_eq_true, or_true, true_or, or_false, false_or, and_true, true_and, and_false, false_and, not_true_eq_false, not_false_eq_true, ↓reduceIte, z_0, z_k, s_I, s_J, s_uI, s_uJ, u2_r]
theorem q_ac {r q n0 n1 : Nat} {sp dp m : Int} {K : Sto → Option Rr} (e1 : SH L r = some (.inr (.int, n0))) (e2 : SH L q = some (.inr (.int, n1))) (hr : r < 1000000) (hq : q < 1000000) (s0 : 0 ≤ sp) (d0 : 0 ≤ dp) (m0 : 0 ≤ m) (s1 : sp + m ≤ n0) (d1 : dp + m ≤ n1) (hn0 : n0 ≤ 1000) (hn1 : n1 ≤ 1000) : j_ac (ST L p I J) r (j_k sp) q (j_k dp) (j_k m) K = K (ST L p (u1 I q (va_cpy (I r) (I q) sp.toNat dp.toNat m.toNat)) J) := by
  unfold j_ac
  show (match SH L r, SH L q with
    | some (.inr (.int, n0)), some (.inr (.int, n1)) => _
    | _, _ => _) = _
  rw [e1, e2]
  show (if _ then _ else _) = _
  rw [if_pos ⟨hr, hq, by rw [k_lt0 (by omega) (by omega)]; omega, by rw [k_lt0 (by omega) (by omega)]; omega, by rw [k_lt0 (by omega) (by omega)]; omega, by rw [k_nat (by omega) (by omega), k_nat (by omega) (by omega)]; omega, by rw [k_nat (by omega) (by omega), k_nat (by omega) (by omega)]; omega⟩, k_nat (by omega) (by omega), k_nat (by omega) (by omega), k_nat (by omega) (by omega)]
/-- the reader's ground comes to the class's -/
theorem s_gtake (hG : iG I 18 w h N gr) (hC : okC w h N n gr kd) (w1 : 2 ≤ w) : ∃ I', j_run (d + 2) 34 [.ref 27, .ref 18] (ST L p I J) = some (none, ST L p I' J) ∧ iG I' 27 w h N gr ∧ (∀ r, (r < 27 ∨ 31 ≤ r) → I' r = I r) := by
  obtain ⟨b1, b2, -⟩ := bd_N hC
  have hw := hC.2.1
  have hw : 2 ≤ w ∧ w ≤ 6 ∧ 1 ≤ h ∧ h ≤ 5 := hw.resolve_right (fun z => by omega)
  obtain ⟨g3, g4, g5, g1, g2, g6⟩ := hG
  obtain ⟨I1, a1, a2, a3, a4, a5, a6⟩ := s_spread (L := L) (p := p) (d := d) (I := I) (J := J) ga_27 hw.1 hw.2.1 hw.2.2.1 hw.2.2.2
  refine ⟨u1 I1 28 (va_cpy (I1 19) (I1 28) (0 : Int).toNat (0 : Int).toNat (30 : Int).toNat), ?_, ⟨?_, ?_, ?_, fun c c1 c2 => ?_, fun c c1 c2 => ?_, fun c c1 c2 => ?_⟩, fun r hr => ?_⟩
  · rw [r_34, t_34_0]
    simp (disch := first | assumption | omega) only [k_add, k_sub, k_mul, k_lt, k_eq, k_lt0, k_0lt, k_eq0, k_nat, k_b0, k_b1, k_z1, k_z0, k_o1, k_o0, Int.reduceEq, Int.reduceLT, Int.reduceLE, Int.reduceAdd, Int.reduceMul, Int.reduceNeg, Bool.false_eq_true, or_true, true_or, or_false, false_or, and_true, true_and, and_false, false_and, not_true_eq_false, not_false_eq_true, ↓reduceIte, z_0, z_k, s_I, s_J, s_uI, s_uJ, c_oc_18, c_oc_27, g3, g4, jc0 a1, c_gP_18_0, c_gP_27_0]
    rw [q_ac (n0 := 30) (n1 := 30) rfl rfl (by decide) (by decide) (by decide) (by decide) (by decide) (by decide) (by decide) (by decide) (by decide)]
  · rw [u1_ne (by decide), a2]
  · rw [u1_ne (by decide), a3]
  · rw [u1_ne (by decide), a4, hC.1]
  · rw [u1_same]
    unfold va_cpy
    rw [if_pos ⟨Nat.zero_le _, by show c.toNat < 0 + 30; omega⟩, a6 19 (by decide) (by decide) (by decide)]
    have e : (0 : Int).toNat + (c.toNat - (0 : Int).toNat) = c.toNat := by simp
    rw [e]
    exact g1 c c1 c2
  · rw [u1_ne (by decide)]
    exact a5.1 c c1 (by rw [← hC.1]; exact c2)
  · rw [u1_ne (by decide)]
    exact a5.2 c c1 (by rw [← hC.1]; exact c2)
  · rw [u1_ne (by omega)]
    exact a6 r (by omega) (by omega) (by omega)
end GROUNDS
