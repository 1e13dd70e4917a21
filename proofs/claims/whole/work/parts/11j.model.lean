/-! ===== the model: one goes to a cell ===== -/
def iMg (I : Nat → Nat → Int32) (w h N n : Int) (gr kd : Fl) : Prop := okC w h N n gr kd ∧ I 87 10 = j_k w ∧ I 87 11 = j_k N ∧ I 87 13 = j_k n ∧ (∀ k : Int, 0 ≤ k → k < n → I 95 k.toNat = j_k (kd k)) ∧ ∀ c : Int, 0 ≤ c → c < N → I 94 c.toNat = j_k (gr c)
theorem iMg.cg {I I' : Nat → Nat → Int32} {w h N n : Int} {gr kd : Fl} (h1 : ∀ k, k < 14 → I' 87 k = I 87 k) (h2 : I' 94 = I 94) (h3 : I' 95 = I 95) (hm : iMg I w h N n gr kd) : iMg I' w h N n gr kd := by
  unfold iMg
  rw [h1 10 (by decide), h1 11 (by decide), h1 13 (by decide), h2, h3]
  exact hm
/-- row q of the flocks, whether the gate is used, whereto: only they have changed -/
def frQ (n q : Int) (I I' : Nat → Nat → Int32) : Prop := (∀ r, r ≠ 87 → r ≠ 99 → I' r = I r) ∧ (∀ k, k ≠ 26 → k ≠ 27 → I' 87 k = I 87 k) ∧ ∀ i : Int, 0 ≤ i → (i < 13 * q ∨ 13 * q + 13 ≤ i ∨ (13 * q + (5 + n) ≤ i ∧ i < 13 * q + 9)) → I' 99 i.toNat = I 99 i.toNat
theorem frQ.rf {n q : Int} {I : Nat → Nat → Int32} : frQ n q I I := ⟨fun _ _ _ => rfl, fun _ _ _ => rfl, fun _ _ _ => rfl⟩
theorem frQ.tr {n q : Int} {I I' I'' : Nat → Nat → Int32} (h : frQ n q I I') (h' : frQ n q I' I'') : frQ n q I I'' := ⟨fun r a b => (h'.1 r a b).trans (h.1 r a b), fun k a b => (h'.2.1 k a b).trans (h.2.1 k a b), fun i a b => (h'.2.2 i a b).trans (h.2.2 i a b)⟩
theorem frM.q {n q : Int} {I I' : Nat → Nat → Int32} (h : frM n q I I') : frQ n q I I' := ⟨fun r _ b => h.1 r b, fun k _ _ => by rw [h.1 87 (by decide)], h.2⟩
theorem frQ.o {n q : Int} {I : Nat → Nat → Int32} {k : Nat} {v : Int32} (hk : k = 26 ∨ k = 27) : frQ n q I (u2 I 87 k v) := ⟨fun r a _ => by funext m; rw [u2_r a], fun m a b => by rw [u2_k (by omega)], fun i _ _ => by rw [u2_r (by decide)]⟩
theorem frQ.m {n q : Int} {I I' : Nat → Nat → Int32} {w h N : Int} {gr kd : Fl} (h1 : frQ n q I I') (hm : iMg I w h N n gr kd) : iMg I' w h N n gr kd := hm.cg (fun k hk => h1.2.1 k (by omega) (by omega)) (h1.1 94 (by decide) (by decide)) (h1.1 95 (by decide) (by decide))
theorem iM1.cg {q n : Int} {f : Fl} {I I' : Nat → Nat → Int32} (h : ∀ i : Int, 13 * q ≤ i → i < 13 * q + 13 → I' 99 i.toNat = I 99 i.toNat) (n4 : n ≤ 4) (hf : iM1 I q n f) : iM1 I' q n f := ⟨fun j a b => by rw [h _ (by omega) (by omega)]; exact hf.1 j a b, fun j a b => by rw [h _ (by omega) (by omega)]; exact hf.2.1 j a b, fun j a b => by rw [h _ (by omega) (by omega)]; exact hf.2.2 j a b⟩
theorem iM1.o {q n : Int} {f : Fl} {I : Nat → Nat → Int32} {k : Nat} {v : Int32} (n4 : n ≤ 4) (hf : iM1 I q n f) : iM1 (u2 I 87 k v) q n f := hf.cg (fun i _ _ => by rw [u2_r (by decide)]) n4
/-- what is true behind one who tries to go: R is whereto -/
def goP (q n : Int) (gr f : Fl) (k : Int) (gate : Bool) (I I' : Nat → Nat → Int32) (R : Int) : Prop := frQ n q I I' ∧ (R = -9 → I' = I) ∧ (R ≠ -9 → iM1 I' q n (p_goTo gr f k R) ∧ I' 87 26 = j_z ((gate || decide (gr R = 4)) = true) ∧ I' 87 27 = j_k R)
section MODEL10
variable {L p d : Nat} {I : Nat → Nat → Int32} {J : Nat → Nat → Int64} {n w h N b : Int} {f gr kd : Fl}
theorem n_put2 {q k c : Int} (q1 : 0 ≤ q) (q2 : q < 9) (n4 : n ≤ 4) (k1 : 0 ≤ k) (k2 : k < n) (hf : iM1 I q n f) : ∃ I2 I3, j_run (d + 1) 163 [.ref 87, .int (j_k q), .int (j_k (5 + k)), .int (j_k c)] (ST L p I J) = some (none, ST L p I2 J) ∧ j_run (d + 1) 162 [.ref 87, .int (j_k q), .int (j_k (9 + k))] (ST L p I2 J) = some (some (.int (j_k (f (9 + k)))), ST L p I2 J) ∧ j_run (d + 1) 163 [.ref 87, .int (j_k q), .int (j_k (9 + k)), .int (j_k (f (9 + k) + 1))] (ST L p I2 J) = some (none, ST L p I3 J) ∧ iM1 I3 q n (p_set (p_set f (5 + k) c) (9 + k) (f (9 + k) + 1)) ∧ frM n q I I3 := by
  have f1 := hf.put (v := c) q1 n4 (show (0 : Int) ≤ 5 + k by omega) (show 5 + k < 13 by omega)
  have v2 := n_v (L := L) (p := p) (d := d) (I := u2 I 99 (13 * q + (5 + k)).toNat (j_k c)) (J := J) q1 q2 (show (0 : Int) ≤ 9 + k by omega) (show 9 + k < 13 by omega)
  rw [f1.2.2 k k1 k2, show p_set f (5 + k) c (9 + k) = f (9 + k) from if_neg (by omega)] at v2
  exact ⟨_, _, n_place q1 q2 (by omega) (by omega), v2, n_place q1 q2 (by omega) (by omega), f1.put q1 n4 (by omega) (by omega), (frM.put q1 (by omega) (by omega) (by omega) (by omega)).tr (frM.put q1 (by omega) (by omega) (by omega) (by omega))⟩
theorem n_goesTo {q k c : Int} {gate : Bool} (q1 : 0 ≤ q) (q2 : q < 9) (hm : iMg I w h N n gr kd) (hgt : I 87 26 = j_z (gate = true)) (hf : iM1 I q n f) (ho : okF N n b f) (k1 : 0 ≤ k) (k2 : k < n) (hc : c = -9 ∨ (0 ≤ c ∧ c < N)) : ∃ I', j_run (d + 4) 182 [.ref 87, .int (j_k q), .int (j_k k), .int (j_k c)] (ST L p I J) = some (some (.int (j_z (p_try gr n kd f k c gate ≠ -9))), ST L p I' J) ∧ goP q n gr f k gate I I' (p_try gr n kd f k c gate) := by
  obtain ⟨hC, hw, hN, hn, hk, hg⟩ := hm
  have n4 := hC.2.2.2.1
  rcases hc with rfl | ⟨c1, c2⟩
  · have e : p_try gr n kd f k (-9) gate = -9 := if_pos rfl
    have e2 : j_z (p_try gr n kd f k (-9) gate ≠ -9) = j_k 0 := if_neg (fun u => u e)
    refine ⟨I, ?_, .rf, fun _ => rfl, fun u => absurd e u⟩
    rw [e2, r_182, t_182_0]
    simp (disch := first | assumption | omega) only [k_add, k_sub, k_mul, k_lt, k_eq, k_lt0, k_0lt, k_eq0, k_nat, k_b0, k_b1, k_z1, k_z0, k_o1, k_o0, Int.reduceEq, Int.reduceLT, Int.reduceLE, Int.reduceAdd, Int.reduceMul, Int.reduceNeg, Bool.false_eq_true, or_true, true_or, or_false, false_or, and_true, true_and, and_false, false_and, not_true_eq_false, not_false_eq_true, ↓reduceIte, z_0, z_k, s_I, s_J, s_uI, s_uJ, ]
  · obtain ⟨bN0, bN1, -⟩ := bd_N hC
    have c3 : c < 30 := by omega
    have gv := hg c c1 c2
    have gr1 := hC.2.2.2.2.1 c c1 c2
    have qc := n_can (L := L) (p := p) (d := d) (J := J) q1 q2 hC hn hgt hk hg hf ho k1 k2 c1 c2
    have c9 : ¬ c = -9 := by omega
    by_cases z : p_can gr n kd f k c gate = true
    · have e : p_try gr n kd f k c gate = c := by unfold p_try; rw [if_neg c9, if_pos z]
      have e2 : j_z (p_try gr n kd f k c gate ≠ -9) = j_k 1 := if_pos (by rw [e]; exact c9)
      have e3 : j_z (p_can gr n kd f k c gate = true) = j_k 1 := if_pos z
      rw [e3] at qc
      rw [e2, e]
      have T : ∀ v : Int, ∃ I2 I3, j_run (d + 3) 163 [.ref 87, .int (j_k q), .int (j_k (5 + k)), .int (j_k (if gr c = 2 then -9 else c))] (ST L p (u2 I 87 26 (j_k v)) J) = some (none, ST L p I2 J) ∧ j_run (d + 3) 162 [.ref 87, .int (j_k q), .int (j_k (9 + k))] (ST L p I2 J) = some (some (.int (j_k (f (9 + k)))), ST L p I2 J) ∧ j_run (d + 3) 163 [.ref 87, .int (j_k q), .int (j_k (9 + k)), .int (j_k (f (9 + k) + 1))] (ST L p I2 J) = some (none, ST L p I3 J) ∧ iM1 (u2 I3 87 27 (j_k c)) q n (p_goTo gr f k c) ∧ frQ n q I (u2 I3 87 27 (j_k c)) ∧ u2 I3 87 27 (j_k c) 87 26 = j_k v := fun v => by
        obtain ⟨I2, I3, a1, a2, a3, a4, a5⟩ := n_put2 (L := L) (p := p) (d := d + 2) (J := J) (c := if gr c = 2 then -9 else c) q1 q2 n4 k1 k2 (hf.o (k := 26) (v := j_k v) n4)
        refine ⟨I2, I3, a1, a2, a3, a4.o n4, ((frQ.o (Or.inl rfl)).tr a5.q).tr (frQ.o (Or.inr rfl)), ?_⟩
        rw [u2_k (by decide), a5.1 87 (by decide), u2_ss]
      by_cases y : gate = true
      · have g1 : j_z (gate = true) = j_k 1 := if_pos y
        rw [g1] at hgt
        obtain ⟨I2, I3, a1, a2, a3, a4, a5, a6⟩ := T 1
        refine ⟨_, ?_, a5, fun u => absurd u c9, fun _ => ⟨a4, a6.trans (if_pos (by rw [y]; rfl)).symm, u2_ss _ _ _ _⟩⟩
        rw [r_182, t_182_0]
        by_cases x : gr c = 2
        · rw [if_pos x] at a1
          simp (disch := first | assumption | omega) only [k_add, k_sub, k_mul, k_lt, k_eq, k_lt0, k_0lt, k_eq0, k_nat, k_b0, k_b1, k_z1, k_z0, k_o1, k_o0, Int.reduceEq, Int.reduceLT, Int.reduceLE, Int.reduceAdd, Int.reduceMul, Int.reduceNeg, Bool.false_eq_true, or_true, true_or, or_false, false_or, and_true, true_and, and_false, false_and, not_true_eq_false, not_false_eq_true, ↓reduceIte, z_0, z_k, s_I, s_J, s_uI, s_uJ, ↓c_oc_87, ↓jc1 qc, hgt, c9, ↓c_lt_87, u2_ss, u2_r, ↓c_gP_87_12, ↓c_ia_94, gv, x, ↓jc0 a1, ↓jc1 a2, ↓jc0 a3]
        · rw [if_neg x] at a1
          simp (disch := first | assumption | omega) only [k_add, k_sub, k_mul, k_lt, k_eq, k_lt0, k_0lt, k_eq0, k_nat, k_b0, k_b1, k_z1, k_z0, k_o1, k_o0, Int.reduceEq, Int.reduceLT, Int.reduceLE, Int.reduceAdd, Int.reduceMul, Int.reduceNeg, Bool.false_eq_true, or_true, true_or, or_false, false_or, and_true, true_and, and_false, false_and, not_true_eq_false, not_false_eq_true, ↓reduceIte, z_0, z_k, s_I, s_J, s_uI, s_uJ, ↓c_oc_87, ↓jc1 qc, hgt, c9, ↓c_lt_87, u2_ss, u2_r, ↓c_gP_87_12, ↓c_ia_94, gv, x, ↓jc0 a1, ↓jc1 a2, ↓jc0 a3]
      · have g1 : j_z (gate = true) = j_k 0 := if_neg y
        rw [g1] at hgt
        have y' : gate = false := by cases gate; rfl; exact absurd rfl y
        by_cases v : gr c = 4
        · have x : ¬ gr c = 2 := by omega
          obtain ⟨I2, I3, a1, a2, a3, a4, a5, a6⟩ := T 1
          refine ⟨_, ?_, a5, fun u => absurd u c9, fun _ => ⟨a4, a6.trans (if_pos (by rw [decide_eq_true v, Bool.or_true])).symm, u2_ss _ _ _ _⟩⟩
          rw [r_182, t_182_0]
          rw [if_neg x] at a1
          rw [v] at gv
          simp (disch := first | assumption | omega) only [k_add, k_sub, k_mul, k_lt, k_eq, k_lt0, k_0lt, k_eq0, k_nat, k_b0, k_b1, k_z1, k_z0, k_o1, k_o0, Int.reduceEq, Int.reduceLT, Int.reduceLE, Int.reduceAdd, Int.reduceMul, Int.reduceNeg, Bool.false_eq_true, or_true, true_or, or_false, false_or, and_true, true_and, and_false, false_and, not_true_eq_false, not_false_eq_true, ↓reduceIte, z_0, z_k, s_I, s_J, s_uI, s_uJ, ↓c_oc_87, ↓jc1 qc, hgt, c9, ↓c_lt_87, u2_ss, u2_r, ↓c_gP_87_12, ↓c_ia_94, gv, x, ↓jc0 a1, ↓jc1 a2, ↓jc0 a3]
        · obtain ⟨I2, I3, a1, a2, a3, a4, a5, a6⟩ := T 0
          refine ⟨_, ?_, a5, fun u => absurd u c9, fun _ => ⟨a4, a6.trans (if_neg (by rw [decide_eq_false v, y']; decide)).symm, u2_ss _ _ _ _⟩⟩
          rw [r_182, t_182_0]
          by_cases x : gr c = 2
          · rw [if_pos x] at a1
            simp (disch := first | assumption | omega) only [k_add, k_sub, k_mul, k_lt, k_eq, k_lt0, k_0lt, k_eq0, k_nat, k_b0, k_b1, k_z1, k_z0, k_o1, k_o0, Int.reduceEq, Int.reduceLT, Int.reduceLE, Int.reduceAdd, Int.reduceMul, Int.reduceNeg, Bool.false_eq_true, or_true, true_or, or_false, false_or, and_true, true_and, and_false, false_and, not_true_eq_false, not_false_eq_true, ↓reduceIte, z_0, z_k, s_I, s_J, s_uI, s_uJ, ↓c_oc_87, ↓jc1 qc, hgt, c9, ↓c_lt_87, u2_ss, u2_r, ↓c_gP_87_12, ↓c_ia_94, gv, x, v, ↓jc0 a1, ↓jc1 a2, ↓jc0 a3]
          · rw [if_neg x] at a1
            simp (disch := first | assumption | omega) only [k_add, k_sub, k_mul, k_lt, k_eq, k_lt0, k_0lt, k_eq0, k_nat, k_b0, k_b1, k_z1, k_z0, k_o1, k_o0, Int.reduceEq, Int.reduceLT, Int.reduceLE, Int.reduceAdd, Int.reduceMul, Int.reduceNeg, Bool.false_eq_true, or_true, true_or, or_false, false_or, and_true, true_and, and_false, false_and, not_true_eq_false, not_false_eq_true, ↓reduceIte, z_0, z_k, s_I, s_J, s_uI, s_uJ, ↓c_oc_87, ↓jc1 qc, hgt, c9, ↓c_lt_87, u2_ss, u2_r, ↓c_gP_87_12, ↓c_ia_94, gv, x, v, ↓jc0 a1, ↓jc1 a2, ↓jc0 a3]
    · have e : p_try gr n kd f k c gate = -9 := by unfold p_try; rw [if_neg c9, if_neg z]
      have e2 : j_z (p_try gr n kd f k c gate ≠ -9) = j_k 0 := if_neg (fun u => u e)
      have e3 : j_z (p_can gr n kd f k c gate = true) = j_k 0 := if_neg z
      rw [e3] at qc
      refine ⟨I, ?_, .rf, fun _ => rfl, fun u => absurd e u⟩
      rw [e2, r_182, t_182_0]
      simp (disch := first | assumption | omega) only [k_add, k_sub, k_mul, k_lt, k_eq, k_lt0, k_0lt, k_eq0, k_nat, k_b0, k_b1, k_z1, k_z0, k_o1, k_o0, Int.reduceEq, Int.reduceLT, Int.reduceLE, Int.reduceAdd, Int.reduceMul, Int.reduceNeg, Bool.false_eq_true, or_true, true_or, or_false, false_or, and_true, true_and, and_false, false_and, not_true_eq_false, not_false_eq_true, ↓reduceIte, z_0, z_k, s_I, s_J, s_uI, s_uJ, ↓c_oc_87, ↓jc1 qc, c9]
end MODEL10
