/-! ===== the model's reader: a whole text ===== -/
section SKIPS
variable {T : Int → Int} {s q : Int}
theorem skip_e (h : s ≤ q) : p_skip T s q = q := by
  unfold p_skip
  rw [show (s - q).toNat = 0 by omega]
  rfl
theorem skip_b (h : q < s) (hb : T q = 32) : p_skip T s q = p_skip T s (q + 1) := by
  unfold p_skip
  obtain ⟨m, hm⟩ : ∃ m, (s - q).toNat = m + 1 := ⟨(s - q).toNat - 1, by omega⟩
  rw [hm, show (s - (q + 1)).toNat = m by omega]
  exact if_pos ⟨h, hb⟩
theorem skip_n (h : q < s) (hb : T q ≠ 32) : p_skip T s q = q := by
  unfold p_skip
  obtain ⟨m, hm⟩ : ∃ m, (s - q).toNat = m + 1 := ⟨(s - q).toNat - 1, by omega⟩
  rw [hm]
  exact if_neg (fun u => hb u.2)
theorem rdB_b {w h : Int} {gr kd f : Fl} {m : Nat} {n : Int} (hq : q < s) (hb : T q = 32) : p_rdB T s w h gr m n q kd f = p_rdB T s w h gr m n (q + 1) kd f := by
  cases m with
  | zero =>
    unfold p_rdB
    rw [skip_b hq hb]
  | succ m =>
    unfold p_rdB
    rw [skip_b hq hb]
theorem rdC_b {gr : Fl} {m : Nat} {c : Int} (hq : q < s) (hb : T q = 32) : p_rdC T s (m + 1) c q gr = p_rdC T s (m + 1) c (q + 1) gr := by
  unfold p_rdC
  rw [skip_b hq hb]
end SKIPS
/-- what a text that could be read has left behind -/
def rdS (I : Nat → Nat → Int32) (w h : Int) (gr : Fl) (n : Int) (kd f : Fl) : Prop := I 87 17 = j_k w ∧ I 87 19 = j_k (w * h) ∧ I 87 20 = j_k n ∧ (∀ c : Int, 0 ≤ c → c < w * h → I 96 c.toNat = j_k (gr c) ∧ 0 ≤ gr c ∧ gr c ≤ 4) ∧ (∀ k : Int, 0 ≤ k → k < n → I 97 k.toNat = j_k (kd k)) ∧ (∀ k : Int, 0 ≤ k → k < n → I 98 k.toNat = j_k (f (5 + k)) ∧ 0 ≤ f (5 + k) ∧ f (5 + k) < 30) ∧ (∀ j : Int, 0 ≤ j → j ≤ 4 → f j = p_clr j) ∧ ∀ k : Int, 0 ≤ k → k < n → f (9 + k) = 0
theorem skip_ge {T : Int → Int} {s : Int} : ∀ (m : Nat) (q : Int), q ≤ p_sk T s m q
  | 0, q => Int.le_refl q
  | m + 1, q => by
    unfold p_sk
    split
    · have := skip_ge (T := T) (s := s) m (q + 1)
      omega
    · exact Int.le_refl q
theorem rdC_pos {T : Int → Int} {s : Int} : ∀ (m : Nat) (c q : Int) (gr : Fl), 0 ≤ q → 0 ≤ (p_rdC T s m c q gr).2.1
  | 0, c, q, gr, h => h
  | m + 1, c, q, gr, h => by
    have g : q ≤ p_skip T s q := skip_ge _ _
    unfold p_rdC
    split
    · show 0 ≤ p_skip T s q
      omega
    · exact rdC_pos m _ _ _ (by omega)
theorem rdB1_pos {T : Int → Int} {s w h n q : Int} {gr f : Fl} (h0 : 0 ≤ q) : 0 ≤ (p_rdB1 T s w h gr n f q).2.1 := by
  unfold p_rdB1
  split
  · exact h0
  · split
    · show 0 ≤ q + 1
      omega
    · split
      · show 0 ≤ q + 2
        omega
      · split
        · show 0 ≤ q + 3
          omega
        · show 0 ≤ q + 2
          omega
theorem rdB_pos {T : Int → Int} {s w h : Int} {gr : Fl} : ∀ (m : Nat) (n q : Int) (kd f : Fl), 0 ≤ q → 0 ≤ (p_rdB T s w h gr m n q kd f).2.1
  | 0, n, q, kd, f, h0 => by
    have g : q ≤ p_skip T s q := skip_ge _ _
    show 0 ≤ p_skip T s q
    omega
  | m + 1, n, q, kd, f, h0 => by
    have g : q ≤ p_skip T s q := skip_ge _ _
    have b := rdB1_pos (T := T) (s := s) (w := w) (h := h) (n := n) (gr := gr) (f := f) (q := p_skip T s q) (by omega)
    unfold p_rdB
    split
    · show 0 ≤ p_skip T s q
      omega
    · split
      · exact rdB_pos m _ _ _ _ b
      · exact b
section MREAD3
variable {L p d : Nat} {I : Nat → Nat → Int32} {J : Nat → Nat → Int64} {A : Ast} {t : Int}
theorem h_blank (hx : iM I J A) {M : Nat} {q : Int} (t1 : 0 ≤ t) (t2 : t < 4) (q1 : 0 ≤ q) (q2 : q < a_tz A t) (hq : I 87 15 = j_k q) (hb : a_tv A t q = 32) : j_exec k_157 h_157 (j_run (d + 4)) (M + 1) 25 [some (.ref 87), some (.int (j_k t))] [] (ST L p I J) = j_exec k_157 h_157 (j_run (d + 4)) M 25 [some (.ref 87), some (.int (j_k t))] [] (ST L p (u2 I 87 15 (j_k (q + 1))) J) := by
  have hz := (hx.2.2.1 t t1 t2).1
  have hz1 := hx.1.2.2.2.2.1 t t1 t2
  have hz2 := hz1.2
  have b := n_byteAt (L := L) (p := p) (d := d + 3) hx t1 t2 q1 (show q ≤ 80 by omega)
  rw [if_pos q2, hb] at b
  rw [x_exec, t_157_25]
  simp (disch := first | assumption | omega) only [k_add, k_sub, k_mul, k_lt, k_eq, k_lt0, k_0lt, k_eq0, k_nat, k_b0, k_b1, k_z1, k_z0, k_o1, k_o0, Int.reduceEq, Int.reduceLT, Int.reduceLE, Int.reduceAdd, Int.reduceMul, Int.reduceNeg, Bool.false_eq_true, or_true, true_or, or_false, false_or, and_true, true_and, and_false, false_and, not_true_eq_false, not_false_eq_true, ↓reduceIte, z_0, z_k, s_I, s_J, s_uI, s_uJ, ↓c_oc_87, ↓c_gP_87_8, ↓c_ia_92, hq, hz, q2, ↓jc1 b, ↓c_lt_87]
theorem h_end (hx : iM I J A) {M : Nat} (t1 : 0 ≤ t) (t2 : t < 4) (hq : I 87 15 = j_k (a_tz A t)) {w h c : Int} (hw : I 87 17 = j_k w) (hh : I 87 18 = j_k h) (hc : I 87 19 = j_k c) (w1 : 0 ≤ w) (w2 : w ≤ 6) (c1 : 0 ≤ c) (c2 : c ≤ 30) (N1 : 0 ≤ w * h) (N2 : w * h ≤ 30) : j_exec k_157 h_157 (j_run (d + 4)) (M + 1) 25 [some (.ref 87), some (.int (j_k t))] [] (ST L p I J) = some (some (.int (j_k (if w = 0 ∨ c < w * h then a_tz A t else -9))), ST L p I J) := by
  have hz := (hx.2.2.1 t t1 t2).1
  have hz1 := hx.1.2.2.2.2.1 t t1 t2
  have hz2 := hz1.1
  have hz3 := hz1.2
  have zz : ¬ a_tz A t < a_tz A t := by omega
  rw [x_exec, t_157_25]
  by_cases x : w = 0
  · rw [if_pos (show w = 0 ∨ c < w * h from Or.inl x)]
    rw [x] at hw
    simp (disch := first | assumption | omega) only [k_add, k_sub, k_mul, k_lt, k_eq, k_lt0, k_0lt, k_eq0, k_nat, k_b0, k_b1, k_z1, k_z0, k_o1, k_o0, Int.reduceEq, Int.reduceLT, Int.reduceLE, Int.reduceAdd, Int.reduceMul, Int.reduceNeg, Bool.false_eq_true, or_true, true_or, or_false, false_or, and_true, true_and, and_false, false_and, not_true_eq_false, not_false_eq_true, ↓reduceIte, z_0, z_k, s_I, s_J, s_uI, s_uJ, ↓c_oc_87, ↓c_gP_87_8, ↓c_ia_92, hq, hz, zz, hw]
  · by_cases y : c < w * h
    · rw [if_pos (show w = 0 ∨ c < w * h from Or.inr y)]
      simp (disch := first | assumption | omega) only [k_add, k_sub, k_mul, k_lt, k_eq, k_lt0, k_0lt, k_eq0, k_nat, k_b0, k_b1, k_z1, k_z0, k_o1, k_o0, Int.reduceEq, Int.reduceLT, Int.reduceLE, Int.reduceAdd, Int.reduceMul, Int.reduceNeg, Bool.false_eq_true, or_true, true_or, or_false, false_or, and_true, true_and, and_false, false_and, not_true_eq_false, not_false_eq_true, ↓reduceIte, z_0, z_k, s_I, s_J, s_uI, s_uJ, ↓c_oc_87, ↓c_gP_87_8, ↓c_ia_92, hq, hz, zz, hw, hh, hc, x, y]
    · rw [if_neg (show ¬ (w = 0 ∨ c < w * h) from fun u => u.elim x y)]
      simp (disch := first | assumption | omega) only [k_add, k_sub, k_mul, k_lt, k_eq, k_lt0, k_0lt, k_eq0, k_nat, k_b0, k_b1, k_z1, k_z0, k_o1, k_o0, Int.reduceEq, Int.reduceLT, Int.reduceLE, Int.reduceAdd, Int.reduceMul, Int.reduceNeg, Bool.false_eq_true, or_true, true_or, or_false, false_or, and_true, true_and, and_false, false_and, not_true_eq_false, not_false_eq_true, ↓reduceIte, z_0, z_k, s_I, s_J, s_uI, s_uJ, ↓c_oc_87, ↓c_gP_87_8, ↓c_ia_92, hq, hz, zz, hw, hh, hc, x, y]
/-- at a sign that is no blank: which of the three reads it -/
theorem h_grid (hx : iM I J A) {M : Nat} {q : Int} (t1 : 0 ≤ t) (t2 : t < 4) (q1 : 0 ≤ q) (q2 : q < a_tz A t) (hq : I 87 15 = j_k q) (hb : a_tv A t q ≠ 32) (hw : I 87 17 = j_k 0) {v : Int} {I' : Nat → Nat → Int32} (v1 : v = 0 ∨ v = 1) (hr : j_run (d + 4) 154 [.ref 87, .int (j_k t)] (ST L p I J) = some (some (.int (j_k v)), ST L p I' J)) : j_exec k_157 h_157 (j_run (d + 4)) (M + 1) 25 [some (.ref 87), some (.int (j_k t))] [] (ST L p I J) = if v = 0 then some (some (.int (I' 87 15)), ST L p I' J) else j_exec k_157 h_157 (j_run (d + 4)) M 25 [some (.ref 87), some (.int (j_k t))] [] (ST L p I' J) := by
  have hz := (hx.2.2.1 t t1 t2).1
  have hz1 := hx.1.2.2.2.2.1 t t1 t2
  have hz2 := hz1.2
  have bb := hx.1.2.2.2.2.2 t q t1 t2 q1 (by omega)
  have bb1 := bb.1
  have bb2 := bb.2
  have b := n_byteAt (L := L) (p := p) (d := d + 3) hx t1 t2 q1 (show q ≤ 80 by omega)
  rw [if_pos q2] at b
  rw [x_exec, t_157_25]
  rcases v1 with rfl | rfl
  · rw [if_pos (show (0 : Int) = 0 from rfl)]
    simp (disch := first | assumption | omega) only [k_add, k_sub, k_mul, k_lt, k_eq, k_lt0, k_0lt, k_eq0, k_nat, k_b0, k_b1, k_z1, k_z0, k_o1, k_o0, Int.reduceEq, Int.reduceLT, Int.reduceLE, Int.reduceAdd, Int.reduceMul, Int.reduceNeg, Bool.false_eq_true, or_true, true_or, or_false, false_or, and_true, true_and, and_false, false_and, not_true_eq_false, not_false_eq_true, ↓reduceIte, z_0, z_k, s_I, s_J, s_uI, s_uJ, ↓c_oc_87, ↓c_gP_87_8, ↓c_ia_92, hq, hz, q2, ↓jc1 b, hb, hw, ↓jc1 hr]
  · rw [if_neg (show ¬ (1 : Int) = 0 by decide)]
    simp (disch := first | assumption | omega) only [k_add, k_sub, k_mul, k_lt, k_eq, k_lt0, k_0lt, k_eq0, k_nat, k_b0, k_b1, k_z1, k_z0, k_o1, k_o0, Int.reduceEq, Int.reduceLT, Int.reduceLE, Int.reduceAdd, Int.reduceMul, Int.reduceNeg, Bool.false_eq_true, or_true, true_or, or_false, false_or, and_true, true_and, and_false, false_and, not_true_eq_false, not_false_eq_true, ↓reduceIte, z_0, z_k, s_I, s_J, s_uI, s_uJ, ↓c_oc_87, ↓c_gP_87_8, ↓c_ia_92, hq, hz, q2, ↓jc1 b, hb, hw, ↓jc1 hr]
theorem h_sign (hx : iM I J A) {M : Nat} {q w h c : Int} (t1 : 0 ≤ t) (t2 : t < 4) (q1 : 0 ≤ q) (q2 : q < a_tz A t) (hq : I 87 15 = j_k q) (hb : a_tv A t q ≠ 32) (hw : I 87 17 = j_k w) (hh : I 87 18 = j_k h) (hc : I 87 19 = j_k c) (w1 : 2 ≤ w) (w2 : w ≤ 6) (c1 : 0 ≤ c) (c2 : c < w * h) (N2 : w * h ≤ 30) {v : Int} {I' : Nat → Nat → Int32} (v1 : v = 0 ∨ v = 1) (hr : j_run (d + 4) 155 [.ref 87, .int (j_k t)] (ST L p I J) = some (some (.int (j_k v)), ST L p I' J)) : j_exec k_157 h_157 (j_run (d + 4)) (M + 1) 25 [some (.ref 87), some (.int (j_k t))] [] (ST L p I J) = if v = 0 then some (some (.int (I' 87 15)), ST L p I' J) else j_exec k_157 h_157 (j_run (d + 4)) M 25 [some (.ref 87), some (.int (j_k t))] [] (ST L p I' J) := by
  have hz := (hx.2.2.1 t t1 t2).1
  have hz1 := hx.1.2.2.2.2.1 t t1 t2
  have hz2 := hz1.2
  have bb := hx.1.2.2.2.2.2 t q t1 t2 q1 (by omega)
  have bb1 := bb.1
  have bb2 := bb.2
  have w0 : ¬ w = 0 := by omega
  have b := n_byteAt (L := L) (p := p) (d := d + 3) hx t1 t2 q1 (show q ≤ 80 by omega)
  rw [if_pos q2] at b
  rw [x_exec, t_157_25]
  rcases v1 with rfl | rfl
  · rw [if_pos (show (0 : Int) = 0 from rfl)]
    simp (disch := first | assumption | omega) only [k_add, k_sub, k_mul, k_lt, k_eq, k_lt0, k_0lt, k_eq0, k_nat, k_b0, k_b1, k_z1, k_z0, k_o1, k_o0, Int.reduceEq, Int.reduceLT, Int.reduceLE, Int.reduceAdd, Int.reduceMul, Int.reduceNeg, Bool.false_eq_true, or_true, true_or, or_false, false_or, and_true, true_and, and_false, false_and, not_true_eq_false, not_false_eq_true, ↓reduceIte, z_0, z_k, s_I, s_J, s_uI, s_uJ, ↓c_oc_87, ↓c_gP_87_8, ↓c_ia_92, hq, hz, q2, ↓jc1 b, hb, hw, hh, hc, w0, c2, ↓jc1 hr]
  · rw [if_neg (show ¬ (1 : Int) = 0 by decide)]
    simp (disch := first | assumption | omega) only [k_add, k_sub, k_mul, k_lt, k_eq, k_lt0, k_0lt, k_eq0, k_nat, k_b0, k_b1, k_z1, k_z0, k_o1, k_o0, Int.reduceEq, Int.reduceLT, Int.reduceLE, Int.reduceAdd, Int.reduceMul, Int.reduceNeg, Bool.false_eq_true, or_true, true_or, or_false, false_or, and_true, true_and, and_false, false_and, not_true_eq_false, not_false_eq_true, ↓reduceIte, z_0, z_k, s_I, s_J, s_uI, s_uJ, ↓c_oc_87, ↓c_gP_87_8, ↓c_ia_92, hq, hz, q2, ↓jc1 b, hb, hw, hh, hc, w0, c2, ↓jc1 hr]
theorem h_beast (hx : iM I J A) {M : Nat} {q w h : Int} (t1 : 0 ≤ t) (t2 : t < 4) (q1 : 0 ≤ q) (q2 : q < a_tz A t) (hq : I 87 15 = j_k q) (hb : a_tv A t q ≠ 32) (hw : I 87 17 = j_k w) (hh : I 87 18 = j_k h) (hc : I 87 19 = j_k (w * h)) (w1 : 2 ≤ w) (w2 : w ≤ 6) (N1 : 0 ≤ w * h) (N2 : w * h ≤ 30) {v : Int} {I' : Nat → Nat → Int32} (v1 : v = 0 ∨ v = 1) (hr : j_run (d + 4) 156 [.ref 87, .int (j_k t)] (ST L p I J) = some (some (.int (j_k v)), ST L p I' J)) : j_exec k_157 h_157 (j_run (d + 4)) (M + 1) 25 [some (.ref 87), some (.int (j_k t))] [] (ST L p I J) = if v = 0 then some (some (.int (I' 87 15)), ST L p I' J) else j_exec k_157 h_157 (j_run (d + 4)) M 25 [some (.ref 87), some (.int (j_k t))] [] (ST L p I' J) := by
  have hz := (hx.2.2.1 t t1 t2).1
  have hz1 := hx.1.2.2.2.2.1 t t1 t2
  have hz2 := hz1.2
  have bb := hx.1.2.2.2.2.2 t q t1 t2 q1 (by omega)
  have bb1 := bb.1
  have bb2 := bb.2
  have w0 : ¬ w = 0 := by omega
  have c2 : ¬ w * h < w * h := by omega
  have b := n_byteAt (L := L) (p := p) (d := d + 3) hx t1 t2 q1 (show q ≤ 80 by omega)
  rw [if_pos q2] at b
  rw [x_exec, t_157_25]
  rcases v1 with rfl | rfl
  · rw [if_pos (show (0 : Int) = 0 from rfl)]
    simp (disch := first | assumption | omega) only [k_add, k_sub, k_mul, k_lt, k_eq, k_lt0, k_0lt, k_eq0, k_nat, k_b0, k_b1, k_z1, k_z0, k_o1, k_o0, Int.reduceEq, Int.reduceLT, Int.reduceLE, Int.reduceAdd, Int.reduceMul, Int.reduceNeg, Bool.false_eq_true, or_true, true_or, or_false, false_or, and_true, true_and, and_false, false_and, not_true_eq_false, not_false_eq_true, ↓reduceIte, z_0, z_k, s_I, s_J, s_uI, s_uJ, ↓c_oc_87, ↓c_gP_87_8, ↓c_ia_92, hq, hz, q2, ↓jc1 b, hb, hw, hh, hc, w0, c2, ↓jc1 hr]
  · rw [if_neg (show ¬ (1 : Int) = 0 by decide)]
    simp (disch := first | assumption | omega) only [k_add, k_sub, k_mul, k_lt, k_eq, k_lt0, k_0lt, k_eq0, k_nat, k_b0, k_b1, k_z1, k_z0, k_o1, k_o0, Int.reduceEq, Int.reduceLT, Int.reduceLE, Int.reduceAdd, Int.reduceMul, Int.reduceNeg, Bool.false_eq_true, or_true, true_or, or_false, false_or, and_true, true_and, and_false, false_and, not_true_eq_false, not_false_eq_true, ↓reduceIte, z_0, z_k, s_I, s_J, s_uI, s_uJ, ↓c_oc_87, ↓c_gP_87_8, ↓c_ia_92, hq, hz, q2, ↓jc1 b, hb, hw, hh, hc, w0, c2, ↓jc1 hr]
theorem n_rdB {w h : Int} {gr : Fl} (t1 : 0 ≤ t) (t2 : t < 4) (w1 : 2 ≤ w) (w2 : w ≤ 6) (h1 : 1 ≤ h) (h2 : h ≤ 5) (N1 : 0 ≤ w * h) (N2 : w * h ≤ 30) : ∀ (m M : Nat) (q n : Int) (kd f : Fl) (I : Nat → Nat → Int32), 0 ≤ q → q ≤ a_tz A t → a_tz A t - q ≤ m → m < M → iM I J A → I 87 15 = j_k q → I 87 18 = j_k h → rdS I w h gr n kd f → 0 ≤ n → n ≤ 4 → ∃ I', j_exec k_157 h_157 (j_run (d + 4)) M 25 [some (.ref 87), some (.int (j_k t))] [] (ST L p I J) = some (some (.int (j_k (if (p_rdB (a_tv A t) (a_tz A t) w h gr (4 - n).toNat n q kd f).1 = true then -9 else (p_rdB (a_tv A t) (a_tz A t) w h gr (4 - n).toNat n q kd f).2.1))), ST L p I' J) ∧ frL I I' ∧ ((p_rdB (a_tv A t) (a_tz A t) w h gr (4 - n).toNat n q kd f).1 = true → rdS I' w h gr (p_rdB (a_tv A t) (a_tz A t) w h gr (4 - n).toNat n q kd f).2.2.1 (p_rdB (a_tv A t) (a_tz A t) w h gr (4 - n).toNat n q kd f).2.2.2.1 (p_rdB (a_tv A t) (a_tz A t) w h gr (4 - n).toNat n q kd f).2.2.2.2) := by
  intro m
  induction m with
  | zero =>
    intro M q n kd f I q1 q2 q3 hM hx hq hh hS n0 n4
    obtain ⟨M, rfl⟩ : ∃ q, M = q + 1 := ⟨M - 1, by omega⟩
    have qe : q = a_tz A t := by omega
    have R : (p_rdB (a_tv A t) (a_tz A t) w h gr (4 - n).toNat n q kd f) = (true, q, n, kd, f) := by
      have sk := skip_e (T := a_tv A t) (s := a_tz A t) (q := q) (by omega)
      cases (4 - n).toNat with
      | zero =>
        unfold p_rdB
        rw [sk, decide_eq_true qe]
      | succ k =>
        unfold p_rdB
        rw [sk, if_pos qe]
    rw [R]
    have e := h_end (L := L) (p := p) (d := d) (M := M) (t := t) hx t1 t2 (by rw [hq, qe]) hS.1 hh hS.2.1 (by omega) w2 N1 N2 N1 N2
    rw [if_neg (by omega)] at e
    exact ⟨I, e, .rf, fun _ => hS⟩
  | succ m ih =>
    intro M q n kd f I q1 q2 q3 hM hx hq hh hS n0 n4
    obtain ⟨M, rfl⟩ : ∃ q, M = q + 1 := ⟨M - 1, by omega⟩
    by_cases qe : q = a_tz A t
    · have R : (p_rdB (a_tv A t) (a_tz A t) w h gr (4 - n).toNat n q kd f) = (true, q, n, kd, f) := by
        have sk := skip_e (T := a_tv A t) (s := a_tz A t) (q := q) (by omega)
        cases (4 - n).toNat with
        | zero =>
          unfold p_rdB
          rw [sk, decide_eq_true qe]
        | succ k =>
          unfold p_rdB
          rw [sk, if_pos qe]
      rw [R]
      have e := h_end (L := L) (p := p) (d := d) (M := M) (t := t) hx t1 t2 (by rw [hq, qe]) hS.1 hh hS.2.1 (by omega) w2 N1 N2 N1 N2
      rw [if_neg (by omega)] at e
      exact ⟨I, e, .rf, fun _ => hS⟩
    · have ql : q < a_tz A t := by omega
      by_cases hb : a_tv A t q = 32
      · have fr1 : frL I (u2 I 87 15 (j_k (q + 1))) := frL.o (by decide) (by decide)
        have hS1 : rdS (u2 I 87 15 (j_k (q + 1))) w h gr n kd f := by
          obtain ⟨s1, s2, s3, s4, s5, s6, s7⟩ := hS
          refine ⟨by rw [u2_k (by decide)]; exact s1, by rw [u2_k (by decide)]; exact s2, by rw [u2_k (by decide)]; exact s3, fun c c1 c2 => by rw [u2_r (by decide)]; exact s4 c c1 c2, fun k k1 k2 => by rw [u2_r (by decide)]; exact s5 k k1 k2, fun k k1 k2 => by rw [u2_r (by decide)]; exact s6 k k1 k2, s7⟩
        obtain ⟨I', r1, r2, r3⟩ := ih M (q + 1) n kd f (u2 I 87 15 (j_k (q + 1))) (by omega) (by omega) (by omega) (by omega) (fr1.x hx) (u2_ss _ _ _ _) (by rw [u2_k (by decide)]; exact hh) hS1 n0 n4
        rw [rdB_b ql hb]
        exact ⟨I', (h_blank (L := L) (p := p) (d := d) hx t1 t2 q1 ql hq hb).trans r1, fr1.tr r2, r3⟩
      · have sk := skip_n (T := a_tv A t) (s := a_tz A t) (q := q) ql hb
        by_cases n4' : n = 4
        · subst n4'
          have R : (p_rdB (a_tv A t) (a_tz A t) w h gr (4 - 4 : Int).toNat 4 q kd f) = (false, q, 4, kd, f) := by
            show p_rdB (a_tv A t) (a_tz A t) w h gr 0 4 q kd f = _
            unfold p_rdB
            rw [sk, decide_eq_false qe]
          rw [R]
          have e := h_beast (L := L) (p := p) (d := d) (M := M) hx t1 t2 q1 ql hq hb hS.1 hh hS.2.1 w1 w2 N1 N2 (Or.inl rfl) (n_beast4 (L := L) (p := p) (d := d) hx t1 t2 q1 ql hq hS.2.2.1)
          rw [if_pos rfl, hq] at e
          exact ⟨I, e, .rf, fun u => absurd u Bool.false_ne_true⟩
        · obtain ⟨k, hk⟩ : ∃ k, (4 - n).toNat = k + 1 := ⟨(4 - n).toNat - 1, by omega⟩
          have hk2 : (4 - (n + 1)).toNat = k := by omega
          obtain ⟨s1, s2, s3, s4, s5, s6, s7, s8⟩ := hS
          obtain ⟨I1, a1, a2, a3, a4⟩ := n_beastR (L := L) (p := p) (d := d) (t := t) (gr := gr) (f := f) hx t1 t2 q1 ql hq s1 hh s3 n0 (by omega) w1 w2 h1 h2 N2 s4 s6
          have R : (p_rdB (a_tv A t) (a_tz A t) w h gr (4 - n).toNat n q kd f) = if (p_rdB1 (a_tv A t) (a_tz A t) w h gr n f q).1 = true then p_rdB (a_tv A t) (a_tz A t) w h gr k (n + 1) (p_rdB1 (a_tv A t) (a_tz A t) w h gr n f q).2.1 (f2 kd n (p_rdB1 (a_tv A t) (a_tz A t) w h gr n f q).2.2.1) (p_put1 f n (p_rdB1 (a_tv A t) (a_tz A t) w h gr n f q).2.2.2) else (false, (p_rdB1 (a_tv A t) (a_tz A t) w h gr n f q).2.1, n, kd, f) := by
            rw [hk]
            show (if p_skip (a_tv A t) (a_tz A t) q = a_tz A t then _ else _) = _
            rw [if_neg (show ¬ p_skip (a_tv A t) (a_tz A t) q = a_tz A t by rw [sk]; exact qe), sk]
          have q13 : (p_rdB1 (a_tv A t) (a_tz A t) w h gr n f q).1 = true → (p_rdB1 (a_tv A t) (a_tz A t) w h gr n f q).2.1 = q + 3 := by
            unfold p_rdB1
            intro u
            split at u
            · exact absurd u Bool.false_ne_true
            · split at u
              · exact absurd u Bool.false_ne_true
              · split at u
                · exact absurd u Bool.false_ne_true
                · split at u
                  · rename_i x1 x2 x3 x4
                    rw [if_neg x1, if_neg x2, if_neg x3, if_pos x4]
                  · exact absurd u Bool.false_ne_true
          rw [R]
          generalize p_rdB1 (a_tv A t) (a_tz A t) w h gr n f q = B1 at *
          by_cases y : B1.1 = true
          · rw [if_pos y]
            obtain ⟨b1, b2, b3, b4, b5, b6, b7, b8⟩ := a4 y
            rw [show j_z (B1.1 = true) = j_k 1 from if_pos y] at a1
            rw [q13 y] at a3 ⊢
            have hS1 : rdS I1 w h gr (n + 1) (f2 kd n B1.2.2.1) (p_put1 f n B1.2.2.2) := by
              refine ⟨by rw [b5 17 (by decide) (by decide) (by decide)]; exact s1, by rw [b5 19 (by decide) (by decide) (by decide)]; exact s2, b1, fun c c1 c2 => by rw [b2 96 (by decide) (by decide) (by decide)]; exact s4 c c1 c2, fun j j1 j2 => ?_, fun j j1 j2 => ?_, fun j j0 j1 => ?_, fun j j1 j2 => ?_⟩
              · rw [b3]
                unfold f2
                by_cases c : j = n
                · subst c
                  rw [u1_same, if_pos rfl]
                · rw [u1_ne (by omega), if_neg c]
                  exact s5 j j1 (by omega)
              · rw [b4, put1_c n0 (by omega) j1 (by omega)]
                by_cases c : j = n
                · subst c
                  rw [u1_same, if_pos rfl]
                  exact ⟨rfl, b7, b8⟩
                · rw [u1_ne (by omega), if_neg c]
                  exact s6 j j1 (by omega)
              · rw [put1_lo n0 j1]
                exact s7 j j0 j1
              · unfold p_put1 p_set
                by_cases c : j = n
                · subst c
                  exact if_pos rfl
                · show (if 9 + j = 9 + n then (0 : Int) else if 9 + j = 5 + n then _ else f (9 + j)) = 0
                  rw [if_neg (by omega), if_neg (by omega)]
                  exact s8 j j1 (by omega)
            have e := h_beast (L := L) (p := p) (d := d) (M := M) hx t1 t2 q1 ql hq hb s1 hh s2 w1 w2 N1 N2 (Or.inr rfl) a1
            rw [if_neg (by decide)] at e
            obtain ⟨I', r1, r2, r3⟩ := ih M (q + 3) (n + 1) _ _ I1 (by omega) b6 (by omega) (by omega) (a2.x hx) a3 (by rw [b5 18 (by decide) (by decide) (by decide)]; exact hh) hS1 (by omega) (by omega)
            rw [hk2] at r1 r3
            exact ⟨I', e.trans r1, a2.tr r2, r3⟩
          · rw [if_neg y]
            rw [show j_z (B1.1 = true) = j_k 0 from if_neg y] at a1
            have e := h_beast (L := L) (p := p) (d := d) (M := M) hx t1 t2 q1 ql hq hb s1 hh s2 w1 w2 N1 N2 (Or.inl rfl) a1
            rw [if_pos rfl, a3] at e
            exact ⟨I1, e, a2, fun u => absurd u Bool.false_ne_true⟩
/-- the fault from the cells on -/
def p_fC (T : Int → Int) (s w h : Int) (R : Bool × Int × Fl) : Int := if R.1 = true then (if (p_rdB T s w h R.2.2 4 0 R.2.1 (fun _ => 0) p_clr).1 = true then -9 else (p_rdB T s w h R.2.2 4 0 R.2.1 (fun _ => 0) p_clr).2.1) else R.2.1
theorem n_rdC {w h : Int} (t1 : 0 ≤ t) (t2 : t < 4) (w1 : 2 ≤ w) (w2 : w ≤ 6) (h1 : 1 ≤ h) (h2 : h ≤ 5) (N1 : 0 ≤ w * h) (N2 : w * h ≤ 30) : ∀ (m M : Nat) (q c : Int) (gr : Fl) (I : Nat → Nat → Int32), 0 ≤ q → q ≤ a_tz A t → a_tz A t - q ≤ m → m + 100 < M → iM I J A → I 87 15 = j_k q → I 87 17 = j_k w → I 87 18 = j_k h → I 87 19 = j_k c → I 87 20 = j_k 0 → 0 ≤ c → c ≤ w * h → (∀ i : Int, 0 ≤ i → i < c → I 96 i.toNat = j_k (gr i) ∧ 0 ≤ gr i ∧ gr i ≤ 4) → ∃ I', j_exec k_157 h_157 (j_run (d + 4)) M 25 [some (.ref 87), some (.int (j_k t))] [] (ST L p I J) = some (some (.int (j_k (p_fC (a_tv A t) (a_tz A t) w h (p_rdC (a_tv A t) (a_tz A t) (w * h - c).toNat c q gr)))), ST L p I' J) ∧ frL I I' ∧ (∀ C, p_rdC (a_tv A t) (a_tz A t) (w * h - c).toNat c q gr = C → C.1 = true → ∀ B, p_rdB (a_tv A t) (a_tz A t) w h C.2.2 4 0 C.2.1 (fun _ => 0) p_clr = B → B.1 = true → rdS I' w h C.2.2 B.2.2.1 B.2.2.2.1 B.2.2.2.2) := by
  have DONE : ∀ (m M : Nat) (q : Int) (gr : Fl) (I : Nat → Nat → Int32), 0 ≤ q → q ≤ a_tz A t → a_tz A t - q ≤ m → m < M → iM I J A → I 87 15 = j_k q → I 87 17 = j_k w → I 87 18 = j_k h → I 87 19 = j_k (w * h) → I 87 20 = j_k 0 → (∀ i : Int, 0 ≤ i → i < w * h → I 96 i.toNat = j_k (gr i) ∧ 0 ≤ gr i ∧ gr i ≤ 4) → ∃ I', j_exec k_157 h_157 (j_run (d + 4)) M 25 [some (.ref 87), some (.int (j_k t))] [] (ST L p I J) = some (some (.int (j_k (p_fC (a_tv A t) (a_tz A t) w h (true, q, gr)))), ST L p I' J) ∧ frL I I' ∧ ∀ C, (true, q, gr) = C → C.1 = true → ∀ B, p_rdB (a_tv A t) (a_tz A t) w h C.2.2 4 0 C.2.1 (fun _ => 0) p_clr = B → B.1 = true → rdS I' w h C.2.2 B.2.2.1 B.2.2.2.1 B.2.2.2.2 := fun m M q gr I q1 q2 q3 hM hx hq hw hh hc hn hg => by
    obtain ⟨I', r1, r2, r3⟩ := n_rdB (L := L) (p := p) (d := d) (J := J) (A := A) (t := t) (w := w) (h := h) (gr := gr) t1 t2 w1 w2 h1 h2 N1 N2 m M q 0 (fun _ => 0) p_clr I q1 q2 q3 hM hx hq hh ⟨hw, hc, hn, hg, fun k k1 k2 => absurd k2 (by omega), fun k k1 k2 => absurd k2 (by omega), fun _ _ _ => rfl, fun k k1 k2 => absurd k2 (by omega)⟩ (Int.le_refl 0) (by decide)
    refine ⟨I', r1, r2, fun C hC _ B hB hB1 => ?_⟩
    subst hC
    subst hB
    exact r3 hB1
  intro m
  induction m with
  | zero =>
    intro M q c gr I q1 q2 q3 hM hx hq hw hh hc hn c1 c2 hg
    by_cases cN : c = w * h
    · subst cN
      rw [show (w * h - w * h).toNat = 0 by omega]
      exact DONE 0 M q gr I q1 q2 q3 (by omega) hx hq hw hh hc hn hg
    · obtain ⟨M, rfl⟩ : ∃ q, M = q + 1 := ⟨M - 1, by omega⟩
      have qe : q = a_tz A t := by omega
      obtain ⟨k, hk⟩ : ∃ k, (w * h - c).toNat = k + 1 := ⟨(w * h - c).toNat - 1, by omega⟩
      have R : p_rdC (a_tv A t) (a_tz A t) (w * h - c).toNat c q gr = (false, q, gr) := by
        rw [hk]
        unfold p_rdC
        rw [skip_e (by omega), if_pos]
        unfold p_sg
        rw [if_neg (by omega)]
        decide
      rw [R]
      have e := h_end (L := L) (p := p) (d := d) (M := M) (t := t) hx t1 t2 (by rw [hq, qe]) hw hh hc (by omega) w2 c1 (by omega) N1 N2
      rw [if_pos (Or.inr (by omega)), ← qe] at e
      exact ⟨I, e, .rf, fun C hC u => by subst hC; exact absurd u Bool.false_ne_true⟩
  | succ m ih =>
    intro M q c gr I q1 q2 q3 hM hx hq hw hh hc hn c1 c2 hg
    by_cases cN : c = w * h
    · subst cN
      rw [show (w * h - w * h).toNat = 0 by omega]
      exact DONE (m + 1) M q gr I q1 q2 q3 (by omega) hx hq hw hh hc hn hg
    · obtain ⟨M, rfl⟩ : ∃ q, M = q + 1 := ⟨M - 1, by omega⟩
      obtain ⟨k, hk⟩ : ∃ k, (w * h - c).toNat = k + 1 := ⟨(w * h - c).toNat - 1, by omega⟩
      by_cases qe : q = a_tz A t
      · have R : p_rdC (a_tv A t) (a_tz A t) (w * h - c).toNat c q gr = (false, q, gr) := by
          rw [hk]
          unfold p_rdC
          rw [skip_e (by omega), if_pos]
          unfold p_sg
          rw [if_neg (by omega)]
          decide
        rw [R]
        have e := h_end (L := L) (p := p) (d := d) (M := M) (t := t) hx t1 t2 (by rw [hq, qe]) hw hh hc (by omega) w2 c1 (by omega) N1 N2
        rw [if_pos (Or.inr (by omega)), ← qe] at e
        exact ⟨I, e, .rf, fun C hC u => by subst hC; exact absurd u Bool.false_ne_true⟩
      · have ql : q < a_tz A t := by omega
        by_cases hb : a_tv A t q = 32
        · have fr1 : frL I (u2 I 87 15 (j_k (q + 1))) := frL.o (by decide) (by decide)
          obtain ⟨I', r1, r2, r3⟩ := ih M (q + 1) c gr (u2 I 87 15 (j_k (q + 1))) (by omega) (by omega) (by omega) (by omega) (fr1.x hx) (u2_ss _ _ _ _) (by rw [u2_k (by decide)]; exact hw) (by rw [u2_k (by decide)]; exact hh) (by rw [u2_k (by decide)]; exact hc) (by rw [u2_k (by decide)]; exact hn) c1 c2 (fun i i1 i2 => by rw [u2_r (by decide)]; exact hg i i1 i2)
          rw [hk] at r1 r3 ⊢
          rw [rdC_b ql hb]
          exact ⟨I', (h_blank (L := L) (p := p) (d := d) hx t1 t2 q1 ql hq hb).trans r1, fr1.tr r2, r3⟩
        · have sk := skip_n (T := a_tv A t) (s := a_tz A t) (q := q) ql hb
          obtain ⟨I1, a1, a2, a3⟩ := n_sign (L := L) (p := p) (d := d + 2) (t := t) hx t1 t2 q1 ql hq c1 (show c < 30 by omega) hc
          have sr := sign_rg (p_sg (a_tv A t) (a_tz A t) q)
          have R : p_rdC (a_tv A t) (a_tz A t) (w * h - c).toNat c q gr = if p_sign (p_sg (a_tv A t) (a_tz A t) q) = -9 then (false, q, gr) else p_rdC (a_tv A t) (a_tz A t) k (c + 1) (q + 1) (f2 gr c (p_sign (p_sg (a_tv A t) (a_tz A t) q))) := by
            rw [hk]
            show (if p_sign (p_sg (a_tv A t) (a_tz A t) (p_skip (a_tv A t) (a_tz A t) q)) = -9 then _ else _) = _
            rw [sk]
          rw [R]
          generalize p_sign (p_sg (a_tv A t) (a_tz A t) q) = g at *
          by_cases x : g = -9
          · rw [if_pos x]
            have eI := a2 x
            subst eI
            rw [show j_z (g ≠ -9) = j_k 0 from if_neg (fun u => u x)] at a1
            have e := h_sign (L := L) (p := p) (d := d) (M := M) hx t1 t2 q1 ql hq hb hw hh hc w1 w2 c1 (by omega) N2 (Or.inl rfl) a1
            rw [if_pos rfl, hq] at e
            exact ⟨_, e, .rf, fun C hC u => by subst hC; exact absurd u Bool.false_ne_true⟩
          · rw [if_neg x]
            have eI := a3 x
            rw [show j_z (g ≠ -9) = j_k 1 from if_pos x] at a1
            have e := h_sign (L := L) (p := p) (d := d) (M := M) hx t1 t2 q1 ql hq hb hw hh hc w1 w2 c1 (by omega) N2 (Or.inr rfl) a1
            rw [if_neg (by decide)] at e
            have fr1 : frL I I1 := by
              rw [eI]
              exact ((frL.c (Or.inl rfl)).tr (frL.o (by decide) (by decide))).tr (frL.o (by decide) (by decide))
            have hk2 : (w * h - (c + 1)).toNat = k := by omega
            obtain ⟨I', r1, r2, r3⟩ := ih M (q + 1) (c + 1) (f2 gr c g) I1 (by omega) (by omega) (by omega) (by omega) (fr1.x hx) (by rw [eI, u2_ss]) (by rw [eI, u2_k (by decide), u2_k (by decide), u2_r (by decide)]; exact hw) (by rw [eI, u2_k (by decide), u2_k (by decide), u2_r (by decide)]; exact hh) (by rw [eI, u2_k (by decide), u2_ss]) (by rw [eI, u2_k (by decide), u2_k (by decide), u2_r (by decide)]; exact hn) (by omega) (by omega) (fun i i1 i2 => by
              rw [eI, u2_r (by decide), u2_r (by decide)]
              unfold f2
              by_cases y : i = c
              · subst y
                rw [u2_ss, if_pos rfl]
                exact ⟨rfl, by omega, by omega⟩
              · rw [u2_k (by omega), if_neg y]
                exact hg i i1 (by omega))
            rw [hk2] at r1 r3
            exact ⟨I', e.trans r1, fr1.tr r2, r3⟩
theorem fault_C {T : Int → Int} {s : Int} (h : (p_rdG T s).1 = true) : p_faultV T s = p_fC T s (p_rdG T s).2.2.1 (p_rdG T s).2.2.2 (p_rC T s) := if_pos h
theorem rdG_G {T : Int → Int} {s : Int} : p_rdG T s = p_G T s (p_skip T s 0) := rfl
theorem G_rg {T : Int → Int} {s q : Int} (h : (p_G T s q).1 = true) : (2 ≤ (p_G T s q).2.2.1 ∧ (p_G T s q).2.2.1 ≤ 6) ∧ (1 ≤ (p_G T s q).2.2.2 ∧ (p_G T s q).2.2.2 ≤ 5) ∧ (p_G T s q).2.1 = q + 3 ∧ q + 3 ≤ s := by
  unfold p_G at h ⊢
  by_cases x : p_sg T s q = 103
  · rw [if_pos x] at h ⊢
    by_cases y : p_fig T s 2 6 (q + 1) = -9
    · rw [if_pos y] at h
      exact absurd h Bool.false_ne_true
    · rw [if_neg y] at h ⊢
      by_cases z : p_fig T s 1 5 (q + 2) = -9
      · rw [if_pos z] at h
        exact absurd h Bool.false_ne_true
      · rw [if_neg z]
        have a := (fig_rg (T := T) (s := s) (lo := 2) (hi := 6) (q := q + 1) (by decide)).resolve_left y
        have b := (fig_rg (T := T) (s := s) (lo := 1) (hi := 5) (q := q + 2) (by decide)).resolve_left z
        have c := fig_lt (T := T) (s := s) (lo := 1) (hi := 5) (q := q + 2) (by decide) z
        exact ⟨a, b, rfl, by omega⟩
  · rw [if_neg x] at h
    exact absurd h Bool.false_ne_true
/-- the whole text -/
theorem n_faultOf (hx : iM I J A) (t1 : 0 ≤ t) (t2 : t < 4) (hz : a_tz A t ≠ -1) : ∃ I', j_run (d + 5) 157 [.ref 87, .int (j_k t)] (ST L p I J) = some (some (.int (j_k (p_faultV (a_tv A t) (a_tz A t)))), ST L p I' J) ∧ frL I I' ∧ (p_faultV (a_tv A t) (a_tz A t) = -9 → rdS I' (p_rdG (a_tv A t) (a_tz A t)).2.2.1 (p_rdG (a_tv A t) (a_tz A t)).2.2.2 (p_rC (a_tv A t) (a_tz A t)).2.2 (p_rB (a_tv A t) (a_tz A t)).2.2.1 (p_rB (a_tv A t) (a_tz A t)).2.2.2.1 (p_rB (a_tv A t) (a_tz A t)).2.2.2.2) := by
  have hz1 := hx.1.2.2.2.2.1 t t1 t2
  have F5 : frL I (u2 (u2 (u2 (u2 (u2 I 87 15 (j_k 0)) 87 17 (j_k 0)) 87 18 (j_k 0)) 87 19 (j_k 0)) 87 20 (j_k 0)) := ((((frL.o (by decide) (by decide)).tr (frL.o (by decide) (by decide))).tr (frL.o (by decide) (by decide))).tr (frL.o (by decide) (by decide))).tr (frL.o (by decide) (by decide))
  have loop : ∀ (m M : Nat) (q : Int) (I : Nat → Nat → Int32), 0 ≤ q → q ≤ a_tz A t → a_tz A t - q ≤ m → m + 300 < M → iM I J A → I 87 15 = j_k q → I 87 17 = j_k 0 → I 87 18 = j_k 0 → I 87 19 = j_k 0 → I 87 20 = j_k 0 → p_skip (a_tv A t) (a_tz A t) 0 = p_skip (a_tv A t) (a_tz A t) q → ∃ I', j_exec k_157 h_157 (j_run (d + 4)) M 25 [some (.ref 87), some (.int (j_k t))] [] (ST L p I J) = some (some (.int (j_k (p_faultV (a_tv A t) (a_tz A t)))), ST L p I' J) ∧ frL I I' ∧ (p_faultV (a_tv A t) (a_tz A t) = -9 → rdS I' (p_rdG (a_tv A t) (a_tz A t)).2.2.1 (p_rdG (a_tv A t) (a_tz A t)).2.2.2 (p_rC (a_tv A t) (a_tz A t)).2.2 (p_rB (a_tv A t) (a_tz A t)).2.2.1 (p_rB (a_tv A t) (a_tz A t)).2.2.2.1 (p_rB (a_tv A t) (a_tz A t)).2.2.2.2) := by
    have STOP : ∀ (M : Nat) (q : Int) (I : Nat → Nat → Int32), q = a_tz A t → iM I J A → I 87 15 = j_k q → I 87 17 = j_k 0 → I 87 18 = j_k 0 → I 87 19 = j_k 0 → p_skip (a_tv A t) (a_tz A t) 0 = p_skip (a_tv A t) (a_tz A t) q → ∃ I', j_exec k_157 h_157 (j_run (d + 4)) (M + 1) 25 [some (.ref 87), some (.int (j_k t))] [] (ST L p I J) = some (some (.int (j_k (p_faultV (a_tv A t) (a_tz A t)))), ST L p I' J) ∧ frL I I' ∧ (p_faultV (a_tv A t) (a_tz A t) = -9 → rdS I' (p_rdG (a_tv A t) (a_tz A t)).2.2.1 (p_rdG (a_tv A t) (a_tz A t)).2.2.2 (p_rC (a_tv A t) (a_tz A t)).2.2 (p_rB (a_tv A t) (a_tz A t)).2.2.1 (p_rB (a_tv A t) (a_tz A t)).2.2.2.1 (p_rB (a_tv A t) (a_tz A t)).2.2.2.2) := fun M q I qe hx hq hw hh hc sk => by
      have sk2 := skip_e (T := a_tv A t) (s := a_tz A t) (q := q) (by omega)
      have G : p_rdG (a_tv A t) (a_tz A t) = (false, q, 0, 0) := by
        rw [rdG_G, sk, sk2]
        unfold p_G
        rw [if_neg]
        unfold p_sg
        rw [if_neg (by omega)]
        decide
      have V : p_faultV (a_tv A t) (a_tz A t) = q := by
        unfold p_faultV
        rw [G]
        exact if_neg Bool.false_ne_true
      have e := h_end (L := L) (p := p) (d := d) (M := M) (t := t) hx t1 t2 (by rw [hq, qe]) hw hh hc (Int.le_refl 0) (by decide) (Int.le_refl 0) (by decide) (by decide) (by decide)
      rw [if_pos (Or.inl rfl), ← qe] at e
      rw [V]
      exact ⟨I, e, .rf, fun u => absurd u (by omega)⟩
    intro m
    induction m with
    | zero =>
      intro M q I q1 q2 q3 hM hx hq hw hh hc hn sk
      obtain ⟨M, rfl⟩ : ∃ q, M = q + 1 := ⟨M - 1, by omega⟩
      exact STOP M q I (by omega) hx hq hw hh hc sk
    | succ m ih =>
      intro M q I q1 q2 q3 hM hx hq hw hh hc hn sk
      obtain ⟨M, rfl⟩ : ∃ q, M = q + 1 := ⟨M - 1, by omega⟩
      by_cases qe : q = a_tz A t
      · exact STOP M q I qe hx hq hw hh hc sk
      · have ql : q < a_tz A t := by omega
        by_cases hb : a_tv A t q = 32
        · have fr1 : frL I (u2 I 87 15 (j_k (q + 1))) := frL.o (by decide) (by decide)
          obtain ⟨I', r1, r2, r3⟩ := ih M (q + 1) (u2 I 87 15 (j_k (q + 1))) (by omega) (by omega) (by omega) (by omega) (fr1.x hx) (u2_ss _ _ _ _) (by rw [u2_k (by decide)]; exact hw) (by rw [u2_k (by decide)]; exact hh) (by rw [u2_k (by decide)]; exact hc) (by rw [u2_k (by decide)]; exact hn) (by rw [sk]; exact skip_b ql hb)
          exact ⟨I', (h_blank (L := L) (p := p) (d := d) hx t1 t2 q1 ql hq hb).trans r1, fr1.tr r2, r3⟩
        · have sk2 := skip_n (T := a_tv A t) (s := a_tz A t) (q := q) ql hb
          have G : p_rdG (a_tv A t) (a_tz A t) = p_G (a_tv A t) (a_tz A t) q := by rw [rdG_G, sk, sk2]
          obtain ⟨I1, a1, a2, a3, a4, a5, a6, a7⟩ := n_grid (L := L) (p := p) (d := d + 1) (t := t) hx t1 t2 q1 ql hq
          rw [← G] at a1 a3 a4
          by_cases y : (p_rdG (a_tv A t) (a_tz A t)).1 = true
          · have gr := G_rg (T := a_tv A t) (s := a_tz A t) (q := q) (by rw [← G]; exact y)
            rw [← G] at gr
            obtain ⟨⟨w1, w2⟩, ⟨h1, h2⟩, g3, g4⟩ := gr
            rw [show j_z ((p_rdG (a_tv A t) (a_tz A t)).1 = true) = j_k 1 from if_pos y] at a1
            have e := h_grid (L := L) (p := p) (d := d) (M := M) hx t1 t2 q1 ql hq hb hw (Or.inr rfl) a1
            rw [if_neg (by decide)] at e
            obtain ⟨b1, b2⟩ := a4 y
            rw [fault_C y]
            have RC : p_rC (a_tv A t) (a_tz A t) = p_rdC (a_tv A t) (a_tz A t) ((p_rdG (a_tv A t) (a_tz A t)).2.2.1 * (p_rdG (a_tv A t) (a_tz A t)).2.2.2).toNat 0 (p_rdG (a_tv A t) (a_tz A t)).2.1 (fun _ => 0) := rfl
            have RB : p_rB (a_tv A t) (a_tz A t) = p_rdB (a_tv A t) (a_tz A t) (p_rdG (a_tv A t) (a_tz A t)).2.2.1 (p_rdG (a_tv A t) (a_tz A t)).2.2.2 (p_rC (a_tv A t) (a_tz A t)).2.2 4 0 (p_rC (a_tv A t) (a_tz A t)).2.1 (fun _ => 0) p_clr := rfl
            rw [RB, RC]
            rw [g3] at a3
            rw [g3]
            generalize (p_rdG (a_tv A t) (a_tz A t)).2.2.1 = w at *
            generalize (p_rdG (a_tv A t) (a_tz A t)).2.2.2 = h at *
            have N1 : 0 ≤ w * h := Int.mul_nonneg (by omega) (by omega)
            have N2 : w * h ≤ 30 := by
              have := Int.mul_le_mul w2 h2 (by omega) (by decide : (0 : Int) ≤ 6)
              omega
            obtain ⟨I', r1, r2, r3⟩ := n_rdC (L := L) (p := p) (d := d) (J := J) (A := A) (t := t) (w := w) (h := h) t1 t2 w1 w2 h1 h2 N1 N2 80 M (q + 3) 0 (fun _ => 0) I1 (by omega) g4 (by omega) (by omega) (a2.x hx) a3 b1 b2 (by rw [a6]; exact hc) (by rw [a7]; exact hn) (Int.le_refl 0) N1 (fun i i1 i2 => absurd i2 (by omega))
            rw [Int.sub_zero] at r1 r3
            refine ⟨I', e.trans r1, a2.tr r2, fun u => ?_⟩
            obtain ⟨C, hC⟩ : ∃ C, p_rdC (a_tv A t) (a_tz A t) (w * h).toNat 0 (q + 3) (fun _ => 0) = C := ⟨_, rfl⟩
            rw [hC] at u ⊢
            obtain ⟨B, hB⟩ : ∃ B, p_rdB (a_tv A t) (a_tz A t) w h C.2.2 4 0 C.2.1 (fun _ => 0) p_clr = B := ⟨_, rfl⟩
            have c1 : C.1 = true := Decidable.byContradiction (fun v => by
              have u' : p_fC (a_tv A t) (a_tz A t) w h C = C.2.1 := if_neg v
              rw [u'] at u
              have pos := rdC_pos (T := a_tv A t) (s := a_tz A t) (w * h).toNat 0 (q + 3) (fun _ => 0) (by omega)
              rw [hC] at pos
              omega)
            have u' : p_fC (a_tv A t) (a_tz A t) w h C = if (p_rdB (a_tv A t) (a_tz A t) w h C.2.2 4 0 C.2.1 (fun _ => 0) p_clr).1 = true then -9 else (p_rdB (a_tv A t) (a_tz A t) w h C.2.2 4 0 C.2.1 (fun _ => 0) p_clr).2.1 := if_pos c1
            rw [u', hB] at u
            have pc := rdC_pos (T := a_tv A t) (s := a_tz A t) (w * h).toNat 0 (q + 3) (fun _ => 0) (by omega)
            rw [hC] at pc
            have pb := rdB_pos (T := a_tv A t) (s := a_tz A t) (w := w) (h := h) (gr := C.2.2) 4 0 C.2.1 (fun _ => 0) p_clr pc
            rw [hB] at pb
            have b1 : B.1 = true := Decidable.byContradiction (fun v => by
              rw [if_neg v] at u
              omega)
            rw [hB]
            exact r3 C hC c1 B hB b1
          · rw [show j_z ((p_rdG (a_tv A t) (a_tz A t)).1 = true) = j_k 0 from if_neg y] at a1
            have e := h_grid (L := L) (p := p) (d := d) (M := M) hx t1 t2 q1 ql hq hb hw (Or.inl rfl) a1
            rw [if_pos rfl, a3] at e
            have V : p_faultV (a_tv A t) (a_tz A t) = (p_rdG (a_tv A t) (a_tz A t)).2.1 := if_neg y
            have pos : 0 ≤ (p_rdG (a_tv A t) (a_tz A t)).2.1 := by
              rw [G]
              unfold p_G
              split
              · split
                · show 0 ≤ q + 1
                  omega
                · split
                  · show 0 ≤ q + 2
                    omega
                  · show 0 ≤ q + 3
                    omega
              · exact q1
            rw [V]
            exact ⟨I1, e, a2, fun u => absurd u (by omega)⟩
  obtain ⟨M, hM, hM2⟩ : ∃ M, M = 999999 ∧ 5000 < M := ⟨999999, rfl, by decide⟩
  obtain ⟨I', r1, r2, r3⟩ := loop (a_tz A t).toNat M 0 _ (Int.le_refl 0) (by omega) (by omega) (by omega) (F5.x hx) (by simp (disch := first | assumption | omega) only [k_add, k_sub, k_mul, k_lt, k_eq, k_lt0, k_0lt, k_eq0, k_nat, k_b0, k_b1, k_z1, k_z0, k_o1, k_o0, Int.reduceEq, Int.reduceLT, Int.reduceLE, Int.reduceAdd, Int.reduceMul, Int.reduceNeg, Bool.false_eq_true, or_true, true_or, or_false, false_or, and_true, true_and, and_false, false_and, not_true_eq_false, not_false_eq_true, ↓reduceIte, z_0, z_k, s_I, s_J, s_uI, s_uJ, u2_ss, u2_k]) (by simp (disch := first | assumption | omega) only [k_add, k_sub, k_mul, k_lt, k_eq, k_lt0, k_0lt, k_eq0, k_nat, k_b0, k_b1, k_z1, k_z0, k_o1, k_o0, Int.reduceEq, Int.reduceLT, Int.reduceLE, Int.reduceAdd, Int.reduceMul, Int.reduceNeg, Bool.false_eq_true, or_true, true_or, or_false, false_or, and_true, true_and, and_false, false_and, not_true_eq_false, not_false_eq_true, ↓reduceIte, z_0, z_k, s_I, s_J, s_uI, s_uJ, u2_ss, u2_k]) (by simp (disch := first | assumption | omega) only [k_add, k_sub, k_mul, k_lt, k_eq, k_lt0, k_0lt, k_eq0, k_nat, k_b0, k_b1, k_z1, k_z0, k_o1, k_o0, Int.reduceEq, Int.reduceLT, Int.reduceLE, Int.reduceAdd, Int.reduceMul, Int.reduceNeg, Bool.false_eq_true, or_true, true_or, or_false, false_or, and_true, true_and, and_false, false_and, not_true_eq_false, not_false_eq_true, ↓reduceIte, z_0, z_k, s_I, s_J, s_uI, s_uJ, u2_ss, u2_k]) (by simp (disch := first | assumption | omega) only [k_add, k_sub, k_mul, k_lt, k_eq, k_lt0, k_0lt, k_eq0, k_nat, k_b0, k_b1, k_z1, k_z0, k_o1, k_o0, Int.reduceEq, Int.reduceLT, Int.reduceLE, Int.reduceAdd, Int.reduceMul, Int.reduceNeg, Bool.false_eq_true, or_true, true_or, or_false, false_or, and_true, true_and, and_false, false_and, not_true_eq_false, not_false_eq_true, ↓reduceIte, z_0, z_k, s_I, s_J, s_uI, s_uJ, u2_ss, u2_k]) (by simp (disch := first | assumption | omega) only [k_add, k_sub, k_mul, k_lt, k_eq, k_lt0, k_0lt, k_eq0, k_nat, k_b0, k_b1, k_z1, k_z0, k_o1, k_o0, Int.reduceEq, Int.reduceLT, Int.reduceLE, Int.reduceAdd, Int.reduceMul, Int.reduceNeg, Bool.false_eq_true, or_true, true_or, or_false, false_or, and_true, true_and, and_false, false_and, not_true_eq_false, not_false_eq_true, ↓reduceIte, z_0, z_k, s_I, s_J, s_uI, s_uJ, u2_ss, u2_k]) rfl
  have e := (r_157 (d + 4) (ST L p I J) 87 (j_k t)).trans (t_157_0 _ _ _ _ _)
  rw [← hM] at e
  simp (disch := first | assumption | omega) only [k_add, k_sub, k_mul, k_lt, k_eq, k_lt0, k_0lt, k_eq0, k_nat, k_b0, k_b1, k_z1, k_z0, k_o1, k_o0, Int.reduceEq, Int.reduceLT, Int.reduceLE, Int.reduceAdd, Int.reduceMul, Int.reduceNeg, Bool.false_eq_true, or_true, true_or, or_false, false_or, and_true, true_and, and_false, false_and, not_true_eq_false, not_false_eq_true, ↓reduceIte, z_0, z_k, s_I, s_J, s_uI, s_uJ, ↓c_oc_87, ↓c_lt_87] at e
  exact ⟨I', e.trans r1, F5.tr r2, r3⟩
end MREAD3
