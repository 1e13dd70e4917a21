/-! ===== the law writes the ground into a text, and has it read ===== -/
theorem frX.tr {I I1 I2 : Nat → Nat → Int32} {J J1 J2 : Nat → Nat → Int64} (h : frX I I1 J J1) (h' : frX I1 I2 J1 J2) : frX I I2 J J2 := ⟨fun r a => (h'.1 r a).trans (h.1 r a), fun r a => (h'.2 r a).trans (h.2 r a)⟩
theorem frX.rf {I : Nat → Nat → Int32} {J : Nat → Nat → Int64} : frX I I J J := ⟨fun _ _ => rfl, fun _ _ => rfl⟩
theorem gI.cg {I I' : Nat → Nat → Int32} {w h n : Int} {gr kd ce : Fl} (h1 : I' 87 = I 87) (hI : gI I w h n gr kd ce) : gI I' w h n gr kd ce := by
  unfold gI
  rw [h1]
  exact hI
/-- the text that is meant -/
def tgt (w h n : Int) (gr kd ce : Fl) (i : Int) : Int := if i = 1 then 103 else if i = 2 then 48 + w else if i = 3 then 48 + h else if 4 ≤ i ∧ i < 4 + w * h then p_tbS (gr (i - 4)) else if 4 + w * h ≤ i ∧ i < 4 + w * h + 3 * n then (if (i - 4 - w * h) % 3 = 0 then p_tbL (kd ((i - 4 - w * h) / 3)) else if (i - 4 - w * h) % 3 = 1 then 48 + ce ((i - 4 - w * h) / 3) % w else 48 + ce ((i - 4 - w * h) / 3) / w) else 32
def tw (w h n : Int) (gr kd ce : Fl) (q : Int) : Int → Int := fun i => if i < q then tgt w h n gr kd ce i else 32
section LAW3
variable {L p d : Nat} {I : Nat → Nat → Int32} {J : Nat → Nat → Int64} {A : Ast} {w h n : Int} {gr kd ce : Fl}
theorem ce_xy (hG : okG w h n gr kd ce) {k : Int} (k0 : 0 ≤ k) (k1 : k < n) : 0 ≤ ce k % w ∧ ce k % w < w ∧ 0 ≤ ce k / w ∧ ce k / w < h := by
  obtain ⟨-, c0, c1, -⟩ := hG.2.2.2.1 k k0 k1
  have hw := hG.1
  exact ⟨Int.emod_nonneg _ (by omega), Int.emod_lt_of_pos _ (by omega), Int.ediv_nonneg c0 (by omega), Int.ediv_lt_of_lt_mul (by omega) (by rw [Int.mul_comm]; exact c1)⟩
theorem tg_cell (hG : okG w h n gr kd ce) {c : Int} (c0 : 0 ≤ c) (c1 : c < w * h) : tgt w h n gr kd ce (4 + c) = p_tbS (gr c) := by
  unfold tgt
  rw [if_neg (by omega), if_neg (by omega), if_neg (by omega), if_pos (by omega), show 4 + c - 4 = c by omega]
theorem tg_b0 (hG : okG w h n gr kd ce) {k : Int} (k0 : 0 ≤ k) (k1 : k < n) : tgt w h n gr kd ce (4 + w * h + 3 * k) = p_tbL (kd k) := by
  have hN := wh_30 hG.1
  unfold tgt
  rw [if_neg (by omega), if_neg (by omega), if_neg (by omega), if_neg (by omega), if_pos (by omega), if_pos (by omega), show (4 + w * h + 3 * k - 4 - w * h) / 3 = k by omega]
theorem tg_b1 (hG : okG w h n gr kd ce) {k : Int} (k0 : 0 ≤ k) (k1 : k < n) : tgt w h n gr kd ce (4 + w * h + 3 * k + 1) = 48 + ce k % w := by
  have hN := wh_30 hG.1
  unfold tgt
  rw [if_neg (by omega), if_neg (by omega), if_neg (by omega), if_neg (by omega), if_pos (by omega), if_neg (by omega), if_pos (by omega), show (4 + w * h + 3 * k + 1 - 4 - w * h) / 3 = k by omega]
theorem tg_b2 (hG : okG w h n gr kd ce) {k : Int} (k0 : 0 ≤ k) (k1 : k < n) : tgt w h n gr kd ce (4 + w * h + 3 * k + 2) = 48 + ce k / w := by
  have hN := wh_30 hG.1
  unfold tgt
  rw [if_neg (by omega), if_neg (by omega), if_neg (by omega), if_neg (by omega), if_pos (by omega), if_neg (by omega), if_neg (by omega), show (4 + w * h + 3 * k + 2 - 4 - w * h) / 3 = k by omega]
theorem tw_okT (hG : okG w h n gr kd ce) : okT w h n gr kd ce (tw w h n gr kd ce (4 + w * h + 3 * n)) := by
  have hN := wh_30 hG.1
  have hn := hG.2.1
  refine ⟨⟨?_, ?_, ?_, ?_⟩, fun c c0 c1 => ?_, fun k k0 k1 => ⟨?_, ?_, ?_⟩, fun i i0 i1 => if_neg (by omega)⟩
  · unfold tw
    rw [if_pos (by omega)]
    unfold tgt
    rw [if_neg (by decide), if_neg (by decide), if_neg (by decide), if_neg (by omega), if_neg (by omega)]
  · unfold tw
    rw [if_pos (by omega)]
    rfl
  · unfold tw
    rw [if_pos (by omega)]
    rfl
  · unfold tw
    rw [if_pos (by omega)]
    rfl
  · unfold tw
    rw [if_pos (by omega)]
    exact tg_cell hG c0 c1
  · unfold tw
    rw [if_pos (by omega)]
    exact tg_b0 hG k0 k1
  · unfold tw
    rw [if_pos (by omega)]
    exact tg_b1 hG k0 k1
  · unfold tw
    rw [if_pos (by omega)]
    exact tg_b2 hG k0 k1
/-- what holds while the text is written -/
def wS (w h n : Int) (gr kd ce : Fl) (z : Int → Int) (q : Int) (A : Ast) : Prop := a_tz A 3 = 80 ∧ a_tv A 3 = tw w h n gr kd ce q ∧ a_rz A = z
theorem lw_put {z : Int → Int} (hx : iX I J A) {q v : Int} (hS : wS w h n gr kd ce z q A) (q0 : 1 ≤ q) (q1 : q < 80) (hv : tgt w h n gr kd ce q = v) (v0 : 0 ≤ v) (v1 : v < 128) : ∃ p' I' J' A', j_run (d + 6) 129 [.ref 0, .int (j_k q), .int (j_k v)] (ST L p I J) = some (some (.int (j_k (q + 1))), ST L p' I' J') ∧ iX I' J' A' ∧ frX I I' J J' ∧ wS w h n gr kd ce z (q + 1) A' := by
  obtain ⟨s1, s2, s3⟩ := hS
  have e0 : (p_place 4 (a_tz A) 3 q A) = (0, A) := by
    have em : p_miss 4 (a_tz A) 3 A = (0, A) := by
      unfold p_miss
      rw [if_pos (by decide), s1, if_neg (by decide)]
    unfold p_place
    rw [em, if_pos rfl, s1, if_pos (by omega)]
  have e1 : p_put 3 q (j_k v) A = (1032, A_tv A (f2 (a_tv A) 3 (f2 (a_tv A 3) q v))) := by
    unfold p_put
    rw [e0, if_pos rfl, byte_is v0 v1, s2]
    unfold tw
    rw [if_neg (Int.lt_irrefl q)]
    rfl
  have h := x_put (L := L) (p := p) (d := d + 1) hx (r := 3) (i := q) (v := j_k v) (by decide) (by decide) (by omega) (by omega)
  rw [e1] at h
  obtain ⟨p1, I1, J1, r1, r2, r3⟩ := h
  refine ⟨p1, I1, J1, _, ?_, r2, r3, s1, ?_, s3⟩
  · have z1 : ¬ q < 0 := by omega
    rw [r_129, t_129_0]
    simp (disch := first | assumption | omega) only [k_add, k_sub, k_mul, k_lt, k_eq, k_lt0, k_0lt, k_eq0, k_nat, k_b0, k_b1, k_z1, k_z0, k_o1, k_o0, Int.reduceEq, Int.reduceLT, Int.reduceLE, Int.reduceAdd, Int.reduceMul, Int.reduceNeg, Int.reduceToNat, Bool.false_eq_true, or_true, true_or, or_false, false_or, and_true, true_and, and_false, false_and, not_true_eq_false, not_false_eq_true, ↓reduceIte, z_0, z_k, s_I, s_J, s_uI, s_uJ, z1, ↓c_oc_0, ↓jc1 r1]
  · show f2 (a_tv A) 3 (f2 (a_tv A 3) q v) 3 = _
    rw [show f2 (a_tv A) 3 (f2 (a_tv A 3) q v) 3 = f2 (a_tv A 3) q v from if_pos rfl, s2]
    funext i
    unfold f2 tw
    by_cases y : i = q
    · subst y
      rw [if_pos rfl, if_pos (by omega)]
      exact hv.symm
    · rw [if_neg y]
      by_cases y2 : i < q
      · rw [if_pos y2, if_pos (by omega)]
      · rw [if_neg y2, if_neg (by omega)]
/-- one cell -/
theorem gd_cell {z : Int → Int} (hG : okG w h n gr kd ce) (hI : gI I w h n gr kd ce) (hx : iX I J A) {c : Int} (c0 : 0 ≤ c) (c1 : c < w * h) (hS : wS w h n gr kd ce z (4 + c) A) {M : Nat} : ∃ p' I' J' A', j_exec k_131 h_131 (j_run (d + 6)) (M + 2) 44 [some (.ref 0), some (.ref 87), some (.int (j_k (4 + c))), some (.int (j_k c)), none] [] (ST L p I J) = j_exec k_131 h_131 (j_run (d + 6)) M 44 [some (.ref 0), some (.ref 87), some (.int (j_k (4 + (c + 1)))), some (.int (j_k (c + 1))), none] [] (ST L p' I' J') ∧ iX I' J' A' ∧ frX I I' J J' ∧ wS w h n gr kd ce z (4 + (c + 1)) A' := by
  have hN := wh_30 hG.1
  obtain ⟨i0, i1, ic, -⟩ := hI
  have ig := ic c c0 c1
  have hg := hG.2.2.1 c c0 c1
  have hb := tbS_is hg.1 hg.2
  obtain ⟨p1, I1, J1, A1, r1, r2, r3, r4⟩ := lw_put (L := L) (p := p) (d := d) hx hS (by omega) (by omega) (tg_cell hG c0 c1) hb.2.2.1 hb.2.2.2
  refine ⟨p1, I1, J1, A1, ?_, r2, r3, by rw [show 4 + (c + 1) = 4 + c + 1 by omega]; exact r4⟩
  have e : ∀ g, j_exec k_131 h_131 (j_run (d + 6)) (M + 1) 113 [some (.ref 0), some (.ref 87), some (.int (j_k (4 + c + 1))), some (.int (j_k c)), some (.int g)] [] (ST L p1 I1 J1) = j_exec k_131 h_131 (j_run (d + 6)) M 44 [some (.ref 0), some (.ref 87), some (.int (j_k (4 + (c + 1)))), some (.int (j_k (c + 1))), none] [] (ST L p1 I1 J1) := fun g => by
    rw [x_exec, t_131_113, k_add, show 4 + (c + 1) = 4 + c + 1 by omega]
  rw [show M + 2 = M + 1 + 1 by omega, x_exec, t_131_44]
  obtain ⟨g, eg⟩ : ∃ g, gr c = g := ⟨_, rfl⟩
  rw [eg] at hg ig r1
  rcases (show g = 0 ∨ g = 1 ∨ g = 2 ∨ g = 3 ∨ g = 4 by omega) with rfl | rfl | rfl | rfl | rfl
  · have r1 : j_run (d + 6) 129 [.ref 0, .int (j_k (4 + c)), .int (j_k 46)] (ST L p I J) = some (some (.int (j_k (4 + c + 1))), ST L p1 I1 J1) := r1
    simp (disch := first | assumption | omega) only [k_add, k_sub, k_mul, k_lt, k_eq, k_lt0, k_0lt, k_eq0, k_nat, k_b0, k_b1, k_z1, k_z0, k_o1, k_o0, Int.reduceEq, Int.reduceLT, Int.reduceLE, Int.reduceAdd, Int.reduceMul, Int.reduceNeg, Int.reduceToNat, Bool.false_eq_true, or_true, true_or, or_false, false_or, and_true, true_and, and_false, false_and, not_true_eq_false, not_false_eq_true, ↓reduceIte, z_0, z_k, s_I, s_J, s_uI, s_uJ, ↓c_ia_87, i0, i1, c1, ig, ↓jc1 r1, e]
  · have r1 : j_run (d + 6) 129 [.ref 0, .int (j_k (4 + c)), .int (j_k 35)] (ST L p I J) = some (some (.int (j_k (4 + c + 1))), ST L p1 I1 J1) := r1
    simp (disch := first | assumption | omega) only [k_add, k_sub, k_mul, k_lt, k_eq, k_lt0, k_0lt, k_eq0, k_nat, k_b0, k_b1, k_z1, k_z0, k_o1, k_o0, Int.reduceEq, Int.reduceLT, Int.reduceLE, Int.reduceAdd, Int.reduceMul, Int.reduceNeg, Int.reduceToNat, Bool.false_eq_true, or_true, true_or, or_false, false_or, and_true, true_and, and_false, false_and, not_true_eq_false, not_false_eq_true, ↓reduceIte, z_0, z_k, s_I, s_J, s_uI, s_uJ, ↓c_ia_87, i0, i1, c1, ig, ↓jc1 r1, e]
  · have r1 : j_run (d + 6) 129 [.ref 0, .int (j_k (4 + c)), .int (j_k 126)] (ST L p I J) = some (some (.int (j_k (4 + c + 1))), ST L p1 I1 J1) := r1
    simp (disch := first | assumption | omega) only [k_add, k_sub, k_mul, k_lt, k_eq, k_lt0, k_0lt, k_eq0, k_nat, k_b0, k_b1, k_z1, k_z0, k_o1, k_o0, Int.reduceEq, Int.reduceLT, Int.reduceLE, Int.reduceAdd, Int.reduceMul, Int.reduceNeg, Int.reduceToNat, Bool.false_eq_true, or_true, true_or, or_false, false_or, and_true, true_and, and_false, false_and, not_true_eq_false, not_false_eq_true, ↓reduceIte, z_0, z_k, s_I, s_J, s_uI, s_uJ, ↓c_ia_87, i0, i1, c1, ig, ↓jc1 r1, e]
  · have r1 : j_run (d + 6) 129 [.ref 0, .int (j_k (4 + c)), .int (j_k 111)] (ST L p I J) = some (some (.int (j_k (4 + c + 1))), ST L p1 I1 J1) := r1
    simp (disch := first | assumption | omega) only [k_add, k_sub, k_mul, k_lt, k_eq, k_lt0, k_0lt, k_eq0, k_nat, k_b0, k_b1, k_z1, k_z0, k_o1, k_o0, Int.reduceEq, Int.reduceLT, Int.reduceLE, Int.reduceAdd, Int.reduceMul, Int.reduceNeg, Int.reduceToNat, Bool.false_eq_true, or_true, true_or, or_false, false_or, and_true, true_and, and_false, false_and, not_true_eq_false, not_false_eq_true, ↓reduceIte, z_0, z_k, s_I, s_J, s_uI, s_uJ, ↓c_ia_87, i0, i1, c1, ig, ↓jc1 r1, e]
  · have r1 : j_run (d + 6) 129 [.ref 0, .int (j_k (4 + c)), .int (j_k 61)] (ST L p I J) = some (some (.int (j_k (4 + c + 1))), ST L p1 I1 J1) := r1
    simp (disch := first | assumption | omega) only [k_add, k_sub, k_mul, k_lt, k_eq, k_lt0, k_0lt, k_eq0, k_nat, k_b0, k_b1, k_z1, k_z0, k_o1, k_o0, Int.reduceEq, Int.reduceLT, Int.reduceLE, Int.reduceAdd, Int.reduceMul, Int.reduceNeg, Int.reduceToNat, Bool.false_eq_true, or_true, true_or, or_false, false_or, and_true, true_and, and_false, false_and, not_true_eq_false, not_false_eq_true, ↓reduceIte, z_0, z_k, s_I, s_J, s_uI, s_uJ, ↓c_ia_87, i0, i1, c1, ig, ↓jc1 r1, e]
theorem gd_cells {z : Int → Int} (hG : okG w h n gr kd ce) : ∀ (t M p : Nat) (c : Int) (I : Nat → Nat → Int32) (J : Nat → Nat → Int64) (A : Ast), 0 ≤ c → c + t = w * h → gI I w h n gr kd ce → iX I J A → wS w h n gr kd ce z (4 + c) A → ∃ p' I' J' A', j_exec k_131 h_131 (j_run (d + 6)) (M + 2 * t) 44 [some (.ref 0), some (.ref 87), some (.int (j_k (4 + c))), some (.int (j_k c)), none] [] (ST L p I J) = j_exec k_131 h_131 (j_run (d + 6)) M 44 [some (.ref 0), some (.ref 87), some (.int (j_k (4 + w * h))), some (.int (j_k (w * h))), none] [] (ST L p' I' J') ∧ iX I' J' A' ∧ frX I I' J J' ∧ wS w h n gr kd ce z (4 + w * h) A'
  | 0, M, p, c, I, J, A, c0, ct, hI, hx, hS => by
    have e : c = w * h := by omega
    subst e
    exact ⟨p, I, J, A, rfl, hx, frX.rf, hS⟩
  | t + 1, M, p, c, I, J, A, c0, ct, hI, hx, hS => by
    obtain ⟨p1, I1, J1, A1, r1, r2, r3, r4⟩ := gd_cell (L := L) (p := p) (d := d) hG hI hx c0 (by omega) hS (M := M + 2 * t)
    obtain ⟨p2, I2, J2, A2, u1, u2, u3, u4⟩ := gd_cells hG t M p1 (c + 1) I1 J1 A1 (by omega) (by omega) (hI.cg (r3.1 87 (by decide))) r2 r4
    exact ⟨p2, I2, J2, A2, (show M + 2 * (t + 1) = M + 2 * t + 2 by omega) ▸ r1.trans u1, u2, r3.tr u3, u4⟩
/-- one beast -/
theorem gd_beast {z : Int → Int} (hG : okG w h n gr kd ce) (hI : gI I w h n gr kd ce) (hx : iX I J A) {k : Int} (k0 : 0 ≤ k) (k1 : k < n) (hS : wS w h n gr kd ce z (4 + w * h + 3 * k) A) {M : Nat} : ∃ p' I' J' A', j_exec k_131 h_131 (j_run (d + 6)) (M + 2) 121 [some (.ref 0), some (.ref 87), some (.int (j_k (4 + w * h + 3 * k))), some (.int (j_k k)), none] [] (ST L p I J) = j_exec k_131 h_131 (j_run (d + 6)) M 121 [some (.ref 0), some (.ref 87), some (.int (j_k (4 + w * h + 3 * (k + 1)))), some (.int (j_k (k + 1))), none] [] (ST L p' I' J') ∧ iX I' J' A' ∧ frX I I' J J' ∧ wS w h n gr kd ce z (4 + w * h + 3 * (k + 1)) A' := by
  have hN := wh_30 hG.1
  have n4 := hG.2.1.2
  have hw := hG.1
  obtain ⟨i0, -, -, i40, ik⟩ := hI
  obtain ⟨ikd, ice⟩ := ik k k0 k1
  obtain ⟨hk, c0, c1, -⟩ := hG.2.2.2.1 k k0 k1
  obtain ⟨x0, x1, y0, y1⟩ := ce_xy hG k0 k1
  have hb := tbL_is hk.1 hk.2
  obtain ⟨pa, Ia, Ja, Aa, a1, a2, a3, a4⟩ := lw_put (L := L) (p := p) (d := d) hx hS (by omega) (by omega) (tg_b0 hG k0 k1) hb.2.2.1 hb.2.2.2
  obtain ⟨pb, Ib, Jb, Ab, b1, b2, b3, b4⟩ := lw_put (L := L) (p := pa) (d := d) a2 a4 (by omega) (by omega) (tg_b1 hG k0 k1) (by omega) (by omega)
  rw [show 4 + w * h + 3 * k + 1 + 1 = 4 + w * h + 3 * k + 2 by omega] at b4 b1
  obtain ⟨pc, Ic, Jc, Ac, c1', c2, c3, c4⟩ := lw_put (L := L) (p := pb) (d := d) b2 b4 (by omega) (by omega) (tg_b2 hG k0 k1) (by omega) (by omega)
  rw [show 4 + w * h + 3 * k + 2 + 1 = 4 + w * h + 3 * (k + 1) by omega] at c4 c1'
  refine ⟨pc, Ic, Jc, Ac, ?_, c2, (a3.tr b3).tr c3, c4⟩
  have ga : Ia 87 = I 87 := a3.1 87 (by decide)
  have gb : Ib 87 = I 87 := (b3.1 87 (by decide)).trans ga
  have ex : j_k (ce k) - j_k (ce k) / j_k w * j_k w = j_k (ce k % w) := k_modp c0 (by omega) (by omega) (by omega)
  have z2 : ¬ w = 0 := by omega
  have e : ∀ g, j_exec k_131 h_131 (j_run (d + 6)) (M + 1) 199 [some (.ref 0), some (.ref 87), some (.int (j_k (4 + w * h + 3 * k + 1))), some (.int (j_k k)), some (.int g)] [] (ST L pa Ia Ja) = j_exec k_131 h_131 (j_run (d + 6)) M 121 [some (.ref 0), some (.ref 87), some (.int (j_k (4 + w * h + 3 * (k + 1)))), some (.int (j_k (k + 1))), none] [] (ST L pc Ic Jc) := fun g => by
    have em : ce k - ce k / w * w = ce k % w := by rw [Int.emod_def, Int.mul_comm w]
    rw [x_exec, t_131_199]
    simp (disch := first | assumption | omega) only [k_add, k_sub, k_mul, k_lt, k_eq, k_lt0, k_0lt, k_eq0, k_nat, k_b0, k_b1, k_z1, k_z0, k_o1, k_o0, Int.reduceEq, Int.reduceLT, Int.reduceLE, Int.reduceAdd, Int.reduceMul, Int.reduceNeg, Int.reduceToNat, Bool.false_eq_true, or_true, true_or, or_false, false_or, and_true, true_and, and_false, false_and, not_true_eq_false, not_false_eq_true, ↓reduceIte, z_0, z_k, s_I, s_J, s_uI, s_uJ, ↓c_ia_87, ga, gb, i0, ice, z2, k_divp, em, ↓jc1 b1, ↓jc1 c1']
  rw [show M + 2 = M + 1 + 1 by omega, x_exec, t_131_121]
  obtain ⟨g, eg⟩ : ∃ g, kd k = g := ⟨_, rfl⟩
  rw [eg] at hk ikd a1
  rcases (show g = 0 ∨ g = 1 ∨ g = 2 ∨ g = 3 ∨ g = 4 ∨ g = 5 by omega) with rfl | rfl | rfl | rfl | rfl | rfl
  · have a1 : j_run (d + 6) 129 [.ref 0, .int (j_k (4 + w * h + 3 * k)), .int (j_k 98)] (ST L p I J) = some (some (.int (j_k (4 + w * h + 3 * k + 1))), ST L pa Ia Ja) := a1
    simp (disch := first | assumption | omega) only [k_add, k_sub, k_mul, k_lt, k_eq, k_lt0, k_0lt, k_eq0, k_nat, k_b0, k_b1, k_z1, k_z0, k_o1, k_o0, Int.reduceEq, Int.reduceLT, Int.reduceLE, Int.reduceAdd, Int.reduceMul, Int.reduceNeg, Int.reduceToNat, Bool.false_eq_true, or_true, true_or, or_false, false_or, and_true, true_and, and_false, false_and, not_true_eq_false, not_false_eq_true, ↓reduceIte, z_0, z_k, s_I, s_J, s_uI, s_uJ, ↓c_ia_87, i40, k1, ikd, ↓jc1 a1, e]
  · have a1 : j_run (d + 6) 129 [.ref 0, .int (j_k (4 + w * h + 3 * k)), .int (j_k 115)] (ST L p I J) = some (some (.int (j_k (4 + w * h + 3 * k + 1))), ST L pa Ia Ja) := a1
    simp (disch := first | assumption | omega) only [k_add, k_sub, k_mul, k_lt, k_eq, k_lt0, k_0lt, k_eq0, k_nat, k_b0, k_b1, k_z1, k_z0, k_o1, k_o0, Int.reduceEq, Int.reduceLT, Int.reduceLE, Int.reduceAdd, Int.reduceMul, Int.reduceNeg, Int.reduceToNat, Bool.false_eq_true, or_true, true_or, or_false, false_or, and_true, true_and, and_false, false_and, not_true_eq_false, not_false_eq_true, ↓reduceIte, z_0, z_k, s_I, s_J, s_uI, s_uJ, ↓c_ia_87, i40, k1, ikd, ↓jc1 a1, e]
  · have a1 : j_run (d + 6) 129 [.ref 0, .int (j_k (4 + w * h + 3 * k)), .int (j_k 108)] (ST L p I J) = some (some (.int (j_k (4 + w * h + 3 * k + 1))), ST L pa Ia Ja) := a1
    simp (disch := first | assumption | omega) only [k_add, k_sub, k_mul, k_lt, k_eq, k_lt0, k_0lt, k_eq0, k_nat, k_b0, k_b1, k_z1, k_z0, k_o1, k_o0, Int.reduceEq, Int.reduceLT, Int.reduceLE, Int.reduceAdd, Int.reduceMul, Int.reduceNeg, Int.reduceToNat, Bool.false_eq_true, or_true, true_or, or_false, false_or, and_true, true_and, and_false, false_and, not_true_eq_false, not_false_eq_true, ↓reduceIte, z_0, z_k, s_I, s_J, s_uI, s_uJ, ↓c_ia_87, i40, k1, ikd, ↓jc1 a1, e]
  · have a1 : j_run (d + 6) 129 [.ref 0, .int (j_k (4 + w * h + 3 * k)), .int (j_k 99)] (ST L p I J) = some (some (.int (j_k (4 + w * h + 3 * k + 1))), ST L pa Ia Ja) := a1
    simp (disch := first | assumption | omega) only [k_add, k_sub, k_mul, k_lt, k_eq, k_lt0, k_0lt, k_eq0, k_nat, k_b0, k_b1, k_z1, k_z0, k_o1, k_o0, Int.reduceEq, Int.reduceLT, Int.reduceLE, Int.reduceAdd, Int.reduceMul, Int.reduceNeg, Int.reduceToNat, Bool.false_eq_true, or_true, true_or, or_false, false_or, and_true, true_and, and_false, false_and, not_true_eq_false, not_false_eq_true, ↓reduceIte, z_0, z_k, s_I, s_J, s_uI, s_uJ, ↓c_ia_87, i40, k1, ikd, ↓jc1 a1, e]
  · have a1 : j_run (d + 6) 129 [.ref 0, .int (j_k (4 + w * h + 3 * k)), .int (j_k 109)] (ST L p I J) = some (some (.int (j_k (4 + w * h + 3 * k + 1))), ST L pa Ia Ja) := a1
    simp (disch := first | assumption | omega) only [k_add, k_sub, k_mul, k_lt, k_eq, k_lt0, k_0lt, k_eq0, k_nat, k_b0, k_b1, k_z1, k_z0, k_o1, k_o0, Int.reduceEq, Int.reduceLT, Int.reduceLE, Int.reduceAdd, Int.reduceMul, Int.reduceNeg, Int.reduceToNat, Bool.false_eq_true, or_true, true_or, or_false, false_or, and_true, true_and, and_false, false_and, not_true_eq_false, not_false_eq_true, ↓reduceIte, z_0, z_k, s_I, s_J, s_uI, s_uJ, ↓c_ia_87, i40, k1, ikd, ↓jc1 a1, e]
  · have a1 : j_run (d + 6) 129 [.ref 0, .int (j_k (4 + w * h + 3 * k)), .int (j_k 116)] (ST L p I J) = some (some (.int (j_k (4 + w * h + 3 * k + 1))), ST L pa Ia Ja) := a1
    simp (disch := first | assumption | omega) only [k_add, k_sub, k_mul, k_lt, k_eq, k_lt0, k_0lt, k_eq0, k_nat, k_b0, k_b1, k_z1, k_z0, k_o1, k_o0, Int.reduceEq, Int.reduceLT, Int.reduceLE, Int.reduceAdd, Int.reduceMul, Int.reduceNeg, Int.reduceToNat, Bool.false_eq_true, or_true, true_or, or_false, false_or, and_true, true_and, and_false, false_and, not_true_eq_false, not_false_eq_true, ↓reduceIte, z_0, z_k, s_I, s_J, s_uI, s_uJ, ↓c_ia_87, i40, k1, ikd, ↓jc1 a1, e]
theorem gd_beasts {z : Int → Int} (hG : okG w h n gr kd ce) : ∀ (t M p : Nat) (k : Int) (I : Nat → Nat → Int32) (J : Nat → Nat → Int64) (A : Ast), 0 ≤ k → k + t = n → gI I w h n gr kd ce → iX I J A → wS w h n gr kd ce z (4 + w * h + 3 * k) A → ∃ p' I' J' A', j_exec k_131 h_131 (j_run (d + 6)) (M + 2 * t) 121 [some (.ref 0), some (.ref 87), some (.int (j_k (4 + w * h + 3 * k))), some (.int (j_k k)), none] [] (ST L p I J) = j_exec k_131 h_131 (j_run (d + 6)) M 121 [some (.ref 0), some (.ref 87), some (.int (j_k (4 + w * h + 3 * n))), some (.int (j_k n)), none] [] (ST L p' I' J') ∧ iX I' J' A' ∧ frX I I' J J' ∧ wS w h n gr kd ce z (4 + w * h + 3 * n) A'
  | 0, M, p, k, I, J, A, c0, ct, hI, hx, hS => by
    have e : k = n := by omega
    subst e
    exact ⟨p, I, J, A, rfl, hx, frX.rf, hS⟩
  | t + 1, M, p, k, I, J, A, c0, ct, hI, hx, hS => by
    obtain ⟨p1, I1, J1, A1, r1, r2, r3, r4⟩ := gd_beast (L := L) (p := p) (d := d) hG hI hx c0 (by omega) hS (M := M + 2 * t)
    obtain ⟨p2, I2, J2, A2, u1, u2, u3, u4⟩ := gd_beasts hG t M p1 (k + 1) I1 J1 A1 (by omega) (by omega) (hI.cg (r3.1 87 (by decide))) r2 r4
    exact ⟨p2, I2, J2, A2, (show M + 2 * (t + 1) = M + 2 * t + 2 by omega) ▸ r1.trans u1, u2, r3.tr u3, u4⟩
end LAW3
