/-! ===== the model: one goes in a step ===== -/
abbrev gl (q k aim c dx dy far : Int) (x8 x9 x10 x11 x12 : Option Value) : j_L := [some (.ref 87), some (.int (j_k q)), some (.int (j_k k)), some (.int (j_k aim)), some (.int (j_k c)), some (.int (j_k dx)), some (.int (j_k dy)), some (.int (j_k far)), x8, x9, x10, x11, x12]
/-- where one goes; slow ones stay in odd steps -/
def p_goR (w h : Int) (gr : Fl) (n : Int) (kd f : Fl) (k aim : Int) (gate : Bool) : Int := if f 0 % 2 = 1 ∧ p_slow kd k = true then -9 else p_next w h gr n kd f k aim gate
section MODEL11
variable {L p d : Nat} {I : Nat → Nat → Int32} {J : Nat → Nat → Int64} {n w h N b : Int} {f gr kd : Fl} {q k : Int} {gate : Bool}
theorem n_bg {sx sy : Int} (q1 : 0 ≤ q) (q2 : q < 9) (hm : iMg I w h N n gr kd) (hgt : I 87 26 = j_z (gate = true)) (hf : iM1 I q n f) (ho : okF N n b f) (k1 : 0 ≤ k) (k2 : k < n) (hl : f (5 + k) ≠ -9) (hd : (sx = 0 ∧ (sy = 1 ∨ sy = -1)) ∨ (sy = 0 ∧ (sx = 1 ∨ sx = -1))) : ∃ I', j_run (d + 4) 181 [.ref 87, .int (j_k (f (5 + k))), .int (j_k sx), .int (j_k sy)] (ST L p I J) = some (some (.int (j_k (p_by w h (f (5 + k)) sx sy))), ST L p I J) ∧ j_run (d + 4) 182 [.ref 87, .int (j_k q), .int (j_k k), .int (j_k (p_by w h (f (5 + k)) sx sy))] (ST L p I J) = some (some (.int (j_z (p_try gr n kd f k (p_by w h (f (5 + k)) sx sy) gate ≠ -9))), ST L p I' J) ∧ goP q n gr f k gate I I' (p_try gr n kd f k (p_by w h (f (5 + k)) sx sy) gate) := by
  have hc := (ho.1 k k1 k2).resolve_left hl
  have r := by_rg (n := n) (gr := gr) (kd := kd) hm.1 hc.1 hc.2 hd
  obtain ⟨I', e1, e2⟩ := n_goesTo (L := L) (p := p) (d := d) (J := J) q1 q2 hm hgt hf ho k1 k2 (c := p_by w h (f (5 + k)) sx sy) (by omega)
  exact ⟨I', n_by (d := d + 2) hm.2.1 hm.2.2.1 hm.1 hc.1 hc.2 (by omega) (by omega) (by omega) (by omega), e1, e2⟩
theorem n_g220 {M : Nat} {aim dx dy far way sx sy : Int} {ac : Bool} (q1 : 0 ≤ q) (q2 : q < 9) (hm : iMg I w h N n gr kd) (hgt : I 87 26 = j_z (gate = true)) (hf : iM1 I q n f) (ho : okF N n b f) (k1 : 0 ≤ k) (k2 : k < n) (hl : f (5 + k) ≠ -9) (hx : sx = 0 ∨ sx = 1 ∨ sx = -1) (hy : sy = 0 ∨ sy = 1 ∨ sy = -1) {R : Int} (hR : R = if ac = true then (if sy = 0 then -9 else p_try gr n kd f k (p_by w h (f (5 + k)) 0 sy) gate) else (if sx = 0 then -9 else p_try gr n kd f k (p_by w h (f (5 + k)) sx 0) gate)) : ∃ I', j_exec k_185 h_185 (j_run (d + 4)) (M + 1) 220 (gl q k aim (f (5 + k)) dx dy far (some (.int (j_k way))) (some (.int (j_z (ac = true)))) (some (.int (j_k sx))) (some (.int (j_k sy))) (some (.int (j_k 0)))) [] (ST L p I J) = some (some (.int (j_z (R ≠ -9))), ST L p I' J) ∧ goP q n gr f k gate I I' R := by
  have NO : goP q n gr f k gate I I (-9) := ⟨.rf, fun _ => rfl, fun u => absurd rfl u⟩
  have n9 : j_z ((-9 : Int) ≠ -9) = j_k 0 := if_neg (fun u => u rfl)
  rw [x_exec, t_185_220]
  cases ac
  · rw [if_neg (by decide)] at hR
    rw [z_f]
    by_cases x : sx = 0
    · rw [if_pos x] at hR
      subst hR
      refine ⟨I, ?_, NO⟩
      rw [n9]
      simp (disch := first | assumption | omega) only [k_add, k_sub, k_mul, k_lt, k_eq, k_lt0, k_0lt, k_eq0, k_nat, k_b0, k_b1, k_z1, k_z0, k_o1, k_o0, Int.reduceEq, Int.reduceLT, Int.reduceLE, Int.reduceAdd, Int.reduceMul, Int.reduceNeg, Bool.false_eq_true, or_true, true_or, or_false, false_or, and_true, true_and, and_false, false_and, not_true_eq_false, not_false_eq_true, ↓reduceIte, z_0, z_k, s_I, s_J, s_uI, s_uJ, x]
    · rw [if_neg x] at hR
      obtain ⟨I', e1, e2, e3⟩ := n_bg (L := L) (p := p) (d := d) (J := J) (sx := sx) (sy := 0) q1 q2 hm hgt hf ho k1 k2 hl (by omega)
      rw [← hR] at e2 e3
      refine ⟨I', ?_, e3⟩
      by_cases y : R = -9
      · have y1 : j_z (R ≠ -9) = j_k 0 := if_neg (fun u => u y)
        rw [y1] at e2 ⊢
        simp (disch := first | assumption | omega) only [k_add, k_sub, k_mul, k_lt, k_eq, k_lt0, k_0lt, k_eq0, k_nat, k_b0, k_b1, k_z1, k_z0, k_o1, k_o0, Int.reduceEq, Int.reduceLT, Int.reduceLE, Int.reduceAdd, Int.reduceMul, Int.reduceNeg, Bool.false_eq_true, or_true, true_or, or_false, false_or, and_true, true_and, and_false, false_and, not_true_eq_false, not_false_eq_true, ↓reduceIte, z_0, z_k, s_I, s_J, s_uI, s_uJ, x, ↓c_oc_87, ↓jc1 e1, ↓jc1 e2]
      · have y1 : j_z (R ≠ -9) = j_k 1 := if_pos y
        rw [y1] at e2 ⊢
        simp (disch := first | assumption | omega) only [k_add, k_sub, k_mul, k_lt, k_eq, k_lt0, k_0lt, k_eq0, k_nat, k_b0, k_b1, k_z1, k_z0, k_o1, k_o0, Int.reduceEq, Int.reduceLT, Int.reduceLE, Int.reduceAdd, Int.reduceMul, Int.reduceNeg, Bool.false_eq_true, or_true, true_or, or_false, false_or, and_true, true_and, and_false, false_and, not_true_eq_false, not_false_eq_true, ↓reduceIte, z_0, z_k, s_I, s_J, s_uI, s_uJ, x, ↓c_oc_87, ↓jc1 e1, ↓jc1 e2]
  · rw [if_pos rfl] at hR
    rw [z_t]
    by_cases x : sy = 0
    · rw [if_pos x] at hR
      subst hR
      refine ⟨I, ?_, NO⟩
      rw [n9]
      simp (disch := first | assumption | omega) only [k_add, k_sub, k_mul, k_lt, k_eq, k_lt0, k_0lt, k_eq0, k_nat, k_b0, k_b1, k_z1, k_z0, k_o1, k_o0, Int.reduceEq, Int.reduceLT, Int.reduceLE, Int.reduceAdd, Int.reduceMul, Int.reduceNeg, Bool.false_eq_true, or_true, true_or, or_false, false_or, and_true, true_and, and_false, false_and, not_true_eq_false, not_false_eq_true, ↓reduceIte, z_0, z_k, s_I, s_J, s_uI, s_uJ, x]
    · rw [if_neg x] at hR
      obtain ⟨I', e1, e2, e3⟩ := n_bg (L := L) (p := p) (d := d) (J := J) (sx := 0) (sy := sy) q1 q2 hm hgt hf ho k1 k2 hl (by omega)
      rw [← hR] at e2 e3
      refine ⟨I', ?_, e3⟩
      by_cases y : R = -9
      · have y1 : j_z (R ≠ -9) = j_k 0 := if_neg (fun u => u y)
        rw [y1] at e2 ⊢
        simp (disch := first | assumption | omega) only [k_add, k_sub, k_mul, k_lt, k_eq, k_lt0, k_0lt, k_eq0, k_nat, k_b0, k_b1, k_z1, k_z0, k_o1, k_o0, Int.reduceEq, Int.reduceLT, Int.reduceLE, Int.reduceAdd, Int.reduceMul, Int.reduceNeg, Bool.false_eq_true, or_true, true_or, or_false, false_or, and_true, true_and, and_false, false_and, not_true_eq_false, not_false_eq_true, ↓reduceIte, z_0, z_k, s_I, s_J, s_uI, s_uJ, x, ↓c_oc_87, ↓jc1 e1, ↓jc1 e2]
      · have y1 : j_z (R ≠ -9) = j_k 1 := if_pos y
        rw [y1] at e2 ⊢
        simp (disch := first | assumption | omega) only [k_add, k_sub, k_mul, k_lt, k_eq, k_lt0, k_0lt, k_eq0, k_nat, k_b0, k_b1, k_z1, k_z0, k_o1, k_o0, Int.reduceEq, Int.reduceLT, Int.reduceLE, Int.reduceAdd, Int.reduceMul, Int.reduceNeg, Bool.false_eq_true, or_true, true_or, or_false, false_or, and_true, true_and, and_false, false_and, not_true_eq_false, not_false_eq_true, ↓reduceIte, z_0, z_k, s_I, s_J, s_uI, s_uJ, x, ↓c_oc_87, ↓jc1 e1, ↓jc1 e2]
theorem n_g220y {M : Nat} {aim c dx dy far : Int} {x8 x9 x10 x11 : Int32} : j_exec k_185 h_185 (j_run (d + 4)) (M + 1) 220 (gl q k aim c dx dy far (some (.int x8)) (some (.int x9)) (some (.int x10)) (some (.int x11)) (some (.int (j_k 1)))) [] (ST L p I J) = some (some (.int (j_k 1)), ST L p I J) := by
  rw [x_exec, t_185_220]
  simp (disch := first | assumption | omega) only [k_add, k_sub, k_mul, k_lt, k_eq, k_lt0, k_0lt, k_eq0, k_nat, k_b0, k_b1, k_z1, k_z0, k_o1, k_o0, Int.reduceEq, Int.reduceLT, Int.reduceLE, Int.reduceAdd, Int.reduceMul, Int.reduceNeg, Bool.false_eq_true, or_true, true_or, or_false, false_or, and_true, true_and, and_false, false_and, not_true_eq_false, not_false_eq_true, ↓reduceIte, z_0, z_k, s_I, s_J, s_uI, s_uJ, ]
theorem n_g147 {M : Nat} {aim dx dy far way : Int} {ac : Bool} (q1 : 0 ≤ q) (q2 : q < 9) (hm : iMg I w h N n gr kd) (hgt : I 87 26 = j_z (gate = true)) (hf : iM1 I q n f) (ho : okF N n b f) (k1 : 0 ≤ k) (k2 : k < n) (hl : f (5 + k) ≠ -9) (hw : way = 1 ∨ way = -1) (x1 : -100 ≤ dx) (x2 : dx ≤ 100) (y1 : -100 ≤ dy) (y2 : dy ≤ 100) (hy : ac = false → dy ≠ 0) {R : Int} (hR : R = p_two w h gr n kd f k (way * p_sgn dx) (way * p_sgn dy) gate ac) : ∃ I', j_exec k_185 h_185 (j_run (d + 4)) (M + 2) 147 (gl q k aim (f (5 + k)) dx dy far (some (.int (j_k way))) (some (.int (j_z (ac = true)))) none none none) [] (ST L p I J) = some (some (.int (j_z (R ≠ -9))), ST L p I' J) ∧ goP q n gr f k gate I I' R := by
  have s1 := n_sgn (L := L) (p := p) (d := d + 3) (I := I) (J := J) (v := dx) (by omega) (by omega)
  have s2 := n_sgn (L := L) (p := p) (d := d + 3) (I := I) (J := J) (v := dy) (by omega) (by omega)
  have rx : way * p_sgn dx = 0 ∨ way * p_sgn dx = 1 ∨ way * p_sgn dx = -1 := by
    unfold p_sgn
    rcases hw with rfl | rfl <;> split <;> (try split) <;> omega
  have ry : way * p_sgn dy = 0 ∨ way * p_sgn dy = 1 ∨ way * p_sgn dy = -1 := by
    unfold p_sgn
    rcases hw with rfl | rfl <;> split <;> (try split) <;> omega
  have ry0 : ac = false → way * p_sgn dy ≠ 0 := fun u => by
    have := hy u
    unfold p_sgn
    rcases hw with rfl | rfl <;> split <;> (try split) <;> omega
  generalize p_sgn dx = sdx at *
  generalize p_sgn dy = sdy at *
  have mx : j_k way * j_k sdx = j_k (way * sdx) := k_mul _ _
  have my : j_k way * j_k sdy = j_k (way * sdy) := k_mul _ _
  generalize way * sdx = sx at *
  generalize way * sdy = sy at *
  have n1 : j_z (true = true) = j_k 1 := if_pos rfl
  have n0 : j_z (false = true) = j_k 0 := if_neg (by decide)
  have t1 : ¬ j_k 1 = 0 := by decide
  have t0 : j_k 0 = 0 := by decide
  rw [x_exec, t_185_147, jc1 s1, jc1 s2, mx, my]
  unfold p_two at hR
  cases ac
  · rw [n0, if_pos t0]
    rw [if_neg (by decide)] at hR
    have ry1 := ry0 rfl
    obtain ⟨I1, e1, e2, e3⟩ := n_bg (L := L) (p := p) (d := d) (J := J) (sx := 0) (sy := sy) q1 q2 hm hgt hf ho k1 k2 hl (by omega)
    rw [c_oc_87, jc1 e1, c_oc_87, jc1 e2]
    by_cases y : p_try gr n kd f k (p_by w h (f (5 + k)) 0 sy) gate = -9
    · have y1 : j_z (p_try gr n kd f k (p_by w h (f (5 + k)) 0 sy) gate ≠ -9) = j_k 0 := if_neg (fun u => u y)
      have eI := e3.2.1 y
      subst eI
      rw [y1, ← n0]
      exact n_g220 (ac := false) q1 q2 hm hgt hf ho k1 k2 hl rx ry (by rw [hR, if_neg (fun u => u.2 y)]; exact (if_neg Bool.false_ne_true).symm)
    · rw [if_pos ⟨ry1, y⟩] at hR
      have y1 : j_z (p_try gr n kd f k (p_by w h (f (5 + k)) 0 sy) gate ≠ -9) = j_k 1 := if_pos y
      rw [y1, hR, y1]
      exact ⟨I1, n_g220y, e3⟩
  · rw [n1, if_neg t1]
    rw [if_pos rfl] at hR
    by_cases x : sx = 0
    · have xz : j_k sx = 0 := by rw [x]; decide
      rw [if_pos xz, ← n1]
      exact n_g220 (ac := true) q1 q2 hm hgt hf ho k1 k2 hl rx ry (by rw [hR, if_neg (fun u => u.1 x)]; exact (if_pos rfl).symm)
    · have xz : ¬ j_k sx = 0 := by rw [k_eq0 (by omega) (by omega)]; exact x
      obtain ⟨I1, e1, e2, e3⟩ := n_bg (L := L) (p := p) (d := d) (J := J) (sx := sx) (sy := 0) q1 q2 hm hgt hf ho k1 k2 hl (by omega)
      rw [if_neg xz, c_oc_87, jc1 e1, c_oc_87, jc1 e2]
      by_cases y : p_try gr n kd f k (p_by w h (f (5 + k)) sx 0) gate = -9
      · have y1 : j_z (p_try gr n kd f k (p_by w h (f (5 + k)) sx 0) gate ≠ -9) = j_k 0 := if_neg (fun u => u y)
        have eI := e3.2.1 y
        subst eI
        rw [y1, if_pos t0, ← n1]
        exact n_g220 (ac := true) q1 q2 hm hgt hf ho k1 k2 hl rx ry (by rw [hR, if_neg (fun u => u.2 y)]; exact (if_pos rfl).symm)
      · rw [if_pos ⟨x, y⟩] at hR
        have y1 : j_z (p_try gr n kd f k (p_by w h (f (5 + k)) sx 0) gate ≠ -9) = j_k 1 := if_pos y
        rw [y1, if_neg t1, hR, y1]
        exact ⟨I1, n_g220y, e3⟩
theorem n_goes {aim : Int} (q1 : 0 ≤ q) (q2 : q < 9) (hm : iMg I w h N n gr kd) (hgt : I 87 26 = j_z (gate = true)) (hf : iM1 I q n f) (ho : okF N n b f) (hb : b ≤ 1000000) (k1 : 0 ≤ k) (k2 : k < n) (hl : f (5 + k) ≠ -9) (a1 : 0 ≤ aim) (a2 : aim < N) : ∃ I', j_run (d + 5) 185 [.ref 87, .int (j_k q), .int (j_k k), .int (j_k aim)] (ST L p I J) = some (some (.int (j_z (p_goR w h gr n kd f k aim gate ≠ -9))), ST L p I' J) ∧ goP q n gr f k gate I I' (p_goR w h gr n kd f k aim gate) := by
  have NO : goP q n gr f k gate I I (-9) := ⟨.rf, fun _ => rfl, fun u => absurd rfl u⟩
  have n9 : j_z ((-9 : Int) ≠ -9) = j_k 0 := if_neg (fun u => u rfl)
  have hC := hm.1
  have n4 := hC.2.2.2.1
  have k4 : k < 4 := by omega
  have hc := (ho.1 k k1 k2).resolve_left hl
  have hv := hm.2.2.2.2.1 k k1 k2
  have hr := hC.2.2.2.2.2 k k1 k2
  obtain ⟨u1, u2', u3, u4, u5, u6, u7, u8, u9, u10, u11⟩ := bd_xy hC a1 a2
  obtain ⟨v1, v2, v3, v4, v5, v6, v7, v8, v9, v10, v11⟩ := bd_xy hC hc.1 hc.2
  have w0 : ¬ w = 0 := by omega
  have e1 : j_k aim - j_k aim / j_k w * j_k w = j_k (aim % w) := k_modp a1 (by omega) (by omega) (by omega)
  have e2 : j_k (f (5 + k)) - j_k (f (5 + k)) / j_k w * j_k w = j_k (f (5 + k) % w) := k_modp hc.1 (by omega) (by omega) (by omega)
  have e3 : j_k aim / j_k w = j_k (aim / w) := k_divp a1 (by omega) (by omega) (by omega)
  have e4 : j_k (f (5 + k)) / j_k w = j_k (f (5 + k) / w) := k_divp hc.1 (by omega) (by omega) (by omega)
  have hz : ¬ j_k w = 0 := by rw [k_eq0 (by omega) (by omega)]; exact w0
  have hs : s_I (ST L p I J) 87 10 = j_k w := hm.2.1
  have A1 := n_abs (L := L) (p := p) (d := d + 3) (I := I) (J := J) (v := aim % w - f (5 + k) % w) (by omega) (by omega)
  have A2 := n_abs (L := L) (p := p) (d := d + 3) (I := I) (J := J) (v := aim / w - f (5 + k) / w) (by omega) (by omega)
  have V := n_v (L := L) (p := p) (d := d + 3) (I := I) (J := J) q1 q2 (show 0 ≤ 5 + k by omega) (show 5 + k < 13 by omega)
  rw [hf.2.1 k k1 k2] at V
  have V0 := n_v (L := L) (p := p) (d := d + 3) (I := I) (J := J) q1 q2 (show (0 : Int) ≤ 0 by decide) (show (0 : Int) < 13 by decide)
  rw [hf.1 0 (by decide) (by decide)] at V0
  have S1 := n_slow (L := L) (p := p) (d := d + 3) (J := J) hC hm.2.2.2.2.1 k1 k2
  have S2 := n_shy (L := L) (p := p) (d := d + 3) (J := J) hC hm.2.2.2.2.1 k1 k2
  have f0 := ho.2.2.2.2.2.1
  have f1 := ho.2.2.2.2.2.2
  have m2 : j_k (f 0) - j_k (f 0) / j_k 2 * j_k 2 = j_k (f 0 % 2) := k_modp f0 (by omega) (by decide) (by decide)
  have ae : p_off w aim (f (5 + k)) = p_abs (aim % w - f (5 + k) % w) + p_abs (aim / w - f (5 + k) / w) := rfl
  have orr := off_rg hC a1 a2 hc.1 hc.2
  have nx : p_next w h gr n kd f k aim gate = if (p_shy kd k = true ∧ kd k = 5 ∧ 3 ≤ p_off w aim (f (5 + k))) ∨ (p_shy kd k = false ∧ p_off w aim (f (5 + k)) ≤ 1) then -9
    else p_two w h gr n kd f k ((if p_shy kd k = true then -1 else 1) * p_sgn (aim % w - f (5 + k) % w)) ((if p_shy kd k = true then -1 else 1) * p_sgn (aim / w - f (5 + k) / w)) gate (decide (p_abs (aim / w - f (5 + k) / w) ≤ p_abs (aim % w - f (5 + k) % w))) := by
    unfold p_next
    rw [if_neg (show ¬ aim = -9 by omega)]
  have dx1 : -100 ≤ aim % w - f (5 + k) % w := by omega
  have dx2 : aim % w - f (5 + k) % w ≤ 100 := by omega
  have dy1 : -100 ≤ aim / w - f (5 + k) / w := by omega
  have dy2 : aim / w - f (5 + k) / w ≤ 100 := by omega
  obtain ⟨M, hM⟩ : ∃ M, M + 5 = 999999 := ⟨999994, rfl⟩
  -- from 112 on
  have T112 : ∀ ff, ∃ I', j_exec k_185 h_185 (j_run (d + 4)) (M + 4) 112 (gl q k aim (f (5 + k)) (aim % w - f (5 + k) % w) (aim / w - f (5 + k) / w) ff none none none none none) [] (ST L p I J) = some (some (.int (j_z (p_two w h gr n kd f k ((if p_shy kd k = true then -1 else 1) * p_sgn (aim % w - f (5 + k) % w)) ((if p_shy kd k = true then -1 else 1) * p_sgn (aim / w - f (5 + k) / w)) gate (decide (p_abs (aim / w - f (5 + k) / w) ≤ p_abs (aim % w - f (5 + k) % w))) ≠ -9))), ST L p I' J) ∧ goP q n gr f k gate I I' (p_two w h gr n kd f k ((if p_shy kd k = true then -1 else 1) * p_sgn (aim % w - f (5 + k) % w)) ((if p_shy kd k = true then -1 else 1) * p_sgn (aim / w - f (5 + k) / w)) gate (decide (p_abs (aim / w - f (5 + k) / w) ≤ p_abs (aim % w - f (5 + k) % w)))) := fun ff => by
    have t1 : ¬ j_k 1 = 0 := by decide
    have t0 : j_k 0 = 0 := by decide
    generalize aim % w - f (5 + k) % w = dx at *
    generalize aim / w - f (5 + k) / w = dy at *
    have b1 : 0 ≤ p_abs dx ∧ p_abs dx ≤ 100 := by unfold p_abs; split <;> omega
    have b2 : 0 ≤ p_abs dy ∧ p_abs dy ≤ 100 := by unfold p_abs; split <;> omega
    have T127 : ∀ way : Int, (way = 1 ∨ way = -1) → ∃ I', j_exec k_185 h_185 (j_run (d + 4)) (M + 3) 127 (gl q k aim (f (5 + k)) dx dy ff (some (.int (j_k way))) none none none none) [] (ST L p I J) = some (some (.int (j_z (p_two w h gr n kd f k (way * p_sgn dx) (way * p_sgn dy) gate (decide (p_abs dy ≤ p_abs dx)) ≠ -9))), ST L p I' J) ∧ goP q n gr f k gate I I' (p_two w h gr n kd f k (way * p_sgn dx) (way * p_sgn dy) gate (decide (p_abs dy ≤ p_abs dx))) := fun way hway => by
      rw [x_exec, t_185_127, jc1 A1, jc1 A2]
      have kl : (j_k (p_abs dx) < j_k (p_abs dy)) = (p_abs dx < p_abs dy) := k_lt (by omega) (by omega) (by omega) (by omega)
      by_cases x : p_abs dx < p_abs dy
      · rw [if_pos (kl.mpr x), decide_eq_false (by omega), ← show j_z (false = true) = j_k 0 from if_neg (by decide)]
        refine n_g147 q1 q2 hm hgt hf ho k1 k2 hl hway dx1 dx2 dy1 dy2 (fun _ => ?_) rfl
        intro z
        rw [z] at x
        have : p_abs 0 = 0 := rfl
        omega
      · rw [if_neg (fun u => x (kl.mp u)), decide_eq_true (by omega), ← show j_z (true = true) = j_k 1 from if_pos rfl]
        exact n_g147 q1 q2 hm hgt hf ho k1 k2 hl hway dx1 dx2 dy1 dy2 (fun u => absurd u (by decide)) rfl
    rw [x_exec, t_185_112, c_oc_87, jc1 S2]
    by_cases x : p_shy kd k = true
    · rw [show j_z (p_shy kd k = true) = j_k 1 from if_pos x, if_neg t1, if_pos x]
      exact T127 (-1) (Or.inr rfl)
    · rw [show j_z (p_shy kd k = true) = j_k 0 from if_neg x, if_pos t0, if_neg x]
      exact T127 1 (Or.inl rfl)
  have T77 : ∃ I', j_exec k_185 h_185 (j_run (d + 4)) (M + 5) 77 (gl q k aim (f (5 + k)) (aim % w - f (5 + k) % w) (aim / w - f (5 + k) / w) (p_off w aim (f (5 + k))) none none none none none) [] (ST L p I J) = some (some (.int (j_z (p_next w h gr n kd f k aim gate ≠ -9))), ST L p I' J) ∧ goP q n gr f k gate I I' (p_next w h gr n kd f k aim gate) := by
    rw [x_exec, t_185_77, c_oc_87, jc1 S2]
    obtain ⟨I', t1, t2⟩ := T112 (p_off w aim (f (5 + k)))
    have u1' : ¬ j_k 1 = 0 := by decide
    have u0' : j_k 0 = 0 := by decide
    by_cases x : p_shy kd k = true
    · have xf : ¬ p_shy kd k = false := by rw [x]; decide
      rw [show j_z (p_shy kd k = true) = j_k 1 from if_pos x, if_neg u1']
      by_cases y : kd k = 5
      · by_cases z : 3 ≤ p_off w aim (f (5 + k))
        · rw [nx.trans (if_pos (Or.inl ⟨x, y, z⟩))]
          refine ⟨I, ?_, NO⟩
          rw [n9]
          have z' : 2 < p_off w aim (f (5 + k)) := by omega
          simp (disch := first | assumption | omega) only [k_add, k_sub, k_mul, k_lt, k_eq, k_lt0, k_0lt, k_eq0, k_nat, k_b0, k_b1, k_z1, k_z0, k_o1, k_o0, Int.reduceEq, Int.reduceLT, Int.reduceLE, Int.reduceAdd, Int.reduceMul, Int.reduceNeg, Bool.false_eq_true, or_true, true_or, or_false, false_or, and_true, true_and, and_false, false_and, not_true_eq_false, not_false_eq_true, ↓reduceIte, z_0, z_k, s_I, s_J, s_uI, s_uJ, ↓c_gP_87_14, ↓c_ia_95, hv, y, z']
        · rw [nx.trans (if_neg (fun u => u.elim (fun a => z a.2.2) (fun a => xf a.1)))]
          refine ⟨I', ?_, t2⟩
          have z' : ¬ 2 < p_off w aim (f (5 + k)) := by omega
          simp (disch := first | assumption | omega) only [k_add, k_sub, k_mul, k_lt, k_eq, k_lt0, k_0lt, k_eq0, k_nat, k_b0, k_b1, k_z1, k_z0, k_o1, k_o0, Int.reduceEq, Int.reduceLT, Int.reduceLE, Int.reduceAdd, Int.reduceMul, Int.reduceNeg, Bool.false_eq_true, or_true, true_or, or_false, false_or, and_true, true_and, and_false, false_and, not_true_eq_false, not_false_eq_true, ↓reduceIte, z_0, z_k, s_I, s_J, s_uI, s_uJ, ↓c_gP_87_14, ↓c_ia_95, hv, y, z']
          exact t1
      · rw [nx.trans (if_neg (fun u => u.elim (fun a => y a.2.1) (fun a => xf a.1)))]
        refine ⟨I', ?_, t2⟩
        simp (disch := first | assumption | omega) only [k_add, k_sub, k_mul, k_lt, k_eq, k_lt0, k_0lt, k_eq0, k_nat, k_b0, k_b1, k_z1, k_z0, k_o1, k_o0, Int.reduceEq, Int.reduceLT, Int.reduceLE, Int.reduceAdd, Int.reduceMul, Int.reduceNeg, Bool.false_eq_true, or_true, true_or, or_false, false_or, and_true, true_and, and_false, false_and, not_true_eq_false, not_false_eq_true, ↓reduceIte, z_0, z_k, s_I, s_J, s_uI, s_uJ, ↓c_gP_87_14, ↓c_ia_95, hv, y]
        exact t1
    · have xf : p_shy kd k = false := by cases e : p_shy kd k; rfl; exact absurd e x
      rw [show j_z (p_shy kd k = true) = j_k 0 from if_neg x, if_pos u0']
      by_cases z : p_off w aim (f (5 + k)) ≤ 1
      · rw [nx.trans (if_pos (Or.inr ⟨xf, z⟩))]
        refine ⟨I, ?_, NO⟩
        rw [n9]
        have z' : p_off w aim (f (5 + k)) < 2 := by omega
        simp (disch := first | assumption | omega) only [k_add, k_sub, k_mul, k_lt, k_eq, k_lt0, k_0lt, k_eq0, k_nat, k_b0, k_b1, k_z1, k_z0, k_o1, k_o0, Int.reduceEq, Int.reduceLT, Int.reduceLE, Int.reduceAdd, Int.reduceMul, Int.reduceNeg, Bool.false_eq_true, or_true, true_or, or_false, false_or, and_true, true_and, and_false, false_and, not_true_eq_false, not_false_eq_true, ↓reduceIte, z_0, z_k, s_I, s_J, s_uI, s_uJ, z']
      · rw [nx.trans (if_neg (fun u => u.elim (fun a => x a.1) (fun a => z a.2)))]
        refine ⟨I', ?_, t2⟩
        have z' : ¬ p_off w aim (f (5 + k)) < 2 := by omega
        simp (disch := first | assumption | omega) only [k_add, k_sub, k_mul, k_lt, k_eq, k_lt0, k_0lt, k_eq0, k_nat, k_b0, k_b1, k_z1, k_z0, k_o1, k_o0, Int.reduceEq, Int.reduceLT, Int.reduceLE, Int.reduceAdd, Int.reduceMul, Int.reduceNeg, Bool.false_eq_true, or_true, true_or, or_false, false_or, and_true, true_and, and_false, false_and, not_true_eq_false, not_false_eq_true, ↓reduceIte, z_0, z_k, s_I, s_J, s_uI, s_uJ, z']
        exact t1
  have e := (r_185 (d + 4) (ST L p I J) 87 (j_k q) (j_k k) (j_k aim)).trans (t_185_0 _ _ _ _ _ _ _)
  rw [← hM, c_oc_87, k_add, jc1 V, c_oc_87, hs, if_neg hz, c_oc_87, if_neg hz, c_oc_87, if_neg hz, c_oc_87, if_neg hz, e1, e2, e3, e4, k_sub, k_sub, jc1 A1, jc1 A2, k_add, ← ae, c_oc_87, jc1 S1] at e
  unfold p_goR
  obtain ⟨I', t1, t2⟩ := T77
  by_cases x : p_slow kd k = true
  · rw [show j_z (p_slow kd k = true) = j_k 1 from if_pos x, if_neg (show ¬ j_k 1 = 0 by decide), c_oc_87, jc1 V0, if_neg (by decide), m2] at e
    by_cases y : f 0 % 2 = 1
    · rw [if_pos ⟨y, x⟩]
      refine ⟨I, ?_, NO⟩
      rw [n9]
      rw [y, if_pos rfl, if_pos (Or.inl kk0)] at e
      exact e
    · rw [if_neg (fun u => y u.1)]
      have y' : ¬ j_k (f 0 % 2) = j_k 1 := by rw [k_eq (by omega) (by omega) (by decide) (by decide)]; exact y
      rw [if_neg y'] at e
      exact ⟨I', e.trans t1, t2⟩
  · rw [show j_z (p_slow kd k = true) = j_k 0 from if_neg x, if_pos (show j_k 0 = 0 by decide)] at e
    rw [if_neg (fun u => x u.2)]
    exact ⟨I', e.trans t1, t2⟩
end MODEL11
