/-! ===== the model: all rows of so many drives, the fewest ===== -/
section LAY
variable (drv : Fl → Int → Option Fl) (m4 : Nat) (want : Fl → Bool)
/-- one drive more, its rows behind it -/
def p_K (r : Nat) (f : Fl) (code fst : Int) (a : Int) (s : Sc) : Sc := match drv f a with
  | none => s
  | some f' => p_lay drv m4 want r f' (16 * code + a) (if fst = -9 then a else fst) s
end LAY
theorem lay_K {drv : Fl → Int → Option Fl} {m4 : Nat} {want : Fl → Bool} {r : Nat} {f : Fl} {code fst : Int} {s : Sc} : p_lay drv m4 want (r + 1) f code fst s = p_loop (p_K drv m4 want r f code fst) m4 0 s := rfl
theorem K_none {drv : Fl → Int → Option Fl} {m4 : Nat} {want : Fl → Bool} {r : Nat} {f : Fl} {code fst a : Int} {s : Sc} (h : drv f a = none) : p_K drv m4 want r f code fst a s = s := by
  unfold p_K
  rw [h]
theorem K_some {drv : Fl → Int → Option Fl} {m4 : Nat} {want : Fl → Bool} {r : Nat} {f f' : Fl} {code fst a : Int} {s : Sc} (h : drv f a = some f') : p_K drv m4 want r f code fst a s = p_lay drv m4 want r f' (16 * code + a) (if fst = -9 then a else fst) s := by
  unfold p_K
  rw [h]
section MODEL15
variable {L p d : Nat} {I : Nat → Nat → Int32} {J : Nat → Nat → Int64} {n w h N b : Int} {f gr kd : Fl} {row : Int} {want : Fl → Bool}
theorem n_c3 {a bb : Int} (a1 : 0 ≤ a) (a2 : a < 16) (ho : okF N n b f) (hb : b ≤ 800000) : ∀ (t M : Nat) (c : Int) (s : Sc) (I : Nat → Nat → Int32) (B : Int), 0 ≤ c → c + t = 4 * n → iMg I w h N n gr kd → iWM I gr n row want → iM1 I 6 n f → iSM I s → okS B s → B + t ≤ 100000 →
    ∃ I', j_exec k_205 h_205 (j_run (d + 9)) (M + t + 1) 45 [some (.ref 87), some (.int (j_k a)), some (.int (j_k 3)), some (.int (j_k row)), some (.int (j_k bb)), some (.int (j_k c))] [] (ST L p I J) = j_exec k_205 h_205 (j_run (d + 9)) M 3 [some (.ref 87), some (.int (j_k a)), some (.int (j_k 3)), some (.int (j_k row)), some (.int (j_k (bb + 1))), none] [] (ST L p I' J) ∧ iSM I' (p_loop (p_K (p_drive w h gr n kd) (4 * n).toNat want 0 f (16 * a + bb) a) t c s) ∧ okS (B + t) (p_loop (p_K (p_drive w h gr n kd) (4 * n).toNat want 0 f (16 * a + bb) a) t c s) ∧ frT 36 7 I I' := by
  intro t
  induction t with
  | zero =>
    intro M c s I B c1 c2 hm hW hf hs hB hB2
    have C := n_codes (L := L) (p := p) (d := d + 8) (I := I) (J := J) hm.2.2.2.1
    have n0 := hm.1.2.2.1
    have n4 := hm.1.2.2.2.1
    have z : ¬ c < 4 * n := by omega
    refine ⟨I, ?_, hs, okS_le (by omega) hB, .rf⟩
    rw [x_exec, t_205_45]
    simp (disch := first | assumption | omega) only [k_add, k_sub, k_mul, k_lt, k_eq, k_lt0, k_0lt, k_eq0, k_nat, k_b0, k_b1, k_z1, k_z0, k_o1, k_o0, Int.reduceEq, Int.reduceLT, Int.reduceLE, Int.reduceAdd, Int.reduceMul, Int.reduceNeg, Bool.false_eq_true, or_true, true_or, or_false, false_or, and_true, true_and, and_false, false_and, not_true_eq_false, not_false_eq_true, ↓reduceIte, z_0, z_k, s_I, s_J, s_uI, s_uJ, ↓c_oc_87, ↓jc1 C, z]
  | succ t ih =>
    intro M c s I B c1 c2 hm hW hf hs hB hB2
    have C := n_codes (L := L) (p := p) (d := d + 8) (I := I) (J := J) hm.2.2.2.1
    have n0 := hm.1.2.2.1
    have n4 := hm.1.2.2.2.1
    have z : c < 4 * n := by omega
    obtain ⟨I1, d1, d2, d3⟩ := n_driven (L := L) (p := p) (d := d) (J := J) (q := 6) (c := c) (by decide) (by decide) hm hf ho (by omega) c1 z
    rw [show M + (t + 1) + 1 = M + t + 1 + 1 by omega, x_exec, t_205_45, p_loopS]
    cases hd : p_drive w h gr n kd f c with
    | none =>
      rw [hd] at d1
      have d1' : j_run (d + 9) 202 [.ref 87, .int (j_k 6), .int (j_k c)] (ST L p I J) = some (some (.int (j_k 0)), ST L p I1 J) := d1
      rw [K_none hd]
      obtain ⟨I', r1, r2, r3, r4⟩ := ih M (c + 1) s I1 B (by omega) (by omega) (d3.m hm) (hW.t d3) (d3.f n4 (by decide) (by decide) hf) (hs.t d3) hB (by omega)
      refine ⟨I', ?_, r2, okS_le (by omega) r3, (d3.le (by decide) (Int.le_refl _)).tr r4⟩
      simp (disch := first | assumption | omega) only [k_add, k_sub, k_mul, k_lt, k_eq, k_lt0, k_0lt, k_eq0, k_nat, k_b0, k_b1, k_z1, k_z0, k_o1, k_o0, Int.reduceEq, Int.reduceLT, Int.reduceLE, Int.reduceAdd, Int.reduceMul, Int.reduceNeg, Bool.false_eq_true, or_true, true_or, or_false, false_or, and_true, true_and, and_false, false_and, not_true_eq_false, not_false_eq_true, ↓reduceIte, z_0, z_k, s_I, s_J, s_uI, s_uJ, ↓c_oc_87, ↓jc1 C, z, ↓jc1 d1']
      exact r1
    | some f' =>
      rw [hd] at d1 d2
      have d1' : j_run (d + 9) 202 [.ref 87, .int (j_k 6), .int (j_k c)] (ST L p I J) = some (some (.int (j_k 1)), ST L p I1 J) := d1
      have hK : p_K (p_drive w h gr n kd) (4 * n).toNat want 0 f (16 * a + bb) a c s = p_note want f' (16 * (16 * a + bb) + c) a s := by
        rw [K_some hd, if_neg (show ¬ a = -9 by omega)]
        rfl
      rw [hK]
      obtain ⟨I2, l1, l2, l3⟩ := n_layRow (L := L) (p := p) (d := d + 4) (J := J) (q := 7) (row := row) (code := 16 * (16 * a + bb) + c) (fst := a) (by decide) (by decide) (d3.m hm) d2 (drive_ok hm.1 ho c1 z hd) (hW.t d3) (hs.t d3) hB (by omega) (Or.inr ⟨a1, a2⟩)
      have fr2 : frT 36 7 I I2 := (d3.le (by decide) (Int.le_refl _)).tr l3.t
      obtain ⟨I', r1, r2, r3, r4⟩ := ih M (c + 1) _ I2 (B + 1) (by omega) (by omega) (fr2.m hm) (hW.t fr2) (fr2.f n4 (by decide) (by decide) hf) l2 (note_ok (Or.inr ⟨a1, a2⟩) hB) (by omega)
      refine ⟨I', ?_, r2, okS_le (by omega) r3, fr2.tr r4⟩
      simp (disch := first | assumption | omega) only [k_add, k_sub, k_mul, k_lt, k_eq, k_lt0, k_0lt, k_eq0, k_nat, k_b0, k_b1, k_z1, k_z0, k_o1, k_o0, Int.reduceEq, Int.reduceLT, Int.reduceLE, Int.reduceAdd, Int.reduceMul, Int.reduceNeg, Bool.false_eq_true, or_true, true_or, or_false, false_or, and_true, true_and, and_false, false_and, not_true_eq_false, not_false_eq_true, ↓reduceIte, z_0, z_k, s_I, s_J, s_uI, s_uJ, ↓c_oc_87, ↓jc1 C, z, ↓jc1 d1', ↓jc0 l1]
      exact r1
theorem n_deep {a : Int} {m : Nat} (hm2 : m = 2 ∨ m = 3) (a1 : 0 ≤ a) (a2 : a < 16) (ho : okF N n b f) (hb : b ≤ 700000) : ∀ (t M : Nat) (c : Int) (s : Sc) (I : Nat → Nat → Int32) (B : Int), 0 ≤ c → c + t = 4 * n → iMg I w h N n gr kd → iWM I gr n row want → iM1 I 5 n f → iSM I s → okS B s → B + 16 * t ≤ 100000 → 40 * t + 40 < M →
    ∃ I', j_exec k_205 h_205 (j_run (d + 9)) M 3 [some (.ref 87), some (.int (j_k a)), some (.int (j_k (m : Int))), some (.int (j_k row)), some (.int (j_k c)), none] [] (ST L p I J) = some (none, ST L p I' J) ∧ iSM I' (p_loop (p_K (p_drive w h gr n kd) (4 * n).toNat want (m - 2) f a a) t c s) ∧ okS (B + 16 * t) (p_loop (p_K (p_drive w h gr n kd) (4 * n).toNat want (m - 2) f a a) t c s) ∧ frT 36 6 I I' := by
  intro t
  induction t with
  | zero =>
    intro M c s I B c1 c2 hm hW hf hs hB hB2 hM
    obtain ⟨M, rfl⟩ : ∃ q, M = q + 1 := ⟨M - 1, by omega⟩
    have C := n_codes (L := L) (p := p) (d := d + 8) (I := I) (J := J) hm.2.2.2.1
    have n0 := hm.1.2.2.1
    have n4 := hm.1.2.2.2.1
    have z : ¬ c < 4 * n := by omega
    refine ⟨I, ?_, hs, okS_le (by omega) hB, .rf⟩
    rw [x_exec, t_205_3]
    simp (disch := first | assumption | omega) only [k_add, k_sub, k_mul, k_lt, k_eq, k_lt0, k_0lt, k_eq0, k_nat, k_b0, k_b1, k_z1, k_z0, k_o1, k_o0, Int.reduceEq, Int.reduceLT, Int.reduceLE, Int.reduceAdd, Int.reduceMul, Int.reduceNeg, Bool.false_eq_true, or_true, true_or, or_false, false_or, and_true, true_and, and_false, false_and, not_true_eq_false, not_false_eq_true, ↓reduceIte, z_0, z_k, s_I, s_J, s_uI, s_uJ, ↓c_oc_87, ↓jc1 C, z]
  | succ t ih =>
    intro M c s I B c1 c2 hm hW hf hs hB hB2 hM
    obtain ⟨M, rfl⟩ : ∃ q, M = q + 1 := ⟨M - 1, by omega⟩
    have C := n_codes (L := L) (p := p) (d := d + 8) (I := I) (J := J) hm.2.2.2.1
    have n0 := hm.1.2.2.1
    have n4 := hm.1.2.2.2.1
    have z : c < 4 * n := by omega
    have zz : (0 : Int) < 4 * n := by omega
    obtain ⟨I1, d1, d2, d3⟩ := n_driven (L := L) (p := p) (d := d) (J := J) (q := 5) (c := c) (by decide) (by decide) hm hf ho (by omega) c1 z
    rw [x_exec, t_205_3, p_loopS]
    cases hd : p_drive w h gr n kd f c with
    | none =>
      rw [hd] at d1
      have d1' : j_run (d + 9) 202 [.ref 87, .int (j_k 5), .int (j_k c)] (ST L p I J) = some (some (.int (j_k 0)), ST L p I1 J) := d1
      rw [K_none hd]
      obtain ⟨I', r1, r2, r3, r4⟩ := ih M (c + 1) s I1 B (by omega) (by omega) (d3.m hm) (hW.t d3) (d3.f n4 (by decide) (by decide) hf) (hs.t d3) hB (by omega) (by omega)
      refine ⟨I', ?_, r2, okS_le (by omega) r3, (d3.le (by decide) (Int.le_refl _)).tr r4⟩
      simp (disch := first | assumption | omega) only [k_add, k_sub, k_mul, k_lt, k_eq, k_lt0, k_0lt, k_eq0, k_nat, k_b0, k_b1, k_z1, k_z0, k_o1, k_o0, Int.reduceEq, Int.reduceLT, Int.reduceLE, Int.reduceAdd, Int.reduceMul, Int.reduceNeg, Bool.false_eq_true, or_true, true_or, or_false, false_or, and_true, true_and, and_false, false_and, not_true_eq_false, not_false_eq_true, ↓reduceIte, z_0, z_k, s_I, s_J, s_uI, s_uJ, ↓c_oc_87, ↓jc1 C, z, ↓jc1 d1']
      exact r1
    | some f' =>
      rw [hd] at d1 d2
      have d1' : j_run (d + 9) 202 [.ref 87, .int (j_k 5), .int (j_k c)] (ST L p I J) = some (some (.int (j_k 1)), ST L p I1 J) := d1
      have ho' := drive_ok hm.1 ho c1 z hd
      have fr1 : frT 36 6 I I1 := d3.le (by decide) (Int.le_refl _)
      rcases hm2 with rfl | rfl
      · have hK : p_K (p_drive w h gr n kd) (4 * n).toNat want (2 - 2) f a a c s = p_note want f' (16 * a + c) a s := by
          rw [K_some hd, if_neg (show ¬ a = -9 by omega)]
          rfl
        rw [hK]
        obtain ⟨I2, l1, l2, l3⟩ := n_layRow (L := L) (p := p) (d := d + 4) (J := J) (q := 6) (row := row) (code := 16 * a + c) (fst := a) (by decide) (by decide) (d3.m hm) d2 ho' (hW.t d3) (hs.t d3) hB (by omega) (Or.inr ⟨a1, a2⟩)
        have fr2 : frT 36 6 I I2 := fr1.tr l3.t
        obtain ⟨M, rfl⟩ : ∃ q, M = q + 1 := ⟨M - 1, by omega⟩
        have C2 := n_codes (L := L) (p := p) (d := d + 8) (I := I2) (J := J) (fr2.m hm).2.2.2.1
        obtain ⟨I', r1, r2, r3, r4⟩ := ih M (c + 1) _ I2 (B + 1) (by omega) (by omega) (fr2.m hm) (hW.t fr2) (fr2.f n4 (by decide) (by decide) hf) l2 (note_ok (Or.inr ⟨a1, a2⟩) hB) (by omega) (by omega)
        refine ⟨I', ?_, r2, okS_le (by omega) r3, fr2.tr r4⟩
        have c2' : ((2 : Nat) : Int) = 2 := rfl
        rw [c2'] at r1 ⊢
        simp (disch := first | assumption | omega) only [k_add, k_sub, k_mul, k_lt, k_eq, k_lt0, k_0lt, k_eq0, k_nat, k_b0, k_b1, k_z1, k_z0, k_o1, k_o0, Int.reduceEq, Int.reduceLT, Int.reduceLE, Int.reduceAdd, Int.reduceMul, Int.reduceNeg, Bool.false_eq_true, or_true, true_or, or_false, false_or, and_true, true_and, and_false, false_and, not_true_eq_false, not_false_eq_true, ↓reduceIte, z_0, z_k, s_I, s_J, s_uI, s_uJ, ↓c_oc_87, ↓jc1 C, z, ↓jc1 d1', ↓jc0 l1]
        rw [x_exec, t_205_45]
        simp (disch := first | assumption | omega) only [k_add, k_sub, k_mul, k_lt, k_eq, k_lt0, k_0lt, k_eq0, k_nat, k_b0, k_b1, k_z1, k_z0, k_o1, k_o0, Int.reduceEq, Int.reduceLT, Int.reduceLE, Int.reduceAdd, Int.reduceMul, Int.reduceNeg, Bool.false_eq_true, or_true, true_or, or_false, false_or, and_true, true_and, and_false, false_and, not_true_eq_false, not_false_eq_true, ↓reduceIte, z_0, z_k, s_I, s_J, s_uI, s_uJ, ↓c_oc_87, ↓jc1 C2, zz]
        exact r1
      · have hK : p_K (p_drive w h gr n kd) (4 * n).toNat want (3 - 2) f a a c s = p_loop (p_K (p_drive w h gr n kd) (4 * n).toNat want 0 f' (16 * a + c) a) (4 * n).toNat 0 s := by
          rw [K_some hd, if_neg (show ¬ a = -9 by omega)]
          rfl
        rw [hK]
        obtain ⟨M2, hM2⟩ : ∃ q, M = q + (4 * n).toNat + 1 := ⟨M - (4 * n).toNat - 1, by omega⟩
        obtain ⟨I2, l1, l2, l3, l4⟩ := n_c3 (L := L) (p := p) (d := d) (J := J) (a := a) (bb := c) (row := row) (want := want) a1 a2 ho' (by omega) (4 * n).toNat M2 0 s I1 B (Int.le_refl 0) (by omega) (d3.m hm) (hW.t d3) d2 (hs.t d3) hB (by omega)
        have fr2 : frT 36 6 I I2 := fr1.tr (l4.le (by decide) (by decide))
        obtain ⟨I', r1, r2, r3, r4⟩ := ih M2 (c + 1) _ I2 (B + (4 * n).toNat) (by omega) (by omega) (fr2.m hm) (hW.t fr2) (fr2.f n4 (by decide) (by decide) hf) l2 l3 (by omega) (by omega)
        refine ⟨I', ?_, r2, okS_le (by omega) r3, fr2.tr r4⟩
        have c3' : ((3 : Nat) : Int) = 3 := rfl
        rw [c3'] at r1 ⊢
        rw [hM2]
        simp (disch := first | assumption | omega) only [k_add, k_sub, k_mul, k_lt, k_eq, k_lt0, k_0lt, k_eq0, k_nat, k_b0, k_b1, k_z1, k_z0, k_o1, k_o0, Int.reduceEq, Int.reduceLT, Int.reduceLE, Int.reduceAdd, Int.reduceMul, Int.reduceNeg, Bool.false_eq_true, or_true, true_or, or_false, false_or, and_true, true_and, and_false, false_and, not_true_eq_false, not_false_eq_true, ↓reduceIte, z_0, z_k, s_I, s_J, s_uI, s_uJ, ↓c_oc_87, ↓jc1 C, z, ↓jc1 d1']
        exact l1.trans r1
theorem n_layDeeper {a B : Int} {m : Nat} {s : Sc} (hm2 : m = 2 ∨ m = 3) (a1 : 0 ≤ a) (a2 : a < 16) (ho : okF N n b f) (hb : b ≤ 700000) (hm : iMg I w h N n gr kd) (hW : iWM I gr n row want) (hf : iM1 I 5 n f) (hs : iSM I s) (hB : okS B s) (hB2 : B + 256 ≤ 100000) : ∃ I', j_run (d + 10) 205 [.ref 87, .int (j_k a), .int (j_k (m : Int)), .int (j_k row)] (ST L p I J) = some (none, ST L p I' J) ∧ iSM I' (p_lay (p_drive w h gr n kd) (4 * n).toNat want (m - 1) f a a s) ∧ okS (B + 256) (p_lay (p_drive w h gr n kd) (4 * n).toNat want (m - 1) f a a s) ∧ frT 36 6 I I' := by
  have n0 := hm.1.2.2.1
  have n4 := hm.1.2.2.2.1
  obtain ⟨M, hM, hM2⟩ : ∃ M, M = 999999 ∧ 5000 < M := ⟨999999, rfl, by decide⟩
  obtain ⟨I', r1, r2, r3, r4⟩ := n_deep (L := L) (p := p) (d := d) (J := J) (a := a) (m := m) (row := row) (want := want) hm2 a1 a2 ho hb (4 * n).toNat M 0 s I B (Int.le_refl 0) (by omega) hm hW hf hs hB (by omega) (by omega)
  have E : p_lay (p_drive w h gr n kd) (4 * n).toNat want (m - 1) f a a s = p_loop (p_K (p_drive w h gr n kd) (4 * n).toNat want (m - 2) f a a) (4 * n).toNat 0 s := by
    rw [show m - 1 = m - 2 + 1 by omega, lay_K]
  rw [E]
  refine ⟨I', ?_, r2, okS_le (by omega) r3, r4⟩
  have e := (r_205 (d + 9) (ST L p I J) 87 (j_k a) (j_k (m : Int)) (j_k row)).trans (t_205_0 _ _ _ _ _ _ _)
  rw [← hM] at e
  exact e.trans r1
theorem n_rowsL {m : Nat} (hm2 : 1 ≤ m ∧ m ≤ 3) (ho : okF N n b f) (hb : b ≤ 600000) : ∀ (t M : Nat) (c : Int) (s : Sc) (I : Nat → Nat → Int32) (B : Int), 0 ≤ c → c + t = 4 * n → iMg I w h N n gr kd → iWM I gr n row want → iM1 I 4 n f → iSM I s → okS B s → B + 256 * t ≤ 100000 → t < M →
    ∃ I', j_exec k_204 h_204 (j_run (d + 11)) M 47 [some (.ref 87), some (.int (j_k (m : Int))), some (.int (j_k row)), some (.int (j_k c))] [] (ST L p I J) = some (none, ST L p I' J) ∧ iSM I' (p_loop (p_K (p_drive w h gr n kd) (4 * n).toNat want (m - 1) f 0 (-9)) t c s) ∧ frT 36 5 I I' := by
  intro t
  induction t with
  | zero =>
    intro M c s I B c1 c2 hm hW hf hs hB hB2 hM
    obtain ⟨M, rfl⟩ : ∃ q, M = q + 1 := ⟨M - 1, by omega⟩
    have C := n_codes (L := L) (p := p) (d := d + 10) (I := I) (J := J) hm.2.2.2.1
    have n0 := hm.1.2.2.1
    have n4 := hm.1.2.2.2.1
    have z : ¬ c < 4 * n := by omega
    refine ⟨I, ?_, hs, .rf⟩
    rw [x_exec, t_204_47]
    simp (disch := first | assumption | omega) only [k_add, k_sub, k_mul, k_lt, k_eq, k_lt0, k_0lt, k_eq0, k_nat, k_b0, k_b1, k_z1, k_z0, k_o1, k_o0, Int.reduceEq, Int.reduceLT, Int.reduceLE, Int.reduceAdd, Int.reduceMul, Int.reduceNeg, Bool.false_eq_true, or_true, true_or, or_false, false_or, and_true, true_and, and_false, false_and, not_true_eq_false, not_false_eq_true, ↓reduceIte, z_0, z_k, s_I, s_J, s_uI, s_uJ, ↓c_oc_87, ↓jc1 C, z]
  | succ t ih =>
    intro M c s I B c1 c2 hm hW hf hs hB hB2 hM
    obtain ⟨M, rfl⟩ : ∃ q, M = q + 1 := ⟨M - 1, by omega⟩
    have C := n_codes (L := L) (p := p) (d := d + 10) (I := I) (J := J) hm.2.2.2.1
    have n0 := hm.1.2.2.1
    have n4 := hm.1.2.2.2.1
    have z : c < 4 * n := by omega
    have m1 : (0 : Int) < (m : Int) := by omega
    have m3 : (m : Int) < 4 := by omega
    obtain ⟨I1, d1, d2, d3⟩ := n_driven (L := L) (p := p) (d := d + 2) (J := J) (q := 4) (c := c) (by decide) (by decide) hm hf ho (by omega) c1 z
    rw [x_exec, t_204_47, p_loopS]
    cases hd : p_drive w h gr n kd f c with
    | none =>
      rw [hd] at d1
      have d1' : j_run (d + 2 + 9) 202 [.ref 87, .int (j_k 4), .int (j_k c)] (ST L p I J) = some (some (.int (j_k 0)), ST L p I1 J) := d1
      rw [K_none hd]
      obtain ⟨I', r1, r2, r4⟩ := ih M (c + 1) s I1 B (by omega) (by omega) (d3.m hm) (hW.t d3) (d3.f n4 (by decide) (by decide) hf) (hs.t d3) hB (by omega) (by omega)
      refine ⟨I', ?_, r2, (d3.le (by decide) (Int.le_refl _)).tr r4⟩
      simp (disch := first | assumption | omega) only [k_add, k_sub, k_mul, k_lt, k_eq, k_lt0, k_0lt, k_eq0, k_nat, k_b0, k_b1, k_z1, k_z0, k_o1, k_o0, Int.reduceEq, Int.reduceLT, Int.reduceLE, Int.reduceAdd, Int.reduceMul, Int.reduceNeg, Bool.false_eq_true, or_true, true_or, or_false, false_or, and_true, true_and, and_false, false_and, not_true_eq_false, not_false_eq_true, ↓reduceIte, z_0, z_k, s_I, s_J, s_uI, s_uJ, ↓c_oc_87, ↓jc1 C, z, m1, ↓jc1 d1']
      exact r1
    | some f' =>
      rw [hd] at d1 d2
      have d1' : j_run (d + 2 + 9) 202 [.ref 87, .int (j_k 4), .int (j_k c)] (ST L p I J) = some (some (.int (j_k 1)), ST L p I1 J) := d1
      have ho' := drive_ok hm.1 ho c1 z hd
      have fr1 : frT 36 5 I I1 := d3.le (by decide) (Int.le_refl _)
      have hK : p_K (p_drive w h gr n kd) (4 * n).toNat want (m - 1) f 0 (-9) c s = p_lay (p_drive w h gr n kd) (4 * n).toNat want (m - 1) f' c c s := by
        rw [K_some hd, if_pos rfl, show 16 * (0 : Int) + c = c by omega]
      rw [hK]
      by_cases y : m = 1
      · subst y
        obtain ⟨I2, l1, l2, l3⟩ := n_layRow (L := L) (p := p) (d := d + 6) (J := J) (q := 5) (row := row) (code := c) (fst := c) (by decide) (by decide) (d3.m hm) d2 ho' (hW.t d3) (hs.t d3) hB (by omega) (Or.inr ⟨c1, by omega⟩)
        have fr2 : frT 36 5 I I2 := fr1.tr l3.t
        obtain ⟨I', r1, r2, r4⟩ := ih M (c + 1) _ I2 (B + 1) (by omega) (by omega) (fr2.m hm) (hW.t fr2) (fr2.f n4 (by decide) (by decide) hf) l2 (note_ok (Or.inr ⟨c1, by omega⟩) hB) (by omega) (by omega)
        refine ⟨I', ?_, r2, fr2.tr r4⟩
        have c2' : ((1 : Nat) : Int) = 1 := rfl
        rw [c2'] at r1 ⊢
        simp (disch := first | assumption | omega) only [k_add, k_sub, k_mul, k_lt, k_eq, k_lt0, k_0lt, k_eq0, k_nat, k_b0, k_b1, k_z1, k_z0, k_o1, k_o0, Int.reduceEq, Int.reduceLT, Int.reduceLE, Int.reduceAdd, Int.reduceMul, Int.reduceNeg, Bool.false_eq_true, or_true, true_or, or_false, false_or, and_true, true_and, and_false, false_and, not_true_eq_false, not_false_eq_true, ↓reduceIte, z_0, z_k, s_I, s_J, s_uI, s_uJ, ↓c_oc_87, ↓jc1 C, z, ↓jc1 d1', ↓jc0 l1]
        exact r1
      · have y' : ¬ (m : Int) = 1 := by omega
        obtain ⟨I2, l1, l2, l3, l4⟩ := n_layDeeper (L := L) (p := p) (d := d + 1) (J := J) (a := c) (m := m) (row := row) (want := want) (by omega) c1 (by omega) ho' (by omega) (d3.m hm) (hW.t d3) d2 (hs.t d3) hB (by omega)
        have fr2 : frT 36 5 I I2 := fr1.tr (l4.le (by decide) (by decide))
        obtain ⟨I', r1, r2, r4⟩ := ih M (c + 1) _ I2 (B + 256) (by omega) (by omega) (fr2.m hm) (hW.t fr2) (fr2.f n4 (by decide) (by decide) hf) l2 l3 (by omega) (by omega)
        refine ⟨I', ?_, r2, fr2.tr r4⟩
        simp (disch := first | assumption | omega) only [k_add, k_sub, k_mul, k_lt, k_eq, k_lt0, k_0lt, k_eq0, k_nat, k_b0, k_b1, k_z1, k_z0, k_o1, k_o0, Int.reduceEq, Int.reduceLT, Int.reduceLE, Int.reduceAdd, Int.reduceMul, Int.reduceNeg, Bool.false_eq_true, or_true, true_or, or_false, false_or, and_true, true_and, and_false, false_and, not_true_eq_false, not_false_eq_true, ↓reduceIte, z_0, z_k, s_I, s_J, s_uI, s_uJ, ↓c_oc_87, ↓jc1 C, z, m1, ↓jc1 d1', y', ↓jc0 l1]
        exact r1
theorem n_layRows {m : Nat} (hm2 : m ≤ 3) (hm : iMg I w h N n gr kd) (hf : iM1 I 0 n f) (ho : okF N n b f) (hb : b ≤ 600000) (hW : iWM I gr n row want) : ∃ I', j_run (d + 12) 204 [.ref 87, .int (j_k (m : Int)), .int (j_k row)] (ST L p I J) = some (none, ST L p I' J) ∧ iSM I' (p_all (p_drive w h gr n kd) (4 * n).toNat want m f) ∧ frT 36 4 I I' := by
  have n0 := hm.1.2.2.1
  have n4 := hm.1.2.2.2.1
  have f5 : frF I (u2 (u2 (u2 (u2 (u2 I 87 32 (j_k 0)) 87 33 (j_k 0)) 87 34 (j_k (-9))) 87 35 (j_k 0)) 87 36 (j_k 0)) := ((((frF.o (by decide) (by decide)).tr (frF.o (by decide) (by decide))).tr (frF.o (by decide) (by decide))).tr (frF.o (by decide) (by decide))).tr (frF.o (by decide) (by decide))
  have s5 : iSM (u2 (u2 (u2 (u2 (u2 I 87 32 (j_k 0)) 87 33 (j_k 0)) 87 34 (j_k (-9))) 87 35 (j_k 0)) 87 36 (j_k 0)) (0, 0, 0, 0, 0) := ⟨by simp (disch := first | assumption | omega) only [k_add, k_sub, k_mul, k_lt, k_eq, k_lt0, k_0lt, k_eq0, k_nat, k_b0, k_b1, k_z1, k_z0, k_o1, k_o0, Int.reduceEq, Int.reduceLT, Int.reduceLE, Int.reduceAdd, Int.reduceMul, Int.reduceNeg, Bool.false_eq_true, or_true, true_or, or_false, false_or, and_true, true_and, and_false, false_and, not_true_eq_false, not_false_eq_true, ↓reduceIte, z_0, z_k, s_I, s_J, s_uI, s_uJ, u2_ss, u2_k], by simp (disch := first | assumption | omega) only [k_add, k_sub, k_mul, k_lt, k_eq, k_lt0, k_0lt, k_eq0, k_nat, k_b0, k_b1, k_z1, k_z0, k_o1, k_o0, Int.reduceEq, Int.reduceLT, Int.reduceLE, Int.reduceAdd, Int.reduceMul, Int.reduceNeg, Bool.false_eq_true, or_true, true_or, or_false, false_or, and_true, true_and, and_false, false_and, not_true_eq_false, not_false_eq_true, ↓reduceIte, z_0, z_k, s_I, s_J, s_uI, s_uJ, u2_ss, u2_k], fun u => absurd rfl u, by simp (disch := first | assumption | omega) only [k_add, k_sub, k_mul, k_lt, k_eq, k_lt0, k_0lt, k_eq0, k_nat, k_b0, k_b1, k_z1, k_z0, k_o1, k_o0, Int.reduceEq, Int.reduceLT, Int.reduceLE, Int.reduceAdd, Int.reduceMul, Int.reduceNeg, Bool.false_eq_true, or_true, true_or, or_false, false_or, and_true, true_and, and_false, false_and, not_true_eq_false, not_false_eq_true, ↓reduceIte, z_0, z_k, s_I, s_J, s_uI, s_uJ, u2_ss, u2_k], by simp (disch := first | assumption | omega) only [k_add, k_sub, k_mul, k_lt, k_eq, k_lt0, k_0lt, k_eq0, k_nat, k_b0, k_b1, k_z1, k_z0, k_o1, k_o0, Int.reduceEq, Int.reduceLT, Int.reduceLE, Int.reduceAdd, Int.reduceMul, Int.reduceNeg, Bool.false_eq_true, or_true, true_or, or_false, false_or, and_true, true_and, and_false, false_and, not_true_eq_false, not_false_eq_true, ↓reduceIte, z_0, z_k, s_I, s_J, s_uI, s_uJ, u2_ss, u2_k]⟩
  generalize hI5 : u2 (u2 (u2 (u2 (u2 I 87 32 (j_k 0)) 87 33 (j_k 0)) 87 34 (j_k (-9))) 87 35 (j_k 0)) 87 36 (j_k 0) = I5 at f5 s5
  obtain ⟨I1, c1, c2, c3⟩ := n_copy (L := L) (p := p) (d := d + 9) (I := I5) (J := J) (k := 0) (l := 4) (by decide) (by decide) (by decide) (by decide) (by decide)
  have hf5 : iM1 I5 0 n f := hf.cg (fun i _ _ => by rw [f5.1 99 (by decide)]) n4
  have F : iM1 I1 4 n f := ⟨fun j j1 j2 => by rw [c2 j j1 (by omega)]; exact hf5.1 j j1 j2, fun j j1 j2 => by rw [c2 _ (by omega) (by omega)]; exact hf5.2.1 j j1 j2, fun j j1 j2 => by rw [c2 _ (by omega) (by omega)]; exact hf5.2.2 j j1 j2⟩
  have t1 : frT 30 4 I5 I1 := c3.t (Int.le_refl _)
  have fr1 : frT 36 4 I I1 := (f5.t).tr (t1.le (by decide) (Int.le_refl _))
  have okS0 : okS 0 ((0, 0, 0, 0, 0) : Sc) := ⟨Int.le_refl _, Int.le_refl _, Int.le_refl _, Int.le_refl _, by decide, Int.le_refl _, by decide⟩
  have e := (r_204 (d + 11) (ST L p I J) 87 (j_k (m : Int)) (j_k row)).trans (t_204_0 _ _ _ _ _ _)
  obtain ⟨M, hM, hM2⟩ : ∃ M, M = 999999 ∧ 5000 < M := ⟨999999, rfl, by decide⟩
  rw [← hM] at e
  simp (disch := first | assumption | omega) only [k_add, k_sub, k_mul, k_lt, k_eq, k_lt0, k_0lt, k_eq0, k_nat, k_b0, k_b1, k_z1, k_z0, k_o1, k_o0, Int.reduceEq, Int.reduceLT, Int.reduceLE, Int.reduceAdd, Int.reduceMul, Int.reduceNeg, Bool.false_eq_true, or_true, true_or, or_false, false_or, and_true, true_and, and_false, false_and, not_true_eq_false, not_false_eq_true, ↓reduceIte, z_0, z_k, s_I, s_J, s_uI, s_uJ, ↓c_oc_87, ↓c_lt_87] at e
  rw [hI5] at e
  by_cases x : m = 0
  · subst x
    obtain ⟨I2, l1, l2, l3⟩ := n_layRow (L := L) (p := p) (d := d + 6) (J := J) (q := 4) (row := row) (code := 0) (fst := -9) (by decide) (by decide) (fr1.m hm) F ho (hW.t fr1) (s5.t t1) okS0 (by decide) (Or.inl rfl)
    have fr2 : frT 36 4 I I2 := fr1.tr l3.t
    refine ⟨I2, ?_, l2, fr2⟩
    rw [e]
    have c0 : ((0 : Nat) : Int) = 0 := rfl
    rw [c0]
    simp (disch := first | assumption | omega) only [k_add, k_sub, k_mul, k_lt, k_eq, k_lt0, k_0lt, k_eq0, k_nat, k_b0, k_b1, k_z1, k_z0, k_o1, k_o0, Int.reduceEq, Int.reduceLT, Int.reduceLE, Int.reduceAdd, Int.reduceMul, Int.reduceNeg, Bool.false_eq_true, or_true, true_or, or_false, false_or, and_true, true_and, and_false, false_and, not_true_eq_false, not_false_eq_true, ↓reduceIte, z_0, z_k, s_I, s_J, s_uI, s_uJ, ↓c_oc_87, ↓jc0 c1, ↓jc0 l1]
    obtain ⟨M, rfl⟩ : ∃ q, M = q + 1 := ⟨M - 1, by omega⟩
    have C := n_codes (L := L) (p := p) (d := d + 10) (I := I2) (J := J) (fr2.m hm).2.2.2.1
    rw [x_exec, t_204_47]
    simp (disch := first | assumption | omega) only [k_add, k_sub, k_mul, k_lt, k_eq, k_lt0, k_0lt, k_eq0, k_nat, k_b0, k_b1, k_z1, k_z0, k_o1, k_o0, Int.reduceEq, Int.reduceLT, Int.reduceLE, Int.reduceAdd, Int.reduceMul, Int.reduceNeg, Bool.false_eq_true, or_true, true_or, or_false, false_or, and_true, true_and, and_false, false_and, not_true_eq_false, not_false_eq_true, ↓reduceIte, z_0, z_k, s_I, s_J, s_uI, s_uJ, ↓c_oc_87, ↓jc1 C]
    by_cases y : 0 < 4 * n
    · rw [if_pos y]
    · rw [if_neg y]
  · have mz : ¬ (m : Int) = 0 := by omega
    have m3 : (m : Int) < 4 := by omega
    obtain ⟨I2, l1, l2, l3⟩ := n_rowsL (L := L) (p := p) (d := d) (J := J) (m := m) (row := row) (want := want) (by omega) ho hb (4 * n).toNat M 0 (0, 0, 0, 0, 0) I1 0 (Int.le_refl 0) (by omega) (fr1.m hm) (hW.t fr1) F (s5.t t1) okS0 (by omega) (by omega)
    have E : p_all (p_drive w h gr n kd) (4 * n).toNat want m f = p_loop (p_K (p_drive w h gr n kd) (4 * n).toNat want (m - 1) f 0 (-9)) (4 * n).toNat 0 (0, 0, 0, 0, 0) := by
      unfold p_all
      rw [show m = m - 1 + 1 by omega, lay_K]
      rfl
    rw [E]
    refine ⟨I2, ?_, l2, fr1.tr (l3.le (by decide) (by decide))⟩
    rw [e]
    simp (disch := first | assumption | omega) only [k_add, k_sub, k_mul, k_lt, k_eq, k_lt0, k_0lt, k_eq0, k_nat, k_b0, k_b1, k_z1, k_z0, k_o1, k_o0, Int.reduceEq, Int.reduceLT, Int.reduceLE, Int.reduceAdd, Int.reduceMul, Int.reduceNeg, Bool.false_eq_true, or_true, true_or, or_false, false_or, and_true, true_and, and_false, false_and, not_true_eq_false, not_false_eq_true, ↓reduceIte, z_0, z_k, s_I, s_J, s_uI, s_uJ, ↓c_oc_87, ↓jc0 c1, mz]
    exact l1
theorem n_fewL {most : Nat} (hmost : most ≤ 3) (ho : okF N n b f) (hb : b ≤ 600000) : ∀ (t r M : Nat) (I : Nat → Nat → Int32), r + t = most → t + 1 < M → iMg I w h N n gr kd → iM1 I 0 n f → iWM I gr n row want →
    ∃ I', j_exec k_207 h_207 (j_run (d + 12)) M 2 [some (.ref 87), some (.int (j_k (most : Int))), some (.int (j_k row)), some (.int (j_k (r : Int)))] [] (ST L p I J) = some (some (.int (j_k (p_few (p_drive w h gr n kd) (4 * n).toNat want f t r).1)), ST L p I' J) ∧ iSM I' (p_few (p_drive w h gr n kd) (4 * n).toNat want f t r).2 ∧ frT 36 4 I I' := by
  intro t
  induction t with
  | zero =>
    intro r M I hr hM hm hf hW
    obtain ⟨M, rfl⟩ : ∃ q, M = q + 1 := ⟨M - 1, by omega⟩
    obtain ⟨I1, a1, a2, a3⟩ := n_layRows (L := L) (p := p) (d := d) (J := J) (m := r) (row := row) (want := want) (by omega) hm hf ho hb hW
    have n4 := hm.1.2.2.2.1
    have r3 : (r : Int) < 4 := by omega
    have m3 : (most : Int) < 4 := by omega
    have z : ¬ (most : Int) < r := by omega
    have ok := all_ok (N := N) (want := want) (f := f) hm.1 (show r ≤ 3 by omega)
    have g := a2.2.1
    have b0 := ok.1
    have b1 := ok.2.1
    have b2 := ok.2.2.1
    rw [x_exec, t_207_2]
    unfold p_few
    by_cases y : 0 < (p_all (p_drive w h gr n kd) (4 * n).toNat want r f).2.1
    · rw [if_pos y]
      refine ⟨I1, ?_, a2, a3⟩
      simp (disch := first | assumption | omega) only [k_add, k_sub, k_mul, k_lt, k_eq, k_lt0, k_0lt, k_eq0, k_nat, k_b0, k_b1, k_z1, k_z0, k_o1, k_o0, Int.reduceEq, Int.reduceLT, Int.reduceLE, Int.reduceAdd, Int.reduceMul, Int.reduceNeg, Bool.false_eq_true, or_true, true_or, or_false, false_or, and_true, true_and, and_false, false_and, not_true_eq_false, not_false_eq_true, ↓reduceIte, z_0, z_k, s_I, s_J, s_uI, s_uJ, z, ↓c_oc_87, ↓jc0 a1, g, y]
    · rw [if_neg y]
      refine ⟨I1, ?_, a2, a3⟩
      obtain ⟨M, rfl⟩ : ∃ q, M = q + 1 := ⟨M - 1, by omega⟩
      simp (disch := first | assumption | omega) only [k_add, k_sub, k_mul, k_lt, k_eq, k_lt0, k_0lt, k_eq0, k_nat, k_b0, k_b1, k_z1, k_z0, k_o1, k_o0, Int.reduceEq, Int.reduceLT, Int.reduceLE, Int.reduceAdd, Int.reduceMul, Int.reduceNeg, Bool.false_eq_true, or_true, true_or, or_false, false_or, and_true, true_and, and_false, false_and, not_true_eq_false, not_false_eq_true, ↓reduceIte, z_0, z_k, s_I, s_J, s_uI, s_uJ, z, ↓c_oc_87, ↓jc0 a1, g, y]
      rw [x_exec, t_207_2]
      have z2 : (most : Int) < (r : Int) + 1 := by omega
      simp (disch := first | assumption | omega) only [k_add, k_sub, k_mul, k_lt, k_eq, k_lt0, k_0lt, k_eq0, k_nat, k_b0, k_b1, k_z1, k_z0, k_o1, k_o0, Int.reduceEq, Int.reduceLT, Int.reduceLE, Int.reduceAdd, Int.reduceMul, Int.reduceNeg, Bool.false_eq_true, or_true, true_or, or_false, false_or, and_true, true_and, and_false, false_and, not_true_eq_false, not_false_eq_true, ↓reduceIte, z_0, z_k, s_I, s_J, s_uI, s_uJ, z2]
  | succ t ih =>
    intro r M I hr hM hm hf hW
    obtain ⟨M, rfl⟩ : ∃ q, M = q + 1 := ⟨M - 1, by omega⟩
    obtain ⟨I1, a1, a2, a3⟩ := n_layRows (L := L) (p := p) (d := d) (J := J) (m := r) (row := row) (want := want) (by omega) hm hf ho hb hW
    have n4 := hm.1.2.2.2.1
    have r3 : (r : Int) < 4 := by omega
    have m3 : (most : Int) < 4 := by omega
    have z : ¬ (most : Int) < r := by omega
    have ok := all_ok (N := N) (want := want) (f := f) hm.1 (show r ≤ 3 by omega)
    have g := a2.2.1
    have b0 := ok.1
    have b1 := ok.2.1
    have b2 := ok.2.2.1
    rw [x_exec, t_207_2]
    unfold p_few
    by_cases y : 0 < (p_all (p_drive w h gr n kd) (4 * n).toNat want r f).2.1
    · rw [if_pos y]
      refine ⟨I1, ?_, a2, a3⟩
      simp (disch := first | assumption | omega) only [k_add, k_sub, k_mul, k_lt, k_eq, k_lt0, k_0lt, k_eq0, k_nat, k_b0, k_b1, k_z1, k_z0, k_o1, k_o0, Int.reduceEq, Int.reduceLT, Int.reduceLE, Int.reduceAdd, Int.reduceMul, Int.reduceNeg, Bool.false_eq_true, or_true, true_or, or_false, false_or, and_true, true_and, and_false, false_and, not_true_eq_false, not_false_eq_true, ↓reduceIte, z_0, z_k, s_I, s_J, s_uI, s_uJ, z, ↓c_oc_87, ↓jc0 a1, g, y]
    · rw [if_neg y]
      obtain ⟨I2, q1, q2, q3⟩ := ih (r + 1) M I1 (by omega) (by omega) (a3.m hm) (a3.f n4 (by decide) (by decide) hf) (hW.t a3)
      refine ⟨I2, ?_, q2, a3.tr q3⟩
      simp (disch := first | assumption | omega) only [k_add, k_sub, k_mul, k_lt, k_eq, k_lt0, k_0lt, k_eq0, k_nat, k_b0, k_b1, k_z1, k_z0, k_o1, k_o0, Int.reduceEq, Int.reduceLT, Int.reduceLE, Int.reduceAdd, Int.reduceMul, Int.reduceNeg, Bool.false_eq_true, or_true, true_or, or_false, false_or, and_true, true_and, and_false, false_and, not_true_eq_false, not_false_eq_true, ↓reduceIte, z_0, z_k, s_I, s_J, s_uI, s_uJ, z, ↓c_oc_87, ↓jc0 a1, g, y]
      exact q1
theorem n_few {most : Nat} (hmost : most ≤ 3) (hm : iMg I w h N n gr kd) (hf : iM1 I 0 n f) (ho : okF N n b f) (hb : b ≤ 600000) (hW : iWM I gr n row want) : ∃ I', j_run (d + 13) 207 [.ref 87, .int (j_k (most : Int)), .int (j_k row)] (ST L p I J) = some (some (.int (j_k (p_few (p_drive w h gr n kd) (4 * n).toNat want f most 0).1)), ST L p I' J) ∧ iSM I' (p_few (p_drive w h gr n kd) (4 * n).toNat want f most 0).2 ∧ frT 36 4 I I' := by
  obtain ⟨M, hM, hM2⟩ : ∃ M, M = 999999 ∧ 5000 < M := ⟨999999, rfl, by decide⟩
  obtain ⟨I', a, a2⟩ := n_fewL (L := L) (p := p) (d := d) (J := J) (row := row) (want := want) hmost ho hb most 0 M I (by omega) (by omega) hm hf hW
  have e := (r_207 (d + 12) (ST L p I J) 87 (j_k (most : Int)) (j_k row)).trans (t_207_0 _ _ _ _ _ _)
  rw [← hM] at e
  exact ⟨I', e.trans a, a2⟩
end MODEL15
