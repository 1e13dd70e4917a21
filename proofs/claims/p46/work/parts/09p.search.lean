/-! ===== the class's search: from its beginning to the fewest ===== -/
def frB (I I' : Nat → Nat → Int32) : Prop := (∀ q, q ≠ 53 → (q < 55 ∨ 71 ≤ q) → I' q = I q) ∧ ∀ k, k < 3 → I' 53 k = I 53 k
theorem frB.rf {I : Nat → Nat → Int32} : frB I I := ⟨fun _ _ _ => rfl, fun _ _ => rfl⟩
theorem frB.tr {I I' I'' : Nat → Nat → Int32} (h : frB I I') (h' : frB I' I'') : frB I I'' := ⟨fun r a b => (h'.1 r a b).trans (h.1 r a b), fun k hk => (h'.2 k hk).trans (h.2 k hk)⟩
theorem frS.B {q : Nat} {I I' : Nat → Nat → Int32} (hq : 55 ≤ q) (h : frS q I I') : frB I I' := ⟨fun r a b => h.1 r a (by omega), fun k hk => h.2 k (by omega)⟩
theorem first_cg {P Q : Int → Bool} : ∀ (m : Nat) (k : Int), (∀ j, k ≤ j → j < k + m → P j = Q j) → p_first P m k = p_first Q m k
  | 0, k, h => rfl
  | m + 1, k, h => by
    rw [p_firstS, p_firstS, h k (Int.le_refl k) (by omega), first_cg m (k + 1) (fun j h1 h2 => h j (by omega) (by omega))]
theorem at_cg {n : Int} {r1 r2 : Int → Int32} (h : ∀ j, 0 ≤ j → j < n → r1 j = r2 j) : p_at n r1 = p_at n r2 := by
  funext f
  have e : p_first (fun k => decide (¬ j_k (f (5 + k)) = r1 k)) n.toNat 0 = p_first (fun k => decide (¬ j_k (f (5 + k)) = r2 k)) n.toNat 0 := first_cg _ _ (fun j h1 h2 => by rw [h j h1 (by omega)])
  unfold p_at
  simp only [e]
section SEARCHP
variable {L p d : Nat} {J : Nat → Nat → Int64} {n w h N b : Int} {kd gr f : Fl} {want : Fl → Bool} {I : Nat → Nat → Int32}
theorem s_begin {c : Nat} (hc : FA c) (hc2 : c + 3 < 53) (hi : iF I c n kd f) (hn : 0 ≤ n) (hn4 : n ≤ 4) {r : Int} : ∃ I', j_run (d + 2) 56 [.ref 53, .ref c, .int (j_k r)] (ST L p I J) = some (none, ST L p I' J) ∧ iF I' 55 n kd f ∧ I' 53 3 = j_k r ∧ iS I' (0, 0, 0, 0, 0) ∧ frB I I' := by
  obtain ⟨I1, t1, t2, t3⟩ := s_take (L := L) (p := p) (d := d) (J := J) fa_55 hc (Or.inr (by omega)) hi hn hn4
  have e := (r_56 (d + 1) (ST L p I J) 53 c (j_k r)).trans (t_56_0 _ _ _ _ _ _)
  have q := c_qa_54 (L := L) (p := p) (I := I) (J := J) (i := 0) (Kn := fun a2 => j_oc (ST L p I J) 0 a2 (j_c0 (j_run (d + 1)) 3 [.ref a2, .ref c] (ST L p I J) (fun τ3 => some (none, τ3)))) (by decide) (by decide)
  simp (disch := first | assumption | omega) only [k_add, k_sub, k_mul, k_lt, k_eq, k_lt0, k_0lt, k_eq0, k_nat, k_b0, k_b1, k_z1, k_z0, k_o1, k_o0, Int.reduceEq, Int.reduceLT, Int.reduceLE, Int.reduceAdd, Int.reduceMul, Int.reduceNeg, Bool.false_eq_true, or_true, true_or, or_false, false_or, and_true, true_and, and_false, false_and, not_true_eq_false, not_false_eq_true, ↓reduceIte, z_0, z_k, s_I, s_J, s_uI, s_uJ, c_gP_53_0, c_qa_54] at e
  rw [show 55 + 4 * (0 : Int).toNat = 55 from rfl] at e
  simp (disch := first | assumption | omega) only [k_add, k_sub, k_mul, k_lt, k_eq, k_lt0, k_0lt, k_eq0, k_nat, k_b0, k_b1, k_z1, k_z0, k_o1, k_o0, Int.reduceEq, Int.reduceLT, Int.reduceLE, Int.reduceAdd, Int.reduceMul, Int.reduceNeg, Bool.false_eq_true, or_true, true_or, or_false, false_or, and_true, true_and, and_false, false_and, not_true_eq_false, not_false_eq_true, ↓reduceIte, z_0, z_k, s_I, s_J, s_uI, s_uJ, f_oc, fa_55, jc0 t1, c_oc_53, c_lt_53] at e
  refine ⟨_, e, t2.cg (fun q a1 a2 => ?_), ?_, ⟨?_, ?_, ?_, ?_, ?_⟩, fun q a1 a2 => ?_, fun k hk => ?_⟩
  · funext i
    simp (disch := first | assumption | omega) only [k_add, k_sub, k_mul, k_lt, k_eq, k_lt0, k_0lt, k_eq0, k_nat, k_b0, k_b1, k_z1, k_z0, k_o1, k_o0, Int.reduceEq, Int.reduceLT, Int.reduceLE, Int.reduceAdd, Int.reduceMul, Int.reduceNeg, Bool.false_eq_true, or_true, true_or, or_false, false_or, and_true, true_and, and_false, false_and, not_true_eq_false, not_false_eq_true, ↓reduceIte, z_0, z_k, s_I, s_J, s_uI, s_uJ, u2_r]
  · simp (disch := first | assumption | omega) only [k_add, k_sub, k_mul, k_lt, k_eq, k_lt0, k_0lt, k_eq0, k_nat, k_b0, k_b1, k_z1, k_z0, k_o1, k_o0, Int.reduceEq, Int.reduceLT, Int.reduceLE, Int.reduceAdd, Int.reduceMul, Int.reduceNeg, Bool.false_eq_true, or_true, true_or, or_false, false_or, and_true, true_and, and_false, false_and, not_true_eq_false, not_false_eq_true, ↓reduceIte, z_0, z_k, s_I, s_J, s_uI, s_uJ, u2_ss, u2_k]
  · simp (disch := first | assumption | omega) only [k_add, k_sub, k_mul, k_lt, k_eq, k_lt0, k_0lt, k_eq0, k_nat, k_b0, k_b1, k_z1, k_z0, k_o1, k_o0, Int.reduceEq, Int.reduceLT, Int.reduceLE, Int.reduceAdd, Int.reduceMul, Int.reduceNeg, Bool.false_eq_true, or_true, true_or, or_false, false_or, and_true, true_and, and_false, false_and, not_true_eq_false, not_false_eq_true, ↓reduceIte, z_0, z_k, s_I, s_J, s_uI, s_uJ, u2_ss, u2_k]
  · simp (disch := first | assumption | omega) only [k_add, k_sub, k_mul, k_lt, k_eq, k_lt0, k_0lt, k_eq0, k_nat, k_b0, k_b1, k_z1, k_z0, k_o1, k_o0, Int.reduceEq, Int.reduceLT, Int.reduceLE, Int.reduceAdd, Int.reduceMul, Int.reduceNeg, Bool.false_eq_true, or_true, true_or, or_false, false_or, and_true, true_and, and_false, false_and, not_true_eq_false, not_false_eq_true, ↓reduceIte, z_0, z_k, s_I, s_J, s_uI, s_uJ, u2_ss, u2_k]
  · simp (disch := first | assumption | omega) only [k_add, k_sub, k_mul, k_lt, k_eq, k_lt0, k_0lt, k_eq0, k_nat, k_b0, k_b1, k_z1, k_z0, k_o1, k_o0, Int.reduceEq, Int.reduceLT, Int.reduceLE, Int.reduceAdd, Int.reduceMul, Int.reduceNeg, Bool.false_eq_true, or_true, true_or, or_false, false_or, and_true, true_and, and_false, false_and, not_true_eq_false, not_false_eq_true, ↓reduceIte, z_0, z_k, s_I, s_J, s_uI, s_uJ, u2_ss, u2_k]
  · simp (disch := first | assumption | omega) only [k_add, k_sub, k_mul, k_lt, k_eq, k_lt0, k_0lt, k_eq0, k_nat, k_b0, k_b1, k_z1, k_z0, k_o1, k_o0, Int.reduceEq, Int.reduceLT, Int.reduceLE, Int.reduceAdd, Int.reduceMul, Int.reduceNeg, Bool.false_eq_true, or_true, true_or, or_false, false_or, and_true, true_and, and_false, false_and, not_true_eq_false, not_false_eq_true, ↓reduceIte, z_0, z_k, s_I, s_J, s_uI, s_uJ, u2_ss, u2_k]
  · simp (disch := first | assumption | omega) only [k_add, k_sub, k_mul, k_lt, k_eq, k_lt0, k_0lt, k_eq0, k_nat, k_b0, k_b1, k_z1, k_z0, k_o1, k_o0, Int.reduceEq, Int.reduceLT, Int.reduceLE, Int.reduceAdd, Int.reduceMul, Int.reduceNeg, Bool.false_eq_true, or_true, true_or, or_false, false_or, and_true, true_and, and_false, false_and, not_true_eq_false, not_false_eq_true, ↓reduceIte, z_0, z_k, s_I, s_J, s_uI, s_uJ, u2_ss, u2_k]
  · refine Eq.trans ?_ (t3 q (by omega))
    funext i
    simp (disch := first | assumption | omega) only [k_add, k_sub, k_mul, k_lt, k_eq, k_lt0, k_0lt, k_eq0, k_nat, k_b0, k_b1, k_z1, k_z0, k_o1, k_o0, Int.reduceEq, Int.reduceLT, Int.reduceLE, Int.reduceAdd, Int.reduceMul, Int.reduceNeg, Bool.false_eq_true, or_true, true_or, or_false, false_or, and_true, true_and, and_false, false_and, not_true_eq_false, not_false_eq_true, ↓reduceIte, z_0, z_k, s_I, s_J, s_uI, s_uJ, u2_r]
  · rw [← t3 53 (by omega)]
    simp (disch := first | assumption | omega) only [k_add, k_sub, k_mul, k_lt, k_eq, k_lt0, k_0lt, k_eq0, k_nat, k_b0, k_b1, k_z1, k_z0, k_o1, k_o0, Int.reduceEq, Int.reduceLT, Int.reduceLE, Int.reduceAdd, Int.reduceMul, Int.reduceNeg, Bool.false_eq_true, or_true, true_or, or_false, false_or, and_true, true_and, and_false, false_and, not_true_eq_false, not_false_eq_true, ↓reduceIte, z_0, z_k, s_I, s_J, s_uI, s_uJ, u2_k]
/-- one round: all rows of r drives -/
theorem s_round {c : Nat} (hC : okC w h N n gr kd) (hc : FA c) (hc2 : c + 3 < 53) (hi : iF I c n kd f) (ho : okF N n b f) (hb : b ≤ 800000) (hG : iG I 27 w h N gr) (hT : iT I) (hW : iW I gr n want) {r : Nat} (hr : r ≤ 3) : ∃ I1 I2, j_run (d + 9) 56 [.ref 53, .ref c, .int (j_k (r : Int))] (ST L p I J) = some (none, ST L p I1 J) ∧ j_run (d + 9) 57 [.ref 53, .ref 27, .int (j_k 0), .int (j_k 0)] (ST L p I1 J) = some (none, ST L p I2 J) ∧ iS I2 (p_all (p_drive w h gr n kd) (4 * n).toNat want r f) ∧ frB I I2 := by
  have hn := hC.2.2.1
  have hn4 := hC.2.2.2.1
  obtain ⟨I1, t1, t2, t3, t4, t5⟩ := s_begin (L := L) (p := p) (d := d + 7) (J := J) hc hc2 hi hn hn4 (r := (r : Int))
  have hG1 : iG I1 27 w h N gr := hG.cg (fun q a1 a2 => t5.1 q (by omega) (by omega))
  have hT1 : iT I1 := hT.cg (t5.1 _ (by decide) (Or.inr (by decide))) (t5.1 _ (by decide) (Or.inr (by decide)))
  have hW1 : iW I1 gr n want := hW.cg (t5.2 2 (by decide)) (t5.1 71 (by decide) (Or.inr (by decide)))
  have hp : (0 : Int) + 16 ^ r ≤ 100000 := by
    rcases (show r = 0 ∨ r = 1 ∨ r = 2 ∨ r = 3 by omega) with rfl | rfl | rfl | rfl <;> decide
  obtain ⟨I2, u1, u2, u3⟩ := s_follow (L := L) (p := p) (d := d + (3 - r)) (J := J) hC r 0 r I1 f 0 (-9) 0 b (0, 0, 0, 0, 0) (Int.le_refl 0) (by omega) (by omega) t3 t2 ho (by omega) hG1 hT1 hW1 t4 ⟨Int.le_refl 0, Int.le_refl 0, Int.le_refl 0, Int.le_refl 0, by decide, Int.le_refl 0, by decide⟩ hp (Or.inl ⟨rfl, rfl⟩) (Int.le_refl 0) (by decide) (by decide)
  rw [show d + (3 - r) + 6 + r = d + 9 by omega] at u1
  exact ⟨I1, I2, t1, u1, u2, t5.tr (u3.B (by decide))⟩
theorem all_ok (hC : okC w h N n gr kd) {r : Nat} (hr : r ≤ 3) : okS 100000 (p_all (p_drive w h gr n kd) (4 * n).toNat want r f) := by
  have hn4 := hC.2.2.2.1
  have := lay_ok (drv := p_drive w h gr n kd) (m4 := (4 * n).toNat) (want := want) (by omega) r f 0 (-9) 0 (0, 0, 0, 0, 0) (Or.inl rfl) ⟨Int.le_refl 0, Int.le_refl 0, Int.le_refl 0, Int.le_refl 0, by decide, Int.le_refl 0, by decide⟩
  refine okS_le ?_ this
  rcases (show r = 0 ∨ r = 1 ∨ r = 2 ∨ r = 3 by omega) with rfl | rfl | rfl | rfl <;> decide
theorem s_fewL {c : Nat} (hC : okC w h N n gr kd) (hc : FA c) (hc2 : c + 3 < 53) (ho : okF N n b f) (hb : b ≤ 800000) {most : Int} (hm : most ≤ 3) : ∀ (t r M : Nat) (I : Nat → Nat → Int32), (r : Int) + t = most → t + 1 < M → iF I c n kd f → iG I 27 w h N gr → iT I → iW I gr n want →
    ∃ I', j_exec k_54 h_54 (j_run (d + 9)) M 3 [some (.ref 53), some (.ref 27), some (.ref c), some (.int (j_k most)), some (.int (j_k (r : Int)))] [] (ST L p I J) = some (some (.int (j_k (p_few (p_drive w h gr n kd) (4 * n).toNat want f t r).1)), ST L p I' J) ∧ iS I' (p_few (p_drive w h gr n kd) (4 * n).toNat want f t r).2 ∧ frB I I' := by
  intro t
  induction t with
  | zero =>
    intro r M I h1 hM hi hG hT hW
    obtain ⟨M, rfl⟩ : ∃ q, M = q + 2 := ⟨M - 2, by omega⟩
    have z : ¬ most < (r : Int) := by omega
    obtain ⟨I1, I2, e1, e2, e3, e4⟩ := s_round (L := L) (p := p) (d := d) (J := J) hC hc hc2 hi ho hb hG hT hW (show r ≤ 3 by omega)
    have hk := all_ok (want := want) (f := f) hC (show r ≤ 3 by omega)
    obtain ⟨k1, k2, k3, -⟩ := hk
    have e5 := e3.2.1
    rw [x_exec, t_54_3]
    unfold p_few
    by_cases hz : 0 < (p_all (p_drive w h gr n kd) (4 * n).toNat want r f).2.1
    · rw [if_pos hz]
      refine ⟨I2, ?_, e3, e4⟩
      simp (disch := first | assumption | omega) only [k_add, k_sub, k_mul, k_lt, k_eq, k_lt0, k_0lt, k_eq0, k_nat, k_b0, k_b1, k_z1, k_z0, k_o1, k_o0, Int.reduceEq, Int.reduceLT, Int.reduceLE, Int.reduceAdd, Int.reduceMul, Int.reduceNeg, Bool.false_eq_true, or_true, true_or, or_false, false_or, and_true, true_and, and_false, false_and, not_true_eq_false, not_false_eq_true, ↓reduceIte, z_0, z_k, s_I, s_J, s_uI, s_uJ, z, c_oc_53, jc0 e1, jc0 e2, e5, hz]
    · rw [if_neg hz]
      refine ⟨I2, ?_, e3, e4⟩
      have z2 : most < (r : Int) + 1 := by omega
      simp (disch := first | assumption | omega) only [k_add, k_sub, k_mul, k_lt, k_eq, k_lt0, k_0lt, k_eq0, k_nat, k_b0, k_b1, k_z1, k_z0, k_o1, k_o0, Int.reduceEq, Int.reduceLT, Int.reduceLE, Int.reduceAdd, Int.reduceMul, Int.reduceNeg, Bool.false_eq_true, or_true, true_or, or_false, false_or, and_true, true_and, and_false, false_and, not_true_eq_false, not_false_eq_true, ↓reduceIte, z_0, z_k, s_I, s_J, s_uI, s_uJ, z, c_oc_53, jc0 e1, jc0 e2, e5, hz]
      rw [x_exec, t_54_3]
      simp (disch := first | assumption | omega) only [k_add, k_sub, k_mul, k_lt, k_eq, k_lt0, k_0lt, k_eq0, k_nat, k_b0, k_b1, k_z1, k_z0, k_o1, k_o0, Int.reduceEq, Int.reduceLT, Int.reduceLE, Int.reduceAdd, Int.reduceMul, Int.reduceNeg, Bool.false_eq_true, or_true, true_or, or_false, false_or, and_true, true_and, and_false, false_and, not_true_eq_false, not_false_eq_true, ↓reduceIte, z_0, z_k, s_I, s_J, s_uI, s_uJ, z2]
  | succ t ih =>
    intro r M I h1 hM hi hG hT hW
    obtain ⟨M, rfl⟩ : ∃ q, M = q + 1 := ⟨M - 1, by omega⟩
    have z : ¬ most < (r : Int) := by omega
    obtain ⟨I1, I2, e1, e2, e3, e4⟩ := s_round (L := L) (p := p) (d := d) (J := J) hC hc hc2 hi ho hb hG hT hW (show r ≤ 3 by omega)
    have hk := all_ok (want := want) (f := f) hC (show r ≤ 3 by omega)
    obtain ⟨k1, k2, k3, -⟩ := hk
    have e5 := e3.2.1
    rw [x_exec, t_54_3]
    unfold p_few
    by_cases hz : 0 < (p_all (p_drive w h gr n kd) (4 * n).toNat want r f).2.1
    · rw [if_pos hz]
      refine ⟨I2, ?_, e3, e4⟩
      simp (disch := first | assumption | omega) only [k_add, k_sub, k_mul, k_lt, k_eq, k_lt0, k_0lt, k_eq0, k_nat, k_b0, k_b1, k_z1, k_z0, k_o1, k_o0, Int.reduceEq, Int.reduceLT, Int.reduceLE, Int.reduceAdd, Int.reduceMul, Int.reduceNeg, Bool.false_eq_true, or_true, true_or, or_false, false_or, and_true, true_and, and_false, false_and, not_true_eq_false, not_false_eq_true, ↓reduceIte, z_0, z_k, s_I, s_J, s_uI, s_uJ, z, c_oc_53, jc0 e1, jc0 e2, e5, hz]
    · rw [if_neg hz]
      obtain ⟨I3, u1, u2, u3⟩ := ih (r + 1) M I2 (by omega) (by omega) (hi.cg (fun q a1 a2 => e4.1 q (by omega) (by omega))) (hG.cg (fun q a1 a2 => e4.1 q (by omega) (by omega))) (hT.cg (e4.1 _ (by decide) (Or.inr (by decide))) (e4.1 _ (by decide) (Or.inr (by decide)))) (hW.cg (e4.2 2 (by decide)) (e4.1 71 (by decide) (Or.inr (by decide))))
      refine ⟨I3, ?_, u2, e4.tr u3⟩
      simp (disch := first | assumption | omega) only [k_add, k_sub, k_mul, k_lt, k_eq, k_lt0, k_0lt, k_eq0, k_nat, k_b0, k_b1, k_z1, k_z0, k_o1, k_o0, Int.reduceEq, Int.reduceLT, Int.reduceLE, Int.reduceAdd, Int.reduceMul, Int.reduceNeg, Bool.false_eq_true, or_true, true_or, or_false, false_or, and_true, true_and, and_false, false_and, not_true_eq_false, not_false_eq_true, ↓reduceIte, z_0, z_k, s_I, s_J, s_uI, s_uJ, z, c_oc_53, jc0 e1, jc0 e2, e5, hz]
      exact u1
theorem s_fewFrom {c : Nat} (hC : okC w h N n gr kd) (hc : FA c) (hc2 : c + 3 < 53) (hi : iF I c n kd f) (ho : okF N n b f) (hb : b ≤ 800000) (hG : iG I 27 w h N gr) (hT : iT I) (hW : iW I gr n want) {most : Nat} (hm : most ≤ 3) : ∃ I', j_run (d + 10) 54 [.ref 53, .ref 27, .ref c, .int (j_k (most : Int))] (ST L p I J) = some (some (.int (j_k (p_few (p_drive w h gr n kd) (4 * n).toNat want f most 0).1)), ST L p I' J) ∧ iS I' (p_few (p_drive w h gr n kd) (4 * n).toNat want f most 0).2 ∧ frB I I' := by
  rw [r_54, t_54_0]
  exact s_fewL hC hc hc2 ho hb (by omega) most 0 999999 I (by omega) (by omega) hi hG hT hW
theorem s_seekSafe : j_run (d + 1) 52 [.ref 53] (ST L p I J) = some (none, ST L p (u2 I 53 2 (j_k 1)) J) ∧ iW (u2 I 53 2 (j_k 1)) gr n (p_safe gr n) := by
  refine ⟨?_, Or.inl ⟨u2_ss _ _ _ _, rfl⟩⟩
  rw [r_52, t_52_0]
  simp (disch := first | assumption | omega) only [k_add, k_sub, k_mul, k_lt, k_eq, k_lt0, k_0lt, k_eq0, k_nat, k_b0, k_b1, k_z1, k_z0, k_o1, k_o0, Int.reduceEq, Int.reduceLT, Int.reduceLE, Int.reduceAdd, Int.reduceMul, Int.reduceNeg, Bool.false_eq_true, or_true, true_or, or_false, false_or, and_true, true_and, and_false, false_and, not_true_eq_false, not_false_eq_true, ↓reduceIte, z_0, z_k, s_I, s_J, s_uI, s_uJ, c_oc_53, c_lt_53]
theorem s_seekDawn {x : Nat} (hx : SH L x = some (.inr (.int, 60))) (hx2 : x < 53) (hn : 0 ≤ n) (hn4 : n ≤ 4) : ∃ I', j_run (d + 1) 53 [.ref 53, .ref x] (ST L p I J) = some (none, ST L p I' J) ∧ iW I' gr n (p_at n (fun k => I x k.toNat)) ∧ (∀ q, q ≠ 53 → q ≠ 71 → I' q = I q) := by
  refine ⟨u1 (u2 I 53 2 (j_k 0)) 71 (va_cpy (I x) (I 71) (0 : Int).toNat (0 : Int).toNat (4 : Int).toNat), ?_, Or.inr ⟨?_, ?_⟩, fun q a1 a2 => ?_⟩
  · rw [r_53, t_53_0]
    simp (disch := first | assumption | omega) only [k_add, k_sub, k_mul, k_lt, k_eq, k_lt0, k_0lt, k_eq0, k_nat, k_b0, k_b1, k_z1, k_z0, k_o1, k_o0, Int.reduceEq, Int.reduceLT, Int.reduceLE, Int.reduceAdd, Int.reduceMul, Int.reduceNeg, Bool.false_eq_true, or_true, true_or, or_false, false_or, and_true, true_and, and_false, false_and, not_true_eq_false, not_false_eq_true, ↓reduceIte, z_0, z_k, s_I, s_J, s_uI, s_uJ, c_oc_53, c_lt_53, c_gP_53_1]
    rw [q_ac (n0 := 60) (n1 := 4) hx rfl (by omega) (by decide) (by decide) (by decide) (by decide) (by decide) (by decide) (by decide) (by decide)]
    have e1 : u2 I 53 2 (j_k 0) x = I x := by funext i; simp (disch := first | assumption | omega) only [k_add, k_sub, k_mul, k_lt, k_eq, k_lt0, k_0lt, k_eq0, k_nat, k_b0, k_b1, k_z1, k_z0, k_o1, k_o0, Int.reduceEq, Int.reduceLT, Int.reduceLE, Int.reduceAdd, Int.reduceMul, Int.reduceNeg, Bool.false_eq_true, or_true, true_or, or_false, false_or, and_true, true_and, and_false, false_and, not_true_eq_false, not_false_eq_true, ↓reduceIte, z_0, z_k, s_I, s_J, s_uI, s_uJ, u2_r]
    have e2 : u2 I 53 2 (j_k 0) 71 = I 71 := by funext i; simp (disch := first | assumption | omega) only [k_add, k_sub, k_mul, k_lt, k_eq, k_lt0, k_0lt, k_eq0, k_nat, k_b0, k_b1, k_z1, k_z0, k_o1, k_o0, Int.reduceEq, Int.reduceLT, Int.reduceLE, Int.reduceAdd, Int.reduceMul, Int.reduceNeg, Bool.false_eq_true, or_true, true_or, or_false, false_or, and_true, true_and, and_false, false_and, not_true_eq_false, not_false_eq_true, ↓reduceIte, z_0, z_k, s_I, s_J, s_uI, s_uJ, u2_r]
    rw [e1, e2]
  · rw [u1_ne (by decide), u2_ss]
  · refine at_cg (fun j h1 h2 => ?_)
    show I x j.toNat = _
    rw [u1_same]
    unfold va_cpy
    rw [if_pos ⟨Nat.zero_le _, by show j.toNat < 0 + 4; omega⟩]
    have e : (0 : Int).toNat + (j.toNat - (0 : Int).toNat) = j.toNat := by simp
    rw [e]
  · rw [u1_ne a2]
    funext i
    simp (disch := first | assumption | omega) only [k_add, k_sub, k_mul, k_lt, k_eq, k_lt0, k_0lt, k_eq0, k_nat, k_b0, k_b1, k_z1, k_z0, k_o1, k_o0, Int.reduceEq, Int.reduceLT, Int.reduceLE, Int.reduceAdd, Int.reduceMul, Int.reduceNeg, Bool.false_eq_true, or_true, true_or, or_false, false_or, and_true, true_and, and_false, false_and, not_true_eq_false, not_false_eq_true, ↓reduceIte, z_0, z_k, s_I, s_J, s_uI, s_uJ, u2_r]
end SEARCHP
