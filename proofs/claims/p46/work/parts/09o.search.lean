/-! ===== the class's search: rows of drives gone through ===== -/
theorem code_nx {done code a fst : Int} (d1 : 0 ≤ done) (d2 : done ≤ 2) (c1 : 0 ≤ code) (c2 : code < 16 ^ done.toNat) (a1 : 0 ≤ a) (a2 : a < 16) (hfst : (done = 0 ∧ fst = -9) ∨ (1 ≤ done ∧ 0 ≤ fst ∧ fst < 16 ∧ code / 2 ^ (4 * (done - 1)).toNat = fst)) :
    0 ≤ 16 * code + a ∧ 16 * code + a < 16 ^ (done + 1).toNat ∧ 16 * code + a < 100000 ∧ ((done + 1 = 0 ∧ (if fst = -9 then a else fst) = -9) ∨ (1 ≤ done + 1 ∧ 0 ≤ (if fst = -9 then a else fst) ∧ (if fst = -9 then a else fst) < 16 ∧ (16 * code + a) / 2 ^ (4 * (done + 1 - 1)).toNat = (if fst = -9 then a else fst))) := by
  rcases (show done = 0 ∨ done = 1 ∨ done = 2 by omega) with rfl | rfl | rfl
  · rw [show (16 : Int) ^ (0 : Int).toNat = 1 by decide] at c2
    rw [show (16 : Int) ^ (0 + 1 : Int).toNat = 16 by decide, show (2 : Int) ^ (4 * ((0 : Int) + 1 - 1)).toNat = 1 by decide]
    have h := hfst.resolve_right (fun z => by omega)
    rw [if_pos h.2]
    omega
  · rw [show (16 : Int) ^ (1 : Int).toNat = 16 by decide] at c2
    rw [show (16 : Int) ^ (1 + 1 : Int).toNat = 256 by decide, show (2 : Int) ^ (4 * ((1 : Int) + 1 - 1)).toNat = 16 by decide]
    have h := hfst.resolve_left (fun z => by omega)
    rw [show (2 : Int) ^ (4 * ((1 : Int) - 1)).toNat = 1 by decide] at h
    rw [if_neg (by omega)]
    omega
  · rw [show (16 : Int) ^ (2 : Int).toNat = 256 by decide] at c2
    rw [show (16 : Int) ^ (2 + 1 : Int).toNat = 4096 by decide, show (2 : Int) ^ (4 * ((2 : Int) + 1 - 1)).toNat = 256 by decide]
    have h := hfst.resolve_left (fun z => by omega)
    rw [show (2 : Int) ^ (4 * ((2 : Int) - 1)).toNat = 16 by decide] at h
    rw [if_neg (by omega)]
    omega
section SEARCHF
variable {L p d : Nat} {J : Nat → Nat → Int64} {n w h N : Int} {kd gr : Fl} {want : Fl → Bool}
theorem s_follow (hC : okC w h N n gr kd) : ∀ (r : Nat) (done len : Int) (I : Nat → Nat → Int32) (f : Fl) (code fst B b : Int) (s : Sc), 0 ≤ done → done + r = len → len ≤ 3 → I 53 3 = j_k len → iF I (bA done) n kd f → okF N n b f → b + 40 * (r + 1) ≤ 900000 → iG I 27 w h N gr → iT I → iW I gr n want → iS I s → okS B s → B + 16 ^ r ≤ 100000 →
    ((done = 0 ∧ fst = -9) ∨ (1 ≤ done ∧ 0 ≤ fst ∧ fst < 16 ∧ code / 2 ^ (4 * (done - 1)).toNat = fst)) → 0 ≤ code → code < 16 ^ done.toNat → code < 100000 →
    ∃ I', j_run (d + 6 + r) 57 [.ref 53, .ref 27, .int (j_k done), .int (j_k code)] (ST L p I J) = some (none, ST L p I' J) ∧ iS I' (p_lay (p_drive w h gr n kd) (4 * n).toNat want r f code fst s) ∧ frS (bA (done + 1)) I I' := by
  have hn := hC.2.2.1
  have hn4 := hC.2.2.2.1
  intro r
  induction r with
  | zero =>
    intro done len I f code fst B b s d1 d2 d3 hlen hi ho hb hG hT hW hs hB hB2 hfst c1 c2 c3
    have z : ¬ done < len := by omega
    have hB3 : B ≤ 100000 := by
      have : B + 16 ^ 0 ≤ 100000 := hB2
      rw [Int.pow_zero] at this
      omega
    obtain ⟨I', e1, e2, e3⟩ := s_note (L := L) (p := p) (d := d + 3) (J := J) hC d1 (by omega) hi ho hG hW hs hB hB3 hfst c1 c3
    refine ⟨I', ?_, e2, e3.le ?_⟩
    · rw [show d + 6 + 0 = (d + 5) + 1 by omega, r_57, t_57_0]
      simp (disch := first | assumption | omega) only [k_add, k_sub, k_mul, k_lt, k_eq, k_lt0, k_0lt, k_eq0, k_nat, k_b0, k_b1, k_z1, k_z0, k_o1, k_o0, Int.reduceEq, Int.reduceLT, Int.reduceLE, Int.reduceAdd, Int.reduceMul, Int.reduceNeg, Bool.false_eq_true, or_true, true_or, or_false, false_or, and_true, true_and, and_false, false_and, not_true_eq_false, not_false_eq_true, ↓reduceIte, z_0, z_k, s_I, s_J, s_uI, s_uJ, c_oc_53, hlen, z, jc0 e1]
    · have : bA (done + 1) = 55 + 4 * (done + 1).toNat := rfl
      omega
  | succ r ih =>
    intro done len I f code fst B b s d1 d2 d3 hlen hi ho hb hG hT hW hs hB hB2 hfst c1 c2 c3
    have z : done < len := by omega
    have z3 : done < 3 := by omega
    have hA := fa_b d1 (show done < 4 by omega)
    have hA1 := fa_b (show 0 ≤ done + 1 by omega) (show done + 1 < 4 by omega)
    have hb0 : bA done = 55 + 4 * done.toNat := rfl
    have hb1 : bA (done + 1) = bA done + 4 := by
      show 55 + 4 * (done + 1).toNat = 55 + 4 * done.toNat + 4
      omega
    have hbl : bA (done + 1) + 4 ≤ 71 := by omega
    have hp16 : 0 < (16 : Int) ^ r := Int.pow_pos (by decide)
    have loop : ∀ (m M : Nat) (a : Int) (I1 : Nat → Nat → Int32) (B1 : Int) (s1 : Sc), 0 ≤ a → a + m = 4 * n → m < M → frS (bA (done + 1)) I I1 → iS I1 s1 → okS B1 s1 → B1 + m * 16 ^ r ≤ 100000 →
        ∃ I', j_exec k_57 h_57 (j_run (d + 6 + r)) M 34 [some (.ref 53), some (.ref 27), some (.int (j_k done)), some (.int (j_k code)), some (.ref (bA (done + 1))), some (.int (j_k a))] [] (ST L p I1 J) = some (none, ST L p I' J) ∧ iS I' (p_loop (fun a s => match p_drive w h gr n kd f a with
          | none => s
          | some f' => p_lay (p_drive w h gr n kd) (4 * n).toNat want r f' (16 * code + a) (if fst = -9 then a else fst) s) m a s1) ∧ frS (bA (done + 1)) I1 I' := by
      intro m
      induction m with
      | zero =>
        intro M a I1 B1 s1 a1 a2 hM hf1 hs1 hB1 hBB
        obtain ⟨M, rfl⟩ : ∃ q, M = q + 1 := ⟨M - 1, by omega⟩
        have zz : ¬ a < 4 * n := by omega
        have hi1 : iF I1 (bA done) n kd f := hi.cg (fun r' x1 x2 => hf1.1 r' (by omega) (by omega))
        have q1 := s_drives (L := L) (p := p) (d := d + 5 + r) (J := J) hA hi1
        refine ⟨I1, ?_, hs1, frS.rf⟩
        rw [x_exec, t_57_34]
        rw [show d + 5 + r + 1 = d + 6 + r by omega] at q1
        simp (disch := first | assumption | omega) only [k_add, k_sub, k_mul, k_lt, k_eq, k_lt0, k_0lt, k_eq0, k_nat, k_b0, k_b1, k_z1, k_z0, k_o1, k_o0, Int.reduceEq, Int.reduceLT, Int.reduceLE, Int.reduceAdd, Int.reduceMul, Int.reduceNeg, Bool.false_eq_true, or_true, true_or, or_false, false_or, and_true, true_and, and_false, false_and, not_true_eq_false, not_false_eq_true, ↓reduceIte, z_0, z_k, s_I, s_J, s_uI, s_uJ, c_gP_53_0, c_qa_54, f_oc, jc1 q1, zz]
      | succ m ihm =>
        intro M a I1 B1 s1 a1 a2 hM hf1 hs1 hB1 hBB
        obtain ⟨M, rfl⟩ : ∃ q, M = q + 1 := ⟨M - 1, by omega⟩
        have zz : a < 4 * n := by omega
        have zd : done < 4 := by omega
        have hi1 : iF I1 (bA done) n kd f := hi.cg (fun r' x1 x2 => hf1.1 r' (by omega) (by omega))
        have hG1 : iG I1 27 w h N gr := hG.cg (fun r' x1 x2 => hf1.1 r' (by omega) (by omega))
        have hT1 : iT I1 := hT.cg (hf1.1 _ (by decide) (Or.inr (by decide))) (hf1.1 _ (by decide) (Or.inr (by decide)))
        have hW1 : iW I1 gr n want := hW.cg (hf1.2 2 (by decide)) (hf1.1 71 (by decide) (Or.inr (by decide)))
        have hlen1 : I1 53 3 = j_k len := by rw [hf1.2 3 (by decide), hlen]
        have q1 := s_drives (L := L) (p := p) (d := d + 5 + r) (J := J) hA hi1
        rw [show d + 5 + r + 1 = d + 6 + r by omega] at q1
        obtain ⟨I2, t1, t2, t3⟩ := s_take (L := L) (p := p) (d := d + 5 + r) (J := J) hA1 hA (Or.inr (by omega)) hi1 hn hn4
        rw [show d + 5 + r + 1 = d + 6 + r by omega] at t1
        obtain ⟨I3, v1, v2, v3⟩ := s_driveBy (L := L) (p := p) (d := d + 1 + r) (J := J) hA1 ga_27 t2 (hG1.fr hA1 ga_27 t3) (hT1.fr hA1 t3) hC ho (by omega) a1 zz
        rw [show d + 1 + r + 5 = d + 6 + r by omega] at v1
        have h13 : frS (bA (done + 1)) I1 I3 := frS.of (by omega) (Nat.le_refl _) hbl (t3.tr v3)
        have hs3 : iS I3 s1 := by
          unfold iS
          rw [v3 53 (by omega), t3 53 (by omega)]
          exact hs1
        have hBm : B1 + 16 ^ r + m * 16 ^ r ≤ 100000 := by
          rw [Int.natCast_add, Int.add_mul] at hBB
          omega
        rw [x_exec, t_57_34, p_loopS]
        cases hd : p_drive w h gr n kd f a with
        | none =>
          rw [hd] at v1 v2
          obtain ⟨I4, w1, w2, w3⟩ := ihm M (a + 1) I3 B1 s1 (by omega) (by omega) (by omega) (hf1.tr h13) hs3 hB1 (by omega)
          refine ⟨I4, ?_, w2, h13.tr w3⟩
          simp (disch := first | assumption | omega) only [k_add, k_sub, k_mul, k_lt, k_eq, k_lt0, k_0lt, k_eq0, k_nat, k_b0, k_b1, k_z1, k_z0, k_o1, k_o0, Int.reduceEq, Int.reduceLT, Int.reduceLE, Int.reduceAdd, Int.reduceMul, Int.reduceNeg, Bool.false_eq_true, or_true, true_or, or_false, false_or, and_true, true_and, and_false, false_and, not_true_eq_false, not_false_eq_true, ↓reduceIte, z_0, z_k, s_I, s_J, s_uI, s_uJ, c_gP_53_0, c_qa_54, f_oc, jc1 q1, zz, jc0 t1, jc1 v1, Option.isSome_none]
          exact w1
        | some f' =>
          rw [hd] at v1 v2
          have ho' := drive_ok hC ho a1 zz hd
          obtain ⟨n1, n2, n3, n4⟩ := code_nx d1 (by omega) c1 c2 a1 (show a < 16 by omega) hfst
          obtain ⟨I4, w1, w2, w3⟩ := ih (done + 1) len I3 f' (16 * code + a) (if fst = -9 then a else fst) B1 (b + 40) s1 (by omega) (by omega) d3 (by rw [v3 53 (by omega), t3 53 (by omega)]; exact hlen1) v2 ho' (by omega) ((hG1.fr hA1 ga_27 t3).fr hA1 ga_27 v3) ((hT1.fr hA1 t3).fr hA1 v3) (hW1.cg (by rw [v3 53 (by omega), t3 53 (by omega)]) (by rw [v3 71 (by omega), t3 71 (by omega)])) hs3 hB1 (by have := Int.mul_nonneg (show (0 : Int) ≤ m by omega) (show 0 ≤ (16 : Int) ^ r by omega); omega) n4 n1 n2 n3
          have h34 : frS (bA (done + 1)) I3 I4 := w3.le (by
            show bA (done + 1) ≤ 55 + 4 * (done + 1 + 1).toNat
            omega)
          have hok := lay_ok (drv := p_drive w h gr n kd) (m4 := (4 * n).toNat) (want := want) (by omega) r f' (16 * code + a) (if fst = -9 then a else fst) B1 s1 (by split <;> omega) hB1
          obtain ⟨I5, u1, u2, u3⟩ := ihm M (a + 1) I4 (B1 + 16 ^ r) _ (by omega) (by omega) (by omega) ((hf1.tr h13).tr h34) w2 hok hBm
          refine ⟨I5, ?_, u2, (h13.tr h34).tr u3⟩
          simp (disch := first | assumption | omega) only [k_add, k_sub, k_mul, k_lt, k_eq, k_lt0, k_0lt, k_eq0, k_nat, k_b0, k_b1, k_z1, k_z0, k_o1, k_o0, Int.reduceEq, Int.reduceLT, Int.reduceLE, Int.reduceAdd, Int.reduceMul, Int.reduceNeg, Bool.false_eq_true, or_true, true_or, or_false, false_or, and_true, true_and, and_false, false_and, not_true_eq_false, not_false_eq_true, ↓reduceIte, z_0, z_k, s_I, s_J, s_uI, s_uJ, c_gP_53_0, c_qa_54, f_oc, jc1 q1, zz, jc0 t1, jc1 v1, Option.isSome_some, k_app, jc0 w1]
          exact u1
    have hm4 : ((4 * n).toNat : Int) * 16 ^ r ≤ 16 ^ (r + 1) := by
      rw [Int.pow_succ, Int.mul_comm (16 ^ r)]
      exact Int.mul_le_mul_of_nonneg_right (by omega) (by omega)
    obtain ⟨I', e1, e2, e3⟩ := loop (4 * n).toNat 999999 0 I B s (Int.le_refl 0) (by omega) (by omega) frS.rf hs hB (by omega)
    refine ⟨I', ?_, e2, e3⟩
    rw [show d + 6 + (r + 1) = (d + 6 + r) + 1 by omega, r_57, t_57_0]
    simp (disch := first | assumption | omega) only [k_add, k_sub, k_mul, k_lt, k_eq, k_lt0, k_0lt, k_eq0, k_nat, k_b0, k_b1, k_z1, k_z0, k_o1, k_o0, Int.reduceEq, Int.reduceLT, Int.reduceLE, Int.reduceAdd, Int.reduceMul, Int.reduceNeg, Bool.false_eq_true, or_true, true_or, or_false, false_or, and_true, true_and, and_false, false_and, not_true_eq_false, not_false_eq_true, ↓reduceIte, z_0, z_k, s_I, s_J, s_uI, s_uJ, c_oc_53, hlen, z, z3, c_gP_53_0, c_qa_54]
    exact e1
end SEARCHF
