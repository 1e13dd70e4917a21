/-! ===== the class's flocks: steps, runs, drives ===== -/
section FLOCKS
variable {L p a g d : Nat} {I : Nat → Nat → Int32} {J : Nat → Nat → Int64} {n w h N b : Int} {kd f gr : Fl}
theorem one_two {k across down : Int} {gate away sw : Bool} : p_two w h gr n kd f k ((if away = true then -1 else 1) * p_sgn across) ((if away = true then -1 else 1) * p_sgn down) gate sw = if p_one w h gr n kd f k across down gate away sw = -9 then p_one w h gr n kd f k across down gate away (!sw) else p_one w h gr n kd f k across down gate away sw := by
  have hz : ∀ x : Int, ((if away = true then (-1 : Int) else 1) * p_sgn x = 0) = (x = 0) := by
    intro x
    unfold p_sgn
    cases away <;> by_cases h1 : x < 0 <;> by_cases h2 : 0 < x <;> simp [h1, h2] <;> omega
  unfold p_two p_one
  generalize hA : p_try gr n kd f k (p_by w h (f (5 + k)) ((if away = true then -1 else 1) * p_sgn across) 0) gate = A
  generalize hB : p_try gr n kd f k (p_by w h (f (5 + k)) 0 ((if away = true then -1 else 1) * p_sgn down)) gate = B
  simp only [hz, ne_eq]
  cases sw <;> by_cases z1 : across = 0 <;> by_cases z2 : down = 0 <;> by_cases z3 : A = -9 <;> by_cases z4 : B = -9 <;> simp [z1, z2, z3, z4]
theorem s_tail (hF : FA a) (hg : GA g) (hi : iF I a n kd f) (hG : iG I g w h N gr) (hT : iT I) (hC : okC w h N n gr kd) (ho : okF N n b f) {k aim across down : Int} {gate away : Bool} {x8 : Int32} (h1 : 0 ≤ k) (h2 : k < n) (hl : f (5 + k) ≠ -9) (a1 : -100 ≤ across) (a2 : across ≤ 100) (a3 : -100 ≤ down) (a4 : down ≤ 100) (M : Nat) :
    j_exec k_27 h_27 (j_run (d + 1)) (M + 20) 112 [some (.ref a), some (.ref g), some (.int (j_k k)), some (.int (j_z (gate = true))), some (.int (j_k aim)), some (.int (j_k (f (5 + k)))), some (.int (j_k across)), some (.int (j_k down)), some (.int x8), some (.int (j_z (away = true))), none, none, none, none, none, none] [] (ST L p I J) = some (some (.int (j_k (p_two w h gr n kd f k ((if away = true then -1 else 1) * p_sgn across) ((if away = true then -1 else 1) * p_sgn down) gate (decide (p_abs down ≤ p_abs across))))), ST L p I J) := by
  have st : j_exec k_27 h_27 (j_run (d + 1)) (M + 20) 112 [some (.ref a), some (.ref g), some (.int (j_k k)), some (.int (j_z (gate = true))), some (.int (j_k aim)), some (.int (j_k (f (5 + k)))), some (.int (j_k across)), some (.int (j_k down)), some (.int x8), some (.int (j_z (away = true))), none, none, none, none, none, none] [] (ST L p I J) = j_exec k_27 h_27 (j_run (d + 1)) (M + 18) 135 (tl a g k aim (f (5 + k)) across down (j_z (gate = true)) x8 away (decide (p_abs down ≤ p_abs across)) 0) [] (ST L p I J) := by
    have b1 : 0 ≤ p_abs across ∧ p_abs across ≤ 100 := by unfold p_abs; split <;> omega
    have b2 : 0 ≤ p_abs down ∧ p_abs down ≤ 100 := by unfold p_abs; split <;> omega
    rw [x_exec, t_27_112, k_abs (by omega) (by omega), k_abs (by omega) (by omega)]
    show (if j_k (p_abs across) < j_k (p_abs down) then _ else _) = _
    by_cases hz : p_abs across < p_abs down
    · rw [if_pos (by rw [k_lt (by omega) (by omega) (by omega) (by omega)]; exact hz), x_exec, t_27_132, decide_eq_false (by omega)]
      rfl
    · rw [if_neg (by rw [k_lt (by omega) (by omega) (by omega) (by omega)]; exact hz), x_exec, t_27_132, decide_eq_true (by omega)]
      rfl
  rw [st, one_two]
  generalize decide (p_abs down ≤ p_abs across) = sw
  have T := s_turn (L := L) (p := p) (d := d) (J := J) (aim := aim) (gate := gate) (away := away) (sw := sw) (x8 := x8) (t := 0) hF hg hi hG hT hC ho h1 h2 hl a1 a2 a3 a4 (Int.le_refl 0) (by decide) (M + 12)
  by_cases hp : p_one w h gr n kd f k across down gate away sw = -9
  · obtain ⟨M1, hM, e1⟩ := T.2 hp
    obtain ⟨M2, rfl⟩ : ∃ q, M1 = q + 6 := ⟨M1 - 6, by omega⟩
    rw [e1, if_pos hp]
    have T2 := s_turn (L := L) (p := p) (d := d) (J := J) (aim := aim) (gate := gate) (away := away) (sw := !sw) (x8 := x8) (t := 0 + 1) hF hg hi hG hT hC ho h1 h2 hl a1 a2 a3 a4 (by decide) (by decide) M2
    by_cases hp2 : p_one w h gr n kd f k across down gate away (!sw) = -9
    · obtain ⟨M3, hM3, e2⟩ := T2.2 hp2
      obtain ⟨M4, rfl⟩ : ∃ q, M3 = q + 1 := ⟨M3 - 1, by omega⟩
      rw [e2, hp2, x_exec, t_27_135]
      rfl
    · exact T2.1 hp2
  · rw [if_neg hp]
    exact T.1 hp
theorem s_nextCell (hF : FA a) (hg : GA g) (hi : iF I a n kd f) (hG : iG I g w h N gr) (hT : iT I) (hC : okC w h N n gr kd) (ho : okF N n b f) {k : Int} {gate : Bool} (h1 : 0 ≤ k) (h2 : k < n) (hl : f (5 + k) ≠ -9) : j_run (d + 2) 27 [.ref a, .ref g, .int (j_k k), .int (j_z (gate = true))] (ST L p I J) = some (some (.int (j_k (p_next w h gr n kd f k (p_aim kd f k) gate))), ST L p I J) := by
  have hi0 := hi
  have hG0 := hG
  obtain ⟨e3, e4, e5, e6, e7, e8, ek, ec, eg, ef⟩ := hi
  obtain ⟨g3, g4, g5, g1, g2, g6⟩ := hG
  obtain ⟨b1, b2, -⟩ := bd_N hC
  have hn4 := hC.2.2.2.1
  have hk := (ho.1 k h1 h2).resolve_left hl
  have hkd := hC.2.2.2.2.2 k h1 h2
  have q1 := s_aimOf (L := L) (p := p) (d := d) (J := J) hF hi0 hn4 hC ho (by omega) h1 h2
  have q2 := s_isShy (L := L) (p := p) (d := d) (J := J) hF hi0 hn4 hC h1 h2
  have har := aim_rg (kd := kd) ho k
  generalize p_aim kd f k = aim at q1 har
  rw [r_27, t_27_0]
  by_cases ha : aim = -9
  · subst ha
    simp (disch := first | assumption | omega) only [k_add, k_sub, k_mul, k_lt, k_eq, k_lt0, k_0lt, k_eq0, k_nat, k_b0, k_b1, k_z1, k_z0, k_o1, k_o0, Int.reduceEq, Int.reduceLT, Int.reduceLE, Int.reduceAdd, Int.reduceMul, Int.reduceNeg, Bool.false_eq_true, or_true, true_or, or_false, false_or, and_true, true_and, and_false, false_and, not_true_eq_false, not_false_eq_true, ↓reduceIte, z_0, z_k, s_I, s_J, s_uI, s_uJ, f_oc, f_gP0, f_gP1, f_gP2, f_ia0, f_ia1, f_ia2, f_is0, f_is1, f_is2, f_lt, jc1 q1]
    rfl
  · have ha2 := har.resolve_left ha
    obtain ⟨x1, x2, x3, x4, -, x5, x6, x7, x8, -⟩ := bd_xy hC ha2.1 ha2.2
    obtain ⟨y1, y2, y3, y4, -⟩ := bd_xy hC hk.1 hk.2
    have hoff : ((if 0 ≤ aim % w - f (5 + k) % w then aim % w - f (5 + k) % w else -(aim % w - f (5 + k) % w)) + (if 0 ≤ aim / w - f (5 + k) / w then aim / w - f (5 + k) / w else -(aim / w - f (5 + k) / w))) = p_off w aim (f (5 + k)) := rfl
    have ho2 := off_rg hC ha2.1 ha2.2 hk.1 hk.2
    have TL := fun x8 => s_tail (L := L) (p := p) (d := d) (J := J) (aim := aim) (across := aim % w - f (5 + k) % w) (down := aim / w - f (5 + k) / w) (gate := gate) (away := p_shy kd k) (x8 := x8) hF hg hi0 hG0 hT hC ho h1 h2 hl (by omega) (by omega) (by omega) (by omega) 999979
    unfold p_next
    rw [if_neg ha]
    cases hs : p_shy kd k
    · rw [hs] at q2 TL
      rw [z_f] at q2
      simp (disch := first | assumption | omega) only [k_add, k_sub, k_mul, k_lt, k_eq, k_lt0, k_0lt, k_eq0, k_nat, k_b0, k_b1, k_z1, k_z0, k_o1, k_o0, Int.reduceEq, Int.reduceLT, Int.reduceLE, Int.reduceAdd, Int.reduceMul, Int.reduceNeg, Bool.false_eq_true, or_true, true_or, or_false, false_or, and_true, true_and, and_false, false_and, not_true_eq_false, not_false_eq_true, ↓reduceIte, z_0, z_k, s_I, s_J, s_uI, s_uJ, f_oc, f_gP0, f_gP1, f_gP2, f_ia0, f_ia1, f_ia2, f_is0, f_is1, f_is2, f_lt, g_oc, g_gP0, g_gP1, g_gP2, g_ia0, g_ia1, g_ia2, g_is0, g_is1, g_is2, g_lt, jc1 q1, jc1 q2, ec, g2, g6, k_abs, hoff, ek, ha]
      rw [z_f] at TL
      by_cases hf : p_off w aim (f (5 + k)) ≤ 1
      · rw [if_neg (by omega), if_pos hf]
      · rw [if_pos (by omega), if_neg hf]
        exact TL _
    · rw [hs] at q2 TL
      rw [z_t] at q2
      simp (disch := first | assumption | omega) only [k_add, k_sub, k_mul, k_lt, k_eq, k_lt0, k_0lt, k_eq0, k_nat, k_b0, k_b1, k_z1, k_z0, k_o1, k_o0, Int.reduceEq, Int.reduceLT, Int.reduceLE, Int.reduceAdd, Int.reduceMul, Int.reduceNeg, Bool.false_eq_true, or_true, true_or, or_false, false_or, and_true, true_and, and_false, false_and, not_true_eq_false, not_false_eq_true, ↓reduceIte, z_0, z_k, s_I, s_J, s_uI, s_uJ, f_oc, f_gP0, f_gP1, f_gP2, f_ia0, f_ia1, f_ia2, f_is0, f_is1, f_is2, f_lt, g_oc, g_gP0, g_gP1, g_gP2, g_ia0, g_ia1, g_ia2, g_is0, g_is1, g_is2, g_lt, jc1 q1, jc1 q2, ec, g2, g6, k_abs, hoff, ek, ha]
      rw [z_t] at TL
      by_cases hf : kd k = 5
      · by_cases hf2 : 3 ≤ p_off w aim (f (5 + k))
        · simp only [hf, true_and, if_true]
          rw [if_neg (by omega), if_pos (Or.inl hf2)]
        · simp only [hf, true_and, if_true]
          rw [if_pos (by omega), if_neg (fun z => z.elim hf2 (fun y => by cases y.1))]
          exact TL _
      · simp only [hf, false_and, if_false]
        exact TL _
theorem iF_set0 (hi : iF I a n kd f) {v : Int} : iF (u2 I a 8 (j_k v)) a n kd (p_set f 0 v) := by
  obtain ⟨e3, e4, e5, e6, e7, e8, ek, ec, eg, ef⟩ := hi
  refine ⟨?_, ?_, ?_, ?_, ?_, ?_, fun j h1 h2 => ?_, fun j h1 h2 => ?_, fun j h1 h2 => ?_, fun c h1 h2 => ?_⟩
  · simp (disch := first | assumption | omega) only [k_add, k_sub, k_mul, k_lt, k_eq, k_lt0, k_0lt, k_eq0, k_nat, k_b0, k_b1, k_z1, k_z0, k_o1, k_o0, Int.reduceEq, Int.reduceLT, Int.reduceLE, Int.reduceAdd, Int.reduceMul, Int.reduceNeg, Bool.false_eq_true, or_true, true_or, or_false, false_or, and_true, true_and, and_false, false_and, not_true_eq_false, not_false_eq_true, ↓reduceIte, z_0, z_k, s_I, s_J, s_uI, s_uJ, u2_k, e3]
  · simp (disch := first | assumption | omega) only [k_add, k_sub, k_mul, k_lt, k_eq, k_lt0, k_0lt, k_eq0, k_nat, k_b0, k_b1, k_z1, k_z0, k_o1, k_o0, Int.reduceEq, Int.reduceLT, Int.reduceLE, Int.reduceAdd, Int.reduceMul, Int.reduceNeg, Bool.false_eq_true, or_true, true_or, or_false, false_or, and_true, true_and, and_false, false_and, not_true_eq_false, not_false_eq_true, ↓reduceIte, z_0, z_k, s_I, s_J, s_uI, s_uJ, u2_k, e4, set0_hi]
  · simp (disch := first | assumption | omega) only [k_add, k_sub, k_mul, k_lt, k_eq, k_lt0, k_0lt, k_eq0, k_nat, k_b0, k_b1, k_z1, k_z0, k_o1, k_o0, Int.reduceEq, Int.reduceLT, Int.reduceLE, Int.reduceAdd, Int.reduceMul, Int.reduceNeg, Bool.false_eq_true, or_true, true_or, or_false, false_or, and_true, true_and, and_false, false_and, not_true_eq_false, not_false_eq_true, ↓reduceIte, z_0, z_k, s_I, s_J, s_uI, s_uJ, u2_k, e5, set0_hi]
  · simp (disch := first | assumption | omega) only [k_add, k_sub, k_mul, k_lt, k_eq, k_lt0, k_0lt, k_eq0, k_nat, k_b0, k_b1, k_z1, k_z0, k_o1, k_o0, Int.reduceEq, Int.reduceLT, Int.reduceLE, Int.reduceAdd, Int.reduceMul, Int.reduceNeg, Bool.false_eq_true, or_true, true_or, or_false, false_or, and_true, true_and, and_false, false_and, not_true_eq_false, not_false_eq_true, ↓reduceIte, z_0, z_k, s_I, s_J, s_uI, s_uJ, u2_k, e6, set0_hi]
  · simp (disch := first | assumption | omega) only [k_add, k_sub, k_mul, k_lt, k_eq, k_lt0, k_0lt, k_eq0, k_nat, k_b0, k_b1, k_z1, k_z0, k_o1, k_o0, Int.reduceEq, Int.reduceLT, Int.reduceLE, Int.reduceAdd, Int.reduceMul, Int.reduceNeg, Bool.false_eq_true, or_true, true_or, or_false, false_or, and_true, true_and, and_false, false_and, not_true_eq_false, not_false_eq_true, ↓reduceIte, z_0, z_k, s_I, s_J, s_uI, s_uJ, u2_k, e7, set0_hi]
  · simp (disch := first | assumption | omega) only [k_add, k_sub, k_mul, k_lt, k_eq, k_lt0, k_0lt, k_eq0, k_nat, k_b0, k_b1, k_z1, k_z0, k_o1, k_o0, Int.reduceEq, Int.reduceLT, Int.reduceLE, Int.reduceAdd, Int.reduceMul, Int.reduceNeg, Bool.false_eq_true, or_true, true_or, or_false, false_or, and_true, true_and, and_false, false_and, not_true_eq_false, not_false_eq_true, ↓reduceIte, z_0, z_k, s_I, s_J, s_uI, s_uJ, u2_ss, set0_0]
  · simp (disch := first | assumption | omega) only [k_add, k_sub, k_mul, k_lt, k_eq, k_lt0, k_0lt, k_eq0, k_nat, k_b0, k_b1, k_z1, k_z0, k_o1, k_o0, Int.reduceEq, Int.reduceLT, Int.reduceLE, Int.reduceAdd, Int.reduceMul, Int.reduceNeg, Bool.false_eq_true, or_true, true_or, or_false, false_or, and_true, true_and, and_false, false_and, not_true_eq_false, not_false_eq_true, ↓reduceIte, z_0, z_k, s_I, s_J, s_uI, s_uJ, u2_r, ek]
  · simp (disch := first | assumption | omega) only [k_add, k_sub, k_mul, k_lt, k_eq, k_lt0, k_0lt, k_eq0, k_nat, k_b0, k_b1, k_z1, k_z0, k_o1, k_o0, Int.reduceEq, Int.reduceLT, Int.reduceLE, Int.reduceAdd, Int.reduceMul, Int.reduceNeg, Bool.false_eq_true, or_true, true_or, or_false, false_or, and_true, true_and, and_false, false_and, not_true_eq_false, not_false_eq_true, ↓reduceIte, z_0, z_k, s_I, s_J, s_uI, s_uJ, u2_r, ec, set0_hi]
  · simp (disch := first | assumption | omega) only [k_add, k_sub, k_mul, k_lt, k_eq, k_lt0, k_0lt, k_eq0, k_nat, k_b0, k_b1, k_z1, k_z0, k_o1, k_o0, Int.reduceEq, Int.reduceLT, Int.reduceLE, Int.reduceAdd, Int.reduceMul, Int.reduceNeg, Bool.false_eq_true, or_true, true_or, or_false, false_or, and_true, true_and, and_false, false_and, not_true_eq_false, not_false_eq_true, ↓reduceIte, z_0, z_k, s_I, s_J, s_uI, s_uJ, u2_r, eg, set0_hi]
  · rw [u2_k (by decide), ef c h1 h2]
    refine exists_congr fun j => ?_
    by_cases hj : 0 ≤ j
    · rw [set0_hi (by omega)]
    · simp [hj]
theorem s_stepL (hF : FA a) (hg : GA g) (hC : okC w h N n gr kd) (hb : b ≤ 1000000) {f0 : Fl} : ∀ (m M : Nat) (k : Int) (s : Ss) (I : Nat → Nat → Int32), 0 ≤ k → k + m = n → m < M → inS N n b f0 k s → iF I a n kd s.1 → iG I g w h N gr → iT I →
    ∃ I', j_exec k_26 h_26 (j_run (d + 2)) M 15 [some (.ref a), some (.ref g), some (.int (j_k s.2.1)), some (.int (j_k s.2.2.1)), some (.int (j_k s.2.2.2.1)), some (.int (j_z (s.2.2.2.2 = true))), some (.int (j_k k)), none] [] (ST L p I J) = some (some (.int (j_k (p_loop (p_stepB w h gr n kd f0) m k s).2.1)), ST L p I' J) ∧ iF I' a n kd (p_stepE (p_loop (p_stepB w h gr n kd f0) m k s)) ∧ fr a I I' := by
  have hn4 := hC.2.2.2.1
  obtain ⟨b1, b2, -⟩ := bd_N hC
  intro m
  induction m with
  | zero =>
    intro M k s I k1 k2 hM hs hi hG hT
    obtain ⟨M, rfl⟩ : ∃ q, M = q + 1 := ⟨M - 1, by omega⟩
    have hi0 := hi
    obtain ⟨e3, e4, e5, e6, e7, e8, ek, ec, eg, ef⟩ := hi
    have h0 := hs.1.2.2.2.2.2
    have hl := hs.2.2.2.2
    have hset := iF_set0 (v := s.1 0 + 1) hi0
    have hkn : ¬ k < n := by omega
    have hfr : fr a I (u2 I a 8 (j_k (s.1 0 + 1))) := fun r hr => by
      funext i
      rw [u2_r (by omega)]
    rw [x_exec, t_26_15, p_loop0]
    by_cases hz : s.2.2.1 = -9
    · refine ⟨u2 I a 8 (j_k (s.1 0 + 1)), ?_, ?_, hfr⟩
      · simp (disch := first | assumption | omega) only [k_add, k_sub, k_mul, k_lt, k_eq, k_lt0, k_0lt, k_eq0, k_nat, k_b0, k_b1, k_z1, k_z0, k_o1, k_o0, Int.reduceEq, Int.reduceLT, Int.reduceLE, Int.reduceAdd, Int.reduceMul, Int.reduceNeg, Bool.false_eq_true, or_true, true_or, or_false, false_or, and_true, true_and, and_false, false_and, not_true_eq_false, not_false_eq_true, ↓reduceIte, z_0, z_k, s_I, s_J, s_uI, s_uJ, f_oc, f_gP0, f_gP1, f_gP2, f_ia0, f_ia1, f_ia2, f_is0, f_is1, f_is2, f_lt, e3, e8, hz, hkn]
      · unfold p_stepE
        rw [if_pos hz]
        exact hset
    · have hl := hl.resolve_left (fun z => hz z.1)
      obtain ⟨I2, w1, w2, w3⟩ := s_becomesLast (L := L) (p := p) (d := d + 1) (J := J) hF hset (k := s.2.2.1) (c := s.2.2.2.1)
      refine ⟨I2, ?_, ?_, hfr.tr w3⟩
      · simp (disch := first | assumption | omega) only [k_add, k_sub, k_mul, k_lt, k_eq, k_lt0, k_0lt, k_eq0, k_nat, k_b0, k_b1, k_z1, k_z0, k_o1, k_o0, Int.reduceEq, Int.reduceLT, Int.reduceLE, Int.reduceAdd, Int.reduceMul, Int.reduceNeg, Bool.false_eq_true, or_true, true_or, or_false, false_or, and_true, true_and, and_false, false_and, not_true_eq_false, not_false_eq_true, ↓reduceIte, z_0, z_k, s_I, s_J, s_uI, s_uJ, f_oc, f_gP0, f_gP1, f_gP2, f_ia0, f_ia1, f_ia2, f_is0, f_is1, f_is2, f_lt, e3, e8, hz, hkn, jc0 w1]
      · unfold p_stepE
        rw [if_neg hz]
        exact w2
  | succ m ih =>
    intro M k s I k1 k2 hM hs hi hG hT
    obtain ⟨M, rfl⟩ : ∃ q, M = q + 1 := ⟨M - 1, by omega⟩
    have hi0 := hi
    obtain ⟨e3, e4, e5, e6, e7, e8, ek, ec, eg, ef⟩ := hi
    have hkn : k < n := by omega
    have h0 := hs.1.2.2.2.2.2
    have hl1 := hs.1.2.2.1
    have hck := hs.1.1 k k1 hkn
    have hm := hs.2.1
    have hin := stepB_in hC k1 hkn hs
    have hf0 : s.1 0 = f0 0 := hm 0 (by decide)
    have hf1 : s.1 1 = f0 1 := hm 1 (by decide)
    have haim : p_aim kd s.1 k = p_aim kd f0 k := by
      unfold p_aim
      rw [hm 2 (by decide), hm 4 (by decide)]
    have q1 := s_isSlow (L := L) (p := p) (d := d + 1) (J := J) hF hi0 hn4 hC k1 hkn
    have ihs := ih M (k + 1) s I (by omega) (by omega) (by omega)
    rw [x_exec, t_26_15, p_loopS]
    by_cases hst : k = f0 1 ∨ s.1 (5 + k) = -9 ∨ (f0 0 % 2 = 1 ∧ p_slow kd k = true)
    · have hB : p_stepB w h gr n kd f0 k s = s := if_pos hst
      rw [hB] at hin ⊢
      obtain ⟨I', r1, r2, r3⟩ := ihs hin hi0 hG hT
      refine ⟨I', ?_, r2, r3⟩
      simp (disch := first | assumption | omega) only [k_add, k_sub, k_mul, k_lt, k_eq, k_lt0, k_0lt, k_eq0, k_nat, k_b0, k_b1, k_z1, k_z0, k_o1, k_o0, Int.reduceEq, Int.reduceLT, Int.reduceLE, Int.reduceAdd, Int.reduceMul, Int.reduceNeg, Bool.false_eq_true, or_true, true_or, or_false, false_or, and_true, true_and, and_false, false_and, not_true_eq_false, not_false_eq_true, ↓reduceIte, z_0, z_k, s_I, s_J, s_uI, s_uJ, f_oc, f_gP0, f_gP1, f_gP2, f_ia0, f_ia1, f_ia2, f_is0, f_is1, f_is2, f_lt, e3, e4, hkn]
      by_cases z1 : k = s.1 1
      · rw [if_pos z1]
        exact r1
      · rw [if_neg z1]
        by_cases z2 : s.1 (5 + k) = -9
        · simp (disch := first | assumption | omega) only [k_add, k_sub, k_mul, k_lt, k_eq, k_lt0, k_0lt, k_eq0, k_nat, k_b0, k_b1, k_z1, k_z0, k_o1, k_o0, Int.reduceEq, Int.reduceLT, Int.reduceLE, Int.reduceAdd, Int.reduceMul, Int.reduceNeg, Bool.false_eq_true, or_true, true_or, or_false, false_or, and_true, true_and, and_false, false_and, not_true_eq_false, not_false_eq_true, ↓reduceIte, z_0, z_k, s_I, s_J, s_uI, s_uJ, f_oc, f_gP0, f_gP1, f_gP2, f_ia0, f_ia1, f_ia2, f_is0, f_is1, f_is2, f_lt, ec, z2]
          exact r1
        · have z3 := (hst.resolve_left (by rw [← hf1]; exact z1)).resolve_left z2
          rw [z3.2, z_t] at q1
          have z4 : s.1 0 % 2 = 1 := by rw [hf0]; exact z3.1
          simp (disch := first | assumption | omega) only [k_add, k_sub, k_mul, k_lt, k_eq, k_lt0, k_0lt, k_eq0, k_nat, k_b0, k_b1, k_z1, k_z0, k_o1, k_o0, Int.reduceEq, Int.reduceLT, Int.reduceLE, Int.reduceAdd, Int.reduceMul, Int.reduceNeg, Bool.false_eq_true, or_true, true_or, or_false, false_or, and_true, true_and, and_false, false_and, not_true_eq_false, not_false_eq_true, ↓reduceIte, z_0, z_k, s_I, s_J, s_uI, s_uJ, f_oc, f_gP0, f_gP1, f_gP2, f_ia0, f_ia1, f_ia2, f_is0, f_is1, f_is2, f_lt, ec, z2, e8, k_par, z4, jc1 q1]
          exact r1
    · have z1 : ¬ k = s.1 1 := fun z => hst (Or.inl (by rw [← hf1]; exact z))
      have z2 : ¬ s.1 (5 + k) = -9 := fun z => hst (Or.inr (Or.inl z))
      have q2 := s_nextCell (L := L) (p := p) (d := d) (J := J) (gate := s.2.2.2.2) hF hg hi0 hG hT hC hs.1 k1 hkn z2
      rw [haim] at q2
      by_cases hnx : p_next w h gr n kd s.1 k (p_aim kd f0 k) s.2.2.2.2 = -9
      · have hB : p_stepB w h gr n kd f0 k s = s := by
          unfold p_stepB
          rw [if_neg hst, if_pos hnx]
        rw [hB] at hin ⊢
        rw [hnx] at q2
        obtain ⟨I', r1, r2, r3⟩ := ihs hin hi0 hG hT
        refine ⟨I', ?_, r2, r3⟩
        simp (disch := first | assumption | omega) only [k_add, k_sub, k_mul, k_lt, k_eq, k_lt0, k_0lt, k_eq0, k_nat, k_b0, k_b1, k_z1, k_z0, k_o1, k_o0, Int.reduceEq, Int.reduceLT, Int.reduceLE, Int.reduceAdd, Int.reduceMul, Int.reduceNeg, Bool.false_eq_true, or_true, true_or, or_false, false_or, and_true, true_and, and_false, false_and, not_true_eq_false, not_false_eq_true, ↓reduceIte, z_0, z_k, s_I, s_J, s_uI, s_uJ, f_oc, f_gP0, f_gP1, f_gP2, f_ia0, f_ia1, f_ia2, f_is0, f_is1, f_is2, f_lt, e3, e4, hkn, z1, ec, z2, e8, k_par]
        by_cases z4 : s.1 0 % 2 = 1
        · have z5 : p_slow kd k = false := by
            cases z6 : p_slow kd k
            · rfl
            · exact absurd (Or.inr (Or.inr ⟨by rw [← hf0]; exact z4, z6⟩)) hst
          rw [z5, z_f] at q1
          simp (disch := first | assumption | omega) only [k_add, k_sub, k_mul, k_lt, k_eq, k_lt0, k_0lt, k_eq0, k_nat, k_b0, k_b1, k_z1, k_z0, k_o1, k_o0, Int.reduceEq, Int.reduceLT, Int.reduceLE, Int.reduceAdd, Int.reduceMul, Int.reduceNeg, Bool.false_eq_true, or_true, true_or, or_false, false_or, and_true, true_and, and_false, false_and, not_true_eq_false, not_false_eq_true, ↓reduceIte, z_0, z_k, s_I, s_J, s_uI, s_uJ, f_oc, f_gP0, f_gP1, f_gP2, f_ia0, f_ia1, f_ia2, f_is0, f_is1, f_is2, f_lt, z4, jc1 q1, jc1 q2]
          exact r1
        · simp (disch := first | assumption | omega) only [k_add, k_sub, k_mul, k_lt, k_eq, k_lt0, k_0lt, k_eq0, k_nat, k_b0, k_b1, k_z1, k_z0, k_o1, k_o0, Int.reduceEq, Int.reduceLT, Int.reduceLE, Int.reduceAdd, Int.reduceMul, Int.reduceNeg, Bool.false_eq_true, or_true, true_or, or_false, false_or, and_true, true_and, and_false, false_and, not_true_eq_false, not_false_eq_true, ↓reduceIte, z_0, z_k, s_I, s_J, s_uI, s_uJ, f_oc, f_gP0, f_gP1, f_gP2, f_ia0, f_ia1, f_ia2, f_is0, f_is1, f_is2, f_lt, z4, jc1 q2]
          exact r1
      · obtain ⟨n1, n2, n3⟩ := next_ok hC hs.1 k1 hkn z2 hnx
        have hB : p_stepB w h gr n kd f0 k s = (p_goTo gr s.1 k (p_next w h gr n kd s.1 k (p_aim kd f0 k) s.2.2.2.2), s.2.1 + 2 ^ k.toNat, k, p_next w h gr n kd s.1 k (p_aim kd f0 k) s.2.2.2.2, s.2.2.2.2 || decide (gr (p_next w h gr n kd s.1 k (p_aim kd f0 k) s.2.2.2.2) = 4)) := by
          unfold p_stepB
          rw [if_neg hst, if_neg hnx]
        rw [hB] at hin ⊢
        generalize p_next w h gr n kd s.1 k (p_aim kd f0 k) s.2.2.2.2 = to at *
        have hto : 0 ≤ gr to ∧ gr to ≤ 4 := hC.2.2.2.2.1 to n1 n2
        obtain ⟨I1, m1, m2, m3⟩ := s_move (L := L) (p := p) (d := d + 1) (J := J) hF hg hi0 hG hC hs.1 k1 hkn z2 n1 n2
        have hG1 := hG.fr hF hg m3
        have hT1 := hT.fr hF m3
        obtain ⟨I', r1, r2, r3⟩ := ih M (k + 1) _ I1 (by omega) (by omega) (by omega) hin m2 hG1 hT1
        refine ⟨I', ?_, r2, m3.tr r3⟩
        have hor := or_set k1 (by omega) hs.2.2.1 hs.2.2.2.1
        obtain ⟨g3, g4, g5, g1, g2, g6⟩ := hG1
        dsimp only at r1
        have hgt : j_z ((s.2.2.2.2 || decide (gr to = 4)) = true) = if gr to = 4 then j_k 1 else j_z (s.2.2.2.2 = true) := by
          by_cases z : gr to = 4
          · simp only [z, decide_true, Bool.or_true, if_true]
            rfl
          · simp only [z, decide_false, Bool.or_false, if_false]
        rw [hgt] at r1
        simp (disch := first | assumption | omega) only [k_add, k_sub, k_mul, k_lt, k_eq, k_lt0, k_0lt, k_eq0, k_nat, k_b0, k_b1, k_z1, k_z0, k_o1, k_o0, Int.reduceEq, Int.reduceLT, Int.reduceLE, Int.reduceAdd, Int.reduceMul, Int.reduceNeg, Bool.false_eq_true, or_true, true_or, or_false, false_or, and_true, true_and, and_false, false_and, not_true_eq_false, not_false_eq_true, ↓reduceIte, z_0, z_k, s_I, s_J, s_uI, s_uJ, f_oc, f_gP0, f_gP1, f_gP2, f_ia0, f_ia1, f_ia2, f_is0, f_is1, f_is2, f_lt, e3, e4, hkn, z1, ec, z2, e8, k_par]
        by_cases z4 : s.1 0 % 2 = 1
        · have z5 : p_slow kd k = false := by
            cases z6 : p_slow kd k
            · rfl
            · exact absurd (Or.inr (Or.inr ⟨by rw [← hf0]; exact z4, z6⟩)) hst
          rw [z5, z_f] at q1
          simp (disch := first | assumption | omega) only [k_add, k_sub, k_mul, k_lt, k_eq, k_lt0, k_0lt, k_eq0, k_nat, k_b0, k_b1, k_z1, k_z0, k_o1, k_o0, Int.reduceEq, Int.reduceLT, Int.reduceLE, Int.reduceAdd, Int.reduceMul, Int.reduceNeg, Bool.false_eq_true, or_true, true_or, or_false, false_or, and_true, true_and, and_false, false_and, not_true_eq_false, not_false_eq_true, ↓reduceIte, z_0, z_k, s_I, s_J, s_uI, s_uJ, f_oc, f_gP0, f_gP1, f_gP2, f_ia0, f_ia1, f_ia2, f_is0, f_is1, f_is2, f_lt, g_oc, g_gP0, g_gP1, g_gP2, g_ia0, g_ia1, g_ia2, g_is0, g_is1, g_is2, g_lt, z4, jc1 q1, jc1 q2, hnx, jc0 m1, g1, hor]
          by_cases z7 : gr to = 4
          · rw [if_pos z7] at r1 ⊢
            exact r1
          · rw [if_neg z7] at r1 ⊢
            exact r1
        · simp (disch := first | assumption | omega) only [k_add, k_sub, k_mul, k_lt, k_eq, k_lt0, k_0lt, k_eq0, k_nat, k_b0, k_b1, k_z1, k_z0, k_o1, k_o0, Int.reduceEq, Int.reduceLT, Int.reduceLE, Int.reduceAdd, Int.reduceMul, Int.reduceNeg, Bool.false_eq_true, or_true, true_or, or_false, false_or, and_true, true_and, and_false, false_and, not_true_eq_false, not_false_eq_true, ↓reduceIte, z_0, z_k, s_I, s_J, s_uI, s_uJ, f_oc, f_gP0, f_gP1, f_gP2, f_ia0, f_ia1, f_ia2, f_is0, f_is1, f_is2, f_lt, g_oc, g_gP0, g_gP1, g_gP2, g_ia0, g_ia1, g_ia2, g_is0, g_is1, g_is2, g_lt, z4, jc1 q2, hnx, jc0 m1, g1, hor]
          by_cases z7 : gr to = 4
          · rw [if_pos z7] at r1 ⊢
            exact r1
          · rw [if_neg z7] at r1 ⊢
            exact r1
end FLOCKS
