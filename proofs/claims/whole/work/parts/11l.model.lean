/-! ===== the model: a step ===== -/
/-- behind steps, runs, drives: row q, the cells of the object that they use, the aims -/
def frP (n q : Int) (I I' : Nat → Nat → Int32) : Prop := (∀ r, r ≠ 87 → r ≠ 99 → r ≠ 101 → I' r = I r) ∧ (∀ k, (k < 26 ∨ 30 < k) → I' 87 k = I 87 k) ∧ ∀ i : Int, 0 ≤ i → (i < 13 * q ∨ 13 * q + 13 ≤ i ∨ (13 * q + (5 + n) ≤ i ∧ i < 13 * q + 9)) → I' 99 i.toNat = I 99 i.toNat
theorem frP.rf {n q : Int} {I : Nat → Nat → Int32} : frP n q I I := ⟨fun _ _ _ _ => rfl, fun _ _ => rfl, fun _ _ _ => rfl⟩
theorem frP.tr {n q : Int} {I I' I'' : Nat → Nat → Int32} (h : frP n q I I') (h' : frP n q I' I'') : frP n q I I'' := ⟨fun r a b c => (h'.1 r a b c).trans (h.1 r a b c), fun k a => (h'.2.1 k a).trans (h.2.1 k a), fun i a b => (h'.2.2 i a b).trans (h.2.2 i a b)⟩
theorem frQ.p {n q : Int} {I I' : Nat → Nat → Int32} (h : frQ n q I I') : frP n q I I' := ⟨fun r a b _ => h.1 r a b, fun k a => h.2.1 k (by omega) (by omega), h.2.2⟩
theorem frP.o {n q : Int} {I : Nat → Nat → Int32} {k : Nat} {v : Int32} (h1 : 26 ≤ k) (h2 : k ≤ 30) : frP n q I (u2 I 87 k v) := ⟨fun r a _ _ => by funext m; rw [u2_r a], fun m a => by rw [u2_k (by omega)], fun i _ _ => by rw [u2_r (by decide)]⟩
theorem frP.m {n q : Int} {I I' : Nat → Nat → Int32} {w h N : Int} {gr kd : Fl} (h1 : frP n q I I') (hm : iMg I w h N n gr kd) : iMg I' w h N n gr kd := hm.cg (fun k hk => h1.2.1 k (by omega)) (h1.1 94 (by decide) (by decide) (by decide)) (h1.1 95 (by decide) (by decide) (by decide))
theorem set0_bl {f : Fl} {k c v : Int} : p_set (p_bl f k c) 0 v = p_bl (p_set f 0 v) k c := by
  funext i
  unfold p_bl p_set
  by_cases x : i = 0
  · subst x
    rfl
  · simp [x]
theorem aim_ok {N n b : Int} {kd f : Fl} (ho : okF N n b f) (h1 : f 1 ≠ -9) (k : Int) : p_aim kd f k ≠ -9 := by
  have h2 := ho.2.2.1
  unfold p_aim
  split
  · rename_i x
    exact x.2
  · omega
theorem step_none {w h N n b : Int} {gr kd f : Fl} (ho : okF N n b f) (h1 : f 1 = -9) : p_stepL w h gr n kd f = (f, 0, -9, -9, false) := by
  have a : ∀ k, p_aim kd f k = -9 := fun k => by
    have h2 := ho.2.2.1
    have h3 := ho.2.2.2.2.1 h1
    have h4 := ho.2.2.2.1
    unfold p_aim
    split <;> omega
  have l : ∀ (m : Nat) (k : Int), p_loop (p_stepB w h gr n kd f) m k (f, 0, -9, -9, false) = (f, 0, -9, -9, false) := by
    intro m
    induction m with
    | zero => exact fun k => rfl
    | succ m ih =>
      intro k
      rw [p_loopS]
      have e : p_stepB w h gr n kd f k (f, 0, -9, -9, false) = (f, 0, -9, -9, false) := by
        unfold p_stepB
        split
        · rfl
        · rw [a k]
          rfl
      rw [e]
      exact ih (k + 1)
  exact l _ _
theorem stepB_R {w h n : Int} {gr kd f0 : Fl} {k : Int} {s : Ss} (h0 : s.1 0 = f0 0) (h1 : ¬ s.1 (5 + k) = -9) (h2 : ¬ k = f0 1) : p_stepB w h gr n kd f0 k s = if p_goR w h gr n kd s.1 k (p_aim kd f0 k) s.2.2.2.2 = -9 then s else (p_goTo gr s.1 k (p_goR w h gr n kd s.1 k (p_aim kd f0 k) s.2.2.2.2), s.2.1 + 2 ^ k.toNat, k, p_goR w h gr n kd s.1 k (p_aim kd f0 k) s.2.2.2.2, s.2.2.2.2 || decide (gr (p_goR w h gr n kd s.1 k (p_aim kd f0 k) s.2.2.2.2) = 4)) := by
  unfold p_stepB p_goR
  rw [h0]
  by_cases x : f0 0 % 2 = 1 ∧ p_slow kd k = true
  · rw [if_pos (Or.inr (Or.inr x)), if_pos x]
    rfl
  · rw [if_neg (fun u => u.elim h2 (fun u => u.elim h1 x)), if_neg x]
theorem stepB_s {w h n : Int} {gr kd f0 : Fl} {k : Int} {s : Ss} (h1 : k = f0 1 ∨ s.1 (5 + k) = -9) : p_stepB w h gr n kd f0 k s = s := if_pos (h1.elim Or.inl (fun u => Or.inr (Or.inl u)))
section MODEL12
variable {L p d : Nat} {I : Nat → Nat → Int32} {J : Nat → Nat → Int64} {n w h N b : Int} {f gr kd : Fl} {q : Int}
theorem n_tick (q1 : 0 ≤ q) (q2 : q < 9) (n0 : 0 ≤ n) (n4 : n ≤ 4) (hf : iM1 I q n f) : ∃ I', j_run (d + 1) 162 [.ref 87, .int (j_k q), .int (j_k 0)] (ST L p I J) = some (some (.int (j_k (f 0))), ST L p I J) ∧ j_run (d + 1) 163 [.ref 87, .int (j_k q), .int (j_k 0), .int (j_k (f 0 + 1))] (ST L p I J) = some (none, ST L p I' J) ∧ iM1 I' q n (p_set f 0 (f 0 + 1)) ∧ frM n q I I' := by
  have v := n_v (L := L) (p := p) (d := d) (I := I) (J := J) q1 q2 (show (0 : Int) ≤ 0 by decide) (show (0 : Int) < 13 by decide)
  rw [hf.1 0 (by decide) (by decide)] at v
  exact ⟨_, v, n_place q1 q2 (by decide) (by decide), hf.put q1 n4 (by decide) (by decide), frM.put q1 (by decide) (by omega) (by decide) n0⟩
theorem n_stepL (q1 : 0 ≤ q) (q2 : q < 9) (hb : b ≤ 1000000) {f0 : Fl} (ha : ∀ k, p_aim kd f0 k ≠ -9) (ho0 : okF N n b f0) : ∀ (m M : Nat) (k : Int) (s : Ss) (I : Nat → Nat → Int32), 0 ≤ k → k + m = n → m < M → inS N n b f0 k s → iMg I w h N n gr kd → iM1 I q n s.1 → I 87 26 = j_z (s.2.2.2.2 = true) → (∀ j : Int, 0 ≤ j → j < n → I 101 j.toNat = j_k (p_aim kd f0 j)) →
    ∃ I', j_exec k_186 h_186 (j_run (d + 5)) M 60 [some (.ref 87), some (.int (j_k q)), some (.int (j_k s.2.1)), some (.int (j_k s.2.2.2.1)), some (.int (j_k s.2.2.1)), some (.int (j_k k))] [] (ST L p I J) = some (some (.int (j_k (p_loop (p_stepB w h gr n kd f0) m k s).2.1)), ST L p I' J) ∧ iM1 I' q n (p_stepE (p_loop (p_stepB w h gr n kd f0) m k s)) ∧ frQ n q I I' := by
  intro m
  induction m with
  | zero =>
    intro M k s I k1 k2 hM hs hm hf hgt haI
    obtain ⟨M, rfl⟩ : ∃ q, M = q + 1 := ⟨M - 1, by omega⟩
    have hC := hm.1
    have hn := hm.2.2.2.1
    obtain ⟨bN0, bN1, -⟩ := bd_N hC
    have n4 := hC.2.2.2.1
    have hl := hs.2.2.2.2
    have hkn : ¬ k < n := by omega
    rw [x_exec, t_186_60, p_loop0]
    by_cases hz : s.2.2.1 = -9
    · obtain ⟨I', e1, e2, e3, e4⟩ := n_tick (L := L) (p := p) (d := d + 4) (J := J) q1 q2 hC.2.2.1 n4 hf
      refine ⟨I', ?_, ?_, e4.q⟩
      · simp (disch := first | assumption | omega) only [k_add, k_sub, k_mul, k_lt, k_eq, k_lt0, k_0lt, k_eq0, k_nat, k_b0, k_b1, k_z1, k_z0, k_o1, k_o0, Int.reduceEq, Int.reduceLT, Int.reduceLE, Int.reduceAdd, Int.reduceMul, Int.reduceNeg, Bool.false_eq_true, or_true, true_or, or_false, false_or, and_true, true_and, and_false, false_and, not_true_eq_false, not_false_eq_true, ↓reduceIte, z_0, z_k, s_I, s_J, s_uI, s_uJ, ↓c_oc_87, hn, hz, hkn, ↓jc1 e1, ↓jc0 e2]
      · unfold p_stepE
        rw [if_pos hz]
        exact e3
    · have hl := hl.resolve_left (fun z => hz z.1)
      obtain ⟨I1, w1, w2, w3⟩ := n_bl (L := L) (p := p) (d := d + 3) (J := J) (k := s.2.2.1) (c := s.2.2.2.1) hf q1 q2 hC.2.2.1 n4
      obtain ⟨I', e1, e2, e3, e4⟩ := n_tick (L := L) (p := p) (d := d + 4) (J := J) q1 q2 hC.2.2.1 n4 w2
      refine ⟨I', ?_, ?_, w3.q.tr e4.q⟩
      · simp (disch := first | assumption | omega) only [k_add, k_sub, k_mul, k_lt, k_eq, k_lt0, k_0lt, k_eq0, k_nat, k_b0, k_b1, k_z1, k_z0, k_o1, k_o0, Int.reduceEq, Int.reduceLT, Int.reduceLE, Int.reduceAdd, Int.reduceMul, Int.reduceNeg, Bool.false_eq_true, or_true, true_or, or_false, false_or, and_true, true_and, and_false, false_and, not_true_eq_false, not_false_eq_true, ↓reduceIte, z_0, z_k, s_I, s_J, s_uI, s_uJ, ↓c_oc_87, hn, hz, hkn, ↓jc0 w1, ↓jc1 e1, ↓jc0 e2]
      · unfold p_stepE
        rw [if_neg hz, ← set0_bl]
        exact e3
  | succ m ih =>
    intro M k s I k1 k2 hM hs hm hf hgt haI
    obtain ⟨M, rfl⟩ : ∃ q, M = q + 1 := ⟨M - 1, by omega⟩
    have hC := hm.1
    have hn := hm.2.2.2.1
    obtain ⟨bN0, bN1, -⟩ := bd_N hC
    have n4 := hC.2.2.2.1
    have hkn : k < n := by omega
    have k4 : k < 4 := by omega
    have hin := stepB_in hC k1 hkn hs
    have hl1 := ho0.2.2.1
    have L1 := n_isLost (L := L) (p := p) (d := d + 3) (J := J) q1 q2 hf hs.1 bN1 k1 hkn n4
    have V1 := n_v (L := L) (p := p) (d := d + 4) (I := I) (J := J) q1 q2 (show (0 : Int) ≤ 1 by decide) (show (1 : Int) < 13 by decide)
    rw [hf.1 1 (by decide) (by decide), hs.2.1 1 (by decide)] at V1
    have ihs := ih M (k + 1) s I (by omega) (by omega) (by omega)
    rw [x_exec, t_186_60, p_loopS]
    by_cases z2 : s.1 (5 + k) = -9
    · have hB : p_stepB w h gr n kd f0 k s = s := stepB_s (Or.inr z2)
      rw [hB] at hin ⊢
      obtain ⟨I', r1, r2, r3⟩ := ihs hin hm hf hgt haI
      refine ⟨I', ?_, r2, r3⟩
      have l1 : j_z (s.1 (5 + k) = -9) = j_k 1 := if_pos z2
      rw [l1] at L1
      simp (disch := first | assumption | omega) only [k_add, k_sub, k_mul, k_lt, k_eq, k_lt0, k_0lt, k_eq0, k_nat, k_b0, k_b1, k_z1, k_z0, k_o1, k_o0, Int.reduceEq, Int.reduceLT, Int.reduceLE, Int.reduceAdd, Int.reduceMul, Int.reduceNeg, Bool.false_eq_true, or_true, true_or, or_false, false_or, and_true, true_and, and_false, false_and, not_true_eq_false, not_false_eq_true, ↓reduceIte, z_0, z_k, s_I, s_J, s_uI, s_uJ, ↓c_oc_87, hn, hkn, ↓jc1 L1]
      exact r1
    · have l1 : j_z (s.1 (5 + k) = -9) = j_k 0 := if_neg z2
      rw [l1] at L1
      by_cases z1 : k = f0 1
      · have hB : p_stepB w h gr n kd f0 k s = s := stepB_s (Or.inl z1)
        rw [hB] at hin ⊢
        obtain ⟨I', r1, r2, r3⟩ := ihs hin hm hf hgt haI
        refine ⟨I', ?_, r2, r3⟩
        rw [← z1] at V1
        simp (disch := first | assumption | omega) only [k_add, k_sub, k_mul, k_lt, k_eq, k_lt0, k_0lt, k_eq0, k_nat, k_b0, k_b1, k_z1, k_z0, k_o1, k_o0, Int.reduceEq, Int.reduceLT, Int.reduceLE, Int.reduceAdd, Int.reduceMul, Int.reduceNeg, Bool.false_eq_true, or_true, true_or, or_false, false_or, and_true, true_and, and_false, false_and, not_true_eq_false, not_false_eq_true, ↓reduceIte, z_0, z_k, s_I, s_J, s_uI, s_uJ, ↓c_oc_87, hn, hkn, ↓jc1 L1, ↓jc1 V1]
        exact r1
      · have har := (aim_rg (kd := kd) ho0 k).resolve_left (ha k)
        obtain ⟨I1, g1, g2⟩ := n_goes (L := L) (p := p) (d := d) (J := J) (gate := s.2.2.2.2) (aim := p_aim kd f0 k) q1 q2 hm hgt hf hs.1 hb k1 hkn z2 har.1 har.2
        have hB := stepB_R (w := w) (h := h) (n := n) (gr := gr) (kd := kd) (hs.2.1 0 (by decide)) z2 z1
        have hA := haI k k1 hkn
        by_cases z3 : p_goR w h gr n kd s.1 k (p_aim kd f0 k) s.2.2.2.2 = -9
        · rw [if_pos z3] at hB
          rw [hB] at hin ⊢
          have eI := g2.2.1 z3
          subst eI
          have g0 : j_z (p_goR w h gr n kd s.1 k (p_aim kd f0 k) s.2.2.2.2 ≠ -9) = j_k 0 := if_neg (fun u => u z3)
          rw [g0] at g1
          obtain ⟨I', r1, r2, r3⟩ := ihs hin hm hf hgt haI
          refine ⟨I', ?_, r2, r3⟩
          simp (disch := first | assumption | omega) only [k_add, k_sub, k_mul, k_lt, k_eq, k_lt0, k_0lt, k_eq0, k_nat, k_b0, k_b1, k_z1, k_z0, k_o1, k_o0, Int.reduceEq, Int.reduceLT, Int.reduceLE, Int.reduceAdd, Int.reduceMul, Int.reduceNeg, Bool.false_eq_true, or_true, true_or, or_false, false_or, and_true, true_and, and_false, false_and, not_true_eq_false, not_false_eq_true, ↓reduceIte, z_0, z_k, s_I, s_J, s_uI, s_uJ, ↓c_oc_87, hn, hkn, ↓jc1 L1, ↓jc1 V1, z1, ↓c_gP_87_28, ↓c_ia_101, hA, ↓jc1 g1]
          exact r1
        · rw [if_neg z3] at hB
          rw [hB] at hin ⊢
          have g0 : j_z (p_goR w h gr n kd s.1 k (p_aim kd f0 k) s.2.2.2.2 ≠ -9) = j_k 1 := if_pos z3
          rw [g0] at g1
          obtain ⟨p1, p2, p3⟩ := g2.2.2 z3
          obtain ⟨I', r1, r2, r3⟩ := ih M (k + 1) _ I1 (by omega) (by omega) (by omega) hin (g2.1.m hm) p1 p2 (fun j j1 j2 => by rw [g2.1.1 101 (by decide) (by decide)]; exact haI j j1 j2)
          refine ⟨I', ?_, r2, g2.1.tr r3⟩
          have hor := or_set k1 (by omega) hs.2.2.1 hs.2.2.2.1
          simp (disch := first | assumption | omega) only [k_add, k_sub, k_mul, k_lt, k_eq, k_lt0, k_0lt, k_eq0, k_nat, k_b0, k_b1, k_z1, k_z0, k_o1, k_o0, Int.reduceEq, Int.reduceLT, Int.reduceLE, Int.reduceAdd, Int.reduceMul, Int.reduceNeg, Bool.false_eq_true, or_true, true_or, or_false, false_or, and_true, true_and, and_false, false_and, not_true_eq_false, not_false_eq_true, ↓reduceIte, z_0, z_k, s_I, s_J, s_uI, s_uJ, ↓c_oc_87, hn, hkn, ↓jc1 L1, ↓jc1 V1, z1, ↓c_gP_87_28, ↓c_ia_101, hA, ↓jc1 g1, p3, hor]
          exact r1
theorem n_step (q1 : 0 ≤ q) (q2 : q < 9) (hm : iMg I w h N n gr kd) (hf : iM1 I q n f) (ho : okF N n b f) (hb : b ≤ 1000000) : ∃ I', j_run (d + 6) 186 [.ref 87, .int (j_k q)] (ST L p I J) = some (some (.int (j_k (p_stepW w h gr n kd f))), ST L p I' J) ∧ iM1 I' q n (p_stepF w h gr n kd f) ∧ frP n q I I' ∧ ∀ k, k ≠ 26 → k ≠ 27 → I' 87 k = I 87 k := by
  have hC := hm.1
  have hn := hm.2.2.2.1
  obtain ⟨bN0, bN1, -⟩ := bd_N hC
  have n0 := hC.2.2.1
  have n4 := hC.2.2.2.1
  have hl1 := ho.2.2.1
  have V1 := n_v (L := L) (p := p) (d := d + 4) (I := I) (J := J) q1 q2 (show (0 : Int) ≤ 1 by decide) (show (1 : Int) < 13 by decide)
  rw [hf.1 1 (by decide) (by decide)] at V1
  have e := (r_186 (d + 5) (ST L p I J) 87 (j_k q)).trans (t_186_0 _ _ _ _ _)
  by_cases z : f 1 = -9
  · obtain ⟨I', e1, e2, e3, e4⟩ := n_tick (L := L) (p := p) (d := d + 4) (J := J) q1 q2 hC.2.2.1 n4 hf
    have s := step_none (w := w) (h := h) (gr := gr) (kd := kd) ho z
    refine ⟨I', ?_, ?_, e4.q.p, fun k _ _ => by rw [e4.1 87 (by decide)]⟩
    · unfold p_stepW
      rw [s, e]
      simp (disch := first | assumption | omega) only [k_add, k_sub, k_mul, k_lt, k_eq, k_lt0, k_0lt, k_eq0, k_nat, k_b0, k_b1, k_z1, k_z0, k_o1, k_o0, Int.reduceEq, Int.reduceLT, Int.reduceLE, Int.reduceAdd, Int.reduceMul, Int.reduceNeg, Bool.false_eq_true, or_true, true_or, or_false, false_or, and_true, true_and, and_false, false_and, not_true_eq_false, not_false_eq_true, ↓reduceIte, z_0, z_k, s_I, s_J, s_uI, s_uJ, ↓c_oc_87, ↓jc1 V1, z, ↓jc1 e1, ↓jc0 e2]
    · unfold p_stepF
      rw [s]
      exact e3
  · obtain ⟨M, hM, hM2⟩ : ∃ M, M = 999999 ∧ 100 < M := ⟨999999, rfl, by decide⟩
    have loop : ∀ (t M : Nat) (i : Int) (I1 : Nat → Nat → Int32), 0 ≤ i → i + t = n → (∀ r, r ≠ 101 → I1 r = I r) → (∀ j : Int, 0 ≤ j → j < i → I1 101 j.toNat = j_k (p_aim kd f j)) → ∃ I2, j_exec k_186 h_186 (j_run (d + 5)) (M + t + 1) 23 [some (.ref 87), some (.int (j_k q)), some (.int (j_k 0)), some (.int (j_k (-9))), some (.int (j_k (-9))), some (.int (j_k i))] [] (ST L p I1 J) = j_exec k_186 h_186 (j_run (d + 5)) M 60 [some (.ref 87), some (.int (j_k q)), some (.int (j_k 0)), some (.int (j_k (-9))), some (.int (j_k (-9))), some (.int (j_k 0))] [] (ST L p (u2 I2 87 26 (j_k 0)) J) ∧ (∀ r, r ≠ 101 → I2 r = I r) ∧ (∀ j : Int, 0 ≤ j → j < n → I2 101 j.toNat = j_k (p_aim kd f j)) := by
      intro t
      induction t with
      | zero =>
        intro M i I1 i1 i2 h1 h2
        have y : ¬ i < n := by omega
        have hn1 : I1 87 13 = j_k n := by rw [h1 87 (by decide)]; exact hn
        refine ⟨I1, ?_, h1, fun j j1 j2 => h2 j j1 (by omega)⟩
        rw [x_exec, t_186_23]
        simp (disch := first | assumption | omega) only [k_add, k_sub, k_mul, k_lt, k_eq, k_lt0, k_0lt, k_eq0, k_nat, k_b0, k_b1, k_z1, k_z0, k_o1, k_o0, Int.reduceEq, Int.reduceLT, Int.reduceLE, Int.reduceAdd, Int.reduceMul, Int.reduceNeg, Bool.false_eq_true, or_true, true_or, or_false, false_or, and_true, true_and, and_false, false_and, not_true_eq_false, not_false_eq_true, ↓reduceIte, z_0, z_k, s_I, s_J, s_uI, s_uJ, ↓c_oc_87, hn1, y, ↓c_lt_87]
      | succ t ih =>
        intro M i I1 i1 i2 h1 h2
        have y : i < n := by omega
        have i4 : i < 4 := by omega
        have hn1 : I1 87 13 = j_k n := by rw [h1 87 (by decide)]; exact hn
        have hf1 : iM1 I1 q n f := hf.cg (fun i _ _ => by rw [h1 99 (by decide)]) n4
        have A := n_aim (L := L) (p := p) (d := d + 3) (J := J) q1 q2 hC (fun k k1 k2 => by rw [h1 95 (by decide)]; exact hm.2.2.2.2.1 k k1 k2) hf1 ho i1 y
        obtain ⟨I2, r1, r2, r3⟩ := ih M (i + 1) (u2 I1 101 i.toNat (j_k (p_aim kd f i))) (by omega) (by omega) (fun r hr => by
          rw [← h1 r hr]
          funext m
          rw [u2_r hr]) (fun j j1 j2 => by
          by_cases x : j = i
          · subst x
            rw [u2_ss]
          · rw [u2_k (by omega)]
            exact h2 j j1 (by omega))
        refine ⟨I2, ?_, r2, r3⟩
        rw [show M + (t + 1) + 1 = M + t + 1 + 1 by omega, x_exec, t_186_23]
        simp (disch := first | assumption | omega) only [k_add, k_sub, k_mul, k_lt, k_eq, k_lt0, k_0lt, k_eq0, k_nat, k_b0, k_b1, k_z1, k_z0, k_o1, k_o0, Int.reduceEq, Int.reduceLT, Int.reduceLE, Int.reduceAdd, Int.reduceMul, Int.reduceNeg, Bool.false_eq_true, or_true, true_or, or_false, false_or, and_true, true_and, and_false, false_and, not_true_eq_false, not_false_eq_true, ↓reduceIte, z_0, z_k, s_I, s_J, s_uI, s_uJ, ↓c_oc_87, hn1, y, ↓c_gP_87_28, ↓jc1 A, ↓c_is_101]
        exact r1
    obtain ⟨I2, r1, r2, r3⟩ := loop n.toNat (M - n.toNat - 1) 0 I (Int.le_refl 0) (by omega) (fun _ _ => rfl) (fun j j1 j2 => absurd j2 (by omega))
    have fr0 : frP n q I (u2 I2 87 26 (j_k 0)) := ⟨fun r a b c => by
        rw [← r2 r c]
        funext m
        rw [u2_r a], fun k a => by rw [u2_k (by omega), r2 87 (by decide)], fun i _ _ => by rw [u2_r (by decide), r2 99 (by decide)]⟩
    have hf2 : iM1 (u2 I2 87 26 (j_k 0)) q n f := hf.cg (fun i _ _ => by rw [u2_r (by decide), r2 99 (by decide)]) n4
    obtain ⟨I', s1, s2, s3⟩ := n_stepL (L := L) (p := p) (d := d) (J := J) (gr := gr) (w := w) (h := h) (b := b) q1 q2 hb (aim_ok ho z) ho n.toNat (M - n.toNat - 1) 0 (f, 0, -9, -9, false) (u2 I2 87 26 (j_k 0)) (Int.le_refl 0) (by omega) (by omega) (in0 ho) (fr0.m hm) hf2 (by rw [u2_ss]; exact (if_neg Bool.false_ne_true).symm) (fun j j1 j2 => by rw [u2_r (by decide)]; exact r3 j j1 j2)
    refine ⟨I', ?_, s2, fr0.tr s3.p, fun k a b => by rw [s3.2.1 k a b, u2_k (by omega), r2 87 (by decide)]⟩
    rw [← hM] at e
    rw [show M - n.toNat - 1 + n.toNat + 1 = M by omega] at r1
    rw [e]
    simp (disch := first | assumption | omega) only [k_add, k_sub, k_mul, k_lt, k_eq, k_lt0, k_0lt, k_eq0, k_nat, k_b0, k_b1, k_z1, k_z0, k_o1, k_o0, Int.reduceEq, Int.reduceLT, Int.reduceLE, Int.reduceAdd, Int.reduceMul, Int.reduceNeg, Bool.false_eq_true, or_true, true_or, or_false, false_or, and_true, true_and, and_false, false_and, not_true_eq_false, not_false_eq_true, ↓reduceIte, z_0, z_k, s_I, s_J, s_uI, s_uJ, ↓c_oc_87, ↓jc1 V1, z]
    exact r1.trans s1
end MODEL12
