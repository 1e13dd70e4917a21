/-! ===== the shepherd and the wolf ===== -/
def p_wto (w h : Int) (gr : Fl) (c way : Int) : Int := if way < 0 then c else if p_by w h c (p_dx way) (p_dy way) = -9 ∨ gr (p_by w h c (p_dx way) (p_dy way)) = 1 ∨ gr (p_by w h c (p_dx way) (p_dy way)) = 2 then -9 else p_by w h c (p_dx way) (p_dy way)
def p_opt (drv : Fl → Int → Option Fl) (f : Fl) (code : Int) : Option Fl := if code < 0 then some f else drv f code
/-- by which drive (-1: none) all are kept for so many turns; -9: by none -/
def p_hold (drv : Fl → Int → Option Fl) (m4 : Nat) (w h : Int) (gr : Fl) (n l0 : Int) : Nat → Fl → Int → Int
  | 0, _, _ => -1
  | t + 1, f, c => p_first (fun code => match p_opt drv f code with
    | none => false
    | some f' => decide (p_lost n f' ≤ l0) && decide (p_first (fun way => decide (p_wto w h gr c way ≠ -9 ∧ (p_who n f' (p_wto w h gr c way) (-9) ≠ -9 ∨ p_hold drv m4 w h gr n l0 t f' (p_wto w h gr c way) = -9))) 5 (-1) = -9)) (m4 + 1) (-1)
abbrev wA (i : Int) : Nat := 74 + 4 * i.toNat
theorem fa_w {i : Int} (h1 : 0 ≤ i) (h2 : i < 3) : FA (wA i) := by
  rcases (show i = 0 ∨ i = 1 ∨ i = 2 by omega) with rfl | rfl | rfl
  · exact fa_74
  · exact fa_78
  · exact fa_82
def frW (q : Nat) (I I' : Nat → Nat → Int32) : Prop := (∀ r, r ≠ 72 → (r < q ∨ 86 ≤ r) → I' r = I r) ∧ ∀ k, k < 3 → I' 72 k = I 72 k
theorem frW.rf {q : Nat} {I : Nat → Nat → Int32} : frW q I I := ⟨fun _ _ _ => rfl, fun _ _ => rfl⟩
theorem frW.tr {q : Nat} {I I' I'' : Nat → Nat → Int32} (h : frW q I I') (h' : frW q I' I'') : frW q I I'' := ⟨fun r a b => (h'.1 r a b).trans (h.1 r a b), fun k hk => (h'.2 k hk).trans (h.2 k hk)⟩
theorem frW.le {q q' : Nat} {I I' : Nat → Nat → Int32} (hq : q ≤ q') (h : frW q' I I') : frW q I I' := ⟨fun r a b => h.1 r a (by omega), h.2⟩
theorem frW.of {q a : Nat} {I I' : Nat → Nat → Int32} (h1 : 73 ≤ a) (h2 : q ≤ a) (h3 : a + 4 ≤ 86) (h : fr a I I') : frW q I I' := ⟨fun r _ b => h r (by omega), fun k _ => by rw [h 72 (by omega)]⟩
theorem wto_rg {w h N n c way : Int} {gr kd : Fl} (hC : okC w h N n gr kd) (c1 : 0 ≤ c) (c2 : c < N) (y2 : way < 4) : p_wto w h gr c way = -9 ∨ (0 ≤ p_wto w h gr c way ∧ p_wto w h gr c way < N) := by
  unfold p_wto
  split
  · exact Or.inr ⟨c1, c2⟩
  · split
    · exact Or.inl rfl
    · rename_i h1 h2
      have := by_rg hC c1 c2 (dxy (show 0 ≤ way by omega) y2)
      exact this.imp id (fun z => ⟨z.1, z.2.1⟩)
theorem who_ex {n c : Int} {f : Fl} (hn : 0 ≤ n) : (p_who n f c (-9) ≠ -9) = (∃ k, 0 ≤ k ∧ k < n ∧ f (5 + k) = c) := by
  refine propext ⟨fun z => ?_, fun ⟨k, k1, k2, k3⟩ z => ?_⟩
  · refine Classical.byContradiction fun y => z ((who_none hn).mpr fun j j1 j2 _ j4 => y ⟨j, j1, j2, j4⟩)
  · exact (who_none hn).mp z k k1 k2 (by omega) k3
/-- what the wolf can do behind a drive: false if nothing harms -/
def p_harm (w h : Int) (gr : Fl) (n : Int) (hold : Fl → Int → Int) (f' : Fl) (c way : Int) : Bool := decide (p_wto w h gr c way ≠ -9 ∧ (p_who n f' (p_wto w h gr c way) (-9) ≠ -9 ∨ hold f' (p_wto w h gr c way) = -9))
theorem lost_rg {n : Int} {f : Fl} (hn : 0 ≤ n) : 0 ≤ p_lost n f ∧ p_lost n f ≤ n := by
  have key : ∀ (m : Nat) (k s : Int), 0 ≤ s → 0 ≤ p_loop (fun k s => if f (5 + k) = -9 then s + 1 else s) m k s ∧ p_loop (fun k s => if f (5 + k) = -9 then s + 1 else s) m k s ≤ s + m := by
    intro m
    induction m with
    | zero => intro k s h; exact ⟨h, by show s ≤ s + 0; omega⟩
    | succ m ih =>
      intro k s h
      rw [p_loopS]
      split
      · have := ih (k + 1) (s + 1) (by omega)
        omega
      · have := ih (k + 1) s h
        omega
  have := key n.toNat 0 0 (Int.le_refl 0)
  unfold p_lost
  omega
section WATCH
variable {L p d : Nat} {J : Nat → Nat → Int64} {n w h N l0 : Int} {kd gr : Fl}
theorem s_wolfFails (hC : okC w h N n gr kd) {t : Nat} {hold : Fl → Int → Int} {done turns b : Int} {f' : Fl} (d1 : 0 ≤ done) (d2 : done < 3) (ho : okF N n b f') 
    (hS : ∀ (I : Nat → Nat → Int32) (c : Int), 0 ≤ c → c < N → gr c ≠ 1 → gr c ≠ 2 → iF I (wA done) n kd f' → iG I 27 w h N gr → iT I → I 72 1 = j_k turns → I 72 2 = j_k l0 → ∃ I', j_run (d + 1) 66 [.ref 72, .ref 27, .int (j_k c), .int (j_k done)] (ST L p I J) = some (some (.int (j_z (hold f' c ≠ -9))), ST L p I' J) ∧ frW (wA (done + 1)) I I' ∧ (done ≠ 0 → I' 72 3 = I 72 3)) :
    ∀ (m M : Nat) (way c : Int) (I : Nat → Nat → Int32), -1 ≤ way → way + m = 4 → m < M → 0 ≤ c → c < N → gr c ≠ 1 → gr c ≠ 2 → iF I (wA done) n kd f' → iG I 27 w h N gr → iT I → I 72 1 = j_k turns → I 72 2 = j_k l0 → done ≠ 0 →
    ∃ I', j_exec k_67 h_67 (j_run (d + 1)) M 3 [some (.ref 72), some (.ref 27), some (.int (j_k c)), some (.int (j_k done)), some (.int (j_k way)), none] [] (ST L p I J) = some (some (.int (j_z (p_first (p_harm w h gr n hold f' c) m way = -9))), ST L p I' J) ∧ frW (wA (done + 1)) I I' ∧ I' 72 3 = I 72 3 := by
  have hn := hC.2.2.1
  have hn4 := hC.2.2.2.1
  obtain ⟨b1, b2, -⟩ := bd_N hC
  have hA := fa_w d1 d2
  have hw0 : wA done = 74 + 4 * done.toNat := rfl
  have hw1 : wA (done + 1) = wA done + 4 := by
    show 74 + 4 * (done + 1).toNat = 74 + 4 * done.toNat + 4
    omega
  intro m
  induction m with
  | zero =>
    intro M way c I y1 y2 hM c1 c2 g1 g2 hi hG hT ht hl hd0
    obtain ⟨M, rfl⟩ : ∃ q, M = q + 1 := ⟨M - 1, by omega⟩
    have z : ¬ way < 4 := by omega
    refine ⟨I, ?_, frW.rf, rfl⟩
    rw [x_exec, t_67_3]
    simp (disch := first | assumption | omega) only [k_add, k_sub, k_mul, k_lt, k_eq, k_lt0, k_0lt, k_eq0, k_nat, k_b0, k_b1, k_z1, k_z0, k_o1, k_o0, Int.reduceEq, Int.reduceLT, Int.reduceLE, Int.reduceAdd, Int.reduceMul, Int.reduceNeg, Bool.false_eq_true, or_true, true_or, or_false, false_or, and_true, true_and, and_false, false_and, not_true_eq_false, not_false_eq_true, ↓reduceIte, z_0, z_k, s_I, s_J, s_uI, s_uJ, z]
    rfl
  | succ m ih =>
    intro M way c I y1 y2 hM c1 c2 g1 g2 hi hG hT ht hl hd0
    obtain ⟨M, rfl⟩ : ∃ q, M = q + 1 := ⟨M - 1, by omega⟩
    have z : way < 4 := by omega
    -- one way of the wolf's, when it goes to 'to'
    have act : ∀ (to : Int), 0 ≤ to → to < N → gr to ≠ 1 → gr to ≠ 2 → p_wto w h gr c way = to → 
        ∃ I', (j_run (d + 1) 7 [.ref (wA done), .int (j_k to)] (ST L p I J) = some (some (.int (if bt (I (wA done) 9) to.toNat = true then j_k 1 else j_k 0)), ST L p I J)) ∧ j_run (d + 1) 66 [.ref 72, .ref 27, .int (j_k to), .int (j_k done)] (ST L p I J) = some (some (.int (j_z (hold f' to ≠ -9))), ST L p I' J) ∧ frW (wA (done + 1)) I I' ∧ I' 72 3 = I 72 3 ∧ (bt (I (wA done) 9) to.toNat = true ↔ p_who n f' to (-9) ≠ -9) := by
      intro to t1 t2 o1 o2 t3
      obtain ⟨I', e1, e2, e3⟩ := hS I to t1 t2 o1 o2 hi hG hT ht hl
      refine ⟨I', s_isIn hA hi t1 (by omega), e1, e2, e3 hd0, ?_⟩
      rw [who_ex hn]
      exact hi.2.2.2.2.2.2.2.2.2 to t1 (by omega)
    have rest := fun I' (hf : frW (wA (done + 1)) I I') => ih M (way + 1) c I' (by omega) (by omega) (by omega) c1 c2 g1 g2 (hi.cg (fun r x1 x2 => hf.1 r (by omega) (by omega))) (hG.cg (fun r x1 x2 => hf.1 r (by omega) (by omega))) (hT.cg (hf.1 _ (by decide) (Or.inr (by decide))) (hf.1 _ (by decide) (Or.inr (by decide)))) (by rw [hf.2 1 (by decide)]; exact ht) (by rw [hf.2 2 (by decide)]; exact hl) hd0
    rw [x_exec, t_67_3, p_firstS]
    by_cases zw : way < 0
    · have ew : way = -1 := by omega
      subst ew
      have hto : p_wto w h gr c (-1) = c := rfl
      have q1 := s_isOpen (L := L) (p := p) (d := d) (J := J) ga_27 hG hC c1 c2
      have z1 : j_z (gr c ≠ 1 ∧ gr c ≠ 2) = j_k 1 := if_pos ⟨g1, g2⟩
      rw [z1] at q1
      have zc : ¬ c = -9 := by omega
      obtain ⟨I', q2, q3, q4, q5, q6⟩ := act c c1 c2 g1 g2 hto
      by_cases hin : p_who n f' c (-9) ≠ -9
      · rw [if_pos (q6.mpr hin)] at q2
        refine ⟨I, ?_, frW.rf, rfl⟩
        have hh : p_harm w h gr n hold f' c (-1) = true := decide_eq_true ⟨by rw [hto]; exact zc, Or.inl (by rw [hto]; exact hin)⟩
        rw [if_pos hh]
        simp (disch := first | assumption | omega) only [k_add, k_sub, k_mul, k_lt, k_eq, k_lt0, k_0lt, k_eq0, k_nat, k_b0, k_b1, k_z1, k_z0, k_o1, k_o0, Int.reduceEq, Int.reduceLT, Int.reduceLE, Int.reduceAdd, Int.reduceMul, Int.reduceNeg, Bool.false_eq_true, or_true, true_or, or_false, false_or, and_true, true_and, and_false, false_and, not_true_eq_false, not_false_eq_true, ↓reduceIte, z_0, z_k, s_I, s_J, s_uI, s_uJ, zc, c_oc_27, jc1 q1, c_gP_72_0, c_qa_73, f_oc, jc1 q2]
        rfl
      · rw [if_neg (fun y => hin (q6.mp y))] at q2
        by_cases hho : hold f' c = -9
        · have z3 : j_z (hold f' c ≠ -9) = j_k 0 := if_neg (fun y => y hho)
          rw [z3] at q3
          refine ⟨I', ?_, q4, q5⟩
          have hh : p_harm w h gr n hold f' c (-1) = true := decide_eq_true ⟨by rw [hto]; exact zc, Or.inr (by rw [hto]; exact hho)⟩
          rw [if_pos hh]
          simp (disch := first | assumption | omega) only [k_add, k_sub, k_mul, k_lt, k_eq, k_lt0, k_0lt, k_eq0, k_nat, k_b0, k_b1, k_z1, k_z0, k_o1, k_o0, Int.reduceEq, Int.reduceLT, Int.reduceLE, Int.reduceAdd, Int.reduceMul, Int.reduceNeg, Bool.false_eq_true, or_true, true_or, or_false, false_or, and_true, true_and, and_false, false_and, not_true_eq_false, not_false_eq_true, ↓reduceIte, z_0, z_k, s_I, s_J, s_uI, s_uJ, zc, c_oc_27, jc1 q1, c_gP_72_0, c_qa_73, f_oc, jc1 q2, c_oc_72, jc1 q3]
          rfl
        · have z3 : j_z (hold f' c ≠ -9) = j_k 1 := if_pos hho
          rw [z3] at q3
          obtain ⟨I2, u1, u2, u3⟩ := rest I' q4
          refine ⟨I2, ?_, q4.tr u2, u3.trans q5⟩
          have hh : ¬ p_harm w h gr n hold f' c (-1) = true := fun y => by
            have := of_decide_eq_true y
            rw [hto] at this
            exact this.2.elim hin hho
          rw [if_neg hh]
          simp (disch := first | assumption | omega) only [k_add, k_sub, k_mul, k_lt, k_eq, k_lt0, k_0lt, k_eq0, k_nat, k_b0, k_b1, k_z1, k_z0, k_o1, k_o0, Int.reduceEq, Int.reduceLT, Int.reduceLE, Int.reduceAdd, Int.reduceMul, Int.reduceNeg, Bool.false_eq_true, or_true, true_or, or_false, false_or, and_true, true_and, and_false, false_and, not_true_eq_false, not_false_eq_true, ↓reduceIte, z_0, z_k, s_I, s_J, s_uI, s_uJ, zc, c_oc_27, jc1 q1, c_gP_72_0, c_qa_73, f_oc, jc1 q2, c_oc_72, jc1 q3]
          exact u1
    · have y0 : 0 ≤ way := by omega
      have q0 := s_beside (L := L) (p := p) (d := d) (J := J) ga_27 hG hT hC c1 c2 y0 z
      have hr := by_rg hC c1 c2 (dxy y0 z)
      have hwt : p_wto w h gr c way = if p_by w h c (p_dx way) (p_dy way) = -9 ∨ gr (p_by w h c (p_dx way) (p_dy way)) = 1 ∨ gr (p_by w h c (p_dx way) (p_dy way)) = 2 then -9 else p_by w h c (p_dx way) (p_dy way) := if_neg zw
      generalize p_by w h c (p_dx way) (p_dy way) = to at q0 hr hwt
      by_cases ht9 : to = -9
      · rw [if_pos (Or.inl ht9)] at hwt
        obtain ⟨I2, u1, u2, u3⟩ := rest I frW.rf
        refine ⟨I2, ?_, u2, u3⟩
        have hh : ¬ p_harm w h gr n hold f' c way = true := fun y => (of_decide_eq_true y).1 hwt
        rw [if_neg hh]
        subst ht9
        simp (disch := first | assumption | omega) only [k_add, k_sub, k_mul, k_lt, k_eq, k_lt0, k_0lt, k_eq0, k_nat, k_b0, k_b1, k_z1, k_z0, k_o1, k_o0, Int.reduceEq, Int.reduceLT, Int.reduceLE, Int.reduceAdd, Int.reduceMul, Int.reduceNeg, Bool.false_eq_true, or_true, true_or, or_false, false_or, and_true, true_and, and_false, false_and, not_true_eq_false, not_false_eq_true, ↓reduceIte, z_0, z_k, s_I, s_J, s_uI, s_uJ, z, zw, c_oc_27, jc1 q0]
        exact u1
      · have hto := hr.resolve_left ht9
        have q1 := s_isOpen (L := L) (p := p) (d := d) (J := J) ga_27 hG hC hto.1 hto.2.1
        by_cases hop : gr to ≠ 1 ∧ gr to ≠ 2
        · rw [if_neg (fun y => y.elim ht9 (fun y => y.elim hop.1 hop.2))] at hwt
          have z1 : j_z (gr to ≠ 1 ∧ gr to ≠ 2) = j_k 1 := if_pos hop
          rw [z1] at q1
          obtain ⟨I', q2, q3, q4, q5, q6⟩ := act to hto.1 hto.2.1 hop.1 hop.2 hwt
          by_cases hin : p_who n f' to (-9) ≠ -9
          · rw [if_pos (q6.mpr hin)] at q2
            refine ⟨I, ?_, frW.rf, rfl⟩
            have hh : p_harm w h gr n hold f' c way = true := decide_eq_true ⟨by rw [hwt]; exact ht9, Or.inl (by rw [hwt]; exact hin)⟩
            rw [if_pos hh]
            simp (disch := first | assumption | omega) only [k_add, k_sub, k_mul, k_lt, k_eq, k_lt0, k_0lt, k_eq0, k_nat, k_b0, k_b1, k_z1, k_z0, k_o1, k_o0, Int.reduceEq, Int.reduceLT, Int.reduceLE, Int.reduceAdd, Int.reduceMul, Int.reduceNeg, Bool.false_eq_true, or_true, true_or, or_false, false_or, and_true, true_and, and_false, false_and, not_true_eq_false, not_false_eq_true, ↓reduceIte, z_0, z_k, s_I, s_J, s_uI, s_uJ, z, zw, c_oc_27, jc1 q0, ht9, jc1 q1, c_gP_72_0, c_qa_73, f_oc, jc1 q2]
            rw [show j_z (way = -9) = j_k 0 from if_neg (by omega)]
          · rw [if_neg (fun y => hin (q6.mp y))] at q2
            by_cases hho : hold f' to = -9
            · have z3 : j_z (hold f' to ≠ -9) = j_k 0 := if_neg (fun y => y hho)
              rw [z3] at q3
              refine ⟨I', ?_, q4, q5⟩
              have hh : p_harm w h gr n hold f' c way = true := decide_eq_true ⟨by rw [hwt]; exact ht9, Or.inr (by rw [hwt]; exact hho)⟩
              rw [if_pos hh]
              simp (disch := first | assumption | omega) only [k_add, k_sub, k_mul, k_lt, k_eq, k_lt0, k_0lt, k_eq0, k_nat, k_b0, k_b1, k_z1, k_z0, k_o1, k_o0, Int.reduceEq, Int.reduceLT, Int.reduceLE, Int.reduceAdd, Int.reduceMul, Int.reduceNeg, Bool.false_eq_true, or_true, true_or, or_false, false_or, and_true, true_and, and_false, false_and, not_true_eq_false, not_false_eq_true, ↓reduceIte, z_0, z_k, s_I, s_J, s_uI, s_uJ, z, zw, c_oc_27, jc1 q0, ht9, jc1 q1, c_gP_72_0, c_qa_73, f_oc, jc1 q2, c_oc_72, jc1 q3]
              rw [show j_z (way = -9) = j_k 0 from if_neg (by omega)]
            · have z3 : j_z (hold f' to ≠ -9) = j_k 1 := if_pos hho
              rw [z3] at q3
              obtain ⟨I2, u1, u2, u3⟩ := rest I' q4
              refine ⟨I2, ?_, q4.tr u2, u3.trans q5⟩
              have hh : ¬ p_harm w h gr n hold f' c way = true := fun y => by
                have := of_decide_eq_true y
                rw [hwt] at this
                exact this.2.elim hin hho
              rw [if_neg hh]
              simp (disch := first | assumption | omega) only [k_add, k_sub, k_mul, k_lt, k_eq, k_lt0, k_0lt, k_eq0, k_nat, k_b0, k_b1, k_z1, k_z0, k_o1, k_o0, Int.reduceEq, Int.reduceLT, Int.reduceLE, Int.reduceAdd, Int.reduceMul, Int.reduceNeg, Bool.false_eq_true, or_true, true_or, or_false, false_or, and_true, true_and, and_false, false_and, not_true_eq_false, not_false_eq_true, ↓reduceIte, z_0, z_k, s_I, s_J, s_uI, s_uJ, z, zw, c_oc_27, jc1 q0, ht9, jc1 q1, c_gP_72_0, c_qa_73, f_oc, jc1 q2, c_oc_72, jc1 q3]
              exact u1
        · have hop2 : gr to = 1 ∨ gr to = 2 := by
            by_cases y : gr to = 1
            · exact Or.inl y
            · exact Or.inr (Classical.byContradiction fun y2 => hop ⟨y, y2⟩)
          rw [if_pos (Or.inr hop2)] at hwt
          have z1 : j_z (gr to ≠ 1 ∧ gr to ≠ 2) = j_k 0 := if_neg hop
          rw [z1] at q1
          obtain ⟨I2, u1, u2, u3⟩ := rest I frW.rf
          refine ⟨I2, ?_, u2, u3⟩
          have hh : ¬ p_harm w h gr n hold f' c way = true := fun y => (of_decide_eq_true y).1 hwt
          rw [if_neg hh]
          simp (disch := first | assumption | omega) only [k_add, k_sub, k_mul, k_lt, k_eq, k_lt0, k_0lt, k_eq0, k_nat, k_b0, k_b1, k_z1, k_z0, k_o1, k_o0, Int.reduceEq, Int.reduceLT, Int.reduceLE, Int.reduceAdd, Int.reduceMul, Int.reduceNeg, Bool.false_eq_true, or_true, true_or, or_false, false_or, and_true, true_and, and_false, false_and, not_true_eq_false, not_false_eq_true, ↓reduceIte, z_0, z_k, s_I, s_J, s_uI, s_uJ, z, zw, c_oc_27, jc1 q0, ht9, jc1 q1]
          exact u1
theorem s_shepherd (hC : okC w h N n gr kd) : ∀ (t : Nat) (done turns b : Int) (f : Fl) (c : Int) (I : Nat → Nat → Int32), 0 ≤ done → done + t = turns → turns ≤ 2 → 0 ≤ c → c < N → gr c ≠ 1 → gr c ≠ 2 → iF I (wA done) n kd f → okF N n b f → b + 40 * (t + 1) ≤ 900000 → iG I 27 w h N gr → iT I → I 72 1 = j_k turns → I 72 2 = j_k l0 → 0 ≤ l0 → l0 ≤ 4 →
    ∃ I', j_run (d + 7 + 2 * t) 66 [.ref 72, .ref 27, .int (j_k c), .int (j_k done)] (ST L p I J) = some (some (.int (j_z (p_hold (p_drive w h gr n kd) (4 * n).toNat w h gr n l0 t f c ≠ -9))), ST L p I' J) ∧ frW (wA (done + 1)) I I' ∧ (done ≠ 0 → I' 72 3 = I 72 3) ∧ (done = 0 → 0 < t → p_hold (p_drive w h gr n kd) (4 * n).toNat w h gr n l0 t f c ≠ -9 → I' 72 3 = j_k (if p_hold (p_drive w h gr n kd) (4 * n).toNat w h gr n l0 t f c < 0 then -9 else p_hold (p_drive w h gr n kd) (4 * n).toNat w h gr n l0 t f c)) := by
  have hn := hC.2.2.1
  have hn4 := hC.2.2.2.1
  obtain ⟨b1, b2, -⟩ := bd_N hC
  intro t
  induction t with
  | zero =>
    intro done turns b f c I d1 d2 d3 c1 c2 g1 g2 hi ho hb hG hT ht hl l1 l2
    refine ⟨I, ?_, frW.rf, fun _ => rfl, fun _ z => absurd z (by decide)⟩
    have z : ¬ done < turns := by omega
    rw [show d + 7 + 2 * 0 = (d + 6) + 1 by omega, r_66, t_66_0]
    simp (disch := first | assumption | omega) only [k_add, k_sub, k_mul, k_lt, k_eq, k_lt0, k_0lt, k_eq0, k_nat, k_b0, k_b1, k_z1, k_z0, k_o1, k_o0, Int.reduceEq, Int.reduceLT, Int.reduceLE, Int.reduceAdd, Int.reduceMul, Int.reduceNeg, Bool.false_eq_true, or_true, true_or, or_false, false_or, and_true, true_and, and_false, false_and, not_true_eq_false, not_false_eq_true, ↓reduceIte, z_0, z_k, s_I, s_J, s_uI, s_uJ, c_oc_72, ht, z]
    rfl
  | succ t ih =>
    intro done turns b f c I d1 d2 d3 c1 c2 g1 g2 hi ho hb hG hT ht hl l1 l2
    have z : done < turns := by omega
    have z2 : done < 2 := by omega
    have hA := fa_w d1 (show done < 3 by omega)
    have hA1 := fa_w (show 0 ≤ done + 1 by omega) (show done + 1 < 3 by omega)
    have hw0 : wA done = 74 + 4 * done.toNat := rfl
    have hw1 : wA (done + 1) = wA done + 4 := by
      show 74 + 4 * (done + 1).toNat = 74 + 4 * done.toNat + 4
      omega
    have hw2 : wA (done + 1 + 1) = wA done + 8 := by
      show 74 + 4 * (done + 1 + 1).toNat = 74 + 4 * done.toNat + 8
      omega
    generalize hH : p_hold (p_drive w h gr n kd) (4 * n).toNat w h gr n l0 t = hold at ih
    let good : Int → Bool := fun code => match p_opt (p_drive w h gr n kd) f code with
      | none => false
      | some f' => decide (p_lost n f' ≤ l0) && decide (p_first (p_harm w h gr n hold f' c) 5 (-1) = -9)
    have hgood : p_hold (p_drive w h gr n kd) (4 * n).toNat w h gr n l0 (t + 1) f c = p_first good ((4 * n).toNat + 1) (-1) := by
      subst hH
      rfl
    rw [hgood]
    -- the shepherd's loop
    have loop : ∀ (m M : Nat) (a : Int) (I1 : Nat → Nat → Int32), -1 ≤ a → a + m = 4 * n → m < M → frW (wA (done + 1)) I I1 → I1 72 3 = I 72 3 →
        ∃ I', j_exec k_66 h_66 (j_run (d + 8 + 2 * t)) M 23 [some (.ref 72), some (.ref 27), some (.int (j_k c)), some (.int (j_k done)), some (.ref (wA (done + 1))), some (.int (j_k a))] [] (ST L p I1 J) = some (some (.int (j_z (p_first good m a ≠ -9))), ST L p I' J) ∧ frW (wA (done + 1)) I1 I' ∧ (done ≠ 0 → I' 72 3 = I1 72 3) ∧ (done = 0 → p_first good m a ≠ -9 → I' 72 3 = j_k (if p_first good m a < 0 then -9 else p_first good m a)) := by
      intro m
      induction m with
      | zero =>
        intro M a I1 a1 a2 hM hf h3
        obtain ⟨M, rfl⟩ : ∃ q, M = q + 1 := ⟨M - 1, by omega⟩
        have zz : ¬ a < 4 * n := by omega
        have hi1 : iF I1 (wA done) n kd f := hi.cg (fun r x1 x2 => hf.1 r (by omega) (by omega))
        have q1 := s_drives (L := L) (p := p) (d := d + 7 + 2 * t) (J := J) hA hi1
        rw [show d + 7 + 2 * t + 1 = d + 8 + 2 * t by omega] at q1
        refine ⟨I1, ?_, frW.rf, fun _ => rfl, fun _ y => absurd rfl y⟩
        rw [x_exec, t_66_23, c_gP_72_0, c_qa_73 d1 (by omega), f_oc hA, jc1 q1]
        simp (disch := first | assumption | omega) only [k_add, k_sub, k_mul, k_lt, k_eq, k_lt0, k_0lt, k_eq0, k_nat, k_b0, k_b1, k_z1, k_z0, k_o1, k_o0, Int.reduceEq, Int.reduceLT, Int.reduceLE, Int.reduceAdd, Int.reduceMul, Int.reduceNeg, Bool.false_eq_true, or_true, true_or, or_false, false_or, and_true, true_and, and_false, false_and, not_true_eq_false, not_false_eq_true, ↓reduceIte, z_0, z_k, s_I, s_J, s_uI, s_uJ, zz]
        rfl
      | succ m ihm =>
        intro M a I1 a1 a2 hM hf h3
        obtain ⟨M, rfl⟩ : ∃ q, M = q + 1 := ⟨M - 1, by omega⟩
        have zz : a < 4 * n := by omega
        have hi1 : iF I1 (wA done) n kd f := hi.cg (fun r x1 x2 => hf.1 r (by omega) (by omega))
        have hG1 : iG I1 27 w h N gr := hG.cg (fun r x1 x2 => hf.1 r (by omega) (by omega))
        have hT1 : iT I1 := hT.cg (hf.1 _ (by decide) (Or.inr (by decide))) (hf.1 _ (by decide) (Or.inr (by decide)))
        have q1 := s_drives (L := L) (p := p) (d := d + 7 + 2 * t) (J := J) hA hi1
        rw [show d + 7 + 2 * t + 1 = d + 8 + 2 * t by omega] at q1
        obtain ⟨I2, t1, t2, t3⟩ := s_take (L := L) (p := p) (d := d + 7 + 2 * t) (J := J) hA1 hA (Or.inr (by omega)) hi1 hn hn4
        rw [show d + 7 + 2 * t + 1 = d + 8 + 2 * t by omega] at t1
        have hf2 : frW (wA (done + 1)) I1 I2 := frW.of (by omega) (Nat.le_refl _) (by omega) t3
        have h23 : I2 72 3 = I1 72 3 := by rw [t3 72 (by omega)]
        have next := fun I' (hf' : frW (wA (done + 1)) I1 I') (h3' : I' 72 3 = I1 72 3) => ihm M (a + 1) I' (by omega) (by omega) (by omega) (hf.tr hf') (h3'.trans h3)
        -- behind the drive: the flock f' in the next place, its lost ones, the wolf
        have behind : ∀ (f' : Fl) (b' : Int) (I3 : Nat → Nat → Int32), okF N n b' f' → b' + 40 * (t + 1) ≤ 900000 → iF I3 (wA (done + 1)) n kd f' → frW (wA (done + 1)) I1 I3 → I3 72 3 = I1 72 3 → 
            j_run (d + 8 + 2 * t) 14 [.ref (wA (done + 1))] (ST L p I3 J) = some (some (.int (j_k (p_lost n f'))), ST L p I3 J) ∧ ∃ I4, j_run (d + 8 + 2 * t) 67 [.ref 72, .ref 27, .int (j_k c), .int (j_k (done + 1))] (ST L p I3 J) = some (some (.int (j_z (p_first (p_harm w h gr n hold f' c) 5 (-1) = -9))), ST L p I4 J) ∧ frW (wA (done + 1)) I3 I4 ∧ I4 72 3 = I3 72 3 := by
          intro f' b' I3 ho' hb' hi3 hf3 h33
          have hfI : frW (wA (done + 1)) I I3 := hf.tr hf3
          have hG3 : iG I3 27 w h N gr := hG.cg (fun r x1 x2 => hfI.1 r (by omega) (by omega))
          have hT3 : iT I3 := hT.cg (hfI.1 _ (by decide) (Or.inr (by decide))) (hfI.1 _ (by decide) (Or.inr (by decide)))
          have p1 := s_lostOnes (L := L) (p := p) (d := d + 7 + 2 * t) (J := J) hA1 hi3 hn hn4 ho' (by omega)
          rw [show d + 7 + 2 * t + 1 = d + 8 + 2 * t by omega] at p1
          refine ⟨p1, ?_⟩
          have WF := s_wolfFails (L := L) (p := p) (d := d + 6 + 2 * t) (J := J) (l0 := l0) hC (t := t) (hold := hold) (done := done + 1) (turns := turns) (b := b') (f' := f') (by omega) (by omega) ho' (fun I5 c5 x1 x2 o1 o2 x3 x4 x5 x6 x7 => by
            obtain ⟨I6, y1, y2, y3, -⟩ := ih (done + 1) turns b' f' c5 I5 (by omega) (by omega) d3 x1 x2 o1 o2 x3 ho' hb' x4 x5 x6 x7 l1 l2
            rw [show d + 7 + 2 * t = d + 6 + 2 * t + 1 by omega] at y1
            exact ⟨I6, y1, y2, y3⟩) 5 999999 (-1) c I3 (Int.le_refl _) (by decide) (by decide) c1 c2 g1 g2 hi3 hG3 hT3 (by rw [hfI.2 1 (by decide)]; exact ht) (by rw [hfI.2 2 (by decide)]; exact hl) (by omega)
          obtain ⟨I4, w1, w2, w3⟩ := WF
          refine ⟨I4, ?_, w2.le (by omega), w3⟩
          rw [show d + 8 + 2 * t = (d + 6 + 2 * t + 1) + 1 by omega, r_67, t_67_0]
          exact w1
        -- it holds: the end
        have fin : ∀ (I4 : Nat → Nat → Int32), frW (wA (done + 1)) I1 I4 → I4 72 3 = I1 72 3 → good a = true → ∃ I', (if done = 0 then I' = u2 I4 72 3 (j_k (if a < 0 then -9 else a)) else I' = I4) ∧ frW (wA (done + 1)) I1 I' ∧ (done ≠ 0 → I' 72 3 = I1 72 3) ∧ (done = 0 → p_first good (m + 1) a ≠ -9 → I' 72 3 = j_k (if p_first good (m + 1) a < 0 then -9 else p_first good (m + 1) a)) ∧ p_first good (m + 1) a = a := by
          intro I4 f1 f2 f3
          have ea : p_first good (m + 1) a = a := by rw [p_firstS, if_pos f3]
          rw [ea]
          by_cases hd : done = 0
          · refine ⟨u2 I4 72 3 (j_k (if a < 0 then -9 else a)), by rw [if_pos hd], ⟨fun r x1 x2 => ?_, fun k hk => ?_⟩, fun y => absurd hd y, fun _ _ => u2_ss _ _ _ _, rfl⟩
            · rw [← f1.1 r x1 x2]
              funext i
              rw [u2_r x1]
            · rw [u2_k (by omega)]
              exact f1.2 k hk
          · exact ⟨I4, by rw [if_neg hd], f1, fun _ => f2, fun y => absurd y hd, rfl⟩
        have na9 : ¬ a = -9 := by omega
        have zfin : j_z (a ≠ -9) = j_k 1 := if_pos na9
        -- behind a drive to f', at I3
        have go : ∀ (f' : Fl) (b' : Int) (I3 : Nat → Nat → Int32), p_opt (p_drive w h gr n kd) f a = some f' → okF N n b' f' → b' + 40 * (t + 1) ≤ 900000 → iF I3 (wA (done + 1)) n kd f' → frW (wA (done + 1)) I1 I3 → I3 72 3 = I1 72 3 → 
            (∀ (x : Option Rr), (j_c1 (j_run (d + 8 + 2 * t)) 14 [.ref (wA (done + 1))] (ST L p I3 J) (fun x9 τ8 =>
      j_oc τ8 5 72 (if (s_I τ8 72 2) < x9 then (j_exec k_66 h_66 (j_run (d + 8 + 2 * t)) M 23 [some (.ref 72), some (.ref 27), some (.int (j_k c)), some (.int (j_k done)), some (.ref (wA (done + 1))), some (.int (j_k a + j_k 1))] [] τ8)
      else j_oc τ8 5 72 (j_c1 (j_run (d + 8 + 2 * t)) 67 [.ref 72, .ref 27, .int (j_k c), .int (j_k done + j_k 1)] τ8 (fun x11 τ10 =>
      if x11 = 0 then (j_exec k_66 h_66 (j_run (d + 8 + 2 * t)) M 23 [some (.ref 72), some (.ref 27), some (.int (j_k c)), some (.int (j_k done)), some (.ref (wA (done + 1))), some (.int (j_k a + j_k 1))] [] τ10)
      else if j_k done = 0 then (if j_k a < 0 then (if 72 < j_b then j_oc τ10 5 72 (let τ12 : Sto := s_uI τ10 72 3 (j_k (-9));
        if (j_k 1) = 0 ∨ (j_k 1) = 1 then some (some (.int (j_k 1)), τ12) else none) else none)
       else if 72 < j_b then j_oc τ10 5 72 (let τ13 : Sto := s_uI τ10 72 3 (j_k a);
       if (j_k 1) = 0 ∨ (j_k 1) = 1 then some (some (.int (j_k 1)), τ13) else none) else none)
      else if (j_k 1) = 0 ∨ (j_k 1) = 1 then some (some (.int (j_k 1)), τ10) else none)))) = x) → ∃ I', x = some (some (.int (j_z (p_first good (m + 1) a ≠ -9))), ST L p I' J) ∧ frW (wA (done + 1)) I1 I' ∧ (done ≠ 0 → I' 72 3 = I1 72 3) ∧ (done = 0 → p_first good (m + 1) a ≠ -9 → I' 72 3 = j_k (if p_first good (m + 1) a < 0 then -9 else p_first good (m + 1) a))) := by
          intro f' b' I3 hop ho' hb' hi3 hf3 h33 x hx
          obtain ⟨L1, I4, W1, W2, W3⟩ := behind f' b' I3 ho' hb' hi3 hf3 h33
          have l3 : I3 72 2 = j_k l0 := by rw [hf3.2 2 (by decide), hf.2 2 (by decide)]; exact hl
          have hlr := lost_rg (f := f') hn
          have hga : good a = (decide (p_lost n f' ≤ l0) && decide (p_first (p_harm w h gr n hold f' c) 5 (-1) = -9)) := by
            show (match p_opt (p_drive w h gr n kd) f a with
              | none => false
              | some f' => decide (p_lost n f' ≤ l0) && decide (p_first (p_harm w h gr n hold f' c) 5 (-1) = -9)) = _
            rw [hop]
          rw [jc1 L1] at hx
          by_cases y1 : p_lost n f' ≤ l0
          · have y1' : ¬ l0 < p_lost n f' := by omega
            by_cases y2 : p_first (p_harm w h gr n hold f' c) 5 (-1) = -9
            · have z1 : j_z (p_first (p_harm w h gr n hold f' c) 5 (-1) = -9) = j_k 1 := if_pos y2
              rw [z1] at W1
              obtain ⟨I', u1, u2', u3, u4, u5⟩ := fin I4 (hf3.tr W2) (W3.trans h33) (by rw [hga]; simp [y1, y2])
              refine ⟨I', ?_, u2', u3, u4⟩
              rw [← hx, u5, zfin]
              simp (disch := first | assumption | omega) only [k_add, k_sub, k_mul, k_lt, k_eq, k_lt0, k_0lt, k_eq0, k_nat, k_b0, k_b1, k_z1, k_z0, k_o1, k_o0, Int.reduceEq, Int.reduceLT, Int.reduceLE, Int.reduceAdd, Int.reduceMul, Int.reduceNeg, Bool.false_eq_true, or_true, true_or, or_false, false_or, and_true, true_and, and_false, false_and, not_true_eq_false, not_false_eq_true, ↓reduceIte, z_0, z_k, s_I, s_J, s_uI, s_uJ, c_oc_72, l3, y1', jc1 W1, c_lt_72]
              by_cases hd : done = 0
              · rw [if_pos hd] at u1 ⊢
                by_cases y3 : a < 0
                · rw [if_pos y3] at u1 ⊢
                  rw [u1]
                · rw [if_neg y3] at u1 ⊢
                  rw [u1]
              · rw [if_neg hd] at u1 ⊢
                rw [u1]
            · have z1 : j_z (p_first (p_harm w h gr n hold f' c) 5 (-1) = -9) = j_k 0 := if_neg y2
              rw [z1] at W1
              have e0 : p_first good (m + 1) a = p_first good m (a + 1) := by rw [p_firstS, if_neg (by rw [hga]; simp [y2])]
              rw [e0]
              obtain ⟨I', u1, u2', u3, u4⟩ := next I4 (hf3.tr W2) (W3.trans h33)
              refine ⟨I', ?_, (hf3.tr W2).tr u2', fun y => (u3 y).trans (W3.trans h33), u4⟩
              rw [← hx]
              simp (disch := first | assumption | omega) only [k_add, k_sub, k_mul, k_lt, k_eq, k_lt0, k_0lt, k_eq0, k_nat, k_b0, k_b1, k_z1, k_z0, k_o1, k_o0, Int.reduceEq, Int.reduceLT, Int.reduceLE, Int.reduceAdd, Int.reduceMul, Int.reduceNeg, Bool.false_eq_true, or_true, true_or, or_false, false_or, and_true, true_and, and_false, false_and, not_true_eq_false, not_false_eq_true, ↓reduceIte, z_0, z_k, s_I, s_J, s_uI, s_uJ, c_oc_72, l3, y1', jc1 W1]
              exact u1
          · have y1' : l0 < p_lost n f' := by omega
            have e0 : p_first good (m + 1) a = p_first good m (a + 1) := by rw [p_firstS, if_neg (by rw [hga]; simp [y1])]
            rw [e0]
            obtain ⟨I', u1, u2', u3, u4⟩ := next I3 hf3 h33
            refine ⟨I', ?_, hf3.tr u2', fun y => (u3 y).trans h33, u4⟩
            rw [← hx]
            simp (disch := first | assumption | omega) only [k_add, k_sub, k_mul, k_lt, k_eq, k_lt0, k_0lt, k_eq0, k_nat, k_b0, k_b1, k_z1, k_z0, k_o1, k_o0, Int.reduceEq, Int.reduceLT, Int.reduceLE, Int.reduceAdd, Int.reduceMul, Int.reduceNeg, Bool.false_eq_true, or_true, true_or, or_false, false_or, and_true, true_and, and_false, false_and, not_true_eq_false, not_false_eq_true, ↓reduceIte, z_0, z_k, s_I, s_J, s_uI, s_uJ, c_oc_72, l3, y1']
            exact u1
        rw [x_exec, t_66_23, c_gP_72_0, c_qa_73 d1 (by omega), f_oc hA, jc1 q1, if_pos (by rw [k_lt (by omega) (by omega) (by omega) (by omega)]; exact zz), c_gP_72_0, c_qa_73 d1 (by omega), f_oc hA1, jc0 t1]
        by_cases a0 : a < 0
        · rw [if_pos (by rw [k_lt0 (by omega) (by omega)]; exact a0), f_oc hA1]
          exact go f b I2 (if_pos a0) ho (by omega) t2 hf2 h23 _ rfl
        · rw [if_neg (by rw [k_lt0 (by omega) (by omega)]; exact a0), f_oc hA1]
          have hop : p_opt (p_drive w h gr n kd) f a = p_drive w h gr n kd f a := if_neg a0
          obtain ⟨I3, v1, v2, v3⟩ := s_driveBy (L := L) (p := p) (d := d + 3 + 2 * t) (J := J) hA1 ga_27 t2 (hG1.fr hA1 ga_27 t3) (hT1.fr hA1 t3) hC ho (by omega) (show 0 ≤ a by omega) zz
          rw [show d + 3 + 2 * t + 5 = d + 8 + 2 * t by omega] at v1
          have hf3 : frW (wA (done + 1)) I1 I3 := hf2.tr (frW.of (by omega) (Nat.le_refl _) (by omega) v3)
          have h33 : I3 72 3 = I1 72 3 := by rw [v3 72 (by omega)]; exact h23
          cases hd : p_drive w h gr n kd f a with
          | none =>
            rw [hd] at v1 v2
            have e0 : p_first good (m + 1) a = p_first good m (a + 1) := by
              rw [p_firstS, if_neg]
              show ¬ (match p_opt (p_drive w h gr n kd) f a with
                | none => false
                | some f' => decide (p_lost n f' ≤ l0) && decide (p_first (p_harm w h gr n hold f' c) 5 (-1) = -9)) = true
              rw [hop, hd]
              simp
            rw [e0]
            obtain ⟨I', u1, u2', u3, u4⟩ := next I3 hf3 h33
            refine ⟨I', ?_, hf3.tr u2', fun y => (u3 y).trans h33, u4⟩
            rw [jc1 v1]
            rw [k_add]
            exact u1
          | some f' =>
            rw [hd] at v1 v2
            rw [jc1 v1]
            rw [if_neg (by show ¬ j_k 1 = 0; decide), f_oc hA1]
            exact go f' (b + 40) I3 (hop.trans hd) (drive_ok hC ho (by omega) zz hd) (by omega) v2 hf3 h33 _ rfl
    obtain ⟨I', e1, e2, e3, e4⟩ := loop ((4 * n).toNat + 1) 999999 (-1) I (Int.le_refl _) (by omega) (by omega) frW.rf rfl
    refine ⟨I', ?_, e2, e3, fun y _ y2 => e4 y y2⟩
    rw [show d + 7 + 2 * (t + 1) = (d + 8 + 2 * t) + 1 by omega, r_66, t_66_0]
    simp (disch := first | assumption | omega) only [k_add, k_sub, k_mul, k_lt, k_eq, k_lt0, k_0lt, k_eq0, k_nat, k_b0, k_b1, k_z1, k_z0, k_o1, k_o0, Int.reduceEq, Int.reduceLT, Int.reduceLE, Int.reduceAdd, Int.reduceMul, Int.reduceNeg, Bool.false_eq_true, or_true, true_or, or_false, false_or, and_true, true_and, and_false, false_and, not_true_eq_false, not_false_eq_true, ↓reduceIte, z_0, z_k, s_I, s_J, s_uI, s_uJ, c_oc_72, ht, z, c_gP_72_0, c_qa_73]
    exact e1
end WATCH
