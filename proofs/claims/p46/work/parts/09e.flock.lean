/-! ===== the class's flocks: the next cell ===== -/
section FLOCKN
variable {L p a g d : Nat} {I : Nat → Nat → Int32} {J : Nat → Nat → Int64} {n w h N b : Int} {kd f gr : Fl}
/-- what one way tries -/
def p_one (w h : Int) (gr : Fl) (n : Int) (kd f : Fl) (k across down : Int) (gate away sw : Bool) : Int :=
  if sw = true then (if across = 0 then -9 else p_try gr n kd f k (p_by w h (f (5 + k)) ((if away = true then -1 else 1) * p_sgn across) 0) gate)
  else (if down = 0 then -9 else p_try gr n kd f k (p_by w h (f (5 + k)) 0 ((if away = true then -1 else 1) * p_sgn down)) gate)
abbrev tl (a g : Nat) (k aim c across down : Int) (x3 x8 : Int32) (away sw : Bool) (t : Int) : j_L := [some (.ref a), some (.ref g), some (.int (j_k k)), some (.int x3), some (.int (j_k aim)), some (.int (j_k c)), some (.int (j_k across)), some (.int (j_k down)), some (.int x8), some (.int (j_z (away = true))), some (.int (j_z (sw = true))), some (.int (j_k t)), none, none, none, none]
theorem s_turn (hF : FA a) (hg : GA g) (hi : iF I a n kd f) (hG : iG I g w h N gr) (hT : iT I) (hC : okC w h N n gr kd) (ho : okF N n b f) {k aim across down t : Int} {gate away sw : Bool} {x8 : Int32} (h1 : 0 ≤ k) (h2 : k < n) (hl : f (5 + k) ≠ -9) (a1 : -100 ≤ across) (a2 : across ≤ 100) (a3 : -100 ≤ down) (a4 : down ≤ 100) (t1 : 0 ≤ t) (t2 : t < 2) (M : Nat) :
    (p_one w h gr n kd f k across down gate away sw ≠ -9 → j_exec k_27 h_27 (j_run (d + 1)) (M + 6) 135 (tl a g k aim (f (5 + k)) across down (j_z (gate = true)) x8 away sw t) [] (ST L p I J) = some (some (.int (j_k (p_one w h gr n kd f k across down gate away sw))), ST L p I J)) ∧
    (p_one w h gr n kd f k across down gate away sw = -9 → ∃ M', M ≤ M' ∧ j_exec k_27 h_27 (j_run (d + 1)) (M + 6) 135 (tl a g k aim (f (5 + k)) across down (j_z (gate = true)) x8 away sw t) [] (ST L p I J) = j_exec k_27 h_27 (j_run (d + 1)) M' 135 (tl a g k aim (f (5 + k)) across down (j_z (gate = true)) x8 away (!sw) (t + 1)) [] (ST L p I J)) := by
  obtain ⟨b1, b2, -⟩ := bd_N hC
  have hn4 := hC.2.2.2.1
  have hk := (ho.1 k h1 h2).resolve_left hl
  have key : ∀ (way dx dy : Int), 0 ≤ way → way < 4 → p_dx way = dx → p_dy way = dy → ∃ c, p_by w h (f (5 + k)) dx dy = c ∧ j_run (d + 1) 38 [.ref g, .int (j_k (f (5 + k))), .int (j_k way)] (ST L p I J) = some (some (.int (j_k c)), ST L p I J) ∧ j_run (d + 1) 22 [.ref a, .ref g, .int (j_k k), .int (j_k c), .int (j_z (gate = true))] (ST L p I J) = some (some (.int (j_z (p_try gr n kd f k c gate ≠ -9))), ST L p I J) := by
    intro way dx dy y1 y2 e1 e2
    refine ⟨_, rfl, ?_, ?_⟩
    · rw [← e1, ← e2]
      exact s_beside hg hG hT hC hk.1 hk.2 y1 y2
    · rw [← e1, ← e2]
      exact s_can hF hg hi hG hC h1 h2 (by_rg hC hk.1 hk.2 (dxy y1 y2))
  have hsw : ∀ z : Bool, j_z ((!z) = true) = if j_z (z = true) = 0 then j_k 1 else j_k 0 := by decide
  have fin : ∀ (way dx dy : Int), 0 ≤ way → way < 4 → p_dx way = dx → p_dy way = dy → ∀ (v12 v13 : Int32) (M : Nat), 
      (p_try gr n kd f k (p_by w h (f (5 + k)) dx dy) gate ≠ -9 → j_exec k_27 h_27 (j_run (d + 1)) (M + 2) 212 [some (.ref a), some (.ref g), some (.int (j_k k)), some (.int (j_z (gate = true))), some (.int (j_k aim)), some (.int (j_k (f (5 + k)))), some (.int (j_k across)), some (.int (j_k down)), some (.int x8), some (.int (j_z (away = true))), some (.int (j_z (sw = true))), some (.int (j_k t)), some (.int v12), some (.int v13), some (.int (j_k way)), none] [] (ST L p I J) = some (some (.int (j_k (p_try gr n kd f k (p_by w h (f (5 + k)) dx dy) gate))), ST L p I J)) ∧
      (p_try gr n kd f k (p_by w h (f (5 + k)) dx dy) gate = -9 → j_exec k_27 h_27 (j_run (d + 1)) (M + 2) 212 [some (.ref a), some (.ref g), some (.int (j_k k)), some (.int (j_z (gate = true))), some (.int (j_k aim)), some (.int (j_k (f (5 + k)))), some (.int (j_k across)), some (.int (j_k down)), some (.int x8), some (.int (j_z (away = true))), some (.int (j_z (sw = true))), some (.int (j_k t)), some (.int v12), some (.int v13), some (.int (j_k way)), none] [] (ST L p I J) = j_exec k_27 h_27 (j_run (d + 1)) M 135 (tl a g k aim (f (5 + k)) across down (j_z (gate = true)) x8 away (!sw) (t + 1)) [] (ST L p I J)) := by
    intro way dx dy y1 y2 e1 e2 v12 v13 M
    obtain ⟨c, c1, c2, c3⟩ := key way dx dy y1 y2 e1 e2
    rw [c1, x_exec, t_27_212]
    constructor
    · intro ht
      have z3 : j_z (p_try gr n kd f k c gate ≠ -9) = j_k 1 := if_pos ht
      rw [z3] at c3
      simp (disch := first | assumption | omega) only [k_add, k_sub, k_mul, k_lt, k_eq, k_lt0, k_0lt, k_eq0, k_nat, k_b0, k_b1, k_z1, k_z0, k_o1, k_o0, Int.reduceEq, Int.reduceLT, Int.reduceLE, Int.reduceAdd, Int.reduceMul, Int.reduceNeg, Bool.false_eq_true, or_true, true_or, or_false, false_or, and_true, true_and, and_false, false_and, not_true_eq_false, not_false_eq_true, ↓reduceIte, z_0, z_k, s_I, s_J, s_uI, s_uJ, f_oc, f_gP0, f_gP1, f_gP2, f_ia0, f_ia1, f_ia2, f_is0, f_is1, f_is2, f_lt, g_oc, g_gP0, g_gP1, g_gP2, g_ia0, g_ia1, g_ia2, g_is0, g_is1, g_is2, g_lt, jc1 c2, jc1 c3]
      rw [(try_eq ht).1]
    · intro ht
      have z3 : j_z (p_try gr n kd f k c gate ≠ -9) = j_k 0 := if_neg (fun z => z ht)
      rw [z3] at c3
      simp (disch := first | assumption | omega) only [k_add, k_sub, k_mul, k_lt, k_eq, k_lt0, k_0lt, k_eq0, k_nat, k_b0, k_b1, k_z1, k_z0, k_o1, k_o0, Int.reduceEq, Int.reduceLT, Int.reduceLE, Int.reduceAdd, Int.reduceMul, Int.reduceNeg, Bool.false_eq_true, or_true, true_or, or_false, false_or, and_true, true_and, and_false, false_and, not_true_eq_false, not_false_eq_true, ↓reduceIte, z_0, z_k, s_I, s_J, s_uI, s_uJ, f_oc, f_gP0, f_gP1, f_gP2, f_ia0, f_ia1, f_ia2, f_is0, f_is1, f_is2, f_lt, g_oc, g_gP0, g_gP1, g_gP2, g_ia0, g_ia1, g_ia2, g_is0, g_is1, g_is2, g_lt, jc1 c2, jc1 c3]
      rw [x_exec, t_27_237]
      show _ = j_exec _ _ _ _ _ [_, _, _, _, _, _, _, _, _, _, some (.int (j_z ((!sw) = true))), _, _, _, _, _] _ _
      rw [hsw]
      simp (disch := first | assumption | omega) only [k_add, k_sub, k_mul, k_lt, k_eq, k_lt0, k_0lt, k_eq0, k_nat, k_b0, k_b1, k_z1, k_z0, k_o1, k_o0, Int.reduceEq, Int.reduceLT, Int.reduceLE, Int.reduceAdd, Int.reduceMul, Int.reduceNeg, Bool.false_eq_true, or_true, true_or, or_false, false_or, and_true, true_and, and_false, false_and, not_true_eq_false, not_false_eq_true, ↓reduceIte, z_0, z_k, s_I, s_J, s_uI, s_uJ]
      split <;> rfl
  have zer : ∀ (v12 : Int32) (M : Nat), j_exec k_27 h_27 (j_run (d + 1)) (M + 1) 237 [some (.ref a), some (.ref g), some (.int (j_k k)), some (.int (j_z (gate = true))), some (.int (j_k aim)), some (.int (j_k (f (5 + k)))), some (.int (j_k across)), some (.int (j_k down)), some (.int x8), some (.int (j_z (away = true))), some (.int (j_z (sw = true))), some (.int (j_k t)), some (.int v12), none, none, none] [] (ST L p I J) = j_exec k_27 h_27 (j_run (d + 1)) M 135 (tl a g k aim (f (5 + k)) across down (j_z (gate = true)) x8 away (!sw) (t + 1)) [] (ST L p I J) := by
    intro v12 M
    rw [x_exec, t_27_237]
    show _ = j_exec _ _ _ _ _ [_, _, _, _, _, _, _, _, _, _, some (.int (j_z ((!sw) = true))), _, _, _, _, _] _ _
    rw [hsw]
    simp (disch := first | assumption | omega) only [k_add, k_sub, k_mul, k_lt, k_eq, k_lt0, k_0lt, k_eq0, k_nat, k_b0, k_b1, k_z1, k_z0, k_o1, k_o0, Int.reduceEq, Int.reduceLT, Int.reduceLE, Int.reduceAdd, Int.reduceMul, Int.reduceNeg, Bool.false_eq_true, or_true, true_or, or_false, false_or, and_true, true_and, and_false, false_and, not_true_eq_false, not_false_eq_true, ↓reduceIte, z_0, z_k, s_I, s_J, s_uI, s_uJ]
    split <;> rfl
  have hup : ∀ (apart : Int), apart ≠ 0 → p_sgn apart = if 0 < apart then 1 else -1 := by
    intro apart h3
    unfold p_sgn
    by_cases h4 : 0 < apart
    · rw [if_pos h4, if_neg (by omega), if_pos h4]
    · rw [if_neg h4, if_pos (by omega), if_neg h4]
  have mid : ∀ (apart : Int) (M : Nat), -100 ≤ apart → apart ≤ 100 → apart ≠ 0 → ∃ v13 : Int32, j_exec k_27 h_27 (j_run (d + 1)) (M + 2) 155 [some (.ref a), some (.ref g), some (.int (j_k k)), some (.int (j_z (gate = true))), some (.int (j_k aim)), some (.int (j_k (f (5 + k)))), some (.int (j_k across)), some (.int (j_k down)), some (.int x8), some (.int (j_z (away = true))), some (.int (j_z (sw = true))), some (.int (j_k t)), some (.int (j_k apart)), none, none, none] [] (ST L p I J) = j_exec k_27 h_27 (j_run (d + 1)) M 212 [some (.ref a), some (.ref g), some (.int (j_k k)), some (.int (j_z (gate = true))), some (.int (j_k aim)), some (.int (j_k (f (5 + k)))), some (.int (j_k across)), some (.int (j_k down)), some (.int x8), some (.int (j_z (away = true))), some (.int (j_z (sw = true))), some (.int (j_k t)), some (.int (j_k apart)), some (.int v13), some (.int (j_k (if sw = true then (if (if away = true then -1 else 1) * p_sgn apart = 1 then 1 else 3) else (if (if away = true then -1 else 1) * p_sgn apart = 1 then 2 else 0)))), none] [] (ST L p I J) := by
    intro apart M q1 q2 q3
    rw [x_exec, t_27_155, hup apart q3]
    by_cases q4 : 0 < apart
    · cases away
      · refine ⟨j_k 1, ?_⟩
        simp (disch := first | assumption | omega) only [k_add, k_sub, k_mul, k_lt, k_eq, k_lt0, k_0lt, k_eq0, k_nat, k_b0, k_b1, k_z1, k_z0, k_o1, k_o0, Int.reduceEq, Int.reduceLT, Int.reduceLE, Int.reduceAdd, Int.reduceMul, Int.reduceNeg, Bool.false_eq_true, or_true, true_or, or_false, false_or, and_true, true_and, and_false, false_and, not_true_eq_false, not_false_eq_true, ↓reduceIte, z_0, z_k, s_I, s_J, s_uI, s_uJ, q3, q4, z_f]
        rw [x_exec, t_27_182]
        cases sw <;> simp (disch := first | assumption | omega) only [k_add, k_sub, k_mul, k_lt, k_eq, k_lt0, k_0lt, k_eq0, k_nat, k_b0, k_b1, k_z1, k_z0, k_o1, k_o0, Int.reduceEq, Int.reduceLT, Int.reduceLE, Int.reduceAdd, Int.reduceMul, Int.reduceNeg, Bool.false_eq_true, or_true, true_or, or_false, false_or, and_true, true_and, and_false, false_and, not_true_eq_false, not_false_eq_true, ↓reduceIte, z_0, z_k, s_I, s_J, s_uI, s_uJ, z_t, z_f] <;> rfl
      · refine ⟨j_k 0, ?_⟩
        simp (disch := first | assumption | omega) only [k_add, k_sub, k_mul, k_lt, k_eq, k_lt0, k_0lt, k_eq0, k_nat, k_b0, k_b1, k_z1, k_z0, k_o1, k_o0, Int.reduceEq, Int.reduceLT, Int.reduceLE, Int.reduceAdd, Int.reduceMul, Int.reduceNeg, Bool.false_eq_true, or_true, true_or, or_false, false_or, and_true, true_and, and_false, false_and, not_true_eq_false, not_false_eq_true, ↓reduceIte, z_0, z_k, s_I, s_J, s_uI, s_uJ, q3, q4, z_t]
        rw [x_exec, t_27_182]
        cases sw <;> simp (disch := first | assumption | omega) only [k_add, k_sub, k_mul, k_lt, k_eq, k_lt0, k_0lt, k_eq0, k_nat, k_b0, k_b1, k_z1, k_z0, k_o1, k_o0, Int.reduceEq, Int.reduceLT, Int.reduceLE, Int.reduceAdd, Int.reduceMul, Int.reduceNeg, Bool.false_eq_true, or_true, true_or, or_false, false_or, and_true, true_and, and_false, false_and, not_true_eq_false, not_false_eq_true, ↓reduceIte, z_0, z_k, s_I, s_J, s_uI, s_uJ, z_t, z_f] <;> rfl
    · cases away
      · refine ⟨j_k 0, ?_⟩
        simp (disch := first | assumption | omega) only [k_add, k_sub, k_mul, k_lt, k_eq, k_lt0, k_0lt, k_eq0, k_nat, k_b0, k_b1, k_z1, k_z0, k_o1, k_o0, Int.reduceEq, Int.reduceLT, Int.reduceLE, Int.reduceAdd, Int.reduceMul, Int.reduceNeg, Bool.false_eq_true, or_true, true_or, or_false, false_or, and_true, true_and, and_false, false_and, not_true_eq_false, not_false_eq_true, ↓reduceIte, z_0, z_k, s_I, s_J, s_uI, s_uJ, q3, q4, z_f]
        rw [x_exec, t_27_182]
        cases sw <;> simp (disch := first | assumption | omega) only [k_add, k_sub, k_mul, k_lt, k_eq, k_lt0, k_0lt, k_eq0, k_nat, k_b0, k_b1, k_z1, k_z0, k_o1, k_o0, Int.reduceEq, Int.reduceLT, Int.reduceLE, Int.reduceAdd, Int.reduceMul, Int.reduceNeg, Bool.false_eq_true, or_true, true_or, or_false, false_or, and_true, true_and, and_false, false_and, not_true_eq_false, not_false_eq_true, ↓reduceIte, z_0, z_k, s_I, s_J, s_uI, s_uJ, z_t, z_f] <;> rfl
      · refine ⟨j_k 1, ?_⟩
        simp (disch := first | assumption | omega) only [k_add, k_sub, k_mul, k_lt, k_eq, k_lt0, k_0lt, k_eq0, k_nat, k_b0, k_b1, k_z1, k_z0, k_o1, k_o0, Int.reduceEq, Int.reduceLT, Int.reduceLE, Int.reduceAdd, Int.reduceMul, Int.reduceNeg, Bool.false_eq_true, or_true, true_or, or_false, false_or, and_true, true_and, and_false, false_and, not_true_eq_false, not_false_eq_true, ↓reduceIte, z_0, z_k, s_I, s_J, s_uI, s_uJ, q3, q4, z_t]
        rw [x_exec, t_27_182]
        cases sw <;> simp (disch := first | assumption | omega) only [k_add, k_sub, k_mul, k_lt, k_eq, k_lt0, k_0lt, k_eq0, k_nat, k_b0, k_b1, k_z1, k_z0, k_o1, k_o0, Int.reduceEq, Int.reduceLT, Int.reduceLE, Int.reduceAdd, Int.reduceMul, Int.reduceNeg, Bool.false_eq_true, or_true, true_or, or_false, false_or, and_true, true_and, and_false, false_and, not_true_eq_false, not_false_eq_true, ↓reduceIte, z_0, z_k, s_I, s_J, s_uI, s_uJ, z_t, z_f] <;> rfl
  rw [x_exec, t_27_135]
  simp (disch := first | assumption | omega) only [k_add, k_sub, k_mul, k_lt, k_eq, k_lt0, k_0lt, k_eq0, k_nat, k_b0, k_b1, k_z1, k_z0, k_o1, k_o0, Int.reduceEq, Int.reduceLT, Int.reduceLE, Int.reduceAdd, Int.reduceMul, Int.reduceNeg, Bool.false_eq_true, or_true, true_or, or_false, false_or, and_true, true_and, and_false, false_and, not_true_eq_false, not_false_eq_true, ↓reduceIte, z_0, z_k, s_I, s_J, s_uI, s_uJ]
  rw [if_pos t2]
  cases sw
  · rw [if_pos (by decide : ¬ false = true)]
    unfold p_one
    rw [if_neg (by decide : ¬ false = true)]
    by_cases hz : down = 0
    · subst hz
      rw [if_pos rfl]
      refine ⟨fun z => absurd rfl z, fun _ => ⟨M + 3, by omega, ?_⟩⟩
      rw [x_exec, t_27_155, if_pos kk0]
      exact zer _ _
    · rw [if_neg hz]
      obtain ⟨v13, e13⟩ := mid down (M + 3) a3 a4 hz
      rw [e13]
      rw [if_neg (by decide : ¬ false = true)]
      have hs : (if away = true then -1 else 1) * p_sgn down = 1 ∨ (if away = true then -1 else 1) * p_sgn down = -1 := by
        rw [hup down hz]
        cases away <;> by_cases q : 0 < down <;> simp [q]
      rcases hs with hs | hs
      · rw [hs, if_pos rfl]
        have F := fin 2 0 1 (by decide) (by decide) rfl rfl (j_k down) v13 (M + 1)
        exact ⟨F.1, fun z => ⟨M + 1, by omega, F.2 z⟩⟩
      · rw [hs, if_neg (by decide)]
        have F := fin 0 0 (-1) (by decide) (by decide) rfl rfl (j_k down) v13 (M + 1)
        exact ⟨F.1, fun z => ⟨M + 1, by omega, F.2 z⟩⟩
  · rw [if_neg (by decide : ¬ ¬ true = true)]
    unfold p_one
    rw [if_pos rfl]
    by_cases hz : across = 0
    · subst hz
      rw [if_pos rfl]
      refine ⟨fun z => absurd rfl z, fun _ => ⟨M + 3, by omega, ?_⟩⟩
      rw [x_exec, t_27_155, if_pos kk0]
      exact zer _ _
    · rw [if_neg hz]
      obtain ⟨v13, e13⟩ := mid across (M + 3) a1 a2 hz
      rw [e13]
      rw [if_pos rfl]
      have hs : (if away = true then -1 else 1) * p_sgn across = 1 ∨ (if away = true then -1 else 1) * p_sgn across = -1 := by
        rw [hup across hz]
        cases away <;> by_cases q : 0 < across <;> simp [q]
      rcases hs with hs | hs
      · rw [hs, if_pos rfl]
        have F := fin 1 1 0 (by decide) (by decide) rfl rfl (j_k across) v13 (M + 1)
        exact ⟨F.1, fun z => ⟨M + 1, by omega, F.2 z⟩⟩
      · rw [hs, if_neg (by decide)]
        have F := fin 3 (-1) 0 (by decide) (by decide) rfl rfl (j_k across) v13 (M + 1)
        exact ⟨F.1, fun z => ⟨M + 1, by omega, F.2 z⟩⟩
end FLOCKN
