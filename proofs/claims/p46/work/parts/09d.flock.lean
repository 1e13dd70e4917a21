/-! ===== the class's flocks: stirrings, the next cell ===== -/
theorem z_t : j_z (true = true) = j_k 1 := rfl
theorem z_f : j_z (false = true) = j_k 0 := rfl
theorem try_eq {gr : Fl} {n : Int} {kd f : Fl} {k c : Int} {gate : Bool} (h : p_try gr n kd f k c gate ≠ -9) : p_try gr n kd f k c gate = c ∧ c ≠ -9 ∧ p_can gr n kd f k c gate = true := by
  unfold p_try at h ⊢
  split at h
  · exact absurd rfl h
  · split at h
    · rename_i h1 h2
      rw [if_neg h1, if_pos h2]
      exact ⟨rfl, h1, h2⟩
    · exact absurd rfl h
theorem aim_rg {N n b : Int} {kd f : Fl} (ho : okF N n b f) (k : Int) : p_aim kd f k = -9 ∨ (0 ≤ p_aim kd f k ∧ p_aim kd f k < N) := by
  unfold p_aim
  have h1 := ho.2.2.1
  have h2 := ho.2.2.2.1
  split <;> omega
section FLOCKN
variable {L p a g d : Nat} {I : Nat → Nat → Int32} {J : Nat → Nat → Int64} {n w h N b : Int} {kd f gr : Fl}
theorem s_stirBy (hF : FA a) (hg : GA g) (hi : iF I a n kd f) (hG : iG I g w h N gr) (hT : iT I) (hC : okC w h N n gr kd) (ho : okF N n b f) {k way : Int} (h1 : 0 ≤ k) (h2 : k < n) (y1 : 0 ≤ way) (y2 : way < 4) : ∃ I', j_run (d + 2) 25 [.ref a, .ref g, .int (j_k k), .int (j_k way)] (ST L p I J) = some (some (.int (j_k (p_stir w h gr n kd f k way))), ST L p I' J) ∧ iF I' a n kd (if p_stir w h gr n kd f k way = -9 then f else p_stirF gr f k (p_stir w h gr n kd f k way)) ∧ fr a I I' := by
  have hi0 := hi
  obtain ⟨e3, e4, e5, e6, e7, e8, ek, ec, eg, ef⟩ := hi
  obtain ⟨b1, b2, -⟩ := bd_N hC
  have hn := hC.2.2.1
  have hn4 := hC.2.2.2.1
  have hk := ho.1 k h1 h2
  have q1 := s_has (L := L) (p := p) (d := d) (J := J) hF hi0 hn hn4 (k := k) (by omega) (by omega)
  have z1 : j_z (0 ≤ k ∧ k < n) = j_k 1 := if_pos ⟨h1, h2⟩
  rw [z1] at q1
  have e := (r_25 (d + 1) (ST L p I J) a g (j_k k) (j_k way)).trans (t_25_0 _ _ _ _ _ _ _)
  by_cases hl : f (5 + k) = -9
  · have hs : p_stir w h gr n kd f k way = -9 := if_pos hl
    simp (disch := first | assumption | omega) only [k_add, k_sub, k_mul, k_lt, k_eq, k_lt0, k_0lt, k_eq0, k_nat, k_b0, k_b1, k_z1, k_z0, k_o1, k_o0, Int.reduceEq, Int.reduceLT, Int.reduceLE, Int.reduceAdd, Int.reduceMul, Int.reduceNeg, Bool.false_eq_true, or_true, true_or, or_false, false_or, and_true, true_and, and_false, false_and, not_true_eq_false, not_false_eq_true, ↓reduceIte, z_0, z_k, s_I, s_J, s_uI, s_uJ, f_oc, f_gP0, f_gP1, f_gP2, f_ia0, f_ia1, f_ia2, f_is0, f_is1, f_is2, f_lt, jc1 q1, ec, hl] at e
    rw [hs]
    exact ⟨I, e, hi0, fr.rf⟩
  · have hk := hk.resolve_left hl
    have q2 := s_beside (L := L) (p := p) (d := d) (J := J) hg hG hT hC hk.1 hk.2 y1 y2
    have hr := by_rg hC hk.1 hk.2 (dxy y1 y2)
    generalize hc : p_by w h (f (5 + k)) (p_dx way) (p_dy way) = c at q2 hr
    have q3 := s_can (L := L) (p := p) (d := d) (J := J) (gate := false) hF hg hi0 hG hC h1 h2 hr
    rw [z_f] at q3
    have hs : p_stir w h gr n kd f k way = p_try gr n kd f k c false := by
      unfold p_stir
      rw [if_neg hl, hc]
    by_cases ht : p_try gr n kd f k c false = -9
    · have z3 : j_z (p_try gr n kd f k c false ≠ -9) = j_k 0 := if_neg (fun z => z ht)
      rw [z3] at q3
      simp (disch := first | assumption | omega) only [k_add, k_sub, k_mul, k_lt, k_eq, k_lt0, k_0lt, k_eq0, k_nat, k_b0, k_b1, k_z1, k_z0, k_o1, k_o0, Int.reduceEq, Int.reduceLT, Int.reduceLE, Int.reduceAdd, Int.reduceMul, Int.reduceNeg, Bool.false_eq_true, or_true, true_or, or_false, false_or, and_true, true_and, and_false, false_and, not_true_eq_false, not_false_eq_true, ↓reduceIte, z_0, z_k, s_I, s_J, s_uI, s_uJ, f_oc, f_gP0, f_gP1, f_gP2, f_ia0, f_ia1, f_ia2, f_is0, f_is1, f_is2, f_lt, g_oc, g_gP0, g_gP1, g_gP2, g_ia0, g_ia1, g_ia2, g_is0, g_is1, g_is2, g_lt, jc1 q1, jc1 q2, jc1 q3, ec, hl] at e
      rw [hs, ht]
      exact ⟨I, e, hi0, fr.rf⟩
    · have z3 : j_z (p_try gr n kd f k c false ≠ -9) = j_k 1 := if_pos ht
      rw [z3] at q3
      obtain ⟨t1, t2, t3⟩ := try_eq ht
      have hc2 := hr.resolve_left t2
      obtain ⟨I1, m1, m2, m3⟩ := s_move (L := L) (p := p) (d := d) (J := J) hF hg hi0 hG hC ho h1 h2 hl hc2.1 hc2.2.1
      obtain ⟨I2, w1, w2, w3⟩ := s_becomesLast (L := L) (p := p) (d := d) (J := J) hF m2 (k := k) (c := c)
      simp (disch := first | assumption | omega) only [k_add, k_sub, k_mul, k_lt, k_eq, k_lt0, k_0lt, k_eq0, k_nat, k_b0, k_b1, k_z1, k_z0, k_o1, k_o0, Int.reduceEq, Int.reduceLT, Int.reduceLE, Int.reduceAdd, Int.reduceMul, Int.reduceNeg, Bool.false_eq_true, or_true, true_or, or_false, false_or, and_true, true_and, and_false, false_and, not_true_eq_false, not_false_eq_true, ↓reduceIte, z_0, z_k, s_I, s_J, s_uI, s_uJ, f_oc, f_gP0, f_gP1, f_gP2, f_ia0, f_ia1, f_ia2, f_is0, f_is1, f_is2, f_lt, g_oc, g_gP0, g_gP1, g_gP2, g_ia0, g_ia1, g_ia2, g_is0, g_is1, g_is2, g_lt, jc1 q1, jc1 q2, jc1 q3, ec, hl, jc0 m1, jc0 w1] at e
      rw [hs, t1, if_neg t2]
      exact ⟨I2, e, w2, m3.tr w3⟩
end FLOCKN
