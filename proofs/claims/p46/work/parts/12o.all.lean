/-! ===== the turns, all; who can never come together ===== -/
theorem nev_rg {rb : Int → Int → Bool} {n : Int} {f : Fl} (n0 : 0 ≤ n) (n4 : n ≤ 4) : 0 ≤ (p_nev rb n f).1 ∧ (p_nev rb n f).1 ≤ 16 := by
  have hl := loop_inv (b := p_nevO rb n f) (P := fun k s => 0 ≤ s.1 ∧ s.1 ≤ 4 * k) n.toNat 0 (0, -9) ⟨Int.le_refl 0, Int.le_refl 0⟩ (fun k s k0 k1 hs => by
    unfold p_nevO
    by_cases z : f (5 + k) = -9
    · rw [if_pos z]
      exact ⟨hs.1, by have := hs.2; omega⟩
    · rw [if_neg z]
      have h2 := loop_inv (b := p_nevI rb f k) (P := fun j t => 0 ≤ t.1 ∧ t.1 ≤ s.1 + (j - (k + 1))) (n - (k + 1)).toNat (k + 1) s ⟨hs.1, by omega⟩ (fun j t j0 j1 ht => by
        unfold p_nevI
        by_cases y : f (5 + j) = -9 ∨ rb k j = true
        · rw [if_pos y]
          exact ⟨ht.1, by have := ht.2; omega⟩
        · rw [if_neg y]
          exact ⟨show 0 ≤ t.1 + 1 by have := ht.1; omega, show t.1 + 1 ≤ s.1 + (j + 1 - (k + 1)) by have := ht.2; omega⟩)
      exact ⟨h2.1, by have := h2.2; have := hs.2; omega⟩)
  exact ⟨hl.1, by have := hl.2; have e : p_loop (p_nevO rb n f) n.toNat 0 (0, -9) = p_nev rb n f := rfl; rw [e] at this; omega⟩
section TURNS2
variable {L p d : Nat} {kd ce : Fl} {I : Nat → Nat → Int32} {J : Nat → Nat → Int64} {A : Ast}
theorem lw_never (hL : 2000 ≤ L) {turn nv pr : Int} {v8 : Int32} (nv0 : 0 ≤ nv) (nv1 : nv ≤ 16) (t0 : 0 ≤ turn) (t1 : turn ≤ 100) (hN : a_N A ≠ 0) (hx : iX I J A) (hw : lwI kd ce I A turn) (hs : sepI A nv pr) {M : Nat} (hM : 10 < M) : ∃ (p' : Nat) (I' : Nat → Nat → Int32) (J' : Nat → Nat → Int64), j_exec k_137 h_137 (j_run (d + 12)) M 451 (lwL (a_gn A) (j_k nv) (j_k pr) v8 [none, none, none, none, none, none, none, none]) [] (ST L p I J) = some (some (.int (j_k 1)), ST L p' I' J') := by
  obtain ⟨hG, hI, hD, ha, hf0, h1, h2⟩ := hw
  have n4 := hx.1.1.2.2.2.1
  obtain ⟨M, rfl⟩ : ∃ q, M = q + 1 := ⟨M - 1, by omega⟩
  obtain ⟨M, rfl⟩ : ∃ q, M = q + 1 := ⟨M - 1, by omega⟩
  by_cases z : 0 < nv
  · obtain ⟨i, j, i0, ij, j1, e, P, hc, hp⟩ := hs z
    have ai := (ha i i0 (by omega)).1
    have aj := (ha j (by omega) j1).1
    have ri := hx.1.2.1.1 i i0 (by omega)
    have rj := hx.1.2.1.1 j (by omega) j1
    have hN30 := (bd_N hx.1.1).2.1
    have e1 : (10 * i + j) / 10 = i := by omega
    have e2 : 10 * i + j - i * 10 = j := by omega
    subst e
    obtain ⟨p1, I1, J1, u⟩ := lw_end (L := L) (p := p) (d := d) (v6 := j_k nv) (v7 := j_k (10 * i + j)) (v8 := j_k i) hx hN h1 h2 (by omega) (M := M)
    refine ⟨p1, I1, J1, ?_⟩
    rw [x_exec, t_137_451]
    by_cases y1 : a_fl A (5 + i) = -9
    · rw [y1] at ai
      simp (disch := first | assumption | omega) only [k_add, k_sub, k_mul, k_lt, k_eq, k_lt0, k_0lt, k_eq0, k_nat, k_b0, k_b1, k_z1, k_z0, k_o1, k_o0, Int.reduceEq, Int.reduceLT, Int.reduceLE, Int.reduceAdd, Int.reduceMul, Int.reduceNeg, Int.reduceToNat, Bool.false_eq_true, or_true, true_or, or_false, false_or, and_true, true_and, and_false, false_and, not_true_eq_false, not_false_eq_true, ↓reduceIte, z_0, z_k, s_I, s_J, s_uI, s_uJ, z, k_divp, e1, ↓c_ia_88 hL, ai]
      exact u
    · have zi : ¬ a_fl A (5 + i) < 0 := by omega
      by_cases y2 : a_fl A (5 + j) = -9
      · rw [y2] at aj
        simp (disch := first | assumption | omega) only [k_add, k_sub, k_mul, k_lt, k_eq, k_lt0, k_0lt, k_eq0, k_nat, k_b0, k_b1, k_z1, k_z0, k_o1, k_o0, Int.reduceEq, Int.reduceLT, Int.reduceLE, Int.reduceAdd, Int.reduceMul, Int.reduceNeg, Int.reduceToNat, Bool.false_eq_true, or_true, true_or, or_false, false_or, and_true, true_and, and_false, false_and, not_true_eq_false, not_false_eq_true, ↓reduceIte, z_0, z_k, s_I, s_J, s_uI, s_uJ, z, k_divp, e1, e2, ↓c_ia_88 hL, ai, aj, zi]
        exact u
      · have zj : ¬ a_fl A (5 + j) < 0 := by omega
        have r1 := ri.resolve_left y1
        have r2 := rj.resolve_left y2
        have hf := sep_far hx.1.1 hx.1.2.1 hD hc i0 (by omega) (by omega) j1 hp y1 y2
        have ho := off_rg hx.1.1 r1.1 r1.2 r2.1 r2.2
        have hoff : j_run (d + 12) 132 [.ref 87, .int (j_k (a_fl A (5 + i))), .int (j_k (a_fl A (5 + j)))] (ST L p I J) = some (some (.int (j_k (p_off (a_gw A) (a_fl A (5 + i)) (a_fl A (5 + j))))), ST L p I J) := lw_off (d := d + 11) (n := a_gn A) (gr := a_gr A) (kd := kd) (ce := ce) hG.1 hI.1 r1.1 r1.2 r2.1 r2.2
        have zo : ¬ p_off (a_gw A) (a_fl A (5 + i)) (a_fl A (5 + j)) < 2 := by omega
        simp (disch := first | assumption | omega) only [k_add, k_sub, k_mul, k_lt, k_eq, k_lt0, k_0lt, k_eq0, k_nat, k_b0, k_b1, k_z1, k_z0, k_o1, k_o0, Int.reduceEq, Int.reduceLT, Int.reduceLE, Int.reduceAdd, Int.reduceMul, Int.reduceNeg, Int.reduceToNat, Bool.false_eq_true, or_true, true_or, or_false, false_or, and_true, true_and, and_false, false_and, not_true_eq_false, not_false_eq_true, ↓reduceIte, z_0, z_k, s_I, s_J, s_uI, s_uJ, z, k_divp, e1, e2, ↓c_ia_88 hL, ai, aj, zi, zj, ↓jc1 hoff, zo]
        exact u
  · obtain ⟨p1, I1, J1, u⟩ := lw_end (L := L) (p := p) (d := d) (v6 := j_k nv) (v7 := j_k pr) (v8 := v8) hx hN h1 h2 (by omega) (M := M)
    refine ⟨p1, I1, J1, ?_⟩
    rw [x_exec, t_137_451]
    simp (disch := first | assumption | omega) only [k_add, k_sub, k_mul, k_lt, k_eq, k_lt0, k_0lt, k_eq0, k_nat, k_b0, k_b1, k_z1, k_z0, k_o1, k_o0, Int.reduceEq, Int.reduceLT, Int.reduceLE, Int.reduceAdd, Int.reduceMul, Int.reduceNeg, Int.reduceToNat, Bool.false_eq_true, or_true, true_or, or_false, false_or, and_true, true_and, and_false, false_and, not_true_eq_false, not_false_eq_true, ↓reduceIte, z_0, z_k, s_I, s_J, s_uI, s_uJ, z]
    exact u
theorem lw_turns (hL : 2000 ≤ L) {nv pr : Int} (nv0 : 0 ≤ nv) (nv1 : nv ≤ 16) : ∀ (t M p : Nat) (turn : Int) (I : Nat → Nat → Int32) (J : Nat → Nat → Int64) (A : Ast), 0 ≤ turn → turn + t = 8 → 400 * t + 20 < M → a_N A ≠ 0 → iX I J A → lwI kd ce I A turn → sepI A nv pr → ∃ (p' : Nat) (I' : Nat → Nat → Int32) (J' : Nat → Nat → Int64), j_exec k_137 h_137 (j_run (d + 12)) M 88 (lwL (a_gn A) (j_k nv) (j_k pr) (j_k turn) [none, none, none, none, none, none, none, none]) [] (ST L p I J) = some (some (.int (j_k 1)), ST L p' I' J')
  | 0, M, p, turn, I, J, A, t0, tt, hM, hN, hx, hw, hs => by
    obtain ⟨M, rfl⟩ : ∃ q, M = q + 1 := ⟨M - 1, by omega⟩
    have z : ¬ turn < 8 := by omega
    obtain ⟨p1, I1, J1, u⟩ := lw_never (L := L) (p := p) (d := d) (v8 := j_k turn) hL nv0 nv1 t0 (by omega) hN hx hw hs (M := M) (by omega)
    refine ⟨p1, I1, J1, ?_⟩
    rw [x_exec, t_137_88]
    simp (disch := first | assumption | omega) only [k_add, k_sub, k_mul, k_lt, k_eq, k_lt0, k_0lt, k_eq0, k_nat, k_b0, k_b1, k_z1, k_z0, k_o1, k_o0, Int.reduceEq, Int.reduceLT, Int.reduceLE, Int.reduceAdd, Int.reduceMul, Int.reduceNeg, Int.reduceToNat, Bool.false_eq_true, or_true, true_or, or_false, false_or, and_true, true_and, and_false, false_and, not_true_eq_false, not_false_eq_true, ↓reduceIte, z_0, z_k, s_I, s_J, s_uI, s_uJ, z]
    exact u
  | t + 1, M, p, turn, I, J, A, t0, tt, hM, hN, hx, hw, hs => by
    obtain ⟨M, rfl⟩ : ∃ q, M = q + 1 := ⟨M - 1, by omega⟩
    have n4 := hx.1.1.2.2.2.1
    have n0 := hx.1.1.2.2.1
    have z : turn < 8 := by omega
    obtain ⟨x, x0, x1, ex⟩ := lw_cell (L := L) (p := p) (d := d + 11) (I := I) (J := J) (k := 60 + turn) (by omega) (by omega)
    have ex : j_run (d + 12) 128 [.ref 1000004, .int (j_k (60 + turn))] (ST L p I J) = some (some (.int (j_k x)), ST L p I J) := ex
    by_cases y : 0 < a_gn A
    · obtain ⟨M1, p1, I1, J1, B, a1, a2, a3, a4, a5, a6⟩ := lw_stir (L := L) (p := p) (d := d) (v6 := j_k nv) (v7 := j_k pr) (v8 := j_k turn) hL x0 x1 y hx hw hs (M := M) (by omega)
      obtain ⟨M2, p2, I2, J2, C, b1, b2, b3, b4, b5, b6⟩ := lw_go (L := L) (p := p1) (d := d) (v6 := j_k nv) (v7 := j_k pr) (v9 := j_k x) hL t0 (by omega) (by rw [a3]; exact hN) a4 a5 a6 (M := M1) (by omega)
      obtain ⟨p3, I3, J3, u⟩ := lw_turns hL nv0 nv1 t M2 p2 (turn + 1) I2 J2 C (by omega) (by omega) (by omega) b3 b4 b5 b6
      refine ⟨p3, I3, J3, ?_⟩
      rw [x_exec, t_137_88]
      simp (disch := first | assumption | omega) only [k_add, k_sub, k_mul, k_lt, k_eq, k_lt0, k_0lt, k_eq0, k_nat, k_b0, k_b1, k_z1, k_z0, k_o1, k_o0, Int.reduceEq, Int.reduceLT, Int.reduceLE, Int.reduceAdd, Int.reduceMul, Int.reduceNeg, Int.reduceToNat, Bool.false_eq_true, or_true, true_or, or_false, false_or, and_true, true_and, and_false, false_and, not_true_eq_false, not_false_eq_true, ↓reduceIte, z_0, z_k, s_I, s_J, s_uI, s_uJ, z, ↓jc1 ex, y]
      exact a2.trans (b2.trans u)
    · obtain ⟨M2, p2, I2, J2, C, b1, b2, b3, b4, b5, b6⟩ := lw_go (L := L) (p := p) (d := d) (v6 := j_k nv) (v7 := j_k pr) (v9 := j_k x) hL t0 (by omega) hN hx hw hs (M := M) (by omega)
      obtain ⟨p3, I3, J3, u⟩ := lw_turns hL nv0 nv1 t M2 p2 (turn + 1) I2 J2 C (by omega) (by omega) (by omega) b3 b4 b5 b6
      refine ⟨p3, I3, J3, ?_⟩
      rw [x_exec, t_137_88]
      simp (disch := first | assumption | omega) only [k_add, k_sub, k_mul, k_lt, k_eq, k_lt0, k_0lt, k_eq0, k_nat, k_b0, k_b1, k_z1, k_z0, k_o1, k_o0, Int.reduceEq, Int.reduceLT, Int.reduceLE, Int.reduceAdd, Int.reduceMul, Int.reduceNeg, Int.reduceToNat, Bool.false_eq_true, or_true, true_or, or_false, false_or, and_true, true_and, and_false, false_and, not_true_eq_false, not_false_eq_true, ↓reduceIte, z_0, z_k, s_I, s_J, s_uI, s_uJ, z, ↓jc1 ex, y]
      exact b2.trans u
/-- the law behind its rows: where they stand, who can never come together, the turns -/
theorem lw_at (hL : 2000 ≤ L) (hN : a_N A ≠ 0) : ∀ (t M p : Nat) (k : Int) (I : Nat → Nat → Int32) (J : Nat → Nat → Int64), 0 ≤ k → k + t = a_gn A → 4000 + 2 * t < M → iX I J A → okG (a_gw A) (a_gh A) (a_gn A) (a_gr A) kd ce → gI I (a_gw A) (a_gh A) (a_gn A) (a_gr A) kd ce → okD (a_gr A) (a_gn A) (a_fl A) → (∀ j, 0 ≤ j → j < a_gn A → a_fl A (5 + j) = ce j ∧ a_fl A (9 + j) = 0) → a_fl A 0 = 0 → a_rz A 1 = -1 → a_rz A 2 = -1 → (∀ j, 0 ≤ j → j < k → I 88 j.toNat = j_k (ce j)) → (∀ j, 0 ≤ j → j < a_gn A → I 89 j.toNat = j_k 0) → ∃ (p' : Nat) (I' : Nat → Nat → Int32) (J' : Nat → Nat → Int64), j_exec k_137 h_137 (j_run (d + 12)) M 49 [some (.ref 1000004), some (.ref 0), some (.ref 87), some (.int (j_k (a_gn A))), some (.ref 88), some (.ref 89), some (.int (j_k k)), none, none, none, none, none, none, none, none, none, none] [] (ST L p I J) = some (some (.int (j_k 1)), ST L p' I' J')
  | 0, M, p, k, I, J, k0, kt, hM, hx, hG, hI, hD, hF, hf0, h1, h2, ha, hb => by
    obtain ⟨M, rfl⟩ : ∃ q, M = q + 1 := ⟨M - 1, by omega⟩
    have n4 := hx.1.1.2.2.2.1
    have n0 := hx.1.1.2.2.1
    have z : ¬ k < a_gn A := by omega
    obtain ⟨rb, hrb⟩ := rb_ex A
    obtain ⟨p1, I1, J1, a1, a2, a3⟩ := x_never (L := L) (p := p) (d := d + 8) hx hrb
    have a1 : j_run (d + 12) 100 [.ref 0] (ST L p I J) = some (some (.int (j_k (p_nev rb (a_gn A) (a_fl A)).1)), ST L p1 I1 J1) := a1
    have b1 : j_run (d + 12) 105 [.ref 0] (ST L p1 I1 J1) = some (some (.int (j_k (p_nev rb (a_gn A) (a_fl A)).2)), ST L p1 I1 J1) := c_asked (L := L) (p := p1) (d := d + 1) a2
    have hnr := nev_rg (rb := rb) (f := a_fl A) n0 n4
    have hsep : sepI A (p_nev rb (a_gn A) (a_fl A)).1 (p_nev rb (a_gn A) (a_fl A)).2 := fun hp => nev_sep hrb hD hp
    have a2 : iX I1 J1 (A_told A (j_k (p_nev rb (a_gn A) (a_fl A)).2)) := a2
    generalize (p_nev rb (a_gn A) (a_fl A)).1 = nv at a1 hnr hsep
    generalize (p_nev rb (a_gn A) (a_fl A)).2 = pr at a2 b1 hsep
    obtain ⟨p2, I2, J2, u⟩ := lw_turns (L := L) (d := d) (kd := kd) (ce := ce) (nv := nv) (pr := pr) hL hnr.1 hnr.2 8 M p1 0 I1 J1 _ (Int.le_refl 0) (by decide) (by omega) (by exact hN) a2 ⟨hG, hI.cg (a3.1 87 (by decide)), hD, fun j j0 j1 => by
      have hj := hF j j0 j1
      show I1 88 j.toNat = j_k (a_fl A (5 + j)) ∧ I1 89 j.toNat = j_k (a_fl A (9 + j))
      rw [a3.1 88 (by decide), a3.1 89 (by decide), hj.1, hj.2]
      exact ⟨ha j j0 (by have : j < a_gn A := j1; omega), hb j j0 j1⟩, hf0, h1, h2⟩ hsep
    refine ⟨p2, I2, J2, ?_⟩
    rw [x_exec, t_137_49]
    simp (disch := first | assumption | omega) only [k_add, k_sub, k_mul, k_lt, k_eq, k_lt0, k_0lt, k_eq0, k_nat, k_b0, k_b1, k_z1, k_z0, k_o1, k_o0, Int.reduceEq, Int.reduceLT, Int.reduceLE, Int.reduceAdd, Int.reduceMul, Int.reduceNeg, Int.reduceToNat, Bool.false_eq_true, or_true, true_or, or_false, false_or, and_true, true_and, and_false, false_and, not_true_eq_false, not_false_eq_true, ↓reduceIte, z_0, z_k, s_I, s_J, s_uI, s_uJ, z, ↓c_oc_0, ↓jc1 a1, ↓jc1 b1]
    exact u
  | t + 1, M, p, k, I, J, k0, kt, hM, hx, hG, hI, hD, hF, hf0, h1, h2, ha, hb => by
    obtain ⟨M, rfl⟩ : ∃ q, M = q + 1 := ⟨M - 1, by omega⟩
    have n4 := hx.1.1.2.2.2.1
    have z : k < a_gn A := by omega
    have ik := (hI.2.2.2.2 k k0 z).2
    obtain ⟨p2, I2, J2, u⟩ := lw_at hL hN t M p (k + 1) (u2 I 88 k.toNat (j_k (ce k))) J (by omega) (by omega) (by omega) (iX.hi hx (fun r hr => by rw [u2_row (by omega)]) rfl) hG (hI.cg (by rw [u2_row (by decide)])) hD hF hf0 h1 h2 (fun j j0 j1 => by
      by_cases y : j = k
      · subst y
        rw [u2_ss]
      · rw [u2_k (by omega)]
        exact ha j j0 (by omega)) (fun j j0 j1 => by
      rw [u2_r (by decide)]
      exact hb j j0 j1)
    refine ⟨p2, I2, J2, ?_⟩
    rw [x_exec, t_137_49]
    simp (disch := first | assumption | omega) only [k_add, k_sub, k_mul, k_lt, k_eq, k_lt0, k_0lt, k_eq0, k_nat, k_b0, k_b1, k_z1, k_z0, k_o1, k_o0, Int.reduceEq, Int.reduceLT, Int.reduceLE, Int.reduceAdd, Int.reduceMul, Int.reduceNeg, Int.reduceToNat, Bool.false_eq_true, or_true, true_or, or_false, false_or, and_true, true_and, and_false, false_and, not_true_eq_false, not_false_eq_true, ↓reduceIte, z_0, z_k, s_I, s_J, s_uI, s_uJ, z, ↓c_ia_87, ik, ↓c_is_88 hL]
    exact u
end TURNS2
