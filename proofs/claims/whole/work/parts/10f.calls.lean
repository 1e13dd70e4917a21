/-! ===== the class's calls: mark, stone, drive; a drive that is tried; gather, part ===== -/
def p_near (w n : Int) (f : Fl) (k : Int) : Int := p_loop (fun j s => if j ≠ k ∧ f (5 + j) ≠ -9 ∧ p_off w (f (5 + k)) (f (5 + j)) < 3 then s + 1 else s) n.toNat 0 0
def p_markA (q k : Int) (A : Ast) : Int := if q = 1 then (if a_fl A 1 = -9 ∨ a_fl A (5 + k) = -9 then -9 else p_off (a_gw A) (a_fl A (5 + k)) (a_fl A 2)) else if q = 2 then a_fl A 0 % 2 else if q = 3 then p_aim (a_kd A) (a_fl A) k else if q = 4 then p_gates (a_N A) (a_gr A) 4 else if a_fl A (5 + k) = -9 then -9 else p_near (a_gw A) (a_gn A) (a_fl A) k
def p_mark (k q : Int) (A : Ast) : Int × Ast := if (0 ≤ k ∧ k < a_gn A) ∧ 1 ≤ q ∧ q ≤ 5 then (if a_kd A k = q ∨ (q = 1 ∧ p_shy (a_kd A) k = true) ∨ (q = 2 ∧ p_slow (a_kd A) k = true) then (p_markA q k A, A) else p_meets 3 A) else (-1, A)
def p_stoneC (c : Int) (A : Ast) : Int × Ast := if (0 ≤ c ∧ c < a_N A) ∧ a_gr A c ≠ 1 then ((p_fleeL (a_gw A) (a_gh A) (a_gr A) (a_gn A) (a_kd A) (a_fl A) c).2.1, A_fl A (p_fleeE (p_fleeL (a_gw A) (a_gh A) (a_gr A) (a_gn A) (a_kd A) (a_fl A) c))) else (-1, A)
/-- a row's drives, one by one while they can be -/
def p_drv (w h : Int) (gr : Fl) (n : Int) (kd : Fl) (row : Int → Int32) : Nat → Int → Fl → Int × Fl
  | 0, k, f => (k, f)
  | m + 1, k, f => match p_drive w h gr n kd f (row k).toInt with
    | none => (k, f)
    | some f' => p_drv w h gr n kd row m (k + 1) f'
def p_driveC (r : Int) (A : Ast) : Int × Ast := if 0 ≤ r ∧ r < 6 then (if a_N A = 0 then (-4, A) else if a_rz A r = -1 then p_meets 1 A else if p_first (fun i => decide (¬ (0 ≤ (a_rv A r i).toInt ∧ (a_rv A r i).toInt < 4 * a_gn A))) (a_rz A r).toNat 0 ≠ -9 then p_meets 3 A else if 10000 < a_fl A 0 + 40 * a_rz A r then (-6, A) else ((p_drv (a_gw A) (a_gh A) (a_gr A) (a_gn A) (a_kd A) (a_rv A r) (a_rz A r).toNat 0 (a_fl A)).1, A_told (A_fl A (p_drv (a_gw A) (a_gh A) (a_gr A) (a_gn A) (a_kd A) (a_rv A r) (a_rz A r).toNat 0 (a_fl A)).2) (j_k (p_lost (a_gn A) (p_drv (a_gw A) (a_gh A) (a_gr A) (a_gn A) (a_kd A) (a_rv A r) (a_rz A r).toNat 0 (a_fl A)).2)))) else (-1, A)
theorem drv_rg {w h : Int} {gr : Fl} {n : Int} {kd : Fl} {row : Int → Int32} : ∀ (m : Nat) (k : Int) (f : Fl), k ≤ (p_drv w h gr n kd row m k f).1 ∧ (p_drv w h gr n kd row m k f).1 ≤ k + m
  | 0, k, f => ⟨Int.le_refl _, by show k ≤ k + 0; omega⟩
  | m + 1, k, f => by
    unfold p_drv
    split
    · exact ⟨Int.le_refl _, by show k ≤ _; omega⟩
    · rename_i f' _
      have := drv_rg (w := w) (h := h) (gr := gr) (n := n) (kd := kd) (row := row) m (k + 1) f'
      omega
theorem first_all {P : Int → Bool} : ∀ (m : Nat) (k : Int), 0 ≤ k → p_first P m k = -9 → ∀ i, k ≤ i → i < k + m → P i = false
  | 0, k, hk, h, i, h1, h2 => by omega
  | m + 1, k, hk, h, i, h1, h2 => by
    rw [p_firstS] at h
    by_cases z : P k = true
    · rw [if_pos z] at h
      omega
    · rw [if_neg z] at h
      by_cases y : i = k
      · subst y
        exact Bool.eq_false_iff.mpr z
      · exact first_all m (k + 1) (by omega) h i (by omega) (by omega)
section CALLS4
variable {L p d : Nat} {J : Nat → Nat → Int64} {I I' : Nat → Nat → Int32} {A : Ast} {K : Option Rr} {r i : Int}
theorem x_offLast (hx : iX I J A) {k : Int} (k1 : 0 ≤ k) (k2 : k < a_gn A) : j_run (d + 2) 121 [.ref 0, .int (j_k k)] (ST L p I J) = some (some (.int (j_k (p_markA 1 k A))), ST L p I J) := by
  have hC := hx.1.1
  have ho := hx.1.2.1
  have hG := hx.2.2.2.1
  have hF := hx.2.2.2.2.1
  have hT := hx.2.2.2.2.2.2.2.2.1
  have hM := hx.2.2.2.2.2.2.2.1
  have hn := hC.2.2.1
  have hn4 := hC.2.2.2.1
  obtain ⟨bN0, bN1, -⟩ := bd_N hC
  have hA := fa_31
  have hg := ga_27
  have hl := ho.2.2.1
  have hk := ho.1 k k1 k2
  have hv := hF.2.2.2.2.2.2.2.1 k k1 k2
  have q1 := s_isLost (L := L) (p := p) (d := d) (J := J) hA hF hn4 ho bN1 k1 k2
  have k4 : k < 4 := by omega
  unfold p_markA
  rw [if_pos rfl, r_121, t_121_0]
  by_cases z : a_fl A 1 = -9
  · rw [if_pos (Or.inl z)]
    simp (disch := first | assumption | omega) only [k_add, k_sub, k_mul, k_lt, k_eq, k_lt0, k_0lt, k_eq0, k_nat, k_b0, k_b1, k_z1, k_z0, k_o1, k_o0, Int.reduceEq, Int.reduceLT, Int.reduceLE, Int.reduceAdd, Int.reduceMul, Int.reduceNeg, Bool.false_eq_true, or_true, true_or, or_false, false_or, and_true, true_and, and_false, false_and, not_true_eq_false, not_false_eq_true, ↓reduceIte, z_0, z_k, s_I, s_J, s_uI, s_uJ, c_gP_0_4, f_oc, f_gP0, f_gP1, f_gP2, f_ia0, f_ia1, f_ia2, f_is0, f_is1, f_is2, f_lt, hF.2.1, z]
  · by_cases y : a_fl A (5 + k) = -9
    · have y1 : j_z (a_fl A (5 + k) = -9) = j_k 1 := if_pos y
      rw [y1] at q1
      rw [if_pos (Or.inr y)]
      simp (disch := first | assumption | omega) only [k_add, k_sub, k_mul, k_lt, k_eq, k_lt0, k_0lt, k_eq0, k_nat, k_b0, k_b1, k_z1, k_z0, k_o1, k_o0, Int.reduceEq, Int.reduceLT, Int.reduceLE, Int.reduceAdd, Int.reduceMul, Int.reduceNeg, Bool.false_eq_true, or_true, true_or, or_false, false_or, and_true, true_and, and_false, false_and, not_true_eq_false, not_false_eq_true, ↓reduceIte, z_0, z_k, s_I, s_J, s_uI, s_uJ, c_gP_0_4, f_oc, f_gP0, f_gP1, f_gP2, f_ia0, f_ia1, f_ia2, f_is0, f_is1, f_is2, f_lt, hF.2.1, z, jc1 q1]
    · have y1 : j_z (a_fl A (5 + k) = -9) = j_k 0 := if_neg y
      rw [y1] at q1
      rw [if_neg (fun u => u.elim z y)]
      obtain ⟨o1, o2, o3, o4⟩ := hl.resolve_left (fun u => z u.1)
      obtain ⟨p1, p2⟩ := hk.resolve_left y
      have q2 := s_off (L := L) (p := p) (d := d) (J := J) hg hG hC p1 p2 o3 o4
      simp (disch := first | assumption | omega) only [k_add, k_sub, k_mul, k_lt, k_eq, k_lt0, k_0lt, k_eq0, k_nat, k_b0, k_b1, k_z1, k_z0, k_o1, k_o0, Int.reduceEq, Int.reduceLT, Int.reduceLE, Int.reduceAdd, Int.reduceMul, Int.reduceNeg, Bool.false_eq_true, or_true, true_or, or_false, false_or, and_true, true_and, and_false, false_and, not_true_eq_false, not_false_eq_true, ↓reduceIte, z_0, z_k, s_I, s_J, s_uI, s_uJ, c_gP_0_4, c_gP_0_3, f_oc, f_gP0, f_gP1, f_gP2, f_ia0, f_ia1, f_ia2, f_is0, f_is1, f_is2, f_lt, g_oc, hF.2.1, hF.2.2.1, z, jc1 q1, hv, jc1 q2]
theorem x_near (hx : iX I J A) {k : Int} (k1 : 0 ≤ k) (k2 : k < a_gn A) : j_run (d + 2) 122 [.ref 0, .int (j_k k)] (ST L p I J) = some (some (.int (j_k (p_markA 5 k A))), ST L p I J) := by
  have hC := hx.1.1
  have ho := hx.1.2.1
  have hG := hx.2.2.2.1
  have hF := hx.2.2.2.2.1
  have hT := hx.2.2.2.2.2.2.2.2.1
  have hM := hx.2.2.2.2.2.2.2.1
  have hn := hC.2.2.1
  have hn4 := hC.2.2.2.1
  obtain ⟨bN0, bN1, -⟩ := bd_N hC
  have hA := fa_31
  have hg := ga_27
  have hk := ho.1 k k1 k2
  have hv := hF.2.2.2.2.2.2.2.1 k k1 k2
  have q1 := s_isLost (L := L) (p := p) (d := d) (J := J) hA hF hn4 ho bN1 k1 k2
  have k4 : k < 4 := by omega
  unfold p_markA
  rw [if_neg (by decide), if_neg (by decide), if_neg (by decide), if_neg (by decide), r_122, t_122_0]
  by_cases y : a_fl A (5 + k) = -9
  · have y1 : j_z (a_fl A (5 + k) = -9) = j_k 1 := if_pos y
    rw [y1] at q1
    rw [if_pos y]
    simp (disch := first | assumption | omega) only [k_add, k_sub, k_mul, k_lt, k_eq, k_lt0, k_0lt, k_eq0, k_nat, k_b0, k_b1, k_z1, k_z0, k_o1, k_o0, Int.reduceEq, Int.reduceLT, Int.reduceLE, Int.reduceAdd, Int.reduceMul, Int.reduceNeg, Bool.false_eq_true, or_true, true_or, or_false, false_or, and_true, true_and, and_false, false_and, not_true_eq_false, not_false_eq_true, ↓reduceIte, z_0, z_k, s_I, s_J, s_uI, s_uJ, c_gP_0_4, f_oc, f_gP0, f_gP1, f_gP2, f_ia0, f_ia1, f_ia2, f_is0, f_is1, f_is2, f_lt, jc1 q1]
  · have y1 : j_z (a_fl A (5 + k) = -9) = j_k 0 := if_neg y
    rw [y1] at q1
    rw [if_neg y]
    obtain ⟨p1, p2⟩ := hk.resolve_left y
    have loop : ∀ (t M : Nat) (j s : Int), 0 ≤ j → j + t = a_gn A → t < M → j_exec k_122 h_122 (j_run (d + 1)) M 18 [some (.ref 0), some (.int (j_k k)), some (.int (j_k s)), some (.int (j_k j))] [] (ST L p I J) = some (some (.int (j_k (p_loop (fun j s => if j ≠ k ∧ a_fl A (5 + j) ≠ -9 ∧ p_off (a_gw A) (a_fl A (5 + k)) (a_fl A (5 + j)) < 3 then s + 1 else s) t j s))), ST L p I J) := by
      intro t
      induction t with
      | zero =>
        intro M j s j1 j2 hM
        obtain ⟨M, rfl⟩ : ∃ q, M = q + 1 := ⟨M - 1, by omega⟩
        have z : ¬ j < a_gn A := by omega
        rw [x_exec, t_122_18]
        simp (disch := first | assumption | omega) only [k_add, k_sub, k_mul, k_lt, k_eq, k_lt0, k_0lt, k_eq0, k_nat, k_b0, k_b1, k_z1, k_z0, k_o1, k_o0, Int.reduceEq, Int.reduceLT, Int.reduceLE, Int.reduceAdd, Int.reduceMul, Int.reduceNeg, Bool.false_eq_true, or_true, true_or, or_false, false_or, and_true, true_and, and_false, false_and, not_true_eq_false, not_false_eq_true, ↓reduceIte, z_0, z_k, s_I, s_J, s_uI, s_uJ, c_gP_0_4, f_oc, f_gP0, f_gP1, f_gP2, f_ia0, f_ia1, f_ia2, f_is0, f_is1, f_is2, f_lt, hF.1, z]
        rfl
      | succ t ih =>
        intro M j s j1 j2 hM
        obtain ⟨M, rfl⟩ : ∃ q, M = q + 1 := ⟨M - 1, by omega⟩
        have z : j < a_gn A := by omega
        have hj := ho.1 j j1 z
        have hw := hF.2.2.2.2.2.2.2.1 j j1 z
        have q2 := s_isLost (L := L) (p := p) (d := d) (J := J) hA hF hn4 ho bN1 j1 z
        rw [x_exec, t_122_18, p_loopS]
        by_cases x : j = k
        · have eb : (if j ≠ k ∧ a_fl A (5 + j) ≠ -9 ∧ p_off (a_gw A) (a_fl A (5 + k)) (a_fl A (5 + j)) < 3 then s + 1 else s) = s := if_neg (fun u => u.1 x)
          rw [eb]
          have x' : j_k j = j_k k := by rw [x]
          simp (disch := first | assumption | omega) only [k_add, k_sub, k_mul, k_lt, k_eq, k_lt0, k_0lt, k_eq0, k_nat, k_b0, k_b1, k_z1, k_z0, k_o1, k_o0, Int.reduceEq, Int.reduceLT, Int.reduceLE, Int.reduceAdd, Int.reduceMul, Int.reduceNeg, Bool.false_eq_true, or_true, true_or, or_false, false_or, and_true, true_and, and_false, false_and, not_true_eq_false, not_false_eq_true, ↓reduceIte, z_0, z_k, s_I, s_J, s_uI, s_uJ, ↓c_gP_0_4, ↓f_oc, ↓f_gP0, ↓f_gP1, ↓f_gP2, ↓f_ia0, ↓f_ia1, ↓f_ia2, ↓f_is0, ↓f_is1, ↓f_is2, ↓f_lt, hF.1, z]
          rw [if_pos x]
          exact ih M (j + 1) s (by omega) (by omega) (by omega)
        · by_cases v : a_fl A (5 + j) = -9
          · have v1 : j_z (a_fl A (5 + j) = -9) = j_k 1 := if_pos v
            rw [v1] at q2
            have eb : (if j ≠ k ∧ a_fl A (5 + j) ≠ -9 ∧ p_off (a_gw A) (a_fl A (5 + k)) (a_fl A (5 + j)) < 3 then s + 1 else s) = s := if_neg (fun u => u.2.1 v)
            rw [eb]
            simp (disch := first | assumption | omega) only [k_add, k_sub, k_mul, k_lt, k_eq, k_lt0, k_0lt, k_eq0, k_nat, k_b0, k_b1, k_z1, k_z0, k_o1, k_o0, Int.reduceEq, Int.reduceLT, Int.reduceLE, Int.reduceAdd, Int.reduceMul, Int.reduceNeg, Bool.false_eq_true, or_true, true_or, or_false, false_or, and_true, true_and, and_false, false_and, not_true_eq_false, not_false_eq_true, ↓reduceIte, z_0, z_k, s_I, s_J, s_uI, s_uJ, ↓c_gP_0_4, ↓f_oc, ↓f_gP0, ↓f_gP1, ↓f_gP2, ↓f_ia0, ↓f_ia1, ↓f_ia2, ↓f_is0, ↓f_is1, ↓f_is2, ↓f_lt, hF.1, z, x, ↓jc1 q2]
            exact ih M (j + 1) s (by omega) (by omega) (by omega)
          · have v1 : j_z (a_fl A (5 + j) = -9) = j_k 0 := if_neg v
            rw [v1] at q2
            obtain ⟨o1, o2⟩ := hj.resolve_left v
            have q3 := s_off (L := L) (p := p) (d := d) (J := J) hg hG hC p1 p2 o1 o2
            have og := off_rg hC p1 p2 o1 o2
            have og1 := og.1
            have og2 := og.2
            by_cases u : p_off (a_gw A) (a_fl A (5 + k)) (a_fl A (5 + j)) < 3
            · have eb : (if j ≠ k ∧ a_fl A (5 + j) ≠ -9 ∧ p_off (a_gw A) (a_fl A (5 + k)) (a_fl A (5 + j)) < 3 then s + 1 else s) = s + 1 := if_pos ⟨x, v, u⟩
              rw [eb]
              simp (disch := first | assumption | omega) only [k_add, k_sub, k_mul, k_lt, k_eq, k_lt0, k_0lt, k_eq0, k_nat, k_b0, k_b1, k_z1, k_z0, k_o1, k_o0, Int.reduceEq, Int.reduceLT, Int.reduceLE, Int.reduceAdd, Int.reduceMul, Int.reduceNeg, Bool.false_eq_true, or_true, true_or, or_false, false_or, and_true, true_and, and_false, false_and, not_true_eq_false, not_false_eq_true, ↓reduceIte, z_0, z_k, s_I, s_J, s_uI, s_uJ, ↓c_gP_0_4, ↓c_gP_0_3, ↓f_oc, ↓f_gP0, ↓f_gP1, ↓f_gP2, ↓f_ia0, ↓f_ia1, ↓f_ia2, ↓f_is0, ↓f_is1, ↓f_is2, ↓f_lt, ↓g_oc, hF.1, z, x, ↓jc1 q2, hv, hw, ↓jc1 q3, u]
              exact ih M (j + 1) (s + 1) (by omega) (by omega) (by omega)
            · have eb : (if j ≠ k ∧ a_fl A (5 + j) ≠ -9 ∧ p_off (a_gw A) (a_fl A (5 + k)) (a_fl A (5 + j)) < 3 then s + 1 else s) = s := if_neg (fun y => u y.2.2)
              rw [eb]
              simp (disch := first | assumption | omega) only [k_add, k_sub, k_mul, k_lt, k_eq, k_lt0, k_0lt, k_eq0, k_nat, k_b0, k_b1, k_z1, k_z0, k_o1, k_o0, Int.reduceEq, Int.reduceLT, Int.reduceLE, Int.reduceAdd, Int.reduceMul, Int.reduceNeg, Bool.false_eq_true, or_true, true_or, or_false, false_or, and_true, true_and, and_false, false_and, not_true_eq_false, not_false_eq_true, ↓reduceIte, z_0, z_k, s_I, s_J, s_uI, s_uJ, ↓c_gP_0_4, ↓c_gP_0_3, ↓f_oc, ↓f_gP0, ↓f_gP1, ↓f_gP2, ↓f_ia0, ↓f_ia1, ↓f_ia2, ↓f_is0, ↓f_is1, ↓f_is2, ↓f_lt, ↓g_oc, hF.1, z, x, ↓jc1 q2, hv, hw, ↓jc1 q3, u]
              exact ih M (j + 1) s (by omega) (by omega) (by omega)
    simp (disch := first | assumption | omega) only [k_add, k_sub, k_mul, k_lt, k_eq, k_lt0, k_0lt, k_eq0, k_nat, k_b0, k_b1, k_z1, k_z0, k_o1, k_o0, Int.reduceEq, Int.reduceLT, Int.reduceLE, Int.reduceAdd, Int.reduceMul, Int.reduceNeg, Bool.false_eq_true, or_true, true_or, or_false, false_or, and_true, true_and, and_false, false_and, not_true_eq_false, not_false_eq_true, ↓reduceIte, z_0, z_k, s_I, s_J, s_uI, s_uJ, c_gP_0_4, f_oc, f_gP0, f_gP1, f_gP2, f_ia0, f_ia1, f_ia2, f_is0, f_is1, f_is2, f_lt, jc1 q1]
    exact loop (a_gn A).toNat 999999 0 0 (Int.le_refl 0) (by omega) (by omega)
theorem x_mark (hx : iX I J A) {k b : Int} (h1 : -2147483648 ≤ k) (h2 : k < 2147483648) (h3 : -2147483648 ≤ b) (h4 : b < 2147483648) : xc L p I J (d + 3) 82 [.ref 0, .int (j_k k), .int (j_k b)] (p_mark k b A) := by
  have hC := hx.1.1
  have ho := hx.1.2.1
  have hG := hx.2.2.2.1
  have hF := hx.2.2.2.2.1
  have hT := hx.2.2.2.2.2.2.2.2.1
  have hM := hx.2.2.2.2.2.2.2.1
  have hn := hC.2.2.1
  have hn4 := hC.2.2.2.1
  obtain ⟨bN0, bN1, -⟩ := bd_N hC
  have hA := fa_31
  have hg := ga_27
  have q1 := s_has (L := L) (p := p) (d := d + 1) (J := J) hA hF hn hn4 h1 h2
  have e := (r_82 (d + 2) (ST L p I J) 0 (j_k k) (j_k b)).trans (t_82_0 _ _ _ _ _ _)
  unfold p_mark
  by_cases z : 0 ≤ k ∧ k < a_gn A
  · have z1 : j_z (0 ≤ k ∧ k < a_gn A) = j_k 1 := if_pos z
    rw [z1] at q1
    obtain ⟨k1, k2⟩ := z
    by_cases y : 1 ≤ b ∧ b ≤ 5
    · rw [if_pos ⟨⟨k1, k2⟩, y⟩]
      have y1 : ¬ b < 1 := by omega
      have y2 : ¬ 5 < b := by omega
      have q2 := s_isOf (L := L) (p := p) (d := d) (J := J) hA hF hC (as := b) k1 k2 (by omega) (by omega)
      by_cases x : a_kd A k = b ∨ (b = 1 ∧ p_shy (a_kd A) k = true) ∨ (b = 2 ∧ p_slow (a_kd A) k = true)
      · have x1 : j_z (a_kd A k = b ∨ (b = 1 ∧ p_shy (a_kd A) k = true) ∨ (b = 2 ∧ p_slow (a_kd A) k = true)) = j_k 1 := if_pos x
        rw [x1] at q2
        rw [if_pos x]
        refine .of ⟨I, ?_, hx, fun _ _ => rfl⟩
        rw [c_gP_0_4, f_oc hA, jc1 q1, if_neg (show ¬ j_k 1 = 0 by decide), if_neg (show ¬ j_k b < j_k 1 by rw [k_lt h3 h4 (by decide) (by decide)]; exact y1), if_neg (show ¬ j_k 5 < j_k b by rw [k_lt (by decide) (by decide) h3 h4]; exact y2), c_gP_0_4, f_oc hA, jc1 q2, if_neg (show ¬ j_k 1 = 0 by decide)] at e
        rw [e]
        rcases (show b = 1 ∨ b = 2 ∨ b = 3 ∨ b = 4 ∨ b = 5 by omega) with rfl | rfl | rfl | rfl | rfl
        · have q3 := x_offLast (L := L) (p := p) (d := d) hx k1 k2
          simp (disch := first | assumption | omega) only [k_add, k_sub, k_mul, k_lt, k_eq, k_lt0, k_0lt, k_eq0, k_nat, k_b0, k_b1, k_z1, k_z0, k_o1, k_o0, Int.reduceEq, Int.reduceLT, Int.reduceLE, Int.reduceAdd, Int.reduceMul, Int.reduceNeg, Bool.false_eq_true, or_true, true_or, or_false, false_or, and_true, true_and, and_false, false_and, not_true_eq_false, not_false_eq_true, ↓reduceIte, z_0, z_k, s_I, s_J, s_uI, s_uJ, ↓c_oc_0, ↓jc1 q3]
        · have o0 := ho.2.2.2.2.2
          have o1 := o0.1
          have o2 := o0.2
          simp (disch := first | assumption | omega) only [k_add, k_sub, k_mul, k_lt, k_eq, k_lt0, k_0lt, k_eq0, k_nat, k_b0, k_b1, k_z1, k_z0, k_o1, k_o0, Int.reduceEq, Int.reduceLT, Int.reduceLE, Int.reduceAdd, Int.reduceMul, Int.reduceNeg, Bool.false_eq_true, or_true, true_or, or_false, false_or, and_true, true_and, and_false, false_and, not_true_eq_false, not_false_eq_true, ↓reduceIte, z_0, z_k, s_I, s_J, s_uI, s_uJ, ↓c_gP_0_4, ↓f_oc, hF.2.2.2.2.2.1, k_par]
          rfl
        · have q3 := s_aimOf (L := L) (p := p) (d := d + 1) (J := J) hA hF hn4 hC ho bN1 k1 k2
          simp (disch := first | assumption | omega) only [k_add, k_sub, k_mul, k_lt, k_eq, k_lt0, k_0lt, k_eq0, k_nat, k_b0, k_b1, k_z1, k_z0, k_o1, k_o0, Int.reduceEq, Int.reduceLT, Int.reduceLE, Int.reduceAdd, Int.reduceMul, Int.reduceNeg, Bool.false_eq_true, or_true, true_or, or_false, false_or, and_true, true_and, and_false, false_and, not_true_eq_false, not_false_eq_true, ↓reduceIte, z_0, z_k, s_I, s_J, s_uI, s_uJ, ↓c_gP_0_4, ↓f_oc, ↓jc1 q3]
          rfl
        · have q3 := s_howMany (L := L) (p := p) (d := d + 1) (J := J) hg hG hC (q := 4) (by decide) (by decide)
          simp (disch := first | assumption | omega) only [k_add, k_sub, k_mul, k_lt, k_eq, k_lt0, k_0lt, k_eq0, k_nat, k_b0, k_b1, k_z1, k_z0, k_o1, k_o0, Int.reduceEq, Int.reduceLT, Int.reduceLE, Int.reduceAdd, Int.reduceMul, Int.reduceNeg, Bool.false_eq_true, or_true, true_or, or_false, false_or, and_true, true_and, and_false, false_and, not_true_eq_false, not_false_eq_true, ↓reduceIte, z_0, z_k, s_I, s_J, s_uI, s_uJ, ↓c_gP_0_3, ↓g_oc, ↓jc1 q3]
          rfl
        · have q3 := x_near (L := L) (p := p) (d := d) hx k1 k2
          simp (disch := first | assumption | omega) only [k_add, k_sub, k_mul, k_lt, k_eq, k_lt0, k_0lt, k_eq0, k_nat, k_b0, k_b1, k_z1, k_z0, k_o1, k_o0, Int.reduceEq, Int.reduceLT, Int.reduceLE, Int.reduceAdd, Int.reduceMul, Int.reduceNeg, Bool.false_eq_true, or_true, true_or, or_false, false_or, and_true, true_and, and_false, false_and, not_true_eq_false, not_false_eq_true, ↓reduceIte, z_0, z_k, s_I, s_J, s_uI, s_uJ, ↓c_oc_0, ↓jc1 q3]
      · have x1 : j_z (a_kd A k = b ∨ (b = 1 ∧ p_shy (a_kd A) k = true) ∨ (b = 2 ∧ p_slow (a_kd A) k = true)) = j_k 0 := if_neg x
        rw [x1] at q2
        rw [if_neg x]
        obtain ⟨I', e1, e2, e3⟩ := x_finds (L := L) (p := p) (d := d + 1) hx (q := 3) (by decide) (by decide)
        simp (disch := first | assumption | omega) only [k_add, k_sub, k_mul, k_lt, k_eq, k_lt0, k_0lt, k_eq0, k_nat, k_b0, k_b1, k_z1, k_z0, k_o1, k_o0, Int.reduceEq, Int.reduceLT, Int.reduceLE, Int.reduceAdd, Int.reduceMul, Int.reduceNeg, Bool.false_eq_true, or_true, true_or, or_false, false_or, and_true, true_and, and_false, false_and, not_true_eq_false, not_false_eq_true, ↓reduceIte, z_0, z_k, s_I, s_J, s_uI, s_uJ, ↓c_gP_0_4, ↓f_oc, ↓jc1 q1, y1, y2, ↓jc1 q2, ↓c_oc_0, ↓jc1 e1] at e
        exact .of ⟨_, e, e2, fun q hq => e3 q (by omega) (by omega)⟩
    · rw [if_neg (fun u => y u.2)]
      refine .of ⟨I, ?_, hx, fun _ _ => rfl⟩
      by_cases y1 : b < 1
      · simp (disch := first | assumption | omega) only [k_add, k_sub, k_mul, k_lt, k_eq, k_lt0, k_0lt, k_eq0, k_nat, k_b0, k_b1, k_z1, k_z0, k_o1, k_o0, Int.reduceEq, Int.reduceLT, Int.reduceLE, Int.reduceAdd, Int.reduceMul, Int.reduceNeg, Bool.false_eq_true, or_true, true_or, or_false, false_or, and_true, true_and, and_false, false_and, not_true_eq_false, not_false_eq_true, ↓reduceIte, z_0, z_k, s_I, s_J, s_uI, s_uJ, ↓c_gP_0_4, ↓f_oc, ↓jc1 q1, y1] at e
        exact e
      · have y2 : 5 < b := by omega
        simp (disch := first | assumption | omega) only [k_add, k_sub, k_mul, k_lt, k_eq, k_lt0, k_0lt, k_eq0, k_nat, k_b0, k_b1, k_z1, k_z0, k_o1, k_o0, Int.reduceEq, Int.reduceLT, Int.reduceLE, Int.reduceAdd, Int.reduceMul, Int.reduceNeg, Bool.false_eq_true, or_true, true_or, or_false, false_or, and_true, true_and, and_false, false_and, not_true_eq_false, not_false_eq_true, ↓reduceIte, z_0, z_k, s_I, s_J, s_uI, s_uJ, ↓c_gP_0_4, ↓f_oc, ↓jc1 q1, y1, y2] at e
        exact e
  · have z1 : j_z (0 ≤ k ∧ k < a_gn A) = j_k 0 := if_neg z
    rw [z1] at q1
    rw [if_neg (fun u => z u.1)]
    simp (disch := first | assumption | omega) only [k_add, k_sub, k_mul, k_lt, k_eq, k_lt0, k_0lt, k_eq0, k_nat, k_b0, k_b1, k_z1, k_z0, k_o1, k_o0, Int.reduceEq, Int.reduceLT, Int.reduceLE, Int.reduceAdd, Int.reduceMul, Int.reduceNeg, Bool.false_eq_true, or_true, true_or, or_false, false_or, and_true, true_and, and_false, false_and, not_true_eq_false, not_false_eq_true, ↓reduceIte, z_0, z_k, s_I, s_J, s_uI, s_uJ, ↓c_gP_0_4, ↓f_oc, ↓jc1 q1] at e
    exact .of ⟨_, e, hx, fun _ _ => rfl⟩
theorem x_stone (hx : iX I J A) {c : Int} (h1 : -2147483648 ≤ c) (h2 : c < 2147483648) : xc L p I J (d + 4) 97 [.ref 0, .int (j_k c)] (p_stoneC c A) := by
  have hC := hx.1.1
  have ho := hx.1.2.1
  have hG := hx.2.2.2.1
  have hF := hx.2.2.2.2.1
  have hT := hx.2.2.2.2.2.2.2.2.1
  have hM := hx.2.2.2.2.2.2.2.1
  have hn := hC.2.2.1
  have hn4 := hC.2.2.2.1
  obtain ⟨bN0, bN1, -⟩ := bd_N hC
  have hA := fa_31
  have hg := ga_27
  have q1 := s_ghas (L := L) (p := p) (d := d + 2) (J := J) hg hG bN0 bN1 h1 h2
  have e := (r_97 (d + 3) (ST L p I J) 0 (j_k c)).trans (t_97_0 _ _ _ _ _)
  unfold p_stoneC
  by_cases z : 0 ≤ c ∧ c < a_N A
  · have z1 : j_z (0 ≤ c ∧ c < a_N A) = j_k 1 := if_pos z
    rw [z1] at q1
    obtain ⟨c1, c2⟩ := z
    have c3 : c < 30 := by omega
    have hv := hG.2.2.2.1 c c1 c2
    have hr := hC.2.2.2.2.1 c c1 c2
    by_cases y : a_gr A c = 1
    · rw [if_neg (fun u => u.2 y)]
      simp (disch := first | assumption | omega) only [k_add, k_sub, k_mul, k_lt, k_eq, k_lt0, k_0lt, k_eq0, k_nat, k_b0, k_b1, k_z1, k_z0, k_o1, k_o0, Int.reduceEq, Int.reduceLT, Int.reduceLE, Int.reduceAdd, Int.reduceMul, Int.reduceNeg, Bool.false_eq_true, or_true, true_or, or_false, false_or, and_true, true_and, and_false, false_and, not_true_eq_false, not_false_eq_true, ↓reduceIte, z_0, z_k, s_I, s_J, s_uI, s_uJ, ↓c_gP_0_3, ↓g_oc, ↓g_gP0, ↓g_gP1, ↓g_gP2, ↓g_ia0, ↓g_ia1, ↓g_ia2, ↓g_is0, ↓g_is1, ↓g_is2, ↓g_lt, ↓jc1 q1, hv, y] at e
      exact .of ⟨_, e, hx, fun _ _ => rfl⟩
    · rw [if_pos ⟨⟨c1, c2⟩, y⟩]
      obtain ⟨I', s1, s2, s3⟩ := s_fleeFrom (L := L) (p := p) (d := d) (J := J) hA hg hF hG hT hC ho c1 c2
      simp (disch := first | assumption | omega) only [k_add, k_sub, k_mul, k_lt, k_eq, k_lt0, k_0lt, k_eq0, k_nat, k_b0, k_b1, k_z1, k_z0, k_o1, k_o0, Int.reduceEq, Int.reduceLT, Int.reduceLE, Int.reduceAdd, Int.reduceMul, Int.reduceNeg, Bool.false_eq_true, or_true, true_or, or_false, false_or, and_true, true_and, and_false, false_and, not_true_eq_false, not_false_eq_true, ↓reduceIte, z_0, z_k, s_I, s_J, s_uI, s_uJ, ↓c_gP_0_3, ↓c_gP_0_4, ↓g_oc, ↓g_gP0, ↓g_gP1, ↓g_gP2, ↓g_ia0, ↓g_ia1, ↓g_ia2, ↓g_is0, ↓g_is1, ↓g_is2, ↓g_lt, ↓f_oc, ↓jc1 q1, hv, y, ↓jc1 s1] at e
      exact .of ⟨I', e, hx.flock' s3 s2 (fleeE_ok (fleeL_in hC c1 c2 _ 0 _ (Int.le_refl 0) (by omega) ⟨ho, Int.le_refl 0, Int.le_refl 0, Or.inl ⟨rfl, rfl⟩⟩)), fun q hq => s3 q (by omega)⟩
  · have z1 : j_z (0 ≤ c ∧ c < a_N A) = j_k 0 := if_neg z
    rw [z1] at q1
    rw [if_neg (fun u => z u.1)]
    simp (disch := first | assumption | omega) only [k_add, k_sub, k_mul, k_lt, k_eq, k_lt0, k_0lt, k_eq0, k_nat, k_b0, k_b1, k_z1, k_z0, k_o1, k_o0, Int.reduceEq, Int.reduceLT, Int.reduceLE, Int.reduceAdd, Int.reduceMul, Int.reduceNeg, Bool.false_eq_true, or_true, true_or, or_false, false_or, and_true, true_and, and_false, false_and, not_true_eq_false, not_false_eq_true, ↓reduceIte, z_0, z_k, s_I, s_J, s_uI, s_uJ, ↓c_gP_0_3, ↓g_oc, ↓g_gP0, ↓g_gP1, ↓g_gP2, ↓g_ia0, ↓g_ia1, ↓g_ia2, ↓g_is0, ↓g_is1, ↓g_is2, ↓g_lt, ↓jc1 q1] at e
    exact .of ⟨_, e, hx, fun _ _ => rfl⟩
/-- a drive that is tried -/
theorem x_try (hx : iX I J A) {c : Int} (c1 : 0 ≤ c) (c2 : c < 4 * a_gn A) : ∃ I', j_run (d + 6) 123 [.ref 0, .int (j_k c)] (ST L p I J) = some (some (.int (if (p_drive (a_gw A) (a_gh A) (a_gr A) (a_gn A) (a_kd A) (a_fl A) c).isSome = true then j_k 1 else j_k 0)), ST L p I' J) ∧ iF I' 48 (a_gn A) (a_kd A) ((p_drive (a_gw A) (a_gh A) (a_gr A) (a_gn A) (a_kd A) (a_fl A) c).getD (a_fl A)) ∧ fr 48 I I' := by
  have hC := hx.1.1
  have ho := hx.1.2.1
  have hG := hx.2.2.2.1
  have hF := hx.2.2.2.2.1
  have hT := hx.2.2.2.2.2.2.2.2.1
  have hM := hx.2.2.2.2.2.2.2.1
  have hn := hC.2.2.1
  have hn4 := hC.2.2.2.1
  obtain ⟨bN0, bN1, -⟩ := bd_N hC
  have hA := fa_31
  have hg := ga_27
  obtain ⟨I1, s1, s2, s3⟩ := s_take (L := L) (p := p) (d := d + 4) (J := J) fa_48 hA (by omega) hF hn hn4
  obtain ⟨I2, t1, t2, t3⟩ := s_driveBy (L := L) (p := p) (d := d) (J := J) fa_48 hg s2 (hG.fr fa_48 hg s3) (hT.fr fa_48 s3) hC ho (by omega) c1 c2
  refine ⟨I2, ?_, t2, s3.tr t3⟩
  rw [r_123, t_123_0, c_gP_0_6, c_gP_0_4, f_oc fa_48, jc0 s1, c_gP_0_6, c_gP_0_3, f_oc fa_48, jc1 t1]
  split
  · exact if_pos (Or.inr rfl)
  · exact if_pos (Or.inl rfl)
end CALLS4
