/-! ===== the class's calls: cell, build, beast, last, stir, go, run, apart ===== -/
def p_cell (c : Int) (A : Ast) : Int × Ast := if 0 ≤ c ∧ c < a_N A then (a_gr A c, A_told A (j_k (p_who (a_gn A) (a_fl A) c (-9)))) else (-1, A)
def p_build (c q : Int) (A : Ast) : Int × Ast := if (0 ≤ c ∧ c < a_N A) ∧ 0 ≤ q ∧ q ≤ 4 then (if (q = 1 ∨ q = 2) ∧ p_who (a_gn A) (a_fl A) c (-9) ≠ -9 then (-4, A) else (a_gr A c, A_gr A (f2 (a_gr A) c q))) else (-1, A)
def p_beast (k q : Int) (A : Ast) : Int × Ast := if (0 ≤ k ∧ k < a_gn A) ∧ 0 ≤ q ∧ q ≤ 2 then (1, A_told A (j_k (p_tells (a_kd A) (a_fl A) k q))) else (-1, A)
def p_last (A : Ast) : Int × Ast := (a_fl A 1, A_told A (j_k (a_fl A 2)))
def p_stirC (k y : Int) (A : Ast) : Int × Ast := if (0 ≤ k ∧ k < a_gn A) ∧ 0 ≤ y ∧ y < 4 then (if p_stir (a_gw A) (a_gh A) (a_gr A) (a_gn A) (a_kd A) (a_fl A) k y = -9 then (-4, A) else (p_stir (a_gw A) (a_gh A) (a_gr A) (a_gn A) (a_kd A) (a_fl A) k y, A_fl A (p_stirF (a_gr A) (a_fl A) k (p_stir (a_gw A) (a_gh A) (a_gr A) (a_gn A) (a_kd A) (a_fl A) k y)))) else (-1, A)
/-- m steps: the flock, and who went in the last -/
def p_goes (w h : Int) (gr : Fl) (n : Int) (kd : Fl) : Nat → Int → Fl → Int × Fl
  | 0, s, f => (s, f)
  | m + 1, _, f => p_goes w h gr n kd m (p_stepW w h gr n kd f) (p_stepF w h gr n kd f)
def p_goC (m : Int) (A : Ast) : Int × Ast := if 0 ≤ m ∧ m ≤ 40 then (if a_N A = 0 then (-4, A) else if 10000 < a_fl A 0 + m then (-6, A) else ((p_goes (a_gw A) (a_gh A) (a_gr A) (a_gn A) (a_kd A) m.toNat 0 (a_fl A)).1, A_fl A (p_goes (a_gw A) (a_gh A) (a_gr A) (a_gn A) (a_kd A) m.toNat 0 (a_fl A)).2)) else (-1, A)
def p_runC (A : Ast) : Int × Ast := if a_N A = 0 then (-4, A) else if 9960 < a_fl A 0 then (-6, A) else ((p_runs (a_gw A) (a_gh A) (a_gr A) (a_gn A) (a_kd A) (a_fl A)).1 0 - a_fl A 0, A_told (A_fl A (p_runs (a_gw A) (a_gh A) (a_gr A) (a_gn A) (a_kd A) (a_fl A)).1) (j_z ((p_runs (a_gw A) (a_gh A) (a_gr A) (a_gn A) (a_kd A) (a_fl A)).2.1 = 2)))
def p_apartC (A : Ast) : Int × Ast := (p_apart (a_gw A) (a_gn A) (a_fl A), A)
theorem okF_ti {N n b : Int} {f : Fl} (ho : okF N n b f) : okF N n (f 0) f := ⟨ho.1, ho.2.1, ho.2.2.1, ho.2.2.2.1, ho.2.2.2.2.1, ho.2.2.2.2.2.1, Int.le_refl _⟩
section CALLS2
variable {L p d : Nat} {J : Nat → Nat → Int64} {I I' : Nat → Nat → Int32} {A : Ast} {K : Option Rr} {r i : Int}
/-- only the flock is written, and 'told' -/
theorem iX.flock (hx : iX I J A) (h : ∀ q, q ≠ 0 → (q < 31 ∨ 35 ≤ q) → I' q = I q) (h0 : ∀ k, k ≠ 13 → I' 0 k = I 0 k) {f : Fl} {v : Int32} (hv : I' 0 13 = v) (hf : iF I' 31 (a_gn A) (a_kd A) f) (ho : okF (a_N A) (a_gn A) 10000 f) : iX I' J (A_told (A_fl A f) v) := by
  obtain ⟨x1, x2, x3, x4, x5, x6, x7, x8, x9, x10⟩ := hx
  refine ⟨⟨x1.1, ho, x1.2.2.1, x1.2.2.2.1, x1.2.2.2.2⟩, x2.cg (fun r a b => h r (by omega) (by omega)), x3.cg (fun r a b => h r (by omega) (by omega)), x4.cg (fun r a b => h r (by omega) (by omega)), hf, x6.cg (h0 11 (by decide)) (fun r a b => h r (by omega) (by omega)), ?_, ⟨hv, x8.2.1, x8.2.2.1, ?_, fun q q1 q2 => ?_⟩, x9.cg (h _ (by decide) (Or.inr (by decide))) (h _ (by decide) (Or.inr (by decide))), x10.cg (h _ (by decide) (Or.inr (by decide))) (h _ (by decide) (Or.inr (by decide)))⟩
  · unfold xK2
    rw [h0 11 (by decide)]
    exact x7
  · rw [h0 12 (by decide)]
    exact x8.2.2.2.1
  · rw [h 86 (by decide) (by decide)]
    exact x8.2.2.2.2 q q1 q2
theorem iX.flock' (hx : iX I J A) (h : fr 31 I I') {f : Fl} (hf : iF I' 31 (a_gn A) (a_kd A) f) (ho : okF (a_N A) (a_gn A) 10000 f) : iX I' J (A_fl A f) := hx.flock (v := a_told A) (fun q _ z => h q (by omega)) (fun k _ => by rw [h 0 (by decide)]) (by rw [h 0 (by decide)]; exact hx.2.2.2.2.2.2.2.1.1) hf ho
/-- only the ground's cells are written -/
theorem iX.built (hx : iX I J A) (h : ∀ q, q ≠ 28 → I' q = I q) {gr : Fl} (hf : iG I' 27 (a_gw A) (a_gh A) (a_N A) gr) (ho : okC (a_gw A) (a_gh A) (a_N A) (a_gn A) gr (a_kd A)) : iX I' J (A_gr A gr) := by
  obtain ⟨x1, x2, x3, x4, x5, x6, x7, x8, x9, x10⟩ := hx
  refine ⟨⟨ho, x1.2⟩, x2.cg (fun r a b => h r (by omega)), x3.cg (fun r a b => h r (by omega)), hf, x5.cg (fun r a b => h r (by omega)), x6.cg (by rw [h 0 (by decide)]) (fun r a b => h r (by omega)), ?_, ⟨?_, x8.2.1, x8.2.2.1, ?_, fun q q1 q2 => ?_⟩, x9.cg (h _ (by decide)) (h _ (by decide)), x10.cg (h _ (by decide)) (h _ (by decide))⟩
  · unfold xK2
    rw [h 0 (by decide)]
    exact x7
  · rw [h 0 (by decide)]
    exact x8.1
  · rw [h 0 (by decide)]
    exact x8.2.2.2.1
  · rw [h 86 (by decide)]
    exact x8.2.2.2.2 q q1 q2
theorem x_cell (hx : iX I J A) {c : Int} (h1 : -2147483648 ≤ c) (h2 : c < 2147483648) : xc L p I J (d + 2) 79 [.ref 0, .int (j_k c)] (p_cell c A) := by
  have hC := hx.1.1
  have ho := hx.1.2.1
  have hG := hx.2.2.2.1
  have hF := hx.2.2.2.2.1
  have hT := hx.2.2.2.2.2.2.2.2.1
  have hM := hx.2.2.2.2.2.2.2.1
  have hn := hC.2.2.1
  have hn4 := hC.2.2.2.1
  obtain ⟨bN0, bN1, -⟩ := bd_N hC
  have hA := fa_31
  have hg := ga_27
  have q1 := s_ghas (L := L) (p := p) (d := d) (J := J) hg hG bN0 bN1 h1 h2
  have e := (r_79 (d + 1) (ST L p I J) 0 (j_k c)).trans (t_79_0 _ _ _ _ _)
  unfold p_cell
  by_cases z : 0 ≤ c ∧ c < a_N A
  · have z1 : j_z (0 ≤ c ∧ c < a_N A) = j_k 1 := if_pos z
    rw [z1] at q1
    rw [if_pos z]
    have q2 := s_whoIsIn (L := L) (p := p) (d := d) (J := J) hA hF hC ho z.1 z.2
    have hv := hG.2.2.2.1 c z.1 z.2
    have z2 := z.1
    have z3 : c < 30 := by omega
    simp (disch := first | assumption | omega) only [k_add, k_sub, k_mul, k_lt, k_eq, k_lt0, k_0lt, k_eq0, k_nat, k_b0, k_b1, k_z1, k_z0, k_o1, k_o0, Int.reduceEq, Int.reduceLT, Int.reduceLE, Int.reduceAdd, Int.reduceMul, Int.reduceNeg, Bool.false_eq_true, or_true, true_or, or_false, false_or, and_true, true_and, and_false, false_and, not_true_eq_false, not_false_eq_true, ↓reduceIte, z_0, z_k, s_I, s_J, s_uI, s_uJ, c_gP_0_3, g_oc, g_gP0, g_gP1, g_gP2, g_ia0, g_ia1, g_ia2, g_is0, g_is1, g_is2, g_lt, jc1 q1, c_gP_0_4, f_oc, f_gP0, f_gP1, f_gP2, f_ia0, f_ia1, f_ia2, f_is0, f_is1, f_is2, f_lt, jc1 q2, c_lt_0, c_oc_0, u2_r, hv] at e
    refine .of ⟨_, e, hx.tell (fun q z1 z2 => ?_) (fun k hk => ?_) ?_, fun q hq => ?_⟩
    · funext k
      rw [u2_r (by omega)]
    · rw [u2_k hk]
    · rw [u2_ss]
    · funext k
      rw [u2_r (by omega)]
  · have z1 : j_z (0 ≤ c ∧ c < a_N A) = j_k 0 := if_neg z
    rw [z1] at q1
    rw [if_neg z]
    simp (disch := first | assumption | omega) only [k_add, k_sub, k_mul, k_lt, k_eq, k_lt0, k_0lt, k_eq0, k_nat, k_b0, k_b1, k_z1, k_z0, k_o1, k_o0, Int.reduceEq, Int.reduceLT, Int.reduceLE, Int.reduceAdd, Int.reduceMul, Int.reduceNeg, Bool.false_eq_true, or_true, true_or, or_false, false_or, and_true, true_and, and_false, false_and, not_true_eq_false, not_false_eq_true, ↓reduceIte, z_0, z_k, s_I, s_J, s_uI, s_uJ, c_gP_0_3, g_oc, g_gP0, g_gP1, g_gP2, g_ia0, g_ia1, g_ia2, g_is0, g_is1, g_is2, g_lt, jc1 q1] at e
    exact .of ⟨_, e, hx, fun _ _ => rfl⟩
theorem x_beast (hx : iX I J A) {k b : Int} (h1 : -2147483648 ≤ k) (h2 : k < 2147483648) (h3 : -2147483648 ≤ b) (h4 : b < 2147483648) : xc L p I J (d + 2) 81 [.ref 0, .int (j_k k), .int (j_k b)] (p_beast k b A) := by
  have hC := hx.1.1
  have ho := hx.1.2.1
  have hG := hx.2.2.2.1
  have hF := hx.2.2.2.2.1
  have hT := hx.2.2.2.2.2.2.2.2.1
  have hM := hx.2.2.2.2.2.2.2.1
  have hn := hC.2.2.1
  have hn4 := hC.2.2.2.1
  obtain ⟨bN0, bN1, -⟩ := bd_N hC
  have hA := fa_31
  have hg := ga_27
  have q1 := s_has (L := L) (p := p) (d := d) (J := J) hA hF hn hn4 h1 h2
  have e := (r_81 (d + 1) (ST L p I J) 0 (j_k k) (j_k b)).trans (t_81_0 _ _ _ _ _ _)
  unfold p_beast
  by_cases z : 0 ≤ k ∧ k < a_gn A
  · have z1 : j_z (0 ≤ k ∧ k < a_gn A) = j_k 1 := if_pos z
    rw [z1] at q1
    by_cases y : 0 ≤ b ∧ b ≤ 2
    · rw [if_pos ⟨z, y⟩]
      have y1 : ¬ b < 0 := by omega
      have y2 : ¬ 2 < b := by omega
      have q2 := s_tells (L := L) (p := p) (d := d) (J := J) hA hF hn4 z.1 z.2 y.1 y.2
      simp (disch := first | assumption | omega) only [k_add, k_sub, k_mul, k_lt, k_eq, k_lt0, k_0lt, k_eq0, k_nat, k_b0, k_b1, k_z1, k_z0, k_o1, k_o0, Int.reduceEq, Int.reduceLT, Int.reduceLE, Int.reduceAdd, Int.reduceMul, Int.reduceNeg, Bool.false_eq_true, or_true, true_or, or_false, false_or, and_true, true_and, and_false, false_and, not_true_eq_false, not_false_eq_true, ↓reduceIte, z_0, z_k, s_I, s_J, s_uI, s_uJ, c_gP_0_4, f_oc, f_gP0, f_gP1, f_gP2, f_ia0, f_ia1, f_ia2, f_is0, f_is1, f_is2, f_lt, jc1 q1, y1, y2, jc1 q2, c_lt_0, c_oc_0] at e
      refine .of ⟨_, e, hx.tell (fun q z1 z2 => ?_) (fun k hk => ?_) ?_, fun q hq => ?_⟩
      · funext k
        rw [u2_r (by omega)]
      · rw [u2_k hk]
      · rw [u2_ss]
      · funext k
        rw [u2_r (by omega)]
    · rw [if_neg (fun u => y u.2)]
      refine .of ⟨I, ?_, hx, fun _ _ => rfl⟩
      by_cases y1 : b < 0
      · simp (disch := first | assumption | omega) only [k_add, k_sub, k_mul, k_lt, k_eq, k_lt0, k_0lt, k_eq0, k_nat, k_b0, k_b1, k_z1, k_z0, k_o1, k_o0, Int.reduceEq, Int.reduceLT, Int.reduceLE, Int.reduceAdd, Int.reduceMul, Int.reduceNeg, Bool.false_eq_true, or_true, true_or, or_false, false_or, and_true, true_and, and_false, false_and, not_true_eq_false, not_false_eq_true, ↓reduceIte, z_0, z_k, s_I, s_J, s_uI, s_uJ, c_gP_0_4, f_oc, f_gP0, f_gP1, f_gP2, f_ia0, f_ia1, f_ia2, f_is0, f_is1, f_is2, f_lt, jc1 q1, y1] at e
        exact e
      · have y2 : 2 < b := by omega
        simp (disch := first | assumption | omega) only [k_add, k_sub, k_mul, k_lt, k_eq, k_lt0, k_0lt, k_eq0, k_nat, k_b0, k_b1, k_z1, k_z0, k_o1, k_o0, Int.reduceEq, Int.reduceLT, Int.reduceLE, Int.reduceAdd, Int.reduceMul, Int.reduceNeg, Bool.false_eq_true, or_true, true_or, or_false, false_or, and_true, true_and, and_false, false_and, not_true_eq_false, not_false_eq_true, ↓reduceIte, z_0, z_k, s_I, s_J, s_uI, s_uJ, c_gP_0_4, f_oc, f_gP0, f_gP1, f_gP2, f_ia0, f_ia1, f_ia2, f_is0, f_is1, f_is2, f_lt, jc1 q1, y1, y2] at e
        exact e
  · have z1 : j_z (0 ≤ k ∧ k < a_gn A) = j_k 0 := if_neg z
    rw [z1] at q1
    rw [if_neg (fun u => z u.1)]
    simp (disch := first | assumption | omega) only [k_add, k_sub, k_mul, k_lt, k_eq, k_lt0, k_0lt, k_eq0, k_nat, k_b0, k_b1, k_z1, k_z0, k_o1, k_o0, Int.reduceEq, Int.reduceLT, Int.reduceLE, Int.reduceAdd, Int.reduceMul, Int.reduceNeg, Bool.false_eq_true, or_true, true_or, or_false, false_or, and_true, true_and, and_false, false_and, not_true_eq_false, not_false_eq_true, ↓reduceIte, z_0, z_k, s_I, s_J, s_uI, s_uJ, c_gP_0_4, f_oc, f_gP0, f_gP1, f_gP2, f_ia0, f_ia1, f_ia2, f_is0, f_is1, f_is2, f_lt, jc1 q1] at e
    exact .of ⟨_, e, hx, fun _ _ => rfl⟩
theorem x_last (hx : iX I J A) : xc L p I J (d + 1) 83 [.ref 0] (p_last A) := by
  have hC := hx.1.1
  have ho := hx.1.2.1
  have hG := hx.2.2.2.1
  have hF := hx.2.2.2.2.1
  have hT := hx.2.2.2.2.2.2.2.2.1
  have hM := hx.2.2.2.2.2.2.2.1
  have hn := hC.2.2.1
  have hn4 := hC.2.2.2.1
  obtain ⟨bN0, bN1, -⟩ := bd_N hC
  have hA := fa_31
  have hg := ga_27
  have e := (r_83 d (ST L p I J) 0).trans (t_83_0 _ _ _ _)
  simp (disch := first | assumption | omega) only [k_add, k_sub, k_mul, k_lt, k_eq, k_lt0, k_0lt, k_eq0, k_nat, k_b0, k_b1, k_z1, k_z0, k_o1, k_o0, Int.reduceEq, Int.reduceLT, Int.reduceLE, Int.reduceAdd, Int.reduceMul, Int.reduceNeg, Bool.false_eq_true, or_true, true_or, or_false, false_or, and_true, true_and, and_false, false_and, not_true_eq_false, not_false_eq_true, ↓reduceIte, z_0, z_k, s_I, s_J, s_uI, s_uJ, c_gP_0_4, f_oc, f_gP0, f_gP1, f_gP2, f_ia0, f_ia1, f_ia2, f_is0, f_is1, f_is2, f_lt, c_lt_0, c_oc_0, u2_r, hF.1, hF.2.1, hF.2.2.1] at e
  refine .of ⟨_, e, hx.tell (fun q z1 z2 => ?_) (fun k hk => ?_) ?_, fun q hq => ?_⟩
  · funext k
    rw [u2_r (by omega)]
  · rw [u2_k hk]
  · rw [u2_ss]
  · funext k
    rw [u2_r (by omega)]
theorem x_isWay {y : Int} (h1 : -2147483648 ≤ y) (h2 : y < 2147483648) : j_run (d + 1) 118 [.int (j_k y)] (ST L p I J) = some (some (.int (j_z (0 ≤ y ∧ y < 4))), ST L p I J) := by
  rw [r_118, t_118_0]
  simp (disch := first | assumption | omega) only [k_add, k_sub, k_mul, k_lt, k_eq, k_lt0, k_0lt, k_eq0, k_nat, k_b0, k_b1, k_z1, k_z0, k_o1, k_o0, Int.reduceEq, Int.reduceLT, Int.reduceLE, Int.reduceAdd, Int.reduceMul, Int.reduceNeg, Bool.false_eq_true, or_true, true_or, or_false, false_or, and_true, true_and, and_false, false_and, not_true_eq_false, not_false_eq_true, ↓reduceIte, z_0, z_k, s_I, s_J, s_uI, s_uJ]
  unfold j_z
  ((repeat' split) <;> first | rfl | (exfalso; omega))
theorem x_stir (hx : iX I J A) {k b : Int} (h1 : -2147483648 ≤ k) (h2 : k < 2147483648) (h3 : -2147483648 ≤ b) (h4 : b < 2147483648) : xc L p I J (d + 3) 84 [.ref 0, .int (j_k k), .int (j_k b)] (p_stirC k b A) := by
  have hC := hx.1.1
  have ho := hx.1.2.1
  have hG := hx.2.2.2.1
  have hF := hx.2.2.2.2.1
  have hT := hx.2.2.2.2.2.2.2.2.1
  have hM := hx.2.2.2.2.2.2.2.1
  have hn := hC.2.2.1
  have hn4 := hC.2.2.2.1
  obtain ⟨bN0, bN1, -⟩ := bd_N hC
  have hA := fa_31
  have hg := ga_27
  have q1 := s_has (L := L) (p := p) (d := d + 1) (J := J) hA hF hn hn4 h1 h2
  have q2 := x_isWay (L := L) (p := p) (d := d + 1) (I := I) (J := J) h3 h4
  have e := (r_84 (d + 2) (ST L p I J) 0 (j_k k) (j_k b)).trans (t_84_0 _ _ _ _ _ _)
  unfold p_stirC
  by_cases z : 0 ≤ k ∧ k < a_gn A
  · have z1 : j_z (0 ≤ k ∧ k < a_gn A) = j_k 1 := if_pos z
    rw [z1] at q1
    by_cases y : 0 ≤ b ∧ b < 4
    · have y1 : j_z (0 ≤ b ∧ b < 4) = j_k 1 := if_pos y
      rw [y1] at q2
      rw [if_pos ⟨z, y⟩]
      obtain ⟨I', s1, s2, s3⟩ := s_stirBy (L := L) (p := p) (d := d) (J := J) hA hg hF hG hT hC ho z.1 z.2 y.1 y.2
      by_cases x : p_stir (a_gw A) (a_gh A) (a_gr A) (a_gn A) (a_kd A) (a_fl A) k b = -9
      · rw [x, if_pos rfl] at s2
        rw [x] at s1
        rw [if_pos x]
        simp (disch := first | assumption | omega) only [k_add, k_sub, k_mul, k_lt, k_eq, k_lt0, k_0lt, k_eq0, k_nat, k_b0, k_b1, k_z1, k_z0, k_o1, k_o0, Int.reduceEq, Int.reduceLT, Int.reduceLE, Int.reduceAdd, Int.reduceMul, Int.reduceNeg, Bool.false_eq_true, or_true, true_or, or_false, false_or, and_true, true_and, and_false, false_and, not_true_eq_false, not_false_eq_true, ↓reduceIte, z_0, z_k, s_I, s_J, s_uI, s_uJ, c_gP_0_4, f_oc, f_gP0, f_gP1, f_gP2, f_ia0, f_ia1, f_ia2, f_is0, f_is1, f_is2, f_lt, jc1 q1, jc1 q2, c_gP_0_3, jc1 s1] at e
        exact .of ⟨I', e, hx.flock' s3 s2 ho, fun q hq => s3 q (by omega)⟩
      · obtain ⟨r1, r2, r3⟩ := stir_ok hC ho z.1 z.2 y.1 y.2 x
        rw [if_neg x] at s2 ⊢
        have r4 : -2147483648 ≤ p_stir (a_gw A) (a_gh A) (a_gr A) (a_gn A) (a_kd A) (a_fl A) k b := by omega
        have r5 : p_stir (a_gw A) (a_gh A) (a_gr A) (a_gn A) (a_kd A) (a_fl A) k b < 2147483648 := by omega
        simp (disch := first | assumption | omega) only [k_add, k_sub, k_mul, k_lt, k_eq, k_lt0, k_0lt, k_eq0, k_nat, k_b0, k_b1, k_z1, k_z0, k_o1, k_o0, Int.reduceEq, Int.reduceLT, Int.reduceLE, Int.reduceAdd, Int.reduceMul, Int.reduceNeg, Bool.false_eq_true, or_true, true_or, or_false, false_or, and_true, true_and, and_false, false_and, not_true_eq_false, not_false_eq_true, ↓reduceIte, z_0, z_k, s_I, s_J, s_uI, s_uJ, c_gP_0_4, f_oc, f_gP0, f_gP1, f_gP2, f_ia0, f_ia1, f_ia2, f_is0, f_is1, f_is2, f_lt, jc1 q1, jc1 q2, c_gP_0_3, jc1 s1, x] at e
        exact .of ⟨I', e, hx.flock' s3 s2 r3, fun q hq => s3 q (by omega)⟩
    · have y1 : j_z (0 ≤ b ∧ b < 4) = j_k 0 := if_neg y
      rw [y1] at q2
      rw [if_neg (fun u => y u.2)]
      simp (disch := first | assumption | omega) only [k_add, k_sub, k_mul, k_lt, k_eq, k_lt0, k_0lt, k_eq0, k_nat, k_b0, k_b1, k_z1, k_z0, k_o1, k_o0, Int.reduceEq, Int.reduceLT, Int.reduceLE, Int.reduceAdd, Int.reduceMul, Int.reduceNeg, Bool.false_eq_true, or_true, true_or, or_false, false_or, and_true, true_and, and_false, false_and, not_true_eq_false, not_false_eq_true, ↓reduceIte, z_0, z_k, s_I, s_J, s_uI, s_uJ, c_gP_0_4, f_oc, f_gP0, f_gP1, f_gP2, f_ia0, f_ia1, f_ia2, f_is0, f_is1, f_is2, f_lt, jc1 q1, jc1 q2] at e
      exact .of ⟨_, e, hx, fun _ _ => rfl⟩
  · have z1 : j_z (0 ≤ k ∧ k < a_gn A) = j_k 0 := if_neg z
    rw [z1] at q1
    rw [if_neg (fun u => z u.1)]
    simp (disch := first | assumption | omega) only [k_add, k_sub, k_mul, k_lt, k_eq, k_lt0, k_0lt, k_eq0, k_nat, k_b0, k_b1, k_z1, k_z0, k_o1, k_o0, Int.reduceEq, Int.reduceLT, Int.reduceLE, Int.reduceAdd, Int.reduceMul, Int.reduceNeg, Bool.false_eq_true, or_true, true_or, or_false, false_or, and_true, true_and, and_false, false_and, not_true_eq_false, not_false_eq_true, ↓reduceIte, z_0, z_k, s_I, s_J, s_uI, s_uJ, c_gP_0_4, f_oc, f_gP0, f_gP1, f_gP2, f_ia0, f_ia1, f_ia2, f_is0, f_is1, f_is2, f_lt, jc1 q1] at e
    exact .of ⟨_, e, hx, fun _ _ => rfl⟩
theorem x_go (hx : iX I J A) {m : Int} (h1 : -2147483648 ≤ m) (h2 : m < 2147483648) : xc L p I J (d + 4) 85 [.ref 0, .int (j_k m)] (p_goC m A) := by
  have hC := hx.1.1
  have ho := hx.1.2.1
  have hG := hx.2.2.2.1
  have hF := hx.2.2.2.2.1
  have hT := hx.2.2.2.2.2.2.2.2.1
  have hM := hx.2.2.2.2.2.2.2.1
  have hn := hC.2.2.1
  have hn4 := hC.2.2.2.1
  obtain ⟨bN0, bN1, -⟩ := bd_N hC
  have hA := fa_31
  have hg := ga_27
  have e := (r_85 (d + 3) (ST L p I J) 0 (j_k m)).trans (t_85_0 _ _ _ _ _)
  unfold p_goC
  by_cases z : 0 ≤ m ∧ m ≤ 40
  · rw [if_pos z]
    have z1 : ¬ m < 0 := by omega
    have z2 : ¬ 40 < m := by omega
    by_cases y : a_N A = 0
    · rw [if_pos y]
      simp (disch := first | assumption | omega) only [k_add, k_sub, k_mul, k_lt, k_eq, k_lt0, k_0lt, k_eq0, k_nat, k_b0, k_b1, k_z1, k_z0, k_o1, k_o0, Int.reduceEq, Int.reduceLT, Int.reduceLE, Int.reduceAdd, Int.reduceMul, Int.reduceNeg, Bool.false_eq_true, or_true, true_or, or_false, false_or, and_true, true_and, and_false, false_and, not_true_eq_false, not_false_eq_true, ↓reduceIte, z_0, z_k, s_I, s_J, s_uI, s_uJ, z1, z2, c_gP_0_3, g_oc, g_gP0, g_gP1, g_gP2, g_ia0, g_ia1, g_ia2, g_is0, g_is1, g_is2, g_lt, hG.2.2.1, y] at e
      exact .of ⟨_, e, hx, fun _ _ => rfl⟩
    · rw [if_neg y]
      have o0 := ho.2.2.2.2.2
      have o1 := o0.1
      have o2 := o0.2
      by_cases x : 10000 < a_fl A 0 + m
      · rw [if_pos x]
        simp (disch := first | assumption | omega) only [k_add, k_sub, k_mul, k_lt, k_eq, k_lt0, k_0lt, k_eq0, k_nat, k_b0, k_b1, k_z1, k_z0, k_o1, k_o0, Int.reduceEq, Int.reduceLT, Int.reduceLE, Int.reduceAdd, Int.reduceMul, Int.reduceNeg, Bool.false_eq_true, or_true, true_or, or_false, false_or, and_true, true_and, and_false, false_and, not_true_eq_false, not_false_eq_true, ↓reduceIte, z_0, z_k, s_I, s_J, s_uI, s_uJ, z1, z2, c_gP_0_3, g_oc, g_gP0, g_gP1, g_gP2, g_ia0, g_ia1, g_ia2, g_is0, g_is1, g_is2, g_lt, hG.2.2.1, y, c_gP_0_4, f_oc, f_gP0, f_gP1, f_gP2, f_ia0, f_ia1, f_ia2, f_is0, f_is1, f_is2, f_lt, hF.2.2.2.2.2.1, x] at e
        exact .of ⟨_, e, hx, fun _ _ => rfl⟩
      · rw [if_neg x]
        have loop : ∀ (t M : Nat) (q s b : Int) (f : Fl) (I' : Nat → Nat → Int32), 0 ≤ q → q + t = m → t < M → okF (a_N A) (a_gn A) b f → b + t ≤ 10000 → iF I' 31 (a_gn A) (a_kd A) f → iG I' 27 (a_gw A) (a_gh A) (a_N A) (a_gr A) → iT I' → ∃ I'', j_exec k_85 h_85 (j_run (d + 3)) M 47 [some (.ref 0), some (.int (j_k m)), some (.int (j_k s)), some (.int (j_k q))] [] (ST L p I' J) = some (some (.int (j_k (p_goes (a_gw A) (a_gh A) (a_gr A) (a_gn A) (a_kd A) t s f).1)), ST L p I'' J) ∧ iF I'' 31 (a_gn A) (a_kd A) (p_goes (a_gw A) (a_gh A) (a_gr A) (a_gn A) (a_kd A) t s f).2 ∧ okF (a_N A) (a_gn A) 10000 (p_goes (a_gw A) (a_gh A) (a_gr A) (a_gn A) (a_kd A) t s f).2 ∧ fr 31 I' I'' := by
          intro t
          induction t with
          | zero =>
            intro M q s b f I' q1 q2 hM hf hb hi hG hT
            obtain ⟨M, rfl⟩ : ∃ q, M = q + 1 := ⟨M - 1, by omega⟩
            have z : ¬ q < m := by omega
            refine ⟨I', ?_, hi, okF_le (by omega) hf, fr.rf⟩
            rw [x_exec, t_85_47]
            simp (disch := first | assumption | omega) only [k_add, k_sub, k_mul, k_lt, k_eq, k_lt0, k_0lt, k_eq0, k_nat, k_b0, k_b1, k_z1, k_z0, k_o1, k_o0, Int.reduceEq, Int.reduceLT, Int.reduceLE, Int.reduceAdd, Int.reduceMul, Int.reduceNeg, Bool.false_eq_true, or_true, true_or, or_false, false_or, and_true, true_and, and_false, false_and, not_true_eq_false, not_false_eq_true, ↓reduceIte, z_0, z_k, s_I, s_J, s_uI, s_uJ, z]
            rfl
          | succ t ih =>
            intro M q s b f I' q1 q2 hM hf hb hi hG hT
            obtain ⟨M, rfl⟩ : ∃ q, M = q + 1 := ⟨M - 1, by omega⟩
            have z : q < m := by omega
            obtain ⟨I1, s1, s2, s3⟩ := s_takeStep (L := L) (p := p) (d := d) (J := J) hA hg hi hG hT hC hf (by omega)
            obtain ⟨I2, e1, e2, e3, e4⟩ := ih M (q + 1) (p_stepW (a_gw A) (a_gh A) (a_gr A) (a_gn A) (a_kd A) f) (b + 1) _ I1 (by omega) (by omega) (by omega) (stepF_ok hC hf) (by omega) s2 (hG.fr hA hg s3) (hT.fr hA s3)
            refine ⟨I2, ?_, e2, e3, s3.tr e4⟩
            rw [x_exec, t_85_47]
            simp (disch := first | assumption | omega) only [k_add, k_sub, k_mul, k_lt, k_eq, k_lt0, k_0lt, k_eq0, k_nat, k_b0, k_b1, k_z1, k_z0, k_o1, k_o0, Int.reduceEq, Int.reduceLT, Int.reduceLE, Int.reduceAdd, Int.reduceMul, Int.reduceNeg, Bool.false_eq_true, or_true, true_or, or_false, false_or, and_true, true_and, and_false, false_and, not_true_eq_false, not_false_eq_true, ↓reduceIte, z_0, z_k, s_I, s_J, s_uI, s_uJ, z, c_gP_0_4, c_gP_0_3, f_oc, f_gP0, f_gP1, f_gP2, f_ia0, f_ia1, f_ia2, f_is0, f_is1, f_is2, f_lt, jc1 s1]
            exact e1
        obtain ⟨I', e1, e2, e3, e4⟩ := loop m.toNat 999999 0 0 (a_fl A 0) (a_fl A) I (Int.le_refl 0) (by omega) (by omega) (okF_ti ho) (by omega) hF hG hT
        simp (disch := first | assumption | omega) only [k_add, k_sub, k_mul, k_lt, k_eq, k_lt0, k_0lt, k_eq0, k_nat, k_b0, k_b1, k_z1, k_z0, k_o1, k_o0, Int.reduceEq, Int.reduceLT, Int.reduceLE, Int.reduceAdd, Int.reduceMul, Int.reduceNeg, Bool.false_eq_true, or_true, true_or, or_false, false_or, and_true, true_and, and_false, false_and, not_true_eq_false, not_false_eq_true, ↓reduceIte, z_0, z_k, s_I, s_J, s_uI, s_uJ, z1, z2, c_gP_0_3, g_oc, g_gP0, g_gP1, g_gP2, g_ia0, g_ia1, g_ia2, g_is0, g_is1, g_is2, g_lt, hG.2.2.1, y, c_gP_0_4, f_oc, f_gP0, f_gP1, f_gP2, f_ia0, f_ia1, f_ia2, f_is0, f_is1, f_is2, f_lt, hF.2.2.2.2.2.1, x] at e
        exact .of ⟨I', e.trans e1, hx.flock' e4 e2 e3, fun q hq => e4 q (by omega)⟩
  · rw [if_neg z]
    refine .of ⟨I, ?_, hx, fun _ _ => rfl⟩
    by_cases y1 : m < 0
    · simp (disch := first | assumption | omega) only [k_add, k_sub, k_mul, k_lt, k_eq, k_lt0, k_0lt, k_eq0, k_nat, k_b0, k_b1, k_z1, k_z0, k_o1, k_o0, Int.reduceEq, Int.reduceLT, Int.reduceLE, Int.reduceAdd, Int.reduceMul, Int.reduceNeg, Bool.false_eq_true, or_true, true_or, or_false, false_or, and_true, true_and, and_false, false_and, not_true_eq_false, not_false_eq_true, ↓reduceIte, z_0, z_k, s_I, s_J, s_uI, s_uJ, y1] at e
      exact e
    · have y2 : 40 < m := by omega
      simp (disch := first | assumption | omega) only [k_add, k_sub, k_mul, k_lt, k_eq, k_lt0, k_0lt, k_eq0, k_nat, k_b0, k_b1, k_z1, k_z0, k_o1, k_o0, Int.reduceEq, Int.reduceLT, Int.reduceLE, Int.reduceAdd, Int.reduceMul, Int.reduceNeg, Bool.false_eq_true, or_true, true_or, or_false, false_or, and_true, true_and, and_false, false_and, not_true_eq_false, not_false_eq_true, ↓reduceIte, z_0, z_k, s_I, s_J, s_uI, s_uJ, y1, y2] at e
      exact e
theorem x_run (hx : iX I J A) : xc L p I J (d + 5) 86 [.ref 0] (p_runC A) := by
  have hC := hx.1.1
  have ho := hx.1.2.1
  have hG := hx.2.2.2.1
  have hF := hx.2.2.2.2.1
  have hT := hx.2.2.2.2.2.2.2.2.1
  have hM := hx.2.2.2.2.2.2.2.1
  have hn := hC.2.2.1
  have hn4 := hC.2.2.2.1
  obtain ⟨bN0, bN1, -⟩ := bd_N hC
  have hA := fa_31
  have hg := ga_27
  have e := (r_86 (d + 4) (ST L p I J) 0).trans (t_86_0 _ _ _ _)
  unfold p_runC
  by_cases y : a_N A = 0
  · rw [if_pos y]
    simp (disch := first | assumption | omega) only [k_add, k_sub, k_mul, k_lt, k_eq, k_lt0, k_0lt, k_eq0, k_nat, k_b0, k_b1, k_z1, k_z0, k_o1, k_o0, Int.reduceEq, Int.reduceLT, Int.reduceLE, Int.reduceAdd, Int.reduceMul, Int.reduceNeg, Bool.false_eq_true, or_true, true_or, or_false, false_or, and_true, true_and, and_false, false_and, not_true_eq_false, not_false_eq_true, ↓reduceIte, z_0, z_k, s_I, s_J, s_uI, s_uJ, c_gP_0_3, g_oc, g_gP0, g_gP1, g_gP2, g_ia0, g_ia1, g_ia2, g_is0, g_is1, g_is2, g_lt, hG.2.2.1, y] at e
    exact .of ⟨_, e, hx, fun _ _ => rfl⟩
  · rw [if_neg y]
    have o0 := ho.2.2.2.2.2
    have o1 := o0.1
    have o2 := o0.2
    by_cases x : 9960 < a_fl A 0
    · rw [if_pos x]
      simp (disch := first | assumption | omega) only [k_add, k_sub, k_mul, k_lt, k_eq, k_lt0, k_0lt, k_eq0, k_nat, k_b0, k_b1, k_z1, k_z0, k_o1, k_o0, Int.reduceEq, Int.reduceLT, Int.reduceLE, Int.reduceAdd, Int.reduceMul, Int.reduceNeg, Bool.false_eq_true, or_true, true_or, or_false, false_or, and_true, true_and, and_false, false_and, not_true_eq_false, not_false_eq_true, ↓reduceIte, z_0, z_k, s_I, s_J, s_uI, s_uJ, c_gP_0_3, g_oc, g_gP0, g_gP1, g_gP2, g_ia0, g_ia1, g_ia2, g_is0, g_is1, g_is2, g_lt, hG.2.2.1, y, c_gP_0_4, f_oc, f_gP0, f_gP1, f_gP2, f_ia0, f_ia1, f_ia2, f_is0, f_is1, f_is2, f_lt, hF.2.2.2.2.2.1, x] at e
      exact .of ⟨_, e, hx, fun _ _ => rfl⟩
    · rw [if_neg x]
      obtain ⟨I', s1, s2, s3⟩ := s_runOut (L := L) (p := p) (d := d) (J := J) hA hg hF hG hT hC (okF_ti ho) (by omega)
      have r1 : okF (a_N A) (a_gn A) (a_fl A 0 + 40) (p_runs (a_gw A) (a_gh A) (a_gr A) (a_gn A) (a_kd A) (a_fl A)).1 := run_ok hC 40 0 0 _ _ (okF_ti ho)
      have r2 := r1.2.2.2.2.2.1
      have r3 := r1.2.2.2.2.2.2
      have f8 := s2.2.2.2.2.2.1
      have fin : j_run (d + 5) 86 [.ref 0] (ST L p I J) = some (some (.int (j_k ((p_runs (a_gw A) (a_gh A) (a_gr A) (a_gn A) (a_kd A) (a_fl A)).1 0 - a_fl A 0))), ST L p (u2 I' 0 13 (j_z ((p_runs (a_gw A) (a_gh A) (a_gr A) (a_gn A) (a_kd A) (a_fl A)).2.1 = 2))) J) := by
        rw [e]
        by_cases v : (p_runs (a_gw A) (a_gh A) (a_gr A) (a_gn A) (a_kd A) (a_fl A)).2.1 = 2
        · have v1 : j_z ((p_runs (a_gw A) (a_gh A) (a_gr A) (a_gn A) (a_kd A) (a_fl A)).2.1 = 2) = j_k 1 := if_pos v
          rw [v1] at s1 ⊢
          simp (disch := first | assumption | omega) only [k_add, k_sub, k_mul, k_lt, k_eq, k_lt0, k_0lt, k_eq0, k_nat, k_b0, k_b1, k_z1, k_z0, k_o1, k_o0, Int.reduceEq, Int.reduceLT, Int.reduceLE, Int.reduceAdd, Int.reduceMul, Int.reduceNeg, Bool.false_eq_true, or_true, true_or, or_false, false_or, and_true, true_and, and_false, false_and, not_true_eq_false, not_false_eq_true, ↓reduceIte, z_0, z_k, s_I, s_J, s_uI, s_uJ, c_gP_0_3, g_oc, g_gP0, g_gP1, g_gP2, g_ia0, g_ia1, g_ia2, g_is0, g_is1, g_is2, g_lt, hG.2.2.1, y, c_gP_0_4, f_oc, f_gP0, f_gP1, f_gP2, f_ia0, f_ia1, f_ia2, f_is0, f_is1, f_is2, f_lt, hF.2.2.2.2.2.1, x, jc1 s1, c_lt_0, c_oc_0, u2_r, f8]
        · have v1 : j_z ((p_runs (a_gw A) (a_gh A) (a_gr A) (a_gn A) (a_kd A) (a_fl A)).2.1 = 2) = j_k 0 := if_neg v
          rw [v1] at s1 ⊢
          simp (disch := first | assumption | omega) only [k_add, k_sub, k_mul, k_lt, k_eq, k_lt0, k_0lt, k_eq0, k_nat, k_b0, k_b1, k_z1, k_z0, k_o1, k_o0, Int.reduceEq, Int.reduceLT, Int.reduceLE, Int.reduceAdd, Int.reduceMul, Int.reduceNeg, Bool.false_eq_true, or_true, true_or, or_false, false_or, and_true, true_and, and_false, false_and, not_true_eq_false, not_false_eq_true, ↓reduceIte, z_0, z_k, s_I, s_J, s_uI, s_uJ, c_gP_0_3, g_oc, g_gP0, g_gP1, g_gP2, g_ia0, g_ia1, g_ia2, g_is0, g_is1, g_is2, g_lt, hG.2.2.1, y, c_gP_0_4, f_oc, f_gP0, f_gP1, f_gP2, f_ia0, f_ia1, f_ia2, f_is0, f_is1, f_is2, f_lt, hF.2.2.2.2.2.1, x, jc1 s1, c_lt_0, c_oc_0, u2_r, f8]
      refine .of ⟨_, fin, hx.flock (fun q q1 q2 => ?_) (fun k hk => ?_) ?_ (s2.cg (fun r r1 r2 => ?_)) (okF_le (by omega) r1), fun q hq => ?_⟩
      · funext k
        rw [u2_r (by omega), s3 q (by omega)]
      · rw [u2_k hk, s3 0 (by omega)]
      · rw [u2_ss]
      · funext k
        rw [u2_r (by omega)]
      · funext k
        rw [u2_r (by omega), s3 q (by omega)]
theorem x_apart (hx : iX I J A) : xc L p I J (d + 3) 89 [.ref 0] (p_apartC A) := by
  have hC := hx.1.1
  have ho := hx.1.2.1
  have hG := hx.2.2.2.1
  have hF := hx.2.2.2.2.1
  have hT := hx.2.2.2.2.2.2.2.2.1
  have hM := hx.2.2.2.2.2.2.2.1
  have hn := hC.2.2.1
  have hn4 := hC.2.2.2.1
  obtain ⟨bN0, bN1, -⟩ := bd_N hC
  have hA := fa_31
  have hg := ga_27
  have q1 := s_allOff (L := L) (p := p) (d := d) (J := J) hA hg hF hG hC ho
  have e := (r_89 (d + 2) (ST L p I J) 0).trans (t_89_0 _ _ _ _)
  simp (disch := first | assumption | omega) only [k_add, k_sub, k_mul, k_lt, k_eq, k_lt0, k_0lt, k_eq0, k_nat, k_b0, k_b1, k_z1, k_z0, k_o1, k_o0, Int.reduceEq, Int.reduceLT, Int.reduceLE, Int.reduceAdd, Int.reduceMul, Int.reduceNeg, Bool.false_eq_true, or_true, true_or, or_false, false_or, and_true, true_and, and_false, false_and, not_true_eq_false, not_false_eq_true, ↓reduceIte, z_0, z_k, s_I, s_J, s_uI, s_uJ, c_gP_0_4, c_gP_0_3, f_oc, f_gP0, f_gP1, f_gP2, f_ia0, f_ia1, f_ia2, f_is0, f_is1, f_is2, f_lt, jc1 q1] at e
  exact .of ⟨_, e, hx, fun _ _ => rfl⟩
end CALLS2
