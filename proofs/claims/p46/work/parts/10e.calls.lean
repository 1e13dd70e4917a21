/-! ===== the class's calls: keep, on, where, copy, mean ===== -/
def p_keep (k : Int) (A : Ast) : Int × Ast := if 0 ≤ k ∧ k < 3 then (if a_N A = 0 then (-4, A) else (a_fl A 0, A_kf (A_kp A (f2 (a_kp A) k true)) (f2 (a_kf A) k (a_fl A)))) else (-1, A)
def p_on (k : Int) (A : Ast) : Int × Ast := if 0 ≤ k ∧ k < 3 then (if a_kp A k = true then (a_kf A k 0, A_fl A (a_kf A k)) else p_meets 1 A) else (-1, A)
def p_where (r : Int) (A : Ast) : Int × Ast := if 0 ≤ r ∧ r < 6 then (p_lost (a_gn A) (a_fl A), A_rv (A_rz A (f2 (a_rz A) r (a_gn A))) (f2 (a_rv A) r (fun i => if i < a_gn A then j_k (a_fl A (5 + i)) else 0))) else (-1, A)
abbrev p_fits (i m s : Int) : Prop := 0 ≤ i ∧ i ≤ s ∧ m ≤ s - i
def p_cpy (s t : Int → Int32) (i j m : Int) : Int → Int32 := fun k => if j ≤ k ∧ k < j + m then s (i + (k - j)) else t k
def p_copy (r i t j m : Int) (A : Ast) : Int × Ast := if (0 ≤ r ∧ r < 6) ∧ 0 ≤ t ∧ t < 6 then (if m < 0 then p_meets 5 A else if a_rz A r = -1 ∨ a_rz A t = -1 then p_meets 1 A else if p_fits i m (a_rz A r) ∧ p_fits j m (a_rz A t) then (1, A_rv A (f2 (a_rv A) t (p_cpy (a_rv A r) (a_rv A t) i j m))) else p_meets 2 A) else (-1, A)
def p_meanV (v : Int → Int32) (m : Int) : Int32 := ((p_loop (fun k s => s + (v k).toInt64) m.toNat 0 (Int64.ofNat 0)) / (j_k m).toInt64).toInt32
def p_mean (r : Int) (A : Ast) : Int × Ast := if (p_miss 6 (a_rz A) r A).1 = 0 then (if a_rz A r = 0 then p_meets 4 A else (1, A_told A (p_meanV (a_rv A r) (a_rz A r)))) else p_miss 6 (a_rz A) r A
theorem k_or8 {s b : Int} (h1 : 0 ≤ s) (h2 : s < 8) (h3 : 0 ≤ b) (h4 : b < 3) : ∃ v, 0 ≤ v ∧ v < 8 ∧ j_k s ||| (j_k 1 <<< (j_k b &&& 31)) = j_k v := by
  refine ⟨(j_k s ||| (j_k 1 <<< (j_k b &&& 31))).toInt, ?_, ?_, (Int32.ofInt_toInt _).symm⟩
  · rcases (show s = 0 ∨ s = 1 ∨ s = 2 ∨ s = 3 ∨ s = 4 ∨ s = 5 ∨ s = 6 ∨ s = 7 by omega) with rfl | rfl | rfl | rfl | rfl | rfl | rfl | rfl <;> rcases (show b = 0 ∨ b = 1 ∨ b = 2 by omega) with rfl | rfl | rfl <;> decide
  · rcases (show s = 0 ∨ s = 1 ∨ s = 2 ∨ s = 3 ∨ s = 4 ∨ s = 5 ∨ s = 6 ∨ s = 7 by omega) with rfl | rfl | rfl | rfl | rfl | rfl | rfl | rfl <;> rcases (show b = 0 ∨ b = 1 ∨ b = 2 by omega) with rfl | rfl | rfl <;> decide
theorem fa_k {i : Int} (h1 : 0 ≤ i) (h2 : i < 3) : FA (36 + 4 * i.toNat) := by
  rcases (show i = 0 ∨ i = 1 ∨ i = 2 by omega) with rfl | rfl | rfl
  · exact fa_36
  · exact fa_40
  · exact fa_44
section CALLS3
variable {L p d : Nat} {J : Nat → Nat → Int64} {I I' : Nat → Nat → Int32} {A : Ast} {K : Option Rr} {r i : Int}
theorem x_isPlace {k : Int} (h1 : -2147483648 ≤ k) (h2 : k < 2147483648) : j_run (d + 1) 119 [.ref 0, .int (j_k k)] (ST L p I J) = some (some (.int (j_z (0 ≤ k ∧ k < 3))), ST L p I J) := by
  rw [r_119, t_119_0]
  simp (disch := first | assumption | omega) only [k_add, k_sub, k_mul, k_lt, k_eq, k_lt0, k_0lt, k_eq0, k_nat, k_b0, k_b1, k_z1, k_z0, k_o1, k_o0, Int.reduceEq, Int.reduceLT, Int.reduceLE, Int.reduceAdd, Int.reduceMul, Int.reduceNeg, Bool.false_eq_true, or_true, true_or, or_false, false_or, and_true, true_and, and_false, false_and, not_true_eq_false, not_false_eq_true, ↓reduceIte, z_0, z_k, s_I, s_J, s_uI, s_uJ, c_gP_0_5, c_len_35]
  unfold j_z
  ((repeat' split) <;> first | rfl | (exfalso; omega))
theorem x_isKept (hx : iX I J A) {k : Int} (h1 : 0 ≤ k) (h2 : k < 3) : j_run (d + 1) 120 [.ref 0, .int (j_k k)] (ST L p I J) = some (some (.int (j_z (a_kp A k = true))), ST L p I J) := by
  have hb := (hx.2.2.2.2.2.1 k h1 h2).1
  rw [r_120, t_120_0]
  simp (disch := first | assumption | omega) only [k_add, k_sub, k_mul, k_lt, k_eq, k_lt0, k_0lt, k_eq0, k_nat, k_b0, k_b1, k_z1, k_z0, k_o1, k_o0, Int.reduceEq, Int.reduceLT, Int.reduceLE, Int.reduceAdd, Int.reduceMul, Int.reduceNeg, Bool.false_eq_true, or_true, true_or, or_false, false_or, and_true, true_and, and_false, false_and, not_true_eq_false, not_false_eq_true, ↓reduceIte, z_0, z_k, s_I, s_J, s_uI, s_uJ, c_oc_0, tb_iff, hb]
  unfold j_z
  ((repeat' split) <;> first | rfl | (exfalso; omega))
/-- only kept flocks are written, and which they are -/
theorem iX.kept (hx : iX I J A) (h : ∀ q, q ≠ 0 → (q < 36 ∨ 48 ≤ q) → I' q = I q) (h0 : ∀ k, k ≠ 11 → I' 0 k = I 0 k) {kp : Int → Bool} {kf : Int → Fl} (hk : xK I' (a_gn A) (a_kd A) kp kf) (hk2 : xK2 I') (ho : ∀ k, 0 ≤ k → k < 3 → kp k = true → okF (a_N A) (a_gn A) 10000 (kf k)) : iX I' J (A_kf (A_kp A kp) kf) := by
  obtain ⟨x1, x2, x3, x4, x5, x6, x7, x8, x9, x10⟩ := hx
  refine ⟨⟨x1.1, x1.2.1, ho, x1.2.2.2⟩, x2.cg (fun r a b => h r (by omega) (by omega)), x3.cg (fun r a b => h r (by omega) (by omega)), x4.cg (fun r a b => h r (by omega) (by omega)), x5.cg (fun r a b => h r (by omega) (by omega)), hk, hk2, ⟨?_, x8.2.1, x8.2.2.1, ?_, fun q q1 q2 => ?_⟩, x9.cg (h _ (by decide) (Or.inr (by decide))) (h _ (by decide) (Or.inr (by decide))), x10.cg (h _ (by decide) (Or.inr (by decide))) (h _ (by decide) (Or.inr (by decide)))⟩
  · rw [h0 13 (by decide)]
    exact x8.1
  · rw [h0 12 (by decide)]
    exact x8.2.2.2.1
  · rw [h 86 (by decide) (by decide)]
    exact x8.2.2.2.2 q q1 q2
theorem x_keep (hx : iX I J A) {k : Int} (h1 : -2147483648 ≤ k) (h2 : k < 2147483648) : xc L p I J (d + 2) 90 [.ref 0, .int (j_k k)] (p_keep k A) := by
  have hC := hx.1.1
  have ho := hx.1.2.1
  have hG := hx.2.2.2.1
  have hF := hx.2.2.2.2.1
  have hT := hx.2.2.2.2.2.2.2.2.1
  have hM := hx.2.2.2.2.2.2.2.1
  have hn := hC.2.2.1
  have hn4 := hC.2.2.2.1
  obtain ⟨bN0, bN1, -⟩ := bd_N hC
  have hA := fa_31
  have hg := ga_27
  have q1 := x_isPlace (L := L) (p := p) (d := d) (I := I) (J := J) h1 h2
  have e := (r_90 (d + 1) (ST L p I J) 0 (j_k k)).trans (t_90_0 _ _ _ _ _)
  unfold p_keep
  by_cases z : 0 ≤ k ∧ k < 3
  · have z1 : j_z (0 ≤ k ∧ k < 3) = j_k 1 := if_pos z
    rw [z1] at q1
    rw [if_pos z]
    obtain ⟨k1, k2⟩ := z
    by_cases y : a_N A = 0
    · rw [if_pos y]
      simp (disch := first | assumption | omega) only [k_add, k_sub, k_mul, k_lt, k_eq, k_lt0, k_0lt, k_eq0, k_nat, k_b0, k_b1, k_z1, k_z0, k_o1, k_o0, Int.reduceEq, Int.reduceLT, Int.reduceLE, Int.reduceAdd, Int.reduceMul, Int.reduceNeg, Bool.false_eq_true, or_true, true_or, or_false, false_or, and_true, true_and, and_false, false_and, not_true_eq_false, not_false_eq_true, ↓reduceIte, z_0, z_k, s_I, s_J, s_uI, s_uJ, c_oc_0, jc1 q1, c_gP_0_3, g_oc, g_gP0, g_gP1, g_gP2, g_ia0, g_ia1, g_ia2, g_is0, g_is1, g_is2, g_lt, hG.2.2.1, y] at e
      exact .of ⟨_, e, hx, fun _ _ => rfl⟩
    · rw [if_neg y]
      have hK := fa_k k1 k2
      obtain ⟨I', s1, s2, s3⟩ := s_take (L := L) (p := p) (d := d) (J := J) hK hA (by omega) hF hn hn4
      obtain ⟨v, v1, v2, v3⟩ := hx.2.2.2.2.2.2.1
      obtain ⟨v', w1, w2, w3⟩ := k_or8 v1 v2 k1 k2
      have f8 : I' 31 8 = j_k (a_fl A 0) := by rw [s3 31 (by omega)]; exact hF.2.2.2.2.2.1
      have f0 : I' 0 11 = j_k v := by rw [s3 0 (by omega)]; exact v3
      have hb : ∀ c : Int, 0 ≤ c → c < 3 → bt (j_k v') c.toNat = (bt (I 0 11) c.toNat || decide (c = k)) := by
        intro c c1 c2
        rw [← w3, bt_on _ k1 (by omega) c1 (by omega), v3]
      simp (disch := first | assumption | omega) only [k_add, k_sub, k_mul, k_lt, k_eq, k_lt0, k_0lt, k_eq0, k_nat, k_b0, k_b1, k_z1, k_z0, k_o1, k_o0, Int.reduceEq, Int.reduceLT, Int.reduceLE, Int.reduceAdd, Int.reduceMul, Int.reduceNeg, Bool.false_eq_true, or_true, true_or, or_false, false_or, and_true, true_and, and_false, false_and, not_true_eq_false, not_false_eq_true, ↓reduceIte, z_0, z_k, s_I, s_J, s_uI, s_uJ, c_oc_0, jc1 q1, c_gP_0_3, g_oc, g_gP0, g_gP1, g_gP2, g_ia0, g_ia1, g_ia2, g_is0, g_is1, g_is2, g_lt, hG.2.2.1, y, c_gP_0_5, c_qa_35, c_gP_0_4, f_oc hK, f_oc hA, jc0 s1, c_lt_0, f0, w3, u2_r, f8] at e
      refine .of ⟨_, e, hx.kept (fun q q1 q2 => ?_) (fun j hj => ?_) (fun c c1 c2 => ⟨?_, fun u => ?_⟩) ⟨v', w1, w2, ?_⟩ (fun c c1 c2 u => ?_), fun q hq => ?_⟩
      · funext j
        rw [u2_r (by omega), s3 q (by omega)]
      · rw [u2_k hj, s3 0 (by omega)]
      · rw [u2_ss, hb c c1 c2, (hx.2.2.2.2.2.1 c c1 c2).1]
        unfold f2
        by_cases u : c = k
        · rw [if_pos u, decide_eq_true u, Bool.or_true]
        · rw [if_neg u, decide_eq_false u, Bool.or_false]
      · unfold f2 at u ⊢
        by_cases t : c = k
        · subst t
          rw [if_pos rfl]
          have ek : kA c = 36 + 4 * c.toNat := rfl
          exact s2.cg (fun r r1 r2 => by funext j; rw [u2_r (by omega)])
        · rw [if_neg t] at u ⊢
          refine ((hx.2.2.2.2.2.1 c c1 c2).2 u).cg (fun r r1 r2 => ?_)
          have ek : kA c = 36 + 4 * c.toNat := rfl
          funext j
          rw [u2_r (by omega), s3 r (by omega)]
      · rw [u2_ss]
      · unfold f2 at u ⊢
        by_cases t : c = k
        · rw [if_pos t]
          exact ho
        · rw [if_neg t] at u ⊢
          exact hx.1.2.2.1 c c1 c2 u
      · funext j
        rw [u2_r (by omega), s3 q (by omega)]
  · have z1 : j_z (0 ≤ k ∧ k < 3) = j_k 0 := if_neg z
    rw [z1] at q1
    rw [if_neg z]
    simp (disch := first | assumption | omega) only [k_add, k_sub, k_mul, k_lt, k_eq, k_lt0, k_0lt, k_eq0, k_nat, k_b0, k_b1, k_z1, k_z0, k_o1, k_o0, Int.reduceEq, Int.reduceLT, Int.reduceLE, Int.reduceAdd, Int.reduceMul, Int.reduceNeg, Bool.false_eq_true, or_true, true_or, or_false, false_or, and_true, true_and, and_false, false_and, not_true_eq_false, not_false_eq_true, ↓reduceIte, z_0, z_k, s_I, s_J, s_uI, s_uJ, c_oc_0, jc1 q1] at e
    exact .of ⟨_, e, hx, fun _ _ => rfl⟩
theorem x_on (hx : iX I J A) {k : Int} (h1 : -2147483648 ≤ k) (h2 : k < 2147483648) : xc L p I J (d + 2) 91 [.ref 0, .int (j_k k)] (p_on k A) := by
  have hC := hx.1.1
  have ho := hx.1.2.1
  have hG := hx.2.2.2.1
  have hF := hx.2.2.2.2.1
  have hT := hx.2.2.2.2.2.2.2.2.1
  have hM := hx.2.2.2.2.2.2.2.1
  have hn := hC.2.2.1
  have hn4 := hC.2.2.2.1
  obtain ⟨bN0, bN1, -⟩ := bd_N hC
  have hA := fa_31
  have hg := ga_27
  have q1 := x_isPlace (L := L) (p := p) (d := d) (I := I) (J := J) h1 h2
  have e := (r_91 (d + 1) (ST L p I J) 0 (j_k k)).trans (t_91_0 _ _ _ _ _)
  unfold p_on
  by_cases z : 0 ≤ k ∧ k < 3
  · have z1 : j_z (0 ≤ k ∧ k < 3) = j_k 1 := if_pos z
    rw [z1] at q1
    rw [if_pos z]
    obtain ⟨k1, k2⟩ := z
    have q2 := x_isKept (L := L) (p := p) (d := d) hx k1 k2
    by_cases y : a_kp A k = true
    · have y1 : j_z (a_kp A k = true) = j_k 1 := if_pos y
      rw [y1] at q2
      rw [if_pos y]
      have hK := fa_k k1 k2
      obtain ⟨I', s1, s2, s3⟩ := s_take (L := L) (p := p) (d := d) (J := J) hA hK (by omega) ((hx.2.2.2.2.2.1 k k1 k2).2 y) hn hn4
      have f8 := s2.2.2.2.2.2.1
      simp (disch := first | assumption | omega) only [k_add, k_sub, k_mul, k_lt, k_eq, k_lt0, k_0lt, k_eq0, k_nat, k_b0, k_b1, k_z1, k_z0, k_o1, k_o0, Int.reduceEq, Int.reduceLT, Int.reduceLE, Int.reduceAdd, Int.reduceMul, Int.reduceNeg, Bool.false_eq_true, or_true, true_or, or_false, false_or, and_true, true_and, and_false, false_and, not_true_eq_false, not_false_eq_true, ↓reduceIte, z_0, z_k, s_I, s_J, s_uI, s_uJ, c_oc_0, jc1 q1, jc1 q2, c_gP_0_4, c_gP_0_5, c_qa_35, f_oc hA, jc0 s1, f8] at e
      exact .of ⟨_, e, hx.flock' s3 s2 (hx.1.2.2.1 k k1 k2 y), fun q hq => s3 q (by omega)⟩
    · have y1 : j_z (a_kp A k = true) = j_k 0 := if_neg y
      rw [y1] at q2
      rw [if_neg y]
      obtain ⟨I', e1, e2, e3⟩ := x_finds (L := L) (p := p) (d := d) hx (q := 1) (by decide) (by decide)
      simp (disch := first | assumption | omega) only [k_add, k_sub, k_mul, k_lt, k_eq, k_lt0, k_0lt, k_eq0, k_nat, k_b0, k_b1, k_z1, k_z0, k_o1, k_o0, Int.reduceEq, Int.reduceLT, Int.reduceLE, Int.reduceAdd, Int.reduceMul, Int.reduceNeg, Bool.false_eq_true, or_true, true_or, or_false, false_or, and_true, true_and, and_false, false_and, not_true_eq_false, not_false_eq_true, ↓reduceIte, z_0, z_k, s_I, s_J, s_uI, s_uJ, c_oc_0, jc1 q1, jc1 q2, jc1 e1] at e
      exact .of ⟨_, e, e2, fun q hq => e3 q (by omega) (by omega)⟩
  · have z1 : j_z (0 ≤ k ∧ k < 3) = j_k 0 := if_neg z
    rw [z1] at q1
    rw [if_neg z]
    simp (disch := first | assumption | omega) only [k_add, k_sub, k_mul, k_lt, k_eq, k_lt0, k_0lt, k_eq0, k_nat, k_b0, k_b1, k_z1, k_z0, k_o1, k_o0, Int.reduceEq, Int.reduceLT, Int.reduceLE, Int.reduceAdd, Int.reduceMul, Int.reduceNeg, Bool.false_eq_true, or_true, true_or, or_false, false_or, and_true, true_and, and_false, false_and, not_true_eq_false, not_false_eq_true, ↓reduceIte, z_0, z_k, s_I, s_J, s_uI, s_uJ, c_oc_0, jc1 q1] at e
    exact .of ⟨_, e, hx, fun _ _ => rfl⟩
theorem x_fill1 {r n : Int} {v : Int32} (r1 : 0 ≤ r) (r2 : r < 6) : j_run (d + 2) 61 [.ref 1, .int (j_k r), .int (j_k n), .int v] (ST L p I J) = some (none, ST L p (u2 (u1 I (3 + 1 * r.toNat) (fun j => if j < 60 then v else I (3 + 1 * r.toNat) j)) 9 r.toNat (j_k n)) J) := by
  have hq := s_fill (L := L) (p := p) (d := d) (I := I) (J := J) (v := v) (sh_row (L := L) r1 r2) (by omega) (by decide)
  rw [r_61, t_61_0]
  simp (disch := first | assumption | omega) only [k_add, k_sub, k_mul, k_lt, k_eq, k_lt0, k_0lt, k_eq0, k_nat, k_b0, k_b1, k_z1, k_z0, k_o1, k_o0, Int.reduceEq, Int.reduceLT, Int.reduceLE, Int.reduceAdd, Int.reduceMul, Int.reduceNeg, Bool.false_eq_true, or_true, true_or, or_false, false_or, and_true, true_and, and_false, false_and, not_true_eq_false, not_false_eq_true, ↓reduceIte, z_0, z_k, s_I, s_J, s_uI, s_uJ, c_gP_1_0, c_qa_2, jc0 hq, c_gP_1_1, c_is_9]
theorem x_where (hx : iX I J A) {r : Int} (h1 : -2147483648 ≤ r) (h2 : r < 2147483648) : xc L p I J (d + 3) 88 [.ref 0, .int (j_k r)] (p_where r A) := by
  have hC := hx.1.1
  have ho := hx.1.2.1
  have hG := hx.2.2.2.1
  have hF := hx.2.2.2.2.1
  have hT := hx.2.2.2.2.2.2.2.2.1
  have hM := hx.2.2.2.2.2.2.2.1
  have hn := hC.2.2.1
  have hn4 := hC.2.2.2.1
  obtain ⟨bN0, bN1, -⟩ := bd_N hC
  have hA := fa_31
  have hg := ga_27
  have q1 := x_has1 (L := L) (p := p) (d := d + 1) (I := I) (J := J) h1 h2
  have e := (r_88 (d + 2) (ST L p I J) 0 (j_k r)).trans (t_88_0 _ _ _ _ _)
  unfold p_where
  by_cases z : 0 ≤ r ∧ r < 6
  · have z1 : j_z (0 ≤ r ∧ r < 6) = j_k 1 := if_pos z
    rw [z1] at q1
    rw [if_pos z]
    obtain ⟨r1, r2⟩ := z
    have s1 := x_fill1 (L := L) (p := p) (d := d) (I := I) (J := J) (n := a_gn A) (v := j_k 0) r1 r2
    have loop : ∀ (t M : Nat) (k : Int) (I' : Nat → Nat → Int32), 0 ≤ k → k + t = a_gn A → t < M → (∀ q, q ≠ 9 → q ≠ 3 + 1 * r.toNat → I' q = I q) → I' 9 = u2 I 9 r.toNat (j_k (a_gn A)) 9 → (∀ i : Int, 0 ≤ i → i < 60 → I' (3 + 1 * r.toNat) i.toNat = if i < k then j_k (a_fl A (5 + i)) else 0) →
        ∃ I'', j_exec k_88 h_88 (j_run (d + 2)) M 31 [some (.ref 0), some (.int (j_k r)), some (.int (j_k k))] [] (ST L p I' J) = some (some (.int (j_k (p_lost (a_gn A) (a_fl A)))), ST L p I'' J) ∧ (∀ q, q ≠ 9 → q ≠ 3 + 1 * r.toNat → I'' q = I q) ∧ I'' 9 = u2 I 9 r.toNat (j_k (a_gn A)) 9 ∧ (∀ i : Int, 0 ≤ i → i < 60 → I'' (3 + 1 * r.toNat) i.toNat = if i < a_gn A then j_k (a_fl A (5 + i)) else 0) := by
      intro t
      induction t with
      | zero =>
        intro M k I' k1 k2 hM a1 a2 a3
        obtain ⟨M, rfl⟩ : ∃ q, M = q + 1 := ⟨M - 1, by omega⟩
        have z : ¬ k < a_gn A := by omega
        have ek : k = a_gn A := by omega
        have hF' : iF I' 31 (a_gn A) (a_kd A) (a_fl A) := hF.cg (fun r r1 r2 => a1 r (by omega) (by omega))
        have q2 := s_lostOnes (L := L) (p := p) (d := d + 1) (J := J) hA hF' hn hn4 ho bN1
        refine ⟨I', ?_, a1, a2, by rw [← ek]; exact a3⟩
        rw [x_exec, t_88_31]
        simp (disch := first | assumption | omega) only [k_add, k_sub, k_mul, k_lt, k_eq, k_lt0, k_0lt, k_eq0, k_nat, k_b0, k_b1, k_z1, k_z0, k_o1, k_o0, Int.reduceEq, Int.reduceLT, Int.reduceLE, Int.reduceAdd, Int.reduceMul, Int.reduceNeg, Bool.false_eq_true, or_true, true_or, or_false, false_or, and_true, true_and, and_false, false_and, not_true_eq_false, not_false_eq_true, ↓reduceIte, z_0, z_k, s_I, s_J, s_uI, s_uJ, c_gP_0_4, f_oc, f_gP0, f_gP1, f_gP2, f_ia0, f_ia1, f_ia2, f_is0, f_is1, f_is2, f_lt, hF'.1, z, jc1 q2]
      | succ t ih =>
        intro M k I' k1 k2 hM a1 a2 a3
        obtain ⟨M, rfl⟩ : ∃ q, M = q + 1 := ⟨M - 1, by omega⟩
        have z : k < a_gn A := by omega
        have hF' : iF I' 31 (a_gn A) (a_kd A) (a_fl A) := hF.cg (fun r r1 r2 => a1 r (by omega) (by omega))
        have hv := hF'.2.2.2.2.2.2.2.1 k k1 z
        obtain ⟨I'', e1, e2, e3, e4⟩ := ih M (k + 1) (u2 I' (3 + 1 * r.toNat) k.toNat (j_k (a_fl A (5 + k)))) (by omega) (by omega) (by omega) (fun q x1 x2 => by funext j; rw [u2_r (by omega), a1 q x1 x2]) (by rw [← a2]; funext j; rw [u2_r (by omega)]) (fun i i1 i2 => by
          by_cases x : i = k
          · subst x
            rw [u2_ss, if_pos (by omega)]
          · rw [u2_k (by omega), a3 i i1 i2]
            by_cases y : i < k
            · rw [if_pos y, if_pos (by omega)]
            · rw [if_neg y, if_neg (by omega)])
        refine ⟨I'', ?_, e2, e3, e4⟩
        rw [x_exec, t_88_31]
        simp (disch := first | assumption | omega) only [k_add, k_sub, k_mul, k_lt, k_eq, k_lt0, k_0lt, k_eq0, k_nat, k_b0, k_b1, k_z1, k_z0, k_o1, k_o0, Int.reduceEq, Int.reduceLT, Int.reduceLE, Int.reduceAdd, Int.reduceMul, Int.reduceNeg, Bool.false_eq_true, or_true, true_or, or_false, false_or, and_true, true_and, and_false, false_and, not_true_eq_false, not_false_eq_true, ↓reduceIte, z_0, z_k, s_I, s_J, s_uI, s_uJ, c_gP_0_4, c_gP_0_0, c_gP_1_0, f_oc, f_gP0, f_gP1, f_gP2, f_ia0, f_ia1, f_ia2, f_is0, f_is1, f_is2, f_lt, hF'.1, z, c_qa_2, is_row, hv]
        exact e1
    obtain ⟨I', e1, e2, e3, e4⟩ := loop (a_gn A).toNat 999999 0 (u2 (u1 I (3 + 1 * r.toNat) (fun j => if j < 60 then j_k 0 else I (3 + 1 * r.toNat) j)) 9 r.toNat (j_k (a_gn A))) (Int.le_refl 0) (by omega) (by omega) (fun q x1 x2 => by funext j; rw [u2_r (by omega), u1_ne (by omega)]) (by
      funext j
      unfold u2
      rw [u1_same, u1_same, u1_ne (show (9 : Nat) ≠ 3 + 1 * r.toNat by omega)]) (fun i i1 i2 => by
      rw [u2_r (by omega), u1_same, if_pos (show i.toNat < 60 by omega), if_neg (by omega)]
      rfl)
    simp (disch := first | assumption | omega) only [k_add, k_sub, k_mul, k_lt, k_eq, k_lt0, k_0lt, k_eq0, k_nat, k_b0, k_b1, k_z1, k_z0, k_o1, k_o0, Int.reduceEq, Int.reduceLT, Int.reduceLE, Int.reduceAdd, Int.reduceMul, Int.reduceNeg, Bool.false_eq_true, or_true, true_or, or_false, false_or, and_true, true_and, and_false, false_and, not_true_eq_false, not_false_eq_true, ↓reduceIte, z_0, z_k, s_I, s_J, s_uI, s_uJ, c_gP_0_0, c_oc_1, jc1 q1, c_gP_0_4, f_oc, f_gP0, f_gP1, f_gP2, f_ia0, f_ia1, f_ia2, f_is0, f_is1, f_is2, f_lt, hF.1, jc0 s1] at e
    refine .of ⟨I', e.trans e1, ?_, fun q hq => e2 q (by omega) (by omega)⟩
    refine hx.rows (rz := f2 (a_rz A) r (a_gn A)) (rv := f2 (a_rv A) r (fun i => if i < a_gn A then j_k (a_fl A (5 + i)) else 0)) (v := a_told A) (fun q z1 z2 => e2 q (by omega) (by omega)) (fun k _ => by rw [e2 0 (by omega) (by omega)]) (by rw [e2 0 (by omega) (by omega)]; exact hM.1) (fun s s1 s2 => ?_) (fun s s1 s2 => ?_)
    · rw [e3]
      unfold f2
      by_cases x : s = r
      · subst x
        rw [u2_ss, if_pos rfl, if_pos rfl]
        exact ⟨rfl, e4⟩
      · rw [u2_k (by omega), if_neg x, if_neg x, e2 _ (by omega) (by omega)]
        exact hx.2.1 s s1 s2
    · unfold f2
      by_cases x : s = r
      · rw [if_pos x]; omega
      · rw [if_neg x]; exact hx.1.2.2.2.1 s s1 s2
  · have z1 : j_z (0 ≤ r ∧ r < 6) = j_k 0 := if_neg z
    rw [z1] at q1
    rw [if_neg z]
    simp (disch := first | assumption | omega) only [k_add, k_sub, k_mul, k_lt, k_eq, k_lt0, k_0lt, k_eq0, k_nat, k_b0, k_b1, k_z1, k_z0, k_o1, k_o0, Int.reduceEq, Int.reduceLT, Int.reduceLE, Int.reduceAdd, Int.reduceMul, Int.reduceNeg, Bool.false_eq_true, or_true, true_or, or_false, false_or, and_true, true_and, and_false, false_and, not_true_eq_false, not_false_eq_true, ↓reduceIte, z_0, z_k, s_I, s_J, s_uI, s_uJ, c_gP_0_0, c_oc_1, jc1 q1] at e
    exact .of ⟨_, e, hx, fun _ _ => rfl⟩
end CALLS3
