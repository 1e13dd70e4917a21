/-! ===== the class's calls: wolf, asked .. findings, ways, ring, worth ===== -/
theorem l_sub (a b : Int) : lk a - lk b = lk (a - b) := (Int64.ofInt_sub a b).symm
theorem l_div {a b : Int} (h1 : 0 ≤ a) (h2 : a < 9223372036854775808) (h3 : 0 ≤ b) (h4 : b < 9223372036854775808) : lk a / lk b = lk (a / b) := by
  have e : Int64.ofInt (a.tdiv b) = Int64.ofInt a / Int64.ofInt b := Int64.ofInt_tdiv (by show (-9223372036854775808 : Int) ≤ a; omega) (by show a ≤ 9223372036854775807; omega) (by show (-9223372036854775808 : Int) ≤ b; omega) (by show b ≤ 9223372036854775807; omega)
  rw [Int.tdiv_eq_ediv_of_nonneg h1] at e
  exact e.symm
theorem lc_eq (x y : Int64) : (lg_cmp x y = 0) = (x = y) := by
  unfold lg_cmp
  refine propext ?_
  split
  · rename_i h
    refine ⟨fun z => absurd z (by decide), fun z => ?_⟩
    subst z
    exact absurd h Int64.lt_irrefl
  · split
    · rename_i h
      exact ⟨fun _ => h, fun _ => rfl⟩
    · rename_i h
      exact ⟨fun z => absurd z (by decide), fun z => absurd z h⟩
def p_wolf (c m : Int) (A : Ast) : Int × Ast := if (0 ≤ c ∧ c < a_N A) ∧ (a_gr A c ≠ 1 ∧ a_gr A c ≠ 2) ∧ 1 ≤ m ∧ m ≤ 2 then (if p_who (a_gn A) (a_fl A) c (-9) ≠ -9 then (-4, A) else if p_hold (p_drive (a_gw A) (a_gh A) (a_gr A) (a_gn A) (a_kd A)) (4 * a_gn A).toNat (a_gw A) (a_gh A) (a_gr A) (a_gn A) (p_lost (a_gn A) (a_fl A)) m.toNat (a_fl A) c = -9 then (0, A_told A (j_k (-9))) else (1, A_told A (j_k (if p_hold (p_drive (a_gw A) (a_gh A) (a_gr A) (a_gn A) (a_kd A)) (4 * a_gn A).toNat (a_gw A) (a_gh A) (a_gr A) (a_gn A) (p_lost (a_gn A) (a_fl A)) m.toNat (a_fl A) c < 0 then -9 else p_hold (p_drive (a_gw A) (a_gh A) (a_gr A) (a_gn A) (a_kd A)) (4 * a_gn A).toNat (a_gw A) (a_gh A) (a_gr A) (a_gn A) (p_lost (a_gn A) (a_fl A)) m.toNat (a_fl A) c)))) else (-1, A)
def p_red : Nat → Int → Int → Int × Int
  | 0, u, l => (u, l)
  | t + 1, u, l => if u - u / (t + 2) * (t + 2) = 0 ∧ l - l / (t + 2) * (t + 2) = 0 then p_red t (u / (t + 2)) (l / (t + 2)) else p_red t u l
def p_waysS (m : Int) (A : Ast) : Sc := p_all (p_drive (a_gw A) (a_gh A) (a_gr A) (a_gn A) (a_kd A)) (4 * a_gn A).toNat (p_safe (a_gr A) (a_gn A)) m.toNat (a_fl A)
def p_ways (m : Int) (A : Ast) : Int × Ast := if 1 ≤ m ∧ m ≤ 2 then (if (p_waysS m A).1 = 0 then p_meets 4 A else ((p_waysS m A).2.1, A_low (A_up A (lk (p_red ((p_waysS m A).1 - 1).toNat (p_waysS m A).2.1 (p_waysS m A).1).1)) (lk (p_red ((p_waysS m A).1 - 1).toNat (p_waysS m A).2.1 (p_waysS m A).1).2))) else (-1, A)
def p_findings (q : Int) (A : Ast) : Int × Ast := if 1 ≤ q ∧ q ≤ 5 then (a_cnt A q, A) else (-1, A)
section CALLS7
variable {L p d : Nat} {J : Nat → Nat → Int64} {I I' : Nat → Nat → Int32} {A : Ast} {K : Option Rr} {r i : Int}
theorem x_asked (hx : iX I J A) : j_run (d + 1) 105 [.ref 0] (ST L p I J) = some (some (.int (a_told A)), ST L p I J) := by
  have h := hx.2.2.2.2.2.2.2.1.1
  rw [r_105, t_105_0]
  simp (disch := first | assumption | omega) only [k_add, k_sub, k_mul, k_lt, k_eq, k_lt0, k_0lt, k_eq0, k_nat, k_b0, k_b1, k_z1, k_z0, k_o1, k_o0, Int.reduceEq, Int.reduceLT, Int.reduceLE, Int.reduceAdd, Int.reduceMul, Int.reduceNeg, Bool.false_eq_true, or_true, true_or, or_false, false_or, and_true, true_and, and_false, false_and, not_true_eq_false, not_false_eq_true, ↓reduceIte, z_0, z_k, s_I, s_J, s_uI, s_uJ, ↓c_oc_0, h]
theorem x_upper (hx : iX I J A) : j_run (d + 1) 106 [.ref 0] (ST L p I J) = some (some (.long (a_up A)), ST L p I J) := by
  have h := hx.2.2.2.2.2.2.2.1.2.1
  rw [r_106, t_106_0]
  simp (disch := first | assumption | omega) only [k_add, k_sub, k_mul, k_lt, k_eq, k_lt0, k_0lt, k_eq0, k_nat, k_b0, k_b1, k_z1, k_z0, k_o1, k_o0, Int.reduceEq, Int.reduceLT, Int.reduceLE, Int.reduceAdd, Int.reduceMul, Int.reduceNeg, Bool.false_eq_true, or_true, true_or, or_false, false_or, and_true, true_and, and_false, false_and, not_true_eq_false, not_false_eq_true, ↓reduceIte, z_0, z_k, s_I, s_J, s_uI, s_uJ, ↓c_oc_0, h]
theorem x_lower (hx : iX I J A) : j_run (d + 1) 107 [.ref 0] (ST L p I J) = some (some (.long (a_low A)), ST L p I J) := by
  have h := hx.2.2.2.2.2.2.2.1.2.2.1
  rw [r_107, t_107_0]
  simp (disch := first | assumption | omega) only [k_add, k_sub, k_mul, k_lt, k_eq, k_lt0, k_0lt, k_eq0, k_nat, k_b0, k_b1, k_z1, k_z0, k_o1, k_o0, Int.reduceEq, Int.reduceLT, Int.reduceLE, Int.reduceAdd, Int.reduceMul, Int.reduceNeg, Bool.false_eq_true, or_true, true_or, or_false, false_or, and_true, true_and, and_false, false_and, not_true_eq_false, not_false_eq_true, ↓reduceIte, z_0, z_k, s_I, s_J, s_uI, s_uJ, ↓c_oc_0, h]
theorem x_finding (hx : iX I J A) : xc L p I J (d + 1) 109 [.ref 0] (a_fin A, A) := by
  have h := hx.2.2.2.2.2.2.2.1.2.2.2.1
  refine .of ⟨I, ?_, hx, fun _ _ => rfl⟩
  rw [r_109, t_109_0]
  simp (disch := first | assumption | omega) only [k_add, k_sub, k_mul, k_lt, k_eq, k_lt0, k_0lt, k_eq0, k_nat, k_b0, k_b1, k_z1, k_z0, k_o1, k_o0, Int.reduceEq, Int.reduceLT, Int.reduceLE, Int.reduceAdd, Int.reduceMul, Int.reduceNeg, Bool.false_eq_true, or_true, true_or, or_false, false_or, and_true, true_and, and_false, false_and, not_true_eq_false, not_false_eq_true, ↓reduceIte, z_0, z_k, s_I, s_J, s_uI, s_uJ, ↓c_oc_0, h]
theorem x_findings (hx : iX I J A) {q : Int} (h1 : -2147483648 ≤ q) (h2 : q < 2147483648) : xc L p I J (d + 1) 110 [.ref 0, .int (j_k q)] (p_findings q A) := by
  have h := hx.2.2.2.2.2.2.2.1.2.2.2.2
  have e := (r_110 d (ST L p I J) 0 (j_k q)).trans (t_110_0 _ _ _ _ _)
  unfold p_findings
  by_cases z : 1 ≤ q ∧ q ≤ 5
  · have z1 : ¬ q < 1 := by omega
    have z2 : ¬ 5 < q := by omega
    have z3 : 0 ≤ q := by omega
    have z4 : q < 6 := by omega
    have h := h q z.1 z4
    rw [if_pos z]
    simp (disch := first | assumption | omega) only [k_add, k_sub, k_mul, k_lt, k_eq, k_lt0, k_0lt, k_eq0, k_nat, k_b0, k_b1, k_z1, k_z0, k_o1, k_o0, Int.reduceEq, Int.reduceLT, Int.reduceLE, Int.reduceAdd, Int.reduceMul, Int.reduceNeg, Bool.false_eq_true, or_true, true_or, or_false, false_or, and_true, true_and, and_false, false_and, not_true_eq_false, not_false_eq_true, ↓reduceIte, z_0, z_k, s_I, s_J, s_uI, s_uJ, z1, z2, ↓c_gP_0_10, ↓c_ia_86, h] at e
    exact .of ⟨_, e, hx, fun _ _ => rfl⟩
  · rw [if_neg z]
    refine .of ⟨I, ?_, hx, fun _ _ => rfl⟩
    by_cases z1 : q < 1
    · simp (disch := first | assumption | omega) only [k_add, k_sub, k_mul, k_lt, k_eq, k_lt0, k_0lt, k_eq0, k_nat, k_b0, k_b1, k_z1, k_z0, k_o1, k_o0, Int.reduceEq, Int.reduceLT, Int.reduceLE, Int.reduceAdd, Int.reduceMul, Int.reduceNeg, Bool.false_eq_true, or_true, true_or, or_false, false_or, and_true, true_and, and_false, false_and, not_true_eq_false, not_false_eq_true, ↓reduceIte, z_0, z_k, s_I, s_J, s_uI, s_uJ, z1] at e
      exact e
    · have z2 : 5 < q := by omega
      simp (disch := first | assumption | omega) only [k_add, k_sub, k_mul, k_lt, k_eq, k_lt0, k_0lt, k_eq0, k_nat, k_b0, k_b1, k_z1, k_z0, k_o1, k_o0, Int.reduceEq, Int.reduceLT, Int.reduceLE, Int.reduceAdd, Int.reduceMul, Int.reduceNeg, Bool.false_eq_true, or_true, true_or, or_false, false_or, and_true, true_and, and_false, false_and, not_true_eq_false, not_false_eq_true, ↓reduceIte, z_0, z_k, s_I, s_J, s_uI, s_uJ, z1, z2] at e
      exact e
theorem x_keepsAll (hx : iX I J A) {c : Int} {t : Nat} (c1 : 0 ≤ c) (c2 : c < a_N A) (g1 : a_gr A c ≠ 1) (g2 : a_gr A c ≠ 2) (ht : t = 1 ∨ t = 2) : ∃ I', j_run (d + 12) 65 [.ref 72, .ref 27, .ref 31, .int (j_k c), .int (j_k (t : Int))] (ST L p I J) = some (some (.int (j_z (p_hold (p_drive (a_gw A) (a_gh A) (a_gr A) (a_gn A) (a_kd A)) (4 * a_gn A).toNat (a_gw A) (a_gh A) (a_gr A) (a_gn A) (p_lost (a_gn A) (a_fl A)) t (a_fl A) c ≠ -9))), ST L p I' J) ∧ (∀ r, (r < 72 ∨ 86 ≤ r) → I' r = I r) ∧ (p_hold (p_drive (a_gw A) (a_gh A) (a_gr A) (a_gn A) (a_kd A)) (4 * a_gn A).toNat (a_gw A) (a_gh A) (a_gr A) (a_gn A) (p_lost (a_gn A) (a_fl A)) t (a_fl A) c ≠ -9 → I' 72 3 = j_k (if p_hold (p_drive (a_gw A) (a_gh A) (a_gr A) (a_gn A) (a_kd A)) (4 * a_gn A).toNat (a_gw A) (a_gh A) (a_gr A) (a_gn A) (p_lost (a_gn A) (a_fl A)) t (a_fl A) c < 0 then -9 else p_hold (p_drive (a_gw A) (a_gh A) (a_gr A) (a_gn A) (a_kd A)) (4 * a_gn A).toNat (a_gw A) (a_gh A) (a_gr A) (a_gn A) (p_lost (a_gn A) (a_fl A)) t (a_fl A) c)) := by
  have hC := hx.1.1
  have ho := hx.1.2.1
  have hG := hx.2.2.2.1
  have hF := hx.2.2.2.2.1
  have hT := hx.2.2.2.2.2.2.2.2.1
  have hM := hx.2.2.2.2.2.2.2.1
  have hn := hC.2.2.1
  have hn4 := hC.2.2.2.1
  obtain ⟨bN0, bN1, -⟩ := bd_N hC
  have hA := fa_31
  have hg := ga_27
  obtain ⟨I1, t1, t2, t3⟩ := s_take (L := L) (p := p) (d := d + 10) (J := J) fa_74 hA (by omega) hF hn hn4
  have lr := lost_rg (n := a_gn A) (f := a_fl A) hn
  have w1 : ∀ r, r ≠ 72 → u2 I1 72 1 (j_k (t : Int)) r = I1 r := fun r hr => by funext k; rw [u2_r hr]
  have w2 : ∀ r, r ≠ 72 → u2 (u2 I1 72 1 (j_k (t : Int))) 72 2 (j_k (p_lost (a_gn A) (a_fl A))) r = I1 r := fun r hr => by funext k; rw [u2_r hr, u2_r hr]
  have ql := s_lostOnes (L := L) (p := p) (d := d + 10) (J := J) hA (hF.cg (fun r r1 r2 => (w1 r (by omega)).trans (t3 r (by omega)))) hn hn4 ho bN1
  have sh : ∃ I', j_run (d + 11) 66 [.ref 72, .ref 27, .int (j_k c), .int (j_k 0)] (ST L p (u2 (u2 I1 72 1 (j_k (t : Int))) 72 2 (j_k (p_lost (a_gn A) (a_fl A)))) J) = some (some (.int (j_z (p_hold (p_drive (a_gw A) (a_gh A) (a_gr A) (a_gn A) (a_kd A)) (4 * a_gn A).toNat (a_gw A) (a_gh A) (a_gr A) (a_gn A) (p_lost (a_gn A) (a_fl A)) t (a_fl A) c ≠ -9))), ST L p I' J) ∧ frW 78 (u2 (u2 I1 72 1 (j_k (t : Int))) 72 2 (j_k (p_lost (a_gn A) (a_fl A)))) I' ∧ (p_hold (p_drive (a_gw A) (a_gh A) (a_gr A) (a_gn A) (a_kd A)) (4 * a_gn A).toNat (a_gw A) (a_gh A) (a_gr A) (a_gn A) (p_lost (a_gn A) (a_fl A)) t (a_fl A) c ≠ -9 → I' 72 3 = j_k (if p_hold (p_drive (a_gw A) (a_gh A) (a_gr A) (a_gn A) (a_kd A)) (4 * a_gn A).toNat (a_gw A) (a_gh A) (a_gr A) (a_gn A) (p_lost (a_gn A) (a_fl A)) t (a_fl A) c < 0 then -9 else p_hold (p_drive (a_gw A) (a_gh A) (a_gr A) (a_gn A) (a_kd A)) (4 * a_gn A).toNat (a_gw A) (a_gh A) (a_gr A) (a_gn A) (p_lost (a_gn A) (a_fl A)) t (a_fl A) c)) := by
    rcases ht with rfl | rfl
    · obtain ⟨I', s1, s2, s3, s4⟩ := s_shepherd (L := L) (p := p) (d := d + 2) (J := J) (l0 := p_lost (a_gn A) (a_fl A)) hC 1 0 1 10000 (a_fl A) c (u2 (u2 I1 72 1 (j_k ((1 : Nat) : Int))) 72 2 (j_k (p_lost (a_gn A) (a_fl A)))) (Int.le_refl 0) (by decide) (by decide) c1 c2 g1 g2 (t2.cg (fun r r1 r2 => w2 r (by have : wA 0 = 74 := rfl; omega))) ho (by decide) (hG.cg (fun r r1 r2 => (w2 r (by omega)).trans (t3 r (by omega)))) (hT.cg ((w2 _ (by decide)).trans (t3 _ (Or.inr (by decide)))) ((w2 _ (by decide)).trans (t3 _ (Or.inr (by decide))))) (by rw [u2_k (by decide), u2_ss]; rfl) (u2_ss _ _ _ _) lr.1 (by omega)
      exact ⟨I', s1, s2, s4 rfl (by decide)⟩
    · obtain ⟨I', s1, s2, s3, s4⟩ := s_shepherd (L := L) (p := p) (d := d) (J := J) (l0 := p_lost (a_gn A) (a_fl A)) hC 2 0 2 10000 (a_fl A) c (u2 (u2 I1 72 1 (j_k ((2 : Nat) : Int))) 72 2 (j_k (p_lost (a_gn A) (a_fl A)))) (Int.le_refl 0) (by decide) (by decide) c1 c2 g1 g2 (t2.cg (fun r r1 r2 => w2 r (by have : wA 0 = 74 := rfl; omega))) ho (by decide) (hG.cg (fun r r1 r2 => (w2 r (by omega)).trans (t3 r (by omega)))) (hT.cg ((w2 _ (by decide)).trans (t3 _ (Or.inr (by decide)))) ((w2 _ (by decide)).trans (t3 _ (Or.inr (by decide))))) (by rw [u2_k (by decide), u2_ss]; rfl) (u2_ss _ _ _ _) lr.1 (by omega)
      exact ⟨I', s1, s2, s4 rfl (by decide)⟩
  obtain ⟨I', s1, s2, s3⟩ := sh
  refine ⟨I', ?_, fun r hr => (s2.1 r (by omega) (by omega)).trans ((w2 r (by omega)).trans (t3 r (by omega))), s3⟩
  have em : j_min (j_k (t : Int)) (j_k (3 - 1)) = j_k (t : Int) := by
    rcases ht with rfl | rfl <;> decide
  rw [r_65, t_65_0, c_gP_72_0, c_qa_73 (by decide) (by decide)]
  rw [show (74 + 4 * (0 : Int).toNat) = 74 from rfl, f_oc fa_74, jc0 t1, c_gP_72_0]
  rw [c_len_73]
  simp (disch := first | assumption | omega) only [k_add, k_sub, k_mul, k_lt, k_eq, k_lt0, k_0lt, k_eq0, k_nat, k_b0, k_b1, k_z1, k_z0, k_o1, k_o0, Int.reduceEq, Int.reduceLT, Int.reduceLE, Int.reduceAdd, Int.reduceMul, Int.reduceNeg, Bool.false_eq_true, or_true, true_or, or_false, false_or, and_true, true_and, and_false, false_and, not_true_eq_false, not_false_eq_true, ↓reduceIte, z_0, z_k, s_I, s_J, s_uI, s_uJ, ↓c_lt_72, ↓c_oc_72, em, ↓f_oc, ↓jc1 ql, ↓jc1 s1]
  unfold j_z
  split
  · exact if_pos (Or.inr rfl)
  · rename_i hz
    exact if_pos (Or.inl hz)
theorem x_wolf (hx : iX I J A) {c m : Int} (h1 : -2147483648 ≤ c) (h2 : c < 2147483648) (h3 : -2147483648 ≤ m) (h4 : m < 2147483648) : xc L p I J (d + 13) 101 [.ref 0, .int (j_k c), .int (j_k m)] (p_wolf c m A) := by
  have hC := hx.1.1
  have ho := hx.1.2.1
  have hG := hx.2.2.2.1
  have hF := hx.2.2.2.2.1
  have hT := hx.2.2.2.2.2.2.2.2.1
  have hM := hx.2.2.2.2.2.2.2.1
  have hn := hC.2.2.1
  have hn4 := hC.2.2.2.1
  obtain ⟨bN0, bN1, -⟩ := bd_N hC
  have hA := fa_31
  have hg := ga_27
  have q1 := s_ghas (L := L) (p := p) (d := d + 11) (J := J) hg hG bN0 bN1 h1 h2
  have e := (r_101 (d + 12) (ST L p I J) 0 (j_k c) (j_k m)).trans (t_101_0 _ _ _ _ _ _)
  unfold p_wolf
  by_cases z : 0 ≤ c ∧ c < a_N A
  · have z1 : j_z (0 ≤ c ∧ c < a_N A) = j_k 1 := if_pos z
    rw [z1] at q1
    obtain ⟨c1, c2⟩ := z
    have c3 : c < 30 := by omega
    have q2 := s_isOpen (L := L) (p := p) (d := d + 11) (J := J) hg hG hC c1 c2
    by_cases y : a_gr A c ≠ 1 ∧ a_gr A c ≠ 2
    · have y1 : j_z (a_gr A c ≠ 1 ∧ a_gr A c ≠ 2) = j_k 1 := if_pos y
      rw [y1] at q2
      by_cases x : 1 ≤ m ∧ m ≤ 2
      · have x1 : ¬ m < 1 := by omega
        have x2 : ¬ 2 < m := by omega
        rw [if_pos ⟨⟨c1, c2⟩, y, x⟩]
        have q3 := s_isIn (L := L) (p := p) (d := d + 11) (J := J) hA hF c1 c3
        by_cases v : p_who (a_gn A) (a_fl A) c (-9) = -9
        · have v0 : ¬ bt (I 31 9) c.toNat = true := by
            rw [hF.2.2.2.2.2.2.2.2.2 c c1 c3, ← who_ex hn]
            exact fun u => u v
          rw [if_neg v0] at q3
          rw [if_neg (fun u => u v)]
          obtain ⟨I', s1, s2, s3⟩ := x_keepsAll (L := L) (p := p) (d := d) hx (t := m.toNat) c1 c2 y.1 y.2 (by omega)
          have em : ((m.toNat : Nat) : Int) = m := by omega
          rw [em] at s1
          have hs := hx.same (J' := J) (fun r hr => s2 r (by omega)) rfl
          have tl : ∀ w : Int32, iX (u2 I' 0 13 w) J (A_told A w) := fun w => hs.tell (fun q a b => by funext k; rw [u2_r a]) (fun k hk => by rw [u2_k hk]) (u2_ss _ _ _ _)
          have tf : ∀ w : Int32, ∀ q, 87 ≤ q → u2 I' 0 13 w q = I q := fun w q hq => by funext k; rw [u2_r (by omega), s2 q (by omega)]
          by_cases u : p_hold (p_drive (a_gw A) (a_gh A) (a_gr A) (a_gn A) (a_kd A)) (4 * a_gn A).toNat (a_gw A) (a_gh A) (a_gr A) (a_gn A) (p_lost (a_gn A) (a_fl A)) m.toNat (a_fl A) c = -9
          · have u1' : j_z (p_hold (p_drive (a_gw A) (a_gh A) (a_gr A) (a_gn A) (a_kd A)) (4 * a_gn A).toNat (a_gw A) (a_gh A) (a_gr A) (a_gn A) (p_lost (a_gn A) (a_fl A)) m.toNat (a_fl A) c ≠ -9) = j_k 0 := if_neg (fun t => t u)
            rw [u1'] at s1
            rw [if_pos u]
            simp (disch := first | assumption | omega) only [k_add, k_sub, k_mul, k_lt, k_eq, k_lt0, k_0lt, k_eq0, k_nat, k_b0, k_b1, k_z1, k_z0, k_o1, k_o0, Int.reduceEq, Int.reduceLT, Int.reduceLE, Int.reduceAdd, Int.reduceMul, Int.reduceNeg, Bool.false_eq_true, or_true, true_or, or_false, false_or, and_true, true_and, and_false, false_and, not_true_eq_false, not_false_eq_true, ↓reduceIte, z_0, z_k, s_I, s_J, s_uI, s_uJ, ↓c_gP_0_3, ↓g_oc, ↓jc1 q1, ↓jc1 q2, x1, x2, ↓c_gP_0_4, ↓f_oc, ↓jc1 q3, ↓c_gP_0_9, ↓c_oc_72, ↓jc1 s1, ↓c_lt_0, ↓c_oc_0] at e
            exact .of ⟨_, e, tl _, tf _⟩
          · have u1' : j_z (p_hold (p_drive (a_gw A) (a_gh A) (a_gr A) (a_gn A) (a_kd A)) (4 * a_gn A).toNat (a_gw A) (a_gh A) (a_gr A) (a_gn A) (p_lost (a_gn A) (a_fl A)) m.toNat (a_fl A) c ≠ -9) = j_k 1 := if_pos u
            rw [u1'] at s1
            rw [if_neg u, ← s3 u]
            simp (disch := first | assumption | omega) only [k_add, k_sub, k_mul, k_lt, k_eq, k_lt0, k_0lt, k_eq0, k_nat, k_b0, k_b1, k_z1, k_z0, k_o1, k_o0, Int.reduceEq, Int.reduceLT, Int.reduceLE, Int.reduceAdd, Int.reduceMul, Int.reduceNeg, Bool.false_eq_true, or_true, true_or, or_false, false_or, and_true, true_and, and_false, false_and, not_true_eq_false, not_false_eq_true, ↓reduceIte, z_0, z_k, s_I, s_J, s_uI, s_uJ, ↓c_gP_0_3, ↓g_oc, ↓jc1 q1, ↓jc1 q2, x1, x2, ↓c_gP_0_4, ↓f_oc, ↓jc1 q3, ↓c_gP_0_9, ↓c_oc_72, ↓jc1 s1, ↓c_lt_0, ↓c_oc_0] at e
            exact .of ⟨_, e, tl _, tf _⟩
        · have v0 : bt (I 31 9) c.toNat = true := by
            rw [hF.2.2.2.2.2.2.2.2.2 c c1 c3, ← who_ex hn]
            exact v
          rw [if_pos v0] at q3
          rw [if_pos v]
          simp (disch := first | assumption | omega) only [k_add, k_sub, k_mul, k_lt, k_eq, k_lt0, k_0lt, k_eq0, k_nat, k_b0, k_b1, k_z1, k_z0, k_o1, k_o0, Int.reduceEq, Int.reduceLT, Int.reduceLE, Int.reduceAdd, Int.reduceMul, Int.reduceNeg, Bool.false_eq_true, or_true, true_or, or_false, false_or, and_true, true_and, and_false, false_and, not_true_eq_false, not_false_eq_true, ↓reduceIte, z_0, z_k, s_I, s_J, s_uI, s_uJ, ↓c_gP_0_3, ↓g_oc, ↓jc1 q1, ↓jc1 q2, x1, x2, ↓c_gP_0_4, ↓f_oc, ↓jc1 q3] at e
          exact .of ⟨_, e, hx, fun _ _ => rfl⟩
      · rw [if_neg (fun u => x u.2.2)]
        refine .of ⟨I, ?_, hx, fun _ _ => rfl⟩
        by_cases x1 : m < 1
        · simp (disch := first | assumption | omega) only [k_add, k_sub, k_mul, k_lt, k_eq, k_lt0, k_0lt, k_eq0, k_nat, k_b0, k_b1, k_z1, k_z0, k_o1, k_o0, Int.reduceEq, Int.reduceLT, Int.reduceLE, Int.reduceAdd, Int.reduceMul, Int.reduceNeg, Bool.false_eq_true, or_true, true_or, or_false, false_or, and_true, true_and, and_false, false_and, not_true_eq_false, not_false_eq_true, ↓reduceIte, z_0, z_k, s_I, s_J, s_uI, s_uJ, ↓c_gP_0_3, ↓g_oc, ↓jc1 q1, ↓jc1 q2, x1] at e
          exact e
        · have x2 : 2 < m := by omega
          simp (disch := first | assumption | omega) only [k_add, k_sub, k_mul, k_lt, k_eq, k_lt0, k_0lt, k_eq0, k_nat, k_b0, k_b1, k_z1, k_z0, k_o1, k_o0, Int.reduceEq, Int.reduceLT, Int.reduceLE, Int.reduceAdd, Int.reduceMul, Int.reduceNeg, Bool.false_eq_true, or_true, true_or, or_false, false_or, and_true, true_and, and_false, false_and, not_true_eq_false, not_false_eq_true, ↓reduceIte, z_0, z_k, s_I, s_J, s_uI, s_uJ, ↓c_gP_0_3, ↓g_oc, ↓jc1 q1, ↓jc1 q2, x1, x2] at e
          exact e
    · have y1 : j_z (a_gr A c ≠ 1 ∧ a_gr A c ≠ 2) = j_k 0 := if_neg y
      rw [y1] at q2
      rw [if_neg (fun u => y u.2.1)]
      simp (disch := first | assumption | omega) only [k_add, k_sub, k_mul, k_lt, k_eq, k_lt0, k_0lt, k_eq0, k_nat, k_b0, k_b1, k_z1, k_z0, k_o1, k_o0, Int.reduceEq, Int.reduceLT, Int.reduceLE, Int.reduceAdd, Int.reduceMul, Int.reduceNeg, Bool.false_eq_true, or_true, true_or, or_false, false_or, and_true, true_and, and_false, false_and, not_true_eq_false, not_false_eq_true, ↓reduceIte, z_0, z_k, s_I, s_J, s_uI, s_uJ, ↓c_gP_0_3, ↓g_oc, ↓jc1 q1, ↓jc1 q2] at e
      exact .of ⟨_, e, hx, fun _ _ => rfl⟩
  · have z1 : j_z (0 ≤ c ∧ c < a_N A) = j_k 0 := if_neg z
    rw [z1] at q1
    rw [if_neg (fun u => z u.1)]
    simp (disch := first | assumption | omega) only [k_add, k_sub, k_mul, k_lt, k_eq, k_lt0, k_0lt, k_eq0, k_nat, k_b0, k_b1, k_z1, k_z0, k_o1, k_o0, Int.reduceEq, Int.reduceLT, Int.reduceLE, Int.reduceAdd, Int.reduceMul, Int.reduceNeg, Bool.false_eq_true, or_true, true_or, or_false, false_or, and_true, true_and, and_false, false_and, not_true_eq_false, not_false_eq_true, ↓reduceIte, z_0, z_k, s_I, s_J, s_uI, s_uJ, ↓c_gP_0_3, ↓g_oc, ↓jc1 q1] at e
    exact .of ⟨_, e, hx, fun _ _ => rfl⟩
theorem x_frac {u l : Int} (u0 : 0 ≤ u) (u1' : u ≤ 100000) (l0 : 1 ≤ l) (l1 : l ≤ 100000) : ∃ J', j_run (d + 1) 124 [.ref 0, .int (j_k u), .int (j_k l)] (ST L p I J) = some (none, ST L p I J') ∧ J' 0 14 = lk (p_red (l - 1).toNat u l).1 ∧ J' 0 15 = lk (p_red (l - 1).toNat u l).2 ∧ ∀ q, q ≠ 0 → J' q = J q := by
  have loop : ∀ (t M : Nat) (a b : Int) (J1 : Nat → Nat → Int64), t < M → t ≤ 99999 → 0 ≤ a → a ≤ 100000 → 0 ≤ b → b ≤ 100000 → J1 0 14 = lk a → J1 0 15 = lk b → (∀ q, q ≠ 0 → J1 q = J q) → ∃ J', j_exec k_124 h_124 (j_run d) M 14 [some (.ref 0), some (.int (j_k u)), some (.int (j_k l)), some (.int (j_k ((t : Int) + 1)))] [] (ST L p I J1) = some (none, ST L p I J') ∧ J' 0 14 = lk (p_red t a b).1 ∧ J' 0 15 = lk (p_red t a b).2 ∧ ∀ q, q ≠ 0 → J' q = J q := by
    intro t
    induction t with
    | zero =>
      intro M a b J1 hM t1 a0 a1 b0 b1 j1 j2 hf
      obtain ⟨M, rfl⟩ : ∃ q, M = q + 1 := ⟨M - 1, by omega⟩
      refine ⟨J1, ?_, j1, j2, hf⟩
      rw [x_exec, t_124_14]
      exact if_neg (by decide)
    | succ t ih =>
      intro M a b J1 hM t1 a0 a1 b0 b1 j1 j2 hf
      obtain ⟨M, rfl⟩ : ∃ q, M = q + 1 := ⟨M - 1, by omega⟩
      have ed : (((t + 1 : Nat) : Int) + 1) = (t : Int) + 2 := by omega
      have z : (1 : Int) < (t : Int) + 2 := by omega
      have hd : (j_k ((t : Int) + 2)).toInt64 = lk ((t : Int) + 2) := l_of (by omega) (by omega)
      have hz : ¬ lk ((t : Int) + 2) = 0 := by
        show ¬ lk ((t : Int) + 2) = lk 0
        rw [l_eq (by omega) (by omega) (by decide) (by decide)]
        omega
      have hm : ((t : Int) + 2) + -1 = (t : Int) + 1 := by omega
      have l64 : Int64.ofNat 0 = lk 0 := rfl
      have da := Int.ediv_le_self ((t : Int) + 2) a0
      have db := Int.ediv_le_self ((t : Int) + 2) b0
      have da0 := Int.ediv_nonneg a0 (show 0 ≤ (t : Int) + 2 by omega)
      have db0 := Int.ediv_nonneg b0 (show 0 ≤ (t : Int) + 2 by omega)
      have ma : a / ((t : Int) + 2) * ((t : Int) + 2) ≤ a := Int.ediv_mul_le a (by omega)
      have mb : b / ((t : Int) + 2) * ((t : Int) + 2) ≤ b := Int.ediv_mul_le b (by omega)
      have ma0 : 0 ≤ a / ((t : Int) + 2) * ((t : Int) + 2) := Int.mul_nonneg da0 (by omega)
      have mb0 : 0 ≤ b / ((t : Int) + 2) * ((t : Int) + 2) := Int.mul_nonneg db0 (by omega)
      have ca : (lg_cmp (lk a - lk a / lk ((t : Int) + 2) * lk ((t : Int) + 2)) (Int64.ofNat 0) = 0) = (a - a / ((t : Int) + 2) * ((t : Int) + 2) = 0) := by
        rw [lc_eq, l64, l_div a0 (by omega) (by omega) (by omega), l_mul, l_sub, l_eq (by omega) (by omega) (by decide) (by decide)]
      have cb : (lg_cmp (lk b - lk b / lk ((t : Int) + 2) * lk ((t : Int) + 2)) (Int64.ofNat 0) = 0) = (b - b / ((t : Int) + 2) * ((t : Int) + 2) = 0) := by
        rw [lc_eq, l64, l_div b0 (by omega) (by omega) (by omega), l_mul, l_sub, l_eq (by omega) (by omega) (by decide) (by decide)]
      rw [ed, x_exec, t_124_14]
      by_cases xa : a - a / ((t : Int) + 2) * ((t : Int) + 2) = 0
      · by_cases xb : b - b / ((t : Int) + 2) * ((t : Int) + 2) = 0
        · have eb : p_red (t + 1) a b = p_red t (a / ((t : Int) + 2)) (b / ((t : Int) + 2)) := if_pos ⟨xa, xb⟩
          rw [eb]
          obtain ⟨J', e1, e2, e3, e4⟩ := ih M (a / ((t : Int) + 2)) (b / ((t : Int) + 2)) (u2 (u2 J1 0 14 (lk a / lk ((t : Int) + 2))) 0 15 (lk b / lk ((t : Int) + 2))) (by omega) (by omega) da0 (by omega) db0 (by omega) (by rw [u2_k (by decide), u2_ss]; exact l_div a0 (by omega) (by omega) (by omega)) (by rw [u2_ss]; exact l_div b0 (by omega) (by omega) (by omega)) (fun q hq => by funext k; rw [u2_r hq, u2_r hq, hf q hq])
          refine ⟨J', ?_, e2, e3, e4⟩
          simp (disch := first | assumption | omega) only [k_add, k_sub, k_mul, k_lt, k_eq, k_lt0, k_0lt, k_eq0, k_nat, k_b0, k_b1, k_z1, k_z0, k_o1, k_o0, Int.reduceEq, Int.reduceLT, Int.reduceLE, Int.reduceAdd, Int.reduceMul, Int.reduceNeg, Bool.false_eq_true, or_true, true_or, or_false, false_or, and_true, true_and, and_false, false_and, not_true_eq_false, not_false_eq_true, ↓reduceIte, z_0, z_k, s_I, s_J, s_uI, s_uJ, z, ↓c_oc_0, ↓c_lt_0, hd, hz, j1, j2, ca, cb, xa, xb, u2_k, hm]
          exact e1
        · have eb : p_red (t + 1) a b = p_red t a b := if_neg (fun y => xb y.2)
          rw [eb]
          obtain ⟨J', e1, e2, e3, e4⟩ := ih M a b J1 (by omega) (by omega) a0 a1 b0 b1 j1 j2 hf
          refine ⟨J', ?_, e2, e3, e4⟩
          simp (disch := first | assumption | omega) only [k_add, k_sub, k_mul, k_lt, k_eq, k_lt0, k_0lt, k_eq0, k_nat, k_b0, k_b1, k_z1, k_z0, k_o1, k_o0, Int.reduceEq, Int.reduceLT, Int.reduceLE, Int.reduceAdd, Int.reduceMul, Int.reduceNeg, Bool.false_eq_true, or_true, true_or, or_false, false_or, and_true, true_and, and_false, false_and, not_true_eq_false, not_false_eq_true, ↓reduceIte, z_0, z_k, s_I, s_J, s_uI, s_uJ, z, ↓c_oc_0, hd, hz, j1, j2, ca, cb, xa, xb, hm]
          exact e1
      · have eb : p_red (t + 1) a b = p_red t a b := if_neg (fun y => xa y.1)
        rw [eb]
        obtain ⟨J', e1, e2, e3, e4⟩ := ih M a b J1 (by omega) (by omega) a0 a1 b0 b1 j1 j2 hf
        refine ⟨J', ?_, e2, e3, e4⟩
        simp (disch := first | assumption | omega) only [k_add, k_sub, k_mul, k_lt, k_eq, k_lt0, k_0lt, k_eq0, k_nat, k_b0, k_b1, k_z1, k_z0, k_o1, k_o0, Int.reduceEq, Int.reduceLT, Int.reduceLE, Int.reduceAdd, Int.reduceMul, Int.reduceNeg, Bool.false_eq_true, or_true, true_or, or_false, false_or, and_true, true_and, and_false, false_and, not_true_eq_false, not_false_eq_true, ↓reduceIte, z_0, z_k, s_I, s_J, s_uI, s_uJ, z, ↓c_oc_0, hd, hz, j1, ca, xa, hm]
        exact e1
  obtain ⟨J', e1, e2, e3, e4⟩ := loop (l - 1).toNat 999999 u l (u2 (u2 J 0 14 (lk u)) 0 15 (lk l)) (by omega) (by omega) u0 u1' (by omega) l1 (by rw [u2_k (by decide), u2_ss]) (u2_ss _ _ _ _) (fun q hq => by funext k; rw [u2_r hq, u2_r hq])
  refine ⟨J', ?_, e2, e3, e4⟩
  have hu : (j_k u).toInt64 = lk u := l_of (by omega) (by omega)
  have hl : (j_k l).toInt64 = lk l := l_of (by omega) (by omega)
  have el : (((l - 1).toNat : Nat) : Int) + 1 = l := by omega
  rw [el] at e1
  rw [r_124, t_124_0]
  simp (disch := first | assumption | omega) only [k_add, k_sub, k_mul, k_lt, k_eq, k_lt0, k_0lt, k_eq0, k_nat, k_b0, k_b1, k_z1, k_z0, k_o1, k_o0, Int.reduceEq, Int.reduceLT, Int.reduceLE, Int.reduceAdd, Int.reduceMul, Int.reduceNeg, Bool.false_eq_true, or_true, true_or, or_false, false_or, and_true, true_and, and_false, false_and, not_true_eq_false, not_false_eq_true, ↓reduceIte, z_0, z_k, s_I, s_J, s_uI, s_uJ, ↓c_oc_0, ↓c_lt_0, hu, hl]
  exact e1
theorem x_ways (hx : iX I J A) {m : Int} (h1 : -2147483648 ≤ m) (h2 : m < 2147483648) : xc L p I J (d + 11) 93 [.ref 0, .int (j_k m)] (p_ways m A) := by
  have hC := hx.1.1
  have ho := hx.1.2.1
  have hG := hx.2.2.2.1
  have hF := hx.2.2.2.2.1
  have hT := hx.2.2.2.2.2.2.2.2.1
  have hM := hx.2.2.2.2.2.2.2.1
  have hn := hC.2.2.1
  have hn4 := hC.2.2.2.1
  obtain ⟨bN0, bN1, -⟩ := bd_N hC
  have hA := fa_31
  have hg := ga_27
  have e := (r_93 (d + 10) (ST L p I J) 0 (j_k m)).trans (t_93_0 _ _ _ _ _)
  unfold p_ways
  by_cases z : 1 ≤ m ∧ m ≤ 2
  · have z1 : ¬ m < 1 := by omega
    have z2 : ¬ 2 < m := by omega
    rw [if_pos z]
    obtain ⟨q1, q2⟩ := s_seekSafe (L := L) (p := p) (d := d + 9) (I := I) (J := J) (gr := a_gr A) (n := a_gn A)
    have w1 : ∀ r, r ≠ 53 → u2 I 53 2 (j_k 1) r = I r := fun r hr => by funext k; rw [u2_r hr]
    obtain ⟨I', s1, s2, s3⟩ := s_allFrom (L := L) (p := p) (d := d) (J := J) hC hA (by decide) (hF.cg (fun r r1 r2 => w1 r (by omega))) ho (by decide) (hG.cg (fun r r1 r2 => w1 r (by omega))) (hT.cg (w1 _ (by decide)) (w1 _ (by decide))) q2 (r := m.toNat) (by omega)
    have em : ((m.toNat : Nat) : Int) = m := by omega
    rw [em] at s1
    have s2' : iS I' (p_waysS m A) := s2
    have ok : okS 100000 (p_waysS m A) := all_ok hC (by omega)
    obtain ⟨o1, o2, o3, -⟩ := ok
    have fr' : ∀ r, (r < 17 ∨ (27 ≤ r ∧ r < 48) ∨ 86 ≤ r) → I' r = I r := fun r hr => (s3.x r hr).trans (w1 r (by omega))
    have hs : iX I' J A := hx.same fr' rfl
    by_cases y : (p_waysS m A).1 = 0
    · rw [if_pos y]
      obtain ⟨I2, e1, e2, e3⟩ := x_finds (L := L) (p := p) (d := d + 9) hs (q := 4) (by decide) (by decide)
      simp (disch := first | assumption | omega) only [k_add, k_sub, k_mul, k_lt, k_eq, k_lt0, k_0lt, k_eq0, k_nat, k_b0, k_b1, k_z1, k_z0, k_o1, k_o0, Int.reduceEq, Int.reduceLT, Int.reduceLE, Int.reduceAdd, Int.reduceMul, Int.reduceNeg, Bool.false_eq_true, or_true, true_or, or_false, false_or, and_true, true_and, and_false, false_and, not_true_eq_false, not_false_eq_true, ↓reduceIte, z_0, z_k, s_I, s_J, s_uI, s_uJ, z1, z2, ↓c_gP_0_8, ↓c_oc_53, ↓jc0 q1, ↓c_gP_0_3, ↓c_gP_0_4, ↓jc0 s1, s2'.1, y, ↓c_oc_0, ↓jc1 e1] at e
      exact .of ⟨I2, e, e2, fun q hq => (e3 q (by omega) (by omega)).trans (fr' q (by omega))⟩
    · rw [if_neg y]
      obtain ⟨J', f1, f2', f3, f4⟩ := x_frac (L := L) (p := p) (d := d + 9) (I := I') (J := J) o1 (by omega) (show 1 ≤ (p_waysS m A).1 by omega) (by omega)
      simp (disch := first | assumption | omega) only [k_add, k_sub, k_mul, k_lt, k_eq, k_lt0, k_0lt, k_eq0, k_nat, k_b0, k_b1, k_z1, k_z0, k_o1, k_o0, Int.reduceEq, Int.reduceLT, Int.reduceLE, Int.reduceAdd, Int.reduceMul, Int.reduceNeg, Bool.false_eq_true, or_true, true_or, or_false, false_or, and_true, true_and, and_false, false_and, not_true_eq_false, not_false_eq_true, ↓reduceIte, z_0, z_k, s_I, s_J, s_uI, s_uJ, z1, z2, ↓c_gP_0_8, ↓c_oc_53, ↓jc0 q1, ↓c_gP_0_3, ↓c_gP_0_4, ↓jc0 s1, s2'.1, s2'.2.1, y, ↓c_oc_0, ↓jc0 f1] at e
      have hM' := hs.2.2.2.2.2.2.2.1
      exact ⟨p, I', J', e, hs.keep (fun _ _ _ _ => rfl) rfl (told := a_told A) (fin := a_fin A) (cnt := a_cnt A) ⟨hM'.1, f2', f3, hM'.2.2.2.1, hM'.2.2.2.2⟩, fun q hq => fr' q (by omega), fun q hq => f4 q (by omega)⟩
  · rw [if_neg z]
    refine .of ⟨I, ?_, hx, fun _ _ => rfl⟩
    by_cases z1 : m < 1
    · simp (disch := first | assumption | omega) only [k_add, k_sub, k_mul, k_lt, k_eq, k_lt0, k_0lt, k_eq0, k_nat, k_b0, k_b1, k_z1, k_z0, k_o1, k_o0, Int.reduceEq, Int.reduceLT, Int.reduceLE, Int.reduceAdd, Int.reduceMul, Int.reduceNeg, Bool.false_eq_true, or_true, true_or, or_false, false_or, and_true, true_and, and_false, false_and, not_true_eq_false, not_false_eq_true, ↓reduceIte, z_0, z_k, s_I, s_J, s_uI, s_uJ, z1] at e
      exact e
    · have z2 : 2 < m := by omega
      simp (disch := first | assumption | omega) only [k_add, k_sub, k_mul, k_lt, k_eq, k_lt0, k_0lt, k_eq0, k_nat, k_b0, k_b1, k_z1, k_z0, k_o1, k_o0, Int.reduceEq, Int.reduceLT, Int.reduceLE, Int.reduceAdd, Int.reduceMul, Int.reduceNeg, Bool.false_eq_true, or_true, true_or, or_false, false_or, and_true, true_and, and_false, false_and, not_true_eq_false, not_false_eq_true, ↓reduceIte, z_0, z_k, s_I, s_J, s_uI, s_uJ, z1, z2] at e
      exact e
end CALLS7
