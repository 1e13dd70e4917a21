/-! ===== the class's calls: wolf, asked .. findings, ways, ring, worth ===== -/
theorem l_sub (a b : Int) : lk a - lk b = lk (a - b) := (Int64.ofInt_sub a b).symm
theorem l_div {a b : Int} (h1 : 0 ≤ a) (h2 : a < 9223372036854775808) (h3 : 0 ≤ b) (h4 : b < 9223372036854775808) : lk a / lk b = lk (a / b) := by
  have e : Int64.ofInt (a.tdiv b) = Int64.ofInt a / Int64.ofInt b := Int64.ofInt_tdiv (by show (-9223372036854775808 : Int) ≤ a; omega) (by show a ≤ 9223372036854775807; omega) (by show (-9223372036854775808 : Int) ≤ b; omega) (by show b ≤ 9223372036854775807; omega)
  rw [Int.tdiv_eq_ediv_of_nonneg h1] at e
  exact e.symm
theorem lc_eq (x y : Int64) : (lg_cmp x y = 0) = (x = y) := by
  unfold lg_cmp
  refine propext ?_
  split
  · rename_i h
    refine ⟨fun z => absurd z (by decide), fun z => ?_⟩
    subst z
    exact absurd h Int64.lt_irrefl
  · split
    · rename_i h
      exact ⟨fun _ => h, fun _ => rfl⟩
    · rename_i h
      exact ⟨fun z => absurd z (by decide), fun z => absurd z h⟩
def p_wolf (c m : Int) (A : Ast) : Int × Ast := if (0 ≤ c ∧ c < a_N A) ∧ (a_gr A c ≠ 1 ∧ a_gr A c ≠ 2) ∧ 1 ≤ m ∧ m ≤ 2 then (if p_who (a_gn A) (a_fl A) c (-9) ≠ -9 then (-4, A) else if p_hold (p_drive (a_gw A) (a_gh A) (a_gr A) (a_gn A) (a_kd A)) (4 * a_gn A).toNat (a_gw A) (a_gh A) (a_gr A) (a_gn A) (p_lost (a_gn A) (a_fl A)) m.toNat (a_fl A) c = -9 then (0, A_told A (j_k (-9))) else (1, A_told A (j_k (if p_hold (p_drive (a_gw A) (a_gh A) (a_gr A) (a_gn A) (a_kd A)) (4 * a_gn A).toNat (a_gw A) (a_gh A) (a_gr A) (a_gn A) (p_lost (a_gn A) (a_fl A)) m.toNat (a_fl A) c < 0 then -9 else p_hold (p_drive (a_gw A) (a_gh A) (a_gr A) (a_gn A) (a_kd A)) (4 * a_gn A).toNat (a_gw A) (a_gh A) (a_gr A) (a_gn A) (p_lost (a_gn A) (a_fl A)) m.toNat (a_fl A) c)))) else (-1, A)
def p_red : Nat → Int → Int → Int × Int
  | 0, u, l => (u, l)
  | t + 1, u, l => if u - u / (t + 2) * (t + 2) = 0 ∧ l - l / (t + 2) * (t + 2) = 0 then p_red t (u / (t + 2)) (l / (t + 2)) else p_red t u l
def p_waysS (m : Int) (A : Ast) : Sc := p_all (p_drive (a_gw A) (a_gh A) (a_gr A) (a_gn A) (a_kd A)) (4 * a_gn A).toNat (p_safe (a_gr A) (a_gn A)) m.toNat (a_fl A)
def p_ways (m : Int) (A : Ast) : Int × Ast := if 1 ≤ m ∧ m ≤ 2 then (if (p_waysS m A).1 = 0 then p_meets 4 A else ((p_waysS m A).2.1, A_low (A_up A (lk (p_red ((p_waysS m A).1 - 1).toNat (p_waysS m A).2.1 (p_waysS m A).1).1)) (lk (p_red ((p_waysS m A).1 - 1).toNat (p_waysS m A).2.1 (p_waysS m A).1).2))) else (-1, A)
def p_findings (q : Int) (A : Ast) : Int × Ast := if 1 ≤ q ∧ q ≤ 5 then (a_cnt A q, A) else (-1, A)
section CALLS7
variable {L p d : Nat} {J : Nat → Nat → Int64} {I I' : Nat → Nat → Int32} {A : Ast} {K : Option Rr} {r i : Int}
theorem x_asked (hx : iX I J A) : j_run (d + 1) 105 [.ref 0] (ST L p I J) = some (some (.int (a_told A)), ST L p I J) := by
  have h := hx.2.2.2.2.2.2.2.1.1
  rw [r_105, t_105_0]
  simp (disch := first | assumption | omega) only [k_add, k_sub, k_mul, k_lt, k_eq, k_lt0, k_0lt, k_eq0, k_nat, k_b0, k_b1, k_z1, k_z0, k_o1, k_o0, Int.reduceEq, Int.reduceLT, Int.reduceLE, Int.reduceAdd, Int.reduceMul, Int.reduceNeg, Bool.false_eq_true, or_true, true_or, or_false, false_or, and_true, true_and, and_false, false_and, not_true_eq_false, not_false_eq_true, ↓reduceIte, z_0, z_k, s_I, s_J, s_uI, s_uJ, ↓c_oc_0, h]
end CALLS7
