/-! ===== the class's calls: never ===== -/
def p_nevI (rb : Int → Int → Bool) (f : Fl) (k j : Int) (s : Int × Int) : Int × Int := if f (5 + j) = -9 ∨ rb k j = true then s else (s.1 + 1, if s.1 = 0 then 10 * k + j else s.2)
def p_nevO (rb : Int → Int → Bool) (n : Int) (f : Fl) (k : Int) (s : Int × Int) : Int × Int := if f (5 + k) = -9 then s else p_loop (p_nevI rb f k) (n - (k + 1)).toNat (k + 1) s
def p_nev (rb : Int → Int → Bool) (n : Int) (f : Fl) : Int × Int := p_loop (p_nevO rb n f) n.toNat 0 (0, -9)
/-- which beast can come to which -/
def okR (A : Ast) (rb : Int → Int → Bool) : Prop := ∀ k j, 0 ≤ k → k < a_gn A → 0 ≤ j → j < a_gn A → a_fl A (5 + k) ≠ -9 → a_fl A (5 + j) ≠ -9 → (rb k j = true ↔ (a_gr A (a_fl A (5 + k)) ≠ 1 ∧ a_gr A (a_fl A (5 + k)) ≠ 2) ∧ p_R (a_gw A) (a_gh A) (a_gr A) true (a_fl A (5 + k)) (a_fl A (5 + j)))
def p_never (rb : Int → Int → Bool) (A : Ast) : Int × Ast := ((p_nev rb (a_gn A) (a_fl A)).1, A_told A (j_k (p_nev rb (a_gn A) (a_fl A)).2))
section CALLS12
variable {L p d : Nat} {J : Nat → Nat → Int64} {I I' : Nat → Nat → Int32} {A : Ast}
theorem x_never (hx : iX I J A) {rb : Int → Int → Bool} (hrb : okR A rb) : xc L p I J (d + 4) 100 [.ref 0] (p_never rb A) := by
  have hC := hx.1.1
  have ho := hx.1.2.1
  have hG := hx.2.2.2.1
  have hF := hx.2.2.2.2.1
  have hT := hx.2.2.2.2.2.2.2.2.1
  have hM := hx.2.2.2.2.2.2.2.1
  have hn := hC.2.2.1
  have hn4 := hC.2.2.2.1
  obtain ⟨bN0, bN1, -⟩ := bd_N hC
  have hA := fa_31
  have hg := ga_27
  have e := (r_100 (d + 3) (ST L p I J) 0).trans (t_100_0 _ _ _ _)
  have T : ∀ (w : Int32) (r : Nat), r ≠ 0 → u2 I 0 13 w r = I r := fun w r hr => by funext k; rw [u2_r hr]
  have inner : ∀ (t M : Nat) (k j : Int) (s : Int × Int) (v : Int32), 0 ≤ k → k < a_gn A → a_fl A (5 + k) ≠ -9 → k < j → j + t = a_gn A → 0 ≤ s.1 → s.1 ≤ 4 * k + j - k → isR (a_gw A) (a_gh A) (a_gr A) true (a_fl A (5 + k)) v →
      j_exec k_100 h_100 (j_run (d + 3)) (M + t + 1) 58 [some (.ref 0), some (.int (j_k s.1)), some (.int (j_k k)), some (.int v), some (.int (j_k j))] [] (ST L p (u2 I 0 13 (j_k s.2)) J) = j_exec k_100 h_100 (j_run (d + 3)) M 10 [some (.ref 0), some (.int (j_k (p_loop (p_nevI rb (a_fl A) k) t j s).1)), some (.int (j_k (k + 1))), none, none] [] (ST L p (u2 I 0 13 (j_k (p_loop (p_nevI rb (a_fl A) k) t j s).2)) J) ∧ 0 ≤ (p_loop (p_nevI rb (a_fl A) k) t j s).1 ∧ (p_loop (p_nevI rb (a_fl A) k) t j s).1 ≤ 4 * (k + 1) := by
    intro t
    induction t with
    | zero =>
      intro M k j s v k1 k2 k3 j1 j2 s1 s2 hv
      have z : ¬ j < a_gn A := by omega
      have f3 : u2 I 0 13 (j_k s.2) 31 3 = j_k (a_gn A) := by rw [T _ 31 (by decide)]; exact hF.1
      refine ⟨?_, s1, by show s.1 ≤ _; omega⟩
      rw [x_exec, t_100_58]
      simp (disch := first | assumption | omega) only [k_add, k_sub, k_mul, k_lt, k_eq, k_lt0, k_0lt, k_eq0, k_nat, k_b0, k_b1, k_z1, k_z0, k_o1, k_o0, Int.reduceEq, Int.reduceLT, Int.reduceLE, Int.reduceAdd, Int.reduceMul, Int.reduceNeg, Bool.false_eq_true, or_true, true_or, or_false, false_or, and_true, true_and, and_false, false_and, not_true_eq_false, not_false_eq_true, ↓reduceIte, z_0, z_k, s_I, s_J, s_uI, s_uJ, ↓c_gP_0_4, ↓f_oc, f3, z]
      rfl
    | succ t ih =>
      intro M k j s v k1 k2 k3 j1 j2 s1 s2 hv
      have z : j < a_gn A := by omega
      have j0 : 0 ≤ j := by omega
      have j4 : j < 4 := by omega
      have f3 : u2 I 0 13 (j_k s.2) 31 3 = j_k (a_gn A) := by rw [T _ 31 (by decide)]; exact hF.1
      have fj : u2 I 0 13 (j_k s.2) (31 + 2) j.toNat = j_k (a_fl A (5 + j)) := by rw [T _ _ (by decide)]; exact hF.2.2.2.2.2.2.2.1 j j0 z
      have hF' : iF (u2 I 0 13 (j_k s.2)) 31 (a_gn A) (a_kd A) (a_fl A) := hF.cg (fun r r1 r2 => T _ r (by omega))
      have ql := s_isLost (L := L) (p := p) (d := d + 2) (J := J) hA hF' hn4 ho bN1 j0 z
      rw [show M + (t + 1) + 1 = (M + t + 1) + 1 by omega, x_exec, t_100_58, p_loopS]
      by_cases x : a_fl A (5 + j) = -9
      · have x1 : j_z (a_fl A (5 + j) = -9) = j_k 1 := if_pos x
        rw [x1] at ql
        have eb : p_nevI rb (a_fl A) k j s = s := if_pos (Or.inl x)
        rw [eb]
        simp (disch := first | assumption | omega) only [k_add, k_sub, k_mul, k_lt, k_eq, k_lt0, k_0lt, k_eq0, k_nat, k_b0, k_b1, k_z1, k_z0, k_o1, k_o0, Int.reduceEq, Int.reduceLT, Int.reduceLE, Int.reduceAdd, Int.reduceMul, Int.reduceNeg, Bool.false_eq_true, or_true, true_or, or_false, false_or, and_true, true_and, and_false, false_and, not_true_eq_false, not_false_eq_true, ↓reduceIte, z_0, z_k, s_I, s_J, s_uI, s_uJ, ↓c_gP_0_4, ↓f_oc, f3, z, ↓jc1 ql]
        exact ih M k (j + 1) s v k1 k2 k3 (by omega) (by omega) s1 (by omega) hv
      · have x1 : j_z (a_fl A (5 + j) = -9) = j_k 0 := if_neg x
        rw [x1] at ql
        have cj := (ho.1 j j0 z).resolve_left x
        have cj1 := cj.1
        have cj2 : a_fl A (5 + j) < 32 := by omega
        have rbe := hrb k j k1 k2 j0 z k3 x
        by_cases y : rb k j = true
        · have eb : p_nevI rb (a_fl A) k j s = s := if_pos (Or.inr y)
          have bv : bt v (a_fl A (5 + j)).toNat = true := ((hv _).mpr (rbe.mp y)).2.2
          rw [eb]
          simp (disch := first | assumption | omega) only [k_add, k_sub, k_mul, k_lt, k_eq, k_lt0, k_0lt, k_eq0, k_nat, k_b0, k_b1, k_z1, k_z0, k_o1, k_o0, Int.reduceEq, Int.reduceLT, Int.reduceLE, Int.reduceAdd, Int.reduceMul, Int.reduceNeg, Bool.false_eq_true, or_true, true_or, or_false, false_or, and_true, true_and, and_false, false_and, not_true_eq_false, not_false_eq_true, ↓reduceIte, z_0, z_k, s_I, s_J, s_uI, s_uJ, ↓c_gP_0_4, ↓f_oc, f3, z, ↓jc1 ql, ↓f_gP1, ↓f_ia1, fj, tb_iff, bv]
          exact ih M k (j + 1) s v k1 k2 k3 (by omega) (by omega) s1 (by omega) hv
        · have eb : p_nevI rb (a_fl A) k j s = (s.1 + 1, if s.1 = 0 then 10 * k + j else s.2) := if_neg (fun u => u.elim x y)
          have bv : ¬ bt v (a_fl A (5 + j)).toNat = true := fun u => y (rbe.mpr ((hv _).mp ⟨cj1, cj2, u⟩))
          rw [eb]
          by_cases w : s.1 = 0
          · have ih2 := ih M k (j + 1) (s.1 + 1, 10 * k + j) v k1 k2 k3 (by omega) (by omega) (by show 0 ≤ s.1 + 1; omega) (by show s.1 + 1 ≤ 4 * k + (j + 1) - k; omega) hv
            have eu : u2 (u2 I 0 13 (j_k s.2)) 0 13 (j_k (10 * k + j)) = u2 I 0 13 (j_k (10 * k + j)) := by
              funext a b
              by_cases a0 : a = 0
              · subst a0
                by_cases b0 : b = 13
                · subst b0
                  rw [u2_ss, u2_ss]
                · rw [u2_k b0, u2_k b0, u2_k b0]
              · rw [u2_r a0, u2_r a0, u2_r a0]
            rw [if_pos w]
            simp (disch := first | assumption | omega) only [k_add, k_sub, k_mul, k_lt, k_eq, k_lt0, k_0lt, k_eq0, k_nat, k_b0, k_b1, k_z1, k_z0, k_o1, k_o0, Int.reduceEq, Int.reduceLT, Int.reduceLE, Int.reduceAdd, Int.reduceMul, Int.reduceNeg, Bool.false_eq_true, or_true, true_or, or_false, false_or, and_true, true_and, and_false, false_and, not_true_eq_false, not_false_eq_true, ↓reduceIte, z_0, z_k, s_I, s_J, s_uI, s_uJ, ↓c_gP_0_4, ↓f_oc, f3, z, ↓jc1 ql, ↓f_gP1, ↓f_ia1, fj, tb_iff, bv, w, ↓c_lt_0, ↓c_oc_0]
            rw [eu]
            rw [w] at ih2
            exact ih2
          · have ih2 := ih M k (j + 1) (s.1 + 1, s.2) v k1 k2 k3 (by omega) (by omega) (by show 0 ≤ s.1 + 1; omega) (by show s.1 + 1 ≤ 4 * k + (j + 1) - k; omega) hv
            rw [if_neg w]
            simp (disch := first | assumption | omega) only [k_add, k_sub, k_mul, k_lt, k_eq, k_lt0, k_0lt, k_eq0, k_nat, k_b0, k_b1, k_z1, k_z0, k_o1, k_o0, Int.reduceEq, Int.reduceLT, Int.reduceLE, Int.reduceAdd, Int.reduceMul, Int.reduceNeg, Bool.false_eq_true, or_true, true_or, or_false, false_or, and_true, true_and, and_false, false_and, not_true_eq_false, not_false_eq_true, ↓reduceIte, z_0, z_k, s_I, s_J, s_uI, s_uJ, ↓c_gP_0_4, ↓f_oc, f3, z, ↓jc1 ql, ↓f_gP1, ↓f_ia1, fj, tb_iff, bv, w]
            exact ih2
  have outer : ∀ (t M : Nat) (k : Int) (s : Int × Int), 0 ≤ k → k + t = a_gn A → 0 ≤ s.1 → s.1 ≤ 4 * k → j_exec k_100 h_100 (j_run (d + 3)) (M + 20 * t + 1) 10 [some (.ref 0), some (.int (j_k s.1)), some (.int (j_k k)), none, none] [] (ST L p (u2 I 0 13 (j_k s.2)) J) = some (some (.int (j_k (p_loop (p_nevO rb (a_gn A) (a_fl A)) t k s).1)), ST L p (u2 I 0 13 (j_k (p_loop (p_nevO rb (a_gn A) (a_fl A)) t k s).2)) J) := by
    intro t
    induction t with
    | zero =>
      intro M k s k1 k2 s1 s2
      have z : ¬ k < a_gn A := by omega
      have f3 : u2 I 0 13 (j_k s.2) 31 3 = j_k (a_gn A) := by rw [T _ 31 (by decide)]; exact hF.1
      rw [x_exec, t_100_10]
      simp (disch := first | assumption | omega) only [k_add, k_sub, k_mul, k_lt, k_eq, k_lt0, k_0lt, k_eq0, k_nat, k_b0, k_b1, k_z1, k_z0, k_o1, k_o0, Int.reduceEq, Int.reduceLT, Int.reduceLE, Int.reduceAdd, Int.reduceMul, Int.reduceNeg, Bool.false_eq_true, or_true, true_or, or_false, false_or, and_true, true_and, and_false, false_and, not_true_eq_false, not_false_eq_true, ↓reduceIte, z_0, z_k, s_I, s_J, s_uI, s_uJ, ↓c_gP_0_4, ↓f_oc, f3, z]
      rfl
    | succ t ih =>
      intro M k s k1 k2 s1 s2
      have z : k < a_gn A := by omega
      have k4 : k < 4 := by omega
      have f3 : u2 I 0 13 (j_k s.2) 31 3 = j_k (a_gn A) := by rw [T _ 31 (by decide)]; exact hF.1
      have fk : u2 I 0 13 (j_k s.2) (31 + 2) k.toNat = j_k (a_fl A (5 + k)) := by rw [T _ _ (by decide)]; exact hF.2.2.2.2.2.2.2.1 k k1 z
      have hF' : iF (u2 I 0 13 (j_k s.2)) 31 (a_gn A) (a_kd A) (a_fl A) := hF.cg (fun r r1 r2 => T _ r (by omega))
      have hG' : iG (u2 I 0 13 (j_k s.2)) 27 (a_gw A) (a_gh A) (a_N A) (a_gr A) := hG.cg (fun r r1 r2 => T _ r (by omega))
      have hT' : iT (u2 I 0 13 (j_k s.2)) := hT.cg (T _ _ (by decide)) (T _ _ (by decide))
      have ql := s_isLost (L := L) (p := p) (d := d + 2) (J := J) hA hF' hn4 ho bN1 k1 z
      rw [show M + 20 * (t + 1) + 1 = (M + 19 + 20 * t + 1) + 1 by omega, x_exec, t_100_10, p_loopS]
      by_cases x : a_fl A (5 + k) = -9
      · have x1 : j_z (a_fl A (5 + k) = -9) = j_k 1 := if_pos x
        rw [x1] at ql
        have eb : p_nevO rb (a_gn A) (a_fl A) k s = s := if_pos x
        rw [eb]
        simp (disch := first | assumption | omega) only [k_add, k_sub, k_mul, k_lt, k_eq, k_lt0, k_0lt, k_eq0, k_nat, k_b0, k_b1, k_z1, k_z0, k_o1, k_o0, Int.reduceEq, Int.reduceLT, Int.reduceLE, Int.reduceAdd, Int.reduceMul, Int.reduceNeg, Bool.false_eq_true, or_true, true_or, or_false, false_or, and_true, true_and, and_false, false_and, not_true_eq_false, not_false_eq_true, ↓reduceIte, z_0, z_k, s_I, s_J, s_uI, s_uJ, ↓c_gP_0_4, ↓f_oc, f3, z, ↓jc1 ql]
        exact ih (M + 19) (k + 1) s (by omega) (by omega) s1 (by omega)
      · have x1 : j_z (a_fl A (5 + k) = -9) = j_k 0 := if_neg x
        rw [x1] at ql
        have eb : p_nevO rb (a_gn A) (a_fl A) k s = p_loop (p_nevI rb (a_fl A) k) (a_gn A - (k + 1)).toNat (k + 1) s := if_neg x
        have ck := (ho.1 k k1 z).resolve_left x
        obtain ⟨v, q2, q3⟩ := s_reach (L := L) (p := p) (d := d) (J := J) (gt := true) hg hG' hT' hC ck.1 ck.2
        have g1 : j_z (true = true) = j_k 1 := rfl
        rw [g1] at q2
        rw [eb]
        obtain ⟨M2, hM2⟩ : ∃ q, M + 19 + 20 * t + 1 = (q + 20 * t + 1) + (a_gn A - (k + 1)).toNat + 1 := ⟨M + 18 - (a_gn A - (k + 1)).toNat, by omega⟩
        obtain ⟨i1, i2, i3⟩ := inner (a_gn A - (k + 1)).toNat (M2 + 20 * t + 1) k (k + 1) s v k1 z x (by omega) (by omega) s1 (by omega) q3
        rw [hM2]
        simp (disch := first | assumption | omega) only [k_add, k_sub, k_mul, k_lt, k_eq, k_lt0, k_0lt, k_eq0, k_nat, k_b0, k_b1, k_z1, k_z0, k_o1, k_o0, Int.reduceEq, Int.reduceLT, Int.reduceLE, Int.reduceAdd, Int.reduceMul, Int.reduceNeg, Bool.false_eq_true, or_true, true_or, or_false, false_or, and_true, true_and, and_false, false_and, not_true_eq_false, not_false_eq_true, ↓reduceIte, z_0, z_k, s_I, s_J, s_uI, s_uJ, ↓c_gP_0_4, ↓c_gP_0_3, ↓f_oc, ↓g_oc, f3, z, ↓jc1 ql, ↓f_gP1, ↓f_ia1, fk, ↓jc1 q2]
        refine i1.trans ?_
        exact ih M2 (k + 1) _ (by omega) (by omega) i2 i3
  obtain ⟨M, hM⟩ : ∃ q, 999999 = q + 20 * (a_gn A).toNat + 1 := ⟨999998 - 20 * (a_gn A).toNat, by omega⟩
  rw [hM] at e
  have e1 := outer (a_gn A).toNat M 0 (0, -9) (Int.le_refl 0) (by omega) (Int.le_refl 0) (Int.le_refl 0)
  simp (disch := first | assumption | omega) only [k_add, k_sub, k_mul, k_lt, k_eq, k_lt0, k_0lt, k_eq0, k_nat, k_b0, k_b1, k_z1, k_z0, k_o1, k_o0, Int.reduceEq, Int.reduceLT, Int.reduceLE, Int.reduceAdd, Int.reduceMul, Int.reduceNeg, Bool.false_eq_true, or_true, true_or, or_false, false_or, and_true, true_and, and_false, false_and, not_true_eq_false, not_false_eq_true, ↓reduceIte, z_0, z_k, s_I, s_J, s_uI, s_uJ, ↓c_lt_0, ↓c_oc_0] at e
  exact .of2 (e.trans e1) (hx.tell (fun q a b => by funext k; rw [u2_r a]) (fun k hk => by rw [u2_k hk]) (u2_ss _ _ _ _)) (fun q hq => T _ q (by omega)) (fun _ _ => rfl)
end CALLS12
