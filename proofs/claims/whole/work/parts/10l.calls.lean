/-! ===== the class's calls: worth ===== -/
theorem goTo_went {gr f : Fl} {k c i : Int} (k1 : 0 ≤ k) (k2 : k < 4) (i0 : 0 ≤ i) : p_goTo gr f k c (9 + i) = if i = k then f (9 + k) + 1 else f (9 + i) := by
  unfold p_goTo p_set
  by_cases z : i = k
  · rw [if_pos z, if_pos (by omega)]
  · rw [if_neg z, if_neg (by omega), if_neg (by omega)]
theorem bl_went {f : Fl} {k c i : Int} (i0 : 0 ≤ i) : p_bl f k c (9 + i) = f (9 + i) := by
  unfold p_bl p_set
  rw [if_neg (by omega), if_neg (by omega), if_neg (by omega), if_neg (by omega)]
theorem step_went {w h N n : Int} {gr kd : Fl} (hC : okC w h N n gr kd) {f : Fl} {i : Int} (i0 : 0 ≤ i) : f (9 + i) ≤ p_stepF w h gr n kd f (9 + i) ∧ p_stepF w h gr n kd f (9 + i) ≤ f (9 + i) + 1 := by
  have hn := hC.2.2.1
  have hn4 := hC.2.2.2.1
  have key : f (9 + i) ≤ (p_stepL w h gr n kd f).1 (9 + i) ∧ (p_stepL w h gr n kd f).1 (9 + i) ≤ f (9 + i) + (if i < n then 1 else 0) := by
    refine loop_in (k0 := 0) (n := n) (P := fun k (s : Ss) => f (9 + i) ≤ s.1 (9 + i) ∧ s.1 (9 + i) ≤ f (9 + i) + (if i < k then 1 else 0)) (fun k s k1 k2 hs => ?_) n.toNat 0 _ (Int.le_refl 0) (by omega) ⟨Int.le_refl _, by show f (9 + i) ≤ f (9 + i) + (if i < 0 then 1 else 0); rw [if_neg (by omega)]; omega⟩
    have hs' : f (9 + i) ≤ s.1 (9 + i) ∧ s.1 (9 + i) ≤ f (9 + i) + (if i < k then 1 else 0) := hs
    show f (9 + i) ≤ (p_stepB w h gr n kd f k s).1 (9 + i) ∧ (p_stepB w h gr n kd f k s).1 (9 + i) ≤ f (9 + i) + (if i < k + 1 then 1 else 0)
    have mono : (if i < k then (1 : Int) else 0) ≤ (if i < k + 1 then 1 else 0) := by
      split <;> split <;> omega
    unfold p_stepB
    split
    · omega
    · split
      · omega
      · show f (9 + i) ≤ p_goTo gr s.1 k _ (9 + i) ∧ p_goTo gr s.1 k _ (9 + i) ≤ _
        rw [goTo_went k1 (by omega) i0]
        by_cases z : i = k
        · subst z
          rw [if_pos rfl, if_pos (by omega)]
          rw [if_neg (by omega)] at hs'
          omega
        · rw [if_neg z]
          omega
  have k2 : (if i < n then (1 : Int) else 0) ≤ 1 := by split <;> omega
  have e0 : ∀ g : Fl, p_set g 0 (g 0 + 1) (9 + i) = g (9 + i) := fun g => if_neg (by omega)
  unfold p_stepF p_stepE
  split
  · rw [e0]
    omega
  · rw [bl_went i0, e0]
    omega
theorem run_went {w h N n : Int} {gr kd : Fl} (hC : okC w h N n gr kd) {i : Int} (i0 : 0 ≤ i) : ∀ (m : Nat) (st sp : Int) (f : Fl), f (9 + i) ≤ (p_run w h gr n kd m st sp f).1 (9 + i) ∧ (p_run w h gr n kd m st sp f).1 (9 + i) ≤ f (9 + i) + m
  | 0, st, sp, f => ⟨Int.le_refl _, by show f (9 + i) ≤ f (9 + i) + 0; omega⟩
  | m + 1, st, sp, f => by
    unfold p_run
    split
    · have a := run_went hC i0 m (if p_stepW w h gr n kd f = 0 then st + 1 else 0) (sp + 1) (p_stepF w h gr n kd f)
      have b := step_went hC (f := f) i0
      omega
    · exact ⟨Int.le_refl _, by show f (9 + i) ≤ f (9 + i) + _; omega⟩
section CALLS10
variable {L p d : Nat} {J : Nat → Nat → Int64} {I I' : Nat → Nat → Int32} {A : Ast} {K : Option Rr} {r i : Int}
theorem okF_fg {N n b : Int} {f : Fl} (hn4 : n ≤ 4) (ho : okF N n b f) : okF N n b (p_fg f) := by
  obtain ⟨h1, h2, h3, h4, h5, h6⟩ := ho
  refine ⟨fun k k1 k2 => ?_, fun j k j1 k1 k2 => ?_, ?_, ?_, ?_, ?_⟩
  · rw [fg_lo (by omega)]; exact h1 k k1 k2
  · rw [fg_lo (by omega), fg_lo (by omega)]; exact h2 j k j1 k1 k2
  · rw [fg_lo (by decide), fg_lo (by decide)]; exact h3
  · rw [fg_lo (by decide), fg_lo (by decide)]; exact h4
  · rw [fg_lo (by decide), fg_lo (by decide)]; exact h5
  · rw [fg_lo (by decide)]; exact h6
theorem x_worth (hx : iX I J A) {k b : Int} (h1 : -2147483648 ≤ k) (h2 : k < 2147483648) (h3 : -2147483648 ≤ b) (h4 : b < 2147483648) : xc L p I J (d + 5) 96 [.ref 0, .int (j_k k), .int (j_k b)] (p_worth k b A) := by
  have hC := hx.1.1
  have ho := hx.1.2.1
  have hG := hx.2.2.2.1
  have hF := hx.2.2.2.2.1
  have hT := hx.2.2.2.2.2.2.2.2.1
  have hM := hx.2.2.2.2.2.2.2.1
  have hn := hC.2.2.1
  have hn4 := hC.2.2.2.1
  obtain ⟨bN0, bN1, -⟩ := bd_N hC
  have hA := fa_31
  have hg := ga_27
  have q1 := s_has (L := L) (p := p) (d := d + 3) (J := J) hA hF hn hn4 h1 h2
  have q2 := x_isWay (L := L) (p := p) (d := d + 3) (I := I) (J := J) h3 h4
  have e := (r_96 (d + 4) (ST L p I J) 0 (j_k k) (j_k b)).trans (t_96_0 _ _ _ _ _ _)
  unfold p_worth
  by_cases z : 0 ≤ k ∧ k < a_gn A
  · have z1 : j_z (0 ≤ k ∧ k < a_gn A) = j_k 1 := if_pos z
    rw [z1] at q1
    by_cases y : 0 ≤ b ∧ b < 4
    · have y1 : j_z (0 ≤ b ∧ b < 4) = j_k 1 := if_pos y
      rw [y1] at q2
      rw [if_pos ⟨z, y⟩]
      obtain ⟨I1, t1, t2, t3⟩ := s_take (L := L) (p := p) (d := d + 3) (J := J) fa_48 hA (by omega) hF hn hn4
      obtain ⟨I2, s1, s2, s3⟩ := s_stirBy (L := L) (p := p) (d := d + 2) (J := J) fa_48 hg t2 (hG.fr fa_48 hg t3) (hT.fr fa_48 t3) hC ho z.1 z.2 y.1 y.2
      have f2' := t3.tr s3
      by_cases x : p_stir (a_gw A) (a_gh A) (a_gr A) (a_gn A) (a_kd A) (a_fl A) k b = -9
      · rw [x] at s1
        rw [if_pos x]
        simp (disch := first | assumption | omega) only [k_add, k_sub, k_mul, k_lt, k_eq, k_lt0, k_0lt, k_eq0, k_nat, k_b0, k_b1, k_z1, k_z0, k_o1, k_o0, Int.reduceEq, Int.reduceLT, Int.reduceLE, Int.reduceAdd, Int.reduceMul, Int.reduceNeg, Bool.false_eq_true, or_true, true_or, or_false, false_or, and_true, true_and, and_false, false_and, not_true_eq_false, not_false_eq_true, ↓reduceIte, z_0, z_k, s_I, s_J, s_uI, s_uJ, ↓c_gP_0_4, ↓f_oc fa_31, ↓jc1 q1, ↓jc1 q2, ↓c_gP_0_6, ↓f_oc fa_48, ↓jc0 t1, ↓c_gP_0_3, ↓jc1 s1] at e
        exact .of2 e (hx.same (fun r hr => f2' r (by omega)) rfl) (fun q hq => f2' q (by omega)) (fun _ _ => rfl)
      · obtain ⟨r1, r2, r3⟩ := stir_ok hC ho z.1 z.2 y.1 y.2 x
        rw [if_neg x] at s2 ⊢
        have r4 : -2147483648 ≤ p_stir (a_gw A) (a_gh A) (a_gr A) (a_gn A) (a_kd A) (a_fl A) k b := by omega
        have r5 : p_stir (a_gw A) (a_gh A) (a_gr A) (a_gn A) (a_kd A) (a_fl A) k b < 2147483648 := by omega
        obtain ⟨I3, u1', u2', u3⟩ := s_forgetGone (L := L) (p := p) (d := d + 2) (J := J) fa_48 s2 hn4
        have f3 := f2'.tr u3
        obtain ⟨I4, v1, v2, v3⟩ := s_runOut (L := L) (p := p) (d := d) (J := J) fa_48 hg u2' (hG.fr fa_48 hg f3) (hT.fr fa_48 f3) hC (okF_fg hn4 r3) (by decide)
        have f4 := f3.tr v3
        have v2' : iF I4 48 (a_gn A) (a_kd A) (p_worF k b A) := v2
        have wr : ∀ i, 0 ≤ i → 0 ≤ p_worF k b A (9 + i) ∧ p_worF k b A (9 + i) ≤ 40 := fun i i0 => by
          have := run_went hC i0 40 0 0 (p_fg (p_stirF (a_gr A) (a_fl A) k (p_stir (a_gw A) (a_gh A) (a_gr A) (a_gn A) (a_kd A) (a_fl A) k b)))
          rw [fg_hi (show (9 : Int) ≤ 9 + i by omega)] at this
          have t : 0 ≤ p_worF k b A (9 + i) ∧ p_worF k b A (9 + i) ≤ 0 + 40 := this
          omega
        have loop : ∀ (t M : Nat) (i s c : Int), 0 ≤ i → i + t = a_gn A → t < M → j_exec k_96 h_96 (j_run (d + 4)) M 79 [some (.ref 0), some (.int (j_k k)), some (.int (j_k b)), some (.int (j_k s)), some (.int (j_k c)), some (.int (j_k i))] [] (ST L p I4 J) = some (some (.int (j_k (p_loop (fun i s => if 0 < p_worF k b A (9 + i) then s + 1 else s) t i s))), ST L p (u2 I4 0 13 (j_k (p_loop (fun i s => s + p_worF k b A (9 + i)) t i c))) J) := by
          intro t
          induction t with
          | zero =>
            intro M i s c i1 i2 hM
            obtain ⟨M, rfl⟩ : ∃ q, M = q + 1 := ⟨M - 1, by omega⟩
            have z : ¬ i < a_gn A := by omega
            rw [x_exec, t_96_79]
            simp (disch := first | assumption | omega) only [k_add, k_sub, k_mul, k_lt, k_eq, k_lt0, k_0lt, k_eq0, k_nat, k_b0, k_b1, k_z1, k_z0, k_o1, k_o0, Int.reduceEq, Int.reduceLT, Int.reduceLE, Int.reduceAdd, Int.reduceMul, Int.reduceNeg, Bool.false_eq_true, or_true, true_or, or_false, false_or, and_true, true_and, and_false, false_and, not_true_eq_false, not_false_eq_true, ↓reduceIte, z_0, z_k, s_I, s_J, s_uI, s_uJ, ↓c_gP_0_6, ↓f_oc fa_48, v2'.1, z, ↓c_lt_0, ↓c_oc_0]
            rfl
          | succ t ih =>
            intro M i s c i1 i2 hM
            obtain ⟨M, rfl⟩ : ∃ q, M = q + 1 := ⟨M - 1, by omega⟩
            have z : i < a_gn A := by omega
            have i4 : i < 4 := by omega
            have hv := v2'.2.2.2.2.2.2.2.2.1 i i1 z
            have w1 := (wr i i1).1
            have w2 := (wr i i1).2
            rw [x_exec, t_96_79, p_loopS, p_loopS]
            by_cases x : 0 < p_worF k b A (9 + i)
            · rw [if_pos x]
              simp (disch := first | assumption | omega) only [k_add, k_sub, k_mul, k_lt, k_eq, k_lt0, k_0lt, k_eq0, k_nat, k_b0, k_b1, k_z1, k_z0, k_o1, k_o0, Int.reduceEq, Int.reduceLT, Int.reduceLE, Int.reduceAdd, Int.reduceMul, Int.reduceNeg, Bool.false_eq_true, or_true, true_or, or_false, false_or, and_true, true_and, and_false, false_and, not_true_eq_false, not_false_eq_true, ↓reduceIte, z_0, z_k, s_I, s_J, s_uI, s_uJ, ↓c_gP_0_6, ↓f_oc fa_48, v2'.1, z, ↓f_gP2 fa_48, ↓f_ia2 fa_48, hv, x]
              exact ih M (i + 1) (s + 1) _ (by omega) (by omega) (by omega)
            · rw [if_neg x]
              simp (disch := first | assumption | omega) only [k_add, k_sub, k_mul, k_lt, k_eq, k_lt0, k_0lt, k_eq0, k_nat, k_b0, k_b1, k_z1, k_z0, k_o1, k_o0, Int.reduceEq, Int.reduceLT, Int.reduceLE, Int.reduceAdd, Int.reduceMul, Int.reduceNeg, Bool.false_eq_true, or_true, true_or, or_false, false_or, and_true, true_and, and_false, false_and, not_true_eq_false, not_false_eq_true, ↓reduceIte, z_0, z_k, s_I, s_J, s_uI, s_uJ, ↓c_gP_0_6, ↓f_oc fa_48, v2'.1, z, ↓f_gP2 fa_48, ↓f_ia2 fa_48, hv, x]
              exact ih M (i + 1) s _ (by omega) (by omega) (by omega)
        have e1 := loop (a_gn A).toNat 999999 0 0 0 (Int.le_refl 0) (by omega) (by omega)
        simp (disch := first | assumption | omega) only [k_add, k_sub, k_mul, k_lt, k_eq, k_lt0, k_0lt, k_eq0, k_nat, k_b0, k_b1, k_z1, k_z0, k_o1, k_o0, Int.reduceEq, Int.reduceLT, Int.reduceLE, Int.reduceAdd, Int.reduceMul, Int.reduceNeg, Bool.false_eq_true, or_true, true_or, or_false, false_or, and_true, true_and, and_false, false_and, not_true_eq_false, not_false_eq_true, ↓reduceIte, z_0, z_k, s_I, s_J, s_uI, s_uJ, ↓c_gP_0_4, ↓f_oc fa_31, ↓jc1 q1, ↓jc1 q2, ↓c_gP_0_6, ↓f_oc fa_48, ↓jc0 t1, ↓c_gP_0_3, ↓jc1 s1, x, ↓jc0 u1', ↓jc1 v1] at e
        exact .of2 (e.trans e1) ((hx.same (fun r hr => f4 r (by omega)) rfl).tell (fun q a b => by funext k; rw [u2_r a]) (fun k hk => by rw [u2_k hk]) (u2_ss _ _ _ _)) (fun q hq => by funext k; rw [u2_r (by omega), f4 q (by omega)]) (fun _ _ => rfl)
    · have y1 : j_z (0 ≤ b ∧ b < 4) = j_k 0 := if_neg y
      rw [y1] at q2
      rw [if_neg (fun u => y u.2)]
      simp (disch := first | assumption | omega) only [k_add, k_sub, k_mul, k_lt, k_eq, k_lt0, k_0lt, k_eq0, k_nat, k_b0, k_b1, k_z1, k_z0, k_o1, k_o0, Int.reduceEq, Int.reduceLT, Int.reduceLE, Int.reduceAdd, Int.reduceMul, Int.reduceNeg, Bool.false_eq_true, or_true, true_or, or_false, false_or, and_true, true_and, and_false, false_and, not_true_eq_false, not_false_eq_true, ↓reduceIte, z_0, z_k, s_I, s_J, s_uI, s_uJ, ↓c_gP_0_4, ↓f_oc, ↓jc1 q1, ↓jc1 q2] at e
      exact .of ⟨_, e, hx, fun _ _ => rfl⟩
  · have z1 : j_z (0 ≤ k ∧ k < a_gn A) = j_k 0 := if_neg z
    rw [z1] at q1
    rw [if_neg (fun u => z u.1)]
    simp (disch := first | assumption | omega) only [k_add, k_sub, k_mul, k_lt, k_eq, k_lt0, k_0lt, k_eq0, k_nat, k_b0, k_b1, k_z1, k_z0, k_o1, k_o0, Int.reduceEq, Int.reduceLT, Int.reduceLE, Int.reduceAdd, Int.reduceMul, Int.reduceNeg, Bool.false_eq_true, or_true, true_or, or_false, false_or, and_true, true_and, and_false, false_and, not_true_eq_false, not_false_eq_true, ↓reduceIte, z_0, z_k, s_I, s_J, s_uI, s_uJ, ↓c_gP_0_4, ↓f_oc, ↓jc1 q1] at e
    exact .of ⟨_, e, hx, fun _ _ => rfl⟩
end CALLS10
