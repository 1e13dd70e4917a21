/-! ===== the class's calls: ring, worth ===== -/
def p_its (w h : Int) (gr : Fl) (n : Int) (kd : Fl) : Nat → Fl → Fl
  | 0, f => f
  | m + 1, f => p_stepF w h gr n kd (p_its w h gr n kd m f)
def p_fa (A : Ast) (k : Int) : Fl := p_its (a_gw A) (a_gh A) (a_gr A) (a_gn A) (a_kd A) k.toNat (a_fl A)
def p_again (A : Ast) (k : Int) : Int := p_first (fun m => decide (p_num (a_gn A) (p_fa A m) = p_num (a_gn A) (p_fa A k))) k.toNat 0
def p_ringN (A : Ast) : Int := p_first (fun k => decide (p_again A k ≠ -9)) 201 0
def p_ring (A : Ast) : Int × Ast := if a_N A = 0 then (-4, A) else if p_ringN A = -9 then (-9, A) else (p_ringN A, A_told A (j_k (p_ringN A - p_again A (p_ringN A))))
def p_wcnt (n : Int) (f : Fl) : Int := p_loop (fun i s => if 0 < f (9 + i) then s + 1 else s) n.toNat 0 0
def p_wsum (n : Int) (f : Fl) : Int := p_loop (fun i s => s + f (9 + i)) n.toNat 0 0
def p_worF (k y : Int) (A : Ast) : Fl := (p_runs (a_gw A) (a_gh A) (a_gr A) (a_gn A) (a_kd A) (p_fg (p_stirF (a_gr A) (a_fl A) k (p_stir (a_gw A) (a_gh A) (a_gr A) (a_gn A) (a_kd A) (a_fl A) k y)))).1
def p_worth (k y : Int) (A : Ast) : Int × Ast := if (0 ≤ k ∧ k < a_gn A) ∧ 0 ≤ y ∧ y < 4 then (if p_stir (a_gw A) (a_gh A) (a_gr A) (a_gn A) (a_kd A) (a_fl A) k y = -9 then (-4, A) else (p_wcnt (a_gn A) (p_worF k y A), A_told A (j_k (p_wsum (a_gn A) (p_worF k y A))))) else (-1, A)
theorem its_ok {w h N n b : Int} {gr kd : Fl} (hC : okC w h N n gr kd) {f : Fl} (ho : okF N n b f) : ∀ m : Nat, okF N n (b + m) (p_its w h gr n kd m f)
  | 0 => by
    show okF N n (b + 0) f
    rw [Int.add_zero]
    exact ho
  | m + 1 => by
    have := stepF_ok hC (its_ok hC ho m)
    show okF N n (b + ((m + 1 : Nat) : Int)) (p_stepF w h gr n kd (p_its w h gr n kd m f))
    rw [show b + ((m + 1 : Nat) : Int) = b + (m : Int) + 1 by omega]
    exact this
theorem enc_rg {v N : Int} (h : v = -9 ∨ (0 ≤ v ∧ v < N)) (hN : N ≤ 30) : 0 ≤ p_enc v ∧ p_enc v < 32 := by
  unfold p_enc
  split <;> omega
theorem num_rg {w h N n b : Int} {gr kd f : Fl} (hC : okC w h N n gr kd) (ho : okF N n b f) : 0 ≤ p_num n f ∧ p_num n f < 9223372036854775808 := by
  obtain ⟨b1, b2, -⟩ := bd_N hC
  have hn := hC.2.2.1
  have hn4 := hC.2.2.2.1
  obtain ⟨h1, h2, h3, h4, h5, h6⟩ := ho
  have e1 : 0 ≤ p_enc (f 1) ∧ p_enc (f 1) < 32 := enc_rg (N := 30) (by omega) (by omega)
  have e2 : 0 ≤ p_enc (f 2) ∧ p_enc (f 2) < 32 := enc_rg (N := 30) (by omega) (by omega)
  have e3 : 0 ≤ p_enc (f 3) ∧ p_enc (f 3) < 32 := enc_rg (N := 30) (by omega) (by omega)
  have e4 : 0 ≤ p_enc (f 4) ∧ p_enc (f 4) < 32 := enc_rg (N := 30) (by omega) (by omega)
  have lp : 0 ≤ p_loop (fun k s => 32 * s + p_enc (f (5 + k))) n.toNat 0 (f 0 % 2) ∧ p_loop (fun k s => 32 * s + p_enc (f (5 + k))) n.toNat 0 (f 0 % 2) < 2 * 32 ^ n.toNat := by
    refine loop_in (k0 := 0) (n := n) (P := fun k s => 0 ≤ s ∧ s < 2 * 32 ^ k.toNat) (fun k s k1 k2 hs => ?_) n.toNat 0 _ (Int.le_refl 0) (by omega) ⟨by omega, by show f 0 % 2 < 2 * 32 ^ 0; omega⟩
    have e := enc_rg (N := N) (h1 k k1 k2) b2
    show 0 ≤ 32 * s + p_enc (f (5 + k)) ∧ 32 * s + p_enc (f (5 + k)) < 2 * 32 ^ (k + 1).toNat
    rw [show (k + 1).toNat = k.toNat + 1 by omega, Int.pow_succ]
    omega
  have l2 : (2 * 32 ^ n.toNat : Int) ≤ 2 * 32 ^ 4 := by
    rcases (show n = 0 ∨ n = 1 ∨ n = 2 ∨ n = 3 ∨ n = 4 by omega) with rfl | rfl | rfl | rfl | rfl <;> decide
  have l3 : (2 * 32 ^ 4 : Int) = 2097152 := by decide
  unfold p_num
  omega
section CALLS9
variable {L p d : Nat} {J : Nat → Nat → Int64} {I I' : Nat → Nat → Int32} {A : Ast} {K : Option Rr} {r i : Int}
theorem xc.of2 {m : Nat} {as : List Value} {v : Int} {B : Ast} {I2 : Nat → Nat → Int32} {J2 : Nat → Nat → Int64} (h1 : j_run d m as (ST L p I J) = some (some (.int (j_k v)), ST L p I2 J2)) (h2 : iX I2 J2 B) (h3 : ∀ q, 87 ≤ q → I2 q = I q) (h4 : ∀ q, 87 ≤ q → J2 q = J q) : xc L p I J d m as (v, B) := ⟨p, I2, J2, h1, h2, h3, h4⟩
theorem x_ring (hx : iX I J A) : xc L p I J (d + 4) 87 [.ref 0] (p_ring A) := by
  have hC := hx.1.1
  have ho := hx.1.2.1
  have hG := hx.2.2.2.1
  have hF := hx.2.2.2.2.1
  have hT := hx.2.2.2.2.2.2.2.2.1
  have hM := hx.2.2.2.2.2.2.2.1
  have hn := hC.2.2.1
  have hn4 := hC.2.2.2.1
  obtain ⟨bN0, bN1, -⟩ := bd_N hC
  have hA := fa_31
  have hg := ga_27
  have e := (r_87 (d + 3) (ST L p I J) 0).trans (t_87_0 _ _ _ _)
  unfold p_ring
  by_cases y : a_N A = 0
  · rw [if_pos y]
    simp (disch := first | assumption | omega) only [k_add, k_sub, k_mul, k_lt, k_eq, k_lt0, k_0lt, k_eq0, k_nat, k_b0, k_b1, k_z1, k_z0, k_o1, k_o0, Int.reduceEq, Int.reduceLT, Int.reduceLE, Int.reduceAdd, Int.reduceMul, Int.reduceNeg, Bool.false_eq_true, or_true, true_or, or_false, false_or, and_true, true_and, and_false, false_and, not_true_eq_false, not_false_eq_true, ↓reduceIte, z_0, z_k, s_I, s_J, s_uI, s_uJ, ↓c_gP_0_3, ↓g_oc, hG.2.2.1, y] at e
    exact .of ⟨_, e, hx, fun _ _ => rfl⟩
  · rw [if_neg y]
    obtain ⟨I0, s1, s2, s3⟩ := s_take (L := L) (p := p) (d := d + 2) (J := J) fa_48 hA (by omega) hF hn hn4
    simp (disch := first | assumption | omega) only [k_add, k_sub, k_mul, k_lt, k_eq, k_lt0, k_0lt, k_eq0, k_nat, k_b0, k_b1, k_z1, k_z0, k_o1, k_o0, Int.reduceEq, Int.reduceLT, Int.reduceLE, Int.reduceAdd, Int.reduceMul, Int.reduceNeg, Bool.false_eq_true, or_true, true_or, or_false, false_or, and_true, true_and, and_false, false_and, not_true_eq_false, not_false_eq_true, ↓reduceIte, z_0, z_k, s_I, s_J, s_uI, s_uJ, ↓c_gP_0_3, ↓g_oc, hG.2.2.1, y, ↓c_gP_0_6, ↓c_gP_0_4, ↓f_oc, ↓jc0 s1] at e
    have okf : ∀ k : Int, 0 ≤ k → k ≤ 300 → okF (a_N A) (a_gn A) 20000 (p_fa A k) := fun k k1 k2 => okF_le (by omega) (its_ok hC ho k.toNat)
    have inner : ∀ (t M : Nat) (k m : Int) (I1 : Nat → Nat → Int32) (J1 : Nat → Nat → Int64), 0 ≤ k → k ≤ 200 → 0 ≤ m → m + t = k → t < M → (∀ j : Int, 0 ≤ j → j ≤ k → J1 52 j.toNat = lk (p_num (a_gn A) (p_fa A j))) → iF I1 48 (a_gn A) (a_kd A) (p_fa A k) → fr 48 I I1 →
        (p_first (fun m => decide (p_num (a_gn A) (p_fa A m) = p_num (a_gn A) (p_fa A k))) t m ≠ -9 → j_exec k_87 h_87 (j_run (d + 3)) M 48 [some (.ref 0), some (.int (j_k k)), some (.int (j_k m))] [] (ST L p I1 J1) = some (some (.int (j_k k)), ST L p (u2 I1 0 13 (j_k (k - p_first (fun m => decide (p_num (a_gn A) (p_fa A m) = p_num (a_gn A) (p_fa A k))) t m))) J1)) ∧
        (p_first (fun m => decide (p_num (a_gn A) (p_fa A m) = p_num (a_gn A) (p_fa A k))) t m = -9 → ∃ I2, j_exec k_87 h_87 (j_run (d + 3)) M 48 [some (.ref 0), some (.int (j_k k)), some (.int (j_k m))] [] (ST L p I1 J1) = j_exec k_87 h_87 (j_run (d + 3)) (M - t - 1) 26 [some (.ref 0), some (.int (j_k (k + 1))), none] [] (ST L p I2 J1) ∧ iF I2 48 (a_gn A) (a_kd A) (p_fa A (k + 1)) ∧ fr 48 I I2) := by
      intro t
      induction t with
      | zero =>
        intro M k m I1 J1 k1 k2 m1 m2 hM hj hi hfr
        obtain ⟨M, rfl⟩ : ∃ q, M = q + 1 := ⟨M - 1, by omega⟩
        have z : ¬ m < k := by omega
        refine ⟨fun u => absurd rfl u, fun _ => ?_⟩
        obtain ⟨I2, t1, t2, t3⟩ := s_takeStep (L := L) (p := p) (d := d) (J := J1) fa_48 hg hi (hG.fr fa_48 hg hfr) (hT.fr fa_48 hfr) hC (okf k k1 (by omega)) (by decide)
        refine ⟨I2, ?_, ?_, hfr.tr t3⟩
        · rw [x_exec, t_87_48]
          simp (disch := first | assumption | omega) only [k_add, k_sub, k_mul, k_lt, k_eq, k_lt0, k_0lt, k_eq0, k_nat, k_b0, k_b1, k_z1, k_z0, k_o1, k_o0, Int.reduceEq, Int.reduceLT, Int.reduceLE, Int.reduceAdd, Int.reduceMul, Int.reduceNeg, Bool.false_eq_true, or_true, true_or, or_false, false_or, and_true, true_and, and_false, false_and, not_true_eq_false, not_false_eq_true, ↓reduceIte, z_0, z_k, s_I, s_J, s_uI, s_uJ, z, ↓c_gP_0_6, ↓c_gP_0_3, ↓f_oc fa_48, ↓jc1 t1]
          rfl
        · have : p_fa A (k + 1) = p_stepF (a_gw A) (a_gh A) (a_gr A) (a_gn A) (a_kd A) (p_fa A k) := by
            unfold p_fa
            rw [show (k + 1).toNat = k.toNat + 1 by omega]
            rfl
          rw [this]
          exact t2
      | succ t ih =>
        intro M k m I1 J1 k1 k2 m1 m2 hM hj hi hfr
        obtain ⟨M, rfl⟩ : ∃ q, M = q + 1 := ⟨M - 1, by omega⟩
        have z : m < k := by omega
        have m3 : m < 201 := by omega
        have k3 : k < 201 := by omega
        have ja := hj m m1 (by omega)
        have jb := hj k k1 (Int.le_refl _)
        have ra := num_rg hC (okf m m1 (by omega))
        have rb := num_rg hC (okf k k1 (by omega))
        have ce : (lg_cmp (lk (p_num (a_gn A) (p_fa A m))) (lk (p_num (a_gn A) (p_fa A k))) = 0) = (p_num (a_gn A) (p_fa A m) = p_num (a_gn A) (p_fa A k)) := by
          rw [lc_eq, l_eq (by omega) (by omega) (by omega) (by omega)]
        rw [x_exec, t_87_48, p_firstS]
        by_cases x : p_num (a_gn A) (p_fa A m) = p_num (a_gn A) (p_fa A k)
        · rw [if_pos (decide_eq_true x)]
          refine ⟨fun _ => ?_, fun u => absurd u (by omega)⟩
          have ce1 : (lg_cmp (lk (p_num (a_gn A) (p_fa A m))) (lk (p_num (a_gn A) (p_fa A k))) = 0) = True := by
            rw [ce]
            exact eq_true x
          simp (disch := first | assumption | omega) only [k_add, k_sub, k_mul, k_lt, k_eq, k_lt0, k_0lt, k_eq0, k_nat, k_b0, k_b1, k_z1, k_z0, k_o1, k_o0, Int.reduceEq, Int.reduceLT, Int.reduceLE, Int.reduceAdd, Int.reduceMul, Int.reduceNeg, Bool.false_eq_true, or_true, true_or, or_false, false_or, and_true, true_and, and_false, false_and, not_true_eq_false, not_false_eq_true, ↓reduceIte, z_0, z_k, s_I, s_J, s_uI, s_uJ, z, ↓c_gP_0_7, ↓c_la_52, ja, jb, ce1, ↓c_lt_0, ↓c_oc_0]
        · rw [if_neg (by rw [decide_eq_true_iff]; exact x)]
          obtain ⟨i1, i2⟩ := ih M k (m + 1) I1 J1 k1 k2 (by omega) (by omega) (by omega) hj hi hfr
          simp (disch := first | assumption | omega) only [k_add, k_sub, k_mul, k_lt, k_eq, k_lt0, k_0lt, k_eq0, k_nat, k_b0, k_b1, k_z1, k_z0, k_o1, k_o0, Int.reduceEq, Int.reduceLT, Int.reduceLE, Int.reduceAdd, Int.reduceMul, Int.reduceNeg, Bool.false_eq_true, or_true, true_or, or_false, false_or, and_true, true_and, and_false, false_and, not_true_eq_false, not_false_eq_true, ↓reduceIte, z_0, z_k, s_I, s_J, s_uI, s_uJ, z, ↓c_gP_0_7, ↓c_la_52, ja, jb, ce, x]
          refine ⟨i1, fun u => ?_⟩
          obtain ⟨I2, a1, a2⟩ := i2 u
          refine ⟨I2, ?_, a2⟩
          rw [show M + 1 - (t + 1) - 1 = M - t - 1 by omega]
          exact a1
    have outer : ∀ (t M : Nat) (k : Int) (I1 : Nat → Nat → Int32) (J1 : Nat → Nat → Int64), 0 ≤ k → k + t = 201 → 300 * t + 1 < M → (∀ j : Int, 0 ≤ j → j < k → J1 52 j.toNat = lk (p_num (a_gn A) (p_fa A j))) → iF I1 48 (a_gn A) (a_kd A) (p_fa A k) → fr 48 I I1 → (∀ q, q ≠ 52 → J1 q = J q) →
        (p_first (fun k => decide (p_again A k ≠ -9)) t k ≠ -9 → ∃ I2 J2, j_exec k_87 h_87 (j_run (d + 3)) M 26 [some (.ref 0), some (.int (j_k k)), none] [] (ST L p I1 J1) = some (some (.int (j_k (p_first (fun k => decide (p_again A k ≠ -9)) t k))), ST L p (u2 I2 0 13 (j_k (p_first (fun k => decide (p_again A k ≠ -9)) t k - p_again A (p_first (fun k => decide (p_again A k ≠ -9)) t k)))) J2) ∧ fr 48 I I2 ∧ ∀ q, q ≠ 52 → J2 q = J q) ∧
        (p_first (fun k => decide (p_again A k ≠ -9)) t k = -9 → ∃ I2 J2, j_exec k_87 h_87 (j_run (d + 3)) M 26 [some (.ref 0), some (.int (j_k k)), none] [] (ST L p I1 J1) = some (some (.int (j_k (-9))), ST L p I2 J2) ∧ fr 48 I I2 ∧ ∀ q, q ≠ 52 → J2 q = J q) := by
      intro t
      induction t with
      | zero =>
        intro M k I1 J1 k1 k2 hM hj hi hfr hJ
        obtain ⟨M, rfl⟩ : ∃ q, M = q + 1 := ⟨M - 1, by omega⟩
        have z : 200 < k := by omega
        refine ⟨fun u => absurd rfl u, fun _ => ⟨I1, J1, ?_, hfr, hJ⟩⟩
        rw [x_exec, t_87_26]
        simp (disch := first | assumption | omega) only [k_add, k_sub, k_mul, k_lt, k_eq, k_lt0, k_0lt, k_eq0, k_nat, k_b0, k_b1, k_z1, k_z0, k_o1, k_o0, Int.reduceEq, Int.reduceLT, Int.reduceLE, Int.reduceAdd, Int.reduceMul, Int.reduceNeg, Bool.false_eq_true, or_true, true_or, or_false, false_or, and_true, true_and, and_false, false_and, not_true_eq_false, not_false_eq_true, ↓reduceIte, z_0, z_k, s_I, s_J, s_uI, s_uJ, z]
      | succ t ih =>
        intro M k I1 J1 k1 k2 hM hj hi hfr hJ
        obtain ⟨M, rfl⟩ : ∃ q, M = q + 1 := ⟨M - 1, by omega⟩
        have z : ¬ 200 < k := by omega
        have k3 : k < 201 := by omega
        have qn := s_inOneNumber (L := L) (p := p) (d := d + 1) (J := J1) fa_48 hi hC (okf k k1 (by omega)) (by decide)
        have hj2 : ∀ j : Int, 0 ≤ j → j ≤ k → u2 J1 52 k.toNat (lk (p_num (a_gn A) (p_fa A k))) 52 j.toNat = lk (p_num (a_gn A) (p_fa A j)) := fun j j1 j2 => by
          by_cases x : j = k
          · subst x
            rw [u2_ss]
          · rw [u2_k (by omega)]
            exact hj j j1 (by omega)
        have hJ2 : ∀ q, q ≠ 52 → u2 J1 52 k.toNat (lk (p_num (a_gn A) (p_fa A k))) q = J q := fun q hq => by
          rw [← hJ q hq]
          funext j
          rw [u2_r hq]
        obtain ⟨i1, i2⟩ := inner k.toNat M k 0 I1 (u2 J1 52 k.toNat (lk (p_num (a_gn A) (p_fa A k)))) k1 (by omega) (Int.le_refl 0) (by omega) (by omega) hj2 hi hfr
        rw [x_exec, t_87_26, p_firstS]
        simp (disch := first | assumption | omega) only [k_add, k_sub, k_mul, k_lt, k_eq, k_lt0, k_0lt, k_eq0, k_nat, k_b0, k_b1, k_z1, k_z0, k_o1, k_o0, Int.reduceEq, Int.reduceLT, Int.reduceLE, Int.reduceAdd, Int.reduceMul, Int.reduceNeg, Bool.false_eq_true, or_true, true_or, or_false, false_or, and_true, true_and, and_false, false_and, not_true_eq_false, not_false_eq_true, ↓reduceIte, z_0, z_k, s_I, s_J, s_uI, s_uJ, z, ↓c_gP_0_7, ↓c_gP_0_6, ↓f_oc fa_48, ↓jc2 qn, ↓c_lt_52, ↓c_la_52]
        by_cases x : p_again A k = -9
        · rw [if_neg (show ¬ decide (p_again A k ≠ -9) = true by rw [decide_eq_true_iff]; exact fun u => u x)]
          obtain ⟨I2, a1, a2, a3⟩ := i2 x
          obtain ⟨j1, j2⟩ := ih (M - k.toNat - 1) (k + 1) I2 (u2 J1 52 k.toNat (lk (p_num (a_gn A) (p_fa A k)))) (by omega) (by omega) (by omega) (fun j b1 b2 => hj2 j b1 (by omega)) a2 a3 hJ2
          refine ⟨fun u => ?_, fun u => ?_⟩
          · obtain ⟨I3, J3, c1, c2⟩ := j1 u
            exact ⟨I3, J3, a1.trans c1, c2⟩
          · obtain ⟨I3, J3, c1, c2⟩ := j2 u
            exact ⟨I3, J3, a1.trans c1, c2⟩
        · rw [if_pos (show decide (p_again A k ≠ -9) = true from decide_eq_true x)]
          exact ⟨fun _ => ⟨I1, _, i1 x, hfr, hJ2⟩, fun u => absurd u (by omega)⟩
    obtain ⟨M, hM, hMM⟩ : ∃ M : Nat, M = 999999 ∧ 300 * 201 + 1 < M := ⟨_, rfl, by omega⟩
    rw [← hM] at e
    obtain ⟨o1, o2⟩ := outer 201 M 0 I0 J (Int.le_refl 0) (by omega) hMM (fun j j1 j2 => absurd j2 (by omega)) s2 s3 (fun _ _ => rfl)
    have er : p_first (fun k => decide (p_again A k ≠ -9)) 201 0 = p_ringN A := rfl
    rw [er] at o1 o2
    have sm : ∀ (I2 : Nat → Nat → Int32) (J2 : Nat → Nat → Int64), fr 48 I I2 → (∀ q, q ≠ 52 → J2 q = J q) → iX I2 J2 A := fun I2 J2 a b => hx.same (fun r hr => a r (by omega)) (b 0 (by decide))
    by_cases x : p_ringN A = -9
    · rw [if_pos x]
      obtain ⟨I2, J2, a1, a2, a3⟩ := o2 x
      exact .of2 (e.trans a1) (sm I2 J2 a2 a3) (fun q hq => a2 q (by omega)) (fun q hq => a3 q (by omega))
    · rw [if_neg x]
      obtain ⟨I2, J2, a1, a2, a3⟩ := o1 x
      generalize p_ringN A = w at a1 ⊢
      generalize p_again A w = w2 at a1 ⊢
      exact .of2 (e.trans a1) ((sm I2 J2 a2 a3).tell (fun q a b => by funext k; rw [u2_r a]) (fun k hk => by rw [u2_k hk]) (u2_ss _ _ _ _)) (fun q hq => by funext k; rw [u2_r (by omega), a2 q (by omega)]) (fun q hq => a3 q (by omega))
end CALLS9
