/-! ===== the model's calls: fewest, ways, dawn, who, breed ===== -/
theorem few_hit {drv : Fl → Int → Option Fl} {m4 : Nat} {want : Fl → Bool} {f : Fl} : ∀ (t r : Nat), (p_few drv m4 want f t r).1 ≠ -9 → 0 < (p_few drv m4 want f t r).2.2.1
  | 0, r, h => by
    unfold p_few at h ⊢
    by_cases y : 0 < (p_all drv m4 want r f).2.1
    · rw [if_pos y]
      exact y
    · rw [if_neg y] at h
      exact absurd rfl h
  | t + 1, r, h => by
    unfold p_few at h ⊢
    by_cases y : 0 < (p_all drv m4 want r f).2.1
    · rw [if_pos y]
      exact y
    · rw [if_neg y] at h ⊢
      exact few_hit t (r + 1) h
theorem red_eq : ∀ (t u l : Nat), 1 ≤ l → Nat.gcd u l ≤ t + 1 → p_red t u l = (((u / Nat.gcd u l : Nat) : Int), ((l / Nat.gcd u l : Nat) : Int))
  | 0, u, l, h1, h2 => by
    have g : 0 < Nat.gcd u l := Nat.gcd_pos_of_pos_right u h1
    have g1 : Nat.gcd u l = 1 := by omega
    rw [g1, Nat.div_one, Nat.div_one]
    rfl
  | t + 1, u, l, h1, h2 => by
    have g : 0 < Nat.gcd u l := Nat.gcd_pos_of_pos_right u h1
    have hu : ((u : Int) / ((t : Int) + 2)) = ((u / (t + 2) : Nat) : Int) := (Int.natCast_ediv u (t + 2)).symm
    have hl : ((l : Int) / ((t : Int) + 2)) = ((l / (t + 2) : Nat) : Int) := (Int.natCast_ediv l (t + 2)).symm
    have cu : ((u : Int) - (u : Int) / ((t : Int) + 2) * ((t : Int) + 2) = 0) ↔ (t + 2) ∣ u := by
      rw [hu]
      constructor
      · intro x
        refine ⟨u / (t + 2), ?_⟩
        have x2 : (u : Int) = ((u / (t + 2) : Nat) : Int) * ((t : Int) + 2) := by omega
        have x3 : (u : Int) = ((u / (t + 2) * (t + 2) : Nat) : Int) := by
          rw [Int.natCast_mul]
          exact x2
        rw [Nat.mul_comm]
        exact Int.ofNat.inj x3
      · intro x
        have x3 := Nat.div_mul_cancel x
        have x4 : ((u / (t + 2) : Nat) : Int) * ((t : Int) + 2) = ((u / (t + 2) * (t + 2) : Nat) : Int) := by rw [Int.natCast_mul]; rfl
        rw [x4, x3]
        omega
    have cl : ((l : Int) - (l : Int) / ((t : Int) + 2) * ((t : Int) + 2) = 0) ↔ (t + 2) ∣ l := by
      rw [hl]
      constructor
      · intro x
        refine ⟨l / (t + 2), ?_⟩
        have x2 : (l : Int) = ((l / (t + 2) : Nat) : Int) * ((t : Int) + 2) := by omega
        have x3 : (l : Int) = ((l / (t + 2) * (t + 2) : Nat) : Int) := by
          rw [Int.natCast_mul]
          exact x2
        rw [Nat.mul_comm]
        exact Int.ofNat.inj x3
      · intro x
        have x3 := Nat.div_mul_cancel x
        have x4 : ((l / (t + 2) : Nat) : Int) * ((t : Int) + 2) = ((l / (t + 2) * (t + 2) : Nat) : Int) := by rw [Int.natCast_mul]; rfl
        rw [x4, x3]
        omega
    unfold p_red
    by_cases x : (t + 2) ∣ u ∧ (t + 2) ∣ l
    · rw [if_pos ⟨cu.mpr x.1, cl.mpr x.2⟩, hu, hl]
      have d1 : (t + 2) ∣ Nat.gcd u l := Nat.dvd_gcd x.1 x.2
      have d2 := Nat.le_of_dvd g d1
      have d3 : Nat.gcd u l = t + 2 := by omega
      have d4 : Nat.gcd (u / (t + 2)) (l / (t + 2)) = 1 := by
        rw [Nat.gcd_div x.1 x.2, d3]
        exact Nat.div_self (by omega)
      have d5 : 1 ≤ l / (t + 2) := Nat.div_pos (Nat.le_of_dvd h1 x.2) (by omega)
      have r := red_eq t (u / (t + 2)) (l / (t + 2)) d5 (by omega)
      rw [d4, Nat.div_one, Nat.div_one] at r
      rw [d3]
      exact r
    · rw [if_neg (fun y => x ⟨cu.mp y.1, cl.mp y.2⟩)]
      have d3 : Nat.gcd u l ≠ t + 2 := fun y => x ⟨y ▸ Nat.gcd_dvd_left u l, y ▸ Nat.gcd_dvd_right u l⟩
      exact red_eq t u l h1 (by omega)
section MCALLS3
variable {L p d : Nat} {I : Nat → Nat → Int32} {J : Nat → Nat → Int64} {A : Ast}
theorem n_frac {u l : Nat} {ans : Int32} (u1 : u ≤ 100000) (l0 : 1 ≤ l) (l1 : l ≤ 100000) : j_run (d + 1) 136 [.ref 87, .long (lk u), .long (lk l), .int ans] (ST L p I J) = some (some (.int ans), ST L p I (u2 (u2 J 87 3 (lk ((u / Nat.gcd u l : Nat) : Int))) 87 4 (lk ((l / Nat.gcd u l : Nat) : Int)))) := by
  have loop : ∀ (M a b : Nat), b < M → a ≤ 100000 → b ≤ 100000 → Nat.gcd a b = Nat.gcd u l → j_exec k_136 h_136 (j_run d) M 6 [some (.ref 87), some (.long (lk u)), none, some (.long (lk l)), none, some (.int ans), some (.long (lk a)), none, some (.long (lk b)), none, none, none] [] (ST L p I J) = some (some (.int ans), ST L p I (u2 (u2 J 87 3 (lk ((u / Nat.gcd u l : Nat) : Int))) 87 4 (lk ((l / Nat.gcd u l : Nat) : Int)))) := by
    intro M
    induction M with
    | zero => exact fun a b h => absurd h (Nat.not_lt_zero b)
    | succ M ih =>
      intro a b hM ha hb hg
      have l64 : Int64.ofNat 0 = lk 0 := rfl
      have g : 0 < Nat.gcd u l := Nat.gcd_pos_of_pos_right u l0
      have cb : (lg_cmp (lk b) (Int64.ofNat 0) = 0) = (b = 0) := by
        rw [lc_eq, l64, l_eq (by omega) (by omega) (by decide) (by decide)]
        exact propext ⟨fun x => by omega, fun x => by omega⟩
      rw [x_exec, t_136_6]
      by_cases z : b = 0
      · have ga : a = Nat.gcd u l := by
          rw [← hg, z, Nat.gcd_zero_right]
        have az : ¬ lk (a : Int) = 0 := by
          show ¬ lk (a : Int) = lk 0
          rw [l_eq (by omega) (by omega) (by decide) (by decide)]
          omega
        have d1 : lk (u : Int) / lk (a : Int) = lk ((u / Nat.gcd u l : Nat) : Int) := by
          rw [l_div (by omega) (by omega) (by omega) (by omega), ga]
          rfl
        have d2 : lk (l : Int) / lk (a : Int) = lk ((l / Nat.gcd u l : Nat) : Int) := by
          rw [l_div (by omega) (by omega) (by omega) (by omega), ga]
          rfl
        have cz := cb.mpr z
        simp (disch := first | assumption | omega) only [k_add, k_sub, k_mul, k_lt, k_eq, k_lt0, k_0lt, k_eq0, k_nat, k_b0, k_b1, k_z1, k_z0, k_o1, k_o0, Int.reduceEq, Int.reduceLT, Int.reduceLE, Int.reduceAdd, Int.reduceMul, Int.reduceNeg, Bool.false_eq_true, or_true, true_or, or_false, false_or, and_true, true_and, and_false, false_and, not_true_eq_false, not_false_eq_true, ↓reduceIte, z_0, z_k, s_I, s_J, s_uI, s_uJ, cz, az, ↓c_oc_87, ↓c_lt_87, d1, d2]
      · have bz : ¬ lk (b : Int) = 0 := by
          show ¬ lk (b : Int) = lk 0
          rw [l_eq (by omega) (by omega) (by decide) (by decide)]
          omega
        have m : lk (a : Int) - lk (a : Int) / lk (b : Int) * lk (b : Int) = lk ((a % b : Nat) : Int) := by
          rw [l_div (by omega) (by omega) (by omega) (by omega), l_mul, l_sub]
          congr 1
          have h := Int.emod_add_mul_ediv (a : Int) (b : Int)
          rw [Int.mul_comm (b : Int)] at h
          rw [Int.natCast_emod]
          omega
        have hlt := Nat.mod_lt a (show b > 0 by omega)
        have ihh := ih b (a % b) (by omega) hb (by omega) (by rw [Nat.gcd_comm, ← Nat.gcd_rec, Nat.gcd_comm]; exact hg)
        simp (disch := first | assumption | omega) only [k_add, k_sub, k_mul, k_lt, k_eq, k_lt0, k_0lt, k_eq0, k_nat, k_b0, k_b1, k_z1, k_z0, k_o1, k_o0, Int.reduceEq, Int.reduceLT, Int.reduceLE, Int.reduceAdd, Int.reduceMul, Int.reduceNeg, Bool.false_eq_true, or_true, true_or, or_false, false_or, and_true, true_and, and_false, false_and, not_true_eq_false, not_false_eq_true, ↓reduceIte, z_0, z_k, s_I, s_J, s_uI, s_uJ, cb, z, bz, m]
        exact ihh
  rw [r_136, t_136_0]
  exact loop 999999 u l (by omega) u1 l1 rfl
theorem n_fewest (hx : iM I J A) : mc L p I J (d + 14) 208 [.ref 87] (p_fewest A) := by
  have hC := hx.1.1
  have ho := hx.1.2.1
  have hm := hx.2.2.2.1
  have hf := hx.2.2.2.2.1
  have n0 := hC.2.2.1
  have n4 := hC.2.2.2.1
  have hw := hm.2.1
  have hN := hm.2.2.1
  have hn := hm.2.2.2.1
  have hk := hm.2.2.2.2.1
  have hg := hm.2.2.2.2.2
  obtain ⟨bN0, bN1, -⟩ := bd_N hC
  have e := (r_208 (d + 13) (ST L p I J) 87).trans (t_208_0 _ _ _ _)
  unfold p_fewest
  by_cases w : a_N A = 0
  · rw [if_pos w]
    rw [w] at hN
    simp (disch := first | assumption | omega) only [k_add, k_sub, k_mul, k_lt, k_eq, k_lt0, k_0lt, k_eq0, k_nat, k_b0, k_b1, k_z1, k_z0, k_o1, k_o0, Int.reduceEq, Int.reduceLT, Int.reduceLE, Int.reduceAdd, Int.reduceMul, Int.reduceNeg, Bool.false_eq_true, or_true, true_or, or_false, false_or, and_true, true_and, and_false, false_and, not_true_eq_false, not_false_eq_true, ↓reduceIte, z_0, z_k, s_I, s_J, s_uI, s_uJ, ↓c_oc_87, hN] at e
    exact .no hx e
  · rw [if_neg w]
    obtain ⟨I1, a1, a2, a3⟩ := n_few (L := L) (p := p) (d := d) (J := J) (row := -1) (want := p_safe (a_gr A) (a_gn A)) (most := 3) (by decide) hm hf ho (by decide) (Or.inl ⟨rfl, rfl⟩)
    have fr := few_rg (drv := p_drive (a_gw A) (a_gh A) (a_gr A) (a_gn A) (a_kd A)) (m4 := (4 * a_gn A).toNat) (want := p_safe (a_gr A) (a_gn A)) (f := a_fl A) 3 0
    have fh := few_hit (drv := p_drive (a_gw A) (a_gh A) (a_gr A) (a_gn A) (a_kd A)) (m4 := (4 * a_gn A).toNat) (want := p_safe (a_gr A) (a_gn A)) (f := a_fl A) 3 0
    show mc L p I J (d + 14) 208 [.ref 87] (if (p_few (p_drive (a_gw A) (a_gh A) (a_gr A) (a_gn A) (a_kd A)) (4 * a_gn A).toNat (p_safe (a_gr A) (a_gn A)) (a_fl A) 3 0).1 = -9 then (-9, A) else ((p_few (p_drive (a_gw A) (a_gh A) (a_gr A) (a_gn A) (a_kd A)) (4 * a_gn A).toNat (p_safe (a_gr A) (a_gn A)) (a_fl A) 3 0).1, A_told A (j_k (p_few (p_drive (a_gw A) (a_gh A) (a_gr A) (a_gn A) (a_kd A)) (4 * a_gn A).toNat (p_safe (a_gr A) (a_gn A)) (a_fl A) 3 0).2.2.2.1)))
    generalize p_few (p_drive (a_gw A) (a_gh A) (a_gr A) (a_gn A) (a_kd A)) (4 * a_gn A).toNat (p_safe (a_gr A) (a_gn A)) (a_fl A) 3 0 = F at *
    have c3 : ((3 : Nat) : Int) = 3 := rfl
    rw [c3] at a1
    by_cases y : F.1 = -9
    · rw [if_pos y]
      rw [y] at a1
      simp (disch := first | assumption | omega) only [k_add, k_sub, k_mul, k_lt, k_eq, k_lt0, k_0lt, k_eq0, k_nat, k_b0, k_b1, k_z1, k_z0, k_o1, k_o0, Int.reduceEq, Int.reduceLT, Int.reduceLE, Int.reduceAdd, Int.reduceMul, Int.reduceNeg, Bool.false_eq_true, or_true, true_or, or_false, false_or, and_true, true_and, and_false, false_and, not_true_eq_false, not_false_eq_true, ↓reduceIte, z_0, z_k, s_I, s_J, s_uI, s_uJ, ↓c_oc_87, hN, w, ↓jc1 a1] at e
      exact .of ⟨_, e, a3.x hx, a3.n⟩
    · rw [if_neg y]
      have h34 := a2.2.2.1 (by have := fh y; omega)
      have t := n_tells (L := L) (p := p) (d := d + 12) (I := I1) (J := J) (v := j_k F.2.2.2.1) (x := j_k F.1)
      simp (disch := first | assumption | omega) only [k_add, k_sub, k_mul, k_lt, k_eq, k_lt0, k_0lt, k_eq0, k_nat, k_b0, k_b1, k_z1, k_z0, k_o1, k_o0, Int.reduceEq, Int.reduceLT, Int.reduceLE, Int.reduceAdd, Int.reduceMul, Int.reduceNeg, Bool.false_eq_true, or_true, true_or, or_false, false_or, and_true, true_and, and_false, false_and, not_true_eq_false, not_false_eq_true, ↓reduceIte, z_0, z_k, s_I, s_J, s_uI, s_uJ, ↓c_oc_87, hN, w, ↓jc1 a1, y, h34, ↓jc1 t] at e
      refine .of ⟨_, e, (a3.x hx).told, fun r a => ?_⟩
      rw [fr_told r a]
      exact a3.n r a
theorem n_ways (hx : iM I J A) {m : Int} (h1 : -2147483648 ≤ m) (h2 : m < 2147483648) : mc L p I J (d + 13) 209 [.ref 87, .int (j_k m)] (p_ways m A) := by
  have hC := hx.1.1
  have ho := hx.1.2.1
  have hm := hx.2.2.2.1
  have hf := hx.2.2.2.2.1
  have n0 := hC.2.2.1
  have n4 := hC.2.2.2.1
  have hw := hm.2.1
  have hN := hm.2.2.1
  have hn := hm.2.2.2.1
  have hk := hm.2.2.2.2.1
  have hg := hm.2.2.2.2.2
  obtain ⟨bN0, bN1, -⟩ := bd_N hC
  have a2 := n_in (L := L) (p := p) (d := d + 11) (I := I) (J := J) (v := m) (lo := 1) (hi := 2) h1 h2 (by decide) (by decide) (by decide) (by decide)
  have e := (r_209 (d + 12) (ST L p I J) 87 (j_k m)).trans (t_209_0 _ _ _ _ _)
  unfold p_ways
  by_cases y : 1 ≤ m ∧ m ≤ 2
  · have z2 : j_z (1 ≤ m ∧ m ≤ 2) = j_k 1 := if_pos y
    rw [z2] at a2
    rw [if_pos y]
    obtain ⟨M, rfl⟩ : ∃ M : Nat, m = M := ⟨m.toNat, by omega⟩
    obtain ⟨I1, a1, a2', a3⟩ := n_layRows (L := L) (p := p) (d := d) (J := J) (row := -1) (want := p_safe (a_gr A) (a_gn A)) (m := M) (by omega) hm hf ho (by decide) (Or.inl ⟨rfl, rfl⟩)
    have ok := all_ok (N := a_N A) (want := p_safe (a_gr A) (a_gn A)) (f := a_fl A) hC (show M ≤ 3 by omega)
    have W : p_waysS (M : Int) A = p_all (p_drive (a_gw A) (a_gh A) (a_gr A) (a_gn A) (a_kd A)) (4 * a_gn A).toNat (p_safe (a_gr A) (a_gn A)) M (a_fl A) := by
      unfold p_waysS
      rw [Int.toNat_natCast]
    rw [W]
    generalize p_all (p_drive (a_gw A) (a_gh A) (a_gr A) (a_gn A) (a_kd A)) (4 * a_gn A).toNat (p_safe (a_gr A) (a_gn A)) M (a_fl A) = F at *
    obtain ⟨g1, g2, g3, g4, g5⟩ := a2'
    obtain ⟨b1, b2, b3, -⟩ := ok
    have hx1 := a3.x hx
    by_cases w : F.1 = 0
    · rw [if_pos w]
      rw [w] at g1
      obtain ⟨I', e1, e2, e3⟩ := n_meets (L := L) (p := p) (d := d + 11) hx1 (q := 4) (by decide) (by decide)
      simp (disch := first | assumption | omega) only [k_add, k_sub, k_mul, k_lt, k_eq, k_lt0, k_0lt, k_eq0, k_nat, k_b0, k_b1, k_z1, k_z0, k_o1, k_o0, Int.reduceEq, Int.reduceLT, Int.reduceLE, Int.reduceAdd, Int.reduceMul, Int.reduceNeg, Bool.false_eq_true, or_true, true_or, or_false, false_or, and_true, true_and, and_false, false_and, not_true_eq_false, not_false_eq_true, ↓reduceIte, z_0, z_k, s_I, s_J, s_uI, s_uJ, ↓jc1 a2, ↓c_oc_87, ↓jc0 a1, g1, ↓jc1 e1] at e
      exact .meets e2 (fun r a => (e3 r a).trans (a3.n r a)) e
    · rw [if_neg w]
      obtain ⟨u, hu⟩ : ∃ u : Nat, F.2.1 = u := ⟨F.2.1.toNat, by omega⟩
      obtain ⟨l, hl⟩ : ∃ l : Nat, F.1 = l := ⟨F.1.toNat, by omega⟩
      rw [hl] at w b2 b3 g1
      rw [hu] at b1 b2 g2
      rw [hu, hl]
      have l0 : 1 ≤ l := by omega
      have FR := n_frac (L := L) (p := p) (d := d + 11) (I := I1) (J := J) (u := u) (l := l) (ans := j_k u) (by omega) l0 (by omega)
      have R := red_eq (l - 1) u l l0 (by have := Nat.le_of_dvd l0 (Nat.gcd_dvd_right u l); omega)
      rw [show ((l : Int) - 1).toNat = l - 1 by omega, R]
      have ku : (j_k (u : Int)).toInt64 = lk u := l_of (by omega) (by omega)
      have kl : (j_k (l : Int)).toInt64 = lk l := l_of (by omega) (by omega)
      have wl : ¬ (l : Int) = 0 := by omega
      simp (disch := first | assumption | omega) only [k_add, k_sub, k_mul, k_lt, k_eq, k_lt0, k_0lt, k_eq0, k_nat, k_b0, k_b1, k_z1, k_z0, k_o1, k_o0, Int.reduceEq, Int.reduceLT, Int.reduceLE, Int.reduceAdd, Int.reduceMul, Int.reduceNeg, Bool.false_eq_true, or_true, true_or, or_false, false_or, and_true, true_and, and_false, false_and, not_true_eq_false, not_false_eq_true, ↓reduceIte, z_0, z_k, s_I, s_J, s_uI, s_uJ, ↓jc1 a2, ↓c_oc_87, ↓jc0 a1, g1, g2, wl, ku, kl, ↓jc1 FR] at e
      have hM := hx1.2.2.2.2.2.2
      refine ⟨I1, _, e, hx1.keep (told := a_told A) (fin := a_fin A) (cnt := a_cnt A) (up := lk ((u / Nat.gcd u l : Nat) : Int)) (low := lk ((l / Nat.gcd u l : Nat) : Int)) .rf ⟨hM.1, ?_, u2_ss _ _ _ _, hM.2.2.2.1, hM.2.2.2.2⟩, a3.n, fun r a => ?_⟩
      · rw [u2_k (by decide), u2_ss]
      · funext k
        rw [u2_r (by omega), u2_r (by omega)]
  · have z2 : j_z (1 ≤ m ∧ m ≤ 2) = j_k 0 := if_neg y
    rw [z2] at a2
    rw [if_neg y]
    simp (disch := first | assumption | omega) only [k_add, k_sub, k_mul, k_lt, k_eq, k_lt0, k_0lt, k_eq0, k_nat, k_b0, k_b1, k_z1, k_z0, k_o1, k_o0, Int.reduceEq, Int.reduceLT, Int.reduceLE, Int.reduceAdd, Int.reduceMul, Int.reduceNeg, Bool.false_eq_true, or_true, true_or, or_false, false_or, and_true, true_and, and_false, false_and, not_true_eq_false, not_false_eq_true, ↓reduceIte, z_0, z_k, s_I, s_J, s_uI, s_uJ, ↓jc1 a2] at e
    exact .no hx e
end MCALLS3
