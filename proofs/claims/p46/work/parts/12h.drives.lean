/-! ===== the law's drives: the first row, gone ===== -/
theorem safe_is {gr f : Fl} {n : Int} (h : p_safe gr n f = true) {k : Int} (k0 : 0 ≤ k) (k1 : k < n) : f (5 + k) ≠ -9 ∧ gr (f (5 + k)) = 3 := by
  have h2 := (of_decide_eq_true h).2
  have h3 := (first_none n.toNat 0 (Int.le_refl 0)).mp h2 k k0 (by omega)
  have h4 := of_decide_eq_false h3
  have h5 := not_or.mp h4
  exact ⟨h5.1, Decidable.byContradiction h5.2⟩
theorem lost_0 {n : Int} {f : Fl} (h : ∀ k, 0 ≤ k → k < n → f (5 + k) ≠ -9) : p_lost n f = 0 := by
  unfold p_lost
  have := loop_inv (b := fun k s => if f (5 + k) = -9 then s + 1 else s) (P := fun _ s => s = (0 : Int)) n.toNat 0 0 rfl (fun j s h1 h2 h3 => by
    show (if f (5 + j) = -9 then s + 1 else s) = 0
    rw [if_neg (h j h1 (by omega))]
    exact h3)
  exact this
theorem stirF_0 {gr f : Fl} {k c : Int} (k0 : 0 ≤ k) : p_stirF gr f k c 0 = f 0 := by
  unfold p_stirF
  rw [bl_0, gt_l k0 (by decide)]
theorem drive_is {w h n : Int} {gr kd f f' : Fl} {a : Int} (hd : p_drive w h gr n kd f a = some f') : ∃ (s : Int) (t q : Nat), p_stir w h gr n kd f (a / 4) (a % 4) = s ∧ s ≠ -9 ∧ p_runs w h gr n kd (p_stirF gr f (a / 4) s) = (p_its w h gr n kd t (p_stirF gr f (a / 4) s), (q : Int), (t : Int)) ∧ 2 ≤ t ∧ t ≤ 40 ∧ f' = p_its w h gr n kd t (p_stirF gr f (a / 4) s) := by
  unfold p_drive at hd
  by_cases z : p_stir w h gr n kd f (a / 4) (a % 4) = -9
  · rw [if_pos z] at hd
    cases hd
  · rw [if_neg z] at hd
    obtain ⟨t, q, e, t2, t40, -⟩ := runs_its (w := w) (h := h) (gr := gr) (n := n) (kd := kd) (f := p_stirF gr f (a / 4) (p_stir w h gr n kd f (a / 4) (a % 4)))
    refine ⟨_, t, q, rfl, z, e, t2, t40, ?_⟩
    rw [e] at hd
    exact (Option.some.inj hd).symm
section DRIVE7
variable {L d : Nat}
/-- a drive, as two calls -/
theorem c_drive {p : Nat} {I : Nat → Nat → Int32} {J : Nat → Nat → Int64} {A : Ast} (hx : iX I J A) (hN : a_N A ≠ 0) {a : Int} (a0 : 0 ≤ a) (a1 : a < 4 * a_gn A) {f' : Fl} (hd : p_drive (a_gw A) (a_gh A) (a_gr A) (a_gn A) (a_kd A) (a_fl A) a = some f') (hs : a_fl A 0 ≤ 9960) : ∃ (s t : Int) (p1 : Nat) (I1 : Nat → Nat → Int32) (J1 : Nat → Nat → Int64) (p2 : Nat) (I2 : Nat → Nat → Int32) (J2 : Nat → Nat → Int64) (x : Int32), 0 ≤ s ∧ s < 30 ∧ 2 ≤ t ∧ t ≤ 40 ∧ j_run (d + 11) 84 [.ref 0, .int (j_k (a / 4)), .int (j_k (a % 4))] (ST L p I J) = some (some (.int (j_k s)), ST L p1 I1 J1) ∧ j_run (d + 11) 86 [.ref 0] (ST L p1 I1 J1) = some (some (.int (j_k t)), ST L p2 I2 J2) ∧ iX I2 J2 (A_told (A_fl A f') x) ∧ frX I I2 J J2 ∧ f' 0 = a_fl A 0 + t ∧ okF (a_N A) (a_gn A) 10040 f' := by
  obtain ⟨s, t, q, e1, s9, e2, t2, t40, e3⟩ := drive_is hd
  have so := stir_ok hx.1.1 hx.1.2.1 (k := a / 4) (way := a % 4) (by omega) (by omega) (by omega) (by omega) (by rw [e1]; exact s9)
  rw [e1] at so
  have hN30 := (bd_N hx.1.1).2.1
  have hok := drive_ok hx.1.1 hx.1.2.1 a0 a1 hd
  obtain ⟨p1, I1, J1, r1, r2, r3⟩ := c_stir (L := L) (p := p) (d := d) hx (k := a / 4) (y := a % 4) (by omega) (by omega) (by omega) (by omega) e1 s9
  have es : p_stirF (a_gr A) (a_fl A) (a / 4) s 0 = a_fl A 0 := stirF_0 (by omega)
  obtain ⟨p2, I2, J2, u1, u2, u3⟩ := c_run (L := L) (p := p1) (d := d) r2 hN (by show p_stirF (a_gr A) (a_fl A) (a / 4) s 0 ≤ 9960; rw [es]; exact hs) e2
  have ez := its_0 hx.1.1 so.2.2 t
  refine ⟨s, t, p1, I1, J1, p2, I2, J2, j_z ((q : Int) = 2), so.1, by omega, by omega, by omega, r1, u1, ?_, r3.tr u3, ?_, hok⟩
  · rw [e3]
    exact u2
  · rw [e3, ez, es]
theorem dr_go {m4 : Nat} {v1 v2 : Int32} {c : Int} : ∀ (r M p : Nat) (code : Int) (I : Nat → Nat → Int32) (J : Nat → Nat → Int64) (A : Ast) (f' : Fl), ((r = 3 ∧ code = 0) ∨ (r = 2 ∧ code < 16) ∨ (r = 1 ∧ code < 256) ∨ (r = 0 ∧ code < 4096)) → 0 ≤ code → m4 = (4 * a_gn A).toNat → 2 * r < M → iX I J A → a_N A ≠ 0 → a_fl A 0 + 40 * r ≤ 9960 → path (p_drive (a_gw A) (a_gh A) (a_gr A) (a_gn A) (a_kd A)) m4 r (a_fl A) code f' c → ∃ (M' p' : Nat) (I' : Nat → Nat → Int32) (J' : Nat → Nat → Int64) (x : Int32), M ≤ M' + 2 * r ∧ j_exec k_135 h_135 (j_run (d + 11)) M 19 [some (.ref 0), some (.int v1), some (.int v2), some (.int (j_k c)), some (.int (j_k (r - 1))), none, none, none, none, none] [] (ST L p I J) = j_exec k_135 h_135 (j_run (d + 11)) M' 19 [some (.ref 0), some (.int v1), some (.int v2), some (.int (j_k c)), some (.int (j_k (-1))), none, none, none, none, none] [] (ST L p' I' J') ∧ iX I' J' (A_told (A_fl A f') x) ∧ frX I I' J J'
  | 0, M, p, code, I, J, A, f', rc, c0, hm, hM, hx, hN, hs, hp => by
    obtain ⟨rfl, -⟩ := hp
    exact ⟨M, p, I, J, a_told A, Nat.le_refl _, rfl, hx, frX.rf⟩
  | r + 1, M, p, code, I, J, A, f', rc, c0, hm, hM, hx, hN, hs, hp => by
    obtain ⟨M, rfl⟩ : ∃ q, M = q + 1 := ⟨M - 1, by omega⟩
    obtain ⟨M, rfl⟩ : ∃ q, M = q + 1 := ⟨M - 1, by omega⟩
    have n4 := hx.1.1.2.2.2.1
    obtain ⟨a, f1, a0, a1, hd, hp2⟩ := hp
    obtain ⟨y, y0, y1, ey⟩ := path_code (by omega) r f1 (16 * code + a) f' c hp2
    have c1 : 0 ≤ c ∧ c < 65536 * 16 := by
      rcases (show r = 0 ∨ r = 1 ∨ r = 2 by omega) with rfl | rfl | rfl <;> omega
    obtain ⟨s, t, p1, I1, J1, p2, I2, J2, x, s0, s30, t2, t40, u1, u2, u3, u4, u5, -⟩ := c_drive (L := L) (d := d) (p := p) hx hN a0 (by omega) hd (by omega)
    obtain ⟨M', p3, I3, J3, x', w1, w2, w3, w4⟩ := dr_go r M p2 (16 * code + a) I2 J2 (A_told (A_fl A f1) x) f' (by omega) (by omega) hm (by omega) u3 hN (by show f1 0 + 40 * (r : Int) ≤ 9960; omega) hp2
    have E : j_exec k_135 h_135 (j_run (d + 11)) (M + 1) 60 [some (.ref 0), some (.int v1), some (.int v2), some (.int (j_k c)), some (.int (j_k (r : Int))), some (.int (j_k a)), none, none, none, none] [] (ST L p I J) = j_exec k_135 h_135 (j_run (d + 11)) M 19 [some (.ref 0), some (.int v1), some (.int v2), some (.int (j_k c)), some (.int (j_k (r - 1))), none, none, none, none, none] [] (ST L p2 I2 J2) := by
      have z1 : ¬ s < 0 := by omega
      have z2 : ¬ t < 2 := by omega
      have em : a - a / 4 * 4 = a % 4 := by omega
      have er : (r : Int) + -1 = r - 1 := by omega
      rw [x_exec, t_135_60]
      simp (disch := first | assumption | omega) only [k_add, k_sub, k_mul, k_lt, k_eq, k_lt0, k_0lt, k_eq0, k_nat, k_b0, k_b1, k_z1, k_z0, k_o1, k_o0, Int.reduceEq, Int.reduceLT, Int.reduceLE, Int.reduceAdd, Int.reduceMul, Int.reduceNeg, Int.reduceToNat, Bool.false_eq_true, or_true, true_or, or_false, false_or, and_true, true_and, and_false, false_and, not_true_eq_false, not_false_eq_true, ↓reduceIte, z_0, z_k, s_I, s_J, s_uI, s_uJ, ↓c_oc_0, k_divp, em, ↓jc1 u1, ↓jc1 u2, z1, z2, er]
    refine ⟨M', p3, I3, J3, x', by omega, ?_, w3, u4.tr w4⟩
    rw [← w2, ← E, x_exec, t_135_19, show ((r + 1 : Nat) : Int) - 1 = (r : Int) by omega]
    have e3 : (r = 0 ∧ c - c / 16 * 16 = a) ∨ (r = 1 ∧ c / 16 - c / 16 / 16 * 16 = a) ∨ (r = 2 ∧ c / 256 = a) := by
      rcases (show r = 0 ∨ r = 1 ∨ r = 2 by omega) with rfl | rfl | rfl
      · exact Or.inl ⟨rfl, by omega⟩
      · exact Or.inr (Or.inl ⟨rfl, by omega⟩)
      · exact Or.inr (Or.inr ⟨rfl, by omega⟩)
    have i3 : (r = 0 ∧ (r : Int) = 0) ∨ (r = 1 ∧ (r : Int) = 1) ∨ (r = 2 ∧ (r : Int) = 2) := by omega
    generalize (r : Int) = i at i3
    rcases e3 with ⟨h, e1⟩ | ⟨h, e1⟩ | ⟨h, e1⟩
    · have hi : i = 0 := by omega
      subst hi
      simp (disch := first | assumption | omega) only [k_add, k_sub, k_mul, k_lt, k_eq, k_lt0, k_0lt, k_eq0, k_nat, k_b0, k_b1, k_z1, k_z0, k_o1, k_o0, Int.reduceEq, Int.reduceLT, Int.reduceLE, Int.reduceAdd, Int.reduceMul, Int.reduceNeg, Int.reduceToNat, Bool.false_eq_true, or_true, true_or, or_false, false_or, and_true, true_and, and_false, false_and, not_true_eq_false, not_false_eq_true, ↓reduceIte, z_0, z_k, s_I, s_J, s_uI, s_uJ, k_divp, e1]
    · have hi : i = 1 := by omega
      subst hi
      simp (disch := first | assumption | omega) only [k_add, k_sub, k_mul, k_lt, k_eq, k_lt0, k_0lt, k_eq0, k_nat, k_b0, k_b1, k_z1, k_z0, k_o1, k_o0, Int.reduceEq, Int.reduceLT, Int.reduceLE, Int.reduceAdd, Int.reduceMul, Int.reduceNeg, Int.reduceToNat, Bool.false_eq_true, or_true, true_or, or_false, false_or, and_true, true_and, and_false, false_and, not_true_eq_false, not_false_eq_true, ↓reduceIte, z_0, z_k, s_I, s_J, s_uI, s_uJ, k_divp, e1]
    · have hi : i = 2 := by omega
      subst hi
      simp (disch := first | assumption | omega) only [k_add, k_sub, k_mul, k_lt, k_eq, k_lt0, k_0lt, k_eq0, k_nat, k_b0, k_b1, k_z1, k_z0, k_o1, k_o0, Int.reduceEq, Int.reduceLT, Int.reduceLE, Int.reduceAdd, Int.reduceMul, Int.reduceNeg, Int.reduceToNat, Bool.false_eq_true, or_true, true_or, or_false, false_or, and_true, true_and, and_false, false_and, not_true_eq_false, not_false_eq_true, ↓reduceIte, z_0, z_k, s_I, s_J, s_uI, s_uJ, k_divp, e1]
end DRIVE7
