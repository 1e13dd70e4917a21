/-! ===== the model's calls: wolf ===== -/
section GONE
variable {w h n : Int} {gr kd f f' : Fl}
/-- who is lost stays lost -/
def gn (n : Int) (f f' : Fl) : Prop := ∀ i : Int, 0 ≤ i → i < n → f (5 + i) = -9 → f' (5 + i) = -9
theorem gn.tr {f'' : Fl} (h1 : gn n f f') (h2 : gn n f' f'') : gn n f f'' := fun i a b c => h2 i a b (h1 i a b c)
theorem gn_goTo {k c : Int} (n4 : n ≤ 4) (k1 : 0 ≤ k) (hl : f (5 + k) ≠ -9) : gn n f (p_goTo gr f k c) := fun i i1 i2 e => by
  rw [gt_c k1 i1 (by omega)]
  by_cases z : i = k
  · subst z
    exact absurd e hl
  · rw [if_neg z]
    exact e
theorem gn_bl {k c : Int} : gn n f (p_bl f k c) := fun i i1 i2 e => by
  rw [bl_hi (by omega)]
  exact e
theorem gn_step (n0 : 0 ≤ n) (n4 : n ≤ 4) : gn n f (p_stepF w h gr n kd f) := by
  have L : ∀ (m : Nat) (k : Int) (s : Ss), 0 ≤ k → gn n f s.1 → gn n f (p_loop (p_stepB w h gr n kd f) m k s).1 := by
    intro m
    induction m with
    | zero => exact fun k s _ g => g
    | succ m ih =>
      intro k s k1 g
      rw [p_loopS]
      refine ih (k + 1) _ (by omega) ?_
      unfold p_stepB
      split
      · exact g
      · rename_i q1
        split
        · exact g
        · exact g.tr (gn_goTo n4 k1 (fun u => q1 (Or.inr (Or.inl u))))
  have l := L n.toNat 0 (f, 0, -9, -9, false) (Int.le_refl 0) (fun i _ _ e => e)
  intro i i1 i2 e
  have g := l i i1 i2 e
  unfold p_stepF p_stepE
  split
  · rw [set0_hi (by omega)]
    exact g
  · rw [bl_hi (by omega), set0_hi (by omega)]
    exact g
theorem gn_run (n0 : 0 ≤ n) (n4 : n ≤ 4) : ∀ (m : Nat) (st sp : Int) (f : Fl), gn n f (p_run w h gr n kd m st sp f).1
  | 0, st, sp, f => fun i _ _ e => e
  | m + 1, st, sp, f => by
    unfold p_run
    split
    · exact (gn_step n0 n4).tr (gn_run n0 n4 m _ _ _)
    · exact fun i _ _ e => e
theorem gn_drive {c : Int} (n0 : 0 ≤ n) (n4 : n ≤ 4) (c1 : 0 ≤ c) (hd : p_drive w h gr n kd f c = some f') : gn n f f' := by
  unfold p_drive at hd
  split at hd
  · cases hd
  · rename_i hz
    cases hd
    have hl : f (5 + c / 4) ≠ -9 := fun u => hz (if_pos u)
    exact ((gn_goTo n4 (by omega) hl).tr gn_bl).tr (gn_run n0 n4 _ _ _ _)
theorem lost_mono (g : gn n f f') : p_lost n f ≤ p_lost n f' := by
  have l : ∀ (m : Nat) (k s s' : Int), 0 ≤ k → k + m ≤ n ∨ m = 0 → s ≤ s' → p_loop (fun k s => if f (5 + k) = -9 then s + 1 else s) m k s ≤ p_loop (fun k s => if f' (5 + k) = -9 then s + 1 else s) m k s' := by
    intro m
    induction m with
    | zero => exact fun k s s' _ _ e => e
    | succ m ih =>
      intro k s s' k1 k2 e
      rw [p_loopS, p_loopS]
      refine ih (k + 1) _ _ (by omega) (by omega) ?_
      by_cases z : f (5 + k) = -9
      · rw [if_pos z, if_pos (g k k1 (by omega) z)]
        omega
      · rw [if_neg z]
        split <;> omega
  exact l n.toNat 0 0 0 (Int.le_refl 0) (by omega) (Int.le_refl 0)
end GONE
theorem first_nine {P : Int → Bool} : ∀ (m : Nat) (k : Int), -8 ≤ k → (p_first P m k = -9 ↔ ∀ j, k ≤ j → j < k + m → P j = false)
  | 0, k, hk => ⟨fun _ j h1 h2 => absurd h2 (by omega), fun _ => rfl⟩
  | m + 1, k, hk => by
    rw [p_firstS]
    by_cases z : P k = true
    · rw [if_pos z]
      exact ⟨fun u => absurd u (by omega), fun u => by have := u k (Int.le_refl k) (by omega); rw [z] at this; exact absurd this (by decide)⟩
    · rw [if_neg z, first_nine m (k + 1) (by omega)]
      constructor
      · intro u j h1 h2
        by_cases y : j = k
        · subst y
          exact Bool.eq_false_iff.mpr z
        · exact u j (by omega) (by omega)
      · intro u j h1 h2
        exact u j (by omega) (by omega)
/-- a way as the model counts it: 4 stays -/
def p_W (y : Int) : Int := if y = 4 then -1 else y
/-- nothing of what the wolf can do harms, way by way -/
def p_sf (g : Int → Bool) : Nat → Int → Bool → Bool
  | 0, _, b => b
  | t + 1, y, b => p_sf g t (y + 1) (b && !g (p_W y))
theorem sf_iff {g : Int → Bool} : ∀ (t : Nat) (y : Int) (b : Bool), 0 ≤ y → y + t = 5 → (p_sf g t y b = true ↔ b = true ∧ ∀ y', y ≤ y' → y' < 5 → g (p_W y') = false)
  | 0, y, b, y1, y2 => ⟨fun u => ⟨u, fun y' a1 a2 => absurd a2 (by omega)⟩, fun u => u.1⟩
  | t + 1, y, b, y1, y2 => by
    unfold p_sf
    rw [sf_iff t (y + 1) _ (by omega) (by omega), Bool.and_eq_true, Bool.not_eq_true']
    constructor
    · rintro ⟨⟨u1, u2⟩, u3⟩
      refine ⟨u1, fun y' a1 a2 => ?_⟩
      by_cases z : y' = y
      · subst z
        exact u2
      · exact u3 y' (by omega) a2
    · rintro ⟨u1, u2⟩
      exact ⟨⟨u1, u2 y (Int.le_refl _) (by omega)⟩, fun y' a1 a2 => u2 y' (by omega) a2⟩
theorem sf_first {g : Int → Bool} : p_sf g 5 0 true = decide (p_first g 5 (-1) = -9) := by
  rw [Bool.eq_iff_iff, decide_eq_true_iff, sf_iff 5 0 true (Int.le_refl 0) (by decide), first_nine 5 (-1) (by decide)]
  constructor
  · rintro ⟨-, u⟩ j h1 h2
    by_cases z : j = -1
    · have := u 4 (by decide) (by decide)
      rw [z]
      exact this
    · have := u j (by omega) (by omega)
      unfold p_W at this
      rw [if_neg (by omega)] at this
      exact this
  · intro u
    refine ⟨rfl, fun y a1 a2 => ?_⟩
    unfold p_W
    split
    · exact u (-1) (by decide) (by decide)
    · exact u y (by omega) (by omega)
/-- whether a drive keeps all for one more turn -/
def p_Q (drv : Fl → Int → Option Fl) (m4 : Nat) (w h : Int) (gr : Fl) (n l0 : Int) (t : Nat) (f : Fl) (c code : Int) : Bool := match p_opt drv f code with
  | none => false
  | some f' => decide (p_lost n f' ≤ l0) && decide (p_first (p_harm w h gr n (p_hold drv m4 w h gr n l0 t) f' c) 5 (-1) = -9)
theorem hold_S {drv : Fl → Int → Option Fl} {m4 : Nat} {w h : Int} {gr : Fl} {n l0 : Int} {t : Nat} {f : Fl} {c : Int} : p_hold drv m4 w h gr n l0 (t + 1) f c = p_first (p_Q drv m4 w h gr n l0 t f c) (m4 + 1) (-1) := rfl
theorem Q_of {drv : Fl → Int → Option Fl} {m4 : Nat} {w h : Int} {gr : Fl} {n l0 : Int} {t : Nat} {f f' : Fl} {c code : Int} (ho : p_opt drv f code = some f') : p_Q drv m4 w h gr n l0 t f c code = (decide (p_lost n f' ≤ l0) && p_sf (p_harm w h gr n (p_hold drv m4 w h gr n l0 t) f' c) 5 0 true) := by
  unfold p_Q
  rw [ho, sf_first]
theorem Q_no {drv : Fl → Int → Option Fl} {m4 : Nat} {w h : Int} {gr : Fl} {n l0 : Int} {t : Nat} {f : Fl} {c code : Int} (ho : p_opt drv f code = none) : p_Q drv m4 w h gr n l0 t f c code = false := by
  unfold p_Q
  rw [ho]
section MWOLF
variable {L p d : Nat} {I : Nat → Nat → Int32} {J : Nat → Nat → Int64} {n w h N b : Int} {f kd gr : Fl} {q : Int}
theorem n_wto (hm : iMg I w h N n gr kd) {c y : Int} (c1 : 0 ≤ c) (c2 : c < N) (y1 : 0 ≤ y) (y2 : y < 5) : j_run (d + 3) 220 [.ref 87, .int (j_k c), .int (j_k y)] (ST L p I J) = some (some (.int (j_k (p_wto w h gr c (p_W y)))), ST L p I J) := by
  obtain ⟨bN0, bN1, -⟩ := bd_N hm.1
  obtain ⟨M, hM⟩ : ∃ M, M + 1 = 999999 := ⟨999998, rfl⟩
  have e := (r_220 (d + 2) (ST L p I J) 87 (j_k c) (j_k y)).trans (t_220_0 _ _ _ _ _ _)
  rw [← hM] at e
  by_cases y4 : y = 4
  · subst y4
    have W : p_wto w h gr c (p_W 4) = c := rfl
    have c9 : ¬ c = -9 := by omega
    rw [W, e]
    simp (disch := first | assumption | omega) only [k_add, k_sub, k_mul, k_lt, k_eq, k_lt0, k_0lt, k_eq0, k_nat, k_b0, k_b1, k_z1, k_z0, k_o1, k_o0, Int.reduceEq, Int.reduceLT, Int.reduceLE, Int.reduceAdd, Int.reduceMul, Int.reduceNeg, Bool.false_eq_true, or_true, true_or, or_false, false_or, and_true, true_and, and_false, false_and, not_true_eq_false, not_false_eq_true, ↓reduceIte, z_0, z_k, s_I, s_J, s_uI, s_uJ, ]
    rw [x_exec, t_220_52]
    simp (disch := first | assumption | omega) only [k_add, k_sub, k_mul, k_lt, k_eq, k_lt0, k_0lt, k_eq0, k_nat, k_b0, k_b1, k_z1, k_z0, k_o1, k_o0, Int.reduceEq, Int.reduceLT, Int.reduceLE, Int.reduceAdd, Int.reduceMul, Int.reduceNeg, Bool.false_eq_true, or_true, true_or, or_false, false_or, and_true, true_and, and_false, false_and, not_true_eq_false, not_false_eq_true, ↓reduceIte, z_0, z_k, s_I, s_J, s_uI, s_uJ, c9]
  · have W : p_W y = y := if_neg y4
    have r := by_ok hm.1 c1 c2 y1 (show y < 4 by omega)
    have B := n_by (L := L) (p := p) (d := d) (I := I) (J := J) (c := c) (dx := p_dx y) (dy := p_dy y) hm.2.1 hm.2.2.1 hm.1 c1 c2 (by rcases (show y = 0 ∨ y = 1 ∨ y = 2 ∨ y = 3 by omega) with rfl | rfl | rfl | rfl <;> decide) (by rcases (show y = 0 ∨ y = 1 ∨ y = 2 ∨ y = 3 by omega) with rfl | rfl | rfl | rfl <;> decide) (by rcases (show y = 0 ∨ y = 1 ∨ y = 2 ∨ y = 3 by omega) with rfl | rfl | rfl | rfl <;> decide) (by rcases (show y = 0 ∨ y = 1 ∨ y = 2 ∨ y = 3 by omega) with rfl | rfl | rfl | rfl <;> decide)
    have step : j_run (d + 3) 220 [.ref 87, .int (j_k c), .int (j_k y)] (ST L p I J) = j_exec k_220 h_220 (j_run (d + 2)) (M + 1) 52 [some (.ref 87), some (.int (j_k c)), some (.int (j_k y)), some (.int (j_k (p_by w h c (p_dx y) (p_dy y))))] [] (ST L p I J) := by
      rw [e]
      generalize p_by w h c (p_dx y) (p_dy y) = o at B
      obtain ⟨X0, X1, X2, X3, Y0, Y1, Y2, Y3⟩ := dxs
      rcases (show y = 0 ∨ y = 1 ∨ y = 2 ∨ y = 3 by omega) with rfl | rfl | rfl | rfl <;> (simp only [X0, X1, X2, X3, Y0, Y1, Y2, Y3] at B) <;> (simp (disch := first | assumption | omega) only [k_add, k_sub, k_mul, k_lt, k_eq, k_lt0, k_0lt, k_eq0, k_nat, k_b0, k_b1, k_z1, k_z0, k_o1, k_o0, Int.reduceEq, Int.reduceLT, Int.reduceLE, Int.reduceAdd, Int.reduceMul, Int.reduceNeg, Bool.false_eq_true, or_true, true_or, or_false, false_or, and_true, true_and, and_false, false_and, not_true_eq_false, not_false_eq_true, ↓reduceIte, z_0, z_k, s_I, s_J, s_uI, s_uJ, ↓c_oc_87, ↓jc1 B])
    have V : p_wto w h gr c (p_W y) = if p_by w h c (p_dx y) (p_dy y) = -9 ∨ gr (p_by w h c (p_dx y) (p_dy y)) = 1 ∨ gr (p_by w h c (p_dx y) (p_dy y)) = 2 then -9 else p_by w h c (p_dx y) (p_dy y) := by
      rw [W]
      exact if_neg (by omega)
    rw [step, V, x_exec, t_220_52]
    generalize p_by w h c (p_dx y) (p_dy y) = o at r
    by_cases x : o = -9
    · rw [if_pos (show o = -9 ∨ gr o = 1 ∨ gr o = 2 from Or.inl x), x]
      simp (disch := first | assumption | omega) only [k_add, k_sub, k_mul, k_lt, k_eq, k_lt0, k_0lt, k_eq0, k_nat, k_b0, k_b1, k_z1, k_z0, k_o1, k_o0, Int.reduceEq, Int.reduceLT, Int.reduceLE, Int.reduceAdd, Int.reduceMul, Int.reduceNeg, Bool.false_eq_true, or_true, true_or, or_false, false_or, and_true, true_and, and_false, false_and, not_true_eq_false, not_false_eq_true, ↓reduceIte, z_0, z_k, s_I, s_J, s_uI, s_uJ, ]
    · obtain ⟨o1, o2⟩ := r.resolve_left x
      have o3 : o < 30 := by omega
      have gv := hm.2.2.2.2.2 o o1 o2
      have gb := hm.1.2.2.2.2.1 o o1 o2
      by_cases g1 : gr o = 1
      · rw [if_pos (show o = -9 ∨ gr o = 1 ∨ gr o = 2 from Or.inr (Or.inl g1))]
        simp (disch := first | assumption | omega) only [k_add, k_sub, k_mul, k_lt, k_eq, k_lt0, k_0lt, k_eq0, k_nat, k_b0, k_b1, k_z1, k_z0, k_o1, k_o0, Int.reduceEq, Int.reduceLT, Int.reduceLE, Int.reduceAdd, Int.reduceMul, Int.reduceNeg, Bool.false_eq_true, or_true, true_or, or_false, false_or, and_true, true_and, and_false, false_and, not_true_eq_false, not_false_eq_true, ↓reduceIte, z_0, z_k, s_I, s_J, s_uI, s_uJ, x, y4, ↓c_gP_87_12, ↓c_ia_94, gv, g1]
      · by_cases g2 : gr o = 2
        · rw [if_pos (show o = -9 ∨ gr o = 1 ∨ gr o = 2 from Or.inr (Or.inr g2))]
          simp (disch := first | assumption | omega) only [k_add, k_sub, k_mul, k_lt, k_eq, k_lt0, k_0lt, k_eq0, k_nat, k_b0, k_b1, k_z1, k_z0, k_o1, k_o0, Int.reduceEq, Int.reduceLT, Int.reduceLE, Int.reduceAdd, Int.reduceMul, Int.reduceNeg, Bool.false_eq_true, or_true, true_or, or_false, false_or, and_true, true_and, and_false, false_and, not_true_eq_false, not_false_eq_true, ↓reduceIte, z_0, z_k, s_I, s_J, s_uI, s_uJ, x, y4, ↓c_gP_87_12, ↓c_ia_94, gv, g1, g2]
        · rw [if_neg (show ¬ (o = -9 ∨ gr o = 1 ∨ gr o = 2) from fun u => u.elim x (fun u => u.elim g1 g2))]
          simp (disch := first | assumption | omega) only [k_add, k_sub, k_mul, k_lt, k_eq, k_lt0, k_0lt, k_eq0, k_nat, k_b0, k_b1, k_z1, k_z0, k_o1, k_o0, Int.reduceEq, Int.reduceLT, Int.reduceLE, Int.reduceAdd, Int.reduceMul, Int.reduceNeg, Bool.false_eq_true, or_true, true_or, or_false, false_or, and_true, true_and, and_false, false_and, not_true_eq_false, not_false_eq_true, ↓reduceIte, z_0, z_k, s_I, s_J, s_uI, s_uJ, x, y4, ↓c_gP_87_12, ↓c_ia_94, gv, g1, g2]
theorem wto_rg' (hC : okC w h N n gr kd) {c y : Int} (c1 : 0 ≤ c) (c2 : c < N) (y1 : 0 ≤ y) (y2 : y < 5) : p_wto w h gr c (p_W y) = -9 ∨ (0 ≤ p_wto w h gr c (p_W y) ∧ p_wto w h gr c (p_W y) < N) := by
  refine wto_rg hC c1 c2 ?_
  unfold p_W
  split <;> omega
theorem n_copied (q1 : 0 ≤ q) (q2 : q < 8) (n4 : n ≤ 4) (hf : iM1 I q n f) : ∃ I', j_run (d + 2) 164 [.ref 87, .int (j_k q), .int (j_k (q + 1))] (ST L p I J) = some (none, ST L p I' J) ∧ iM1 I' (q + 1) n f ∧ frT 30 (q + 1) I I' := by
  obtain ⟨I1, c1, c2, c3⟩ := n_copy (L := L) (p := p) (d := d) (I := I) (J := J) (k := q) (l := q + 1) q1 (by omega) (by omega) (by omega) (by omega)
  exact ⟨I1, c1, ⟨fun j j1 j2 => by rw [c2 j j1 (by omega)]; exact hf.1 j j1 j2, fun j j1 j2 => by rw [c2 _ (by omega) (by omega)]; exact hf.2.1 j j1 j2, fun j j1 j2 => by rw [c2 _ (by omega) (by omega)]; exact hf.2.2 j j1 j2⟩, c3.t (Int.le_refl _)⟩
/-- the last turn's loop over the ways -/
theorem n_klL {code : Int32} {f' : Fl} {hold : Fl → Int → Int} (hh : ∀ f c, hold f c ≠ -9) (q1 : 0 ≤ q) (q2 : q < 8) (hm : iMg I w h N n gr kd) (hf : iM1 I (q + 1) n f') (ho : okF N n b f') {c : Int} (c1 : 0 ≤ c) (c2 : c < N) : ∀ (t M : Nat) (y : Int) (s : Bool), 0 ≤ y → y + t = 5 → t < M → j_exec k_223 h_223 (j_run (d + 8)) M 48 [some (.ref 87), some (.int (j_k q)), some (.int code), some (.int (j_k c)), some (.int (j_z (s = true))), some (.int (j_k y)), none] [] (ST L p I J) = some (some (.int (j_z (p_sf (p_harm w h gr n hold f' c) t y s = true))), ST L p I J) := by
  have hC := hm.1
  have hn := hm.2.2.2.1
  have n0 := hC.2.2.1
  have n4 := hC.2.2.2.1
  obtain ⟨bN0, bN1, -⟩ := bd_N hC
  intro t
  induction t with
  | zero =>
    intro M y s y1 y2 hM
    obtain ⟨M, rfl⟩ : ∃ q, M = q + 1 := ⟨M - 1, by omega⟩
    have z : ¬ y < 5 := by omega
    rw [x_exec, t_223_48]
    simp (disch := first | assumption | omega) only [k_add, k_sub, k_mul, k_lt, k_eq, k_lt0, k_0lt, k_eq0, k_nat, k_b0, k_b1, k_z1, k_z0, k_o1, k_o0, Int.reduceEq, Int.reduceLT, Int.reduceLE, Int.reduceAdd, Int.reduceMul, Int.reduceNeg, Bool.false_eq_true, or_true, true_or, or_false, false_or, and_true, true_and, and_false, false_and, not_true_eq_false, not_false_eq_true, ↓reduceIte, z_0, z_k, s_I, s_J, s_uI, s_uJ, z, z_or]
    rfl
  | succ t ih =>
    intro M y s y1 y2 hM
    obtain ⟨M, rfl⟩ : ∃ q, M = q + 1 := ⟨M - 1, by omega⟩
    have z : y < 5 := by omega
    have W := n_wto (L := L) (p := p) (d := d + 5) (J := J) hm c1 c2 y1 z
    have wr := wto_rg' hC c1 c2 y1 z
    have ih' := ih M (y + 1) (s && !p_harm w h gr n hold f' c (p_W y)) (by omega) (by omega) (by omega)
    have U : p_sf (p_harm w h gr n hold f' c) (t + 1) y s = p_sf (p_harm w h gr n hold f' c) t (y + 1) (s && !p_harm w h gr n hold f' c (p_W y)) := rfl
    rw [U, ← ih', x_exec, t_223_48]
    clear ih' U ih
    cases s
    · rw [z_f, Bool.false_and, z_f]
      simp (disch := first | assumption | omega) only [k_add, k_sub, k_mul, k_lt, k_eq, k_lt0, k_0lt, k_eq0, k_nat, k_b0, k_b1, k_z1, k_z0, k_o1, k_o0, Int.reduceEq, Int.reduceLT, Int.reduceLE, Int.reduceAdd, Int.reduceMul, Int.reduceNeg, Bool.false_eq_true, or_true, true_or, or_false, false_or, and_true, true_and, and_false, false_and, not_true_eq_false, not_false_eq_true, ↓reduceIte, z_0, z_k, s_I, s_J, s_uI, s_uJ, z, ↓c_oc_87, ↓jc1 W]
    · rw [z_t, Bool.true_and]
      by_cases x : p_wto w h gr c (p_W y) = -9
      · have g : p_harm w h gr n hold f' c (p_W y) = false := decide_eq_false (fun u => u.1 x)
        rw [g, Bool.not_false, z_t]
        rw [x] at W
        simp (disch := first | assumption | omega) only [k_add, k_sub, k_mul, k_lt, k_eq, k_lt0, k_0lt, k_eq0, k_nat, k_b0, k_b1, k_z1, k_z0, k_o1, k_o0, Int.reduceEq, Int.reduceLT, Int.reduceLE, Int.reduceAdd, Int.reduceMul, Int.reduceNeg, Bool.false_eq_true, or_true, true_or, or_false, false_or, and_true, true_and, and_false, false_and, not_true_eq_false, not_false_eq_true, ↓reduceIte, z_0, z_k, s_I, s_J, s_uI, s_uJ, z, ↓c_oc_87, ↓jc1 W]
      · have xr := wr.resolve_left x
        have O := n_who (L := L) (p := p) (d := d + 6) (J := J) (k := q + 1) (c := p_wto w h gr c (p_W y)) (but := -9) (by omega) (by omega) hn n0 n4 hf ho bN1 (by omega) (by omega) (by decide) (by decide)
        have pr := first_rg (P := fun k => decide (k ≠ -9 ∧ f' (5 + k) = p_wto w h gr c (p_W y))) n.toNat 0
        have pr' : p_who n f' (p_wto w h gr c (p_W y)) (-9) = -9 ∨ (0 ≤ p_who n f' (p_wto w h gr c (p_W y)) (-9) ∧ p_who n f' (p_wto w h gr c (p_W y)) (-9) < 0 + (n.toNat : Int)) := pr
        have xr1 := xr.1
        have xr2 := xr.2
        by_cases v : p_who n f' (p_wto w h gr c (p_W y)) (-9) = -9
        · have g : p_harm w h gr n hold f' c (p_W y) = false := decide_eq_false (fun u => u.2.elim (fun t => t v) (fun t => hh _ _ t))
          rw [g, Bool.not_false, z_t]
          rw [v] at O
          simp (disch := first | assumption | omega) only [k_add, k_sub, k_mul, k_lt, k_eq, k_lt0, k_0lt, k_eq0, k_nat, k_b0, k_b1, k_z1, k_z0, k_o1, k_o0, Int.reduceEq, Int.reduceLT, Int.reduceLE, Int.reduceAdd, Int.reduceMul, Int.reduceNeg, Bool.false_eq_true, or_true, true_or, or_false, false_or, and_true, true_and, and_false, false_and, not_true_eq_false, not_false_eq_true, ↓reduceIte, z_0, z_k, s_I, s_J, s_uI, s_uJ, z, ↓c_oc_87, ↓jc1 W, x, ↓jc1 O]
        · have g : p_harm w h gr n hold f' c (p_W y) = true := decide_eq_true ⟨x, Or.inl v⟩
          rw [g, Bool.not_true, z_f]
          simp (disch := first | assumption | omega) only [k_add, k_sub, k_mul, k_lt, k_eq, k_lt0, k_0lt, k_eq0, k_nat, k_b0, k_b1, k_z1, k_z0, k_o1, k_o0, Int.reduceEq, Int.reduceLT, Int.reduceLE, Int.reduceAdd, Int.reduceMul, Int.reduceNeg, Bool.false_eq_true, or_true, true_or, or_false, false_or, and_true, true_and, and_false, false_and, not_true_eq_false, not_false_eq_true, ↓reduceIte, z_0, z_k, s_I, s_J, s_uI, s_uJ, z, ↓c_oc_87, ↓jc1 W, x, ↓jc1 O, v]
theorem n_keepsLast {code c : Int} (q1 : 0 ≤ q) (q2 : q < 8) (hm : iMg I w h N n gr kd) (hf : iM1 I q n f) (ho : okF N n b f) (hb : b ≤ 800000) (c1 : 0 ≤ c) (c2 : c < N) (k1 : -1 ≤ code) (k2 : code < 4 * n) : ∃ I', j_run (d + 9) 223 [.ref 87, .int (j_k q), .int (j_k (if code < 0 then -9 else code)), .int (j_k c)] (ST L p I J) = some (some (.int (j_z (p_Q (p_drive w h gr n kd) (4 * n).toNat w h gr n (p_lost n f) 0 f c code = true))), ST L p I' J) ∧ frT 30 (q + 1) I I' := by
  have hC := hm.1
  have hn := hm.2.2.2.1
  have n0 := hC.2.2.1
  have n4 := hC.2.2.2.1
  obtain ⟨bN0, bN1, -⟩ := bd_N hC
  obtain ⟨I1, a1, a2, a3⟩ := n_copied (L := L) (p := p) (d := d + 6) (J := J) q1 q2 n4 hf
  have lr := lost_rg (n := n) (f := f) n0
  have hh : ∀ f c, p_hold (p_drive w h gr n kd) (4 * n).toNat w h gr n (p_lost n f) 0 f c ≠ -9 := fun _ _ => by show (-1 : Int) ≠ -9; decide
  have hh' : ∀ l0 f c, p_hold (p_drive w h gr n kd) (4 * n).toNat w h gr n l0 0 f c ≠ -9 := fun _ _ _ => by show (-1 : Int) ≠ -9; decide
  have e := (r_223 (d + 8) (ST L p I J) 87 (j_k q) (j_k (if code < 0 then -9 else code)) (j_k c)).trans (t_223_0 _ _ _ _ _ _ _)
  rw [c_oc_87, k_add, jc0 a1] at e
  by_cases z : code < 0
  · rw [if_pos z] at e ⊢
    have O : p_opt (p_drive w h gr n kd) f code = some f := if_pos z
    have l1 := n_lost (L := L) (p := p) (d := d + 5) (I := I1) (J := J) (k := q + 1) (by omega) (by omega) (a3.m hm).2.2.2.1 n0 n4 a2 ho bN1
    have l0 := n_lost (L := L) (p := p) (d := d + 5) (I := I1) (J := J) (k := q) (by omega) (by omega) (a3.m hm).2.2.2.1 n0 n4 (a3.f n4 q1 (by omega) hf) ho bN1
    have zz : ¬ p_lost n f < p_lost n f := by omega
    refine ⟨I1, ?_, a3⟩
    rw [Q_of O, decide_eq_true (Int.le_refl _), Bool.true_and, e]
    have lp := n_klL (L := L) (p := p) (d := d) (J := J) (code := j_k (-9)) (hold := p_hold (p_drive w h gr n kd) (4 * n).toNat w h gr n (p_lost n f) 0) (hh' _) q1 q2 (a3.m hm) a2 ho c1 c2 5 999999 0 true (Int.le_refl 0) (by decide) (by decide)
    rw [z_t] at lp
    simp (disch := first | assumption | omega) only [k_add, k_sub, k_mul, k_lt, k_eq, k_lt0, k_0lt, k_eq0, k_nat, k_b0, k_b1, k_z1, k_z0, k_o1, k_o0, Int.reduceEq, Int.reduceLT, Int.reduceLE, Int.reduceAdd, Int.reduceMul, Int.reduceNeg, Bool.false_eq_true, or_true, true_or, or_false, false_or, and_true, true_and, and_false, false_and, not_true_eq_false, not_false_eq_true, ↓reduceIte, z_0, z_k, s_I, s_J, s_uI, s_uJ, ↓c_oc_87, ↓jc1 l1, ↓jc1 l0, zz]
    exact lp
  · rw [if_neg z] at e ⊢
    have zc : ¬ code = -9 := by omega
    have O : p_opt (p_drive w h gr n kd) f code = p_drive w h gr n kd f code := if_neg z
    obtain ⟨I2, d1, d2, d3⟩ := n_drives (L := L) (p := p) (d := d) (J := J) (q := q + 1) (c := code) (by omega) (by omega) (a3.m hm) a2 ho (by omega) (by omega) k2
    have fr2 : frT 30 (q + 1) I I2 := a3.tr (d3.t (Int.le_refl _))
    refine ⟨I2, ?_, fr2⟩
    rw [e]
    cases hd : p_drive w h gr n kd f code with
    | none =>
      rw [hd] at d1
      have d1' : j_run (d + 8) 189 [.ref 87, .int (j_k (q + 1)), .int (j_k code)] (ST L p I1 J) = some (some (.int (j_k 0)), ST L p I2 J) := d1
      rw [Q_no (O.trans hd), z_f]
      simp (disch := first | assumption | omega) only [k_add, k_sub, k_mul, k_lt, k_eq, k_lt0, k_0lt, k_eq0, k_nat, k_b0, k_b1, k_z1, k_z0, k_o1, k_o0, Int.reduceEq, Int.reduceLT, Int.reduceLE, Int.reduceAdd, Int.reduceMul, Int.reduceNeg, Bool.false_eq_true, or_true, true_or, or_false, false_or, and_true, true_and, and_false, false_and, not_true_eq_false, not_false_eq_true, ↓reduceIte, z_0, z_k, s_I, s_J, s_uI, s_uJ, zc, ↓c_oc_87, ↓jc1 d1']
    | some f' =>
      rw [hd] at d1 d2
      have d1' : j_run (d + 8) 189 [.ref 87, .int (j_k (q + 1)), .int (j_k code)] (ST L p I1 J) = some (some (.int (j_k 1)), ST L p I2 J) := d1
      have d2' : iM1 I2 (q + 1) n f' := d2
      have ho' := drive_ok hC ho (show 0 ≤ code by omega) k2 hd
      have lr' := lost_rg (n := n) (f := f') n0
      have l1 := n_lost (L := L) (p := p) (d := d + 5) (I := I2) (J := J) (k := q + 1) (by omega) (by omega) (fr2.m hm).2.2.2.1 n0 n4 d2' ho' bN1
      have l0 := n_lost (L := L) (p := p) (d := d + 5) (I := I2) (J := J) (k := q) (by omega) (by omega) (fr2.m hm).2.2.2.1 n0 n4 (fr2.f n4 q1 (by omega) hf) ho bN1
      rw [Q_of (O.trans hd)]
      by_cases x : p_lost n f < p_lost n f'
      · rw [decide_eq_false (show ¬ p_lost n f' ≤ p_lost n f by omega), Bool.false_and, z_f]
        simp (disch := first | assumption | omega) only [k_add, k_sub, k_mul, k_lt, k_eq, k_lt0, k_0lt, k_eq0, k_nat, k_b0, k_b1, k_z1, k_z0, k_o1, k_o0, Int.reduceEq, Int.reduceLT, Int.reduceLE, Int.reduceAdd, Int.reduceMul, Int.reduceNeg, Bool.false_eq_true, or_true, true_or, or_false, false_or, and_true, true_and, and_false, false_and, not_true_eq_false, not_false_eq_true, ↓reduceIte, z_0, z_k, s_I, s_J, s_uI, s_uJ, zc, ↓c_oc_87, ↓jc1 d1', ↓jc1 l1, ↓jc1 l0, x]
      · rw [decide_eq_true (show p_lost n f' ≤ p_lost n f by omega), Bool.true_and]
        have lp := n_klL (L := L) (p := p) (d := d) (J := J) (code := j_k code) (hold := p_hold (p_drive w h gr n kd) (4 * n).toNat w h gr n (p_lost n f) 0) (hh' _) q1 q2 (fr2.m hm) d2' ho' c1 c2 5 999999 0 true (Int.le_refl 0) (by decide) (by decide)
        rw [z_t] at lp
        simp (disch := first | assumption | omega) only [k_add, k_sub, k_mul, k_lt, k_eq, k_lt0, k_0lt, k_eq0, k_nat, k_b0, k_b1, k_z1, k_z0, k_o1, k_o0, Int.reduceEq, Int.reduceLT, Int.reduceLE, Int.reduceAdd, Int.reduceMul, Int.reduceNeg, Bool.false_eq_true, or_true, true_or, or_false, false_or, and_true, true_and, and_false, false_and, not_true_eq_false, not_false_eq_true, ↓reduceIte, z_0, z_k, s_I, s_J, s_uI, s_uJ, zc, ↓c_oc_87, ↓jc1 d1', ↓jc1 l1, ↓jc1 l0, x]
        exact lp
theorem n_canKeep {c : Int} (q1 : 0 ≤ q) (q2 : q < 8) (hm : iMg I w h N n gr kd) (hf : iM1 I q n f) (ho : okF N n b f) (hb : b ≤ 800000) (c1 : 0 ≤ c) (c2 : c < N) : ∃ I', j_run (d + 10) 222 [.ref 87, .int (j_k q), .int (j_k c)] (ST L p I J) = some (some (.int (j_z (p_hold (p_drive w h gr n kd) (4 * n).toNat w h gr n (p_lost n f) 1 f c ≠ -9))), ST L p I' J) ∧ frT 30 (q + 1) I I' := by
  have hC := hm.1
  have n0 := hC.2.2.1
  have n4 := hC.2.2.2.1
  have loop : ∀ (t M : Nat) (code : Int) (I1 : Nat → Nat → Int32), -1 ≤ code → code + t = 4 * n → t + 1 < M → frT 30 (q + 1) I I1 → ∃ I2, j_exec k_222 h_222 (j_run (d + 9)) M 5 [some (.ref 87), some (.int (j_k q)), some (.int (j_k c)), some (.int (j_k 0)), some (.int (j_k code))] [] (ST L p I1 J) = some (some (.int (j_z (p_first (p_Q (p_drive w h gr n kd) (4 * n).toNat w h gr n (p_lost n f) 0 f c) t code ≠ -9))), ST L p I2 J) ∧ frT 30 (q + 1) I I2 := by
    intro t
    induction t with
    | zero =>
      intro M code I1 k1 k2 hM fr
      obtain ⟨M, rfl⟩ : ∃ q, M = q + 1 := ⟨M - 1, by omega⟩
      have C := n_codes (L := L) (p := p) (d := d + 8) (I := I1) (J := J) (fr.m hm).2.2.2.1
      have z : ¬ code < 4 * n := by omega
      refine ⟨I1, ?_, fr⟩
      rw [x_exec, t_222_5, p_first0, show j_z ((-9 : Int) ≠ -9) = j_k 0 from if_neg (fun u => u rfl)]
      simp (disch := first | assumption | omega) only [k_add, k_sub, k_mul, k_lt, k_eq, k_lt0, k_0lt, k_eq0, k_nat, k_b0, k_b1, k_z1, k_z0, k_o1, k_o0, Int.reduceEq, Int.reduceLT, Int.reduceLE, Int.reduceAdd, Int.reduceMul, Int.reduceNeg, Bool.false_eq_true, or_true, true_or, or_false, false_or, and_true, true_and, and_false, false_and, not_true_eq_false, not_false_eq_true, ↓reduceIte, z_0, z_k, s_I, s_J, s_uI, s_uJ, ↓c_oc_87, ↓jc1 C, z]
    | succ t ih =>
      intro M code I1 k1 k2 hM fr
      obtain ⟨M, rfl⟩ : ∃ q, M = q + 1 := ⟨M - 1, by omega⟩
      have C := n_codes (L := L) (p := p) (d := d + 8) (I := I1) (J := J) (fr.m hm).2.2.2.1
      have z : code < 4 * n := by omega
      obtain ⟨I2, s1, s2⟩ := n_keepsLast (L := L) (p := p) (d := d) (J := J) (code := code) (c := c) q1 q2 (fr.m hm) (fr.f n4 q1 (by omega) hf) ho hb c1 c2 k1 z
      have fr2 := fr.tr s2
      rw [x_exec, t_222_5, p_firstS]
      by_cases x : p_Q (p_drive w h gr n kd) (4 * n).toNat w h gr n (p_lost n f) 0 f c code = true
      · rw [if_pos x, show j_z (code ≠ -9) = j_k 1 from if_pos (by omega)]
        rw [show j_z (p_Q (p_drive w h gr n kd) (4 * n).toNat w h gr n (p_lost n f) 0 f c code = true) = j_k 1 from if_pos x] at s1
        refine ⟨I2, ?_, fr2⟩
        have fin : j_exec k_222 h_222 (j_run (d + 9)) M 5 [some (.ref 87), some (.int (j_k q)), some (.int (j_k c)), some (.int (j_k 1)), some (.int (j_k (code + 1)))] [] (ST L p I2 J) = some (some (.int (j_k 1)), ST L p I2 J) := by
          obtain ⟨M, rfl⟩ : ∃ q, M = q + 1 := ⟨M - 1, by omega⟩
          have C2 := n_codes (L := L) (p := p) (d := d + 8) (I := I2) (J := J) (fr2.m hm).2.2.2.1
          rw [x_exec, t_222_5]
          by_cases zz : code + 1 < 4 * n
          · simp (disch := first | assumption | omega) only [k_add, k_sub, k_mul, k_lt, k_eq, k_lt0, k_0lt, k_eq0, k_nat, k_b0, k_b1, k_z1, k_z0, k_o1, k_o0, Int.reduceEq, Int.reduceLT, Int.reduceLE, Int.reduceAdd, Int.reduceMul, Int.reduceNeg, Bool.false_eq_true, or_true, true_or, or_false, false_or, and_true, true_and, and_false, false_and, not_true_eq_false, not_false_eq_true, ↓reduceIte, z_0, z_k, s_I, s_J, s_uI, s_uJ, ↓c_oc_87, ↓jc1 C2, zz]
          · simp (disch := first | assumption | omega) only [k_add, k_sub, k_mul, k_lt, k_eq, k_lt0, k_0lt, k_eq0, k_nat, k_b0, k_b1, k_z1, k_z0, k_o1, k_o0, Int.reduceEq, Int.reduceLT, Int.reduceLE, Int.reduceAdd, Int.reduceMul, Int.reduceNeg, Bool.false_eq_true, or_true, true_or, or_false, false_or, and_true, true_and, and_false, false_and, not_true_eq_false, not_false_eq_true, ↓reduceIte, z_0, z_k, s_I, s_J, s_uI, s_uJ, ↓c_oc_87, ↓jc1 C2, zz]
        by_cases y : code < 0
        · rw [if_pos y] at s1
          simp (disch := first | assumption | omega) only [k_add, k_sub, k_mul, k_lt, k_eq, k_lt0, k_0lt, k_eq0, k_nat, k_b0, k_b1, k_z1, k_z0, k_o1, k_o0, Int.reduceEq, Int.reduceLT, Int.reduceLE, Int.reduceAdd, Int.reduceMul, Int.reduceNeg, Bool.false_eq_true, or_true, true_or, or_false, false_or, and_true, true_and, and_false, false_and, not_true_eq_false, not_false_eq_true, ↓reduceIte, z_0, z_k, s_I, s_J, s_uI, s_uJ, ↓c_oc_87, ↓jc1 C, z, y, ↓jc1 s1]
          exact fin
        · rw [if_neg y] at s1
          simp (disch := first | assumption | omega) only [k_add, k_sub, k_mul, k_lt, k_eq, k_lt0, k_0lt, k_eq0, k_nat, k_b0, k_b1, k_z1, k_z0, k_o1, k_o0, Int.reduceEq, Int.reduceLT, Int.reduceLE, Int.reduceAdd, Int.reduceMul, Int.reduceNeg, Bool.false_eq_true, or_true, true_or, or_false, false_or, and_true, true_and, and_false, false_and, not_true_eq_false, not_false_eq_true, ↓reduceIte, z_0, z_k, s_I, s_J, s_uI, s_uJ, ↓c_oc_87, ↓jc1 C, z, y, ↓jc1 s1]
          exact fin
      · rw [if_neg x]
        rw [show j_z (p_Q (p_drive w h gr n kd) (4 * n).toNat w h gr n (p_lost n f) 0 f c code = true) = j_k 0 from if_neg x] at s1
        obtain ⟨I3, t1, t2⟩ := ih M (code + 1) I2 (by omega) (by omega) (by omega) fr2
        refine ⟨I3, ?_, t2⟩
        by_cases y : code < 0
        · rw [if_pos y] at s1
          simp (disch := first | assumption | omega) only [k_add, k_sub, k_mul, k_lt, k_eq, k_lt0, k_0lt, k_eq0, k_nat, k_b0, k_b1, k_z1, k_z0, k_o1, k_o0, Int.reduceEq, Int.reduceLT, Int.reduceLE, Int.reduceAdd, Int.reduceMul, Int.reduceNeg, Bool.false_eq_true, or_true, true_or, or_false, false_or, and_true, true_and, and_false, false_and, not_true_eq_false, not_false_eq_true, ↓reduceIte, z_0, z_k, s_I, s_J, s_uI, s_uJ, ↓c_oc_87, ↓jc1 C, z, y, ↓jc1 s1]
          exact t1
        · rw [if_neg y] at s1
          simp (disch := first | assumption | omega) only [k_add, k_sub, k_mul, k_lt, k_eq, k_lt0, k_0lt, k_eq0, k_nat, k_b0, k_b1, k_z1, k_z0, k_o1, k_o0, Int.reduceEq, Int.reduceLT, Int.reduceLE, Int.reduceAdd, Int.reduceMul, Int.reduceNeg, Bool.false_eq_true, or_true, true_or, or_false, false_or, and_true, true_and, and_false, false_and, not_true_eq_false, not_false_eq_true, ↓reduceIte, z_0, z_k, s_I, s_J, s_uI, s_uJ, ↓c_oc_87, ↓jc1 C, z, y, ↓jc1 s1]
          exact t1
  obtain ⟨M, hM, hM2⟩ : ∃ M, M = 999999 ∧ 5000 < M := ⟨999999, rfl, by decide⟩
  obtain ⟨I', a1, a2⟩ := loop ((4 * n).toNat + 1) M (-1) I (Int.le_refl _) (by omega) (by omega) .rf
  have e := (r_222 (d + 9) (ST L p I J) 87 (j_k q) (j_k c)).trans (t_222_0 _ _ _ _ _ _)
  rw [← hM] at e
  exact ⟨I', e.trans a1, a2⟩
/-- a turn's loop over the ways; t: how many turns are left behind it -/
theorem n_kL {code : Int32} {f' : Fl} {l0 : Int} {tn : Nat} (htn : tn = 0 ∨ (tn = 1 ∧ p_lost n f' = l0)) (q1 : 0 ≤ q) (q2 : q < 7) (ho : okF N n b f') (hb : b ≤ 700000) {c : Int} (c1 : 0 ≤ c) (c2 : c < N) : ∀ (t M : Nat) (y : Int) (s : Bool) (I : Nat → Nat → Int32), 0 ≤ y → y + t = 5 → t < M → iMg I w h N n gr kd → iM1 I (q + 1) n f' → ∃ I', j_exec k_221 h_221 (j_run (d + 10)) M 48 [some (.ref 87), some (.int (j_k q)), some (.int code), some (.int (j_k c)), some (.int (j_k ((tn : Int) + 1))), some (.int (j_z (s = true))), some (.int (j_k y)), none] [] (ST L p I J) = some (some (.int (j_z (p_sf (p_harm w h gr n (p_hold (p_drive w h gr n kd) (4 * n).toNat w h gr n l0 tn) f' c) t y s = true))), ST L p I' J) ∧ frT 30 (q + 2) I I' := by
  intro t
  induction t with
  | zero =>
    intro M y s I y1 y2 hM hm hf
    obtain ⟨M, rfl⟩ : ∃ q, M = q + 1 := ⟨M - 1, by omega⟩
    have z : ¬ y < 5 := by omega
    refine ⟨I, ?_, .rf⟩
    rw [x_exec, t_221_48]
    simp (disch := first | assumption | omega) only [k_add, k_sub, k_mul, k_lt, k_eq, k_lt0, k_0lt, k_eq0, k_nat, k_b0, k_b1, k_z1, k_z0, k_o1, k_o0, Int.reduceEq, Int.reduceLT, Int.reduceLE, Int.reduceAdd, Int.reduceMul, Int.reduceNeg, Bool.false_eq_true, or_true, true_or, or_false, false_or, and_true, true_and, and_false, false_and, not_true_eq_false, not_false_eq_true, ↓reduceIte, z_0, z_k, s_I, s_J, s_uI, s_uJ, z, z_or]
    rfl
  | succ t ih =>
    intro M y s I y1 y2 hM hm hf
    obtain ⟨M, rfl⟩ : ∃ q, M = q + 1 := ⟨M - 1, by omega⟩
    have hC := hm.1
    have hn := hm.2.2.2.1
    have n0 := hC.2.2.1
    have n4 := hC.2.2.2.1
    obtain ⟨bN0, bN1, -⟩ := bd_N hC
    have z : y < 5 := by omega
    have W := n_wto (L := L) (p := p) (d := d + 7) (J := J) hm c1 c2 y1 z
    have wr := wto_rg' hC c1 c2 y1 z
    have U : ∀ s, p_sf (p_harm w h gr n (p_hold (p_drive w h gr n kd) (4 * n).toNat w h gr n l0 tn) f' c) (t + 1) y s = p_sf (p_harm w h gr n (p_hold (p_drive w h gr n kd) (4 * n).toNat w h gr n l0 tn) f' c) t (y + 1) (s && !p_harm w h gr n (p_hold (p_drive w h gr n kd) (4 * n).toNat w h gr n l0 tn) f' c (p_W y)) := fun _ => rfl
    rw [U, x_exec, t_221_48]
    cases s
    · have sf : p_sf (p_harm w h gr n (p_hold (p_drive w h gr n kd) (4 * n).toNat w h gr n l0 tn) f' c) t (y + 1) false = false := by
        rw [Bool.eq_false_iff]
        intro u
        exact absurd ((sf_iff t (y + 1) false (by omega) (by omega)).mp u).1 Bool.false_ne_true
      refine ⟨I, ?_, .rf⟩
      rw [z_f, Bool.false_and, sf, z_f]
      simp (disch := first | assumption | omega) only [k_add, k_sub, k_mul, k_lt, k_eq, k_lt0, k_0lt, k_eq0, k_nat, k_b0, k_b1, k_z1, k_z0, k_o1, k_o0, Int.reduceEq, Int.reduceLT, Int.reduceLE, Int.reduceAdd, Int.reduceMul, Int.reduceNeg, Bool.false_eq_true, or_true, true_or, or_false, false_or, and_true, true_and, and_false, false_and, not_true_eq_false, not_false_eq_true, ↓reduceIte, z_0, z_k, s_I, s_J, s_uI, s_uJ, z]
    · rw [z_t, Bool.true_and]
      by_cases x : p_wto w h gr c (p_W y) = -9
      · have g : p_harm w h gr n (p_hold (p_drive w h gr n kd) (4 * n).toNat w h gr n l0 tn) f' c (p_W y) = false := decide_eq_false (fun u => u.1 x)
        obtain ⟨I2, r1, r2⟩ := ih M (y + 1) true I (by omega) (by omega) (by omega) hm hf
        rw [z_t] at r1
        rw [g, Bool.not_false]
        rw [x] at W
        refine ⟨I2, ?_, r2⟩
        simp (disch := first | assumption | omega) only [k_add, k_sub, k_mul, k_lt, k_eq, k_lt0, k_0lt, k_eq0, k_nat, k_b0, k_b1, k_z1, k_z0, k_o1, k_o0, Int.reduceEq, Int.reduceLT, Int.reduceLE, Int.reduceAdd, Int.reduceMul, Int.reduceNeg, Bool.false_eq_true, or_true, true_or, or_false, false_or, and_true, true_and, and_false, false_and, not_true_eq_false, not_false_eq_true, ↓reduceIte, z_0, z_k, s_I, s_J, s_uI, s_uJ, z, ↓c_oc_87, ↓jc1 W]
        exact r1
      · have xr := wr.resolve_left x
        have xr1 := xr.1
        have xr2 := xr.2
        have O := n_who (L := L) (p := p) (d := d + 8) (J := J) (k := q + 1) (c := p_wto w h gr c (p_W y)) (but := -9) (by omega) (by omega) hn n0 n4 hf ho bN1 (by omega) (by omega) (by decide) (by decide)
        have pr := first_rg (P := fun k => decide (k ≠ -9 ∧ f' (5 + k) = p_wto w h gr c (p_W y))) n.toNat 0
        have pr' : p_who n f' (p_wto w h gr c (p_W y)) (-9) = -9 ∨ (0 ≤ p_who n f' (p_wto w h gr c (p_W y)) (-9) ∧ p_who n f' (p_wto w h gr c (p_W y)) (-9) < 0 + (n.toNat : Int)) := pr
        by_cases v : p_who n f' (p_wto w h gr c (p_W y)) (-9) = -9
        · rw [v] at O
          rcases htn with rfl | ⟨rfl, hl⟩
          · have g : p_harm w h gr n (p_hold (p_drive w h gr n kd) (4 * n).toNat w h gr n l0 0) f' c (p_W y) = false := decide_eq_false (fun u => u.2.elim (fun t => t v) (fun t => absurd t (show ¬ (-1 : Int) = -9 by decide)))
            obtain ⟨I2, r1, r2⟩ := ih M (y + 1) true I (by omega) (by omega) (by omega) hm hf
            rw [z_t] at r1
            rw [g, Bool.not_false]
            refine ⟨I2, ?_, r2⟩
            have t1 : ((0 : Nat) : Int) + 1 = 1 := rfl
            rw [t1] at r1 ⊢
            simp (disch := first | assumption | omega) only [k_add, k_sub, k_mul, k_lt, k_eq, k_lt0, k_0lt, k_eq0, k_nat, k_b0, k_b1, k_z1, k_z0, k_o1, k_o0, Int.reduceEq, Int.reduceLT, Int.reduceLE, Int.reduceAdd, Int.reduceMul, Int.reduceNeg, Bool.false_eq_true, or_true, true_or, or_false, false_or, and_true, true_and, and_false, false_and, not_true_eq_false, not_false_eq_true, ↓reduceIte, z_0, z_k, s_I, s_J, s_uI, s_uJ, z, ↓c_oc_87, ↓jc1 W, x, ↓jc1 O]
            exact r1
          · obtain ⟨I1, s1, s2⟩ := n_canKeep (L := L) (p := p) (d := d) (J := J) (q := q + 1) (c := p_wto w h gr c (p_W y)) (by omega) (by omega) hm hf ho (by omega) xr1 xr2
            rw [hl] at s1
            have fr1 : frT 30 (q + 2) I I1 := by
              rw [show q + 2 = q + 1 + 1 by omega]
              exact s2
            have t2 : ((1 : Nat) : Int) + 1 = 2 := rfl
            by_cases k : p_hold (p_drive w h gr n kd) (4 * n).toNat w h gr n l0 1 f' (p_wto w h gr c (p_W y)) = -9
            · have g : p_harm w h gr n (p_hold (p_drive w h gr n kd) (4 * n).toNat w h gr n l0 1) f' c (p_W y) = true := decide_eq_true ⟨x, Or.inr k⟩
              obtain ⟨I2, r1, r2⟩ := ih M (y + 1) false I1 (by omega) (by omega) (by omega) (fr1.m hm) (fr1.f n4 (by omega) (by omega) hf)
              rw [z_f] at r1
              rw [g, Bool.not_true]
              rw [show j_z (p_hold (p_drive w h gr n kd) (4 * n).toNat w h gr n l0 1 f' (p_wto w h gr c (p_W y)) ≠ -9) = j_k 0 from if_neg (fun u => u k)] at s1
              refine ⟨I2, ?_, fr1.tr r2⟩
              rw [t2] at r1 ⊢
              simp (disch := first | assumption | omega) only [k_add, k_sub, k_mul, k_lt, k_eq, k_lt0, k_0lt, k_eq0, k_nat, k_b0, k_b1, k_z1, k_z0, k_o1, k_o0, Int.reduceEq, Int.reduceLT, Int.reduceLE, Int.reduceAdd, Int.reduceMul, Int.reduceNeg, Bool.false_eq_true, or_true, true_or, or_false, false_or, and_true, true_and, and_false, false_and, not_true_eq_false, not_false_eq_true, ↓reduceIte, z_0, z_k, s_I, s_J, s_uI, s_uJ, z, ↓c_oc_87, ↓jc1 W, x, ↓jc1 O, ↓jc1 s1]
              exact r1
            · have g : p_harm w h gr n (p_hold (p_drive w h gr n kd) (4 * n).toNat w h gr n l0 1) f' c (p_W y) = false := decide_eq_false (fun u => u.2.elim (fun t => t v) k)
              obtain ⟨I2, r1, r2⟩ := ih M (y + 1) true I1 (by omega) (by omega) (by omega) (fr1.m hm) (fr1.f n4 (by omega) (by omega) hf)
              rw [z_t] at r1
              rw [g, Bool.not_false]
              rw [show j_z (p_hold (p_drive w h gr n kd) (4 * n).toNat w h gr n l0 1 f' (p_wto w h gr c (p_W y)) ≠ -9) = j_k 1 from if_pos k] at s1
              refine ⟨I2, ?_, fr1.tr r2⟩
              rw [t2] at r1 ⊢
              simp (disch := first | assumption | omega) only [k_add, k_sub, k_mul, k_lt, k_eq, k_lt0, k_0lt, k_eq0, k_nat, k_b0, k_b1, k_z1, k_z0, k_o1, k_o0, Int.reduceEq, Int.reduceLT, Int.reduceLE, Int.reduceAdd, Int.reduceMul, Int.reduceNeg, Bool.false_eq_true, or_true, true_or, or_false, false_or, and_true, true_and, and_false, false_and, not_true_eq_false, not_false_eq_true, ↓reduceIte, z_0, z_k, s_I, s_J, s_uI, s_uJ, z, ↓c_oc_87, ↓jc1 W, x, ↓jc1 O, ↓jc1 s1]
              exact r1
        · have g : p_harm w h gr n (p_hold (p_drive w h gr n kd) (4 * n).toNat w h gr n l0 tn) f' c (p_W y) = true := decide_eq_true ⟨x, Or.inl v⟩
          obtain ⟨I2, r1, r2⟩ := ih M (y + 1) false I (by omega) (by omega) (by omega) hm hf
          rw [z_f] at r1
          rw [g, Bool.not_true]
          refine ⟨I2, ?_, r2⟩
          simp (disch := first | assumption | omega) only [k_add, k_sub, k_mul, k_lt, k_eq, k_lt0, k_0lt, k_eq0, k_nat, k_b0, k_b1, k_z1, k_z0, k_o1, k_o0, Int.reduceEq, Int.reduceLT, Int.reduceLE, Int.reduceAdd, Int.reduceMul, Int.reduceNeg, Bool.false_eq_true, or_true, true_or, or_false, false_or, and_true, true_and, and_false, false_and, not_true_eq_false, not_false_eq_true, ↓reduceIte, z_0, z_k, s_I, s_J, s_uI, s_uJ, z, ↓c_oc_87, ↓jc1 W, x, ↓jc1 O, v]
          exact r1
theorem n_keepsT {code c : Int} {tn : Nat} (htn : tn = 0 ∨ tn = 1) (q1 : 0 ≤ q) (q2 : q < 7) (hm : iMg I w h N n gr kd) (hf : iM1 I q n f) (ho : okF N n b f) (hb : b ≤ 600000) (c1 : 0 ≤ c) (c2 : c < N) (k1 : -1 ≤ code) (k2 : code < 4 * n) : ∃ I', j_run (d + 11) 221 [.ref 87, .int (j_k q), .int (j_k (if code < 0 then -9 else code)), .int (j_k c), .int (j_k ((tn : Int) + 1))] (ST L p I J) = some (some (.int (j_z (p_Q (p_drive w h gr n kd) (4 * n).toNat w h gr n (p_lost n f) tn f c code = true))), ST L p I' J) ∧ frT 30 (q + 1) I I' := by
  have hC := hm.1
  have hn := hm.2.2.2.1
  have n0 := hC.2.2.1
  have n4 := hC.2.2.2.1
  obtain ⟨bN0, bN1, -⟩ := bd_N hC
  obtain ⟨I1, a1, a2, a3⟩ := n_copied (L := L) (p := p) (d := d + 8) (J := J) q1 (by omega) n4 hf
  have lr := lost_rg (n := n) (f := f) n0
  have e := (r_221 (d + 10) (ST L p I J) 87 (j_k q) (j_k (if code < 0 then -9 else code)) (j_k c) (j_k ((tn : Int) + 1))).trans (t_221_0 _ _ _ _ _ _ _ _)
  rw [c_oc_87, k_add, jc0 a1] at e
  by_cases z : code < 0
  · rw [if_pos z] at e ⊢
    have O : p_opt (p_drive w h gr n kd) f code = some f := if_pos z
    have l1 := n_lost (L := L) (p := p) (d := d + 7) (I := I1) (J := J) (k := q + 1) (by omega) (by omega) (a3.m hm).2.2.2.1 n0 n4 a2 ho bN1
    have l0 := n_lost (L := L) (p := p) (d := d + 7) (I := I1) (J := J) (k := q) (by omega) (by omega) (a3.m hm).2.2.2.1 n0 n4 (a3.f n4 q1 (by omega) hf) ho bN1
    have zz : ¬ p_lost n f < p_lost n f := by omega
    obtain ⟨I2, r1, r2⟩ := n_kL (L := L) (p := p) (d := d) (J := J) (code := j_k (-9)) (l0 := p_lost n f) (tn := tn) (htn.imp id (fun u => ⟨u, rfl⟩)) q1 q2 ho (by omega) c1 c2 5 999999 0 true I1 (Int.le_refl 0) (by decide) (by decide) (a3.m hm) a2
    refine ⟨I2, ?_, a3.tr (r2.le (Nat.le_refl _) (by omega))⟩
    rw [Q_of O, decide_eq_true (Int.le_refl _), Bool.true_and, e]
    rw [z_t] at r1
    simp (disch := first | assumption | omega) only [k_add, k_sub, k_mul, k_lt, k_eq, k_lt0, k_0lt, k_eq0, k_nat, k_b0, k_b1, k_z1, k_z0, k_o1, k_o0, Int.reduceEq, Int.reduceLT, Int.reduceLE, Int.reduceAdd, Int.reduceMul, Int.reduceNeg, Bool.false_eq_true, or_true, true_or, or_false, false_or, and_true, true_and, and_false, false_and, not_true_eq_false, not_false_eq_true, ↓reduceIte, z_0, z_k, s_I, s_J, s_uI, s_uJ, ↓c_oc_87, ↓jc1 l1, ↓jc1 l0, zz]
    exact r1
  · rw [if_neg z] at e ⊢
    have zc : ¬ code = -9 := by omega
    have O : p_opt (p_drive w h gr n kd) f code = p_drive w h gr n kd f code := if_neg z
    obtain ⟨I2, d1, d2, d3⟩ := n_drives (L := L) (p := p) (d := d + 2) (J := J) (q := q + 1) (c := code) (by omega) (by omega) (a3.m hm) a2 ho (by omega) (by omega) k2
    have fr2 : frT 30 (q + 1) I I2 := a3.tr (d3.t (Int.le_refl _))
    rw [e]
    cases hd : p_drive w h gr n kd f code with
    | none =>
      rw [hd] at d1
      have d1' : j_run (d + 2 + 8) 189 [.ref 87, .int (j_k (q + 1)), .int (j_k code)] (ST L p I1 J) = some (some (.int (j_k 0)), ST L p I2 J) := d1
      rw [Q_no (O.trans hd), z_f]
      refine ⟨I2, ?_, fr2⟩
      simp (disch := first | assumption | omega) only [k_add, k_sub, k_mul, k_lt, k_eq, k_lt0, k_0lt, k_eq0, k_nat, k_b0, k_b1, k_z1, k_z0, k_o1, k_o0, Int.reduceEq, Int.reduceLT, Int.reduceLE, Int.reduceAdd, Int.reduceMul, Int.reduceNeg, Bool.false_eq_true, or_true, true_or, or_false, false_or, and_true, true_and, and_false, false_and, not_true_eq_false, not_false_eq_true, ↓reduceIte, z_0, z_k, s_I, s_J, s_uI, s_uJ, zc, ↓c_oc_87, ↓jc1 d1']
    | some f' =>
      rw [hd] at d1 d2
      have d1' : j_run (d + 2 + 8) 189 [.ref 87, .int (j_k (q + 1)), .int (j_k code)] (ST L p I1 J) = some (some (.int (j_k 1)), ST L p I2 J) := d1
      have d2' : iM1 I2 (q + 1) n f' := d2
      have ho' := drive_ok hC ho (show 0 ≤ code by omega) k2 hd
      have lr' := lost_rg (n := n) (f := f') n0
      have lm := lost_mono (gn_drive n0 n4 (show 0 ≤ code by omega) hd)
      have l1 := n_lost (L := L) (p := p) (d := d + 7) (I := I2) (J := J) (k := q + 1) (by omega) (by omega) (fr2.m hm).2.2.2.1 n0 n4 d2' ho' bN1
      have l0 := n_lost (L := L) (p := p) (d := d + 7) (I := I2) (J := J) (k := q) (by omega) (by omega) (fr2.m hm).2.2.2.1 n0 n4 (fr2.f n4 q1 (by omega) hf) ho bN1
      rw [Q_of (O.trans hd)]
      by_cases x : p_lost n f < p_lost n f'
      · rw [decide_eq_false (show ¬ p_lost n f' ≤ p_lost n f by omega), Bool.false_and, z_f]
        refine ⟨I2, ?_, fr2⟩
        simp (disch := first | assumption | omega) only [k_add, k_sub, k_mul, k_lt, k_eq, k_lt0, k_0lt, k_eq0, k_nat, k_b0, k_b1, k_z1, k_z0, k_o1, k_o0, Int.reduceEq, Int.reduceLT, Int.reduceLE, Int.reduceAdd, Int.reduceMul, Int.reduceNeg, Bool.false_eq_true, or_true, true_or, or_false, false_or, and_true, true_and, and_false, false_and, not_true_eq_false, not_false_eq_true, ↓reduceIte, z_0, z_k, s_I, s_J, s_uI, s_uJ, zc, ↓c_oc_87, ↓jc1 d1', ↓jc1 l1, ↓jc1 l0, x]
      · rw [decide_eq_true (show p_lost n f' ≤ p_lost n f by omega), Bool.true_and]
        obtain ⟨I3, r1, r2⟩ := n_kL (L := L) (p := p) (d := d) (J := J) (code := j_k code) (l0 := p_lost n f) (tn := tn) (htn.imp id (fun u => ⟨u, by omega⟩)) q1 q2 ho' (by omega) c1 c2 5 999999 0 true I2 (Int.le_refl 0) (by decide) (by decide) (fr2.m hm) d2'
        refine ⟨I3, ?_, fr2.tr (r2.le (Nat.le_refl _) (by omega))⟩
        rw [z_t] at r1
        simp (disch := first | assumption | omega) only [k_add, k_sub, k_mul, k_lt, k_eq, k_lt0, k_0lt, k_eq0, k_nat, k_b0, k_b1, k_z1, k_z0, k_o1, k_o0, Int.reduceEq, Int.reduceLT, Int.reduceLE, Int.reduceAdd, Int.reduceMul, Int.reduceNeg, Bool.false_eq_true, or_true, true_or, or_false, false_or, and_true, true_and, and_false, false_and, not_true_eq_false, not_false_eq_true, ↓reduceIte, z_0, z_k, s_I, s_J, s_uI, s_uJ, zc, ↓c_oc_87, ↓jc1 d1', ↓jc1 l1, ↓jc1 l0, x]
        exact r1
end MWOLF
section MCALLS8
variable {L p d : Nat} {I : Nat → Nat → Int32} {J : Nat → Nat → Int64} {A : Ast}
theorem n_wolf (hx : iM I J A) {c m : Int} (h1 : -2147483648 ≤ c) (h2 : c < 2147483648) (h3 : -2147483648 ≤ m) (h4 : m < 2147483648) : mc L p I J (d + 12) 224 [.ref 87, .int (j_k c), .int (j_k m)] (p_wolf c m A) := by
  have hC := hx.1.1
  have ho := hx.1.2.1
  have hm := hx.2.2.2.1
  have hf := hx.2.2.2.2.1
  have n0 := hC.2.2.1
  have n4 := hC.2.2.2.1
  have hw := hm.2.1
  have hN := hm.2.2.1
  have hn := hm.2.2.2.1
  have hk := hm.2.2.2.2.1
  have hg := hm.2.2.2.2.2
  obtain ⟨bN0, bN1, -⟩ := bd_N hC
  have a1 := n_isCell (L := L) (p := p) (d := d + 9) (J := J) hN bN0 bN1 h1 h2
  have a2 := n_in (L := L) (p := p) (d := d + 10) (I := I) (J := J) (v := m) (lo := 1) (hi := 2) h3 h4 (by decide) (by decide) (by decide) (by decide)
  have e := (r_224 (d + 11) (ST L p I J) 87 (j_k c) (j_k m)).trans (t_224_0 _ _ _ _ _ _)
  unfold p_wolf
  by_cases x : 0 ≤ c ∧ c ≤ a_N A - 1
  · have z : j_z (0 ≤ c ∧ c ≤ a_N A - 1) = j_k 1 := if_pos x
    rw [z] at a1
    obtain ⟨c1, c2⟩ := x
    have c3 : c < a_N A := by omega
    have c4 : c < 30 := by omega
    by_cases y : 1 ≤ m ∧ m ≤ 2
    · have z2 : j_z (1 ≤ m ∧ m ≤ 2) = j_k 1 := if_pos y
      rw [z2] at a2
      have gv := hg c c1 c3
      have gb := hC.2.2.2.2.1 c c1 c3
      by_cases g1 : a_gr A c = 1
      · rw [if_neg (fun u => u.2.1.1 g1)]
        simp (disch := first | assumption | omega) only [k_add, k_sub, k_mul, k_lt, k_eq, k_lt0, k_0lt, k_eq0, k_nat, k_b0, k_b1, k_z1, k_z0, k_o1, k_o0, Int.reduceEq, Int.reduceLT, Int.reduceLE, Int.reduceAdd, Int.reduceMul, Int.reduceNeg, Bool.false_eq_true, or_true, true_or, or_false, false_or, and_true, true_and, and_false, false_and, not_true_eq_false, not_false_eq_true, ↓reduceIte, z_0, z_k, s_I, s_J, s_uI, s_uJ, ↓c_oc_87, ↓jc1 a1, ↓jc1 a2, ↓c_gP_87_12, ↓c_ia_94, gv, g1] at e
        exact .no hx e
      · by_cases g2 : a_gr A c = 2
        · rw [if_neg (fun u => u.2.1.2 g2)]
          simp (disch := first | assumption | omega) only [k_add, k_sub, k_mul, k_lt, k_eq, k_lt0, k_0lt, k_eq0, k_nat, k_b0, k_b1, k_z1, k_z0, k_o1, k_o0, Int.reduceEq, Int.reduceLT, Int.reduceLE, Int.reduceAdd, Int.reduceMul, Int.reduceNeg, Bool.false_eq_true, or_true, true_or, or_false, false_or, and_true, true_and, and_false, false_and, not_true_eq_false, not_false_eq_true, ↓reduceIte, z_0, z_k, s_I, s_J, s_uI, s_uJ, ↓c_oc_87, ↓jc1 a1, ↓jc1 a2, ↓c_gP_87_12, ↓c_ia_94, gv, g1, g2] at e
          exact .no hx e
        · rw [if_pos ⟨⟨c1, c3⟩, ⟨g1, g2⟩, y⟩]
          have a3 := n_who (L := L) (p := p) (d := d + 9) (J := J) (k := 0) (c := c) (but := -9) (by decide) (by decide) hn n0 n4 hf ho bN1 (by omega) (by omega) (by decide) (by decide)
          have pr := first_rg (P := fun k => decide (k ≠ -9 ∧ a_fl A (5 + k) = c)) (a_gn A).toNat 0
          have pr' : p_who (a_gn A) (a_fl A) c (-9) = -9 ∨ (0 ≤ p_who (a_gn A) (a_fl A) c (-9) ∧ p_who (a_gn A) (a_fl A) c (-9) < 0 + ((a_gn A).toNat : Int)) := pr
          by_cases v : p_who (a_gn A) (a_fl A) c (-9) = -9
          · rw [if_neg (fun u => u v)]
            rw [v] at a3
            obtain ⟨I1, t1, t2, t3⟩ := n_tried (L := L) (p := p) (d := d + 9) hx
            obtain ⟨tn, htn, hmt⟩ : ∃ tn : Nat, (tn = 0 ∨ tn = 1) ∧ m = (tn : Int) + 1 := by
              rcases (show m = 1 ∨ m = 2 by omega) with rfl | rfl
              · exact ⟨0, Or.inl rfl, rfl⟩
              · exact ⟨1, Or.inr rfl, rfl⟩
            have loop : ∀ (t M : Nat) (code : Int) (I1 : Nat → Nat → Int32), -1 ≤ code → code + t = 4 * a_gn A → t < M → iM1 I1 4 (a_gn A) (a_fl A) → frT 30 4 I I1 → ∃ I2, frT 30 4 I I2 ∧ j_exec k_224 h_224 (j_run (d + 11)) M 63 [some (.ref 87), some (.int (j_k c)), some (.int (j_k m)), some (.int (j_k code))] [] (ST L p I1 J) = (if p_first (p_Q (p_drive (a_gw A) (a_gh A) (a_gr A) (a_gn A) (a_kd A)) (4 * a_gn A).toNat (a_gw A) (a_gh A) (a_gr A) (a_gn A) (p_lost (a_gn A) (a_fl A)) tn (a_fl A) c) t code = -9 then some (some (.int (j_k 0)), ST L p (u2 I2 87 2 (j_k (-9))) J) else some (some (.int (j_k 1)), ST L p (u2 I2 87 2 (j_k (if p_first (p_Q (p_drive (a_gw A) (a_gh A) (a_gr A) (a_gn A) (a_kd A)) (4 * a_gn A).toNat (a_gw A) (a_gh A) (a_gr A) (a_gn A) (p_lost (a_gn A) (a_fl A)) tn (a_fl A) c) t code < 0 then -9 else p_first (p_Q (p_drive (a_gw A) (a_gh A) (a_gr A) (a_gn A) (a_kd A)) (4 * a_gn A).toNat (a_gw A) (a_gh A) (a_gr A) (a_gn A) (p_lost (a_gn A) (a_fl A)) tn (a_fl A) c) t code))) J)) := by
              intro t
              induction t with
              | zero =>
                intro M code I1 k1 k2 hM hf1 fr
                obtain ⟨M, rfl⟩ : ∃ q, M = q + 1 := ⟨M - 1, by omega⟩
                have C := n_codes (L := L) (p := p) (d := d + 10) (I := I1) (J := J) (fr.m hm).2.2.2.1
                have z : ¬ code < 4 * a_gn A := by omega
                have T := n_tells (L := L) (p := p) (d := d + 10) (I := I1) (J := J) (v := j_k (-9)) (x := j_k 0)
                refine ⟨I1, fr, ?_⟩
                rw [x_exec, t_224_63, p_first0, if_pos (show (-9 : Int) = -9 from rfl)]
                simp (disch := first | assumption | omega) only [k_add, k_sub, k_mul, k_lt, k_eq, k_lt0, k_0lt, k_eq0, k_nat, k_b0, k_b1, k_z1, k_z0, k_o1, k_o0, Int.reduceEq, Int.reduceLT, Int.reduceLE, Int.reduceAdd, Int.reduceMul, Int.reduceNeg, Bool.false_eq_true, or_true, true_or, or_false, false_or, and_true, true_and, and_false, false_and, not_true_eq_false, not_false_eq_true, ↓reduceIte, z_0, z_k, s_I, s_J, s_uI, s_uJ, ↓c_oc_87, ↓jc1 C, z, ↓jc1 T]
              | succ t ih =>
                intro M code I1 k1 k2 hM hf1 fr
                obtain ⟨M, rfl⟩ : ∃ q, M = q + 1 := ⟨M - 1, by omega⟩
                have C := n_codes (L := L) (p := p) (d := d + 10) (I := I1) (J := J) (fr.m hm).2.2.2.1
                have z : code < 4 * a_gn A := by omega
                obtain ⟨I2, s1, s2⟩ := n_keepsT (L := L) (p := p) (d := d) (J := J) (q := 4) (code := code) (c := c) (tn := tn) htn (by decide) (by decide) (fr.m hm) hf1 ho (by decide) c1 c3 k1 z
                have fr2 : frT 30 4 I I2 := fr.tr (s2.le (Nat.le_refl _) (by decide))
                have hf2 := s2.f n4 (by decide) (by decide) hf1
                rw [← hmt] at s1
                rw [x_exec, t_224_63, p_firstS]
                by_cases k : p_Q (p_drive (a_gw A) (a_gh A) (a_gr A) (a_gn A) (a_kd A)) (4 * a_gn A).toNat (a_gw A) (a_gh A) (a_gr A) (a_gn A) (p_lost (a_gn A) (a_fl A)) tn (a_fl A) c code = true
                · rw [if_pos k]
                  rw [show j_z (p_Q (p_drive (a_gw A) (a_gh A) (a_gr A) (a_gn A) (a_kd A)) (4 * a_gn A).toNat (a_gw A) (a_gh A) (a_gr A) (a_gn A) (p_lost (a_gn A) (a_fl A)) tn (a_fl A) c code = true) = j_k 1 from if_pos k] at s1
                  refine ⟨I2, fr2, ?_⟩
                  rw [if_neg (show ¬ code = -9 by omega)]
                  by_cases y : code < 0
                  · rw [if_pos y] at s1 ⊢
                    have T := n_tells (L := L) (p := p) (d := d + 10) (I := I2) (J := J) (v := j_k (-9)) (x := j_k 1)
                    simp (disch := first | assumption | omega) only [k_add, k_sub, k_mul, k_lt, k_eq, k_lt0, k_0lt, k_eq0, k_nat, k_b0, k_b1, k_z1, k_z0, k_o1, k_o0, Int.reduceEq, Int.reduceLT, Int.reduceLE, Int.reduceAdd, Int.reduceMul, Int.reduceNeg, Bool.false_eq_true, or_true, true_or, or_false, false_or, and_true, true_and, and_false, false_and, not_true_eq_false, not_false_eq_true, ↓reduceIte, z_0, z_k, s_I, s_J, s_uI, s_uJ, ↓c_oc_87, ↓jc1 C, z, y, ↓jc1 s1, ↓jc1 T]
                  · rw [if_neg y] at s1 ⊢
                    have T := n_tells (L := L) (p := p) (d := d + 10) (I := I2) (J := J) (v := j_k code) (x := j_k 1)
                    simp (disch := first | assumption | omega) only [k_add, k_sub, k_mul, k_lt, k_eq, k_lt0, k_0lt, k_eq0, k_nat, k_b0, k_b1, k_z1, k_z0, k_o1, k_o0, Int.reduceEq, Int.reduceLT, Int.reduceLE, Int.reduceAdd, Int.reduceMul, Int.reduceNeg, Bool.false_eq_true, or_true, true_or, or_false, false_or, and_true, true_and, and_false, false_and, not_true_eq_false, not_false_eq_true, ↓reduceIte, z_0, z_k, s_I, s_J, s_uI, s_uJ, ↓c_oc_87, ↓jc1 C, z, y, ↓jc1 s1, ↓jc1 T]
                · rw [if_neg k]
                  rw [show j_z (p_Q (p_drive (a_gw A) (a_gh A) (a_gr A) (a_gn A) (a_kd A)) (4 * a_gn A).toNat (a_gw A) (a_gh A) (a_gr A) (a_gn A) (p_lost (a_gn A) (a_fl A)) tn (a_fl A) c code = true) = j_k 0 from if_neg k] at s1
                  obtain ⟨I3, r1, r2⟩ := ih M (code + 1) I2 (by omega) (by omega) (by omega) hf2 fr2
                  refine ⟨I3, r1, ?_⟩
                  rw [← r2]
                  by_cases y : code < 0
                  · rw [if_pos y] at s1
                    simp (disch := first | assumption | omega) only [k_add, k_sub, k_mul, k_lt, k_eq, k_lt0, k_0lt, k_eq0, k_nat, k_b0, k_b1, k_z1, k_z0, k_o1, k_o0, Int.reduceEq, Int.reduceLT, Int.reduceLE, Int.reduceAdd, Int.reduceMul, Int.reduceNeg, Bool.false_eq_true, or_true, true_or, or_false, false_or, and_true, true_and, and_false, false_and, not_true_eq_false, not_false_eq_true, ↓reduceIte, z_0, z_k, s_I, s_J, s_uI, s_uJ, ↓c_oc_87, ↓jc1 C, z, y, ↓jc1 s1]
                  · rw [if_neg y] at s1
                    simp (disch := first | assumption | omega) only [k_add, k_sub, k_mul, k_lt, k_eq, k_lt0, k_0lt, k_eq0, k_nat, k_b0, k_b1, k_z1, k_z0, k_o1, k_o0, Int.reduceEq, Int.reduceLT, Int.reduceLE, Int.reduceAdd, Int.reduceMul, Int.reduceNeg, Bool.false_eq_true, or_true, true_or, or_false, false_or, and_true, true_and, and_false, false_and, not_true_eq_false, not_false_eq_true, ↓reduceIte, z_0, z_k, s_I, s_J, s_uI, s_uJ, ↓c_oc_87, ↓jc1 C, z, y, ↓jc1 s1]
            obtain ⟨M, hM, hM2⟩ : ∃ M, M = 999999 ∧ 5000 < M := ⟨999999, rfl, by decide⟩
            obtain ⟨I2, r1, r2⟩ := loop ((4 * a_gn A).toNat + 1) M (-1) I1 (Int.le_refl _) (by omega) (by omega) t2 t3
            rw [← hM] at e
            simp (disch := first | assumption | omega) only [k_add, k_sub, k_mul, k_lt, k_eq, k_lt0, k_0lt, k_eq0, k_nat, k_b0, k_b1, k_z1, k_z0, k_o1, k_o0, Int.reduceEq, Int.reduceLT, Int.reduceLE, Int.reduceAdd, Int.reduceMul, Int.reduceNeg, Bool.false_eq_true, or_true, true_or, or_false, false_or, and_true, true_and, and_false, false_and, not_true_eq_false, not_false_eq_true, ↓reduceIte, z_0, z_k, s_I, s_J, s_uI, s_uJ, ↓c_oc_87, ↓jc1 a1, ↓jc1 a2, ↓c_gP_87_12, ↓c_ia_94, gv, g1, g2, ↓jc1 a3, ↓jc0 t1] at e
            have HS : p_hold (p_drive (a_gw A) (a_gh A) (a_gr A) (a_gn A) (a_kd A)) (4 * a_gn A).toNat (a_gw A) (a_gh A) (a_gr A) (a_gn A) (p_lost (a_gn A) (a_fl A)) m.toNat (a_fl A) c = p_first (p_Q (p_drive (a_gw A) (a_gh A) (a_gr A) (a_gn A) (a_kd A)) (4 * a_gn A).toNat (a_gw A) (a_gh A) (a_gr A) (a_gn A) (p_lost (a_gn A) (a_fl A)) tn (a_fl A) c) ((4 * a_gn A).toNat + 1) (-1) := by
              rw [show m.toNat = tn + 1 by omega]
              exact hold_S
            rw [HS]
            have e2 := e.trans r2
            generalize p_first (p_Q (p_drive (a_gw A) (a_gh A) (a_gr A) (a_gn A) (a_kd A)) (4 * a_gn A).toNat (a_gw A) (a_gh A) (a_gr A) (a_gn A) (p_lost (a_gn A) (a_fl A)) tn (a_fl A) c) ((4 * a_gn A).toNat + 1) (-1) = H at e2 ⊢
            by_cases k : H = -9
            · rw [if_pos k] at e2 ⊢
              refine .of ⟨_, e2, (r1.x hx).told, fun r a => ?_⟩
              rw [fr_told r a]
              exact r1.n r a
            · rw [if_neg k] at e2 ⊢
              refine .of ⟨_, e2, (r1.x hx).told, fun r a => ?_⟩
              rw [fr_told r a]
              exact r1.n r a
          · rw [if_pos v]
            simp (disch := first | assumption | omega) only [k_add, k_sub, k_mul, k_lt, k_eq, k_lt0, k_0lt, k_eq0, k_nat, k_b0, k_b1, k_z1, k_z0, k_o1, k_o0, Int.reduceEq, Int.reduceLT, Int.reduceLE, Int.reduceAdd, Int.reduceMul, Int.reduceNeg, Bool.false_eq_true, or_true, true_or, or_false, false_or, and_true, true_and, and_false, false_and, not_true_eq_false, not_false_eq_true, ↓reduceIte, z_0, z_k, s_I, s_J, s_uI, s_uJ, ↓c_oc_87, ↓jc1 a1, ↓jc1 a2, ↓c_gP_87_12, ↓c_ia_94, gv, g1, g2, ↓jc1 a3, v] at e
            exact .no hx e
    · have z2 : j_z (1 ≤ m ∧ m ≤ 2) = j_k 0 := if_neg y
      rw [z2] at a2
      rw [if_neg (fun u => y u.2.2)]
      simp (disch := first | assumption | omega) only [k_add, k_sub, k_mul, k_lt, k_eq, k_lt0, k_0lt, k_eq0, k_nat, k_b0, k_b1, k_z1, k_z0, k_o1, k_o0, Int.reduceEq, Int.reduceLT, Int.reduceLE, Int.reduceAdd, Int.reduceMul, Int.reduceNeg, Bool.false_eq_true, or_true, true_or, or_false, false_or, and_true, true_and, and_false, false_and, not_true_eq_false, not_false_eq_true, ↓reduceIte, z_0, z_k, s_I, s_J, s_uI, s_uJ, ↓c_oc_87, ↓jc1 a1, ↓jc1 a2] at e
      exact .no hx e
  · have z : j_z (0 ≤ c ∧ c ≤ a_N A - 1) = j_k 0 := if_neg x
    rw [z] at a1
    rw [if_neg (fun u => x (by omega))]
    simp (disch := first | assumption | omega) only [k_add, k_sub, k_mul, k_lt, k_eq, k_lt0, k_0lt, k_eq0, k_nat, k_b0, k_b1, k_z1, k_z0, k_o1, k_o0, Int.reduceEq, Int.reduceLT, Int.reduceLE, Int.reduceAdd, Int.reduceMul, Int.reduceNeg, Bool.false_eq_true, or_true, true_or, or_false, false_or, and_true, true_and, and_false, false_and, not_true_eq_false, not_false_eq_true, ↓reduceIte, z_0, z_k, s_I, s_J, s_uI, s_uJ, ↓c_oc_87, ↓jc1 a1] at e
    exact .no hx e
end MCALLS8
