/-! ===== the class's flocks: off, beside, can, move, stirrings ===== -/
theorem fg_apart {a g : Nat} (ha : FA a) (hg : GA g) : a + 3 < g ∨ g + 3 < a := by
  have h3 : a ∈ FL := ha
  simp only [FL, List.mem_cons, List.not_mem_nil, or_false] at h3
  rcases hg with rfl | rfl <;> omega
theorem bd_xy {w h N n c : Int} {gr kd : Fl} (hC : okC w h N n gr kd) (h1 : 0 ≤ c) (h2 : c < N) : 0 ≤ c % w ∧ c % w < w ∧ 0 ≤ c / w ∧ c / w < h ∧ c = w * (c / w) + c % w ∧ 2 ≤ w ∧ w ≤ 6 ∧ 1 ≤ h ∧ h ≤ 5 ∧ N ≤ 30 ∧ c / w < 30 := by
  obtain ⟨hN, hw, -⟩ := hC
  rcases hw with ⟨w1, w2, w3, w4⟩ | ⟨rfl, rfl, -⟩
  · have e1 := Int.emod_nonneg c (show w ≠ 0 by omega)
    have e2 := Int.emod_lt_of_pos c (show 0 < w by omega)
    have e3 : 0 ≤ c / w := Int.ediv_nonneg h1 (by omega)
    have e4 : c / w < h := Int.ediv_lt_of_lt_mul (by omega) (by rw [Int.mul_comm]; omega)
    have e5 := Int.mul_ediv_add_emod c w
    refine ⟨e1, e2, e3, e4, by omega, w1, w2, w3, w4, ?_, by omega⟩
    have : w = 2 ∨ w = 3 ∨ w = 4 ∨ w = 5 ∨ w = 6 := by omega
    rcases this with rfl | rfl | rfl | rfl | rfl <;> omega
  · omega
theorem bd_N {w h N n : Int} {gr kd : Fl} (hC : okC w h N n gr kd) : 0 ≤ N ∧ N ≤ 30 ∧ 0 ≤ w ∧ w ≤ 6 ∧ 0 ≤ h ∧ h ≤ 5 := by
  obtain ⟨hN, hw, -⟩ := hC
  rcases hw with ⟨w1, w2, w3, w4⟩ | ⟨rfl, rfl, -⟩
  · have : w = 2 ∨ w = 3 ∨ w = 4 ∨ w = 5 ∨ w = 6 := by omega
    rcases this with rfl | rfl | rfl | rfl | rfl <;> omega
  · omega
theorem cell_rg {w h x y : Int} (h1 : 0 ≤ x) (h2 : x < w) (h3 : 0 ≤ y) (h4 : y < h) : 0 ≤ w * y + x ∧ w * y + x < w * h := by
  have e1 := Int.mul_nonneg (show 0 ≤ w by omega) h3
  have e2 := Int.mul_le_mul_of_nonneg_left (show y ≤ h - 1 by omega) (show 0 ≤ w by omega)
  rw [Int.mul_sub, Int.mul_one] at e2
  omega
theorem cell_xy {w x y : Int} (h1 : 0 ≤ x) (h2 : x < w) : (w * y + x) % w = x ∧ (w * y + x) / w = y := by
  constructor
  · rw [Int.add_comm, Int.add_mul_emod_self_left, Int.emod_eq_of_lt h1 h2]
  · rw [Int.add_comm, Int.add_mul_ediv_left _ _ (by omega), Int.ediv_eq_zero_of_lt h1 h2, Int.zero_add]
theorem by_rg {w h N n c dx dy : Int} {gr kd : Fl} (hC : okC w h N n gr kd) (h1 : 0 ≤ c) (h2 : c < N) (hd : (dx = 0 ∧ (dy = 1 ∨ dy = -1)) ∨ (dy = 0 ∧ (dx = 1 ∨ dx = -1))) : p_by w h c dx dy = -9 ∨ (0 ≤ p_by w h c dx dy ∧ p_by w h c dx dy < N ∧ p_by w h c dx dy ≠ c) := by
  obtain ⟨b1, b2, b3, b4, b5, b6, b7, b8, b9, b10, b11⟩ := bd_xy hC h1 h2
  unfold p_by
  split
  · rename_i hz
    obtain ⟨z1, z2⟩ := cell_rg hz.1 hz.2.1 hz.2.2.1 hz.2.2.2
    refine Or.inr ⟨z1, by rw [hC.1]; exact z2, fun z => ?_⟩
    have e1 := congrArg (fun t => t % w) z
    have e2 := congrArg (fun t => t / w) z
    simp only [(cell_xy hz.1 hz.2.1).1, (cell_xy hz.1 hz.2.1).2] at e1 e2
    omega
  · exact Or.inl rfl
theorem dxy {y : Int} (h1 : 0 ≤ y) (h2 : y < 4) : (p_dx y = 0 ∧ (p_dy y = 1 ∨ p_dy y = -1)) ∨ (p_dy y = 0 ∧ (p_dx y = 1 ∨ p_dx y = -1)) := by
  unfold p_dx p_dy
  rcases (show y = 0 ∨ y = 1 ∨ y = 2 ∨ y = 3 by omega) with rfl | rfl | rfl | rfl <;> decide
theorem off_rg {w h N n a c : Int} {gr kd : Fl} (hC : okC w h N n gr kd) (h1 : 0 ≤ a) (h2 : a < N) (h3 : 0 ≤ c) (h4 : c < N) : 0 ≤ p_off w a c ∧ p_off w a c < 10 := by
  obtain ⟨b1, b2, b3, b4, b5, b6, b7, b8, b9, b10, b11⟩ := bd_xy hC h1 h2
  obtain ⟨d1, d2, d3, d4, -⟩ := bd_xy hC h3 h4
  unfold p_off p_abs
  constructor
  · split <;> split <;> omega
  · split <;> split <;> omega
theorem first_none {P : Int → Bool} : ∀ (m : Nat) (k : Int), 0 ≤ k → (p_first P m k = -9 ↔ ∀ j, k ≤ j → j < k + m → P j = false)
  | 0, k, h => ⟨fun _ j h1 h2 => by omega, fun _ => rfl⟩
  | m + 1, k, h => by
    rw [p_firstS]
    split
    · rename_i hp
      refine ⟨fun z => by omega, fun z => ?_⟩
      rw [z k (Int.le_refl k) (by omega)] at hp
      cases hp
    · rename_i hp
      rw [first_none m (k + 1) (by omega)]
      refine ⟨fun z j h1 h2 => ?_, fun z j h1 h2 => z j (by omega) (by omega)⟩
      by_cases e : j = k
      · subst e
        exact Bool.eq_false_iff.mpr hp
      · exact z j (by omega) (by omega)
theorem who_none {n c but : Int} {f : Fl} (hn : 0 ≤ n) : p_who n f c but = -9 ↔ ∀ j, 0 ≤ j → j < n → j ≠ but → f (5 + j) ≠ c := by
  unfold p_who
  rw [first_none _ _ (Int.le_refl 0)]
  refine ⟨fun z j h1 h2 h3 h4 => ?_, fun z j h1 h2 => ?_⟩
  · have := z j h1 (by omega)
    simp [h3, h4] at this
  · simp only [decide_eq_false_iff_not]
    exact fun y => z j h1 (by omega) y.1 y.2
section FLOCKW
variable {L p a g d : Nat} {I : Nat → Nat → Int32} {J : Nat → Nat → Int64} {n w h N b : Int} {kd f gr : Fl}
theorem s_off (hg : GA g) (hG : iG I g w h N gr) (hC : okC w h N n gr kd) {x y : Int} (h1 : 0 ≤ x) (h2 : x < N) (h3 : 0 ≤ y) (h4 : y < N) : j_run (d + 1) 37 [.ref g, .int (j_k x), .int (j_k y)] (ST L p I J) = some (some (.int (j_k (p_off w x y))), ST L p I J) := by
  obtain ⟨e3, e4, e5, e1, e2, e6⟩ := hG
  obtain ⟨b1, b2, b3, b4, b5, b6, b7, b8, b9, b10, b11⟩ := bd_xy hC h1 h2
  obtain ⟨d1, d2, d3, d4, d5, -⟩ := bd_xy hC h3 h4
  rw [r_37, t_37_0]
  simp (disch := first | assumption | omega) only [k_add, k_sub, k_mul, k_lt, k_eq, k_lt0, k_0lt, k_eq0, k_nat, k_b0, k_b1, k_z1, k_z0, k_o1, k_o0, Int.reduceEq, Int.reduceLT, Int.reduceLE, Int.reduceAdd, Int.reduceMul, Int.reduceNeg, Bool.false_eq_true, or_true, true_or, or_false, false_or, and_true, true_and, and_false, false_and, not_true_eq_false, not_false_eq_true, ↓reduceIte, z_0, z_k, s_I, s_J, s_uI, s_uJ, g_oc, g_gP0, g_gP1, g_gP2, g_ia0, g_ia1, g_ia2, g_is0, g_is1, g_is2, g_lt, e2, e6, k_abs]
  rfl
theorem s_isOpen (hg : GA g) (hG : iG I g w h N gr) (hC : okC w h N n gr kd) {x : Int} (h1 : 0 ≤ x) (h2 : x < N) : j_run (d + 1) 36 [.ref g, .int (j_k x)] (ST L p I J) = some (some (.int (j_z (gr x ≠ 1 ∧ gr x ≠ 2))), ST L p I J) := by
  obtain ⟨e3, e4, e5, e1, e2, e6⟩ := hG
  obtain ⟨b1, b2, b3, b4, b5, b6, b7, b8, b9, b10, b11⟩ := bd_xy hC h1 h2
  have hc := hC.2.2.2.2.1 x h1 h2
  rw [r_36, t_36_0]
  simp (disch := first | assumption | omega) only [k_add, k_sub, k_mul, k_lt, k_eq, k_lt0, k_0lt, k_eq0, k_nat, k_b0, k_b1, k_z1, k_z0, k_o1, k_o0, Int.reduceEq, Int.reduceLT, Int.reduceLE, Int.reduceAdd, Int.reduceMul, Int.reduceNeg, Bool.false_eq_true, or_true, true_or, or_false, false_or, and_true, true_and, and_false, false_and, not_true_eq_false, not_false_eq_true, ↓reduceIte, z_0, z_k, s_I, s_J, s_uI, s_uJ, g_oc, g_gP0, g_gP1, g_gP2, g_ia0, g_ia1, g_ia2, g_is0, g_is1, g_is2, g_lt, e1]
  unfold j_z
  ((repeat' split) <;> first | rfl | (exfalso; omega))
theorem s_beside (hg : GA g) (hG : iG I g w h N gr) (hT : iT I) (hC : okC w h N n gr kd) {x y : Int} (h1 : 0 ≤ x) (h2 : x < N) (h3 : 0 ≤ y) (h4 : y < 4) : j_run (d + 1) 38 [.ref g, .int (j_k x), .int (j_k y)] (ST L p I J) = some (some (.int (j_k (p_by w h x (p_dx y) (p_dy y)))), ST L p I J) := by
  obtain ⟨e3, e4, e5, e1, e2, e6⟩ := hG
  obtain ⟨t1, t2⟩ := hT
  obtain ⟨b1, b2, b3, b4, b5, b6, b7, b8, b9, b10, b11⟩ := bd_xy hC h1 h2
  have hd := dxy h3 h4
  rw [r_38, t_38_0]
  simp (disch := first | assumption | omega) only [k_add, k_sub, k_mul, k_lt, k_eq, k_lt0, k_0lt, k_eq0, k_nat, k_b0, k_b1, k_z1, k_z0, k_o1, k_o0, Int.reduceEq, Int.reduceLT, Int.reduceLE, Int.reduceAdd, Int.reduceMul, Int.reduceNeg, Bool.false_eq_true, or_true, true_or, or_false, false_or, and_true, true_and, and_false, false_and, not_true_eq_false, not_false_eq_true, ↓reduceIte, z_0, z_k, s_I, s_J, s_uI, s_uJ, g_oc, g_gP0, g_gP1, g_gP2, g_ia0, g_ia1, g_ia2, g_is0, g_is1, g_is2, g_lt, e2, e6, e3, e4, t1, t2, c_ia_b2, c_ia_b3]
  unfold p_by
  rw [Int.mul_comm w]
  ((repeat' split) <;> first | rfl | (exfalso; omega))
theorem s_can (hF : FA a) (hg : GA g) (hi : iF I a n kd f) (hG : iG I g w h N gr) (hC : okC w h N n gr kd) {k c : Int} {gate : Bool} (h1 : 0 ≤ k) (h2 : k < n) (hc : c = -9 ∨ (0 ≤ c ∧ c < N ∧ c ≠ f (5 + k))) : j_run (d + 1) 22 [.ref a, .ref g, .int (j_k k), .int (j_k c), .int (j_z (gate = true))] (ST L p I J) = some (some (.int (j_z (p_try gr n kd f k c gate ≠ -9))), ST L p I J) := by
  obtain ⟨e3, e4, e5, e6, e7, e8, ek, ec, eg, ef⟩ := hi
  obtain ⟨g3, g4, g5, g1, g2, g6⟩ := hG
  obtain ⟨b1, b2, -⟩ := bd_N hC
  have hn := hC.2.2.1
  have hn4 := hC.2.2.2.1
  have hk := hC.2.2.2.2.2 k h1 h2
  rw [r_22, t_22_0]
  rcases hc with rfl | ⟨c1, c2, c3⟩
  · simp (disch := first | assumption | omega) only [k_add, k_sub, k_mul, k_lt, k_eq, k_lt0, k_0lt, k_eq0, k_nat, k_b0, k_b1, k_z1, k_z0, k_o1, k_o0, Int.reduceEq, Int.reduceLT, Int.reduceLE, Int.reduceAdd, Int.reduceMul, Int.reduceNeg, Bool.false_eq_true, or_true, true_or, or_false, false_or, and_true, true_and, and_false, false_and, not_true_eq_false, not_false_eq_true, ↓reduceIte, z_0, z_k, s_I, s_J, s_uI, s_uJ, p_try]
    rfl
  · have hgc := hC.2.2.2.2.1 c c1 c2
    have hw : (bt (I a 9) c.toNat = true) = ¬ (p_who n f c k = -9) := by
      rw [propext (ef c c1 (by omega)), propext (who_none hn)]
      refine propext ⟨fun ⟨j, j1, j2, j3⟩ z => z j j1 j2 (fun e => c3 (by rw [← e]; exact j3.symm)) j3, fun z => ?_⟩
      refine Classical.byContradiction fun y => z fun j j1 j2 j3 j4 => y ⟨j, j1, j2, j4⟩
    simp (disch := first | assumption | omega) only [k_add, k_sub, k_mul, k_lt, k_eq, k_lt0, k_0lt, k_eq0, k_nat, k_b0, k_b1, k_z1, k_z0, k_o1, k_o0, Int.reduceEq, Int.reduceLT, Int.reduceLE, Int.reduceAdd, Int.reduceMul, Int.reduceNeg, Bool.false_eq_true, or_true, true_or, or_false, false_or, and_true, true_and, and_false, false_and, not_true_eq_false, not_false_eq_true, ↓reduceIte, z_0, z_k, s_I, s_J, s_uI, s_uJ, f_oc, f_gP0, f_gP1, f_gP2, f_ia0, f_ia1, f_ia2, f_is0, f_is1, f_is2, f_lt, g_oc, g_gP0, g_gP1, g_gP2, g_ia0, g_ia1, g_ia2, g_is0, g_is1, g_is2, g_lt, g1, ek, tb_iff, hw]
    unfold p_try p_can j_z
    simp only [decide_eq_true_eq]
    have e9 : ¬ c = -9 := by omega
    rw [if_neg e9]
    by_cases q1 : gr c = 1
    · have : ¬ gr c = 4 := by omega
      simp [q1]
    · by_cases q2 : p_who n f c k = -9
      · by_cases q3 : gr c = 4
        · by_cases q4 : kd k = 4
          · simp [q2, q3, q4]
          · cases gate <;> simp [q2, q3, q4, e9]
        · simp [q1, q2, q3, e9]
      · simp [q1, q2]
end FLOCKW
