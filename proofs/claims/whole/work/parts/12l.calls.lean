/-! ===== the model's calls: ring ===== -/
/-- a state as one number, base 40 -/
def p_st (v : Int → Int) (t : Int) : Int := p_loop (fun i s => 40 * s + v i + 9) 8 1 t
theorem l_40 : j_cJ 4 = lk 40 := by decide
theorem l_9 : j_cJ 5 = lk 9 := by decide
theorem lk_inj {a b : Int} (h1 : -9223372036854775808 ≤ a - b) (h2 : a - b < 9223372036854775808) (h : lk a = lk b) : a = b := by
  have e : lk (a - b) = lk 0 := by
    rw [← l_sub, h, l_sub, Int.sub_self]
  rw [l_eq h1 h2 (by decide) (by decide)] at e
  omega
theorem st_eq {v v' : Int → Int} {t t' : Int} (t0 : 0 ≤ t ∧ t < 2) (t1 : 0 ≤ t' ∧ t' < 2) (hv : ∀ i : Int, 1 ≤ i → i < 9 → (-9 ≤ v i ∧ v i < 31 ∧ -9 ≤ v' i ∧ v' i < 31) ∨ v i = v' i) : lk (p_st v t) = lk (p_st v' t') ↔ t = t' ∧ ∀ i : Int, 1 ≤ i → i < 9 → v i = v' i := by
  have E : ∀ (v : Int → Int) (t : Int), p_st v t = 40 * (40 * (40 * (40 * (40 * (40 * (40 * (40 * t + v 1 + 9) + v 2 + 9) + v 3 + 9) + v 4 + 9) + v 5 + 9) + v 6 + 9) + v 7 + 9) + v 8 + 9 := fun v t => rfl
  have h1 := hv 1 (by decide) (by decide)
  have h2 := hv 2 (by decide) (by decide)
  have h3 := hv 3 (by decide) (by decide)
  have h4 := hv 4 (by decide) (by decide)
  have h5 := hv 5 (by decide) (by decide)
  have h6 := hv 6 (by decide) (by decide)
  have h7 := hv 7 (by decide) (by decide)
  have h8 := hv 8 (by decide) (by decide)
  have d : ∀ {a b x y : Int}, ((-9 ≤ x ∧ x < 31 ∧ -9 ≤ y ∧ y < 31) ∨ x = y) → 40 * a + x + 9 = 40 * b + y + 9 → a = b ∧ x = y := fun h e => by omega
  have w : ∀ {a b x y m : Int}, ((-9 ≤ x ∧ x < 31 ∧ -9 ≤ y ∧ y < 31) ∨ x = y) → -m ≤ a - b → a - b ≤ m → -(40 * m + 40) ≤ (40 * a + x + 9) - (40 * b + y + 9) ∧ (40 * a + x + 9) - (40 * b + y + 9) ≤ 40 * m + 40 := fun h e1 e2 => by omega
  constructor
  · intro h
    have g1 := w h1 (show -(1 : Int) ≤ t - t' by omega) (by omega)
    have g2 := w h2 g1.1 g1.2
    have g3 := w h3 g2.1 g2.2
    have g4 := w h4 g3.1 g3.2
    have g5 := w h5 g4.1 g4.2
    have g6 := w h6 g5.1 g5.2
    have g7 := w h7 g6.1 g6.2
    have g8 := w h8 g7.1 g7.2
    rw [E, E] at h
    have e8 := lk_inj (by omega) (by omega) h
    obtain ⟨e7, q8⟩ := d h8 e8
    obtain ⟨e6, q7⟩ := d h7 e7
    obtain ⟨e5, q6⟩ := d h6 e6
    obtain ⟨e4, q5⟩ := d h5 e5
    obtain ⟨e3, q4⟩ := d h4 e4
    obtain ⟨e2, q3⟩ := d h3 e3
    obtain ⟨e1, q2⟩ := d h2 e2
    obtain ⟨e0, q1⟩ := d h1 e1
    refine ⟨e0, fun i i1 i2 => ?_⟩
    rcases (show i = 1 ∨ i = 2 ∨ i = 3 ∨ i = 4 ∨ i = 5 ∨ i = 6 ∨ i = 7 ∨ i = 8 by omega) with rfl | rfl | rfl | rfl | rfl | rfl | rfl | rfl <;> assumption
  · rintro ⟨e0, e⟩
    rw [E, E, e0, e 1 (by decide) (by decide), e 2 (by decide) (by decide), e 3 (by decide) (by decide), e 4 (by decide) (by decide), e 5 (by decide) (by decide), e 6 (by decide) (by decide), e 7 (by decide) (by decide), e 8 (by decide) (by decide)]
theorem enc_inj {x y : Int} (hx : x = -9 ∨ (0 ≤ x ∧ x < 30)) (hy : y = -9 ∨ (0 ≤ y ∧ y < 30)) (h : p_enc x = p_enc y) : x = y := by
  unfold p_enc at h
  split at h <;> split at h <;> omega
theorem num_eq {w h N n b : Int} {gr kd f f' : Fl} (hC : okC w h N n gr kd) (ho : okF N n b f) (ho' : okF N n b f') : p_num n f = p_num n f' ↔ f 0 % 2 = f' 0 % 2 ∧ ∀ i : Int, 1 ≤ i → i < 5 + n → f i = f' i := by
  obtain ⟨b1, b2, -⟩ := bd_N hC
  have hn := hC.2.2.1
  have hn4 := hC.2.2.2.1
  have R : ∀ {f : Fl}, okF N n b f → ∀ i : Int, 1 ≤ i → i < 5 + n → f i = -9 ∨ (0 ≤ f i ∧ f i < 30) := fun {f} ho i i1 i2 => by
    have a1 := ho.2.2.1
    have a2 := ho.2.2.2.1
    rcases (show i = 1 ∨ i = 2 ∨ i = 3 ∨ i = 4 ∨ 5 ≤ i by omega) with rfl | rfl | rfl | rfl | z
    · omega
    · omega
    · omega
    · omega
    · have a := ho.1 (i - 5) (by omega) (by omega)
      rw [show 5 + (i - 5) = i by omega] at a
      omega
  have r := R ho
  have r' := R ho'
  have G : ∀ i : Int, 1 ≤ i → i < 5 + n → (0 ≤ p_enc (f i) ∧ p_enc (f i) < 32) ∧ (0 ≤ p_enc (f' i) ∧ p_enc (f' i) < 32) := fun i i1 i2 => ⟨enc_rg (N := 30) (r i i1 i2) (by decide), enc_rg (N := 30) (r' i i1 i2) (by decide)⟩
  have d : ∀ {a b x y : Int}, (0 ≤ x ∧ x < 32) ∧ (0 ≤ y ∧ y < 32) → 32 * a + x = 32 * b + y → a = b ∧ x = y := fun h e => by omega
  have g1 := G 1 (by decide) (by omega)
  have g2 := G 2 (by decide) (by omega)
  have g3 := G 3 (by decide) (by omega)
  have g4 := G 4 (by decide) (by omega)
  constructor
  · intro h
    unfold p_num at h
    obtain ⟨e3, q4⟩ := d g4 h
    obtain ⟨e2, q3⟩ := d g3 e3
    obtain ⟨e1, q2⟩ := d g2 e2
    obtain ⟨e0, q1⟩ := d g1 e1
    have l : ∀ (m : Nat) (k s s' : Int), 0 ≤ k → k + m = n → p_loop (fun k s => 32 * s + p_enc (f (5 + k))) m k s = p_loop (fun k s => 32 * s + p_enc (f' (5 + k))) m k s' → s = s' ∧ ∀ i : Int, k ≤ i → i < n → f (5 + i) = f' (5 + i) := by
      intro m
      induction m with
      | zero => exact fun k s s' k1 k2 e => ⟨e, fun i i1 i2 => absurd i2 (by omega)⟩
      | succ m ih =>
        intro k s s' k1 k2 e
        obtain ⟨a1, a2⟩ := ih (k + 1) _ _ (by omega) (by omega) e
        obtain ⟨c1, c2⟩ := d (G (5 + k) (by omega) (by omega)) a1
        refine ⟨c1, fun i i1 i2 => ?_⟩
        by_cases z : i = k
        · subst z
          exact enc_inj (r _ (by omega) (by omega)) (r' _ (by omega) (by omega)) c2
        · exact a2 i (by omega) i2
    obtain ⟨p0, p1⟩ := l n.toNat 0 _ _ (Int.le_refl 0) (by omega) e0
    refine ⟨p0, fun i i1 i2 => ?_⟩
    rcases (show i = 1 ∨ i = 2 ∨ i = 3 ∨ i = 4 ∨ 5 ≤ i by omega) with rfl | rfl | rfl | rfl | z
    · exact enc_inj (r _ i1 i2) (r' _ i1 i2) q1
    · exact enc_inj (r _ i1 i2) (r' _ i1 i2) q2
    · exact enc_inj (r _ i1 i2) (r' _ i1 i2) q3
    · exact enc_inj (r _ i1 i2) (r' _ i1 i2) q4
    · have := p1 (i - 5) (by omega) (by omega)
      rwa [show 5 + (i - 5) = i by omega] at this
  · rintro ⟨e0, e⟩
    unfold p_num
    rw [e0, e 1 (by decide) (by omega), e 2 (by decide) (by omega), e 3 (by decide) (by omega), e 4 (by decide) (by omega)]
    rw [loop_cg (b := fun k s => 32 * s + p_enc (f (5 + k))) (b' := fun k s => 32 * s + p_enc (f' (5 + k))) (n := n) (fun k s k1 k2 => by rw [e (5 + k) (by omega) (by omega)]) n.toNat 0 _ (Int.le_refl 0) (by omega)]
section MCALLS6
variable {L p d : Nat} {I : Nat → Nat → Int32} {J : Nat → Nat → Int64} {A : Ast}
theorem n_state {q t b : Int} {v : Int → Int} (q1 : 0 ≤ q) (q2 : q < 9) (h0 : I 99 (13 * q + 0).toNat = j_k t) (t0 : 0 ≤ t) (t1 : t ≤ b) (hb : b ≤ 1000000) (hv : ∀ i : Int, 1 ≤ i → i < 9 → I 99 (13 * q + i).toNat = j_k (v i) ∧ -2147483648 ≤ v i ∧ v i < 2147483648) : j_run (d + 2) 193 [.ref 87, .int (j_k q)] (ST L p I J) = some (some (.long (lk (p_st v (t % 2)))), ST L p I J) := by
  have loop : ∀ (m M : Nat) (i s : Int), 1 ≤ i → i + m = 9 → m < M → j_exec k_193 h_193 (j_run (d + 1)) M 13 [some (.ref 87), some (.int (j_k q)), some (.long (lk s)), none, some (.int (j_k i))] [] (ST L p I J) = some (some (.long (lk (p_loop (fun i s => 40 * s + v i + 9) m i s))), ST L p I J) := by
    intro m
    induction m with
    | zero =>
      intro M i s i1 i2 hM
      obtain ⟨M, rfl⟩ : ∃ q, M = q + 1 := ⟨M - 1, by omega⟩
      have z : ¬ i < 9 := by omega
      rw [x_exec, t_193_13]
      simp (disch := first | assumption | omega) only [k_add, k_sub, k_mul, k_lt, k_eq, k_lt0, k_0lt, k_eq0, k_nat, k_b0, k_b1, k_z1, k_z0, k_o1, k_o0, Int.reduceEq, Int.reduceLT, Int.reduceLE, Int.reduceAdd, Int.reduceMul, Int.reduceNeg, Bool.false_eq_true, or_true, true_or, or_false, false_or, and_true, true_and, and_false, false_and, not_true_eq_false, not_false_eq_true, ↓reduceIte, z_0, z_k, s_I, s_J, s_uI, s_uJ, z]
      rfl
    | succ m ih =>
      intro M i s i1 i2 hM
      obtain ⟨M, rfl⟩ : ∃ q, M = q + 1 := ⟨M - 1, by omega⟩
      have z : i < 9 := by omega
      obtain ⟨a1, a2, a3⟩ := hv i i1 z
      have V := n_v (L := L) (p := p) (d := d) (I := I) (J := J) q1 q2 (show 0 ≤ i by omega) (show i < 13 by omega)
      rw [a1] at V
      have E : (j_cJ 4 * lk s + (j_k (v i)).toInt64) + j_cJ 5 = lk (40 * s + v i + 9) := by
        rw [l_40, l_9, l_of a2 a3, l_mul, l_add, l_add]
      rw [x_exec, t_193_13, p_loopS]
      simp (disch := first | assumption | omega) only [k_add, k_sub, k_mul, k_lt, k_eq, k_lt0, k_0lt, k_eq0, k_nat, k_b0, k_b1, k_z1, k_z0, k_o1, k_o0, Int.reduceEq, Int.reduceLT, Int.reduceLE, Int.reduceAdd, Int.reduceMul, Int.reduceNeg, Bool.false_eq_true, or_true, true_or, or_false, false_or, and_true, true_and, and_false, false_and, not_true_eq_false, not_false_eq_true, ↓reduceIte, z_0, z_k, s_I, s_J, s_uI, s_uJ, z, ↓c_oc_87, ↓jc1 V, E]
      exact ih M (i + 1) _ (by omega) (by omega) (by omega)
  have V := n_v (L := L) (p := p) (d := d) (I := I) (J := J) q1 q2 (show (0 : Int) ≤ 0 by decide) (show (0 : Int) < 13 by decide)
  rw [h0] at V
  have m2 : j_k t - j_k t / j_k 2 * j_k 2 = j_k (t % 2) := k_modp t0 (by omega) (by decide) (by decide)
  have l2 : (j_k (t % 2)).toInt64 = lk (t % 2) := l_of (by omega) (by omega)
  have z2 : ¬ j_k 2 = 0 := by decide
  rw [r_193, t_193_0, c_oc_87, jc1 V, if_neg z2, m2, l2]
  exact loop 8 999999 1 (t % 2) (by decide) (by decide) (by decide)
theorem n_ring (hx : iM I J A) : mc L p I J (d + 7) 194 [.ref 87] (p_ring A) := by
  have hC := hx.1.1
  have ho := hx.1.2.1
  have hm := hx.2.2.2.1
  have hf := hx.2.2.2.2.1
  have n0 := hC.2.2.1
  have n4 := hC.2.2.2.1
  have hw := hm.2.1
  have hN := hm.2.2.1
  have hn := hm.2.2.2.1
  have hk := hm.2.2.2.2.1
  have hg := hm.2.2.2.2.2
  obtain ⟨bN0, bN1, -⟩ := bd_N hC
  have e := (r_194 (d + 6) (ST L p I J) 87).trans (t_194_0 _ _ _ _)
  unfold p_ring
  by_cases y : a_N A = 0
  · rw [if_pos y]
    rw [y] at hN
    simp (disch := first | assumption | omega) only [k_add, k_sub, k_mul, k_lt, k_eq, k_lt0, k_0lt, k_eq0, k_nat, k_b0, k_b1, k_z1, k_z0, k_o1, k_o0, Int.reduceEq, Int.reduceLT, Int.reduceLE, Int.reduceAdd, Int.reduceMul, Int.reduceNeg, Bool.false_eq_true, or_true, true_or, or_false, false_or, and_true, true_and, and_false, false_and, not_true_eq_false, not_false_eq_true, ↓reduceIte, z_0, z_k, s_I, s_J, s_uI, s_uJ, ↓c_oc_87, hN] at e
    exact .no hx e
  · rw [if_neg y]
    obtain ⟨I0, s1, s2, s3⟩ := n_tried (L := L) (p := p) (d := d + 4) hx
    simp (disch := first | assumption | omega) only [k_add, k_sub, k_mul, k_lt, k_eq, k_lt0, k_0lt, k_eq0, k_nat, k_b0, k_b1, k_z1, k_z0, k_o1, k_o0, Int.reduceEq, Int.reduceLT, Int.reduceLE, Int.reduceAdd, Int.reduceMul, Int.reduceNeg, Bool.false_eq_true, or_true, true_or, or_false, false_or, and_true, true_and, and_false, false_and, not_true_eq_false, not_false_eq_true, ↓reduceIte, z_0, z_k, s_I, s_J, s_uI, s_uJ, ↓c_oc_87, hN, y, ↓jc0 s1] at e
    have okf : ∀ k : Int, 0 ≤ k → k ≤ 300 → okF (a_N A) (a_gn A) 20000 (p_fa A k) := fun k k1 k2 => okF_le (by omega) (its_ok hC ho k.toNat)
    -- the number of a state; c: the cells of beasts that are not
    obtain ⟨vv, hvv⟩ : ∃ vv : Int → Int → Int, ∀ k i : Int, vv k i = if i < 5 + a_gn A then p_fa A k i else (I0 99 (13 * 4 + i).toNat).toInt := ⟨fun k i => if i < 5 + a_gn A then p_fa A k i else (I0 99 (13 * 4 + i).toNat).toInt, fun _ _ => rfl⟩
    have SE : ∀ m k : Int, 0 ≤ m → m ≤ 300 → 0 ≤ k → k ≤ 300 → (lk (p_st (vv m) (p_fa A m 0 % 2)) = lk (p_st (vv k) (p_fa A k 0 % 2)) ↔ p_num (a_gn A) (p_fa A m) = p_num (a_gn A) (p_fa A k)) := fun m k m1 m2 k1 k2 => by
      have R : ∀ k : Int, 0 ≤ k → k ≤ 300 → ∀ i : Int, 1 ≤ i → i < 5 + a_gn A → -9 ≤ p_fa A k i ∧ p_fa A k i < 31 := fun k k1 k2 i i1 i2 => by
        have o := okf k k1 k2
        have a1 := o.2.2.1
        have a2 := o.2.2.2.1
        rcases (show i = 1 ∨ i = 2 ∨ i = 3 ∨ i = 4 ∨ 5 ≤ i by omega) with rfl | rfl | rfl | rfl | z
        · omega
        · omega
        · omega
        · omega
        · have a := o.1 (i - 5) (by omega) (by omega)
          rw [show 5 + (i - 5) = i by omega] at a
          omega
      rw [num_eq hC (okf m m1 m2) (okf k k1 k2), st_eq (by omega) (by omega) (fun i i1 i2 => by
        rw [hvv, hvv]
        by_cases z : i < 5 + a_gn A
        · rw [if_pos z, if_pos z]
          have a := R m m1 m2 i i1 z
          have c := R k k1 k2 i i1 z
          exact Or.inl ⟨a.1, a.2, c.1, c.2⟩
        · rw [if_neg z, if_neg z]
          exact Or.inr rfl)]
      refine and_congr Iff.rfl ⟨fun u i i1 i2 => ?_, fun u i i1 i2 => ?_⟩
      · have := u i i1 (by omega)
        rwa [hvv, hvv, if_pos i2, if_pos i2] at this
      · rw [hvv, hvv]
        by_cases z : i < 5 + a_gn A
        · rw [if_pos z, if_pos z]
          exact u i i1 z
        · rw [if_neg z, if_neg z]
    have ST0 : ∀ (k : Int) (I1 : Nat → Nat → Int32) (J1 : Nat → Nat → Int64), 0 ≤ k → k ≤ 300 → iM1 I1 4 (a_gn A) (p_fa A k) → frP (a_gn A) 4 I0 I1 → j_run (d + 6) 193 [.ref 87, .int (j_k 4)] (ST L p I1 J1) = some (some (.long (lk (p_st (vv k) (p_fa A k 0 % 2)))), ST L p I1 J1) := fun k I1 J1 k1 k2 g1 g2 => by
      have o := okf k k1 k2
      have a1 := o.2.2.1
      have a2 := o.2.2.2.1
      refine n_state (L := L) (p := p) (d := d + 4) (I := I1) (J := J1) (q := 4) (b := 20000) (by decide) (by decide) (g1.1 0 (by decide) (by decide)) o.2.2.2.2.2.1 o.2.2.2.2.2.2 (by decide) (fun i i1 i2 => ?_)
      rw [hvv]
      by_cases z : i < 5 + a_gn A
      · rw [if_pos z]
        by_cases z5 : i < 5
        · refine ⟨g1.1 i (by omega) z5, ?_⟩
          rcases (show i = 1 ∨ i = 2 ∨ i = 3 ∨ i = 4 by omega) with rfl | rfl | rfl | rfl <;> omega
        · have c1 := g1.2.1 (i - 5) (by omega) (by omega)
          have c2 := o.1 (i - 5) (by omega) (by omega)
          rw [show 5 + (i - 5) = i by omega] at c1 c2
          exact ⟨c1, by omega, by omega⟩
      · rw [if_neg z, g2.2.2 (13 * 4 + i) (by omega) (by omega), k_toInt]
        have l1 := Int32.le_toInt (I0 99 (13 * 4 + i).toNat)
        have l2 := Int32.toInt_lt (I0 99 (13 * 4 + i).toNat)
        exact ⟨rfl, by omega, by omega⟩
    have inner : ∀ (t M : Nat) (k m : Int) (I1 : Nat → Nat → Int32) (J1 : Nat → Nat → Int64), 0 ≤ k → k ≤ 200 → 0 ≤ m → m + t = k → t < M → (∀ j : Int, 0 ≤ j → j ≤ k → J1 102 j.toNat = lk (p_st (vv j) (p_fa A j 0 % 2))) → iM1 I1 4 (a_gn A) (p_fa A k) → frP (a_gn A) 4 I0 I1 →
        (p_first (fun m => decide (p_num (a_gn A) (p_fa A m) = p_num (a_gn A) (p_fa A k))) t m ≠ -9 → j_exec k_194 h_194 (j_run (d + 6)) M 38 [some (.ref 87), some (.int (j_k k)), some (.int (j_k m))] [] (ST L p I1 J1) = some (some (.int (j_k k)), ST L p (u2 I1 87 2 (j_k (k - p_first (fun m => decide (p_num (a_gn A) (p_fa A m) = p_num (a_gn A) (p_fa A k))) t m))) J1)) ∧
        (p_first (fun m => decide (p_num (a_gn A) (p_fa A m) = p_num (a_gn A) (p_fa A k))) t m = -9 → ∃ I2, j_exec k_194 h_194 (j_run (d + 6)) M 38 [some (.ref 87), some (.int (j_k k)), some (.int (j_k m))] [] (ST L p I1 J1) = j_exec k_194 h_194 (j_run (d + 6)) (M - t - 1) 18 [some (.ref 87), some (.int (j_k (k + 1))), none] [] (ST L p I2 J1) ∧ iM1 I2 4 (a_gn A) (p_fa A (k + 1)) ∧ frP (a_gn A) 4 I0 I2) := by
      intro t
      induction t with
      | zero =>
        intro M k m I1 J1 k1 k2 m1 m2 hM hj hi hfr
        obtain ⟨M, rfl⟩ : ∃ q, M = q + 1 := ⟨M - 1, by omega⟩
        have z : ¬ m < k := by omega
        refine ⟨fun u => absurd rfl u, fun _ => ?_⟩
        obtain ⟨I2, t1, t2, t3, -⟩ := n_step (L := L) (p := p) (d := d) (J := J1) (q := 4) (by decide) (by decide) (hfr.m (s3.m hm)) hi (okf k k1 (by omega)) (by decide)
        refine ⟨I2, ?_, ?_, hfr.tr t3⟩
        · rw [x_exec, t_194_38]
          simp (disch := first | assumption | omega) only [k_add, k_sub, k_mul, k_lt, k_eq, k_lt0, k_0lt, k_eq0, k_nat, k_b0, k_b1, k_z1, k_z0, k_o1, k_o0, Int.reduceEq, Int.reduceLT, Int.reduceLE, Int.reduceAdd, Int.reduceMul, Int.reduceNeg, Bool.false_eq_true, or_true, true_or, or_false, false_or, and_true, true_and, and_false, false_and, not_true_eq_false, not_false_eq_true, ↓reduceIte, z_0, z_k, s_I, s_J, s_uI, s_uJ, z, ↓c_oc_87, ↓jc1 t1]
          rfl
        · have : p_fa A (k + 1) = p_stepF (a_gw A) (a_gh A) (a_gr A) (a_gn A) (a_kd A) (p_fa A k) := by
            unfold p_fa
            rw [show (k + 1).toNat = k.toNat + 1 by omega]
            rfl
          rw [this]
          exact t2
      | succ t ih =>
        intro M k m I1 J1 k1 k2 m1 m2 hM hj hi hfr
        obtain ⟨M, rfl⟩ : ∃ q, M = q + 1 := ⟨M - 1, by omega⟩
        have z : m < k := by omega
        have m3 : m < 201 := by omega
        have k3 : k < 201 := by omega
        have ja := hj m m1 (by omega)
        have jb := hj k k1 (Int.le_refl _)
        have ce : (lg_cmp (lk (p_st (vv m) (p_fa A m 0 % 2))) (lk (p_st (vv k) (p_fa A k 0 % 2))) = 0) = (p_num (a_gn A) (p_fa A m) = p_num (a_gn A) (p_fa A k)) := by
          rw [lc_eq]
          exact propext (SE m k m1 (by omega) k1 (by omega))
        rw [x_exec, t_194_38, p_firstS]
        by_cases x : p_num (a_gn A) (p_fa A m) = p_num (a_gn A) (p_fa A k)
        · rw [if_pos (decide_eq_true x)]
          refine ⟨fun _ => ?_, fun u => absurd u (by omega)⟩
          have T := n_tells (L := L) (p := p) (d := d + 5) (I := I1) (J := J1) (v := j_k (k - m)) (x := j_k k)
          have ce1 : (lg_cmp (lk (p_st (vv m) (p_fa A m 0 % 2))) (lk (p_st (vv k) (p_fa A k 0 % 2))) = 0) = True := by
            rw [ce]
            exact eq_true x
          simp (disch := first | assumption | omega) only [k_add, k_sub, k_mul, k_lt, k_eq, k_lt0, k_0lt, k_eq0, k_nat, k_b0, k_b1, k_z1, k_z0, k_o1, k_o0, Int.reduceEq, Int.reduceLT, Int.reduceLE, Int.reduceAdd, Int.reduceMul, Int.reduceNeg, Bool.false_eq_true, or_true, true_or, or_false, false_or, and_true, true_and, and_false, false_and, not_true_eq_false, not_false_eq_true, ↓reduceIte, z_0, z_k, s_I, s_J, s_uI, s_uJ, z, ↓c_gP_87_31, ↓c_la_102, ja, jb, ce1, ↓c_oc_87, ↓jc1 T]
        · rw [if_neg (by rw [decide_eq_true_iff]; exact x)]
          obtain ⟨i1, i2⟩ := ih M k (m + 1) I1 J1 k1 k2 (by omega) (by omega) (by omega) hj hi hfr
          simp (disch := first | assumption | omega) only [k_add, k_sub, k_mul, k_lt, k_eq, k_lt0, k_0lt, k_eq0, k_nat, k_b0, k_b1, k_z1, k_z0, k_o1, k_o0, Int.reduceEq, Int.reduceLT, Int.reduceLE, Int.reduceAdd, Int.reduceMul, Int.reduceNeg, Bool.false_eq_true, or_true, true_or, or_false, false_or, and_true, true_and, and_false, false_and, not_true_eq_false, not_false_eq_true, ↓reduceIte, z_0, z_k, s_I, s_J, s_uI, s_uJ, z, ↓c_gP_87_31, ↓c_la_102, ja, jb, ce, x]
          refine ⟨i1, fun u => ?_⟩
          obtain ⟨I2, a1, a2⟩ := i2 u
          refine ⟨I2, ?_, a2⟩
          rw [show M + 1 - (t + 1) - 1 = M - t - 1 by omega]
          exact a1
    have outer : ∀ (t M : Nat) (k : Int) (I1 : Nat → Nat → Int32) (J1 : Nat → Nat → Int64), 0 ≤ k → k + t = 201 → 300 * t + 1 < M → (∀ j : Int, 0 ≤ j → j < k → J1 102 j.toNat = lk (p_st (vv j) (p_fa A j 0 % 2))) → iM1 I1 4 (a_gn A) (p_fa A k) → frP (a_gn A) 4 I0 I1 → (∀ q, q ≠ 102 → J1 q = J q) →
        (p_first (fun k => decide (p_again A k ≠ -9)) t k ≠ -9 → ∃ I2 J2, j_exec k_194 h_194 (j_run (d + 6)) M 18 [some (.ref 87), some (.int (j_k k)), none] [] (ST L p I1 J1) = some (some (.int (j_k (p_first (fun k => decide (p_again A k ≠ -9)) t k))), ST L p (u2 I2 87 2 (j_k (p_first (fun k => decide (p_again A k ≠ -9)) t k - p_again A (p_first (fun k => decide (p_again A k ≠ -9)) t k)))) J2) ∧ frP (a_gn A) 4 I0 I2 ∧ ∀ q, q ≠ 102 → J2 q = J q) ∧
        (p_first (fun k => decide (p_again A k ≠ -9)) t k = -9 → ∃ I2 J2, j_exec k_194 h_194 (j_run (d + 6)) M 18 [some (.ref 87), some (.int (j_k k)), none] [] (ST L p I1 J1) = some (some (.int (j_k (-9))), ST L p I2 J2) ∧ frP (a_gn A) 4 I0 I2 ∧ ∀ q, q ≠ 102 → J2 q = J q) := by
      intro t
      induction t with
      | zero =>
        intro M k I1 J1 k1 k2 hM hj hi hfr hJ
        obtain ⟨M, rfl⟩ : ∃ q, M = q + 1 := ⟨M - 1, by omega⟩
        have z : 200 < k := by omega
        refine ⟨fun u => absurd rfl u, fun _ => ⟨I1, J1, ?_, hfr, hJ⟩⟩
        rw [x_exec, t_194_18]
        simp (disch := first | assumption | omega) only [k_add, k_sub, k_mul, k_lt, k_eq, k_lt0, k_0lt, k_eq0, k_nat, k_b0, k_b1, k_z1, k_z0, k_o1, k_o0, Int.reduceEq, Int.reduceLT, Int.reduceLE, Int.reduceAdd, Int.reduceMul, Int.reduceNeg, Bool.false_eq_true, or_true, true_or, or_false, false_or, and_true, true_and, and_false, false_and, not_true_eq_false, not_false_eq_true, ↓reduceIte, z_0, z_k, s_I, s_J, s_uI, s_uJ, z]
      | succ t ih =>
        intro M k I1 J1 k1 k2 hM hj hi hfr hJ
        obtain ⟨M, rfl⟩ : ∃ q, M = q + 1 := ⟨M - 1, by omega⟩
        have z : ¬ 200 < k := by omega
        have k3 : k < 201 := by omega
        have qn := ST0 k I1 J1 k1 (by omega) hi hfr
        have hj2 : ∀ j : Int, 0 ≤ j → j ≤ k → u2 J1 102 k.toNat (lk (p_st (vv k) (p_fa A k 0 % 2))) 102 j.toNat = lk (p_st (vv j) (p_fa A j 0 % 2)) := fun j j1 j2 => by
          by_cases x : j = k
          · subst x
            rw [u2_ss]
          · rw [u2_k (by omega)]
            exact hj j j1 (by omega)
        have hJ2 : ∀ q, q ≠ 102 → u2 J1 102 k.toNat (lk (p_st (vv k) (p_fa A k 0 % 2))) q = J q := fun q hq => by
          rw [← hJ q hq]
          funext j
          rw [u2_r hq]
        obtain ⟨i1, i2⟩ := inner k.toNat M k 0 I1 (u2 J1 102 k.toNat (lk (p_st (vv k) (p_fa A k 0 % 2)))) k1 (by omega) (Int.le_refl 0) (by omega) (by omega) hj2 hi hfr
        rw [x_exec, t_194_18, p_firstS]
        simp (disch := first | assumption | omega) only [k_add, k_sub, k_mul, k_lt, k_eq, k_lt0, k_0lt, k_eq0, k_nat, k_b0, k_b1, k_z1, k_z0, k_o1, k_o0, Int.reduceEq, Int.reduceLT, Int.reduceLE, Int.reduceAdd, Int.reduceMul, Int.reduceNeg, Bool.false_eq_true, or_true, true_or, or_false, false_or, and_true, true_and, and_false, false_and, not_true_eq_false, not_false_eq_true, ↓reduceIte, z_0, z_k, s_I, s_J, s_uI, s_uJ, z, ↓c_gP_87_31, ↓c_oc_87, ↓jc2 qn, ↓c_lt_102, ↓c_la_102]
        by_cases x : p_again A k = -9
        · rw [if_neg (show ¬ decide (p_again A k ≠ -9) = true by rw [decide_eq_true_iff]; exact fun u => u x)]
          obtain ⟨I2, a1, a2, a3⟩ := i2 x
          obtain ⟨j1, j2⟩ := ih (M - k.toNat - 1) (k + 1) I2 (u2 J1 102 k.toNat (lk (p_st (vv k) (p_fa A k 0 % 2)))) (by omega) (by omega) (by omega) (fun j b1 b2 => hj2 j b1 (by omega)) a2 a3 hJ2
          refine ⟨fun u => ?_, fun u => ?_⟩
          · obtain ⟨I3, J3, c1, c2⟩ := j1 u
            exact ⟨I3, J3, a1.trans c1, c2⟩
          · obtain ⟨I3, J3, c1, c2⟩ := j2 u
            exact ⟨I3, J3, a1.trans c1, c2⟩
        · rw [if_pos (show decide (p_again A k ≠ -9) = true from decide_eq_true x)]
          exact ⟨fun _ => ⟨I1, _, i1 x, hfr, hJ2⟩, fun u => absurd u (by omega)⟩
    obtain ⟨M, hM, hMM⟩ : ∃ M : Nat, M = 999999 ∧ 300 * 201 + 1 < M := ⟨_, rfl, by omega⟩
    rw [← hM] at e
    obtain ⟨o1, o2⟩ := outer 201 M 0 I0 J (Int.le_refl 0) (by omega) hMM (fun j j1 j2 => absurd j2 (by omega)) s2 .rf (fun _ _ => rfl)
    have er : p_first (fun k => decide (p_again A k ≠ -9)) 201 0 = p_ringN A := rfl
    rw [er] at o1 o2
    have sm : ∀ (I2 : Nat → Nat → Int32) (J2 : Nat → Nat → Int64), frP (a_gn A) 4 I0 I2 → (∀ q, q ≠ 102 → J2 q = J q) → iM I2 J2 A ∧ ∀ r, (r < 87 ∨ 104 ≤ r) → I2 r = I r := fun I2 J2 a b => by
      have f : frT 30 4 I I2 := s3.tr (a.t (Int.le_refl _))
      exact ⟨hx.same f.k (f.2.1 0 (by decide)) (f.2.1 2 (by decide)) (f.1 88 (by decide) (by decide) (by decide)) (b 87 (by decide)), f.n⟩
    by_cases x : p_ringN A = -9
    · rw [if_pos x]
      obtain ⟨I2, J2, a1, a2, a3⟩ := o2 x
      exact ⟨I2, J2, e.trans a1, (sm I2 J2 a2 a3).1, (sm I2 J2 a2 a3).2, fun r hr => a3 r (by omega)⟩
    · rw [if_neg x]
      obtain ⟨I2, J2, a1, a2, a3⟩ := o1 x
      generalize p_ringN A = w at a1 ⊢
      generalize p_again A w = w2 at a1 ⊢
      exact ⟨_, J2, e.trans a1, (sm I2 J2 a2 a3).1.told, fun r hr => by rw [fr_told r hr]; exact (sm I2 J2 a2 a3).2 r hr, fun r hr => a3 r (by omega)⟩
end MCALLS6
