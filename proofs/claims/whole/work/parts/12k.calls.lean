/-! ===== the model's calls: drive, worth ===== -/
def ag (f f' : Fl) : Prop := ∀ i : Int, 0 ≤ i → i < 9 → f i = f' i
section AGREE
variable {w h n : Int} {gr kd f f' f0 f0' : Fl} {k c : Int} {gate : Bool}
theorem who_ag {b : Int} (a : ag f f') (n4 : n ≤ 4) : p_who n f c b = p_who n f' c b := by
  unfold p_who
  refine first_cg _ _ (fun j j1 j2 => ?_)
  rw [a (5 + j) (by omega) (by omega)]
theorem try_ag (a : ag f f') (n4 : n ≤ 4) : p_try gr n kd f k c gate = p_try gr n kd f' k c gate := by
  unfold p_try p_can
  rw [who_ag a n4]
theorem next_ag {aim : Int} (a : ag f f') (n4 : n ≤ 4) (k1 : 0 ≤ k) (k2 : k < n) : p_next w h gr n kd f k aim gate = p_next w h gr n kd f' k aim gate := by
  have e := a (5 + k) (by omega) (by omega)
  have t : ∀ c, p_try gr n kd f k c gate = p_try gr n kd f' k c gate := fun c => try_ag a n4
  unfold p_next p_two
  simp only [t, e]
theorem goTo_ag (a : ag f f') (k1 : 0 ≤ k) : ag (p_goTo gr f k c) (p_goTo gr f' k c) := by
  intro i i1 i2
  unfold p_goTo p_set
  show (if i = 9 + k then _ else if i = 5 + k then _ else f i) = (if i = 9 + k then _ else if i = 5 + k then _ else f' i)
  rw [if_neg (show ¬ i = 9 + k by omega), if_neg (show ¬ i = 9 + k by omega), a i i1 i2]
def rl (n : Int) (f0 f0' : Fl) (s s' : Ss) : Prop := ag s.1 s'.1 ∧ s.2 = s'.2 ∧ ∀ i : Int, 0 ≤ i → i < n → s.1 (9 + i) - f0 (9 + i) = s'.1 (9 + i) - f0' (9 + i)
theorem stepB_rl {s s' : Ss} (n4 : n ≤ 4) (k1 : 0 ≤ k) (k2 : k < n) (a0 : ag f0 f0') (r : rl n f0 f0' s s') : rl n f0 f0' (p_stepB w h gr n kd f0 k s) (p_stepB w h gr n kd f0' k s') := by
  obtain ⟨r1, r2, r3⟩ := r
  have am : p_aim kd f0 k = p_aim kd f0' k := by
    unfold p_aim
    rw [a0 4 (by decide) (by decide), a0 2 (by decide) (by decide)]
  unfold p_stepB
  rw [am, r2, a0 1 (by decide) (by decide), a0 0 (by decide) (by decide), r1 (5 + k) (by omega) (by omega), next_ag r1 n4 k1 k2]
  by_cases x : k = f0' 1 ∨ s'.1 (5 + k) = -9 ∨ (f0' 0 % 2 = 1 ∧ p_slow kd k = true)
  · rw [if_pos x, if_pos x]
    exact ⟨r1, r2, r3⟩
  · rw [if_neg x, if_neg x]
    by_cases y : p_next w h gr n kd s'.1 k (p_aim kd f0' k) s'.2.2.2.2 = -9
    · rw [if_pos y, if_pos y]
      exact ⟨r1, r2, r3⟩
    · rw [if_neg y, if_neg y]
      refine ⟨goTo_ag r1 k1, rfl, fun i i1 i2 => ?_⟩
      show p_goTo gr s.1 k _ (9 + i) - _ = p_goTo gr s'.1 k _ (9 + i) - _
      rw [goTo_went k1 (by omega) i1, goTo_went k1 (by omega) i1]
      have := r3 i i1 i2
      by_cases z : i = k
      · subst z
        rw [if_pos rfl, if_pos rfl]
        omega
      · rw [if_neg z, if_neg z]
        exact this
theorem stepL_rl (n4 : n ≤ 4) (a0 : ag f0 f0') : ∀ (m : Nat) (k : Int) (s s' : Ss), 0 ≤ k → k + m = n → rl n f0 f0' s s' → rl n f0 f0' (p_loop (p_stepB w h gr n kd f0) m k s) (p_loop (p_stepB w h gr n kd f0') m k s')
  | 0, k, s, s', _, _, r => r
  | m + 1, k, s, s', k1, k2, r => stepL_rl n4 a0 m (k + 1) _ _ (by omega) (by omega) (stepB_rl n4 k1 (by omega) a0 r)
theorem stepF_rl (n0 : 0 ≤ n) (n4 : n ≤ 4) (a0 : ag f0 f0') : ag (p_stepF w h gr n kd f0) (p_stepF w h gr n kd f0') ∧ p_stepW w h gr n kd f0 = p_stepW w h gr n kd f0' ∧ ∀ i : Int, 0 ≤ i → i < n → p_stepF w h gr n kd f0 (9 + i) - f0 (9 + i) = p_stepF w h gr n kd f0' (9 + i) - f0' (9 + i) := by
  have r := stepL_rl (w := w) (h := h) (gr := gr) (kd := kd) n4 a0 n.toNat 0 (f0, 0, -9, -9, false) (f0', 0, -9, -9, false) (Int.le_refl 0) (by omega) ⟨a0, rfl, fun i _ _ => by show f0 (9 + i) - f0 (9 + i) = f0' (9 + i) - f0' (9 + i); omega⟩
  obtain ⟨r1, r2, r3⟩ := r
  refine ⟨fun i i1 i2 => ?_, ?_, fun i i1 i2 => ?_⟩
  · show p_stepE (p_stepL w h gr n kd f0) i = p_stepE (p_stepL w h gr n kd f0') i
    have r1' : ag (p_stepL w h gr n kd f0).1 (p_stepL w h gr n kd f0').1 := r1
    have r2' : (p_stepL w h gr n kd f0).2 = (p_stepL w h gr n kd f0').2 := r2
    generalize p_stepL w h gr n kd f0 = s at r1' r2'
    generalize p_stepL w h gr n kd f0' = s' at r1' r2'
    have S : ag (p_set s.1 0 (s.1 0 + 1)) (p_set s'.1 0 (s'.1 0 + 1)) := by
      intro j j1 j2
      unfold p_set
      rw [r1' 0 (by decide) (by decide), r1' j j1 j2]
    unfold p_stepE
    rw [r2']
    by_cases z : s'.2.2.1 = -9
    · rw [if_pos z, if_pos z]
      exact S i i1 i2
    · rw [if_neg z, if_neg z]
      have S1 := S 1 (by decide) (by decide)
      have S2 := S 2 (by decide) (by decide)
      unfold p_bl
      rw [S1, S2]
      show (if i = 2 then _ else if i = 1 then _ else if i = 4 then _ else if i = 3 then _ else p_set s.1 0 (s.1 0 + 1) i) = (if i = 2 then _ else if i = 1 then _ else if i = 4 then _ else if i = 3 then _ else p_set s'.1 0 (s'.1 0 + 1) i)
      rw [S i i1 i2]
  · show (p_stepL w h gr n kd f0).2.1 = (p_stepL w h gr n kd f0').2.1
    have r2' : (p_stepL w h gr n kd f0).2 = (p_stepL w h gr n kd f0').2 := r2
    rw [r2']
  · unfold p_stepF
    rw [stepE_went i1, stepE_went i1]
    exact r3 i i1 i2
theorem run_rl (n0 : 0 ≤ n) (n4 : n ≤ 4) : ∀ (m : Nat) (st sp : Int) (f f' : Fl), ag f f' → ag (p_run w h gr n kd m st sp f).1 (p_run w h gr n kd m st sp f').1 ∧ ∀ i : Int, 0 ≤ i → i < n → (p_run w h gr n kd m st sp f).1 (9 + i) - f (9 + i) = (p_run w h gr n kd m st sp f').1 (9 + i) - f' (9 + i)
  | 0, st, sp, f, f', a => ⟨a, fun i _ _ => by show f (9 + i) - f (9 + i) = f' (9 + i) - f' (9 + i); omega⟩
  | m + 1, st, sp, f, f', a => by
    obtain ⟨s1, s2, s3⟩ := stepF_rl (w := w) (h := h) (gr := gr) (kd := kd) n0 n4 a
    unfold p_run
    by_cases x : st < 2
    · rw [if_pos x, if_pos x, s2]
      have r := run_rl n0 n4 m (if p_stepW w h gr n kd f' = 0 then st + 1 else 0) (sp + 1) _ _ s1
      refine ⟨r.1, fun i i1 i2 => ?_⟩
      have e1 := r.2 i i1 i2
      have e2 := s3 i i1 i2
      omega
    · rw [if_neg x, if_neg x]
      exact ⟨a, fun i _ _ => by show f (9 + i) - f (9 + i) = f' (9 + i) - f' (9 + i); omega⟩
end AGREE
/-- bits counted -/
def p_pc : Nat → Int32 → Int32 → Option Int32
  | 0, v, c => if v = 0 then some c else none
  | t + 1, v, c => if v = 0 then some c else p_pc t (v &&& (v - j_k 1)) (c + j_k 1)
def p_b4 (b0 b1 b2 b3 : Bool) : Nat := b0.toNat + 2 * b1.toNat + 4 * b2.toNat + 8 * b3.toNat
def p_sel (b0 b1 b2 b3 : Bool) (i : Nat) : Bool := if i = 0 then b0 else if i = 1 then b1 else if i = 2 then b2 else if i = 3 then b3 else false
theorem b4_bit : ∀ b0 b1 b2 b3 : Bool, ∀ i, i < 32 → bt (nI (p_b4 b0 b1 b2 b3)) i = p_sel b0 b1 b2 b3 i := by decide +kernel
theorem b4_pc : ∀ b0 b1 b2 b3 : Bool, p_pc 4 (nI (p_b4 b0 b1 b2 b3)) (j_k 0) = some (nI (b0.toNat + b1.toNat + b2.toNat + b3.toNat)) := by decide +kernel
section MCALLS5
variable {L p d : Nat} {I : Nat → Nat → Int32} {J : Nat → Nat → Int64} {A : Ast}
theorem n_pc {σ : Sto} {v0 : Int32} : ∀ (t M : Nat) (v c r : Int32), p_pc t v c = some r → j_exec k_129 h_129 (j_run d) (M + t + 1) 4 [some (.int v0), some (.int c), some (.int v)] [] σ = some (some (.int r), σ)
  | 0, M, v, c, r, h => by
    unfold p_pc at h
    rw [x_exec, t_129_4]
    by_cases z : v = 0
    · rw [if_pos z] at h ⊢
      cases h
      rfl
    · rw [if_neg z] at h
      cases h
  | t + 1, M, v, c, r, h => by
    unfold p_pc at h
    rw [show M + (t + 1) + 1 = M + t + 1 + 1 by omega, x_exec, t_129_4]
    by_cases z : v = 0
    · rw [if_pos z] at h ⊢
      cases h
      rfl
    · rw [if_neg z] at h ⊢
      exact n_pc t M _ _ r h
theorem n_bits {σ : Sto} {n : Int} {g f : Fl} {v : Int32} (n0 : 0 ≤ n) (n4 : n ≤ 4) (hv : wentI n g f v) : j_run (d + 1) 129 [.int v] σ = some (some (.int (j_k (p_wcnt n (fun i => f i - g i)))), σ) := by
  have e : v = nI (p_b4 (decide (0 < n ∧ g (9 + 0) < f (9 + 0))) (decide (1 < n ∧ g (9 + 1) < f (9 + 1))) (decide (2 < n ∧ g (9 + 2) < f (9 + 2))) (decide (3 < n ∧ g (9 + 3) < f (9 + 3)))) := by
    refine b_ext fun i hi => ?_
    rw [b4_bit _ _ _ _ i hi]
    have hb := hv.2 i (by omega) (by omega)
    rw [Int.toNat_natCast] at hb
    unfold p_sel
    by_cases i0 : i = 0
    · subst i0
      rw [if_pos rfl, Bool.eq_iff_iff, hb, decide_eq_true_iff]
      exact Iff.rfl
    · by_cases i1 : i = 1
      · subst i1
        rw [if_neg i0, if_pos rfl, Bool.eq_iff_iff, hb, decide_eq_true_iff]
        exact Iff.rfl
      · by_cases i2 : i = 2
        · subst i2
          rw [if_neg i0, if_neg i1, if_pos rfl, Bool.eq_iff_iff, hb, decide_eq_true_iff]
          exact Iff.rfl
        · by_cases i3 : i = 3
          · subst i3
            rw [if_neg i0, if_neg i1, if_neg i2, if_pos rfl, Bool.eq_iff_iff, hb, decide_eq_true_iff]
            exact Iff.rfl
          · rw [if_neg i0, if_neg i1, if_neg i2, if_neg i3, Bool.eq_false_iff]
            exact fun u => by have := (hb.mp u).1; omega
  have c : p_wcnt n (fun i => f i - g i) = (((decide (0 < n ∧ g (9 + 0) < f (9 + 0))).toNat + (decide (1 < n ∧ g (9 + 1) < f (9 + 1))).toNat + (decide (2 < n ∧ g (9 + 2) < f (9 + 2))).toNat + (decide (3 < n ∧ g (9 + 3) < f (9 + 3))).toNat : Nat) : Int) := by
    have step : ∀ (x y s : Int), (if 0 < x - y then s + 1 else s) = s + (((decide (y < x)).toNat : Nat) : Int) := fun x y s => by
      by_cases z : y < x
      · rw [if_pos (by omega), decide_eq_true z]
        rfl
      · rw [if_neg (by omega), decide_eq_false z]
        show s = s + 0
        omega
    unfold p_wcnt
    rcases (show n = 0 ∨ n = 1 ∨ n = 2 ∨ n = 3 ∨ n = 4 by omega) with rfl | rfl | rfl | rfl | rfl
    · rfl
    · show (if 0 < f (9 + 0) - g (9 + 0) then (0 : Int) + 1 else 0) = _
      rw [step]
      simp only [show ((0 : Int) < 1) = True by decide, show ((1 : Int) < 1) = False by decide, show ((2 : Int) < 1) = False by decide, show ((3 : Int) < 1) = False by decide, true_and, false_and, decide_false, Bool.toNat_false]
      omega
    · show (if 0 < f (9 + (0 + 1)) - g (9 + (0 + 1)) then (if 0 < f (9 + 0) - g (9 + 0) then (0 : Int) + 1 else 0) + 1 else (if 0 < f (9 + 0) - g (9 + 0) then (0 : Int) + 1 else 0)) = _
      rw [step, step]
      simp only [show ((0 : Int) < 2) = True by decide, show ((1 : Int) < 2) = True by decide, show ((2 : Int) < 2) = False by decide, show ((3 : Int) < 2) = False by decide, true_and, false_and, decide_false, Bool.toNat_false, show (0 : Int) + 1 = 1 by decide]
      omega
    · show (if 0 < f (9 + (0 + 1 + 1)) - g (9 + (0 + 1 + 1)) then (if 0 < f (9 + (0 + 1)) - g (9 + (0 + 1)) then (if 0 < f (9 + 0) - g (9 + 0) then (0 : Int) + 1 else 0) + 1 else (if 0 < f (9 + 0) - g (9 + 0) then (0 : Int) + 1 else 0)) + 1 else (if 0 < f (9 + (0 + 1)) - g (9 + (0 + 1)) then (if 0 < f (9 + 0) - g (9 + 0) then (0 : Int) + 1 else 0) + 1 else (if 0 < f (9 + 0) - g (9 + 0) then (0 : Int) + 1 else 0))) = _
      rw [step, step, step]
      simp only [show ((0 : Int) < 3) = True by decide, show ((1 : Int) < 3) = True by decide, show ((2 : Int) < 3) = True by decide, show ((3 : Int) < 3) = False by decide, true_and, false_and, decide_false, Bool.toNat_false, show (0 : Int) + 1 = 1 by decide, show (1 : Int) + 1 = 2 by decide]
      omega
    · show (if 0 < f (9 + (0 + 1 + 1 + 1)) - g (9 + (0 + 1 + 1 + 1)) then (if 0 < f (9 + (0 + 1 + 1)) - g (9 + (0 + 1 + 1)) then (if 0 < f (9 + (0 + 1)) - g (9 + (0 + 1)) then (if 0 < f (9 + 0) - g (9 + 0) then (0 : Int) + 1 else 0) + 1 else (if 0 < f (9 + 0) - g (9 + 0) then (0 : Int) + 1 else 0)) + 1 else (if 0 < f (9 + (0 + 1)) - g (9 + (0 + 1)) then (if 0 < f (9 + 0) - g (9 + 0) then (0 : Int) + 1 else 0) + 1 else (if 0 < f (9 + 0) - g (9 + 0) then (0 : Int) + 1 else 0))) + 1 else (if 0 < f (9 + (0 + 1 + 1)) - g (9 + (0 + 1 + 1)) then (if 0 < f (9 + (0 + 1)) - g (9 + (0 + 1)) then (if 0 < f (9 + 0) - g (9 + 0) then (0 : Int) + 1 else 0) + 1 else (if 0 < f (9 + 0) - g (9 + 0) then (0 : Int) + 1 else 0)) + 1 else (if 0 < f (9 + (0 + 1)) - g (9 + (0 + 1)) then (if 0 < f (9 + 0) - g (9 + 0) then (0 : Int) + 1 else 0) + 1 else (if 0 < f (9 + 0) - g (9 + 0) then (0 : Int) + 1 else 0)))) = _
      rw [step, step, step, step]
      simp only [show ((0 : Int) < 4) = True by decide, show ((1 : Int) < 4) = True by decide, show ((2 : Int) < 4) = True by decide, show ((3 : Int) < 4) = True by decide, true_and, show (0 : Int) + 1 = 1 by decide, show (1 : Int) + 1 = 2 by decide, show (2 : Int) + 1 = 3 by decide]
      omega
  rw [c, ← nI_k, e]
  obtain ⟨M, hM, hM2⟩ : ∃ M, M = 999999 ∧ 100 < M := ⟨999999, rfl, by decide⟩
  have q := r_129 d σ (nI (p_b4 (decide (0 < n ∧ g (9 + 0) < f (9 + 0))) (decide (1 < n ∧ g (9 + 1) < f (9 + 1))) (decide (2 < n ∧ g (9 + 2) < f (9 + 2))) (decide (3 < n ∧ g (9 + 3) < f (9 + 3)))))
  rw [t_129_0, ← hM, show M = (M - 5) + 4 + 1 by omega] at q
  exact q.trans (n_pc 4 (M - 5) _ _ _ (b4_pc _ _ _ _))
theorem n_wentIn {n q : Int} {f : Fl} (q1 : 0 ≤ q) (q2 : q < 9) (hn : I 87 13 = j_k n) (n0 : 0 ≤ n) (n4 : n ≤ 4) (hf : iM1 I q n f) : j_run (d + 2) 212 [.ref 87, .int (j_k q)] (ST L p I J) = some (some (.int (j_k (p_wsum n f))), ST L p I J) := by
  have loop : ∀ (t M : Nat) (i s : Int), 0 ≤ i → i + t = n → t < M → j_exec k_212 h_212 (j_run (d + 1)) M 4 [some (.ref 87), some (.int (j_k q)), some (.int (j_k s)), some (.int (j_k i))] [] (ST L p I J) = some (some (.int (j_k (p_loop (fun i s => s + f (9 + i)) t i s))), ST L p I J) := by
    intro t
    induction t with
    | zero =>
      intro M i s i1 i2 hM
      obtain ⟨M, rfl⟩ : ∃ q, M = q + 1 := ⟨M - 1, by omega⟩
      have z : ¬ i < n := by omega
      rw [x_exec, t_212_4]
      simp (disch := first | assumption | omega) only [k_add, k_sub, k_mul, k_lt, k_eq, k_lt0, k_0lt, k_eq0, k_nat, k_b0, k_b1, k_z1, k_z0, k_o1, k_o0, Int.reduceEq, Int.reduceLT, Int.reduceLE, Int.reduceAdd, Int.reduceMul, Int.reduceNeg, Bool.false_eq_true, or_true, true_or, or_false, false_or, and_true, true_and, and_false, false_and, not_true_eq_false, not_false_eq_true, ↓reduceIte, z_0, z_k, s_I, s_J, s_uI, s_uJ, ↓c_oc_87, hn, z]
      rfl
    | succ t ih =>
      intro M i s i1 i2 hM
      obtain ⟨M, rfl⟩ : ∃ q, M = q + 1 := ⟨M - 1, by omega⟩
      have z : i < n := by omega
      have v := n_v (L := L) (p := p) (d := d) (I := I) (J := J) q1 q2 (show 0 ≤ 9 + i by omega) (show 9 + i < 13 by omega)
      rw [hf.2.2 i i1 z] at v
      rw [x_exec, t_212_4, p_loopS]
      simp (disch := first | assumption | omega) only [k_add, k_sub, k_mul, k_lt, k_eq, k_lt0, k_0lt, k_eq0, k_nat, k_b0, k_b1, k_z1, k_z0, k_o1, k_o0, Int.reduceEq, Int.reduceLT, Int.reduceLE, Int.reduceAdd, Int.reduceMul, Int.reduceNeg, Bool.false_eq_true, or_true, true_or, or_false, false_or, and_true, true_and, and_false, false_and, not_true_eq_false, not_false_eq_true, ↓reduceIte, z_0, z_k, s_I, s_J, s_uI, s_uJ, ↓c_oc_87, hn, z, ↓jc1 v]
      exact ih M (i + 1) _ (by omega) (by omega) (by omega)
  rw [r_212, t_212_0]
  exact loop n.toNat 999999 0 0 (Int.le_refl 0) (by omega) (by omega)
theorem wsum_sub {n : Int} {f g : Fl} : p_wsum n f - p_wsum n g = p_wsum n (fun i => f i - g i) := by
  have l : ∀ (m : Nat) (k a b : Int), p_loop (fun i s => s + f (9 + i)) m k a - p_loop (fun i s => s + g (9 + i)) m k b = p_loop (fun i s => s + (f (9 + i) - g (9 + i))) m k (a - b) := by
    intro m
    induction m with
    | zero => exact fun k a b => rfl
    | succ m ih =>
      intro k a b
      rw [p_loopS, p_loopS, p_loopS, ih, show a + f (9 + k) - (b + g (9 + k)) = a - b + (f (9 + k) - g (9 + k)) by omega]
  exact l n.toNat 0 0 0
theorem loop_cg {α : Type} {b b' : Int → α → α} {n : Int} (hb : ∀ k s, 0 ≤ k → k < n → b k s = b' k s) : ∀ (m : Nat) (k : Int) (s : α), 0 ≤ k → k + m = n → p_loop b m k s = p_loop b' m k s
  | 0, k, s, _, _ => rfl
  | m + 1, k, s, k1, k2 => by
    rw [p_loopS, p_loopS, hb k s k1 (by omega)]
    exact loop_cg hb m (k + 1) _ (by omega) (by omega)
theorem n_worth (hx : iM I J A) {k b : Int} (h1 : -2147483648 ≤ k) (h2 : k < 2147483648) (h3 : -2147483648 ≤ b) (h4 : b < 2147483648) : mc L p I J (d + 8) 213 [.ref 87, .int (j_k k), .int (j_k b)] (p_worth k b A) := by
  have hC := hx.1.1
  have ho := hx.1.2.1
  have hm := hx.2.2.2.1
  have hf := hx.2.2.2.2.1
  have n0 := hC.2.2.1
  have n4 := hC.2.2.2.1
  have hw := hm.2.1
  have hN := hm.2.2.1
  have hn := hm.2.2.2.1
  have hk := hm.2.2.2.2.1
  have hg := hm.2.2.2.2.2
  obtain ⟨bN0, bN1, -⟩ := bd_N hC
  have a1 := n_isBeast (L := L) (p := p) (d := d + 5) (J := J) hn n0 n4 h1 h2
  have a2 := n_in (L := L) (p := p) (d := d + 6) (I := I) (J := J) (v := b) (lo := 0) (hi := 3) h3 h4 (by decide) (by decide) (by decide) (by decide)
  have e := (r_213 (d + 7) (ST L p I J) 87 (j_k k) (j_k b)).trans (t_213_0 _ _ _ _ _ _)
  unfold p_worth
  by_cases x : 0 ≤ k ∧ k ≤ a_gn A - 1
  · have z : j_z (0 ≤ k ∧ k ≤ a_gn A - 1) = j_k 1 := if_pos x
    rw [z] at a1
    by_cases y : 0 ≤ b ∧ b ≤ 3
    · have z2 : j_z (0 ≤ b ∧ b ≤ 3) = j_k 1 := if_pos y
      rw [z2] at a2
      obtain ⟨k1, k2⟩ := x
      obtain ⟨y1, y2⟩ := y
      have k3 : k < a_gn A := by omega
      have y3 : b < 4 := by omega
      rw [if_pos ⟨⟨k1, k3⟩, y1, y3⟩]
      obtain ⟨I1, t1, t2, t3⟩ := n_tried (L := L) (p := p) (d := d + 5) hx
      obtain ⟨I2, s1, s2, s3, s4⟩ := n_stirs (L := L) (p := p) (d := d + 2) (J := J) (q := 4) (k := k) (y := b) (by decide) (by decide) (t3.m hm) t2 ho k1 k3 y1 y3
      have fr2 : frT 30 4 I I2 := t3.tr (s2.p.t (Int.le_refl _))
      by_cases w : p_stir (a_gw A) (a_gh A) (a_gr A) (a_gn A) (a_kd A) (a_fl A) k b = -9
      · have w2 : j_z (p_stir (a_gw A) (a_gh A) (a_gr A) (a_gn A) (a_kd A) (a_fl A) k b ≠ -9) = j_k 0 := if_neg (fun u => u w)
        rw [w2] at s1
        rw [if_pos w]
        simp (disch := first | assumption | omega) only [k_add, k_sub, k_mul, k_lt, k_eq, k_lt0, k_0lt, k_eq0, k_nat, k_b0, k_b1, k_z1, k_z0, k_o1, k_o0, Int.reduceEq, Int.reduceLT, Int.reduceLE, Int.reduceAdd, Int.reduceMul, Int.reduceNeg, Bool.false_eq_true, or_true, true_or, or_false, false_or, and_true, true_and, and_false, false_and, not_true_eq_false, not_false_eq_true, ↓reduceIte, z_0, z_k, s_I, s_J, s_uI, s_uJ, ↓c_oc_87, ↓jc1 a1, ↓jc1 a2, ↓jc0 t1, ↓jc1 s1] at e
        exact .of ⟨_, e, fr2.x hx, fr2.n⟩
      · have w2 : j_z (p_stir (a_gw A) (a_gh A) (a_gr A) (a_gn A) (a_kd A) (a_fl A) k b ≠ -9) = j_k 1 := if_pos w
        rw [w2] at s1
        rw [if_neg w]
        have v1 := (s4 w).1
        obtain ⟨o1, o2, o3⟩ := stir_ok hC ho k1 k3 y1 y3 w
        have hm2 := fr2.m hm
        obtain ⟨I3, u1', u2', u3, u4, u5⟩ := n_runs (L := L) (p := p) (d := d) (J := J) (q := 4) (by decide) (by decide) hm2 v1 o3 (by decide)
        have fr3 : frT 30 4 I I3 := fr2.tr (u3.t (Int.le_refl _))
        have W1 := n_wentIn (L := L) (p := p) (d := d + 5) (I := I2) (J := J) (q := 4) (by decide) (by decide) hm2.2.2.2.1 n0 n4 v1
        have W2 := n_wentIn (L := L) (p := p) (d := d + 5) (I := I3) (J := J) (q := 4) (by decide) (by decide) (fr3.m hm).2.2.2.1 n0 n4 u2'
        have Bt := n_bits (d := d + 6) (σ := ST L p I3 J) n0 n4 u5
        -- the same run from a flock whose counts are forgotten
        have E : ∀ i : Int, 0 ≤ i → i < a_gn A → p_worF k b A (9 + i) = (p_runs (a_gw A) (a_gh A) (a_gr A) (a_gn A) (a_kd A) (p_stirF (a_gr A) (a_fl A) k (p_stir (a_gw A) (a_gh A) (a_gr A) (a_gn A) (a_kd A) (a_fl A) k b))).1 (9 + i) - (p_stirF (a_gr A) (a_fl A) k (p_stir (a_gw A) (a_gh A) (a_gr A) (a_gn A) (a_kd A) (a_fl A) k b)) (9 + i) := fun i i1 i2 => by
          have r := (run_rl (w := a_gw A) (h := a_gh A) (gr := a_gr A) (kd := a_kd A) n0 n4 40 0 0 (p_stirF (a_gr A) (a_fl A) k (p_stir (a_gw A) (a_gh A) (a_gr A) (a_gn A) (a_kd A) (a_fl A) k b)) (p_fg (p_stirF (a_gr A) (a_fl A) k (p_stir (a_gw A) (a_gh A) (a_gr A) (a_gn A) (a_kd A) (a_fl A) k b))) (fun i i1 i2 => (fg_lo i2).symm)).2 i i1 i2
          rw [fg_hi (by omega)] at r
          unfold p_worF p_runs
          omega
        generalize p_stirF (a_gr A) (a_fl A) k (p_stir (a_gw A) (a_gh A) (a_gr A) (a_gn A) (a_kd A) (a_fl A) k b) = g at *
        generalize (p_runs (a_gw A) (a_gh A) (a_gr A) (a_gn A) (a_kd A) g).1 = R at *
        have C1 : p_wcnt (a_gn A) (p_worF k b A) = p_wcnt (a_gn A) (fun i => R i - g i) := by
          unfold p_wcnt
          refine loop_cg (n := a_gn A) (fun i s i1 i2 => ?_) _ _ _ (Int.le_refl 0) (by omega)
          rw [E i i1 i2]
        have C2 : p_wsum (a_gn A) (p_worF k b A) = p_wsum (a_gn A) R - p_wsum (a_gn A) g := by
          rw [wsum_sub]
          unfold p_wsum
          refine loop_cg (n := a_gn A) (fun i s i1 i2 => ?_) _ _ _ (Int.le_refl 0) (by omega)
          rw [E i i1 i2]
        rw [C1, C2]
        have T := n_tells (L := L) (p := p) (d := d + 6) (I := I3) (J := J) (v := j_k (p_wsum (a_gn A) R - p_wsum (a_gn A) g)) (x := j_k (p_wcnt (a_gn A) (fun i => R i - g i)))
        simp (disch := first | assumption | omega) only [k_add, k_sub, k_mul, k_lt, k_eq, k_lt0, k_0lt, k_eq0, k_nat, k_b0, k_b1, k_z1, k_z0, k_o1, k_o0, Int.reduceEq, Int.reduceLT, Int.reduceLE, Int.reduceAdd, Int.reduceMul, Int.reduceNeg, Bool.false_eq_true, or_true, true_or, or_false, false_or, and_true, true_and, and_false, false_and, not_true_eq_false, not_false_eq_true, ↓reduceIte, z_0, z_k, s_I, s_J, s_uI, s_uJ, ↓c_oc_87, ↓jc1 a1, ↓jc1 a2, ↓jc0 t1, ↓jc1 s1, ↓jc1 W1, ↓jc1 u1', ↓jc1 W2, ↓jc1 Bt, ↓jc1 T] at e
        refine .of ⟨_, e, (fr3.x hx).told, fun r a => ?_⟩
        rw [fr_told r a]
        exact fr3.n r a
    · have z2 : j_z (0 ≤ b ∧ b ≤ 3) = j_k 0 := if_neg y
      rw [z2] at a2
      rw [if_neg (fun u => y (by omega))]
      simp (disch := first | assumption | omega) only [k_add, k_sub, k_mul, k_lt, k_eq, k_lt0, k_0lt, k_eq0, k_nat, k_b0, k_b1, k_z1, k_z0, k_o1, k_o0, Int.reduceEq, Int.reduceLT, Int.reduceLE, Int.reduceAdd, Int.reduceMul, Int.reduceNeg, Bool.false_eq_true, or_true, true_or, or_false, false_or, and_true, true_and, and_false, false_and, not_true_eq_false, not_false_eq_true, ↓reduceIte, z_0, z_k, s_I, s_J, s_uI, s_uJ, ↓c_oc_87, ↓jc1 a1, ↓jc1 a2] at e
      exact .no hx e
  · have z : j_z (0 ≤ k ∧ k ≤ a_gn A - 1) = j_k 0 := if_neg x
    rw [z] at a1
    rw [if_neg (fun u => x (by omega))]
    simp (disch := first | assumption | omega) only [k_add, k_sub, k_mul, k_lt, k_eq, k_lt0, k_0lt, k_eq0, k_nat, k_b0, k_b1, k_z1, k_z0, k_o1, k_o0, Int.reduceEq, Int.reduceLT, Int.reduceLE, Int.reduceAdd, Int.reduceMul, Int.reduceNeg, Bool.false_eq_true, or_true, true_or, or_false, false_or, and_true, true_and, and_false, false_and, not_true_eq_false, not_false_eq_true, ↓reduceIte, z_0, z_k, s_I, s_J, s_uI, s_uJ, ↓c_oc_87, ↓jc1 a1] at e
    exact .no hx e
theorem n_driveC (hx : iM I J A) {r : Int} (h1 : -2147483648 ≤ r) (h2 : r < 2147483648) : mc L p I J (d + 9) 215 [.ref 87, .int (j_k r)] (p_driveC r A) := by
  have hC := hx.1.1
  have ho := hx.1.2.1
  have hm := hx.2.2.2.1
  have hf := hx.2.2.2.2.1
  have n0 := hC.2.2.1
  have n4 := hC.2.2.2.1
  have hw := hm.2.1
  have hN := hm.2.2.1
  have hn := hm.2.2.2.1
  have hk := hm.2.2.2.2.1
  have hg := hm.2.2.2.2.2
  obtain ⟨bN0, bN1, -⟩ := bd_N hC
  have a1 := n_isRow (L := L) (p := p) (d := d + 6) (I := I) (J := J) h1 h2
  have e := (r_215 (d + 8) (ST L p I J) 87 (j_k r)).trans (t_215_0 _ _ _ _ _)
  unfold p_driveC
  by_cases x : 0 ≤ r ∧ r ≤ 5
  · have z : j_z (0 ≤ r ∧ r ≤ 5) = j_k 1 := if_pos x
    rw [z] at a1
    obtain ⟨r1, r2⟩ := x
    have r3 : r < 6 := by omega
    have hr := (hx.2.1 r r1 r3).1
    have br := hx.1.2.2.2.1 r r1 r3
    have br1 := br.1
    have br2 := br.2
    have f0 := ho.2.2.2.2.2.1
    have f1 := ho.2.2.2.2.2.2
    rw [if_pos ⟨r1, r3⟩]
    by_cases w : a_N A = 0
    · rw [if_pos w]
      rw [w] at hN
      simp (disch := first | assumption | omega) only [k_add, k_sub, k_mul, k_lt, k_eq, k_lt0, k_0lt, k_eq0, k_nat, k_b0, k_b1, k_z1, k_z0, k_o1, k_o0, Int.reduceEq, Int.reduceLT, Int.reduceLE, Int.reduceAdd, Int.reduceMul, Int.reduceNeg, Bool.false_eq_true, or_true, true_or, or_false, false_or, and_true, true_and, and_false, false_and, not_true_eq_false, not_false_eq_true, ↓reduceIte, z_0, z_k, s_I, s_J, s_uI, s_uJ, ↓jc1 a1, ↓c_oc_87, hN] at e
      exact .no hx e
    · rw [if_neg w]
      by_cases y : a_rz A r = -1
      · rw [if_pos y]
        obtain ⟨I', e1, e2, e3⟩ := n_meets (L := L) (p := p) (d := d + 7) hx (q := 1) (by decide) (by decide)
        simp (disch := first | assumption | omega) only [k_add, k_sub, k_mul, k_lt, k_eq, k_lt0, k_0lt, k_eq0, k_nat, k_b0, k_b1, k_z1, k_z0, k_o1, k_o0, Int.reduceEq, Int.reduceLT, Int.reduceLE, Int.reduceAdd, Int.reduceMul, Int.reduceNeg, Bool.false_eq_true, or_true, true_or, or_false, false_or, and_true, true_and, and_false, false_and, not_true_eq_false, not_false_eq_true, ↓reduceIte, z_0, z_k, s_I, s_J, s_uI, s_uJ, ↓jc1 a1, ↓c_oc_87, hN, w, ↓c_gP_87_5, ↓c_ia_89, hr, y, ↓jc1 e1] at e
        exact .meets e2 e3 e
      · have y' : ¬ a_rz A r < 0 := by omega
        rw [if_neg y]
        have one : ∀ (t M : Nat) (k : Int) (s : Bool), 0 ≤ k → k + t = a_rz A r → j_exec k_215 h_215 (j_run (d + 8)) (M + t) 38 [some (.ref 87), some (.int (j_k r)), some (.int (j_z (s = true))), some (.int (j_k k))] [] (ST L p I J) = j_exec k_215 h_215 (j_run (d + 8)) M 38 [some (.ref 87), some (.int (j_k r)), some (.int (j_z (s = true ∧ p_first (fun i => decide (¬ (0 ≤ (a_rv A r i).toInt ∧ (a_rv A r i).toInt < 4 * a_gn A))) t k = -9))), some (.int (j_k (a_rz A r)))] [] (ST L p I J) := by
          intro t
          induction t with
          | zero =>
            intro M k s k1 k2
            have kz : k = a_rz A r := by omega
            rw [p_first0, kz, show j_z (s = true ∧ (-9 : Int) = -9) = j_z (s = true) from by simp only [and_true]]
            rfl
          | succ t ih =>
            intro M k s k1 k2
            have z : k < a_rz A r := by omega
            have i0 := ih M (k + 1) false (by omega) (by omega)
            have i1 := ih M (k + 1) true (by omega) (by omega)
            rw [z_f, show j_z (false = true ∧ p_first (fun i => decide (¬ (0 ≤ (a_rv A r i).toInt ∧ (a_rv A r i).toInt < 4 * a_gn A))) t (k + 1) = -9) = j_k 0 from if_neg (fun u => absurd u.1 Bool.false_ne_true)] at i0
            rw [z_t, z_tt] at i1
            rw [show M + (t + 1) = M + t + 1 by omega, x_exec, t_215_38, p_firstS]
            cases s
            · rw [z_f, show j_z (false = true ∧ (if decide (¬ (0 ≤ (a_rv A r k).toInt ∧ (a_rv A r k).toInt < 4 * a_gn A)) = true then k else p_first (fun i => decide (¬ (0 ≤ (a_rv A r i).toInt ∧ (a_rv A r i).toInt < 4 * a_gn A))) t (k + 1)) = -9) = j_k 0 from if_neg (fun u => absurd u.1 Bool.false_ne_true)]
              simp (disch := first | assumption | omega) only [k_add, k_sub, k_mul, k_lt, k_eq, k_lt0, k_0lt, k_eq0, k_nat, k_b0, k_b1, k_z1, k_z0, k_o1, k_o0, Int.reduceEq, Int.reduceLT, Int.reduceLE, Int.reduceAdd, Int.reduceMul, Int.reduceNeg, Bool.false_eq_true, or_true, true_or, or_false, false_or, and_true, true_and, and_false, false_and, not_true_eq_false, not_false_eq_true, ↓reduceIte, z_0, z_k, s_I, s_J, s_uI, s_uJ, ↓c_oc_87, ↓c_gP_87_5, ↓c_ia_89, hr, z]
              exact i0
            · have ra := n_rowAt (L := L) (p := p) (d := d + 7) hx r1 r3 k1 (show k < 60 by omega)
              obtain ⟨c, hc, c1, c2⟩ : ∃ c, a_rv A r k = j_k c ∧ -2147483648 ≤ c ∧ c < 2147483648 := k_ex _
              have ct : (a_rv A r k).toInt = c := by rw [hc, k_int c1 c2]
              have C := n_codes (L := L) (p := p) (d := d + 7) (I := I) (J := J) hn
              have ic := n_in (L := L) (p := p) (d := d + 7) (I := I) (J := J) (v := c) (lo := 0) (hi := 4 * a_gn A - 1) c1 c2 (by decide) (by decide) (by omega) (by omega)
              rw [hc] at ra
              rw [z_t, z_tt, ct]
              by_cases u : 0 ≤ c ∧ c ≤ 4 * a_gn A - 1
              · have u1 : j_z (0 ≤ c ∧ c ≤ 4 * a_gn A - 1) = j_k 1 := if_pos u
                rw [u1] at ic
                rw [decide_eq_false (show ¬ ¬ (0 ≤ c ∧ c < 4 * a_gn A) from fun v => v (by omega)), if_neg Bool.false_ne_true]
                simp (disch := first | assumption | omega) only [k_add, k_sub, k_mul, k_lt, k_eq, k_lt0, k_0lt, k_eq0, k_nat, k_b0, k_b1, k_z1, k_z0, k_o1, k_o0, Int.reduceEq, Int.reduceLT, Int.reduceLE, Int.reduceAdd, Int.reduceMul, Int.reduceNeg, Bool.false_eq_true, or_true, true_or, or_false, false_or, and_true, true_and, and_false, false_and, not_true_eq_false, not_false_eq_true, ↓reduceIte, z_0, z_k, s_I, s_J, s_uI, s_uJ, ↓c_oc_87, ↓c_gP_87_5, ↓c_ia_89, hr, z, ↓jc1 ra, ↓jc1 C, ↓jc1 ic]
                exact i1
              · have u1 : j_z (0 ≤ c ∧ c ≤ 4 * a_gn A - 1) = j_k 0 := if_neg u
                rw [u1] at ic
                rw [decide_eq_true (show ¬ (0 ≤ c ∧ c < 4 * a_gn A) by omega), if_pos rfl, show j_z (k = -9) = j_k 0 from if_neg (by omega)]
                simp (disch := first | assumption | omega) only [k_add, k_sub, k_mul, k_lt, k_eq, k_lt0, k_0lt, k_eq0, k_nat, k_b0, k_b1, k_z1, k_z0, k_o1, k_o0, Int.reduceEq, Int.reduceLT, Int.reduceLE, Int.reduceAdd, Int.reduceMul, Int.reduceNeg, Bool.false_eq_true, or_true, true_or, or_false, false_or, and_true, true_and, and_false, false_and, not_true_eq_false, not_false_eq_true, ↓reduceIte, z_0, z_k, s_I, s_J, s_uI, s_uJ, ↓c_oc_87, ↓c_gP_87_5, ↓c_ia_89, hr, z, ↓jc1 ra, ↓jc1 C, ↓jc1 ic]
                exact i0
        obtain ⟨M, hM, hM2⟩ : ∃ M, M = 999999 ∧ 5000 < M := ⟨999999, rfl, by decide⟩
        have o := one (a_rz A r).toNat (M - (a_rz A r).toNat) 0 true (Int.le_refl 0) (by omega)
        rw [show M - (a_rz A r).toNat + (a_rz A r).toNat = M by omega, z_t, z_tt] at o
        rw [← hM] at e
        simp (disch := first | assumption | omega) only [k_add, k_sub, k_mul, k_lt, k_eq, k_lt0, k_0lt, k_eq0, k_nat, k_b0, k_b1, k_z1, k_z0, k_o1, k_o0, Int.reduceEq, Int.reduceLT, Int.reduceLE, Int.reduceAdd, Int.reduceMul, Int.reduceNeg, Bool.false_eq_true, or_true, true_or, or_false, false_or, and_true, true_and, and_false, false_and, not_true_eq_false, not_false_eq_true, ↓reduceIte, z_0, z_k, s_I, s_J, s_uI, s_uJ, ↓jc1 a1, ↓c_oc_87, hN, w, ↓c_gP_87_5, ↓c_ia_89, hr, y'] at e
        rw [o] at e
        obtain ⟨M2, hM3⟩ : ∃ q, M - (a_rz A r).toNat = q + 1 := ⟨M - (a_rz A r).toNat - 1, by omega⟩
        rw [hM3, x_exec, t_215_38] at e
        have z : ¬ a_rz A r < a_rz A r := by omega
        have v0 := n_v (L := L) (p := p) (d := d + 7) (I := I) (J := J) (k := 0) (j := 0) (by decide) (by decide) (by decide) (by decide)
        rw [hf.1 0 (by decide) (by decide)] at v0
        by_cases u : p_first (fun i => decide (¬ (0 ≤ (a_rv A r i).toInt ∧ (a_rv A r i).toInt < 4 * a_gn A))) (a_rz A r).toNat 0 = -9
        · rw [if_neg (fun v => v u)]
          rw [show j_z (p_first (fun i => decide (¬ (0 ≤ (a_rv A r i).toInt ∧ (a_rv A r i).toInt < 4 * a_gn A))) (a_rz A r).toNat 0 = -9) = j_k 1 from if_pos u] at e
          by_cases v : 10000 < a_fl A 0 + 40 * a_rz A r
          · rw [if_pos v]
            simp (disch := first | assumption | omega) only [k_add, k_sub, k_mul, k_lt, k_eq, k_lt0, k_0lt, k_eq0, k_nat, k_b0, k_b1, k_z1, k_z0, k_o1, k_o0, Int.reduceEq, Int.reduceLT, Int.reduceLE, Int.reduceAdd, Int.reduceMul, Int.reduceNeg, Bool.false_eq_true, or_true, true_or, or_false, false_or, and_true, true_and, and_false, false_and, not_true_eq_false, not_false_eq_true, ↓reduceIte, z_0, z_k, s_I, s_J, s_uI, s_uJ, ↓c_gP_87_5, ↓c_ia_89, hr, z, ↓c_oc_87, ↓jc1 v0, v] at e
            exact .no hx e
          · rw [if_neg v]
            have al := first_all (P := fun i => decide (¬ (0 ≤ (a_rv A r i).toInt ∧ (a_rv A r i).toInt < 4 * a_gn A))) (a_rz A r).toNat 0 (Int.le_refl 0) u
            have two : ∀ (t M : Nat) (k b : Int) (f : Fl) (I1 : Nat → Nat → Int32), 0 ≤ k → k + t = a_rz A r → t < M → iM1 I1 0 (a_gn A) f → okF (a_N A) (a_gn A) b f → b + 40 * t ≤ 10000 → frP (a_gn A) 0 I I1 → ∃ I2, j_exec k_215 h_215 (j_run (d + 8)) M 120 [some (.ref 87), some (.int (j_k r)), some (.int (j_k 1)), some (.int (j_k k))] [] (ST L p I1 J) = some (some (.int (j_k (p_drv (a_gw A) (a_gh A) (a_gr A) (a_gn A) (a_kd A) (a_rv A r) t k f).1)), ST L p (u2 I2 87 2 (j_k (p_lost (a_gn A) (p_drv (a_gw A) (a_gh A) (a_gr A) (a_gn A) (a_kd A) (a_rv A r) t k f).2))) J) ∧ iM1 I2 0 (a_gn A) (p_drv (a_gw A) (a_gh A) (a_gr A) (a_gn A) (a_kd A) (a_rv A r) t k f).2 ∧ okF (a_N A) (a_gn A) 10000 (p_drv (a_gw A) (a_gh A) (a_gr A) (a_gn A) (a_kd A) (a_rv A r) t k f).2 ∧ frP (a_gn A) 0 I I2 := by
              intro t
              induction t with
              | zero =>
                intro M k b f I1 k1 k2 hM g1 g2 g3 g4
                obtain ⟨M, rfl⟩ : ∃ q, M = q + 1 := ⟨M - 1, by omega⟩
                have z : ¬ k < a_rz A r := by omega
                have hr1 : I1 89 r.toNat = j_k (a_rz A r) := by rw [g4.1 89 (by decide) (by decide) (by decide)]; exact hr
                have l := n_lost (L := L) (p := p) (d := d + 5) (I := I1) (J := J) (k := 0) (by decide) (by decide) (g4.m hm).2.2.2.1 n0 n4 g1 g2 bN1
                have T := n_tells (L := L) (p := p) (d := d + 7) (I := I1) (J := J) (v := j_k (p_lost (a_gn A) f)) (x := j_k k)
                refine ⟨I1, ?_, g1, okF_le (by omega) g2, g4⟩
                rw [x_exec, t_215_120]
                simp (disch := first | assumption | omega) only [k_add, k_sub, k_mul, k_lt, k_eq, k_lt0, k_0lt, k_eq0, k_nat, k_b0, k_b1, k_z1, k_z0, k_o1, k_o0, Int.reduceEq, Int.reduceLT, Int.reduceLE, Int.reduceAdd, Int.reduceMul, Int.reduceNeg, Bool.false_eq_true, or_true, true_or, or_false, false_or, and_true, true_and, and_false, false_and, not_true_eq_false, not_false_eq_true, ↓reduceIte, z_0, z_k, s_I, s_J, s_uI, s_uJ, ↓c_gP_87_5, ↓c_ia_89, hr1, z, ↓c_oc_87, ↓jc1 l, ↓jc1 T]
                rfl
              | succ t ih =>
                intro M k b f I1 k1 k2 hM g1 g2 g3 g4
                obtain ⟨M, rfl⟩ : ∃ q, M = q + 1 := ⟨M - 1, by omega⟩
                have z : k < a_rz A r := by omega
                have hr1 : I1 89 r.toNat = j_k (a_rz A r) := by rw [g4.1 89 (by decide) (by decide) (by decide)]; exact hr
                have pk := al k k1 (by omega)
                have pk2 : 0 ≤ (a_rv A r k).toInt ∧ (a_rv A r k).toInt < 4 * a_gn A := Decidable.byContradiction (fun v => by
                  have q : decide (¬ (0 ≤ (a_rv A r k).toInt ∧ (a_rv A r k).toInt < 4 * a_gn A)) = true := decide_eq_true v
                  rw [pk] at q
                  exact absurd q Bool.false_ne_true)
                have hcell := (hx.2.1 r r1 r3).2 k k1 (by omega)
                have k36 : 60 * r + k < 360 := by omega
                have k30 : 0 ≤ 60 * r + k := by omega
                have hc1 : I1 90 (60 * r + k).toNat = j_k (a_rv A r k).toInt := by rw [g4.1 90 (by decide) (by decide) (by decide), hcell, k_toInt]
                have ra : j_run (d + 8) 140 [.ref 87, .int (j_k r), .int (j_k k)] (ST L p I1 J) = some (some (.int (j_k (a_rv A r k).toInt)), ST L p I1 J) := by
                  rw [r_140, t_140_0]
                  simp (disch := first | assumption | omega) only [k_add, k_sub, k_mul, k_lt, k_eq, k_lt0, k_0lt, k_eq0, k_nat, k_b0, k_b1, k_z1, k_z0, k_o1, k_o0, Int.reduceEq, Int.reduceLT, Int.reduceLE, Int.reduceAdd, Int.reduceMul, Int.reduceNeg, Bool.false_eq_true, or_true, true_or, or_false, false_or, and_true, true_and, and_false, false_and, not_true_eq_false, not_false_eq_true, ↓reduceIte, z_0, z_k, s_I, s_J, s_uI, s_uJ, ↓c_gP_87_6, ↓c_ia_90, hc1]
                obtain ⟨I2, d1, d2, d3⟩ := n_drives (L := L) (p := p) (d := d) (J := J) (q := 0) (c := (a_rv A r k).toInt) (by decide) (by decide) (g4.m hm) g1 g2 (by omega) pk2.1 pk2.2
                have fr2 := g4.tr d3
                have U : p_drv (a_gw A) (a_gh A) (a_gr A) (a_gn A) (a_kd A) (a_rv A r) (t + 1) k f = (match p_drive (a_gw A) (a_gh A) (a_gr A) (a_gn A) (a_kd A) f (a_rv A r k).toInt with | none => (k, f) | some f' => p_drv (a_gw A) (a_gh A) (a_gr A) (a_gn A) (a_kd A) (a_rv A r) t (k + 1) f') := rfl
                rw [U, x_exec, t_215_120]
                cases hd : p_drive (a_gw A) (a_gh A) (a_gr A) (a_gn A) (a_kd A) f (a_rv A r k).toInt with
                | none =>
                  rw [hd] at d1 d2
                  have d1' : j_run (d + 8) 189 [.ref 87, .int (j_k 0), .int (j_k (a_rv A r k).toInt)] (ST L p I1 J) = some (some (.int (j_k 0)), ST L p I2 J) := d1
                  have d2' : iM1 I2 0 (a_gn A) f := d2
                  have l := n_lost (L := L) (p := p) (d := d + 5) (I := I2) (J := J) (k := 0) (by decide) (by decide) (fr2.m hm).2.2.2.1 n0 n4 d2' g2 bN1
                  have T := n_tells (L := L) (p := p) (d := d + 7) (I := I2) (J := J) (v := j_k (p_lost (a_gn A) f)) (x := j_k k)
                  refine ⟨I2, ?_, d2', okF_le (by omega) g2, fr2⟩
                  simp (disch := first | assumption | omega) only [k_add, k_sub, k_mul, k_lt, k_eq, k_lt0, k_0lt, k_eq0, k_nat, k_b0, k_b1, k_z1, k_z0, k_o1, k_o0, Int.reduceEq, Int.reduceLT, Int.reduceLE, Int.reduceAdd, Int.reduceMul, Int.reduceNeg, Bool.false_eq_true, or_true, true_or, or_false, false_or, and_true, true_and, and_false, false_and, not_true_eq_false, not_false_eq_true, ↓reduceIte, z_0, z_k, s_I, s_J, s_uI, s_uJ, ↓c_gP_87_5, ↓c_ia_89, hr1, z, ↓c_oc_87, ↓jc1 ra, ↓jc1 d1', ↓jc1 l, ↓jc1 T]
                | some f' =>
                  rw [hd] at d1 d2
                  have d1' : j_run (d + 8) 189 [.ref 87, .int (j_k 0), .int (j_k (a_rv A r k).toInt)] (ST L p I1 J) = some (some (.int (j_k 1)), ST L p I2 J) := d1
                  obtain ⟨I3, s1, s2⟩ := ih M (k + 1) (b + 40) f' I2 (by omega) (by omega) (by omega) d2 (drive_ok hC g2 pk2.1 pk2.2 hd) (by omega) fr2
                  refine ⟨I3, ?_, s2⟩
                  simp (disch := first | assumption | omega) only [k_add, k_sub, k_mul, k_lt, k_eq, k_lt0, k_0lt, k_eq0, k_nat, k_b0, k_b1, k_z1, k_z0, k_o1, k_o0, Int.reduceEq, Int.reduceLT, Int.reduceLE, Int.reduceAdd, Int.reduceMul, Int.reduceNeg, Bool.false_eq_true, or_true, true_or, or_false, false_or, and_true, true_and, and_false, false_and, not_true_eq_false, not_false_eq_true, ↓reduceIte, z_0, z_k, s_I, s_J, s_uI, s_uJ, ↓c_gP_87_5, ↓c_ia_89, hr1, z, ↓c_oc_87, ↓jc1 ra, ↓jc1 d1']
                  exact s1
            obtain ⟨I2, s1, s2, s3, s4⟩ := two (a_rz A r).toNat M2 0 (a_fl A 0) (a_fl A) I (Int.le_refl 0) (by omega) (by omega) hf (okF_ti ho) (by omega) .rf
            simp (disch := first | assumption | omega) only [k_add, k_sub, k_mul, k_lt, k_eq, k_lt0, k_0lt, k_eq0, k_nat, k_b0, k_b1, k_z1, k_z0, k_o1, k_o0, Int.reduceEq, Int.reduceLT, Int.reduceLE, Int.reduceAdd, Int.reduceMul, Int.reduceNeg, Bool.false_eq_true, or_true, true_or, or_false, false_or, and_true, true_and, and_false, false_and, not_true_eq_false, not_false_eq_true, ↓reduceIte, z_0, z_k, s_I, s_J, s_uI, s_uJ, ↓c_gP_87_5, ↓c_ia_89, hr, z, ↓c_oc_87, ↓jc1 v0, v] at e
            refine .of ⟨_, e.trans s1, (hx.went s4 s2 s3).told, fun r a => ?_⟩
            rw [fr_told r a]
            exact s4.n r a
        · rw [if_pos u]
          rw [show j_z (p_first (fun i => decide (¬ (0 ≤ (a_rv A r i).toInt ∧ (a_rv A r i).toInt < 4 * a_gn A))) (a_rz A r).toNat 0 = -9) = j_k 0 from if_neg u] at e
          obtain ⟨I', e1, e2, e3⟩ := n_meets (L := L) (p := p) (d := d + 7) hx (q := 3) (by decide) (by decide)
          simp (disch := first | assumption | omega) only [k_add, k_sub, k_mul, k_lt, k_eq, k_lt0, k_0lt, k_eq0, k_nat, k_b0, k_b1, k_z1, k_z0, k_o1, k_o0, Int.reduceEq, Int.reduceLT, Int.reduceLE, Int.reduceAdd, Int.reduceMul, Int.reduceNeg, Bool.false_eq_true, or_true, true_or, or_false, false_or, and_true, true_and, and_false, false_and, not_true_eq_false, not_false_eq_true, ↓reduceIte, z_0, z_k, s_I, s_J, s_uI, s_uJ, ↓c_gP_87_5, ↓c_ia_89, hr, z, ↓c_oc_87, ↓jc1 e1] at e
          exact .meets e2 e3 e
  · have z : j_z (0 ≤ r ∧ r ≤ 5) = j_k 0 := if_neg x
    rw [z] at a1
    rw [if_neg (fun u => x (by omega))]
    simp (disch := first | assumption | omega) only [k_add, k_sub, k_mul, k_lt, k_eq, k_lt0, k_0lt, k_eq0, k_nat, k_b0, k_b1, k_z1, k_z0, k_o1, k_o0, Int.reduceEq, Int.reduceLT, Int.reduceLE, Int.reduceAdd, Int.reduceMul, Int.reduceNeg, Bool.false_eq_true, or_true, true_or, or_false, false_or, and_true, true_and, and_false, false_and, not_true_eq_false, not_false_eq_true, ↓reduceIte, z_0, z_k, s_I, s_J, s_uI, s_uJ, ↓jc1 a1] at e
    exact .no hx e
end MCALLS5
