/-! ===== the class's flocks: the stone, a state as one number ===== -/
abbrev Fs : Type := Fl × Int × Int × Int
def p_fleeB (w h : Int) (gr : Fl) (n : Int) (kd : Fl) (c k : Int) (s : Fs) : Fs :=
  if s.1 (5 + k) = -9 ∨ p_off w (s.1 (5 + k)) c ≠ 1 then s
  else if p_try gr n kd s.1 k (p_by w h (s.1 (5 + k)) (s.1 (5 + k) % w - c % w) (s.1 (5 + k) / w - c / w)) false = -9 then s
  else (p_goTo gr s.1 k (p_try gr n kd s.1 k (p_by w h (s.1 (5 + k)) (s.1 (5 + k) % w - c % w) (s.1 (5 + k) / w - c / w)) false), s.2.1 + 1, k, p_try gr n kd s.1 k (p_by w h (s.1 (5 + k)) (s.1 (5 + k) % w - c % w) (s.1 (5 + k) / w - c / w)) false)
def p_fleeL (w h : Int) (gr : Fl) (n : Int) (kd f : Fl) (c : Int) : Fs := p_loop (p_fleeB w h gr n kd c) n.toNat 0 (f, 0, -9, -9)
def p_fleeE (s : Fs) : Fl := if s.2.2.1 = -9 then s.1 else p_bl s.1 s.2.2.1 s.2.2.2
/-- longs -/
def lk (x : Int) : Int64 := Int64.ofInt x
theorem l_add (a b : Int) : lk a + lk b = lk (a + b) := (Int64.ofInt_add a b).symm
theorem l_mul (a b : Int) : lk a * lk b = lk (a * b) := (Int64.ofInt_mul a b).symm
theorem l_of {a : Int} (h1 : -2147483648 ≤ a) (h2 : a < 2147483648) : (j_k a).toInt64 = lk a := Int32.toInt64_ofInt (by show (-2147483648 : Int) ≤ a; omega) (by show a ≤ 2147483647; omega)
theorem l_int {a : Int} (h1 : -9223372036854775808 ≤ a) (h2 : a < 9223372036854775808) : (lk a).toInt = a := Int64.toInt_ofInt_of_le (by omega) (by omega)
theorem l_eq {a b : Int} (h1 : -9223372036854775808 ≤ a) (h2 : a < 9223372036854775808) (h3 : -9223372036854775808 ≤ b) (h4 : b < 9223372036854775808) : (lk a = lk b) = (a = b) := propext ⟨fun h => by
  have h5 := congrArg Int64.toInt h
  rwa [l_int h1 h2, l_int h3 h4] at h5, fun h => by rw [h]⟩
theorem l_32 : j_cJ 0 = lk 32 := by decide
def p_enc (v : Int) : Int := if v = -9 then 31 else v
def p_num (n : Int) (f : Fl) : Int := 32 * (32 * (32 * (32 * p_loop (fun k s => 32 * s + p_enc (f (5 + k))) n.toNat 0 (f 0 % 2) + p_enc (f 1)) + p_enc (f 2)) + p_enc (f 3)) + p_enc (f 4)
section FLOCKY
variable {L p a g d : Nat} {I : Nat → Nat → Int32} {J : Nat → Nat → Int64} {n w h N b : Int} {kd f gr : Fl}
theorem s_joined {x : Int} {v : Int} (v1 : -9 ≤ v) (v2 : v < 30) : j_run (d + 1) 20 [.long (lk x), .int (j_k v)] (ST L p I J) = some (some (.long (lk (32 * x + p_enc v))), ST L p I J) := by
  rw [r_20, t_20_0, l_32]
  by_cases z : v = -9
  · subst z
    simp (disch := first | assumption | omega) only [k_add, k_sub, k_mul, k_lt, k_eq, k_lt0, k_0lt, k_eq0, k_nat, k_b0, k_b1, k_z1, k_z0, k_o1, k_o0, Int.reduceEq, Int.reduceLT, Int.reduceLE, Int.reduceAdd, Int.reduceMul, Int.reduceNeg, Bool.false_eq_true, or_true, true_or, or_false, false_or, and_true, true_and, and_false, false_and, not_true_eq_false, not_false_eq_true, ↓reduceIte, z_0, z_k, s_I, s_J, s_uI, s_uJ, l_of, l_mul, l_add]
    rfl
  · have e : p_enc v = v := if_neg z
    simp (disch := first | assumption | omega) only [k_add, k_sub, k_mul, k_lt, k_eq, k_lt0, k_0lt, k_eq0, k_nat, k_b0, k_b1, k_z1, k_z0, k_o1, k_o0, Int.reduceEq, Int.reduceLT, Int.reduceLE, Int.reduceAdd, Int.reduceMul, Int.reduceNeg, Bool.false_eq_true, or_true, true_or, or_false, false_or, and_true, true_and, and_false, false_and, not_true_eq_false, not_false_eq_true, ↓reduceIte, z_0, z_k, s_I, s_J, s_uI, s_uJ, l_of, l_mul, l_add, z, e]
theorem s_inOneNumber (hF : FA a) (hi : iF I a n kd f) (hC : okC w h N n gr kd) (ho : okF N n b f) (hb : b ≤ 1000000) : j_run (d + 2) 19 [.ref a] (ST L p I J) = some (some (.long (lk (p_num n f))), ST L p I J) := by
  have hn := hC.2.2.1
  have hn4 := hC.2.2.2.1
  obtain ⟨b1, b2, -⟩ := bd_N hC
  have h0 := ho.2.2.2.2.2
  have h1 := ho.2.2.1
  have h2 := ho.2.2.2.1
  obtain ⟨e3, e4, e5, e6, e7, e8, ek, ec, eg, ef⟩ := hi
  have key : ∀ (m M : Nat) (k s : Int), 0 ≤ k → k + m = n → m < M → j_exec k_19 h_19 (j_run (d + 1)) M 10 [some (.ref a), some (.long (lk s)), none, some (.int (j_k k))] [] (ST L p I J) = some (some (.long (lk (32 * (32 * (32 * (32 * p_loop (fun k s => 32 * s + p_enc (f (5 + k))) m k s + p_enc (f 1)) + p_enc (f 2)) + p_enc (f 3)) + p_enc (f 4)))), ST L p I J) := by
    intro m
    induction m with
    | zero =>
      intro M k s k1 k2 hM
      obtain ⟨M, rfl⟩ : ∃ q, M = q + 1 := ⟨M - 1, by omega⟩
      have z : ¬ k < n := by omega
      have q1 := s_joined (L := L) (p := p) (d := d) (I := I) (J := J) (x := s) (v := f 1) (by omega) (by omega)
      have q2 := s_joined (L := L) (p := p) (d := d) (I := I) (J := J) (x := 32 * s + p_enc (f 1)) (v := f 2) (by omega) (by omega)
      have q3 := s_joined (L := L) (p := p) (d := d) (I := I) (J := J) (x := 32 * (32 * s + p_enc (f 1)) + p_enc (f 2)) (v := f 3) (by omega) (by omega)
      have q4 := s_joined (L := L) (p := p) (d := d) (I := I) (J := J) (x := 32 * (32 * (32 * s + p_enc (f 1)) + p_enc (f 2)) + p_enc (f 3)) (v := f 4) (by omega) (by omega)
      rw [x_exec, t_19_10, p_loop0]
      simp (disch := first | assumption | omega) only [k_add, k_sub, k_mul, k_lt, k_eq, k_lt0, k_0lt, k_eq0, k_nat, k_b0, k_b1, k_z1, k_z0, k_o1, k_o0, Int.reduceEq, Int.reduceLT, Int.reduceLE, Int.reduceAdd, Int.reduceMul, Int.reduceNeg, Bool.false_eq_true, or_true, true_or, or_false, false_or, and_true, true_and, and_false, false_and, not_true_eq_false, not_false_eq_true, ↓reduceIte, z_0, z_k, s_I, s_J, s_uI, s_uJ, f_oc, f_gP0, f_gP1, f_gP2, f_ia0, f_ia1, f_ia2, f_is0, f_is1, f_is2, f_lt, e3, z, e4, e5, e6, e7, jc2 q1, jc2 q2, jc2 q3, jc2 q4]
    | succ m ih =>
      intro M k s k1 k2 hM
      obtain ⟨M, rfl⟩ : ∃ q, M = q + 1 := ⟨M - 1, by omega⟩
      have z : k < n := by omega
      have hc := ho.1 k k1 z
      have q1 := s_joined (L := L) (p := p) (d := d) (I := I) (J := J) (x := s) (v := f (5 + k)) (by omega) (by omega)
      rw [x_exec, t_19_10, p_loopS]
      simp (disch := first | assumption | omega) only [k_add, k_sub, k_mul, k_lt, k_eq, k_lt0, k_0lt, k_eq0, k_nat, k_b0, k_b1, k_z1, k_z0, k_o1, k_o0, Int.reduceEq, Int.reduceLT, Int.reduceLE, Int.reduceAdd, Int.reduceMul, Int.reduceNeg, Bool.false_eq_true, or_true, true_or, or_false, false_or, and_true, true_and, and_false, false_and, not_true_eq_false, not_false_eq_true, ↓reduceIte, z_0, z_k, s_I, s_J, s_uI, s_uJ, f_oc, f_gP0, f_gP1, f_gP2, f_ia0, f_ia1, f_ia2, f_is0, f_is1, f_is2, f_lt, e3, z, ec, jc2 q1]
      exact ih M (k + 1) _ (by omega) (by omega) (by omega)
  rw [r_19, t_19_0]
  simp (disch := first | assumption | omega) only [k_add, k_sub, k_mul, k_lt, k_eq, k_lt0, k_0lt, k_eq0, k_nat, k_b0, k_b1, k_z1, k_z0, k_o1, k_o0, Int.reduceEq, Int.reduceLT, Int.reduceLE, Int.reduceAdd, Int.reduceMul, Int.reduceNeg, Bool.false_eq_true, or_true, true_or, or_false, false_or, and_true, true_and, and_false, false_and, not_true_eq_false, not_false_eq_true, ↓reduceIte, z_0, z_k, s_I, s_J, s_uI, s_uJ, f_oc, f_gP0, f_gP1, f_gP2, f_ia0, f_ia1, f_ia2, f_is0, f_is1, f_is2, f_lt, e8, k_par, l_of]
  exact key n.toNat 999999 0 _ (Int.le_refl 0) (by omega) (by omega)
def inFs (N n b : Int) (k : Int) (s : Fs) : Prop := okF N n b s.1 ∧ 0 ≤ s.2.1 ∧ s.2.1 ≤ k ∧ ((s.2.2.1 = -9 ∧ s.2.2.2 = -9) ∨ (0 ≤ s.2.2.1 ∧ s.2.2.1 < n ∧ 0 ≤ s.2.2.2 ∧ s.2.2.2 < N))
theorem off_way (hC : okC w h N n gr kd) {x c : Int} (x1 : 0 ≤ x) (x2 : x < N) (c1 : 0 ≤ c) (c2 : c < N) (ho : p_off w x c = 1) : (x % w - c % w = 0 ∧ (x / w - c / w = 1 ∨ x / w - c / w = -1)) ∨ (x / w - c / w = 0 ∧ (x % w - c % w = 1 ∨ x % w - c % w = -1)) := by
  have e : p_abs (x % w - c % w) + p_abs (x / w - c / w) = 1 := ho
  unfold p_abs at e
  split at e <;> split at e <;> omega
theorem fleeB_in (hC : okC w h N n gr kd) {c k : Int} {s : Fs} (c1 : 0 ≤ c) (c2 : c < N) (h1 : 0 ≤ k) (h2 : k < n) (hs : inFs N n b k s) : inFs N n b (k + 1) (p_fleeB w h gr n kd c k s) := by
  have hmono : inFs N n b (k + 1) s := ⟨hs.1, hs.2.1, by have := hs.2.2.1; omega, hs.2.2.2⟩
  unfold p_fleeB
  split
  · exact hmono
  · rename_i q1
    split
    · exact hmono
    · rename_i q2
      have hx : s.1 (5 + k) ≠ -9 := fun z => q1 (Or.inl z)
      have ho1 : p_off w (s.1 (5 + k)) c = 1 := Classical.byContradiction fun z => q1 (Or.inr z)
      have hk := (hs.1.1 k h1 h2).resolve_left hx
      obtain ⟨t1, t2, t3⟩ := try_eq q2
      have hr := (by_rg hC hk.1 hk.2 (off_way hC hk.1 hk.2 c1 c2 ho1)).resolve_left t2
      rw [t1]
      exact ⟨okF_goTo hC hs.1 h1 h2 hr.1 hr.2.1 (can_who t3), by have := hs.2.1; show 0 ≤ s.2.1 + 1; omega, by have := hs.2.2.1; show s.2.1 + 1 ≤ k + 1; omega, Or.inr ⟨h1, h2, hr.1, hr.2.1⟩⟩
theorem fleeL_in (hC : okC w h N n gr kd) {c : Int} (c1 : 0 ≤ c) (c2 : c < N) : ∀ (m : Nat) (k : Int) (s : Fs), 0 ≤ k → k + m = n → inFs N n b k s → inFs N n b n (p_loop (p_fleeB w h gr n kd c) m k s)
  | 0, k, s, h1, h2, hs => by
    rw [show n = k by omega]
    rw [show n = k by omega] at hs
    exact hs
  | m + 1, k, s, h1, h2, hs => fleeL_in hC c1 c2 m (k + 1) _ (by omega) (by omega) (fleeB_in hC c1 c2 h1 (by omega) hs)
theorem fleeE_ok {s : Fs} (hs : inFs N n b n s) : okF N n b (p_fleeE s) := by
  unfold p_fleeE
  split
  · exact hs.1
  · rename_i q
    have z := hs.2.2.2.resolve_left (fun y => q y.1)
    exact okF_bl hs.1 z.1 z.2.1 z.2.2.1 z.2.2.2
end FLOCKY
