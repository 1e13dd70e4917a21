/-! ===== the class's flocks: what they hold; reads ===== -/
def j_z (P : Prop) [Decidable P] : Int32 := if P then j_k 1 else j_k 0
theorem z_0 {P : Prop} [Decidable P] : (j_z P = 0) = ¬ P := by
  unfold j_z
  split
  · exact propext ⟨fun h => absurd h (by decide), fun h => absurd (by assumption) h⟩
  · exact propext ⟨fun _ => by assumption, fun _ => kk0⟩
theorem z_k {P : Prop} [Decidable P] : (j_z P = 0 ∨ j_z P = 1) = True := by
  unfold j_z
  split
  · exact eq_true (Or.inr kk1)
  · exact eq_true (Or.inl kk0)
theorem jc1 {call : Nat → List Value → Sto → Option Rr} {m : Nat} {as : List Value} {σ τ : Sto} {x : Int32} {K : Int32 → Sto → Option Rr} (h : call m as σ = some (some (.int x), τ)) : j_c1 call m as σ K = K x τ := by
  unfold j_c1
  rw [h]
theorem jc2 {call : Nat → List Value → Sto → Option Rr} {m : Nat} {as : List Value} {σ τ : Sto} {x : Int64} {K : Int64 → Sto → Option Rr} (h : call m as σ = some (some (.long x), τ)) : j_c2 call m as σ K = K x τ := by
  unfold j_c2
  rw [h]
theorem jc0 {call : Nat → List Value → Sto → Option Rr} {m : Nat} {as : List Value} {σ τ : Sto} {K : Sto → Option Rr} (h : call m as σ = some (none, τ)) : j_c0 call m as σ K = K τ := by
  unfold j_c0
  rw [h]
/-- what a flock's cells hold -/
def iF (I : Nat → Nat → Int32) (a : Nat) (n : Int) (kd f : Fl) : Prop :=
  I a 3 = j_k n ∧ I a 4 = j_k (f 1) ∧ I a 5 = j_k (f 2) ∧ I a 6 = j_k (f 3) ∧ I a 7 = j_k (f 4) ∧ I a 8 = j_k (f 0) ∧
  (∀ k : Int, 0 ≤ k → k < n → I (a + 1) k.toNat = j_k (kd k)) ∧ (∀ k : Int, 0 ≤ k → k < n → I (a + 2) k.toNat = j_k (f (5 + k))) ∧ (∀ k : Int, 0 ≤ k → k < n → I (a + 3) k.toNat = j_k (f (9 + k))) ∧
  (∀ c : Int, 0 ≤ c → c < 30 → (bt (I a 9) c.toNat = true ↔ ∃ k, 0 ≤ k ∧ k < n ∧ f (5 + k) = c))
/-- nothing but a flock's own cells has changed -/
def fr (a : Nat) (I I' : Nat → Nat → Int32) : Prop := ∀ r, (r < a ∨ a + 4 ≤ r) → I' r = I r
theorem fr.rf {a : Nat} {I : Nat → Nat → Int32} : fr a I I := fun _ _ => rfl
theorem fr.tr {a : Nat} {I I' I'' : Nat → Nat → Int32} (h : fr a I I') (h' : fr a I' I'') : fr a I I'' := fun r hr => (h' r hr).trans (h r hr)
/-- what a ground's cells hold -/
def iG (I : Nat → Nat → Int32) (g : Nat) (w h N : Int) (gr : Fl) : Prop :=
  I g 3 = j_k w ∧ I g 4 = j_k h ∧ I g 5 = j_k N ∧ (∀ c : Int, 0 ≤ c → c < N → I (g + 1) c.toNat = j_k (gr c)) ∧ (∀ c : Int, 0 ≤ c → c < N → I (g + 2) c.toNat = j_k (c % w)) ∧ (∀ c : Int, 0 ≤ c → c < N → I (g + 3) c.toNat = j_k (c / w))
/-- the tables of ways -/
def iT (I : Nat → Nat → Int32) : Prop := (∀ y : Int, 0 ≤ y → y < 4 → I (j_b + 2) y.toNat = j_k (p_dx y)) ∧ (∀ y : Int, 0 ≤ y → y < 4 → I (j_b + 3) y.toNat = j_k (p_dy y))
theorem iG.fr {I I' : Nat → Nat → Int32} {g a : Nat} {w h N : Int} {gr : Fl} (ha : FA a) (hg : GA g) (hf : fr a I I') (hG : iG I g w h N gr) : iG I' g w h N gr := by
  have h1 := (fa_all (L := 0) (p := 0) ha).2.2
  have h2 := (ga_all (L := 0) (p := 0) hg).2.2
  have hd : ∀ b, g ≤ b → b ≤ g + 3 → I' b = I b := by
    have h3 : a ∈ FL := ha
    simp only [FL, List.mem_cons, List.not_mem_nil, or_false] at h3
    intro b hb1 hb2
    refine hf b ?_
    rcases hg with rfl | rfl <;> omega
  unfold iG
  rw [hd g (by omega) (by omega), hd (g + 1) (by omega) (by omega), hd (g + 2) (by omega) (by omega), hd (g + 3) (by omega) (by omega)]
  exact hG
theorem iT.fr {I I' : Nat → Nat → Int32} {a : Nat} (ha : FA a) (hf : fr a I I') (hT : iT I) : iT I' := by
  have h1 := (fa_all (L := 0) (p := 0) ha).2.2
  unfold iT
  rw [hf (j_b + 2) (Or.inr (by show a + 4 ≤ 1000000 + 2; omega)), hf (j_b + 3) (Or.inr (by show a + 4 ≤ 1000000 + 3; omega))]
  exact hT
section FLOCKR
variable {L p a g d : Nat} {I : Nat → Nat → Int32} {J : Nat → Nat → Int64} {n w h N b : Int} {kd f gr : Fl}
theorem s_has (hF : FA a) (hi : iF I a n kd f) (hn : 0 ≤ n) (hn4 : n ≤ 4) {k : Int} (hk1 : -2147483648 ≤ k) (hk2 : k < 2147483648) : j_run (d + 1) 5 [.ref a, .int (j_k k)] (ST L p I J) = some (some (.int (j_z (0 ≤ k ∧ k < n))), ST L p I J) := by
  obtain ⟨e3, e4, e5, e6, e7, e8, ek, ec, eg, ef⟩ := hi
  rw [r_5, t_5_0]
  simp (disch := first | assumption | omega) only [k_add, k_sub, k_mul, k_lt, k_eq, k_lt0, k_0lt, k_eq0, k_nat, k_b0, k_b1, k_z1, k_z0, k_o1, k_o0, Int.reduceEq, Int.reduceLT, Int.reduceLE, Int.reduceAdd, Int.reduceMul, Int.reduceNeg, Bool.false_eq_true, or_true, true_or, or_false, false_or, and_true, true_and, and_false, false_and, not_true_eq_false, not_false_eq_true, ↓reduceIte, z_0, z_k, s_I, s_J, s_uI, s_uJ, f_oc, f_gP0, f_gP1, f_gP2, f_ia0, f_ia1, f_ia2, f_is0, f_is1, f_is2, f_lt, e3]
  unfold j_z
  ((repeat' split) <;> first | rfl | (exfalso; omega))
theorem s_isLost (hF : FA a) (hi : iF I a n kd f) (hn4 : n ≤ 4) (ho : okF N n b f) (hN : N ≤ 30) {k : Int} (hk1 : 0 ≤ k) (hk2 : k < n) : j_run (d + 1) 6 [.ref a, .int (j_k k)] (ST L p I J) = some (some (.int (j_z (f (5 + k) = -9))), ST L p I J) := by
  obtain ⟨e3, e4, e5, e6, e7, e8, ek, ec, eg, ef⟩ := hi
  have hc := ho.1 k hk1 hk2
  rw [r_6, t_6_0]
  simp (disch := first | assumption | omega) only [k_add, k_sub, k_mul, k_lt, k_eq, k_lt0, k_0lt, k_eq0, k_nat, k_b0, k_b1, k_z1, k_z0, k_o1, k_o0, Int.reduceEq, Int.reduceLT, Int.reduceLE, Int.reduceAdd, Int.reduceMul, Int.reduceNeg, Bool.false_eq_true, or_true, true_or, or_false, false_or, and_true, true_and, and_false, false_and, not_true_eq_false, not_false_eq_true, ↓reduceIte, z_0, z_k, s_I, s_J, s_uI, s_uJ, f_oc, f_gP0, f_gP1, f_gP2, f_ia0, f_ia1, f_ia2, f_is0, f_is1, f_is2, f_lt, ec]
  unfold j_z
  ((repeat' split) <;> first | rfl | (exfalso; omega))
theorem s_isIn (hF : FA a) (hi : iF I a n kd f) {c : Int} (hc1 : 0 ≤ c) (hc2 : c < 30) : j_run (d + 1) 7 [.ref a, .int (j_k c)] (ST L p I J) = some (some (.int (if bt (I a 9) c.toNat = true then j_k 1 else j_k 0)), ST L p I J) := by
  obtain ⟨e3, e4, e5, e6, e7, e8, ek, ec, eg, ef⟩ := hi
  rw [r_7, t_7_0]
  simp (disch := first | assumption | omega) only [k_add, k_sub, k_mul, k_lt, k_eq, k_lt0, k_0lt, k_eq0, k_nat, k_b0, k_b1, k_z1, k_z0, k_o1, k_o0, Int.reduceEq, Int.reduceLT, Int.reduceLE, Int.reduceAdd, Int.reduceMul, Int.reduceNeg, Bool.false_eq_true, or_true, true_or, or_false, false_or, and_true, true_and, and_false, false_and, not_true_eq_false, not_false_eq_true, ↓reduceIte, z_0, z_k, s_I, s_J, s_uI, s_uJ, f_oc, f_gP0, f_gP1, f_gP2, f_ia0, f_ia1, f_ia2, f_is0, f_is1, f_is2, f_lt, tb_iff]
  ((repeat' split) <;> first | rfl | (exfalso; omega))
theorem s_isShy (hF : FA a) (hi : iF I a n kd f) (hn4 : n ≤ 4) (hC : okC w h N n gr kd) {k : Int} (hk1 : 0 ≤ k) (hk2 : k < n) : j_run (d + 1) 10 [.ref a, .int (j_k k)] (ST L p I J) = some (some (.int (j_z (p_shy kd k = true))), ST L p I J) := by
  obtain ⟨e3, e4, e5, e6, e7, e8, ek, ec, eg, ef⟩ := hi
  have hc := hC.2.2.2.2.2 k hk1 hk2
  rw [r_10, t_10_0]
  simp (disch := first | assumption | omega) only [k_add, k_sub, k_mul, k_lt, k_eq, k_lt0, k_0lt, k_eq0, k_nat, k_b0, k_b1, k_z1, k_z0, k_o1, k_o0, Int.reduceEq, Int.reduceLT, Int.reduceLE, Int.reduceAdd, Int.reduceMul, Int.reduceNeg, Bool.false_eq_true, or_true, true_or, or_false, false_or, and_true, true_and, and_false, false_and, not_true_eq_false, not_false_eq_true, ↓reduceIte, z_0, z_k, s_I, s_J, s_uI, s_uJ, f_oc, f_gP0, f_gP1, f_gP2, f_ia0, f_ia1, f_ia2, f_is0, f_is1, f_is2, f_lt, ek]
  unfold j_z p_shy
  simp only [decide_eq_true_eq]
  ((repeat' split) <;> first | rfl | (exfalso; omega))
theorem s_isSlow (hF : FA a) (hi : iF I a n kd f) (hn4 : n ≤ 4) (hC : okC w h N n gr kd) {k : Int} (hk1 : 0 ≤ k) (hk2 : k < n) : j_run (d + 1) 11 [.ref a, .int (j_k k)] (ST L p I J) = some (some (.int (j_z (p_slow kd k = true))), ST L p I J) := by
  obtain ⟨e3, e4, e5, e6, e7, e8, ek, ec, eg, ef⟩ := hi
  have hc := hC.2.2.2.2.2 k hk1 hk2
  rw [r_11, t_11_0]
  simp (disch := first | assumption | omega) only [k_add, k_sub, k_mul, k_lt, k_eq, k_lt0, k_0lt, k_eq0, k_nat, k_b0, k_b1, k_z1, k_z0, k_o1, k_o0, Int.reduceEq, Int.reduceLT, Int.reduceLE, Int.reduceAdd, Int.reduceMul, Int.reduceNeg, Bool.false_eq_true, or_true, true_or, or_false, false_or, and_true, true_and, and_false, false_and, not_true_eq_false, not_false_eq_true, ↓reduceIte, z_0, z_k, s_I, s_J, s_uI, s_uJ, f_oc, f_gP0, f_gP1, f_gP2, f_ia0, f_ia1, f_ia2, f_is0, f_is1, f_is2, f_lt, ek]
  unfold j_z p_slow
  simp only [decide_eq_true_eq]
  ((repeat' split) <;> first | rfl | (exfalso; omega))
theorem s_drives (hF : FA a) (hi : iF I a n kd f) : j_run (d + 1) 13 [.ref a] (ST L p I J) = some (some (.int (j_k (4 * n))), ST L p I J) := by
  obtain ⟨e3, e4, e5, e6, e7, e8, ek, ec, eg, ef⟩ := hi
  rw [r_13, t_13_0]
  simp (disch := first | assumption | omega) only [k_add, k_sub, k_mul, k_lt, k_eq, k_lt0, k_0lt, k_eq0, k_nat, k_b0, k_b1, k_z1, k_z0, k_o1, k_o0, Int.reduceEq, Int.reduceLT, Int.reduceLE, Int.reduceAdd, Int.reduceMul, Int.reduceNeg, Bool.false_eq_true, or_true, true_or, or_false, false_or, and_true, true_and, and_false, false_and, not_true_eq_false, not_false_eq_true, ↓reduceIte, z_0, z_k, s_I, s_J, s_uI, s_uJ, f_oc, f_gP0, f_gP1, f_gP2, f_ia0, f_ia1, f_ia2, f_is0, f_is1, f_is2, f_lt, e3]
theorem s_aimOf (hF : FA a) (hi : iF I a n kd f) (hn4 : n ≤ 4) (hC : okC w h N n gr kd) (ho : okF N n b f) (hN : N ≤ 30) {k : Int} (hk1 : 0 ≤ k) (hk2 : k < n) : j_run (d + 1) 21 [.ref a, .int (j_k k)] (ST L p I J) = some (some (.int (j_k (p_aim kd f k))), ST L p I J) := by
  obtain ⟨e3, e4, e5, e6, e7, e8, ek, ec, eg, ef⟩ := hi
  have hc := hC.2.2.2.2.2 k hk1 hk2
  have h3 := ho.2.2.2.1
  rw [r_21, t_21_0]
  simp (disch := first | assumption | omega) only [k_add, k_sub, k_mul, k_lt, k_eq, k_lt0, k_0lt, k_eq0, k_nat, k_b0, k_b1, k_z1, k_z0, k_o1, k_o0, Int.reduceEq, Int.reduceLT, Int.reduceLE, Int.reduceAdd, Int.reduceMul, Int.reduceNeg, Bool.false_eq_true, or_true, true_or, or_false, false_or, and_true, true_and, and_false, false_and, not_true_eq_false, not_false_eq_true, ↓reduceIte, z_0, z_k, s_I, s_J, s_uI, s_uJ, f_oc, f_gP0, f_gP1, f_gP2, f_ia0, f_ia1, f_ia2, f_is0, f_is1, f_is2, f_lt, ek, e6, e5, e7]
  unfold p_aim
  ((repeat' split) <;> first | rfl | (exfalso; omega))
theorem s_lostOnes_l (hF : FA a) (hi : iF I a n kd f) (hn4 : n ≤ 4) (ho : okF N n b f) (hN : N ≤ 30) : ∀ (m M : Nat) (k s : Int), 0 ≤ k → k + m = n → 0 ≤ s → s ≤ k → m < M → j_exec k_14 h_14 (j_run d) M 4 [some (.ref a), some (.int (j_k s)), some (.int (j_k k))] [] (ST L p I J) = some (some (.int (j_k (p_loop (fun k s => if f (5 + k) = -9 then s + 1 else s) m k s))), ST L p I J) := by
  obtain ⟨e3, e4, e5, e6, e7, e8, ek, ec, eg, ef⟩ := hi
  intro m
  induction m with
  | zero =>
    intro M k s h1 h2 h3 h4 hM
    obtain ⟨M, rfl⟩ : ∃ q, M = q + 1 := ⟨M - 1, by omega⟩
    rw [x_exec, t_14_4]
    simp (disch := first | assumption | omega) only [k_add, k_sub, k_mul, k_lt, k_eq, k_lt0, k_0lt, k_eq0, k_nat, k_b0, k_b1, k_z1, k_z0, k_o1, k_o0, Int.reduceEq, Int.reduceLT, Int.reduceLE, Int.reduceAdd, Int.reduceMul, Int.reduceNeg, Bool.false_eq_true, or_true, true_or, or_false, false_or, and_true, true_and, and_false, false_and, not_true_eq_false, not_false_eq_true, ↓reduceIte, z_0, z_k, s_I, s_J, s_uI, s_uJ, f_oc, f_gP0, f_gP1, f_gP2, f_ia0, f_ia1, f_ia2, f_is0, f_is1, f_is2, f_lt, e3]
    rw [if_neg (by omega)]
    rfl
  | succ m ih =>
    intro M k s h1 h2 h3 h4 hM
    obtain ⟨M, rfl⟩ : ∃ q, M = q + 1 := ⟨M - 1, by omega⟩
    have hc := ho.1 k h1 (by omega)
    rw [x_exec, t_14_4]
    simp (disch := first | assumption | omega) only [k_add, k_sub, k_mul, k_lt, k_eq, k_lt0, k_0lt, k_eq0, k_nat, k_b0, k_b1, k_z1, k_z0, k_o1, k_o0, Int.reduceEq, Int.reduceLT, Int.reduceLE, Int.reduceAdd, Int.reduceMul, Int.reduceNeg, Bool.false_eq_true, or_true, true_or, or_false, false_or, and_true, true_and, and_false, false_and, not_true_eq_false, not_false_eq_true, ↓reduceIte, z_0, z_k, s_I, s_J, s_uI, s_uJ, f_oc, f_gP0, f_gP1, f_gP2, f_ia0, f_ia1, f_ia2, f_is0, f_is1, f_is2, f_lt, e3, ec]
    rw [if_pos (by omega), p_loopS]
    split
    · exact ih _ _ _ (by omega) (by omega) (by omega) (by omega) (by omega)
    · exact ih _ _ _ (by omega) (by omega) (by omega) (by omega) (by omega)
theorem s_lostOnes (hF : FA a) (hi : iF I a n kd f) (hn : 0 ≤ n) (hn4 : n ≤ 4) (ho : okF N n b f) (hN : N ≤ 30) : j_run (d + 1) 14 [.ref a] (ST L p I J) = some (some (.int (j_k (p_lost n f))), ST L p I J) := by
  rw [r_14, t_14_0, s_lostOnes_l hF hi hn4 ho hN n.toNat _ 0 0 (by omega) (by omega) (by omega) (by omega) (by omega)]
  rfl
end FLOCKR
