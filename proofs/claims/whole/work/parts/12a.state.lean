/-! ===== the model's cells, and what they say of the state ===== -/
def mR (I : Nat → Nat → Int32) (rz : Int → Int) (rv : Int → Int → Int32) : Prop := ∀ r : Int, 0 ≤ r → r < 6 → I 89 r.toNat = j_k (rz r) ∧ ∀ i : Int, 0 ≤ i → i < 60 → I 90 (60 * r + i).toNat = rv r i
def mT (I : Nat → Nat → Int32) (tz : Int → Int) (tv : Int → Int → Int) : Prop := ∀ t : Int, 0 ≤ t → t < 4 → I 92 t.toNat = j_k (tz t) ∧ ∀ i : Int, 0 ≤ i → i < 80 → I 93 (80 * t + i).toNat = j_k (tv t i)
def mK (I : Nat → Nat → Int32) (n : Int) (kp : Int → Bool) (kf : Int → Fl) : Prop := ∀ k : Int, 0 ≤ k → k < 3 → I 100 k.toNat = j_z (kp k = true) ∧ (kp k = true → iM1 I (1 + k) n (kf k))
def mM (I : Nat → Nat → Int32) (J : Nat → Nat → Int64) (told : Int32) (up low : Int64) (fin : Int) (cnt : Int → Int) : Prop := I 87 2 = told ∧ J 87 3 = up ∧ J 87 4 = low ∧ I 87 0 = j_k fin ∧ ∀ q : Int, 1 ≤ q → q < 6 → I 88 q.toNat = j_k (cnt q)
def iM (I : Nat → Nat → Int32) (J : Nat → Nat → Int64) (A : Ast) : Prop :=
  okA A ∧ mR I (a_rz A) (a_rv A) ∧ mT I (a_tz A) (a_tv A) ∧ iMg I (a_gw A) (a_gh A) (a_N A) (a_gn A) (a_gr A) (a_kd A) ∧ iM1 I 0 (a_gn A) (a_fl A) ∧ mK I (a_gn A) (a_kp A) (a_kf A) ∧ mM I J (a_told A) (a_up A) (a_low A) (a_fin A) (a_cnt A)
/-- the class's cells, the tables, the script stay -/
def frN (I I' : Nat → Nat → Int32) (J J' : Nat → Nat → Int64) : Prop := (∀ r, (r < 87 ∨ 104 ≤ r) → I' r = I r) ∧ ∀ r, (r < 87 ∨ 104 ≤ r) → J' r = J r
/-- a call of the model answers as the document, and keeps its cells' meaning -/
def mc (L p : Nat) (I : Nat → Nat → Int32) (J : Nat → Nat → Int64) (d m : Nat) (as : List Value) (r : Int × Ast) : Prop := ∃ I' J', j_run d m as (ST L p I J) = some (some (.int (j_k r.1)), ST L p I' J') ∧ iM I' J' r.2 ∧ frN I I' J J'
theorem mR.cg {I I' : Nat → Nat → Int32} {rz : Int → Int} {rv : Int → Int → Int32} (h1 : I' 89 = I 89) (h2 : I' 90 = I 90) (hx : mR I rz rv) : mR I' rz rv := by
  intro r r1 r2
  rw [h1, h2]
  exact hx r r1 r2
theorem mT.cg {I I' : Nat → Nat → Int32} {tz : Int → Int} {tv : Int → Int → Int} (h1 : I' 92 = I 92) (h2 : I' 93 = I 93) (hx : mT I tz tv) : mT I' tz tv := by
  intro r r1 r2
  rw [h1, h2]
  exact hx r r1 r2
theorem iMg.cg' {I I' : Nat → Nat → Int32} {w h N n : Int} {gr kd : Fl} (h1 : ∀ k, 10 ≤ k → k < 14 → I' 87 k = I 87 k) (h2 : I' 94 = I 94) (h3 : I' 95 = I 95) (hm : iMg I w h N n gr kd) : iMg I' w h N n gr kd := by
  unfold iMg
  rw [h1 10 (by decide) (by decide), h1 11 (by decide) (by decide), h1 13 (by decide) (by decide), h2, h3]
  exact hm
theorem mK.cg {I I' : Nat → Nat → Int32} {n : Int} {kp : Int → Bool} {kf : Int → Fl} (n4 : n ≤ 4) (h1 : I' 100 = I 100) (h2 : ∀ i : Int, 13 ≤ i → i < 52 → I' 99 i.toNat = I 99 i.toNat) (hx : mK I n kp kf) : mK I' n kp kf := by
  intro k k1 k2
  rw [h1]
  exact ⟨(hx k k1 k2).1, fun z => ((hx k k1 k2).2 z).cg (fun i i1 i2 => h2 i (by omega) (by omega)) n4⟩
/-- the cells that count stay -/
def kpM (I I' : Nat → Nat → Int32) : Prop := (∀ r, ((88 < r ∧ r < 91) ∨ (91 < r ∧ r < 96) ∨ r = 100) → I' r = I r) ∧ (∀ k, 10 ≤ k → k < 14 → I' 87 k = I 87 k) ∧ ∀ i : Int, 0 ≤ i → i < 52 → I' 99 i.toNat = I 99 i.toNat
theorem kpM.tr {I I' I'' : Nat → Nat → Int32} (h : kpM I I') (h' : kpM I' I'') : kpM I I'' := ⟨fun r a => (h'.1 r a).trans (h.1 r a), fun k a b => (h'.2.1 k a b).trans (h.2.1 k a b), fun i a b => (h'.2.2 i a b).trans (h.2.2 i a b)⟩
theorem iM.n4 {I : Nat → Nat → Int32} {J : Nat → Nat → Int64} {A : Ast} (hx : iM I J A) : a_gn A ≤ 4 := hx.1.1.2.2.2.1
theorem iM.keep {I I' : Nat → Nat → Int32} {J J' : Nat → Nat → Int64} {A : Ast} (hx : iM I J A) (h : kpM I I') {told : Int32} {up low : Int64} {fin : Int} {cnt : Int → Int} (hM : mM I' J' told up low fin cnt) : iM I' J' (A_cnt (A_fin (A_low (A_up (A_told A told) up) low) fin) cnt) := by
  have n4 := hx.n4
  obtain ⟨x1, x2, x3, x4, x5, x6, x7⟩ := hx
  exact ⟨x1, x2.cg (h.1 89 (by decide)) (h.1 90 (by decide)), x3.cg (h.1 92 (by decide)) (h.1 93 (by decide)), x4.cg' h.2.1 (h.1 94 (by decide)) (h.1 95 (by decide)), x5.cg (fun i a b => h.2.2 i (by omega) (by omega)) n4, x6.cg n4 (h.1 100 (by decide)) (fun i a b => h.2.2 i (by omega) b), hM⟩
theorem iM.tell {I I' : Nat → Nat → Int32} {J J' : Nat → Nat → Int64} {A : Ast} (hx : iM I J A) (h : kpM I I') (h0 : I' 87 0 = I 87 0) (h88 : I' 88 = I 88) (hJ : J' 87 = J 87) {v : Int32} (hv : I' 87 2 = v) : iM I' J' (A_told A v) := by
  have hM := hx.2.2.2.2.2.2
  exact hx.keep h (told := v) (up := a_up A) (low := a_low A) (fin := a_fin A) (cnt := a_cnt A) ⟨hv, by rw [hJ]; exact hM.2.1, by rw [hJ]; exact hM.2.2.1, by rw [h0]; exact hM.2.2.2.1, fun q q1 q2 => by rw [h88]; exact hM.2.2.2.2 q q1 q2⟩
theorem iM.same {I I' : Nat → Nat → Int32} {J J' : Nat → Nat → Int64} {A : Ast} (hx : iM I J A) (h : kpM I I') (h0 : I' 87 0 = I 87 0) (h2 : I' 87 2 = I 87 2) (h88 : I' 88 = I 88) (hJ : J' 87 = J 87) : iM I' J' A := hx.tell h h0 h88 hJ (v := a_told A) (by rw [h2]; exact hx.2.2.2.2.2.2.1)
theorem iM.flock {I I' : Nat → Nat → Int32} {J : Nat → Nat → Int64} {A : Ast} (hx : iM I J A) (h : ∀ r, ((87 < r ∧ r < 91) ∨ (91 < r ∧ r < 96) ∨ r = 100) → I' r = I r) (hk : ∀ k, (k < 2 ∨ (3 ≤ k ∧ k < 14)) → I' 87 k = I 87 k) (h99 : ∀ i : Int, 13 ≤ i → i < 52 → I' 99 i.toNat = I 99 i.toNat) {f : Fl} {v : Int32} (hv : I' 87 2 = v) (hf : iM1 I' 0 (a_gn A) f) (ho : okF (a_N A) (a_gn A) 10000 f) : iM I' J (A_told (A_fl A f) v) := by
  have n4 := hx.n4
  obtain ⟨x1, x2, x3, x4, x5, x6, x7⟩ := hx
  exact ⟨⟨x1.1, ho, x1.2.2⟩, x2.cg (h 89 (by decide)) (h 90 (by decide)), x3.cg (h 92 (by decide)) (h 93 (by decide)), x4.cg' (fun k a b => hk k (by omega)) (h 94 (by decide)) (h 95 (by decide)), hf, x6.cg n4 (h 100 (by decide)) h99, hv, x7.2.1, x7.2.2.1, by rw [hk 0 (by decide)]; exact x7.2.2.2.1, fun q q1 q2 => by rw [h 88 (by decide)]; exact x7.2.2.2.2 q q1 q2⟩
theorem iM.rows {I I' : Nat → Nat → Int32} {J : Nat → Nat → Int64} {A : Ast} (hx : iM I J A) (h : ∀ r, r ≠ 87 → r ≠ 89 → r ≠ 90 → r ≠ 91 → I' r = I r) (hk : ∀ k, k ≠ 2 → I' 87 k = I 87 k) {rz : Int → Int} {rv : Int → Int → Int32} {v : Int32} (hv : I' 87 2 = v) (hr : mR I' rz rv) (hb : ∀ r, 0 ≤ r → r < 6 → -1 ≤ rz r ∧ rz r ≤ 60) : iM I' J (A_told (A_rv (A_rz A rz) rv) v) := by
  have n4 := hx.n4
  obtain ⟨x1, x2, x3, x4, x5, x6, x7⟩ := hx
  have h99 := h 99 (by decide) (by decide) (by decide) (by decide)
  exact ⟨⟨x1.1, x1.2.1, x1.2.2.1, hb, x1.2.2.2.2⟩, hr, x3.cg (h 92 (by decide) (by decide) (by decide) (by decide)) (h 93 (by decide) (by decide) (by decide) (by decide)), x4.cg' (fun k a b => hk k (by omega)) (h 94 (by decide) (by decide) (by decide) (by decide)) (h 95 (by decide) (by decide) (by decide) (by decide)), x5.cg (fun i a b => by rw [h99]) n4, x6.cg n4 (h 100 (by decide) (by decide) (by decide) (by decide)) (fun i a b => by rw [h99]), hv, x7.2.1, x7.2.2.1, by rw [hk 0 (by decide)]; exact x7.2.2.2.1, fun q q1 q2 => by rw [h 88 (by decide) (by decide) (by decide) (by decide)]; exact x7.2.2.2.2 q q1 q2⟩
theorem iM.texts {I I' : Nat → Nat → Int32} {J : Nat → Nat → Int64} {A : Ast} (hx : iM I J A) (h : ∀ r, r ≠ 92 → r ≠ 93 → I' r = I r) {tz : Int → Int} {tv : Int → Int → Int} (hr : mT I' tz tv) (hb : ∀ r, 0 ≤ r → r < 4 → -1 ≤ tz r ∧ tz r ≤ 80) (hb2 : ∀ t i, 0 ≤ t → t < 4 → 0 ≤ i → i < 80 → -128 ≤ tv t i ∧ tv t i ≤ 127) : iM I' J (A_tv (A_tz A tz) tv) := by
  have n4 := hx.n4
  obtain ⟨x1, x2, x3, x4, x5, x6, x7⟩ := hx
  have h99 := h 99 (by decide) (by decide)
  have h87 := h 87 (by decide) (by decide)
  exact ⟨⟨x1.1, x1.2.1, x1.2.2.1, x1.2.2.2.1, hb, hb2⟩, x2.cg (h 89 (by decide) (by decide)) (h 90 (by decide) (by decide)), hr, x4.cg' (fun k a b => by rw [h87]) (h 94 (by decide) (by decide)) (h 95 (by decide) (by decide)), x5.cg (fun i a b => by rw [h99]) n4, x6.cg n4 (h 100 (by decide) (by decide)) (fun i a b => by rw [h99]), by rw [h87]; exact x7.1, x7.2.1, x7.2.2.1, by rw [h87]; exact x7.2.2.2.1, fun q q1 q2 => by rw [h 88 (by decide) (by decide)]; exact x7.2.2.2.2 q q1 q2⟩
section MFACE
variable {L p d : Nat} {I : Nat → Nat → Int32} {J : Nat → Nat → Int64} {A : Ast}
theorem mc.of {m : Nat} {as : List Value} {r : Int × Ast} (h : ∃ I', j_run d m as (ST L p I J) = some (some (.int (j_k r.1)), ST L p I' J) ∧ iM I' J r.2 ∧ ∀ r, (r < 87 ∨ 104 ≤ r) → I' r = I r) : mc L p I J d m as r := by
  obtain ⟨I', a, b, c⟩ := h
  exact ⟨I', J, a, b, c, fun _ _ => rfl⟩
theorem mc.no {m : Nat} {as : List Value} {v : Int} (hx : iM I J A) (h : j_run d m as (ST L p I J) = some (some (.int (j_k v)), ST L p I J)) : mc L p I J d m as (v, A) := ⟨I, J, h, hx, fun _ _ => rfl, fun _ _ => rfl⟩
theorem n_meets (hx : iM I J A) {q : Int} (q1 : 1 ≤ q) (q2 : q < 6) : ∃ I', j_run (d + 1) 131 [.ref 87, .int (j_k q)] (ST L p I J) = some (some (.int (j_k (-3))), ST L p I' J) ∧ iM I' J (p_meets q A).2 ∧ ∀ r, (r < 87 ∨ 104 ≤ r) → I' r = I r := by
  have hM := hx.2.2.2.2.2.2
  have h88 := hM.2.2.2.2 q q1 q2
  have q0 : 0 ≤ q := by omega
  have e := (r_131 d (ST L p I J) 87 (j_k q)).trans (t_131_0 _ _ _ _ _)
  simp (disch := first | assumption | omega) only [k_add, k_sub, k_mul, k_lt, k_eq, k_lt0, k_0lt, k_eq0, k_nat, k_b0, k_b1, k_z1, k_z0, k_o1, k_o0, Int.reduceEq, Int.reduceLT, Int.reduceLE, Int.reduceAdd, Int.reduceMul, Int.reduceNeg, Bool.false_eq_true, or_true, true_or, or_false, false_or, and_true, true_and, and_false, false_and, not_true_eq_false, not_false_eq_true, ↓reduceIte, z_0, z_k, s_I, s_J, s_uI, s_uJ, ↓c_oc_87, ↓c_lt_87, ↓c_gP_87_1, ↓c_ia_88, ↓c_is_88, u2_r, h88] at e
  refine ⟨_, e, hx.keep (told := a_told A) (up := a_up A) (low := a_low A) (fin := q) (cnt := f2 (a_cnt A) q (a_cnt A q + 1)) ⟨fun r a => ?_, fun k a b => ?_, fun i a b => ?_⟩ ⟨?_, hM.2.1, hM.2.2.1, ?_, fun s s1 s2 => ?_⟩, fun r a => ?_⟩
  · funext m
    rw [u2_r (by omega), u2_r (by omega)]
  · rw [u2_r (by decide), u2_k (by omega)]
  · rw [u2_r (by decide), u2_r (by decide)]
  · rw [u2_r (by decide), u2_k (by decide)]
    exact hM.1
  · rw [u2_r (by decide), u2_ss]
  · unfold f2
    by_cases z : s = q
    · subst z
      rw [u2_ss, if_pos rfl]
    · rw [u2_k (by omega), u2_r (by decide), if_neg z]
      exact hM.2.2.2.2 s s1 s2
  · funext m
    rw [u2_r (by omega), u2_r (by omega)]
theorem mc.meets {m : Nat} {as : List Value} {q : Int} {I' : Nat → Nat → Int32} (h1 : iM I' J (p_meets q A).2) (h2 : ∀ r, (r < 87 ∨ 104 ≤ r) → I' r = I r) (h : j_run d m as (ST L p I J) = some (some (.int (j_k (-3))), ST L p I' J)) : mc L p I J d m as (p_meets q A) := ⟨I', J, h, h1, h2, fun _ _ => rfl⟩
theorem n_tells {v x : Int32} : j_run (d + 1) 134 [.ref 87, .int v, .int x] (ST L p I J) = some (some (.int x), ST L p (u2 I 87 2 v) J) := by
  rw [r_134, t_134_0]
  simp (disch := first | assumption | omega) only [k_add, k_sub, k_mul, k_lt, k_eq, k_lt0, k_0lt, k_eq0, k_nat, k_b0, k_b1, k_z1, k_z0, k_o1, k_o0, Int.reduceEq, Int.reduceLT, Int.reduceLE, Int.reduceAdd, Int.reduceMul, Int.reduceNeg, Bool.false_eq_true, or_true, true_or, or_false, false_or, and_true, true_and, and_false, false_and, not_true_eq_false, not_false_eq_true, ↓reduceIte, z_0, z_k, s_I, s_J, s_uI, s_uJ, ↓c_oc_87, ↓c_lt_87]
theorem kpM.rf : kpM I I := ⟨fun _ _ => rfl, fun _ _ _ => rfl, fun _ _ _ => rfl⟩
theorem kpM.o {k : Nat} {v : Int32} (hk : k < 10 ∨ 14 ≤ k) : kpM I (u2 I 87 k v) := ⟨fun r a => by funext m; rw [u2_r (by omega)], fun m a b => by rw [u2_k (by omega)], fun i a b => by rw [u2_r (by decide)]⟩
theorem iM.told (hx : iM I J A) {v : Int32} : iM (u2 I 87 2 v) J (A_told A v) := hx.tell (kpM.o (Or.inl (by decide))) (u2_k (by decide)) (by funext m; rw [u2_r (by decide)]) rfl (u2_ss _ _ _ _)
theorem fr_told {v : Int32} : ∀ r, (r < 87 ∨ 104 ≤ r) → u2 I 87 2 v r = I r := fun r a => by funext m; rw [u2_r (by omega)]
theorem n_rowAt (hx : iM I J A) {r i : Int} (r1 : 0 ≤ r) (r2 : r < 6) (i1 : 0 ≤ i) (i2 : i < 60) : j_run (d + 1) 140 [.ref 87, .int (j_k r), .int (j_k i)] (ST L p I J) = some (some (.int (a_rv A r i)), ST L p I J) := by
  have e := (hx.2.1 r r1 r2).2 i i1 i2
  rw [r_140, t_140_0]
  simp (disch := first | assumption | omega) only [k_add, k_sub, k_mul, k_lt, k_eq, k_lt0, k_0lt, k_eq0, k_nat, k_b0, k_b1, k_z1, k_z0, k_o1, k_o0, Int.reduceEq, Int.reduceLT, Int.reduceLE, Int.reduceAdd, Int.reduceMul, Int.reduceNeg, Bool.false_eq_true, or_true, true_or, or_false, false_or, and_true, true_and, and_false, false_and, not_true_eq_false, not_false_eq_true, ↓reduceIte, z_0, z_k, s_I, s_J, s_uI, s_uJ, ↓c_gP_87_6, ↓c_ia_90, e]
theorem n_byteAt (hx : iM I J A) {t i : Int} (t1 : 0 ≤ t) (t2 : t < 4) (i1 : 0 ≤ i) (i2 : i ≤ 80) : j_run (d + 1) 150 [.ref 87, .int (j_k t), .int (j_k i)] (ST L p I J) = some (some (.int (j_k (if i < a_tz A t then a_tv A t i else 0))), ST L p I J) := by
  have h := hx.2.2.1 t t1 t2
  have b := hx.1.2.2.2.2.1 t t1 t2
  have hz := h.1
  have b1 := b.1
  have b2 := b.2
  rw [r_150, t_150_0]
  by_cases x : i < a_tz A t
  · have e := h.2 i i1 (by omega)
    rw [if_pos x]
    simp (disch := first | assumption | omega) only [k_add, k_sub, k_mul, k_lt, k_eq, k_lt0, k_0lt, k_eq0, k_nat, k_b0, k_b1, k_z1, k_z0, k_o1, k_o0, Int.reduceEq, Int.reduceLT, Int.reduceLE, Int.reduceAdd, Int.reduceMul, Int.reduceNeg, Bool.false_eq_true, or_true, true_or, or_false, false_or, and_true, true_and, and_false, false_and, not_true_eq_false, not_false_eq_true, ↓reduceIte, z_0, z_k, s_I, s_J, s_uI, s_uJ, ↓c_gP_87_8, ↓c_ia_92, hz, x, ↓c_gP_87_9, ↓c_ba_93, e]
  · rw [if_neg x]
    simp (disch := first | assumption | omega) only [k_add, k_sub, k_mul, k_lt, k_eq, k_lt0, k_0lt, k_eq0, k_nat, k_b0, k_b1, k_z1, k_z0, k_o1, k_o0, Int.reduceEq, Int.reduceLT, Int.reduceLE, Int.reduceAdd, Int.reduceMul, Int.reduceNeg, Bool.false_eq_true, or_true, true_or, or_false, false_or, and_true, true_and, and_false, false_and, not_true_eq_false, not_false_eq_true, ↓reduceIte, z_0, z_k, s_I, s_J, s_uI, s_uJ, ↓c_gP_87_8, ↓c_ia_92, hz, x]
theorem n_find (hx : iM I J A) : j_run (d + 1) 132 [.ref 87] (ST L p I J) = some (some (.int (j_k (a_fin A))), ST L p I J) := by
  have h := hx.2.2.2.2.2.2.2.2.2.1
  rw [r_132, t_132_0]
  simp (disch := first | assumption | omega) only [k_add, k_sub, k_mul, k_lt, k_eq, k_lt0, k_0lt, k_eq0, k_nat, k_b0, k_b1, k_z1, k_z0, k_o1, k_o0, Int.reduceEq, Int.reduceLT, Int.reduceLE, Int.reduceAdd, Int.reduceMul, Int.reduceNeg, Bool.false_eq_true, or_true, true_or, or_false, false_or, and_true, true_and, and_false, false_and, not_true_eq_false, not_false_eq_true, ↓reduceIte, z_0, z_k, s_I, s_J, s_uI, s_uJ, ↓c_oc_87, h]
theorem n_findings (hx : iM I J A) {q : Int} (h1 : -2147483648 ≤ q) (h2 : q < 2147483648) : mc L p I J (d + 2) 133 [.ref 87, .int (j_k q)] (p_findings q A) := by
  have i1 := n_in (L := L) (p := p) (d := d) (I := I) (J := J) (lo := 1) (hi := 5) h1 h2 (by decide) (by decide) (by decide) (by decide)
  have e := (r_133 (d + 1) (ST L p I J) 87 (j_k q)).trans (t_133_0 _ _ _ _ _)
  unfold p_findings
  by_cases x : 1 ≤ q ∧ q ≤ 5
  · have z : j_z (1 ≤ q ∧ q ≤ 5) = j_k 1 := if_pos x
    have h := hx.2.2.2.2.2.2.2.2.2.2 q x.1 (by omega)
    have q0 : 0 ≤ q := by omega
    rw [z] at i1
    rw [if_pos x]
    simp (disch := first | assumption | omega) only [k_add, k_sub, k_mul, k_lt, k_eq, k_lt0, k_0lt, k_eq0, k_nat, k_b0, k_b1, k_z1, k_z0, k_o1, k_o0, Int.reduceEq, Int.reduceLT, Int.reduceLE, Int.reduceAdd, Int.reduceMul, Int.reduceNeg, Bool.false_eq_true, or_true, true_or, or_false, false_or, and_true, true_and, and_false, false_and, not_true_eq_false, not_false_eq_true, ↓reduceIte, z_0, z_k, s_I, s_J, s_uI, s_uJ, ↓jc1 i1, ↓c_gP_87_1, ↓c_ia_88, h] at e
    exact .no hx e
  · have z : j_z (1 ≤ q ∧ q ≤ 5) = j_k 0 := if_neg x
    rw [z] at i1
    rw [if_neg x]
    simp (disch := first | assumption | omega) only [k_add, k_sub, k_mul, k_lt, k_eq, k_lt0, k_0lt, k_eq0, k_nat, k_b0, k_b1, k_z1, k_z0, k_o1, k_o0, Int.reduceEq, Int.reduceLT, Int.reduceLE, Int.reduceAdd, Int.reduceMul, Int.reduceNeg, Bool.false_eq_true, or_true, true_or, or_false, false_or, and_true, true_and, and_false, false_and, not_true_eq_false, not_false_eq_true, ↓reduceIte, z_0, z_k, s_I, s_J, s_uI, s_uJ, ↓jc1 i1] at e
    exact .no hx e
theorem n_asked (hx : iM I J A) : j_run (d + 1) 135 [.ref 87] (ST L p I J) = some (some (.int (a_told A)), ST L p I J) := by
  have h := hx.2.2.2.2.2.2.1
  rw [r_135, t_135_0]
  simp (disch := first | assumption | omega) only [k_add, k_sub, k_mul, k_lt, k_eq, k_lt0, k_0lt, k_eq0, k_nat, k_b0, k_b1, k_z1, k_z0, k_o1, k_o0, Int.reduceEq, Int.reduceLT, Int.reduceLE, Int.reduceAdd, Int.reduceMul, Int.reduceNeg, Bool.false_eq_true, or_true, true_or, or_false, false_or, and_true, true_and, and_false, false_and, not_true_eq_false, not_false_eq_true, ↓reduceIte, z_0, z_k, s_I, s_J, s_uI, s_uJ, ↓c_oc_87, h]
theorem n_upper (hx : iM I J A) : j_run (d + 1) 137 [.ref 87] (ST L p I J) = some (some (.long (a_up A)), ST L p I J) := by
  have h := hx.2.2.2.2.2.2.2.1
  rw [r_137, t_137_0]
  simp (disch := first | assumption | omega) only [k_add, k_sub, k_mul, k_lt, k_eq, k_lt0, k_0lt, k_eq0, k_nat, k_b0, k_b1, k_z1, k_z0, k_o1, k_o0, Int.reduceEq, Int.reduceLT, Int.reduceLE, Int.reduceAdd, Int.reduceMul, Int.reduceNeg, Bool.false_eq_true, or_true, true_or, or_false, false_or, and_true, true_and, and_false, false_and, not_true_eq_false, not_false_eq_true, ↓reduceIte, z_0, z_k, s_I, s_J, s_uI, s_uJ, ↓c_oc_87, h]
theorem n_lower (hx : iM I J A) : j_run (d + 1) 138 [.ref 87] (ST L p I J) = some (some (.long (a_low A)), ST L p I J) := by
  have h := hx.2.2.2.2.2.2.2.2.1
  rw [r_138, t_138_0]
  simp (disch := first | assumption | omega) only [k_add, k_sub, k_mul, k_lt, k_eq, k_lt0, k_0lt, k_eq0, k_nat, k_b0, k_b1, k_z1, k_z0, k_o1, k_o0, Int.reduceEq, Int.reduceLT, Int.reduceLE, Int.reduceAdd, Int.reduceMul, Int.reduceNeg, Bool.false_eq_true, or_true, true_or, or_false, false_or, and_true, true_and, and_false, false_and, not_true_eq_false, not_false_eq_true, ↓reduceIte, z_0, z_k, s_I, s_J, s_uI, s_uJ, ↓c_oc_87, h]
end MFACE
