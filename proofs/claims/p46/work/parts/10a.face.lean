/-! ===== the state that the document tells (by program wip/gen/astate.py) ===== -/
/-- rz, rv, tz, tv, gw, gh, gr, gn, kd, fl, kp, kf, told, up, low, fin, cnt -/
abbrev Ast : Type := (Int → Int) × (Int → Int → Int32) × (Int → Int) × (Int → Int → Int) × (Int) × (Int) × (Fl) × (Int) × (Fl) × (Fl) × (Int → Bool) × (Int → Fl) × (Int32) × (Int64) × (Int64) × (Int) × (Int → Int)
abbrev a_rz (A : Ast) : Int → Int := A.1
abbrev a_rv (A : Ast) : Int → Int → Int32 := A.2.1
abbrev a_tz (A : Ast) : Int → Int := A.2.2.1
abbrev a_tv (A : Ast) : Int → Int → Int := A.2.2.2.1
abbrev a_gw (A : Ast) : Int := A.2.2.2.2.1
abbrev a_gh (A : Ast) : Int := A.2.2.2.2.2.1
abbrev a_gr (A : Ast) : Fl := A.2.2.2.2.2.2.1
abbrev a_gn (A : Ast) : Int := A.2.2.2.2.2.2.2.1
abbrev a_kd (A : Ast) : Fl := A.2.2.2.2.2.2.2.2.1
abbrev a_fl (A : Ast) : Fl := A.2.2.2.2.2.2.2.2.2.1
abbrev a_kp (A : Ast) : Int → Bool := A.2.2.2.2.2.2.2.2.2.2.1
abbrev a_kf (A : Ast) : Int → Fl := A.2.2.2.2.2.2.2.2.2.2.2.1
abbrev a_told (A : Ast) : Int32 := A.2.2.2.2.2.2.2.2.2.2.2.2.1
abbrev a_up (A : Ast) : Int64 := A.2.2.2.2.2.2.2.2.2.2.2.2.2.1
abbrev a_low (A : Ast) : Int64 := A.2.2.2.2.2.2.2.2.2.2.2.2.2.2.1
abbrev a_fin (A : Ast) : Int := A.2.2.2.2.2.2.2.2.2.2.2.2.2.2.2.1
abbrev a_cnt (A : Ast) : Int → Int := A.2.2.2.2.2.2.2.2.2.2.2.2.2.2.2.2
abbrev A_rz (A : Ast) (v : Int → Int) : Ast := (v, A.2)
abbrev A_rv (A : Ast) (v : Int → Int → Int32) : Ast := (A.1, v, A.2.2)
abbrev A_tz (A : Ast) (v : Int → Int) : Ast := (A.1, A.2.1, v, A.2.2.2)
abbrev A_tv (A : Ast) (v : Int → Int → Int) : Ast := (A.1, A.2.1, A.2.2.1, v, A.2.2.2.2)
abbrev A_gw (A : Ast) (v : Int) : Ast := (A.1, A.2.1, A.2.2.1, A.2.2.2.1, v, A.2.2.2.2.2)
abbrev A_gh (A : Ast) (v : Int) : Ast := (A.1, A.2.1, A.2.2.1, A.2.2.2.1, A.2.2.2.2.1, v, A.2.2.2.2.2.2)
abbrev A_gr (A : Ast) (v : Fl) : Ast := (A.1, A.2.1, A.2.2.1, A.2.2.2.1, A.2.2.2.2.1, A.2.2.2.2.2.1, v, A.2.2.2.2.2.2.2)
abbrev A_gn (A : Ast) (v : Int) : Ast := (A.1, A.2.1, A.2.2.1, A.2.2.2.1, A.2.2.2.2.1, A.2.2.2.2.2.1, A.2.2.2.2.2.2.1, v, A.2.2.2.2.2.2.2.2)
abbrev A_kd (A : Ast) (v : Fl) : Ast := (A.1, A.2.1, A.2.2.1, A.2.2.2.1, A.2.2.2.2.1, A.2.2.2.2.2.1, A.2.2.2.2.2.2.1, A.2.2.2.2.2.2.2.1, v, A.2.2.2.2.2.2.2.2.2)
abbrev A_fl (A : Ast) (v : Fl) : Ast := (A.1, A.2.1, A.2.2.1, A.2.2.2.1, A.2.2.2.2.1, A.2.2.2.2.2.1, A.2.2.2.2.2.2.1, A.2.2.2.2.2.2.2.1, A.2.2.2.2.2.2.2.2.1, v, A.2.2.2.2.2.2.2.2.2.2)
abbrev A_kp (A : Ast) (v : Int → Bool) : Ast := (A.1, A.2.1, A.2.2.1, A.2.2.2.1, A.2.2.2.2.1, A.2.2.2.2.2.1, A.2.2.2.2.2.2.1, A.2.2.2.2.2.2.2.1, A.2.2.2.2.2.2.2.2.1, A.2.2.2.2.2.2.2.2.2.1, v, A.2.2.2.2.2.2.2.2.2.2.2)
abbrev A_kf (A : Ast) (v : Int → Fl) : Ast := (A.1, A.2.1, A.2.2.1, A.2.2.2.1, A.2.2.2.2.1, A.2.2.2.2.2.1, A.2.2.2.2.2.2.1, A.2.2.2.2.2.2.2.1, A.2.2.2.2.2.2.2.2.1, A.2.2.2.2.2.2.2.2.2.1, A.2.2.2.2.2.2.2.2.2.2.1, v, A.2.2.2.2.2.2.2.2.2.2.2.2)
abbrev A_told (A : Ast) (v : Int32) : Ast := (A.1, A.2.1, A.2.2.1, A.2.2.2.1, A.2.2.2.2.1, A.2.2.2.2.2.1, A.2.2.2.2.2.2.1, A.2.2.2.2.2.2.2.1, A.2.2.2.2.2.2.2.2.1, A.2.2.2.2.2.2.2.2.2.1, A.2.2.2.2.2.2.2.2.2.2.1, A.2.2.2.2.2.2.2.2.2.2.2.1, v, A.2.2.2.2.2.2.2.2.2.2.2.2.2)
abbrev A_up (A : Ast) (v : Int64) : Ast := (A.1, A.2.1, A.2.2.1, A.2.2.2.1, A.2.2.2.2.1, A.2.2.2.2.2.1, A.2.2.2.2.2.2.1, A.2.2.2.2.2.2.2.1, A.2.2.2.2.2.2.2.2.1, A.2.2.2.2.2.2.2.2.2.1, A.2.2.2.2.2.2.2.2.2.2.1, A.2.2.2.2.2.2.2.2.2.2.2.1, A.2.2.2.2.2.2.2.2.2.2.2.2.1, v, A.2.2.2.2.2.2.2.2.2.2.2.2.2.2)
abbrev A_low (A : Ast) (v : Int64) : Ast := (A.1, A.2.1, A.2.2.1, A.2.2.2.1, A.2.2.2.2.1, A.2.2.2.2.2.1, A.2.2.2.2.2.2.1, A.2.2.2.2.2.2.2.1, A.2.2.2.2.2.2.2.2.1, A.2.2.2.2.2.2.2.2.2.1, A.2.2.2.2.2.2.2.2.2.2.1, A.2.2.2.2.2.2.2.2.2.2.2.1, A.2.2.2.2.2.2.2.2.2.2.2.2.1, A.2.2.2.2.2.2.2.2.2.2.2.2.2.1, v, A.2.2.2.2.2.2.2.2.2.2.2.2.2.2.2)
abbrev A_fin (A : Ast) (v : Int) : Ast := (A.1, A.2.1, A.2.2.1, A.2.2.2.1, A.2.2.2.2.1, A.2.2.2.2.2.1, A.2.2.2.2.2.2.1, A.2.2.2.2.2.2.2.1, A.2.2.2.2.2.2.2.2.1, A.2.2.2.2.2.2.2.2.2.1, A.2.2.2.2.2.2.2.2.2.2.1, A.2.2.2.2.2.2.2.2.2.2.2.1, A.2.2.2.2.2.2.2.2.2.2.2.2.1, A.2.2.2.2.2.2.2.2.2.2.2.2.2.1, A.2.2.2.2.2.2.2.2.2.2.2.2.2.2.1, v, A.2.2.2.2.2.2.2.2.2.2.2.2.2.2.2.2)
abbrev A_cnt (A : Ast) (v : Int → Int) : Ast := (A.1, A.2.1, A.2.2.1, A.2.2.2.1, A.2.2.2.2.1, A.2.2.2.2.2.1, A.2.2.2.2.2.2.1, A.2.2.2.2.2.2.2.1, A.2.2.2.2.2.2.2.2.1, A.2.2.2.2.2.2.2.2.2.1, A.2.2.2.2.2.2.2.2.2.2.1, A.2.2.2.2.2.2.2.2.2.2.2.1, A.2.2.2.2.2.2.2.2.2.2.2.2.1, A.2.2.2.2.2.2.2.2.2.2.2.2.2.1, A.2.2.2.2.2.2.2.2.2.2.2.2.2.2.1, A.2.2.2.2.2.2.2.2.2.2.2.2.2.2.2.1, v)
/-- place j of a function of two places anew -/
def f2 {α : Type} (f : Int → α) (k : Int) (v : α) : Int → α := fun j => if j = k then v else f j
def a_N (A : Ast) : Int := a_gw A * a_gh A
def okA (A : Ast) : Prop :=
  okC (a_gw A) (a_gh A) (a_N A) (a_gn A) (a_gr A) (a_kd A) ∧ okF (a_N A) (a_gn A) 10000 (a_fl A) ∧
  (∀ k, 0 ≤ k → k < 3 → a_kp A k = true → okF (a_N A) (a_gn A) 10000 (a_kf A k)) ∧
  (∀ r, 0 ≤ r → r < 6 → -1 ≤ a_rz A r ∧ a_rz A r ≤ 60) ∧ (∀ t, 0 ≤ t → t < 4 → -1 ≤ a_tz A t ∧ a_tz A t ≤ 80) ∧
  (∀ t i, 0 ≤ t → t < 4 → 0 ≤ i → i < 80 → -128 ≤ a_tv A t i ∧ a_tv A t i ≤ 127)
/-- refused -/
def p_meets (q : Int) (A : Ast) : Int × Ast := (-3, A_cnt (A_fin A q) (f2 (a_cnt A) q (a_cnt A q + 1)))
/-! ===== the class's cells, and what they say of the state ===== -/
def xR (I : Nat → Nat → Int32) (rz : Int → Int) (rv : Int → Int → Int32) : Prop := ∀ r : Int, 0 ≤ r → r < 6 → I 9 r.toNat = j_k (rz r) ∧ ∀ i : Int, 0 ≤ i → i < 60 → I (3 + 1 * r.toNat) i.toNat = rv r i
def xT (I : Nat → Nat → Int32) (tz : Int → Int) (tv : Int → Int → Int) : Prop := ∀ t : Int, 0 ≤ t → t < 4 → I 16 t.toNat = j_k (tz t) ∧ ∀ i : Int, 0 ≤ i → i < 80 → I (12 + 1 * t.toNat) i.toNat = j_k (tv t i)
abbrev kA (k : Int) : Nat := 36 + 4 * k.toNat
def xK (I : Nat → Nat → Int32) (n : Int) (kd : Fl) (kp : Int → Bool) (kf : Int → Fl) : Prop := ∀ k : Int, 0 ≤ k → k < 3 → (bt (I 0 11) k.toNat = kp k) ∧ (kp k = true → iF I (kA k) n kd (kf k))
def xK2 (I : Nat → Nat → Int32) : Prop := ∃ v : Int, 0 ≤ v ∧ v < 8 ∧ I 0 11 = j_k v
def xM (I : Nat → Nat → Int32) (J : Nat → Nat → Int64) (told : Int32) (up low : Int64) (fin : Int) (cnt : Int → Int) : Prop := I 0 13 = told ∧ J 0 14 = up ∧ J 0 15 = low ∧ I 0 12 = j_k fin ∧ ∀ q : Int, 1 ≤ q → q < 6 → I 86 q.toNat = j_k (cnt q)
/-- the reader's tables -/
def xS (I : Nat → Nat → Int32) : Prop := (I j_b 0 = j_k 46 ∧ I j_b 1 = j_k 35 ∧ I j_b 2 = j_k 126 ∧ I j_b 3 = j_k 111 ∧ I j_b 4 = j_k 61) ∧ (I (j_b + 1) 0 = j_k 98 ∧ I (j_b + 1) 1 = j_k 115 ∧ I (j_b + 1) 2 = j_k 108 ∧ I (j_b + 1) 3 = j_k 99 ∧ I (j_b + 1) 4 = j_k 109 ∧ I (j_b + 1) 5 = j_k 116)
def iX (I : Nat → Nat → Int32) (J : Nat → Nat → Int64) (A : Ast) : Prop :=
  okA A ∧ xR I (a_rz A) (a_rv A) ∧ xT I (a_tz A) (a_tv A) ∧ iG I 27 (a_gw A) (a_gh A) (a_N A) (a_gr A) ∧ iF I 31 (a_gn A) (a_kd A) (a_fl A) ∧ xK I (a_gn A) (a_kd A) (a_kp A) (a_kf A) ∧ xK2 I ∧ xM I J (a_told A) (a_up A) (a_low A) (a_fin A) (a_cnt A) ∧ iT I ∧ xS I
/-- the model's cells, the tables, the script stay -/
def frX (I I' : Nat → Nat → Int32) (J J' : Nat → Nat → Int64) : Prop := (∀ r, 87 ≤ r → I' r = I r) ∧ ∀ r, 87 ≤ r → J' r = J r
theorem xR.cg {I I' : Nat → Nat → Int32} {rz : Int → Int} {rv : Int → Int → Int32} (h : ∀ r, 3 ≤ r → r ≤ 9 → I' r = I r) (hx : xR I rz rv) : xR I' rz rv := by
  intro r r1 r2
  rw [h 9 (by decide) (by decide), h (3 + 1 * r.toNat) (by omega) (by omega)]
  exact hx r r1 r2
theorem xT.cg {I I' : Nat → Nat → Int32} {tz : Int → Int} {tv : Int → Int → Int} (h : ∀ r, 12 ≤ r → r ≤ 16 → I' r = I r) (hx : xT I tz tv) : xT I' tz tv := by
  intro r r1 r2
  rw [h 16 (by decide) (by decide), h (12 + 1 * r.toNat) (by omega) (by omega)]
  exact hx r r1 r2
theorem xK.cg {I I' : Nat → Nat → Int32} {n : Int} {kd : Fl} {kp : Int → Bool} {kf : Int → Fl} (h : I' 0 11 = I 0 11) (h2 : ∀ r, 36 ≤ r → r < 48 → I' r = I r) (hx : xK I n kd kp kf) : xK I' n kd kp kf := by
  intro k k1 k2
  rw [h]
  exact ⟨(hx k k1 k2).1, fun z => ((hx k k1 k2).2 z).cg (fun r r1 r2 => h2 r (by have : kA k = 36 + 4 * k.toNat := rfl; omega) (by have : kA k = 36 + 4 * k.toNat := rfl; omega))⟩
theorem xS.cg {I I' : Nat → Nat → Int32} (h0 : I' j_b = I j_b) (h1 : I' (j_b + 1) = I (j_b + 1)) (hx : xS I) : xS I' := by
  unfold xS
  rw [h0, h1]
  exact hx
/-- cells that no call but 'build', 'ground', 'keep' .. changes -/
theorem iX.keep {I I' : Nat → Nat → Int32} {J J' : Nat → Nat → Int64} {A : Ast} (hx : iX I J A) (h : ∀ r, r ≠ 0 → r ≠ 86 → (r < 17 ∨ (27 ≤ r ∧ r < 48) ∨ 87 ≤ r) → I' r = I r) (h11 : I' 0 11 = I 0 11) {told : Int32} {up low : Int64} {fin : Int} {cnt : Int → Int} (hM : xM I' J' told up low fin cnt) : iX I' J' (A_cnt (A_fin (A_low (A_up (A_told A told) up) low) fin) cnt) := by
  obtain ⟨x1, x2, x3, x4, x5, x6, x7, x8, x9, x10⟩ := hx
  refine ⟨x1, x2.cg (fun r a b => h r (by omega) (by omega) (by omega)), x3.cg (fun r a b => h r (by omega) (by omega) (by omega)), x4.cg (fun r a b => h r (by omega) (by omega) (by omega)), x5.cg (fun r a b => h r (by omega) (by omega) (by omega)), x6.cg h11 (fun r a b => h r (by omega) (by omega) (by omega)), ?_, hM, x9.cg (h _ (by decide) (by decide) (Or.inr (Or.inr (by decide)))) (h _ (by decide) (by decide) (Or.inr (Or.inr (by decide)))), x10.cg (h _ (by decide) (by decide) (Or.inr (Or.inr (by decide)))) (h _ (by decide) (by decide) (Or.inr (Or.inr (by decide))))⟩
  unfold xK2
  rw [h11]
  exact x7
/-- only 'told' is written -/
theorem iX.tell {I I' : Nat → Nat → Int32} {J : Nat → Nat → Int64} {A : Ast} (hx : iX I J A) (h : ∀ r, r ≠ 0 → (r < 17 ∨ (27 ≤ r ∧ r < 48) ∨ 86 ≤ r) → I' r = I r) (h0 : ∀ k, k ≠ 13 → I' 0 k = I 0 k) {v : Int32} (hv : I' 0 13 = v) : iX I' J (A_told A v) := by
  have hM := hx.2.2.2.2.2.2.2.1
  exact hx.keep (fun r a b c => h r a (by omega)) (h0 11 (by decide)) (told := v) (up := a_up A) (low := a_low A) (fin := a_fin A) (cnt := a_cnt A) ⟨hv, hM.2.1, hM.2.2.1, by rw [h0 12 (by decide)]; exact hM.2.2.2.1, fun q q1 q2 => by rw [h 86 (by decide) (by omega)]; exact hM.2.2.2.2 q q1 q2⟩
/-- nothing is written that counts -/
theorem iX.same {I I' : Nat → Nat → Int32} {J J' : Nat → Nat → Int64} {A : Ast} (hx : iX I J A) (h : ∀ r, (r < 17 ∨ (27 ≤ r ∧ r < 48) ∨ 86 ≤ r) → I' r = I r) (hJ : J' 0 = J 0) : iX I' J' A := by
  have hM := hx.2.2.2.2.2.2.2.1
  exact hx.keep (fun r a b c => h r (by omega)) (by rw [h 0 (by decide)]) (told := a_told A) (up := a_up A) (low := a_low A) (fin := a_fin A) (cnt := a_cnt A) ⟨by rw [h 0 (by decide)]; exact hM.1, by rw [hJ]; exact hM.2.1, by rw [hJ]; exact hM.2.2.1, by rw [h 0 (by decide)]; exact hM.2.2.2.1, fun q q1 q2 => by rw [h 86 (by omega)]; exact hM.2.2.2.2 q q1 q2⟩
section FACE
variable {L p d : Nat} {J : Nat → Nat → Int64} {I : Nat → Nat → Int32} {A : Ast}
/-- a finding: the answer -3 -/
theorem x_finds (hx : iX I J A) {q : Int} (q1 : 1 ≤ q) (q2 : q < 6) : ∃ I', j_run (d + 1) 112 [.ref 0, .int (j_k q)] (ST L p I J) = some (some (.int (j_k (p_meets q A).1)), ST L p I' J) ∧ iX I' J (p_meets q A).2 ∧ (∀ r, r ≠ 0 → r ≠ 86 → I' r = I r) := by
  have hM := hx.2.2.2.2.2.2.2.1
  have e := (r_112 d (ST L p I J) 0 (j_k q)).trans (t_112_0 _ _ _ _ _)
  have h86 := hM.2.2.2.2 q q1 q2
  have q0 : 0 ≤ q := by omega
  simp (disch := first | assumption | omega) only [k_add, k_sub, k_mul, k_lt, k_eq, k_lt0, k_0lt, k_eq0, k_nat, k_b0, k_b1, k_z1, k_z0, k_o1, k_o0, Int.reduceEq, Int.reduceLT, Int.reduceLE, Int.reduceAdd, Int.reduceMul, Int.reduceNeg, Bool.false_eq_true, or_true, true_or, or_false, false_or, and_true, true_and, and_false, false_and, not_true_eq_false, not_false_eq_true, ↓reduceIte, z_0, z_k, s_I, s_J, s_uI, s_uJ, c_oc_0, c_lt_0, c_gP_0_10, c_ia_86, c_is_86, u2_ss, u2_k, u2_r, h86] at e
  refine ⟨_, e, ?_, fun r a b => ?_⟩
  · refine hx.keep (told := a_told A) (up := a_up A) (low := a_low A) (fin := q) (cnt := f2 (a_cnt A) q (a_cnt A q + 1)) (fun r a b _ => ?_) ?_ ⟨?_, hM.2.1, hM.2.2.1, ?_, fun s s1 s2 => ?_⟩
    · funext i
      simp (disch := first | assumption | omega) only [k_add, k_sub, k_mul, k_lt, k_eq, k_lt0, k_0lt, k_eq0, k_nat, k_b0, k_b1, k_z1, k_z0, k_o1, k_o0, Int.reduceEq, Int.reduceLT, Int.reduceLE, Int.reduceAdd, Int.reduceMul, Int.reduceNeg, Bool.false_eq_true, or_true, true_or, or_false, false_or, and_true, true_and, and_false, false_and, not_true_eq_false, not_false_eq_true, ↓reduceIte, z_0, z_k, s_I, s_J, s_uI, s_uJ, u2_r]
    · simp (disch := first | assumption | omega) only [k_add, k_sub, k_mul, k_lt, k_eq, k_lt0, k_0lt, k_eq0, k_nat, k_b0, k_b1, k_z1, k_z0, k_o1, k_o0, Int.reduceEq, Int.reduceLT, Int.reduceLE, Int.reduceAdd, Int.reduceMul, Int.reduceNeg, Bool.false_eq_true, or_true, true_or, or_false, false_or, and_true, true_and, and_false, false_and, not_true_eq_false, not_false_eq_true, ↓reduceIte, z_0, z_k, s_I, s_J, s_uI, s_uJ, u2_k, u2_r]
    · simp (disch := first | assumption | omega) only [k_add, k_sub, k_mul, k_lt, k_eq, k_lt0, k_0lt, k_eq0, k_nat, k_b0, k_b1, k_z1, k_z0, k_o1, k_o0, Int.reduceEq, Int.reduceLT, Int.reduceLE, Int.reduceAdd, Int.reduceMul, Int.reduceNeg, Bool.false_eq_true, or_true, true_or, or_false, false_or, and_true, true_and, and_false, false_and, not_true_eq_false, not_false_eq_true, ↓reduceIte, z_0, z_k, s_I, s_J, s_uI, s_uJ, u2_k, u2_r]
      exact hM.1
    · simp (disch := first | assumption | omega) only [k_add, k_sub, k_mul, k_lt, k_eq, k_lt0, k_0lt, k_eq0, k_nat, k_b0, k_b1, k_z1, k_z0, k_o1, k_o0, Int.reduceEq, Int.reduceLT, Int.reduceLE, Int.reduceAdd, Int.reduceMul, Int.reduceNeg, Bool.false_eq_true, or_true, true_or, or_false, false_or, and_true, true_and, and_false, false_and, not_true_eq_false, not_false_eq_true, ↓reduceIte, z_0, z_k, s_I, s_J, s_uI, s_uJ, u2_ss, u2_r]
    · unfold f2
      by_cases z : s = q
      · subst z
        simp (disch := first | assumption | omega) only [k_add, k_sub, k_mul, k_lt, k_eq, k_lt0, k_0lt, k_eq0, k_nat, k_b0, k_b1, k_z1, k_z0, k_o1, k_o0, Int.reduceEq, Int.reduceLT, Int.reduceLE, Int.reduceAdd, Int.reduceMul, Int.reduceNeg, Bool.false_eq_true, or_true, true_or, or_false, false_or, and_true, true_and, and_false, false_and, not_true_eq_false, not_false_eq_true, ↓reduceIte, z_0, z_k, s_I, s_J, s_uI, s_uJ, u2_ss]
      · simp (disch := first | assumption | omega) only [k_add, k_sub, k_mul, k_lt, k_eq, k_lt0, k_0lt, k_eq0, k_nat, k_b0, k_b1, k_z1, k_z0, k_o1, k_o0, Int.reduceEq, Int.reduceLT, Int.reduceLE, Int.reduceAdd, Int.reduceMul, Int.reduceNeg, Bool.false_eq_true, or_true, true_or, or_false, false_or, and_true, true_and, and_false, false_and, not_true_eq_false, not_false_eq_true, ↓reduceIte, z_0, z_k, s_I, s_J, s_uI, s_uJ, u2_k, u2_r, z]
        exact hM.2.2.2.2 s s1 s2
  · funext i
    simp (disch := first | assumption | omega) only [k_add, k_sub, k_mul, k_lt, k_eq, k_lt0, k_0lt, k_eq0, k_nat, k_b0, k_b1, k_z1, k_z0, k_o1, k_o0, Int.reduceEq, Int.reduceLT, Int.reduceLE, Int.reduceAdd, Int.reduceMul, Int.reduceNeg, Bool.false_eq_true, or_true, true_or, or_false, false_or, and_true, true_and, and_false, false_and, not_true_eq_false, not_false_eq_true, ↓reduceIte, z_0, z_k, s_I, s_J, s_uI, s_uJ, u2_r]
end FACE
