/-! ===== the model's reader: figures, signs, the grid, a sign, a beast ===== -/
theorem sign_if (v : Int) : p_sign v = if v = 46 then 0 else if v = 35 then 1 else if v = 126 then 2 else if v = 111 then 3 else if v = 61 then 4 else -9 := by
  show (if decide ((46 : Int) = v) = true then (0 : Int) else if decide ((35 : Int) = v) = true then 0 + 1 else if decide ((126 : Int) = v) = true then 0 + 1 + 1 else if decide ((111 : Int) = v) = true then 0 + 1 + 1 + 1 else if decide ((61 : Int) = v) = true then 0 + 1 + 1 + 1 + 1 else -9) = _
  simp only [decide_eq_true_iff]
  repeat' split
  all_goals first | rfl | (exfalso; omega)
theorem lett_if (v : Int) : p_lett v = if v = 98 then 0 else if v = 115 then 1 else if v = 108 then 2 else if v = 99 then 3 else if v = 109 then 4 else if v = 116 then 5 else -9 := by
  show (if decide ((98 : Int) = v) = true then (0 : Int) else if decide ((115 : Int) = v) = true then 0 + 1 else if decide ((108 : Int) = v) = true then 0 + 1 + 1 else if decide ((99 : Int) = v) = true then 0 + 1 + 1 + 1 else if decide ((109 : Int) = v) = true then 0 + 1 + 1 + 1 + 1 else if decide ((116 : Int) = v) = true then 0 + 1 + 1 + 1 + 1 + 1 else -9) = _
  simp only [decide_eq_true_iff]
  repeat' split
  all_goals first | rfl | (exfalso; omega)
/-- the reader's cells: the object's 15..20, 96, 97, 98 -/
def frL (I I' : Nat → Nat → Int32) : Prop := (∀ r, r ≠ 87 → r ≠ 96 → r ≠ 97 → r ≠ 98 → I' r = I r) ∧ ∀ k, (k < 15 ∨ 20 < k) → I' 87 k = I 87 k
theorem frL.rf {I : Nat → Nat → Int32} : frL I I := ⟨fun _ _ _ _ _ => rfl, fun _ _ => rfl⟩
theorem frL.tr {I I' I'' : Nat → Nat → Int32} (h : frL I I') (h' : frL I' I'') : frL I I'' := ⟨fun r a b c d => (h'.1 r a b c d).trans (h.1 r a b c d), fun k a => (h'.2 k a).trans (h.2 k a)⟩
theorem frL.o {I : Nat → Nat → Int32} {k : Nat} {v : Int32} (h1 : 15 ≤ k) (h2 : k ≤ 20) : frL I (u2 I 87 k v) := ⟨fun r a _ _ _ => by funext m; rw [u2_r a], fun m a => by rw [u2_k (by omega)]⟩
theorem frL.c {I : Nat → Nat → Int32} {r k : Nat} {v : Int32} (h : r = 96 ∨ r = 97 ∨ r = 98) : frL I (u2 I r k v) := ⟨fun q a b c d => by funext m; rw [u2_r (by omega)], fun m a => by rw [u2_r (by omega)]⟩
theorem frL.x {I I' : Nat → Nat → Int32} {J : Nat → Nat → Int64} {A : Ast} (h : frL I I') (hx : iM I J A) : iM I' J A := hx.same ⟨fun r a => h.1 r (by omega) (by omega) (by omega) (by omega), fun k _ _ => h.2 k (by omega), fun i _ _ => by rw [h.1 99 (by decide) (by decide) (by decide) (by decide)]⟩ (h.2 0 (by decide)) (h.2 2 (by decide)) (h.1 88 (by decide) (by decide) (by decide) (by decide)) rfl
theorem frL.n {I I' : Nat → Nat → Int32} (h : frL I I') : ∀ r, (r < 87 ∨ 104 ≤ r) → I' r = I r := fun r a => h.1 r (by omega) (by omega) (by omega) (by omega)
/-- the size from a place on -/
def p_G (T : Int → Int) (s q : Int) : Bool × Int × Int × Int := if p_sg T s q = 103 then (if p_fig T s 2 6 (q + 1) = -9 then (false, q + 1, 0, 0) else if p_fig T s 1 5 (q + 2) = -9 then (false, q + 2, 0, 0) else (true, q + 3, p_fig T s 2 6 (q + 1), p_fig T s 1 5 (q + 2))) else (false, q, 0, 0)
theorem fig_rg {T : Int → Int} {s lo hi q : Int} (l1 : 0 ≤ lo) : p_fig T s lo hi q = -9 ∨ (lo ≤ p_fig T s lo hi q ∧ p_fig T s lo hi q ≤ hi) := by
  unfold p_fig
  split
  · exact Or.inr ‹_›
  · exact Or.inl rfl
section MREAD
variable {L p d : Nat} {I : Nat → Nat → Int32} {J : Nat → Nat → Int64} {A : Ast} {t : Int}
theorem n_signOf {v : Int} {σ : Sto} (v1 : -1000 ≤ v) (v2 : v ≤ 1000) : j_run (d + 1) 151 [.int (j_k v)] σ = some (some (.int (j_k (p_sign v))), σ) := by
  rw [r_151, t_151_0, sign_if]
  simp (disch := first | assumption | omega) only [k_add, k_sub, k_mul, k_lt, k_eq, k_lt0, k_0lt, k_eq0, k_nat, k_b0, k_b1, k_z1, k_z0, k_o1, k_o0, Int.reduceEq, Int.reduceLT, Int.reduceLE, Int.reduceAdd, Int.reduceMul, Int.reduceNeg, Bool.false_eq_true, or_true, true_or, or_false, false_or, and_true, true_and, and_false, false_and, not_true_eq_false, not_false_eq_true, ↓reduceIte, z_0, z_k, s_I, s_J, s_uI, s_uJ]
  ((repeat' split) <;> first | rfl | (exfalso; omega))
theorem n_kindOf {v : Int} {σ : Sto} (v1 : -1000 ≤ v) (v2 : v ≤ 1000) : j_run (d + 1) 152 [.int (j_k v)] σ = some (some (.int (j_k (p_lett v))), σ) := by
  have K : ∀ c : Int, 0 ≤ c → c < 1000 → (j_k v = j_k c) = (v = c) := fun c _ _ => k_eq (by omega) (by omega) (by omega) (by omega)
  rw [r_152, t_152_0, lett_if]
  simp only [K 98 (by decide) (by decide), K 99 (by decide) (by decide), K 100 (by decide) (by decide), K 101 (by decide) (by decide), K 102 (by decide) (by decide), K 103 (by decide) (by decide), K 104 (by decide) (by decide), K 105 (by decide) (by decide), K 106 (by decide) (by decide), K 107 (by decide) (by decide), K 108 (by decide) (by decide), K 109 (by decide) (by decide), K 110 (by decide) (by decide), K 111 (by decide) (by decide), K 112 (by decide) (by decide), K 113 (by decide) (by decide), K 114 (by decide) (by decide), K 115 (by decide) (by decide), K 116 (by decide) (by decide)]
  by_cases a1 : v = 98
  · subst a1
    rfl
  · by_cases a2 : v = 115
    · subst a2
      rfl
    · by_cases a3 : v = 108
      · subst a3
        rfl
      · by_cases a4 : v = 99
        · subst a4
          rfl
        · by_cases a5 : v = 109
          · subst a5
            rfl
          · by_cases a6 : v = 116
            · subst a6
              rfl
            · simp only [a1, a2, a3, a4, a5, a6, if_false, ite_self]
/-- the byte that the model reads, by the class's sign -/
theorem byte_sg {T : Int → Int} {s q : Int} (h : q < s) : (if q < s then T q else 0) = p_sg T s q := by
  unfold p_sg
  rw [if_pos h, if_pos h]
theorem n_figure (hx : iM I J A) {lo hi q : Int} (t1 : 0 ≤ t) (t2 : t < 4) (l1 : 0 ≤ lo) (l2 : lo ≤ 9) (h1 : -10 ≤ hi) (h2 : hi ≤ 9) (q1 : 0 ≤ q) (q2 : q ≤ 80) (hq : I 87 15 = j_k q) : ∃ I', j_run (d + 2) 153 [.ref 87, .int (j_k t), .int (j_k lo), .int (j_k hi)] (ST L p I J) = some (some (.int (j_z (p_fig (a_tv A t) (a_tz A t) lo hi q ≠ -9))), ST L p I' J) ∧ frL I I' ∧ I' 87 15 = j_k (if p_fig (a_tv A t) (a_tz A t) lo hi q = -9 then q else q + 1) ∧ (p_fig (a_tv A t) (a_tz A t) lo hi q ≠ -9 → I' 87 16 = j_k (p_fig (a_tv A t) (a_tz A t) lo hi q)) ∧ (∀ r, r ≠ 87 → I' r = I r) ∧ ∀ k, k ≠ 15 → k ≠ 16 → I' 87 k = I 87 k := by
  have b := n_byteAt (L := L) (p := p) (d := d) hx t1 t2 q1 q2
  have hT := hx.1.2.2.2.2.2
  have hz := hx.1.2.2.2.2.1 t t1 t2
  have br : -128 ≤ (if q < a_tz A t then a_tv A t q else 0) ∧ (if q < a_tz A t then a_tv A t q else 0) ≤ 127 := by
    split
    · exact hT t q t1 t2 q1 (by omega)
    · omega
  have F : p_fig (a_tv A t) (a_tz A t) lo hi q = if lo ≤ (if q < a_tz A t then a_tv A t q else 0) - 48 ∧ (if q < a_tz A t then a_tv A t q else 0) - 48 ≤ hi then (if q < a_tz A t then a_tv A t q else 0) - 48 else -9 := by
    unfold p_fig p_sg
    by_cases x : q < a_tz A t
    · rw [if_pos x, if_pos x]
    · rw [if_neg x, if_neg x, if_neg (by omega), if_neg (by omega)]
  have e := (r_153 (d + 1) (ST L p I J) 87 (j_k t) (j_k lo) (j_k hi)).trans (t_153_0 _ _ _ _ _ _ _)
  generalize (if q < a_tz A t then a_tv A t q else 0) = v at b br F
  have i1 := n_in (L := L) (p := p) (d := d) (I := u2 I 87 16 (j_k (v - 48))) (J := J) (v := v - 48) (lo := lo) (hi := hi) (by omega) (by omega) (by omega) (by omega) (by omega) (by omega)
  by_cases x : lo ≤ v - 48 ∧ v - 48 ≤ hi
  · rw [if_pos x] at F
    have n9 : ¬ p_fig (a_tv A t) (a_tz A t) lo hi q = -9 := by omega
    rw [show j_z (lo ≤ v - 48 ∧ v - 48 ≤ hi) = j_k 1 from if_pos x] at i1
    rw [show j_z (p_fig (a_tv A t) (a_tz A t) lo hi q ≠ -9) = j_k 1 from if_pos n9, if_neg n9]
    simp (disch := first | assumption | omega) only [k_add, k_sub, k_mul, k_lt, k_eq, k_lt0, k_0lt, k_eq0, k_nat, k_b0, k_b1, k_z1, k_z0, k_o1, k_o0, Int.reduceEq, Int.reduceLT, Int.reduceLE, Int.reduceAdd, Int.reduceMul, Int.reduceNeg, Bool.false_eq_true, or_true, true_or, or_false, false_or, and_true, true_and, and_false, false_and, not_true_eq_false, not_false_eq_true, ↓reduceIte, z_0, z_k, s_I, s_J, s_uI, s_uJ, ↓c_oc_87, hq, ↓jc1 b, ↓c_lt_87, u2_ss, u2_k, ↓jc1 i1] at e
    refine ⟨_, e, (frL.o (by decide) (by decide)).tr (frL.o (by decide) (by decide)), u2_ss _ _ _ _, fun _ => ?_, fun r a => ?_, fun k a b => ?_⟩
    · rw [u2_k (by decide), u2_ss, F]
    · funext m
      rw [u2_r a, u2_r a]
    · rw [u2_k a, u2_k b]
  · rw [if_neg x] at F
    rw [show j_z (lo ≤ v - 48 ∧ v - 48 ≤ hi) = j_k 0 from if_neg x] at i1
    rw [show j_z (p_fig (a_tv A t) (a_tz A t) lo hi q ≠ -9) = j_k 0 from if_neg (fun u => u F), if_pos F]
    simp (disch := first | assumption | omega) only [k_add, k_sub, k_mul, k_lt, k_eq, k_lt0, k_0lt, k_eq0, k_nat, k_b0, k_b1, k_z1, k_z0, k_o1, k_o0, Int.reduceEq, Int.reduceLT, Int.reduceLE, Int.reduceAdd, Int.reduceMul, Int.reduceNeg, Bool.false_eq_true, or_true, true_or, or_false, false_or, and_true, true_and, and_false, false_and, not_true_eq_false, not_false_eq_true, ↓reduceIte, z_0, z_k, s_I, s_J, s_uI, s_uJ, ↓c_oc_87, hq, ↓jc1 b, ↓c_lt_87, u2_ss, u2_k, ↓jc1 i1] at e
    rw [Int.add_zero] at e
    refine ⟨_, e, (frL.o (by decide) (by decide)).tr (frL.o (by decide) (by decide)), u2_ss _ _ _ _, fun u => absurd F u, fun r a => ?_, fun k a b => ?_⟩
    · funext m
      rw [u2_r a, u2_r a]
    · rw [u2_k a, u2_k b]
theorem n_grid (hx : iM I J A) {q : Int} (t1 : 0 ≤ t) (t2 : t < 4) (q1 : 0 ≤ q) (q2 : q < a_tz A t) (hq : I 87 15 = j_k q) : ∃ I', j_run (d + 3) 154 [.ref 87, .int (j_k t)] (ST L p I J) = some (some (.int (j_z ((p_G (a_tv A t) (a_tz A t) q).1 = true))), ST L p I' J) ∧ frL I I' ∧ I' 87 15 = j_k (p_G (a_tv A t) (a_tz A t) q).2.1 ∧ ((p_G (a_tv A t) (a_tz A t) q).1 = true → I' 87 17 = j_k (p_G (a_tv A t) (a_tz A t) q).2.2.1 ∧ I' 87 18 = j_k (p_G (a_tv A t) (a_tz A t) q).2.2.2) ∧ (∀ r, r ≠ 87 → I' r = I r) ∧ I' 87 19 = I 87 19 ∧ I' 87 20 = I 87 20 := by
  have hz := hx.1.2.2.2.2.1 t t1 t2
  have hz2 := hz.2
  have b := n_byteAt (L := L) (p := p) (d := d + 1) hx t1 t2 q1 (show q ≤ 80 by omega)
  rw [byte_sg q2] at b
  have sr := sg_rg (T := a_tv A t) (s := a_tz A t) (q := q) (hx.1.2.2.2.2.2 t · t1 t2) q1 hz2
  have e := (r_154 (d + 2) (ST L p I J) 87 (j_k t)).trans (t_154_0 _ _ _ _ _)
  have h87 : (87 < j_b) := by decide
  have t1' : ¬ j_k 1 = 0 := by decide
  have t0' : j_k 0 = 0 := by decide
  have hs : s_I (ST L p I J) 87 15 = j_k q := hq
  unfold p_G
  rw [c_oc_87, c_oc_87, hs, jc1 b] at e
  by_cases x : p_sg (a_tv A t) (a_tz A t) q = 103
  · rw [if_pos x]
    rw [x, if_pos rfl, c_oc_87, if_pos h87, c_oc_87] at e
    have fr1 : frL I (u2 I 87 15 (j_k (q + 1))) := frL.o (by decide) (by decide)
    obtain ⟨I1, a1, a2, a3, a4, a5, a6⟩ := n_figure (L := L) (p := p) (d := d) (t := t) (fr1.x hx) (lo := 2) (hi := 6) (q := q + 1) t1 t2 (by decide) (by decide) (by decide) (by decide) (by omega) (by omega) (u2_ss _ _ _ _)
    have e2 : j_run (d + 2 + 1) 154 [.ref 87, .int (j_k t)] (ST L p I J) = j_oc (ST L p (u2 I 87 15 (j_k (q + 1))) J) 7 87 (j_c1 (j_run (d + 2)) 153 [.ref 87, .int (j_k t), .int (j_k 2), .int (j_k 6)] (ST L p (u2 I 87 15 (j_k (q + 1))) J) (fun x5 τ4 => if x5 = 0 then (if (j_k 0) = 0 ∨ (j_k 0) = 1 then some (some (.int (j_k 0)), τ4) else none) else j_oc τ4 7 87 (j_oc τ4 7 87 (j_c1 (j_run (d + 2)) 153 [.ref 87, .int (j_k t), .int (j_k 1), .int (j_k 5)] τ4 (fun x7 τ6 => if x7 = 0 then (if (j_k 0) = 0 ∨ (j_k 0) = 1 then some (some (.int (j_k 0)), τ6) else none) else if 87 < j_b then j_oc τ6 7 87 (let τ8 : Sto := s_uI τ6 87 17 (s_I τ4 87 16); j_oc τ8 7 87 (if 87 < j_b then j_oc τ8 7 87 (let τ9 : Sto := s_uI τ8 87 18 (s_I τ8 87 16); if (j_k 1) = 0 ∨ (j_k 1) = 1 then some (some (.int (j_k 1)), τ9) else none) else none)) else none))))) := by
      rw [e, hs, k_add]
    rw [e2, c_oc_87, jc1 a1]
    clear e e2
    by_cases y : p_fig (a_tv A t) (a_tz A t) 2 6 (q + 1) = -9
    · rw [if_pos y]
      refine ⟨I1, ?_, fr1.tr a2, ?_, fun u => absurd u Bool.false_ne_true, fun r a => ?_, ?_, ?_⟩
      · rw [show j_z (p_fig (a_tv A t) (a_tz A t) 2 6 (q + 1) ≠ -9) = j_k 0 from if_neg (fun u => u y), if_pos t0', if_pos (Or.inl kk0)]
        rfl
      · rw [a3, if_pos y]
      · rw [a5 r a]
        funext m
        rw [u2_r a]
      · rw [a6 19 (by decide) (by decide), u2_k (by decide)]
      · rw [a6 20 (by decide) (by decide), u2_k (by decide)]
    · have lt1 := fig_lt (T := a_tv A t) (s := a_tz A t) (lo := 2) (hi := 6) (q := q + 1) (by decide) y
      rw [if_neg y]
      rw [if_neg y] at a3
      have fr2 := fr1.tr a2
      obtain ⟨I2, b1, b2, b3, b4, b5, b6⟩ := n_figure (L := L) (p := p) (d := d) (t := t) (fr2.x hx) (lo := 1) (hi := 5) (q := q + 2) t1 t2 (by decide) (by decide) (by decide) (by decide) (by omega) (by omega) (by rw [a3]; congr 1; omega)
      rw [show j_z (p_fig (a_tv A t) (a_tz A t) 2 6 (q + 1) ≠ -9) = j_k 1 from if_pos y, if_neg t1', c_oc_87, c_oc_87, jc1 b1]
      by_cases z : p_fig (a_tv A t) (a_tz A t) 1 5 (q + 2) = -9
      · rw [if_pos z]
        refine ⟨I2, ?_, fr2.tr b2, ?_, fun u => absurd u Bool.false_ne_true, fun r a => ?_, ?_, ?_⟩
        · rw [show j_z (p_fig (a_tv A t) (a_tz A t) 1 5 (q + 2) ≠ -9) = j_k 0 from if_neg (fun u => u z), if_pos t0', if_pos (Or.inl kk0)]
          rfl
        · rw [b3, if_pos z]
        · rw [b5 r a, a5 r a]
          funext m
          rw [u2_r a]
        · rw [b6 19 (by decide) (by decide), a6 19 (by decide) (by decide), u2_k (by decide)]
        · rw [b6 20 (by decide) (by decide), a6 20 (by decide) (by decide), u2_k (by decide)]
      · rw [if_neg z]
        rw [if_neg z] at b3
        have w16 : s_I (ST L p I1 J) 87 16 = j_k (p_fig (a_tv A t) (a_tz A t) 2 6 (q + 1)) := a4 y
        have h16 : I2 87 16 = j_k (p_fig (a_tv A t) (a_tz A t) 1 5 (q + 2)) := b4 z
        refine ⟨u2 (u2 I2 87 17 (j_k (p_fig (a_tv A t) (a_tz A t) 2 6 (q + 1)))) 87 18 (j_k (p_fig (a_tv A t) (a_tz A t) 1 5 (q + 2))), ?_, (fr2.tr b2).tr ((frL.o (by decide) (by decide)).tr (frL.o (by decide) (by decide))), ?_, fun _ => ⟨?_, u2_ss _ _ _ _⟩, fun r a => ?_, ?_, ?_⟩
        · rw [show j_z (p_fig (a_tv A t) (a_tz A t) 1 5 (q + 2) ≠ -9) = j_k 1 from if_pos z, if_neg t1', w16]
          simp (disch := first | assumption | omega) only [k_add, k_sub, k_mul, k_lt, k_eq, k_lt0, k_0lt, k_eq0, k_nat, k_b0, k_b1, k_z1, k_z0, k_o1, k_o0, Int.reduceEq, Int.reduceLT, Int.reduceLE, Int.reduceAdd, Int.reduceMul, Int.reduceNeg, Bool.false_eq_true, or_true, true_or, or_false, false_or, and_true, true_and, and_false, false_and, not_true_eq_false, not_false_eq_true, ↓reduceIte, z_0, z_k, s_I, s_J, s_uI, s_uJ, ↓c_oc_87, ↓c_lt_87, u2_k, h16]
          rfl
        · rw [u2_k (by decide), u2_k (by decide), b3]
          show j_k (q + 2 + 1) = j_k (q + 3)
          congr 1
          omega
        · rw [u2_k (by decide), u2_ss]
        · rw [show u2 (u2 I2 87 17 (j_k (p_fig (a_tv A t) (a_tz A t) 2 6 (q + 1)))) 87 18 (j_k (p_fig (a_tv A t) (a_tz A t) 1 5 (q + 2))) r = I2 r from by funext m; rw [u2_r a, u2_r a], b5 r a, a5 r a]
          funext m
          rw [u2_r a]
        · rw [u2_k (by decide), u2_k (by decide), b6 19 (by decide) (by decide), a6 19 (by decide) (by decide), u2_k (by decide)]
        · rw [u2_k (by decide), u2_k (by decide), b6 20 (by decide) (by decide), a6 20 (by decide) (by decide), u2_k (by decide)]
  · rw [if_neg x]
    have x' : ¬ j_k (p_sg (a_tv A t) (a_tz A t) q) = j_k 103 := by rw [k_eq (by omega) (by omega) (by decide) (by decide)]; exact x
    rw [if_neg x', if_pos (Or.inl kk0)] at e
    exact ⟨I, e, .rf, hq, fun u => absurd u Bool.false_ne_true, fun _ _ => rfl, rfl, rfl⟩
theorem n_sign (hx : iM I J A) {q c : Int} (t1 : 0 ≤ t) (t2 : t < 4) (q1 : 0 ≤ q) (q2 : q < a_tz A t) (hq : I 87 15 = j_k q) (c1 : 0 ≤ c) (c2 : c < 30) (hc : I 87 19 = j_k c) : ∃ I', j_run (d + 2) 155 [.ref 87, .int (j_k t)] (ST L p I J) = some (some (.int (j_z (p_sign (p_sg (a_tv A t) (a_tz A t) q) ≠ -9))), ST L p I' J) ∧ (p_sign (p_sg (a_tv A t) (a_tz A t) q) = -9 → I' = I) ∧ (p_sign (p_sg (a_tv A t) (a_tz A t) q) ≠ -9 → I' = u2 (u2 (u2 I 96 c.toNat (j_k (p_sign (p_sg (a_tv A t) (a_tz A t) q)))) 87 19 (j_k (c + 1))) 87 15 (j_k (q + 1))) := by
  have hz := hx.1.2.2.2.2.1 t t1 t2
  have hz2 := hz.2
  have b := n_byteAt (L := L) (p := p) (d := d) hx t1 t2 q1 (show q ≤ 80 by omega)
  rw [byte_sg q2] at b
  have sr := sg_rg (T := a_tv A t) (s := a_tz A t) (q := q) (hx.1.2.2.2.2.2 t · t1 t2) q1 hz2
  have sg := n_signOf (d := d) (σ := ST L p I J) (v := p_sg (a_tv A t) (a_tz A t) q) (by omega) (by omega)
  have gr := sign_rg (p_sg (a_tv A t) (a_tz A t) q)
  have e := (r_155 (d + 1) (ST L p I J) 87 (j_k t)).trans (t_155_0 _ _ _ _ _)
  generalize p_sign (p_sg (a_tv A t) (a_tz A t) q) = g at *
  by_cases x : g = -9
  · rw [show j_z (g ≠ -9) = j_k 0 from if_neg (fun u => u x)]
    rw [x] at sg
    simp (disch := first | assumption | omega) only [k_add, k_sub, k_mul, k_lt, k_eq, k_lt0, k_0lt, k_eq0, k_nat, k_b0, k_b1, k_z1, k_z0, k_o1, k_o0, Int.reduceEq, Int.reduceLT, Int.reduceLE, Int.reduceAdd, Int.reduceMul, Int.reduceNeg, Bool.false_eq_true, or_true, true_or, or_false, false_or, and_true, true_and, and_false, false_and, not_true_eq_false, not_false_eq_true, ↓reduceIte, z_0, z_k, s_I, s_J, s_uI, s_uJ, ↓c_oc_87, hq, ↓jc1 b, ↓jc1 sg] at e
    exact ⟨I, e, fun _ => rfl, fun u => absurd x u⟩
  · rw [show j_z (g ≠ -9) = j_k 1 from if_pos x]
    simp (disch := first | assumption | omega) only [k_add, k_sub, k_mul, k_lt, k_eq, k_lt0, k_0lt, k_eq0, k_nat, k_b0, k_b1, k_z1, k_z0, k_o1, k_o0, Int.reduceEq, Int.reduceLT, Int.reduceLE, Int.reduceAdd, Int.reduceMul, Int.reduceNeg, Bool.false_eq_true, or_true, true_or, or_false, false_or, and_true, true_and, and_false, false_and, not_true_eq_false, not_false_eq_true, ↓reduceIte, z_0, z_k, s_I, s_J, s_uI, s_uJ, ↓c_oc_87, hq, ↓jc1 b, ↓jc1 sg, x, ↓c_gP_87_21, hc, ↓c_is_96, ↓c_lt_87, u2_r, u2_k] at e
    exact ⟨_, e, fun u => absurd u x, fun _ => rfl⟩
end MREAD
