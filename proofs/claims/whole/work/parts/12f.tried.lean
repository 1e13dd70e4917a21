/-! ===== the model: drives that are tried, what is wanted, a row noted ===== -/
/-- rows from q on, the object's cells 26..m, the aims: only they have changed -/
def frT (m : Nat) (q : Int) (I I' : Nat → Nat → Int32) : Prop := (∀ r, r ≠ 87 → r ≠ 99 → r ≠ 101 → I' r = I r) ∧ (∀ k, (k < 26 ∨ m < k) → I' 87 k = I 87 k) ∧ ∀ i : Int, 0 ≤ i → i < 13 * q → I' 99 i.toNat = I 99 i.toNat
theorem frT.rf {m : Nat} {q : Int} {I : Nat → Nat → Int32} : frT m q I I := ⟨fun _ _ _ _ => rfl, fun _ _ => rfl, fun _ _ _ => rfl⟩
theorem frT.tr {m : Nat} {q : Int} {I I' I'' : Nat → Nat → Int32} (h : frT m q I I') (h' : frT m q I' I'') : frT m q I I'' := ⟨fun r a b c => (h'.1 r a b c).trans (h.1 r a b c), fun k a => (h'.2.1 k a).trans (h.2.1 k a), fun i a b => (h'.2.2 i a b).trans (h.2.2 i a b)⟩
theorem frT.le {m m' : Nat} {q q' : Int} {I I' : Nat → Nat → Int32} (hm : m ≤ m') (hq : q' ≤ q) (h : frT m q I I') : frT m' q' I I' := ⟨h.1, fun k a => h.2.1 k (by omega), fun i a b => h.2.2 i a (by omega)⟩
theorem frP.t {n q q' : Int} {I I' : Nat → Nat → Int32} (hq : q ≤ q') (h : frP n q' I I') : frT 30 q I I' := ⟨h.1, h.2.1, fun i a b => h.2.2 i a (by omega)⟩
theorem frM.t {n q q' : Int} {I I' : Nat → Nat → Int32} (hq : q ≤ q') (h : frM n q' I I') : frT 30 q I I' := ⟨fun r _ b _ => h.1 r b, fun k _ => by rw [h.1 87 (by decide)], fun i a b => h.2 i a (by omega)⟩
theorem frT.m {m : Nat} {q : Int} {I I' : Nat → Nat → Int32} {w h N n : Int} {gr kd : Fl} (h1 : frT m q I I') (hm : iMg I w h N n gr kd) : iMg I' w h N n gr kd := hm.cg (fun k hk => h1.2.1 k (by omega)) (h1.1 94 (by decide) (by decide) (by decide)) (h1.1 95 (by decide) (by decide) (by decide))
theorem frT.f {m : Nat} {q q' n : Int} {I I' : Nat → Nat → Int32} {f : Fl} (h1 : frT m q I I') (n4 : n ≤ 4) (q0 : 0 ≤ q') (hq : q' < q) (hf : iM1 I q' n f) : iM1 I' q' n f := hf.cg (fun i a b => h1.2.2 i (by omega) (by omega)) n4
theorem frT.k {m : Nat} {I I' : Nat → Nat → Int32} (h : frT m 4 I I') : kpM I I' := ⟨fun r a => h.1 r (by omega) (by omega) (by omega), fun k _ _ => h.2.1 k (by omega), fun i a b => h.2.2 i a (by omega)⟩
theorem frT.x {m : Nat} {I I' : Nat → Nat → Int32} {J : Nat → Nat → Int64} {A : Ast} (h : frT m 4 I I') (hx : iM I J A) : iM I' J A := hx.same h.k (h.2.1 0 (by omega)) (h.2.1 2 (by omega)) (h.1 88 (by decide) (by decide) (by decide)) rfl
theorem frT.n {m : Nat} {q : Int} {I I' : Nat → Nat → Int32} (h : frT m q I I') : ∀ r, (r < 87 ∨ 104 ≤ r) → I' r = I r := fun r a => h.1 r (by omega) (by omega) (by omega)
/-- only the object's cells 32..36 -/
def frF (I I' : Nat → Nat → Int32) : Prop := (∀ r, r ≠ 87 → I' r = I r) ∧ ∀ k, (k < 32 ∨ 36 < k) → I' 87 k = I 87 k
theorem frF.rf {I : Nat → Nat → Int32} : frF I I := ⟨fun _ _ => rfl, fun _ _ => rfl⟩
theorem frF.tr {I I' I'' : Nat → Nat → Int32} (h : frF I I') (h' : frF I' I'') : frF I I'' := ⟨fun r a => (h'.1 r a).trans (h.1 r a), fun k a => (h'.2 k a).trans (h.2 k a)⟩
theorem frF.o {I : Nat → Nat → Int32} {k : Nat} {v : Int32} (h1 : 32 ≤ k) (h2 : k ≤ 36) : frF I (u2 I 87 k v) := ⟨fun r a => by funext m; rw [u2_r a], fun m a => by rw [u2_k (by omega)]⟩
theorem frF.t {q : Int} {I I' : Nat → Nat → Int32} (h : frF I I') : frT 36 q I I' := ⟨fun r a _ _ => h.1 r a, fun k a => h.2 k (by omega), fun i _ _ => by rw [h.1 99 (by decide)]⟩
/-- what the model has seen of rows: the first one counts only where there is one -/
def iSM (I : Nat → Nat → Int32) (s : Sc) : Prop := I 87 32 = j_k s.1 ∧ I 87 33 = j_k s.2.1 ∧ (s.2.1 ≠ 0 → I 87 34 = j_k s.2.2.1) ∧ I 87 35 = j_k s.2.2.2.1 ∧ I 87 36 = j_k s.2.2.2.2
theorem iSM.t {q : Int} {I I' : Nat → Nat → Int32} {s : Sc} (h : frT 30 q I I') (hs : iSM I s) : iSM I' s := by
  unfold iSM
  rw [h.2.1 32 (by omega), h.2.1 33 (by omega), h.2.1 34 (by omega), h.2.1 35 (by omega), h.2.1 36 (by omega)]
  exact hs
/-- what is wanted: safe, or as a row tells -/
def iWM (I : Nat → Nat → Int32) (gr : Fl) (n row : Int) (want : Fl → Bool) : Prop := (row = -1 ∧ want = p_safe gr n) ∨ (0 ≤ row ∧ row < 6 ∧ ∃ rz rv, mR I rz rv ∧ want = p_at n (rv row))
theorem iWM.cg {I I' : Nat → Nat → Int32} {gr : Fl} {n row : Int} {want : Fl → Bool} (h1 : I' 89 = I 89) (h2 : I' 90 = I 90) (h : iWM I gr n row want) : iWM I' gr n row want := by
  rcases h with h | ⟨a, b, rz, rv, c, e⟩
  · exact Or.inl h
  · exact Or.inr ⟨a, b, rz, rv, c.cg h1 h2, e⟩
theorem iWM.t {m : Nat} {q : Int} {I I' : Nat → Nat → Int32} {gr : Fl} {n row : Int} {want : Fl → Bool} (h : frT m q I I') (hw : iWM I gr n row want) : iWM I' gr n row want := hw.cg (h.1 89 (by decide) (by decide) (by decide)) (h.1 90 (by decide) (by decide) (by decide))
theorem or_z0 (x : Int32) : x ||| j_k 0 = x := by
  refine b_ext fun i hi => ?_
  rw [b_or, kk0, b_0, Bool.or_false]
theorem z_or {P : Prop} [Decidable P] : (¬ P ∨ j_z P = 1) = True := by
  refine eq_true ?_
  by_cases x : P
  · refine Or.inr ?_
    unfold j_z
    rw [if_pos x]
    exact kk1
  · exact Or.inl x
theorem z_tt {P : Prop} [Decidable P] : j_z (true = true ∧ P) = j_z P := by
  unfold j_z
  by_cases x : P
  · rw [if_pos ⟨rfl, x⟩, if_pos x]
  · rw [if_neg (fun u => x u.2), if_neg x]
section MODEL14
variable {L p d : Nat} {I : Nat → Nat → Int32} {J : Nat → Nat → Int64} {n w h N b : Int} {f gr kd : Fl} {q : Int}
theorem n_codes (hn : I 87 13 = j_k n) : j_run (d + 1) 201 [.ref 87] (ST L p I J) = some (some (.int (j_k (4 * n))), ST L p I J) := by
  rw [r_201, t_201_0]
  simp (disch := first | assumption | omega) only [k_add, k_sub, k_mul, k_lt, k_eq, k_lt0, k_0lt, k_eq0, k_nat, k_b0, k_b1, k_z1, k_z0, k_o1, k_o0, Int.reduceEq, Int.reduceLT, Int.reduceLE, Int.reduceAdd, Int.reduceMul, Int.reduceNeg, Bool.false_eq_true, or_true, true_or, or_false, false_or, and_true, true_and, and_false, false_and, not_true_eq_false, not_false_eq_true, ↓reduceIte, z_0, z_k, s_I, s_J, s_uI, s_uJ, ↓c_oc_87, hn]
theorem n_driven {c : Int} (q1 : 0 ≤ q) (q2 : q < 8) (hm : iMg I w h N n gr kd) (hf : iM1 I q n f) (ho : okF N n b f) (hb : b ≤ 900000) (c1 : 0 ≤ c) (c2 : c < 4 * n) : ∃ I', j_run (d + 9) 202 [.ref 87, .int (j_k q), .int (j_k c)] (ST L p I J) = some (some (.int (if (p_drive w h gr n kd f c).isSome = true then j_k 1 else j_k 0)), ST L p I' J) ∧ iM1 I' (q + 1) n ((p_drive w h gr n kd f c).getD f) ∧ frT 30 (q + 1) I I' := by
  have n4 := hm.1.2.2.2.1
  obtain ⟨I1, c1', c2', c3⟩ := n_copy (L := L) (p := p) (d := d + 6) (I := I) (J := J) (k := q) (l := q + 1) q1 (by omega) (by omega) (by omega) (by omega)
  have F : iM1 I1 (q + 1) n f := ⟨fun j j1 j2 => by rw [c2' j j1 (by omega)]; exact hf.1 j j1 j2, fun j j1 j2 => by rw [c2' _ (by omega) (by omega)]; exact hf.2.1 j j1 j2, fun j j1 j2 => by rw [c2' _ (by omega) (by omega)]; exact hf.2.2 j j1 j2⟩
  have t1 : frT 30 (q + 1) I I1 := c3.t (Int.le_refl _)
  obtain ⟨I2, d1, d2, d3⟩ := n_drives (L := L) (p := p) (d := d) (J := J) (q := q + 1) (by omega) (by omega) (t1.m hm) F ho hb c1 c2
  refine ⟨I2, ?_, d2, t1.tr (d3.t (Int.le_refl _))⟩
  have e := (r_202 (d + 8) (ST L p I J) 87 (j_k q) (j_k c)).trans (t_202_0 _ _ _ _ _ _)
  rw [e]
  cases hd : (p_drive w h gr n kd f c).isSome
  · rw [hd] at d1
    rw [if_neg Bool.false_ne_true] at d1 ⊢
    simp (disch := first | assumption | omega) only [k_add, k_sub, k_mul, k_lt, k_eq, k_lt0, k_0lt, k_eq0, k_nat, k_b0, k_b1, k_z1, k_z0, k_o1, k_o0, Int.reduceEq, Int.reduceLT, Int.reduceLE, Int.reduceAdd, Int.reduceMul, Int.reduceNeg, Bool.false_eq_true, or_true, true_or, or_false, false_or, and_true, true_and, and_false, false_and, not_true_eq_false, not_false_eq_true, ↓reduceIte, z_0, z_k, s_I, s_J, s_uI, s_uJ, ↓c_oc_87, ↓jc0 c1', ↓jc1 d1]
  · rw [hd] at d1
    rw [if_pos rfl] at d1 ⊢
    simp (disch := first | assumption | omega) only [k_add, k_sub, k_mul, k_lt, k_eq, k_lt0, k_0lt, k_eq0, k_nat, k_b0, k_b1, k_z1, k_z0, k_o1, k_o0, Int.reduceEq, Int.reduceLT, Int.reduceLE, Int.reduceAdd, Int.reduceMul, Int.reduceNeg, Bool.false_eq_true, or_true, true_or, or_false, false_or, and_true, true_and, and_false, false_and, not_true_eq_false, not_false_eq_true, ↓reduceIte, z_0, z_k, s_I, s_J, s_uI, s_uJ, ↓c_oc_87, ↓jc0 c1', ↓jc1 d1]
theorem n_safe (q1 : 0 ≤ q) (q2 : q < 9) (hm : iMg I w h N n gr kd) (hf : iM1 I q n f) (ho : okF N n b f) : j_run (d + 3) 200 [.ref 87, .int (j_k q)] (ST L p I J) = some (some (.int (j_z (p_safe gr n f = true))), ST L p I J) := by
  have hC := hm.1
  have hn := hm.2.2.2.1
  have n0 := hC.2.2.1
  have n4 := hC.2.2.2.1
  obtain ⟨bN0, bN1, -⟩ := bd_N hC
  have loop : ∀ (t M : Nat) (k : Int) (s : Bool), 0 ≤ k → k + t = n → t < M → j_exec k_200 h_200 (j_run (d + 2)) M 15 [some (.ref 87), some (.int (j_k q)), some (.int (j_z (s = true))), some (.int (j_k k))] [] (ST L p I J) = some (some (.int (j_z (s = true ∧ p_first (fun k => decide (f (5 + k) = -9 ∨ gr (f (5 + k)) ≠ 3)) t k = -9))), ST L p I J) := by
    intro t
    induction t with
    | zero =>
      intro M k s k1 k2 hM
      obtain ⟨M, rfl⟩ : ∃ q, M = q + 1 := ⟨M - 1, by omega⟩
      have z : ¬ k < n := by omega
      rw [x_exec, t_200_15, p_first0]
      have E : j_z (s = true ∧ (-9 : Int) = -9) = j_z (s = true) := by simp only [and_true]
      rw [E]
      simp (disch := first | assumption | omega) only [k_add, k_sub, k_mul, k_lt, k_eq, k_lt0, k_0lt, k_eq0, k_nat, k_b0, k_b1, k_z1, k_z0, k_o1, k_o0, Int.reduceEq, Int.reduceLT, Int.reduceLE, Int.reduceAdd, Int.reduceMul, Int.reduceNeg, Bool.false_eq_true, or_true, true_or, or_false, false_or, and_true, true_and, and_false, false_and, not_true_eq_false, not_false_eq_true, ↓reduceIte, z_0, z_k, s_I, s_J, s_uI, s_uJ, ↓c_oc_87, hn, z, z_or]
    | succ t ih =>
      intro M k s k1 k2 hM
      obtain ⟨M, rfl⟩ : ∃ q, M = q + 1 := ⟨M - 1, by omega⟩
      have z : k < n := by omega
      have k4 : k < 4 := by omega
      have n1 : j_z (true = true) = j_k 1 := if_pos rfl
      have n0' : j_z (false = true) = j_k 0 := if_neg Bool.false_ne_true
      have i0 := ih M (k + 1) false (by omega) (by omega) (by omega)
      have i1 := ih M (k + 1) true (by omega) (by omega) (by omega)
      rw [n0'] at i0
      rw [n1, z_tt] at i1
      have E0 : ∀ P : Prop, [Decidable P] → j_z (false = true ∧ P) = j_k 0 := fun P _ => if_neg (fun u => absurd u.1 Bool.false_ne_true)
      rw [E0] at i0
      rw [x_exec, t_200_15, p_firstS]
      cases s
      · rw [E0, n0']
        simp (disch := first | assumption | omega) only [k_add, k_sub, k_mul, k_lt, k_eq, k_lt0, k_0lt, k_eq0, k_nat, k_b0, k_b1, k_z1, k_z0, k_o1, k_o0, Int.reduceEq, Int.reduceLT, Int.reduceLE, Int.reduceAdd, Int.reduceMul, Int.reduceNeg, Bool.false_eq_true, or_true, true_or, or_false, false_or, and_true, true_and, and_false, false_and, not_true_eq_false, not_false_eq_true, ↓reduceIte, z_0, z_k, s_I, s_J, s_uI, s_uJ, ↓c_oc_87, hn, z]
        exact i0
      · rw [n1]
        have l := n_isLost (L := L) (p := p) (d := d) (J := J) q1 q2 hf ho bN1 k1 z n4
        by_cases y : f (5 + k) = -9
        · have l1 : j_z (f (5 + k) = -9) = j_k 1 := if_pos y
          rw [l1] at l
          have E : j_z (true = true ∧ (if decide (f (5 + k) = -9 ∨ gr (f (5 + k)) ≠ 3) = true then k else p_first (fun k => decide (f (5 + k) = -9 ∨ gr (f (5 + k)) ≠ 3)) t (k + 1)) = -9) = j_k 0 := by
            rw [decide_eq_true (Or.inl y), if_pos rfl]
            exact if_neg (fun u => by omega)
          rw [E]
          simp (disch := first | assumption | omega) only [k_add, k_sub, k_mul, k_lt, k_eq, k_lt0, k_0lt, k_eq0, k_nat, k_b0, k_b1, k_z1, k_z0, k_o1, k_o0, Int.reduceEq, Int.reduceLT, Int.reduceLE, Int.reduceAdd, Int.reduceMul, Int.reduceNeg, Bool.false_eq_true, or_true, true_or, or_false, false_or, and_true, true_and, and_false, false_and, not_true_eq_false, not_false_eq_true, ↓reduceIte, z_0, z_k, s_I, s_J, s_uI, s_uJ, ↓c_oc_87, hn, z, ↓jc1 l]
          exact i0
        · have l1 : j_z (f (5 + k) = -9) = j_k 0 := if_neg y
          rw [l1] at l
          have hc := (ho.1 k k1 z).resolve_left y
          obtain ⟨hc1, hc2⟩ := hc
          have hc3 : f (5 + k) < 30 := by omega
          have gv := hm.2.2.2.2.2 _ hc1 hc2
          have gb := hC.2.2.2.2.1 _ hc1 hc2
          have v := n_v (L := L) (p := p) (d := d + 1) (I := I) (J := J) q1 q2 (show 0 ≤ 5 + k by omega) (show 5 + k < 13 by omega)
          rw [hf.2.1 k k1 z] at v
          by_cases u : gr (f (5 + k)) = 3
          · have E : j_z (true = true ∧ (if decide (f (5 + k) = -9 ∨ gr (f (5 + k)) ≠ 3) = true then k else p_first (fun k => decide (f (5 + k) = -9 ∨ gr (f (5 + k)) ≠ 3)) t (k + 1)) = -9) = j_z (p_first (fun k => decide (f (5 + k) = -9 ∨ gr (f (5 + k)) ≠ 3)) t (k + 1) = -9) := by
              rw [decide_eq_false (fun x => x.elim y (fun x => x u)), if_neg Bool.false_ne_true, z_tt]
            rw [E]
            simp (disch := first | assumption | omega) only [k_add, k_sub, k_mul, k_lt, k_eq, k_lt0, k_0lt, k_eq0, k_nat, k_b0, k_b1, k_z1, k_z0, k_o1, k_o0, Int.reduceEq, Int.reduceLT, Int.reduceLE, Int.reduceAdd, Int.reduceMul, Int.reduceNeg, Bool.false_eq_true, or_true, true_or, or_false, false_or, and_true, true_and, and_false, false_and, not_true_eq_false, not_false_eq_true, ↓reduceIte, z_0, z_k, s_I, s_J, s_uI, s_uJ, ↓c_oc_87, hn, z, ↓jc1 l, ↓c_gP_87_12, ↓jc1 v, ↓c_ia_94, gv, u]
            exact i1
          · have E : j_z (true = true ∧ (if decide (f (5 + k) = -9 ∨ gr (f (5 + k)) ≠ 3) = true then k else p_first (fun k => decide (f (5 + k) = -9 ∨ gr (f (5 + k)) ≠ 3)) t (k + 1)) = -9) = j_k 0 := by
              rw [decide_eq_true (Or.inr u), if_pos rfl]
              exact if_neg (fun u => by omega)
            rw [E]
            simp (disch := first | assumption | omega) only [k_add, k_sub, k_mul, k_lt, k_eq, k_lt0, k_0lt, k_eq0, k_nat, k_b0, k_b1, k_z1, k_z0, k_o1, k_o0, Int.reduceEq, Int.reduceLT, Int.reduceLE, Int.reduceAdd, Int.reduceMul, Int.reduceNeg, Bool.false_eq_true, or_true, true_or, or_false, false_or, and_true, true_and, and_false, false_and, not_true_eq_false, not_false_eq_true, ↓reduceIte, z_0, z_k, s_I, s_J, s_uI, s_uJ, ↓c_oc_87, hn, z, ↓jc1 l, ↓c_gP_87_12, ↓jc1 v, ↓c_ia_94, gv, u]
            exact i0
  have F : j_z (p_safe gr n f = true) = j_z (decide (0 < n) = true ∧ p_first (fun k => decide (f (5 + k) = -9 ∨ gr (f (5 + k)) ≠ 3)) n.toNat 0 = -9) := by
    unfold p_safe
    simp only [decide_eq_true_iff]
  have lp := loop n.toNat 999999 0 (decide (0 < n)) (Int.le_refl 0) (by omega) (by omega)
  have e := (r_200 (d + 2) (ST L p I J) 87 (j_k q)).trans (t_200_0 _ _ _ _ _)
  rw [F, e]
  by_cases z : 0 < n
  · rw [decide_eq_true z] at lp ⊢
    rw [z_tt] at lp ⊢
    rw [show j_z (true = true) = j_k 1 from if_pos rfl] at lp
    simp (disch := first | assumption | omega) only [k_add, k_sub, k_mul, k_lt, k_eq, k_lt0, k_0lt, k_eq0, k_nat, k_b0, k_b1, k_z1, k_z0, k_o1, k_o0, Int.reduceEq, Int.reduceLT, Int.reduceLE, Int.reduceAdd, Int.reduceMul, Int.reduceNeg, Bool.false_eq_true, or_true, true_or, or_false, false_or, and_true, true_and, and_false, false_and, not_true_eq_false, not_false_eq_true, ↓reduceIte, z_0, z_k, s_I, s_J, s_uI, s_uJ, ↓c_oc_87, hn, z]
    exact lp
  · rw [decide_eq_false z] at lp ⊢
    rw [show j_z (false = true) = j_k 0 from if_neg Bool.false_ne_true] at lp
    simp (disch := first | assumption | omega) only [k_add, k_sub, k_mul, k_lt, k_eq, k_lt0, k_0lt, k_eq0, k_nat, k_b0, k_b1, k_z1, k_z0, k_o1, k_o0, Int.reduceEq, Int.reduceLT, Int.reduceLE, Int.reduceAdd, Int.reduceMul, Int.reduceNeg, Bool.false_eq_true, or_true, true_or, or_false, false_or, and_true, true_and, and_false, false_and, not_true_eq_false, not_false_eq_true, ↓reduceIte, z_0, z_k, s_I, s_J, s_uI, s_uJ, ↓c_oc_87, hn, z]
    exact lp
theorem n_wanted {row : Int} {want : Fl → Bool} (q1 : 0 ≤ q) (q2 : q < 9) (hm : iMg I w h N n gr kd) (hf : iM1 I q n f) (ho : okF N n b f) (hW : iWM I gr n row want) : j_run (d + 4) 203 [.ref 87, .int (j_k q), .int (j_k row)] (ST L p I J) = some (some (.int (j_z (want f = true))), ST L p I J) := by
  have hC := hm.1
  have hn := hm.2.2.2.1
  have n0 := hC.2.2.1
  have n4 := hC.2.2.2.1
  obtain ⟨bN0, bN1, -⟩ := bd_N hC
  rcases hW with ⟨rfl, rfl⟩ | ⟨r1, r2, rz, rv, hR, rfl⟩
  · have s := n_safe (L := L) (p := p) (d := d) (J := J) q1 q2 hm hf ho
    rw [r_203, t_203_0]
    simp (disch := first | assumption | omega) only [k_add, k_sub, k_mul, k_lt, k_eq, k_lt0, k_0lt, k_eq0, k_nat, k_b0, k_b1, k_z1, k_z0, k_o1, k_o0, Int.reduceEq, Int.reduceLT, Int.reduceLE, Int.reduceAdd, Int.reduceMul, Int.reduceNeg, Bool.false_eq_true, or_true, true_or, or_false, false_or, and_true, true_and, and_false, false_and, not_true_eq_false, not_false_eq_true, ↓reduceIte, z_0, z_k, s_I, s_J, s_uI, s_uJ, ↓c_oc_87, ↓jc1 s, z_or]
  · have loop : ∀ (t M : Nat) (k : Int) (s : Bool), 0 ≤ k → k + t = n → t < M → j_exec k_203 h_203 (j_run (d + 3)) M 15 [some (.ref 87), some (.int (j_k q)), some (.int (j_k row)), some (.int (j_z (s = true))), some (.int (j_k k))] [] (ST L p I J) = some (some (.int (j_z (s = true ∧ p_first (fun k => decide (¬ j_k (f (5 + k)) = rv row k)) t k = -9))), ST L p I J) := by
      intro t
      induction t with
      | zero =>
        intro M k s k1 k2 hM
        obtain ⟨M, rfl⟩ : ∃ q, M = q + 1 := ⟨M - 1, by omega⟩
        have z : ¬ k < n := by omega
        rw [x_exec, t_203_15, p_first0]
        have E : j_z (s = true ∧ (-9 : Int) = -9) = j_z (s = true) := by simp only [and_true]
        rw [E]
        simp (disch := first | assumption | omega) only [k_add, k_sub, k_mul, k_lt, k_eq, k_lt0, k_0lt, k_eq0, k_nat, k_b0, k_b1, k_z1, k_z0, k_o1, k_o0, Int.reduceEq, Int.reduceLT, Int.reduceLE, Int.reduceAdd, Int.reduceMul, Int.reduceNeg, Bool.false_eq_true, or_true, true_or, or_false, false_or, and_true, true_and, and_false, false_and, not_true_eq_false, not_false_eq_true, ↓reduceIte, z_0, z_k, s_I, s_J, s_uI, s_uJ, ↓c_oc_87, hn, z, z_or]
      | succ t ih =>
        intro M k s k1 k2 hM
        obtain ⟨M, rfl⟩ : ∃ q, M = q + 1 := ⟨M - 1, by omega⟩
        have z : k < n := by omega
        have k6 : k < 60 := by omega
        have n1 : j_z (true = true) = j_k 1 := if_pos rfl
        have n0' : j_z (false = true) = j_k 0 := if_neg Bool.false_ne_true
        have i0 := ih M (k + 1) false (by omega) (by omega) (by omega)
        have i1 := ih M (k + 1) true (by omega) (by omega) (by omega)
        rw [n0'] at i0
        rw [n1, z_tt] at i1
        have E0 : ∀ P : Prop, [Decidable P] → j_z (false = true ∧ P) = j_k 0 := fun P _ => if_neg (fun u => absurd u.1 Bool.false_ne_true)
        rw [E0] at i0
        rw [x_exec, t_203_15, p_firstS]
        cases s
        · rw [E0, n0']
          simp (disch := first | assumption | omega) only [k_add, k_sub, k_mul, k_lt, k_eq, k_lt0, k_0lt, k_eq0, k_nat, k_b0, k_b1, k_z1, k_z0, k_o1, k_o0, Int.reduceEq, Int.reduceLT, Int.reduceLE, Int.reduceAdd, Int.reduceMul, Int.reduceNeg, Bool.false_eq_true, or_true, true_or, or_false, false_or, and_true, true_and, and_false, false_and, not_true_eq_false, not_false_eq_true, ↓reduceIte, z_0, z_k, s_I, s_J, s_uI, s_uJ, ↓c_oc_87, hn, z]
          exact i0
        · rw [n1]
          have v := n_v (L := L) (p := p) (d := d + 2) (I := I) (J := J) q1 q2 (show 0 ≤ 5 + k by omega) (show 5 + k < 13 by omega)
          rw [hf.2.1 k k1 z] at v
          have ra : j_run (d + 3) 140 [.ref 87, .int (j_k row), .int (j_k k)] (ST L p I J) = some (some (.int (rv row k)), ST L p I J) := by
            have e := (hR row r1 r2).2 k k1 k6
            rw [r_140, t_140_0]
            simp (disch := first | assumption | omega) only [k_add, k_sub, k_mul, k_lt, k_eq, k_lt0, k_0lt, k_eq0, k_nat, k_b0, k_b1, k_z1, k_z0, k_o1, k_o0, Int.reduceEq, Int.reduceLT, Int.reduceLE, Int.reduceAdd, Int.reduceMul, Int.reduceNeg, Bool.false_eq_true, or_true, true_or, or_false, false_or, and_true, true_and, and_false, false_and, not_true_eq_false, not_false_eq_true, ↓reduceIte, z_0, z_k, s_I, s_J, s_uI, s_uJ, ↓c_gP_87_6, ↓c_ia_90, e]
          by_cases u : j_k (f (5 + k)) = rv row k
          · have E : j_z (true = true ∧ (if decide (¬ j_k (f (5 + k)) = rv row k) = true then k else p_first (fun k => decide (¬ j_k (f (5 + k)) = rv row k)) t (k + 1)) = -9) = j_z (p_first (fun k => decide (¬ j_k (f (5 + k)) = rv row k)) t (k + 1) = -9) := by
              rw [decide_eq_false (fun x => x u), if_neg Bool.false_ne_true, z_tt]
            rw [E]
            simp (disch := first | assumption | omega) only [k_add, k_sub, k_mul, k_lt, k_eq, k_lt0, k_0lt, k_eq0, k_nat, k_b0, k_b1, k_z1, k_z0, k_o1, k_o0, Int.reduceEq, Int.reduceLT, Int.reduceLE, Int.reduceAdd, Int.reduceMul, Int.reduceNeg, Bool.false_eq_true, or_true, true_or, or_false, false_or, and_true, true_and, and_false, false_and, not_true_eq_false, not_false_eq_true, ↓reduceIte, z_0, z_k, s_I, s_J, s_uI, s_uJ, ↓c_oc_87, hn, z, ↓jc1 v, ↓jc1 ra]
            rw [if_pos u]
            exact i1
          · have E : j_z (true = true ∧ (if decide (¬ j_k (f (5 + k)) = rv row k) = true then k else p_first (fun k => decide (¬ j_k (f (5 + k)) = rv row k)) t (k + 1)) = -9) = j_k 0 := by
              rw [decide_eq_true u, if_pos rfl]
              exact if_neg (fun u => by omega)
            rw [E]
            simp (disch := first | assumption | omega) only [k_add, k_sub, k_mul, k_lt, k_eq, k_lt0, k_0lt, k_eq0, k_nat, k_b0, k_b1, k_z1, k_z0, k_o1, k_o0, Int.reduceEq, Int.reduceLT, Int.reduceLE, Int.reduceAdd, Int.reduceMul, Int.reduceNeg, Bool.false_eq_true, or_true, true_or, or_false, false_or, and_true, true_and, and_false, false_and, not_true_eq_false, not_false_eq_true, ↓reduceIte, z_0, z_k, s_I, s_J, s_uI, s_uJ, ↓c_oc_87, hn, z, ↓jc1 v, ↓jc1 ra]
            rw [if_neg u]
            exact i0
    have lp := loop n.toNat 999999 0 true (Int.le_refl 0) (by omega) (by omega)
    rw [z_tt, show j_z (true = true) = j_k 1 from if_pos rfl] at lp
    have F : j_z (p_at n (rv row) f = true) = j_z (p_first (fun k => decide (¬ j_k (f (5 + k)) = rv row k)) n.toNat 0 = -9) := by
      unfold p_at
      simp only [decide_eq_true_iff]
    have z : ¬ row < 0 := by omega
    have e := (r_203 (d + 3) (ST L p I J) 87 (j_k q) (j_k row)).trans (t_203_0 _ _ _ _ _ _)
    rw [F, e]
    simp (disch := first | assumption | omega) only [k_add, k_sub, k_mul, k_lt, k_eq, k_lt0, k_0lt, k_eq0, k_nat, k_b0, k_b1, k_z1, k_z0, k_o1, k_o0, Int.reduceEq, Int.reduceLT, Int.reduceLE, Int.reduceAdd, Int.reduceMul, Int.reduceNeg, Bool.false_eq_true, or_true, true_or, or_false, false_or, and_true, true_and, and_false, false_and, not_true_eq_false, not_false_eq_true, ↓reduceIte, z_0, z_k, s_I, s_J, s_uI, s_uJ, z]
    exact lp
theorem n_layRow {row code fst B : Int} {want : Fl → Bool} {s : Sc} (q1 : 0 ≤ q) (q2 : q < 9) (hm : iMg I w h N n gr kd) (hf : iM1 I q n f) (ho : okF N n b f) (hW : iWM I gr n row want) (hs : iSM I s) (hB : okS B s) (hB2 : B ≤ 100000) (hfst : fst = -9 ∨ (0 ≤ fst ∧ fst < 16)) : ∃ I', j_run (d + 5) 206 [.ref 87, .int (j_k q), .int (j_k code), .int (j_k row), .int (j_k fst)] (ST L p I J) = some (none, ST L p I' J) ∧ iSM I' (p_note want f code fst s) ∧ frF I I' := by
  have n4 := hm.1.2.2.2.1
  obtain ⟨s1, s2, s3, s4, s5⟩ := hs
  obtain ⟨b1, b2, b3, b4, b5, b6, b7⟩ := hB
  have f1 : frF I (u2 I 87 32 (j_k (s.1 + 1))) := frF.o (by decide) (by decide)
  have W := n_wanted (L := L) (p := p) (d := d) (J := J) q1 q2 (f1.t (q := 0) |>.m hm) (hf.o (k := 32) (v := j_k (s.1 + 1)) n4) ho (hW.t (f1.t (q := 0)))
  have e := (r_206 (d + 4) (ST L p I J) 87 (j_k q) (j_k code) (j_k row) (j_k fst)).trans (t_206_0 _ _ _ _ _ _ _ _)
  unfold p_note
  by_cases x : want f = true
  · have w1 : j_z (want f = true) = j_k 1 := if_pos x
    rw [w1] at W
    rw [if_pos x]
    by_cases y : s.2.1 = 0
    · rw [y] at s2
      rcases hfst with rfl | ⟨g1, g2⟩
      · simp (disch := first | assumption | omega) only [k_add, k_sub, k_mul, k_lt, k_eq, k_lt0, k_0lt, k_eq0, k_nat, k_b0, k_b1, k_z1, k_z0, k_o1, k_o0, Int.reduceEq, Int.reduceLT, Int.reduceLE, Int.reduceAdd, Int.reduceMul, Int.reduceNeg, Bool.false_eq_true, or_true, true_or, or_false, false_or, and_true, true_and, and_false, false_and, not_true_eq_false, not_false_eq_true, ↓reduceIte, z_0, z_k, s_I, s_J, s_uI, s_uJ, ↓c_oc_87, ↓c_lt_87, s1, ↓jc1 W, u2_ss, u2_k, s2, s4, s5, or_z0] at e
        refine ⟨_, e, ⟨?_, ?_, fun _ => ?_, ?_, ?_⟩, ((((frF.o (by decide) (by decide)).tr (frF.o (by decide) (by decide))).tr (frF.o (by decide) (by decide))).tr (frF.o (by decide) (by decide))).tr (frF.o (by decide) (by decide))⟩
        · simp (disch := first | assumption | omega) only [k_add, k_sub, k_mul, k_lt, k_eq, k_lt0, k_0lt, k_eq0, k_nat, k_b0, k_b1, k_z1, k_z0, k_o1, k_o0, Int.reduceEq, Int.reduceLT, Int.reduceLE, Int.reduceAdd, Int.reduceMul, Int.reduceNeg, Bool.false_eq_true, or_true, true_or, or_false, false_or, and_true, true_and, and_false, false_and, not_true_eq_false, not_false_eq_true, ↓reduceIte, z_0, z_k, s_I, s_J, s_uI, s_uJ, u2_ss, u2_k]
        · rw [y]
          simp (disch := first | assumption | omega) only [k_add, k_sub, k_mul, k_lt, k_eq, k_lt0, k_0lt, k_eq0, k_nat, k_b0, k_b1, k_z1, k_z0, k_o1, k_o0, Int.reduceEq, Int.reduceLT, Int.reduceLE, Int.reduceAdd, Int.reduceMul, Int.reduceNeg, Bool.false_eq_true, or_true, true_or, or_false, false_or, and_true, true_and, and_false, false_and, not_true_eq_false, not_false_eq_true, ↓reduceIte, z_0, z_k, s_I, s_J, s_uI, s_uJ, u2_ss, u2_k]
        · rw [if_pos y]
          simp (disch := first | assumption | omega) only [k_add, k_sub, k_mul, k_lt, k_eq, k_lt0, k_0lt, k_eq0, k_nat, k_b0, k_b1, k_z1, k_z0, k_o1, k_o0, Int.reduceEq, Int.reduceLT, Int.reduceLE, Int.reduceAdd, Int.reduceMul, Int.reduceNeg, Bool.false_eq_true, or_true, true_or, or_false, false_or, and_true, true_and, and_false, false_and, not_true_eq_false, not_false_eq_true, ↓reduceIte, z_0, z_k, s_I, s_J, s_uI, s_uJ, u2_ss, u2_k]
        · simp (disch := first | assumption | omega) only [k_add, k_sub, k_mul, k_lt, k_eq, k_lt0, k_0lt, k_eq0, k_nat, k_b0, k_b1, k_z1, k_z0, k_o1, k_o0, Int.reduceEq, Int.reduceLT, Int.reduceLE, Int.reduceAdd, Int.reduceMul, Int.reduceNeg, Bool.false_eq_true, or_true, true_or, or_false, false_or, and_true, true_and, and_false, false_and, not_true_eq_false, not_false_eq_true, ↓reduceIte, z_0, z_k, s_I, s_J, s_uI, s_uJ, u2_ss, u2_k]
        · simp (disch := first | assumption | omega) only [k_add, k_sub, k_mul, k_lt, k_eq, k_lt0, k_0lt, k_eq0, k_nat, k_b0, k_b1, k_z1, k_z0, k_o1, k_o0, Int.reduceEq, Int.reduceLT, Int.reduceLE, Int.reduceAdd, Int.reduceMul, Int.reduceNeg, Bool.false_eq_true, or_true, true_or, or_false, false_or, and_true, true_and, and_false, false_and, not_true_eq_false, not_false_eq_true, ↓reduceIte, z_0, z_k, s_I, s_J, s_uI, s_uJ, u2_ss, u2_k]
      · have g9 : ¬ fst = -9 := by omega
        have k1 : j_k fst / j_k 4 = j_k (fst / 4) := k_divp g1 (by omega) (by decide) (by decide)
        have k2 : j_k fst - j_k (fst / 4) * j_k 4 = j_k (fst % 4) := by rw [← k1]; exact k_modp g1 (by omega) (by decide) (by decide)
        have k2' : fst - fst / 4 * 4 = fst % 4 := by omega
        have o1 := k_or (s := s.2.2.2.1) (b := fst / 4) b4 b5 (by omega) (by omega)
        have o2 := k_or (s := s.2.2.2.2) (b := fst % 4) b6 b7 (by omega) (by omega)
        simp (disch := first | assumption | omega) only [k_add, k_sub, k_mul, k_lt, k_eq, k_lt0, k_0lt, k_eq0, k_nat, k_b0, k_b1, k_z1, k_z0, k_o1, k_o0, Int.reduceEq, Int.reduceLT, Int.reduceLE, Int.reduceAdd, Int.reduceMul, Int.reduceNeg, Bool.false_eq_true, or_true, true_or, or_false, false_or, and_true, true_and, and_false, false_and, not_true_eq_false, not_false_eq_true, ↓reduceIte, z_0, z_k, s_I, s_J, s_uI, s_uJ, ↓c_oc_87, ↓c_lt_87, s1, ↓jc1 W, u2_ss, u2_k, s2, s4, s5, g9, k1, k2', o1, o2] at e
        refine ⟨_, e, ⟨?_, ?_, fun _ => ?_, ?_, ?_⟩, ((((frF.o (by decide) (by decide)).tr (frF.o (by decide) (by decide))).tr (frF.o (by decide) (by decide))).tr (frF.o (by decide) (by decide))).tr (frF.o (by decide) (by decide))⟩
        · simp (disch := first | assumption | omega) only [k_add, k_sub, k_mul, k_lt, k_eq, k_lt0, k_0lt, k_eq0, k_nat, k_b0, k_b1, k_z1, k_z0, k_o1, k_o0, Int.reduceEq, Int.reduceLT, Int.reduceLE, Int.reduceAdd, Int.reduceMul, Int.reduceNeg, Bool.false_eq_true, or_true, true_or, or_false, false_or, and_true, true_and, and_false, false_and, not_true_eq_false, not_false_eq_true, ↓reduceIte, z_0, z_k, s_I, s_J, s_uI, s_uJ, u2_ss, u2_k]
        · rw [y]
          simp (disch := first | assumption | omega) only [k_add, k_sub, k_mul, k_lt, k_eq, k_lt0, k_0lt, k_eq0, k_nat, k_b0, k_b1, k_z1, k_z0, k_o1, k_o0, Int.reduceEq, Int.reduceLT, Int.reduceLE, Int.reduceAdd, Int.reduceMul, Int.reduceNeg, Bool.false_eq_true, or_true, true_or, or_false, false_or, and_true, true_and, and_false, false_and, not_true_eq_false, not_false_eq_true, ↓reduceIte, z_0, z_k, s_I, s_J, s_uI, s_uJ, u2_ss, u2_k]
        · rw [if_pos y]
          simp (disch := first | assumption | omega) only [k_add, k_sub, k_mul, k_lt, k_eq, k_lt0, k_0lt, k_eq0, k_nat, k_b0, k_b1, k_z1, k_z0, k_o1, k_o0, Int.reduceEq, Int.reduceLT, Int.reduceLE, Int.reduceAdd, Int.reduceMul, Int.reduceNeg, Bool.false_eq_true, or_true, true_or, or_false, false_or, and_true, true_and, and_false, false_and, not_true_eq_false, not_false_eq_true, ↓reduceIte, z_0, z_k, s_I, s_J, s_uI, s_uJ, u2_ss, u2_k]
        · simp (disch := first | assumption | omega) only [k_add, k_sub, k_mul, k_lt, k_eq, k_lt0, k_0lt, k_eq0, k_nat, k_b0, k_b1, k_z1, k_z0, k_o1, k_o0, Int.reduceEq, Int.reduceLT, Int.reduceLE, Int.reduceAdd, Int.reduceMul, Int.reduceNeg, Bool.false_eq_true, or_true, true_or, or_false, false_or, and_true, true_and, and_false, false_and, not_true_eq_false, not_false_eq_true, ↓reduceIte, z_0, z_k, s_I, s_J, s_uI, s_uJ, u2_ss, u2_k, g9]
        · simp (disch := first | assumption | omega) only [k_add, k_sub, k_mul, k_lt, k_eq, k_lt0, k_0lt, k_eq0, k_nat, k_b0, k_b1, k_z1, k_z0, k_o1, k_o0, Int.reduceEq, Int.reduceLT, Int.reduceLE, Int.reduceAdd, Int.reduceMul, Int.reduceNeg, Bool.false_eq_true, or_true, true_or, or_false, false_or, and_true, true_and, and_false, false_and, not_true_eq_false, not_false_eq_true, ↓reduceIte, z_0, z_k, s_I, s_J, s_uI, s_uJ, u2_ss, u2_k, g9]
    · have s3' := s3 y
      rcases hfst with rfl | ⟨g1, g2⟩
      · simp (disch := first | assumption | omega) only [k_add, k_sub, k_mul, k_lt, k_eq, k_lt0, k_0lt, k_eq0, k_nat, k_b0, k_b1, k_z1, k_z0, k_o1, k_o0, Int.reduceEq, Int.reduceLT, Int.reduceLE, Int.reduceAdd, Int.reduceMul, Int.reduceNeg, Bool.false_eq_true, or_true, true_or, or_false, false_or, and_true, true_and, and_false, false_and, not_true_eq_false, not_false_eq_true, ↓reduceIte, z_0, z_k, s_I, s_J, s_uI, s_uJ, ↓c_oc_87, ↓c_lt_87, s1, ↓jc1 W, u2_ss, u2_k, s2, y, s3', s4, s5, or_z0] at e
        refine ⟨_, e, ⟨?_, ?_, fun _ => ?_, ?_, ?_⟩, ((((frF.o (by decide) (by decide)).tr (frF.o (by decide) (by decide))).tr (frF.o (by decide) (by decide))).tr (frF.o (by decide) (by decide))).tr (frF.o (by decide) (by decide))⟩
        · simp (disch := first | assumption | omega) only [k_add, k_sub, k_mul, k_lt, k_eq, k_lt0, k_0lt, k_eq0, k_nat, k_b0, k_b1, k_z1, k_z0, k_o1, k_o0, Int.reduceEq, Int.reduceLT, Int.reduceLE, Int.reduceAdd, Int.reduceMul, Int.reduceNeg, Bool.false_eq_true, or_true, true_or, or_false, false_or, and_true, true_and, and_false, false_and, not_true_eq_false, not_false_eq_true, ↓reduceIte, z_0, z_k, s_I, s_J, s_uI, s_uJ, u2_ss, u2_k]
        · simp (disch := first | assumption | omega) only [k_add, k_sub, k_mul, k_lt, k_eq, k_lt0, k_0lt, k_eq0, k_nat, k_b0, k_b1, k_z1, k_z0, k_o1, k_o0, Int.reduceEq, Int.reduceLT, Int.reduceLE, Int.reduceAdd, Int.reduceMul, Int.reduceNeg, Bool.false_eq_true, or_true, true_or, or_false, false_or, and_true, true_and, and_false, false_and, not_true_eq_false, not_false_eq_true, ↓reduceIte, z_0, z_k, s_I, s_J, s_uI, s_uJ, u2_ss, u2_k]
        · rw [if_neg y]
          simp (disch := first | assumption | omega) only [k_add, k_sub, k_mul, k_lt, k_eq, k_lt0, k_0lt, k_eq0, k_nat, k_b0, k_b1, k_z1, k_z0, k_o1, k_o0, Int.reduceEq, Int.reduceLT, Int.reduceLE, Int.reduceAdd, Int.reduceMul, Int.reduceNeg, Bool.false_eq_true, or_true, true_or, or_false, false_or, and_true, true_and, and_false, false_and, not_true_eq_false, not_false_eq_true, ↓reduceIte, z_0, z_k, s_I, s_J, s_uI, s_uJ, u2_ss, u2_k]
        · simp (disch := first | assumption | omega) only [k_add, k_sub, k_mul, k_lt, k_eq, k_lt0, k_0lt, k_eq0, k_nat, k_b0, k_b1, k_z1, k_z0, k_o1, k_o0, Int.reduceEq, Int.reduceLT, Int.reduceLE, Int.reduceAdd, Int.reduceMul, Int.reduceNeg, Bool.false_eq_true, or_true, true_or, or_false, false_or, and_true, true_and, and_false, false_and, not_true_eq_false, not_false_eq_true, ↓reduceIte, z_0, z_k, s_I, s_J, s_uI, s_uJ, u2_ss, u2_k]
        · simp (disch := first | assumption | omega) only [k_add, k_sub, k_mul, k_lt, k_eq, k_lt0, k_0lt, k_eq0, k_nat, k_b0, k_b1, k_z1, k_z0, k_o1, k_o0, Int.reduceEq, Int.reduceLT, Int.reduceLE, Int.reduceAdd, Int.reduceMul, Int.reduceNeg, Bool.false_eq_true, or_true, true_or, or_false, false_or, and_true, true_and, and_false, false_and, not_true_eq_false, not_false_eq_true, ↓reduceIte, z_0, z_k, s_I, s_J, s_uI, s_uJ, u2_ss, u2_k]
      · have g9 : ¬ fst = -9 := by omega
        have k1 : j_k fst / j_k 4 = j_k (fst / 4) := k_divp g1 (by omega) (by decide) (by decide)
        have k2' : fst - fst / 4 * 4 = fst % 4 := by omega
        have o1 := k_or (s := s.2.2.2.1) (b := fst / 4) b4 b5 (by omega) (by omega)
        have o2 := k_or (s := s.2.2.2.2) (b := fst % 4) b6 b7 (by omega) (by omega)
        simp (disch := first | assumption | omega) only [k_add, k_sub, k_mul, k_lt, k_eq, k_lt0, k_0lt, k_eq0, k_nat, k_b0, k_b1, k_z1, k_z0, k_o1, k_o0, Int.reduceEq, Int.reduceLT, Int.reduceLE, Int.reduceAdd, Int.reduceMul, Int.reduceNeg, Bool.false_eq_true, or_true, true_or, or_false, false_or, and_true, true_and, and_false, false_and, not_true_eq_false, not_false_eq_true, ↓reduceIte, z_0, z_k, s_I, s_J, s_uI, s_uJ, ↓c_oc_87, ↓c_lt_87, s1, ↓jc1 W, u2_ss, u2_k, s2, y, s3', s4, s5, g9, k1, k2', o1, o2] at e
        refine ⟨_, e, ⟨?_, ?_, fun _ => ?_, ?_, ?_⟩, ((((frF.o (by decide) (by decide)).tr (frF.o (by decide) (by decide))).tr (frF.o (by decide) (by decide))).tr (frF.o (by decide) (by decide))).tr (frF.o (by decide) (by decide))⟩
        · simp (disch := first | assumption | omega) only [k_add, k_sub, k_mul, k_lt, k_eq, k_lt0, k_0lt, k_eq0, k_nat, k_b0, k_b1, k_z1, k_z0, k_o1, k_o0, Int.reduceEq, Int.reduceLT, Int.reduceLE, Int.reduceAdd, Int.reduceMul, Int.reduceNeg, Bool.false_eq_true, or_true, true_or, or_false, false_or, and_true, true_and, and_false, false_and, not_true_eq_false, not_false_eq_true, ↓reduceIte, z_0, z_k, s_I, s_J, s_uI, s_uJ, u2_ss, u2_k]
        · simp (disch := first | assumption | omega) only [k_add, k_sub, k_mul, k_lt, k_eq, k_lt0, k_0lt, k_eq0, k_nat, k_b0, k_b1, k_z1, k_z0, k_o1, k_o0, Int.reduceEq, Int.reduceLT, Int.reduceLE, Int.reduceAdd, Int.reduceMul, Int.reduceNeg, Bool.false_eq_true, or_true, true_or, or_false, false_or, and_true, true_and, and_false, false_and, not_true_eq_false, not_false_eq_true, ↓reduceIte, z_0, z_k, s_I, s_J, s_uI, s_uJ, u2_ss, u2_k]
        · rw [if_neg y]
          simp (disch := first | assumption | omega) only [k_add, k_sub, k_mul, k_lt, k_eq, k_lt0, k_0lt, k_eq0, k_nat, k_b0, k_b1, k_z1, k_z0, k_o1, k_o0, Int.reduceEq, Int.reduceLT, Int.reduceLE, Int.reduceAdd, Int.reduceMul, Int.reduceNeg, Bool.false_eq_true, or_true, true_or, or_false, false_or, and_true, true_and, and_false, false_and, not_true_eq_false, not_false_eq_true, ↓reduceIte, z_0, z_k, s_I, s_J, s_uI, s_uJ, u2_ss, u2_k]
        · simp (disch := first | assumption | omega) only [k_add, k_sub, k_mul, k_lt, k_eq, k_lt0, k_0lt, k_eq0, k_nat, k_b0, k_b1, k_z1, k_z0, k_o1, k_o0, Int.reduceEq, Int.reduceLT, Int.reduceLE, Int.reduceAdd, Int.reduceMul, Int.reduceNeg, Bool.false_eq_true, or_true, true_or, or_false, false_or, and_true, true_and, and_false, false_and, not_true_eq_false, not_false_eq_true, ↓reduceIte, z_0, z_k, s_I, s_J, s_uI, s_uJ, u2_ss, u2_k, g9]
        · simp (disch := first | assumption | omega) only [k_add, k_sub, k_mul, k_lt, k_eq, k_lt0, k_0lt, k_eq0, k_nat, k_b0, k_b1, k_z1, k_z0, k_o1, k_o0, Int.reduceEq, Int.reduceLT, Int.reduceLE, Int.reduceAdd, Int.reduceMul, Int.reduceNeg, Bool.false_eq_true, or_true, true_or, or_false, false_or, and_true, true_and, and_false, false_and, not_true_eq_false, not_false_eq_true, ↓reduceIte, z_0, z_k, s_I, s_J, s_uI, s_uJ, u2_ss, u2_k, g9]
  · have w1 : j_z (want f = true) = j_k 0 := if_neg x
    rw [w1] at W
    rw [if_neg x]
    simp (disch := first | assumption | omega) only [k_add, k_sub, k_mul, k_lt, k_eq, k_lt0, k_0lt, k_eq0, k_nat, k_b0, k_b1, k_z1, k_z0, k_o1, k_o0, Int.reduceEq, Int.reduceLT, Int.reduceLE, Int.reduceAdd, Int.reduceMul, Int.reduceNeg, Bool.false_eq_true, or_true, true_or, or_false, false_or, and_true, true_and, and_false, false_and, not_true_eq_false, not_false_eq_true, ↓reduceIte, z_0, z_k, s_I, s_J, s_uI, s_uJ, ↓c_oc_87, ↓c_lt_87, s1, ↓jc1 W] at e
    refine ⟨_, e, ⟨u2_ss _ _ _ _, ?_, fun u => ?_, ?_, ?_⟩, f1⟩
    · rw [u2_k (by decide)]
      exact s2
    · rw [u2_k (by decide)]
      exact s3 u
    · rw [u2_k (by decide)]
      exact s4
    · rw [u2_k (by decide)]
      exact s5
end MODEL14
