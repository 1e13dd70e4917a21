/-! ===== the class's grounds: what can be reached ===== -/
def mb (v : Int32) (i : Int) : Prop := 0 ≤ i ∧ i < 32 ∧ bt v i.toNat = true
def p_og (gr : Fl) (g : Bool) (y : Int) : Prop := gr y ≠ 1 ∧ gr y ≠ 2 ∧ (g = true ∨ gr y ≠ 4)
/-- the cells that are reached: the least set with the first, and with the open neighbours of each -/
def p_R (w h : Int) (gr : Fl) (g : Bool) (c : Int) (x : Int) : Prop := ∀ P : Int → Prop, P c → (∀ a y, P a → 0 ≤ y → y < 4 → p_by w h a (p_dx y) (p_dy y) ≠ -9 → p_og gr g (p_by w h a (p_dx y) (p_dy y)) → P (p_by w h a (p_dx y) (p_dy y))) → P x
/-- the bits of an answer are the cells reached -/
def isR (w h : Int) (gr : Fl) (g : Bool) (c : Int) (v : Int32) : Prop := ∀ i, mb v i ↔ (gr c ≠ 1 ∧ gr c ≠ 2) ∧ p_R w h gr g c i
theorem isR.eq {w h : Int} {gr : Fl} {g : Bool} {c : Int} {v v' : Int32} (h1 : isR w h gr g c v) (h2 : isR w h gr g c v') : v = v' := by
  refine b_ext fun i hi => ?_
  have e := (h1 i).trans (h2 i).symm
  have t : ((i : Int)).toNat = i := by omega
  unfold mb at e
  rw [t] at e
  rw [Bool.eq_iff_iff]
  exact ⟨fun z => (e.mp ⟨by omega, by omega, z⟩).2.2, fun z => (e.mpr ⟨by omega, by omega, z⟩).2.2⟩
theorem mb_or {x y : Int32} {i : Int} : mb (x ||| y) i ↔ mb x i ∨ mb y i := by
  unfold mb
  rw [b_or, Bool.or_eq_true]
  exact ⟨fun ⟨a, b, c⟩ => c.elim (fun c => Or.inl ⟨a, b, c⟩) (fun c => Or.inr ⟨a, b, c⟩), fun z => z.elim (fun ⟨a, b, c⟩ => ⟨a, b, Or.inl c⟩) (fun ⟨a, b, c⟩ => ⟨a, b, Or.inr c⟩)⟩
theorem mb_on {x : Int32} {c i : Int} (h1 : 0 ≤ c) (h2 : c < 32) : mb (x ||| (j_k 1 <<< (j_k c &&& 31))) i ↔ mb x i ∨ i = c := by
  unfold mb
  constructor
  · rintro ⟨a, b, e⟩
    rw [bt_on x h1 h2 a b, Bool.or_eq_true, decide_eq_true_iff] at e
    exact e.elim (fun e => Or.inl ⟨a, b, e⟩) Or.inr
  · intro z
    rcases z with ⟨a, b, e⟩ | rfl
    · exact ⟨a, b, by rw [bt_on x h1 h2 a b, e, Bool.true_or]⟩
    · exact ⟨h1, h2, by rw [bt_on x h1 h2 h1 h2, decide_eq_true rfl, Bool.or_true]⟩
theorem mb_1 {c i : Int} (h1 : 0 ≤ c) (h2 : c < 32) : mb (j_k 1 <<< (j_k c &&& 31)) i ↔ i = c := by
  unfold mb
  constructor
  · rintro ⟨a, b, e⟩
    rw [bt_bit h1 h2 a b, decide_eq_true_iff] at e
    exact e
  · rintro rfl
    exact ⟨h1, h2, by rw [bt_bit h1 h2 h1 h2, decide_eq_true rfl]⟩
theorem mb_0 {i : Int} : ¬ mb (j_k 0) i := by
  rintro ⟨_, _, e⟩
  have : bt (j_k 0) i.toNat = false := b_0 _
  rw [this] at e
  exact absurd e (by decide)
theorem mb_ext {x y : Int32} (h : ∀ i, mb x i ↔ mb y i) : x = y := by
  refine b_ext fun i hi => ?_
  have e := h i
  have t : ((i : Int)).toNat = i := by omega
  unfold mb at e
  rw [t] at e
  rw [Bool.eq_iff_iff]
  exact ⟨fun z => (e.mp ⟨by omega, by omega, z⟩).2.2, fun z => (e.mpr ⟨by omega, by omega, z⟩).2.2⟩
/-- how many bits below m -/
def p_cn (v : Int32) : Nat → Nat
  | 0 => 0
  | m + 1 => p_cn v m + (if bt v m = true then 1 else 0)
theorem cn_le (v : Int32) : ∀ m, p_cn v m ≤ m
  | 0 => Nat.le_refl 0
  | m + 1 => by
    have := cn_le v m
    unfold p_cn
    split <;> omega
theorem cn_mono {v v' : Int32} (h : ∀ i, bt v i = true → bt v' i = true) : ∀ m, p_cn v m ≤ p_cn v' m
  | 0 => Nat.le_refl 0
  | m + 1 => by
    have := cn_mono h m
    unfold p_cn
    by_cases z : bt v m = true
    · rw [if_pos z, if_pos (h m z)]
      omega
    · rw [if_neg z]
      split <;> omega
theorem cn_lt {v v' : Int32} (h : ∀ i, bt v i = true → bt v' i = true) {j : Nat} (h1 : bt v' j = true) (h2 : ¬ bt v j = true) : ∀ m, j < m → p_cn v m + 1 ≤ p_cn v' m
  | 0, z => by omega
  | m + 1, z => by
    unfold p_cn
    by_cases y : j = m
    · subst y
      have := cn_mono h j
      rw [if_neg h2, if_pos h1]
      omega
    · have := cn_lt h h1 h2 m (by omega)
      by_cases x : bt v m = true
      · rw [if_pos x, if_pos (h m x)]
        omega
      · rw [if_neg x]
        split <;> omega
section REACH
variable {L p g d : Nat} {I : Nat → Nat → Int32} {J : Nat → Nat → Int64} {n w h N : Int} {kd gr : Fl} {gt : Bool}
theorem by_ok (hC : okC w h N n gr kd) {c y : Int} (c1 : 0 ≤ c) (c2 : c < N) (y1 : 0 ≤ y) (y2 : y < 4) : p_by w h c (p_dx y) (p_dy y) = -9 ∨ (0 ≤ p_by w h c (p_dx y) (p_dy y) ∧ p_by w h c (p_dx y) (p_dy y) < N) := by
  have := by_rg hC c1 c2 (dx := p_dx y) (dy := p_dy y) (by rcases (show y = 0 ∨ y = 1 ∨ y = 2 ∨ y = 3 by omega) with rfl | rfl | rfl | rfl <;> decide)
  omega
theorem s_openBeside (hg : GA g) (hG : iG I g w h N gr) (hT : iT I) (hC : okC w h N n gr kd) {c : Int} (c1 : 0 ≤ c) (c2 : c < N) : ∃ v, j_run (d + 2) 41 [.ref g, .int (j_k c), .int (j_z (gt = true))] (ST L p I J) = some (some (.int v), ST L p I J) ∧ ∀ i, mb v i ↔ ∃ y, 0 ≤ y ∧ y < 4 ∧ p_by w h c (p_dx y) (p_dy y) ≠ -9 ∧ p_og gr gt (p_by w h c (p_dx y) (p_dy y)) ∧ i = p_by w h c (p_dx y) (p_dy y) := by
  obtain ⟨bN0, bN1, -⟩ := bd_N hC
  have loop : ∀ (t M : Nat) (y : Int) (v0 : Int32), 0 ≤ y → y + t = 4 → t < M → ∃ v, j_exec k_41 h_41 (j_run (d + 1)) M 5 [some (.ref g), some (.int (j_k c)), some (.int (j_z (gt = true))), some (.int v0), some (.int (j_k y)), none] [] (ST L p I J) = some (some (.int v), ST L p I J) ∧ ∀ i, mb v i ↔ mb v0 i ∨ ∃ y', y ≤ y' ∧ y' < 4 ∧ p_by w h c (p_dx y') (p_dy y') ≠ -9 ∧ p_og gr gt (p_by w h c (p_dx y') (p_dy y')) ∧ i = p_by w h c (p_dx y') (p_dy y') := by
    intro t
    induction t with
    | zero =>
      intro M y v0 y1 y2 hM
      obtain ⟨M, rfl⟩ : ∃ q, M = q + 1 := ⟨M - 1, by omega⟩
      have z : ¬ y < 4 := by omega
      refine ⟨v0, ?_, fun i => ⟨Or.inl, fun u => u.elim id (fun ⟨y', a, b, _⟩ => absurd b (by omega))⟩⟩
      rw [x_exec, t_41_5]
      simp (disch := first | assumption | omega) only [k_add, k_sub, k_mul, k_lt, k_eq, k_lt0, k_0lt, k_eq0, k_nat, k_b0, k_b1, k_z1, k_z0, k_o1, k_o0, Int.reduceEq, Int.reduceLT, Int.reduceLE, Int.reduceAdd, Int.reduceMul, Int.reduceNeg, Bool.false_eq_true, or_true, true_or, or_false, false_or, and_true, true_and, and_false, false_and, not_true_eq_false, not_false_eq_true, ↓reduceIte, z_0, z_k, s_I, s_J, s_uI, s_uJ, z]
    | succ t ih =>
      intro M y v0 y1 y2 hM
      obtain ⟨M, rfl⟩ : ∃ q, M = q + 1 := ⟨M - 1, by omega⟩
      have z : y < 4 := by omega
      have q1 := s_beside (L := L) (p := p) (d := d) (J := J) hg hG hT hC c1 c2 y1 z
      have br := by_ok hC c1 c2 y1 z
      -- the way adds nothing
      have skip : ¬ (p_by w h c (p_dx y) (p_dy y) ≠ -9 ∧ p_og gr gt (p_by w h c (p_dx y) (p_dy y))) → ∀ v, (∀ i, mb v i ↔ mb v0 i ∨ ∃ y', y + 1 ≤ y' ∧ y' < 4 ∧ p_by w h c (p_dx y') (p_dy y') ≠ -9 ∧ p_og gr gt (p_by w h c (p_dx y') (p_dy y')) ∧ i = p_by w h c (p_dx y') (p_dy y')) → ∀ i, mb v i ↔ mb v0 i ∨ ∃ y', y ≤ y' ∧ y' < 4 ∧ p_by w h c (p_dx y') (p_dy y') ≠ -9 ∧ p_og gr gt (p_by w h c (p_dx y') (p_dy y')) ∧ i = p_by w h c (p_dx y') (p_dy y') := by
        intro no v hv i
        rw [hv i]
        refine ⟨fun u => u.elim Or.inl (fun ⟨y', a, b⟩ => Or.inr ⟨y', by omega, b⟩), fun u => u.elim Or.inl (fun ⟨y', a, b1, b2, b3, b4⟩ => ?_)⟩
        by_cases x : y' = y
        · subst x
          exact absurd ⟨b2, b3⟩ no
        · exact Or.inr ⟨y', by omega, b1, b2, b3, b4⟩
      have add : p_by w h c (p_dx y) (p_dy y) ≠ -9 → p_og gr gt (p_by w h c (p_dx y) (p_dy y)) → ∀ v, (∀ i, mb v i ↔ mb (v0 ||| (j_k 1 <<< (j_k (p_by w h c (p_dx y) (p_dy y)) &&& 31))) i ∨ ∃ y', y + 1 ≤ y' ∧ y' < 4 ∧ p_by w h c (p_dx y') (p_dy y') ≠ -9 ∧ p_og gr gt (p_by w h c (p_dx y') (p_dy y')) ∧ i = p_by w h c (p_dx y') (p_dy y')) → ∀ i, mb v i ↔ mb v0 i ∨ ∃ y', y ≤ y' ∧ y' < 4 ∧ p_by w h c (p_dx y') (p_dy y') ≠ -9 ∧ p_og gr gt (p_by w h c (p_dx y') (p_dy y')) ∧ i = p_by w h c (p_dx y') (p_dy y') := by
        intro n1 n2 v hv i
        have b := br.resolve_left n1
        rw [hv i, mb_on b.1 (by omega)]
        refine ⟨fun u => u.elim (fun u => u.elim Or.inl (fun u => Or.inr ⟨y, Int.le_refl _, z, n1, n2, u⟩)) (fun ⟨y', a, b⟩ => Or.inr ⟨y', by omega, b⟩), fun u => u.elim (fun u => Or.inl (Or.inl u)) (fun ⟨y', a, b1, b2, b3, b4⟩ => ?_)⟩
        by_cases x : y' = y
        · subst x
          exact Or.inl (Or.inr b4)
        · exact Or.inr ⟨y', by omega, b1, b2, b3, b4⟩
      rw [x_exec, t_41_5]
      by_cases x : p_by w h c (p_dx y) (p_dy y) = -9
      · obtain ⟨v, e1, e2⟩ := ih M (y + 1) v0 (by omega) (by omega) (by omega)
        refine ⟨v, ?_, skip (fun u => u.1 x) v e2⟩
        rw [x] at q1
        simp (disch := first | assumption | omega) only [k_add, k_sub, k_mul, k_lt, k_eq, k_lt0, k_0lt, k_eq0, k_nat, k_b0, k_b1, k_z1, k_z0, k_o1, k_o0, Int.reduceEq, Int.reduceLT, Int.reduceLE, Int.reduceAdd, Int.reduceMul, Int.reduceNeg, Bool.false_eq_true, or_true, true_or, or_false, false_or, and_true, true_and, and_false, false_and, not_true_eq_false, not_false_eq_true, ↓reduceIte, z_0, z_k, s_I, s_J, s_uI, s_uJ, z, ↓g_oc, ↓jc1 q1]
        exact e1
      · obtain ⟨b1, b2⟩ := br.resolve_left x
        have b3 : p_by w h c (p_dx y) (p_dy y) < 30 := by omega
        have q2 := s_isOpen (L := L) (p := p) (d := d) (J := J) hg hG hC b1 b2
        have hv := hG.2.2.2.1 _ b1 b2
        have gr1 := hC.2.2.2.2.1 _ b1 b2
        by_cases o : gr (p_by w h c (p_dx y) (p_dy y)) ≠ 1 ∧ gr (p_by w h c (p_dx y) (p_dy y)) ≠ 2
        · have o1 : j_z (gr (p_by w h c (p_dx y) (p_dy y)) ≠ 1 ∧ gr (p_by w h c (p_dx y) (p_dy y)) ≠ 2) = j_k 1 := if_pos o
          rw [o1] at q2
          by_cases hgt : gt = true
          · have g1 : j_z (gt = true) = j_k 1 := if_pos hgt
            obtain ⟨v, e1, e2⟩ := ih M (y + 1) (v0 ||| (j_k 1 <<< (j_k (p_by w h c (p_dx y) (p_dy y)) &&& 31))) (by omega) (by omega) (by omega)
            refine ⟨v, ?_, add x ⟨o.1, o.2, Or.inl hgt⟩ v e2⟩
            rw [g1] at e1 ⊢
            simp (disch := first | assumption | omega) only [k_add, k_sub, k_mul, k_lt, k_eq, k_lt0, k_0lt, k_eq0, k_nat, k_b0, k_b1, k_z1, k_z0, k_o1, k_o0, Int.reduceEq, Int.reduceLT, Int.reduceLE, Int.reduceAdd, Int.reduceMul, Int.reduceNeg, Bool.false_eq_true, or_true, true_or, or_false, false_or, and_true, true_and, and_false, false_and, not_true_eq_false, not_false_eq_true, ↓reduceIte, z_0, z_k, s_I, s_J, s_uI, s_uJ, z, ↓g_oc, ↓jc1 q1, x, ↓jc1 q2]
            exact e1
          · have g1 : j_z (gt = true) = j_k 0 := if_neg hgt
            by_cases o4 : gr (p_by w h c (p_dx y) (p_dy y)) = 4
            · obtain ⟨v, e1, e2⟩ := ih M (y + 1) v0 (by omega) (by omega) (by omega)
              refine ⟨v, ?_, skip (fun u => u.2.2.2.elim hgt (fun t => t o4)) v e2⟩
              rw [g1] at e1 ⊢
              simp (disch := first | assumption | omega) only [k_add, k_sub, k_mul, k_lt, k_eq, k_lt0, k_0lt, k_eq0, k_nat, k_b0, k_b1, k_z1, k_z0, k_o1, k_o0, Int.reduceEq, Int.reduceLT, Int.reduceLE, Int.reduceAdd, Int.reduceMul, Int.reduceNeg, Bool.false_eq_true, or_true, true_or, or_false, false_or, and_true, true_and, and_false, false_and, not_true_eq_false, not_false_eq_true, ↓reduceIte, z_0, z_k, s_I, s_J, s_uI, s_uJ, z, ↓g_oc, ↓jc1 q1, x, ↓jc1 q2, ↓g_gP0, ↓g_ia0, hv, o4]
              exact e1
            · obtain ⟨v, e1, e2⟩ := ih M (y + 1) (v0 ||| (j_k 1 <<< (j_k (p_by w h c (p_dx y) (p_dy y)) &&& 31))) (by omega) (by omega) (by omega)
              refine ⟨v, ?_, add x ⟨o.1, o.2, Or.inr o4⟩ v e2⟩
              rw [g1] at e1 ⊢
              simp (disch := first | assumption | omega) only [k_add, k_sub, k_mul, k_lt, k_eq, k_lt0, k_0lt, k_eq0, k_nat, k_b0, k_b1, k_z1, k_z0, k_o1, k_o0, Int.reduceEq, Int.reduceLT, Int.reduceLE, Int.reduceAdd, Int.reduceMul, Int.reduceNeg, Bool.false_eq_true, or_true, true_or, or_false, false_or, and_true, true_and, and_false, false_and, not_true_eq_false, not_false_eq_true, ↓reduceIte, z_0, z_k, s_I, s_J, s_uI, s_uJ, z, ↓g_oc, ↓jc1 q1, x, ↓jc1 q2, ↓g_gP0, ↓g_ia0, hv, o4]
              exact e1
        · have o1 : j_z (gr (p_by w h c (p_dx y) (p_dy y)) ≠ 1 ∧ gr (p_by w h c (p_dx y) (p_dy y)) ≠ 2) = j_k 0 := if_neg o
          rw [o1] at q2
          obtain ⟨v, e1, e2⟩ := ih M (y + 1) v0 (by omega) (by omega) (by omega)
          refine ⟨v, ?_, skip (fun u => o ⟨u.2.1, u.2.2.1⟩) v e2⟩
          simp (disch := first | assumption | omega) only [k_add, k_sub, k_mul, k_lt, k_eq, k_lt0, k_0lt, k_eq0, k_nat, k_b0, k_b1, k_z1, k_z0, k_o1, k_o0, Int.reduceEq, Int.reduceLT, Int.reduceLE, Int.reduceAdd, Int.reduceMul, Int.reduceNeg, Bool.false_eq_true, or_true, true_or, or_false, false_or, and_true, true_and, and_false, false_and, not_true_eq_false, not_false_eq_true, ↓reduceIte, z_0, z_k, s_I, s_J, s_uI, s_uJ, z, ↓g_oc, ↓jc1 q1, x, ↓jc1 q2]
          exact e1
  obtain ⟨v, e1, e2⟩ := loop 4 999999 0 (j_k 0) (Int.le_refl 0) (by decide) (by decide)
  refine ⟨v, ?_, fun i => ?_⟩
  · rw [r_41, t_41_0]
    exact e1
  · rw [e2 i]
    exact ⟨fun u => u.elim (fun u => absurd u mb_0) id, Or.inr⟩
end REACH
