/-! ===== the model's calls: fault, ground ===== -/
/-! positions never beyond the text's end by more than a figure -/
theorem skip_le {T : Int → Int} {s : Int} : ∀ (m : Nat) (q : Int), q ≤ 200 → s ≤ 80 → p_sk T s m q ≤ 200
  | 0, q, h, _ => h
  | m + 1, q, h, hs => by
    unfold p_sk
    split
    · rename_i x
      exact skip_le m (q + 1) (by omega) hs
    · exact h
theorem sk_mx {T : Int → Int} {s q : Int} (hs : s ≤ 80) : p_skip T s q ≤ (if q < s then s else q) := by
  have l : ∀ (m : Nat) (q : Int), p_sk T s m q ≤ (if q < s then s else q) := by
    intro m
    induction m with
    | zero =>
      intro q
      show q ≤ _
      split <;> omega
    | succ m ih =>
      intro q
      unfold p_sk
      split
      · have := ih (q + 1)
        split at this <;> split <;> omega
      · split <;> omega
  exact l _ q
theorem rdC_mx {T : Int → Int} {s : Int} (hs : s ≤ 80) : ∀ (m : Nat) (c q : Int) (gr : Fl), q ≤ 90 → (p_rdC T s m c q gr).2.1 ≤ 90
  | 0, c, q, gr, h => h
  | m + 1, c, q, gr, h => by
    have g := sk_mx (T := T) (s := s) (q := q) hs
    unfold p_rdC
    split
    · show p_skip T s q ≤ 90
      split at g <;> omega
    · rename_i x
      refine rdC_mx hs m _ _ _ ?_
      have : p_skip T s q < s := Decidable.byContradiction (fun u => x (by
        unfold p_sg
        rw [if_neg u]
        decide))
      omega
theorem rdB1_mx {T : Int → Int} {s w h n q : Int} {gr f : Fl} (hw : w ≤ 6) (hh : h ≤ 5) (hs : s ≤ 80) (h0 : q ≤ 90) : (p_rdB1 T s w h gr n f q).2.1 ≤ 93 := by
  unfold p_rdB1
  split
  · show q ≤ 93
    omega
  · split
    · show q + 1 ≤ 93
      omega
    · split
      · show q + 2 ≤ 93
        omega
      · split
        · show q + 3 ≤ 93
          omega
        · show q + 2 ≤ 93
          omega
theorem rdB_mx {T : Int → Int} {s w h : Int} {gr : Fl} (hw : w ≤ 6) (hh : h ≤ 5) (hs : s ≤ 80) : ∀ (m : Nat) (n q : Int) (kd f : Fl), q ≤ 90 → (p_rdB T s w h gr m n q kd f).2.1 ≤ 150
  | 0, n, q, kd, f, h0 => by
    have g := sk_mx (T := T) (s := s) (q := q) hs
    show p_skip T s q ≤ 150
    split at g <;> omega
  | m + 1, n, q, kd, f, h0 => by
    have g := sk_mx (T := T) (s := s) (q := q) hs
    unfold p_rdB
    split
    · show p_skip T s q ≤ 150
      split at g <;> omega
    · rename_i x
      split
      · rename_i y
        have b : (p_rdB1 T s w h gr n f (p_skip T s q)).2.1 ≤ s + 3 := by
          unfold p_rdB1 at y ⊢
          split at y
          · exact absurd y Bool.false_ne_true
          · rename_i z1
            have : p_skip T s q < s := Decidable.byContradiction (fun u => z1 (by
              unfold p_sg
              rw [if_neg u]
              decide))
            split at y
            · exact absurd y Bool.false_ne_true
            · rename_i z2
              split at y
              · exact absurd y Bool.false_ne_true
              · rename_i z3
                split at y
                · rename_i z4
                  rw [if_neg z1, if_neg z2, if_neg z3, if_pos z4]
                  show p_skip T s q + 3 ≤ s + 3
                  omega
                · exact absurd y Bool.false_ne_true
        exact rdB_mx hw hh hs m _ _ _ _ (by omega)
      · have b : (p_rdB1 T s w h gr n f (p_skip T s q)).2.1 ≤ p_skip T s q + 3 := by
          unfold p_rdB1
          split
          · show p_skip T s q ≤ p_skip T s q + 3
            omega
          · split
            · show p_skip T s q + 1 ≤ p_skip T s q + 3
              omega
            · split
              · show p_skip T s q + 2 ≤ p_skip T s q + 3
                omega
              · split
                · show p_skip T s q + 3 ≤ p_skip T s q + 3
                  omega
                · show p_skip T s q + 2 ≤ p_skip T s q + 3
                  omega
        show (p_rdB1 T s w h gr n f (p_skip T s q)).2.1 ≤ 150
        split at g <;> omega
theorem p_fault_rg {T : Int → Int} {s : Int} (hs : s ≤ 80) : -9 ≤ p_faultV T s ∧ p_faultV T s < 1000 := by
  have g := sk_mx (T := T) (s := s) (q := 0) hs
  have g0 : 0 ≤ p_skip T s 0 := skip_ge _ _
  have gm : p_skip T s 0 ≤ 80 := by split at g <;> omega
  have G : 0 ≤ (p_rdG T s).2.1 ∧ (p_rdG T s).2.1 ≤ 83 := by
    unfold p_rdG
    split
    · split
      · show 0 ≤ p_skip T s 0 + 1 ∧ p_skip T s 0 + 1 ≤ 83
        omega
      · split
        · show 0 ≤ p_skip T s 0 + 2 ∧ p_skip T s 0 + 2 ≤ 83
          omega
        · show 0 ≤ p_skip T s 0 + 3 ∧ p_skip T s 0 + 3 ≤ 83
          omega
    · show 0 ≤ p_skip T s 0 ∧ p_skip T s 0 ≤ 83
      omega
  unfold p_faultV
  split
  · rename_i y
    have gr := G_rg (T := T) (s := s) (q := p_skip T s 0) y
    rw [← rdG_G] at gr
    have C1 := rdC_pos (T := T) (s := s) ((p_rdG T s).2.2.1 * (p_rdG T s).2.2.2).toNat 0 (p_rdG T s).2.1 (fun _ => 0) G.1
    have C2 := rdC_mx (T := T) (s := s) hs ((p_rdG T s).2.2.1 * (p_rdG T s).2.2.2).toNat 0 (p_rdG T s).2.1 (fun _ => 0) (by omega)
    have C1' : 0 ≤ (p_rC T s).2.1 := C1
    have C2' : (p_rC T s).2.1 ≤ 90 := C2
    split
    · have B1 := rdB_pos (T := T) (s := s) (w := (p_rdG T s).2.2.1) (h := (p_rdG T s).2.2.2) (gr := (p_rC T s).2.2) 4 0 (p_rC T s).2.1 (fun _ => 0) p_clr C1'
      have B2 := rdB_mx (T := T) (s := s) (w := (p_rdG T s).2.2.1) (h := (p_rdG T s).2.2.2) (gr := (p_rC T s).2.2) gr.1.2 gr.2.1.2 hs 4 0 (p_rC T s).2.1 (fun _ => 0) p_clr (by omega)
      have B1' : 0 ≤ (p_rB T s).2.1 := B1
      have B2' : (p_rB T s).2.1 ≤ 150 := B2
      split <;> omega
    · omega
  · omega
section MCALLS10
variable {L p d : Nat} {I : Nat → Nat → Int32} {J : Nat → Nat → Int64} {A : Ast}
theorem n_fault (hx : iM I J A) {t : Int} (h1 : -2147483648 ≤ t) (h2 : t < 2147483648) : mc L p I J (d + 6) 158 [.ref 87, .int (j_k t)] (p_faultC t A) := by
  have a1 := n_isText (L := L) (p := p) (d := d + 3) (I := I) (J := J) h1 h2
  have e := (r_158 (d + 5) (ST L p I J) 87 (j_k t)).trans (t_158_0 _ _ _ _ _)
  unfold p_faultC
  by_cases x : 0 ≤ t ∧ t ≤ 3
  · have z : j_z (0 ≤ t ∧ t ≤ 3) = j_k 1 := if_pos x
    rw [z] at a1
    obtain ⟨t1, t2⟩ := x
    have t3 : t < 4 := by omega
    have hr := (hx.2.2.1 t t1 t3).1
    have br := hx.1.2.2.2.2.1 t t1 t3
    have br1 := br.1
    have br2 := br.2
    by_cases y : a_tz A t = -1
    · rw [miss_m ⟨t1, t3⟩ y, if_neg (show ¬ (p_meets 1 A).1 = 0 from show ¬ (-3 : Int) = 0 by decide)]
      obtain ⟨I', e1, e2, e3⟩ := n_meets (L := L) (p := p) (d := d + 4) hx (q := 1) (by decide) (by decide)
      simp (disch := first | assumption | omega) only [k_add, k_sub, k_mul, k_lt, k_eq, k_lt0, k_0lt, k_eq0, k_nat, k_b0, k_b1, k_z1, k_z0, k_o1, k_o0, Int.reduceEq, Int.reduceLT, Int.reduceLE, Int.reduceAdd, Int.reduceMul, Int.reduceNeg, Bool.false_eq_true, or_true, true_or, or_false, false_or, and_true, true_and, and_false, false_and, not_true_eq_false, not_false_eq_true, ↓reduceIte, z_0, z_k, s_I, s_J, s_uI, s_uJ, ↓jc1 a1, ↓c_gP_87_8, ↓c_ia_92, hr, y, ↓c_oc_87, ↓jc1 e1] at e
      exact .meets e2 e3 e
    · have y2 : ¬ a_tz A t < 0 := by omega
      rw [miss_ok ⟨t1, t3⟩ y, if_pos (show (0 : Int) = 0 from rfl)]
      obtain ⟨I', f1, f2', -⟩ := n_faultOf (L := L) (p := p) (d := d) (t := t) hx t1 t3 y
      simp (disch := first | assumption | omega) only [k_add, k_sub, k_mul, k_lt, k_eq, k_lt0, k_0lt, k_eq0, k_nat, k_b0, k_b1, k_z1, k_z0, k_o1, k_o0, Int.reduceEq, Int.reduceLT, Int.reduceLE, Int.reduceAdd, Int.reduceMul, Int.reduceNeg, Bool.false_eq_true, or_true, true_or, or_false, false_or, and_true, true_and, and_false, false_and, not_true_eq_false, not_false_eq_true, ↓reduceIte, z_0, z_k, s_I, s_J, s_uI, s_uJ, ↓jc1 a1, ↓c_gP_87_8, ↓c_ia_92, hr, y2, ↓c_oc_87, ↓jc1 f1] at e
      exact .of ⟨I', e, f2'.x hx, f2'.n⟩
  · have z : j_z (0 ≤ t ∧ t ≤ 3) = j_k 0 := if_neg x
    rw [z] at a1
    rw [miss_no (by omega), if_neg (show ¬ (-1 : Int) = 0 by decide)]
    simp (disch := first | assumption | omega) only [k_add, k_sub, k_mul, k_lt, k_eq, k_lt0, k_0lt, k_eq0, k_nat, k_b0, k_b1, k_z1, k_z0, k_o1, k_o0, Int.reduceEq, Int.reduceLT, Int.reduceLE, Int.reduceAdd, Int.reduceMul, Int.reduceNeg, Bool.false_eq_true, or_true, true_or, or_false, false_or, and_true, true_and, and_false, false_and, not_true_eq_false, not_false_eq_true, ↓reduceIte, z_0, z_k, s_I, s_J, s_uI, s_uJ, ↓jc1 a1] at e
    exact .no hx e
theorem n_ground (hx : iM I J A) {t : Int} (h1 : -2147483648 ≤ t) (h2 : t < 2147483648) (hok : okA (p_groundC t A).2) : mc L p I J (d + 6) 159 [.ref 87, .int (j_k t)] (p_groundC t A) := by
  have a1 := n_isText (L := L) (p := p) (d := d + 3) (I := I) (J := J) h1 h2
  have e := (r_159 (d + 5) (ST L p I J) 87 (j_k t)).trans (t_159_0 _ _ _ _ _)
  unfold p_groundC at hok ⊢
  by_cases x : 0 ≤ t ∧ t ≤ 3
  · have z : j_z (0 ≤ t ∧ t ≤ 3) = j_k 1 := if_pos x
    rw [z] at a1
    obtain ⟨t1, t2⟩ := x
    have t3 : t < 4 := by omega
    have hr := (hx.2.2.1 t t1 t3).1
    have br := hx.1.2.2.2.2.1 t t1 t3
    have br1 := br.1
    have br2 := br.2
    by_cases y : a_tz A t = -1
    · rw [miss_m ⟨t1, t3⟩ y, if_neg (show ¬ (p_meets 1 A).1 = 0 from show ¬ (-3 : Int) = 0 by decide)]
      obtain ⟨I', e1, e2, e3⟩ := n_meets (L := L) (p := p) (d := d + 4) hx (q := 1) (by decide) (by decide)
      simp (disch := first | assumption | omega) only [k_add, k_sub, k_mul, k_lt, k_eq, k_lt0, k_0lt, k_eq0, k_nat, k_b0, k_b1, k_z1, k_z0, k_o1, k_o0, Int.reduceEq, Int.reduceLT, Int.reduceLE, Int.reduceAdd, Int.reduceMul, Int.reduceNeg, Bool.false_eq_true, or_true, true_or, or_false, false_or, and_true, true_and, and_false, false_and, not_true_eq_false, not_false_eq_true, ↓reduceIte, z_0, z_k, s_I, s_J, s_uI, s_uJ, ↓jc1 a1, ↓c_gP_87_8, ↓c_ia_92, hr, y, ↓c_oc_87, ↓jc1 e1] at e
      exact .meets e2 e3 e
    · have y2 : ¬ a_tz A t < 0 := by omega
      rw [miss_ok ⟨t1, t3⟩ y, if_pos (show (0 : Int) = 0 from rfl)] at hok ⊢
      obtain ⟨I0, f1, f2', f3⟩ := n_faultOf (L := L) (p := p) (d := d) (t := t) hx t1 t3 y
      have frng : -9 ≤ p_faultV (a_tv A t) (a_tz A t) ∧ p_faultV (a_tv A t) (a_tz A t) < 1000 := p_fault_rg (T := a_tv A t) (s := a_tz A t) br2
      by_cases v : p_faultV (a_tv A t) (a_tz A t) = -9
      · rw [if_pos v] at hok ⊢
        have hS := f3 v
        generalize (p_rdG (a_tv A t) (a_tz A t)).2.2.1 = w at *
        generalize (p_rdG (a_tv A t) (a_tz A t)).2.2.2 = h at *
        generalize (p_rC (a_tv A t) (a_tz A t)).2.2 = gr at *
        generalize (p_rB (a_tv A t) (a_tz A t)).2.2.1 = n at *
        generalize (p_rB (a_tv A t) (a_tz A t)).2.2.2.1 = kd at *
        generalize (p_rB (a_tv A t) (a_tz A t)).2.2.2.2 = f at *
        obtain ⟨s1, s2, s3, s4, s5, s6, s7, s8⟩ := hS
        obtain ⟨ok1, ok2, ok3⟩ := hok
        have ok1' : okC w h (w * h) n gr kd := ok1
        obtain ⟨bN0, bN1, -⟩ := bd_N ok1'
        have n0 := ok1'.2.2.1
        have n4 := ok1'.2.2.2.1
        rw [v] at f1
        have i0 := f2'
        obtain ⟨I3, hI3⟩ : ∃ I3, I3 = u2 (u2 (u2 I0 87 10 (j_k w)) 87 11 (j_k (w * h))) 87 13 (j_k n) := ⟨_, rfl⟩
        have k3 : ∀ k, k ≠ 10 → k ≠ 11 → k ≠ 13 → I3 87 k = I0 87 k := fun k a b c => by rw [hI3, u2_k c, u2_k b, u2_k a]
        have r3 : ∀ r, r ≠ 87 → I3 r = I0 r := fun r a => by rw [hI3]; funext m; rw [u2_r a, u2_r a, u2_r a]
        have w3 : I3 87 10 = j_k w := by rw [hI3, u2_k (by decide), u2_k (by decide), u2_ss]
        have N3 : I3 87 11 = j_k (w * h) := by rw [hI3, u2_k (by decide), u2_ss]
        have m3 : I3 87 13 = j_k n := by rw [hI3, u2_ss]
        -- the cells
        have l1 : ∀ (m M : Nat) (k : Int) (I1 : Nat → Nat → Int32), 0 ≤ k → k + m = w * h → (∀ r, r ≠ 94 → I1 r = I3 r) → (∀ c : Int, 0 ≤ c → c < k → I1 94 c.toNat = I3 96 c.toNat) → ∃ I2, j_exec k_159 h_159 (j_run (d + 5)) (M + m + 1) 63 [some (.ref 87), some (.int (j_k t)), some (.int (j_k k))] [] (ST L p I1 J) = j_exec k_159 h_159 (j_run (d + 5)) M 130 [some (.ref 87), some (.int (j_k t)), some (.int (j_k 0))] [] (ST L p (u2 (u2 (u2 (u2 (u2 I2 99 0 (j_k 0)) 99 1 (j_k (-9))) 99 2 (j_k (-9))) 99 3 (j_k (-9))) 99 4 (j_k (-9))) J) ∧ (∀ r, r ≠ 94 → I2 r = I3 r) ∧ ∀ c : Int, 0 ≤ c → c < w * h → I2 94 c.toNat = I3 96 c.toNat := by
          intro m
          induction m with
          | zero =>
            intro M k I1 k1 k2 g1 g2
            have z : ¬ k < w * h := by omega
            have N1 : I1 87 11 = j_k (w * h) := by rw [g1 87 (by decide)]; exact N3
            have p0 := n_place (L := L) (p := p) (d := d + 4) (I := I1) (J := J) (k := 0) (j := 0) (v := j_k 0) (by decide) (by decide) (by decide) (by decide)
            have p1 := n_place (L := L) (p := p) (d := d + 4) (I := u2 I1 99 0 (j_k 0)) (J := J) (k := 0) (j := 1) (v := j_k (-9)) (by decide) (by decide) (by decide) (by decide)
            have p2 := n_place (L := L) (p := p) (d := d + 4) (I := u2 (u2 I1 99 0 (j_k 0)) 99 1 (j_k (-9))) (J := J) (k := 0) (j := 2) (v := j_k (-9)) (by decide) (by decide) (by decide) (by decide)
            have p3 := n_place (L := L) (p := p) (d := d + 4) (I := u2 (u2 (u2 I1 99 0 (j_k 0)) 99 1 (j_k (-9))) 99 2 (j_k (-9))) (J := J) (k := 0) (j := 3) (v := j_k (-9)) (by decide) (by decide) (by decide) (by decide)
            have p4 := n_place (L := L) (p := p) (d := d + 4) (I := u2 (u2 (u2 (u2 I1 99 0 (j_k 0)) 99 1 (j_k (-9))) 99 2 (j_k (-9))) 99 3 (j_k (-9))) (J := J) (k := 0) (j := 4) (v := j_k (-9)) (by decide) (by decide) (by decide) (by decide)
            have q0 : ((13 : Int) * 0 + 0).toNat = 0 := rfl
            have q1 : ((13 : Int) * 0 + 1).toNat = 1 := rfl
            have q2 : ((13 : Int) * 0 + 2).toNat = 2 := rfl
            have q3 : ((13 : Int) * 0 + 3).toNat = 3 := rfl
            have q4 : ((13 : Int) * 0 + 4).toNat = 4 := rfl
            rw [q0] at p0
            rw [q1] at p1
            rw [q2] at p2
            rw [q3] at p3
            rw [q4] at p4
            refine ⟨I1, ?_, g1, fun c c1 c2 => g2 c c1 (by omega)⟩
            have hs : s_I (ST L p I1 J) 87 11 = j_k (w * h) := N1
            have kz : ¬ j_k k < j_k (w * h) := by rw [k_lt (by omega) (by omega) (by omega) (by omega)]; exact z
            rw [x_exec, t_159_63, c_oc_87, hs, if_neg kz, c_oc_87, jc0 p0, c_oc_87, jc0 p1, c_oc_87, jc0 p2, c_oc_87, jc0 p3, c_oc_87, jc0 p4]
          | succ m ih =>
            intro M k I1 k1 k2 g1 g2
            have z : k < w * h := by omega
            have k30 : k < 30 := by omega
            have N1 : I1 87 11 = j_k (w * h) := by rw [g1 87 (by decide)]; exact N3
            obtain ⟨I2, a, b⟩ := ih M (k + 1) (u2 I1 94 k.toNat (I1 96 k.toNat)) (by omega) (by omega) (fun r hr => by rw [← g1 r hr]; funext m; rw [u2_r hr]) (fun c c1 c2 => by
              by_cases y : c = k
              · subst y
                rw [u2_ss, g1 96 (by decide)]
              · rw [u2_k (by omega)]
                exact g2 c c1 (by omega))
            refine ⟨I2, ?_, b⟩
            rw [show M + (m + 1) + 1 = M + m + 1 + 1 by omega, x_exec, t_159_63]
            simp (disch := first | assumption | omega) only [k_add, k_sub, k_mul, k_lt, k_eq, k_lt0, k_0lt, k_eq0, k_nat, k_b0, k_b1, k_z1, k_z0, k_o1, k_o0, Int.reduceEq, Int.reduceLT, Int.reduceLE, Int.reduceAdd, Int.reduceMul, Int.reduceNeg, Bool.false_eq_true, or_true, true_or, or_false, false_or, and_true, true_and, and_false, false_and, not_true_eq_false, not_false_eq_true, ↓reduceIte, z_0, z_k, s_I, s_J, s_uI, s_uJ, ↓c_oc_87, N1, z, ↓c_gP_87_12, ↓c_gP_87_21, ↓c_ia_96, ↓c_is_94]
            exact a
        -- kinds, places
        have l2 : ∀ (m M : Nat) (k : Int) (I4 I1 : Nat → Nat → Int32), 0 ≤ k → k + m = 4 → I4 87 13 = j_k n → (∀ r, r ≠ 95 → r ≠ 99 → I1 r = I4 r) → (∀ j : Int, 0 ≤ j → j < k → I1 95 j.toNat = I4 97 j.toNat) → (∀ j : Int, 0 ≤ j → (j < 5 ∨ 13 ≤ j) → I1 99 j.toNat = I4 99 j.toNat) → (∀ i : Int, 0 ≤ i → i < k → i < n → I1 99 (5 + i).toNat = I4 98 i.toNat) → (∀ i : Int, 0 ≤ i → i < k → I1 99 (9 + i).toNat = j_k 0) → ∃ I2, j_exec k_159 h_159 (j_run (d + 5)) (M + m + 1) 130 [some (.ref 87), some (.int (j_k t)), some (.int (j_k k))] [] (ST L p I1 J) = j_exec k_159 h_159 (j_run (d + 5)) M 192 [some (.ref 87), some (.int (j_k t)), some (.int (j_k 0))] [] (ST L p I2 J) ∧ (∀ r, r ≠ 95 → r ≠ 99 → I2 r = I4 r) ∧ (∀ j : Int, 0 ≤ j → j < 4 → I2 95 j.toNat = I4 97 j.toNat) ∧ (∀ j : Int, 0 ≤ j → (j < 5 ∨ 13 ≤ j) → I2 99 j.toNat = I4 99 j.toNat) ∧ (∀ i : Int, 0 ≤ i → i < n → I2 99 (5 + i).toNat = I4 98 i.toNat) ∧ (∀ i : Int, 0 ≤ i → i < 4 → I2 99 (9 + i).toNat = j_k 0) := by
          intro m
          induction m with
          | zero =>
            intro M k I4 I1 k1 k2 g0 g1 g2 g3 g4 g5
            have z : ¬ k < 4 := by omega
            refine ⟨I1, ?_, g1, fun j j1 j2 => g2 j j1 (by omega), g3, fun i i1 i2 => g4 i i1 (by omega) i2, fun i i1 i2 => g5 i i1 (by omega)⟩
            rw [x_exec, t_159_130]
            simp (disch := first | assumption | omega) only [k_add, k_sub, k_mul, k_lt, k_eq, k_lt0, k_0lt, k_eq0, k_nat, k_b0, k_b1, k_z1, k_z0, k_o1, k_o0, Int.reduceEq, Int.reduceLT, Int.reduceLE, Int.reduceAdd, Int.reduceMul, Int.reduceNeg, Bool.false_eq_true, or_true, true_or, or_false, false_or, and_true, true_and, and_false, false_and, not_true_eq_false, not_false_eq_true, ↓reduceIte, z_0, z_k, s_I, s_J, s_uI, s_uJ, z]
          | succ m ih =>
            intro M k I4 I1 k1 k2 g0 g1 g2 g3 g4 g5
            have z : k < 4 := by omega
            have n13 : u2 I1 95 k.toNat (I1 97 k.toNat) 87 13 = j_k n := by
              rw [u2_r (by decide), g1 87 (by decide) (by decide)]
              exact g0
            have STP : ∀ c : Int32, (k < n → c = I1 98 k.toNat) → ∃ I2, j_exec k_159 h_159 (j_run (d + 5)) (M + m + 1) 130 [some (.ref 87), some (.int (j_k t)), some (.int (j_k (k + 1)))] [] (ST L p (u2 (u2 (u2 I1 95 k.toNat (I1 97 k.toNat)) 99 (13 * 0 + (5 + k)).toNat c) 99 (13 * 0 + (9 + k)).toNat (j_k 0)) J) = j_exec k_159 h_159 (j_run (d + 5)) M 192 [some (.ref 87), some (.int (j_k t)), some (.int (j_k 0))] [] (ST L p I2 J) ∧ (∀ r, r ≠ 95 → r ≠ 99 → I2 r = I4 r) ∧ (∀ j : Int, 0 ≤ j → j < 4 → I2 95 j.toNat = I4 97 j.toNat) ∧ (∀ j : Int, 0 ≤ j → (j < 5 ∨ 13 ≤ j) → I2 99 j.toNat = I4 99 j.toNat) ∧ (∀ i : Int, 0 ≤ i → i < n → I2 99 (5 + i).toNat = I4 98 i.toNat) ∧ (∀ i : Int, 0 ≤ i → i < 4 → I2 99 (9 + i).toNat = j_k 0) := fun c hc => ih M (k + 1) I4 _ (by omega) (by omega) g0 (fun r a b => by rw [← g1 r a b]; funext m; rw [u2_r b, u2_r b, u2_r a]) (fun j j1 j2 => by
              rw [u2_r (by decide), u2_r (by decide)]
              by_cases y : j = k
              · subst y
                rw [u2_ss, g1 97 (by decide) (by decide)]
              · rw [u2_k (by omega)]
                exact g2 j j1 (by omega)) (fun j j1 j2 => by
              rw [u2_k (by omega), u2_k (by omega), u2_r (by decide)]
              exact g3 j j1 j2) (fun i i1 i2 i3 => by
              rw [u2_k (by omega)]
              by_cases y : i = k
              · subst y
                rw [show (13 * 0 + (5 + i)).toNat = (5 + i).toNat by omega, u2_ss, hc i3, g1 98 (by decide) (by decide)]
              · rw [u2_k (by omega), u2_r (by decide)]
                exact g4 i i1 (by omega) i3) (fun i i1 i2 => by
              by_cases y : i = k
              · subst y
                rw [show (13 * 0 + (9 + i)).toNat = (9 + i).toNat by omega, u2_ss]
              · rw [u2_k (by omega), u2_k (by omega), u2_r (by decide)]
                exact g5 i i1 (by omega))
            by_cases y : k < n
            · have p5 := n_place (L := L) (p := p) (d := d + 4) (I := u2 I1 95 k.toNat (I1 97 k.toNat)) (J := J) (k := 0) (j := 5 + k) (v := I1 98 k.toNat) (by decide) (by decide) (by omega) (by omega)
              have p9 := n_place (L := L) (p := p) (d := d + 4) (I := u2 (u2 I1 95 k.toNat (I1 97 k.toNat)) 99 (13 * 0 + (5 + k)).toNat (I1 98 k.toNat)) (J := J) (k := 0) (j := 9 + k) (v := j_k 0) (by decide) (by decide) (by omega) (by omega)
              obtain ⟨I2, a, b⟩ := STP (I1 98 k.toNat) (fun _ => rfl)
              refine ⟨I2, ?_, b⟩
              rw [show M + (m + 1) + 1 = M + m + 1 + 1 by omega, x_exec, t_159_130]
              simp (disch := first | assumption | omega) only [k_add, k_sub, k_mul, k_lt, k_eq, k_lt0, k_0lt, k_eq0, k_nat, k_b0, k_b1, k_z1, k_z0, k_o1, k_o0, Int.reduceEq, Int.reduceLT, Int.reduceLE, Int.reduceAdd, Int.reduceMul, Int.reduceNeg, Bool.false_eq_true, or_true, true_or, or_false, false_or, and_true, true_and, and_false, false_and, not_true_eq_false, not_false_eq_true, ↓reduceIte, z_0, z_k, s_I, s_J, s_uI, s_uJ, z, ↓c_gP_87_14, ↓c_gP_87_22, ↓c_ia_97, ↓c_is_95, ↓c_oc_87, n13, y, ↓c_gP_87_23, ↓c_ia_98, u2_r, ↓jc0 p5, ↓jc0 p9]
              exact a
            · have p5 := n_place (L := L) (p := p) (d := d + 4) (I := u2 I1 95 k.toNat (I1 97 k.toNat)) (J := J) (k := 0) (j := 5 + k) (v := j_k (-9)) (by decide) (by decide) (by omega) (by omega)
              have p9 := n_place (L := L) (p := p) (d := d + 4) (I := u2 (u2 I1 95 k.toNat (I1 97 k.toNat)) 99 (13 * 0 + (5 + k)).toNat (j_k (-9))) (J := J) (k := 0) (j := 9 + k) (v := j_k 0) (by decide) (by decide) (by omega) (by omega)
              obtain ⟨I2, a, b⟩ := STP (j_k (-9)) (fun u => absurd u y)
              refine ⟨I2, ?_, b⟩
              rw [show M + (m + 1) + 1 = M + m + 1 + 1 by omega, x_exec, t_159_130]
              simp (disch := first | assumption | omega) only [k_add, k_sub, k_mul, k_lt, k_eq, k_lt0, k_0lt, k_eq0, k_nat, k_b0, k_b1, k_z1, k_z0, k_o1, k_o0, Int.reduceEq, Int.reduceLT, Int.reduceLE, Int.reduceAdd, Int.reduceMul, Int.reduceNeg, Bool.false_eq_true, or_true, true_or, or_false, false_or, and_true, true_and, and_false, false_and, not_true_eq_false, not_false_eq_true, ↓reduceIte, z_0, z_k, s_I, s_J, s_uI, s_uJ, z, ↓c_gP_87_14, ↓c_gP_87_22, ↓c_ia_97, ↓c_is_95, ↓c_oc_87, n13, y, ↓jc0 p5, ↓jc0 p9]
              exact a
        -- what is kept
        have l3 : ∀ (m M : Nat) (k : Int) (I4 I1 : Nat → Nat → Int32), 0 ≤ k → k + m = 3 → m < M → I4 87 13 = j_k n → (∀ r, r ≠ 100 → I1 r = I4 r) → (∀ j : Int, 0 ≤ j → j < k → I1 100 j.toNat = j_k 0) → ∃ I2, j_exec k_159 h_159 (j_run (d + 5)) M 192 [some (.ref 87), some (.int (j_k t)), some (.int (j_k k))] [] (ST L p I1 J) = some (some (.int (j_k n)), ST L p I2 J) ∧ (∀ r, r ≠ 100 → I2 r = I4 r) ∧ ∀ j : Int, 0 ≤ j → j < 3 → I2 100 j.toNat = j_k 0 := by
          intro m
          induction m with
          | zero =>
            intro M k I4 I1 k1 k2 hM g0 g1 g2
            obtain ⟨M, rfl⟩ : ∃ q, M = q + 1 := ⟨M - 1, by omega⟩
            have z : ¬ k < 3 := by omega
            have n13 : I1 87 13 = j_k n := by rw [g1 87 (by decide)]; exact g0
            refine ⟨I1, ?_, g1, fun j j1 j2 => g2 j j1 (by omega)⟩
            rw [x_exec, t_159_192]
            simp (disch := first | assumption | omega) only [k_add, k_sub, k_mul, k_lt, k_eq, k_lt0, k_0lt, k_eq0, k_nat, k_b0, k_b1, k_z1, k_z0, k_o1, k_o0, Int.reduceEq, Int.reduceLT, Int.reduceLE, Int.reduceAdd, Int.reduceMul, Int.reduceNeg, Bool.false_eq_true, or_true, true_or, or_false, false_or, and_true, true_and, and_false, false_and, not_true_eq_false, not_false_eq_true, ↓reduceIte, z_0, z_k, s_I, s_J, s_uI, s_uJ, z, ↓c_oc_87, n13]
          | succ m ih =>
            intro M k I4 I1 k1 k2 hM g0 g1 g2
            obtain ⟨M, rfl⟩ : ∃ q, M = q + 1 := ⟨M - 1, by omega⟩
            have z : k < 3 := by omega
            have cb := fun Ks : Sto → Option Rr => c_bs_100 (L := L) (p := p) (I := I1) (J := J) (Ks := Ks) (v := j_k 0) k1 z (Or.inl kk0)
            obtain ⟨I2, a, b⟩ := ih M (k + 1) I4 (u2 I1 100 k.toNat (j_k 0)) (by omega) (by omega) (by omega) g0 (fun r hr => by rw [← g1 r hr]; funext m; rw [u2_r hr]) (fun j j1 j2 => by
              by_cases y : j = k
              · subst y
                rw [u2_ss]
              · rw [u2_k (by omega)]
                exact g2 j j1 (by omega))
            refine ⟨I2, ?_, b⟩
            rw [x_exec, t_159_192]
            simp (disch := first | assumption | omega) only [k_add, k_sub, k_mul, k_lt, k_eq, k_lt0, k_0lt, k_eq0, k_nat, k_b0, k_b1, k_z1, k_z0, k_o1, k_o0, Int.reduceEq, Int.reduceLT, Int.reduceLE, Int.reduceAdd, Int.reduceMul, Int.reduceNeg, Bool.false_eq_true, or_true, true_or, or_false, false_or, and_true, true_and, and_false, false_and, not_true_eq_false, not_false_eq_true, ↓reduceIte, z_0, z_k, s_I, s_J, s_uI, s_uJ, z, ↓c_gP_87_25, ↓cb]
            exact a
        obtain ⟨M, hM, hM2⟩ : ∃ M, M = 999999 ∧ 5000 < M := ⟨999999, rfl, by decide⟩
        rw [← hM] at e
        obtain ⟨M1, hM1, hM3⟩ : ∃ q, M = (q + 4 + 1) + (w * h).toNat + 1 ∧ 100 < q := ⟨M - 6 - (w * h).toNat, by omega, by omega⟩
        simp (disch := first | assumption | omega) only [k_add, k_sub, k_mul, k_lt, k_eq, k_lt0, k_0lt, k_eq0, k_nat, k_b0, k_b1, k_z1, k_z0, k_o1, k_o0, Int.reduceEq, Int.reduceLT, Int.reduceLE, Int.reduceAdd, Int.reduceMul, Int.reduceNeg, Bool.false_eq_true, or_true, true_or, or_false, false_or, and_true, true_and, and_false, false_and, not_true_eq_false, not_false_eq_true, ↓reduceIte, z_0, z_k, s_I, s_J, s_uI, s_uJ, ↓jc1 a1, ↓c_gP_87_8, ↓c_ia_92, hr, y2, ↓c_oc_87, ↓jc1 f1, ↓c_lt_87, s1, s2, s3, u2_k] at e
        rw [← hI3, hM1] at e
        obtain ⟨I4, b1, b2, b3⟩ := l1 (w * h).toNat (M1 + 4 + 1) 0 I3 (Int.le_refl 0) (by omega) (fun _ _ => rfl) (fun c c1 c2 => absurd c2 (by omega))
        obtain ⟨I5, hI5⟩ : ∃ I5, I5 = u2 (u2 (u2 (u2 (u2 I4 99 0 (j_k 0)) 99 1 (j_k (-9))) 99 2 (j_k (-9))) 99 3 (j_k (-9))) 99 4 (j_k (-9)) := ⟨_, rfl⟩
        rw [← hI5] at b1
        have r5 : ∀ r, r ≠ 94 → r ≠ 99 → I5 r = I3 r := fun r a b => by
          rw [← b2 r a, hI5]
          funext m
          rw [u2_r b, u2_r b, u2_r b, u2_r b, u2_r b]
        have k5 : ∀ j : Int, 13 ≤ j → I5 99 j.toNat = I3 99 j.toNat := fun j a => by
          rw [hI5, u2_k (by omega), u2_k (by omega), u2_k (by omega), u2_k (by omega), u2_k (by omega), b2 99 (by decide)]
        have f5 : ∀ j : Int, 0 ≤ j → j < 5 → I5 99 j.toNat = j_k (f j) := fun j a b => by
          rw [s7 j a (by omega)]
          rcases (show j = 0 ∨ j = 1 ∨ j = 2 ∨ j = 3 ∨ j = 4 by omega) with rfl | rfl | rfl | rfl | rfl
          · rw [hI5]
            show u2 _ 99 4 _ 99 0 = j_k 0
            rw [u2_k (by decide), u2_k (by decide), u2_k (by decide), u2_k (by decide), u2_ss]
          · rw [hI5]
            show u2 _ 99 4 _ 99 1 = j_k (-9)
            rw [u2_k (by decide), u2_k (by decide), u2_k (by decide), u2_ss]
          · rw [hI5]
            show u2 _ 99 4 _ 99 2 = j_k (-9)
            rw [u2_k (by decide), u2_k (by decide), u2_ss]
          · rw [hI5]
            show u2 _ 99 4 _ 99 3 = j_k (-9)
            rw [u2_k (by decide), u2_ss]
          · rw [hI5]
            exact u2_ss _ _ _ _
        obtain ⟨I6, c1, c2, c3, c4, c5, c6⟩ := l2 4 M1 0 I5 I5 (Int.le_refl 0) (by decide) (by rw [r5 87 (by decide) (by decide)]; exact m3) (fun _ _ _ => rfl) (fun j j1 j2 => absurd j2 (by omega)) (fun _ _ _ => rfl) (fun i i1 i2 => absurd i2 (by omega)) (fun i i1 i2 => absurd i2 (by omega))
        have n6 : I6 87 13 = j_k n := by rw [c2 87 (by decide) (by decide), r5 87 (by decide) (by decide)]; exact m3
        obtain ⟨I7, d1, d2, d3⟩ := l3 3 M1 0 I6 I6 (Int.le_refl 0) (by decide) (by omega) n6 (fun _ _ => rfl) (fun j j1 j2 => absurd j2 (by omega))
        have r7 : ∀ r, r ≠ 87 → r ≠ 94 → r ≠ 95 → r ≠ 99 → r ≠ 100 → I7 r = I0 r := fun r x1 x2 x3 x4 x5 => by rw [d2 r x5, c2 r x3 x4, r5 r x2 x4, r3 r x1]
        have o7 : ∀ k, I7 87 k = I3 87 k := fun k => by rw [d2 87 (by decide), c2 87 (by decide) (by decide), r5 87 (by decide) (by decide)]
        have x7 := hx.2.2.2.2.2.2
        have q7 : ∀ r, r ≠ 87 → r ≠ 94 → r ≠ 95 → r ≠ 96 → r ≠ 97 → r ≠ 98 → r ≠ 99 → r ≠ 100 → I7 r = I r := fun r y1 y2 y3 y4 y5 y6 y7 y8 => by rw [r7 r y1 y2 y3 y7 y8, i0.1 r y1 y4 y5 y6]
        refine .of ⟨I7, e.trans (b1.trans (c1.trans d1)), ⟨⟨ok1, ok2, ok3⟩, hx.2.1.cg (q7 89 (by decide) (by decide) (by decide) (by decide) (by decide) (by decide) (by decide) (by decide)) (q7 90 (by decide) (by decide) (by decide) (by decide) (by decide) (by decide) (by decide) (by decide)), hx.2.2.1.cg (q7 92 (by decide) (by decide) (by decide) (by decide) (by decide) (by decide) (by decide) (by decide)) (q7 93 (by decide) (by decide) (by decide) (by decide) (by decide) (by decide) (by decide) (by decide)), ⟨ok1, by rw [o7]; exact w3, by rw [o7]; exact N3, by rw [o7]; exact m3, fun k k1 k2 => ?_, fun c z1 z2 => ?_⟩, ⟨fun j j1 j2 => ?_, fun i i1 i2 => ?_, fun i i1 i2 => ?_⟩, fun k k1 k2 => ⟨?_, fun u => absurd u Bool.false_ne_true⟩, by rw [o7, k3 2 (by decide) (by decide) (by decide), i0.2 2 (by decide)]; exact x7.1, x7.2.1, x7.2.2.1, by rw [o7, k3 0 (by decide) (by decide) (by decide), i0.2 0 (by decide)]; exact x7.2.2.2.1, fun q q1 q2 => by rw [q7 88 (by decide) (by decide) (by decide) (by decide) (by decide) (by decide) (by decide) (by decide)]; exact x7.2.2.2.2 q q1 q2⟩, fun r hq => q7 r (by omega) (by omega) (by omega) (by omega) (by omega) (by omega) (by omega) (by omega)⟩
        · have k2' : k < n := k2
          rw [d2 95 (by decide), c3 k k1 (by omega), r5 97 (by decide) (by decide), r3 97 (by decide)]
          exact s5 k k1 k2'
        · have z2' : c < w * h := z2
          rw [d2 94 (by decide), c2 94 (by decide) (by decide), hI5, u2_r (by decide), u2_r (by decide), u2_r (by decide), u2_r (by decide), u2_r (by decide), b3 c z1 z2', r3 96 (by decide)]
          exact (s4 c z1 z2').1
        · rw [d2 99 (by decide), show (13 * 0 + j).toNat = j.toNat by omega, c4 j j1 (by omega)]
          exact f5 j j1 j2
        · have i2' : i < n := i2
          rw [d2 99 (by decide), show (13 * 0 + (5 + i)).toNat = (5 + i).toNat by omega, c5 i i1 i2', r5 98 (by decide) (by decide), r3 98 (by decide)]
          exact (s6 i i1 i2').1
        · have i2' : i < n := i2
          rw [d2 99 (by decide), show (13 * 0 + (9 + i)).toNat = (9 + i).toNat by omega, c6 i i1 (by omega)]
          show j_k 0 = j_k (f (9 + i))
          rw [s8 i i1 i2']
        · rw [d3 k k1 k2]
          rfl
      · rw [if_neg v]
        simp (disch := first | assumption | omega) only [k_add, k_sub, k_mul, k_lt, k_eq, k_lt0, k_0lt, k_eq0, k_nat, k_b0, k_b1, k_z1, k_z0, k_o1, k_o0, Int.reduceEq, Int.reduceLT, Int.reduceLE, Int.reduceAdd, Int.reduceMul, Int.reduceNeg, Bool.false_eq_true, or_true, true_or, or_false, false_or, and_true, true_and, and_false, false_and, not_true_eq_false, not_false_eq_true, ↓reduceIte, z_0, z_k, s_I, s_J, s_uI, s_uJ, ↓jc1 a1, ↓c_gP_87_8, ↓c_ia_92, hr, y2, ↓c_oc_87, ↓jc1 f1, v] at e
        exact .of ⟨I0, e, f2'.x hx, f2'.n⟩
  · have z : j_z (0 ≤ t ∧ t ≤ 3) = j_k 0 := if_neg x
    rw [z] at a1
    rw [miss_no (by omega), if_neg (show ¬ (-1 : Int) = 0 by decide)]
    simp (disch := first | assumption | omega) only [k_add, k_sub, k_mul, k_lt, k_eq, k_lt0, k_0lt, k_eq0, k_nat, k_b0, k_b1, k_z1, k_z0, k_o1, k_o0, Int.reduceEq, Int.reduceLT, Int.reduceLE, Int.reduceAdd, Int.reduceMul, Int.reduceNeg, Bool.false_eq_true, or_true, true_or, or_false, false_or, and_true, true_and, and_false, false_and, not_true_eq_false, not_false_eq_true, ↓reduceIte, z_0, z_k, s_I, s_J, s_uI, s_uJ, ↓jc1 a1] at e
    exact .no hx e
end MCALLS10
