/-! ===== the model's calls: gather, part, stone, drive ===== -/
section MCALLS4
variable {L p d : Nat} {I : Nat → Nat → Int32} {J : Nat → Nat → Int64} {A : Ast}
/-- a flock copied to be tried -/
theorem n_tried (hx : iM I J A) : ∃ I', j_run (d + 2) 164 [.ref 87, .int (j_k 0), .int (j_k 4)] (ST L p I J) = some (none, ST L p I' J) ∧ iM1 I' 4 (a_gn A) (a_fl A) ∧ frT 30 4 I I' := by
  have hf := hx.2.2.2.2.1
  have n4 := hx.n4
  obtain ⟨I1, c1, c2, c3⟩ := n_copy (L := L) (p := p) (d := d) (I := I) (J := J) (k := 0) (l := 4) (by decide) (by decide) (by decide) (by decide) (by decide)
  exact ⟨I1, c1, ⟨fun j j1 j2 => by rw [c2 j j1 (by omega)]; exact hf.1 j j1 j2, fun j j1 j2 => by rw [c2 _ (by omega) (by omega)]; exact hf.2.1 j j1 j2, fun j j1 j2 => by rw [c2 _ (by omega) (by omega)]; exact hf.2.2 j j1 j2⟩, c3.t (Int.le_refl _)⟩
theorem n_gather (hx : iM I J A) : mc L p I J (d + 10) 210 [.ref 87] (p_gather A) := by
  have hC := hx.1.1
  have ho := hx.1.2.1
  have hm := hx.2.2.2.1
  have hf := hx.2.2.2.2.1
  have n0 := hC.2.2.1
  have n4 := hC.2.2.2.1
  have hw := hm.2.1
  have hN := hm.2.2.1
  have hn := hm.2.2.2.1
  have hk := hm.2.2.2.2.1
  have hg := hm.2.2.2.2.2
  obtain ⟨bN0, bN1, -⟩ := bd_N hC
  have hlr0 := lost_rg (n := a_gn A) (f := a_fl A) n0
  have inr : ∀ (t M : Nat) (c : Int) (s : Int × Int) (I1 : Nat → Nat → Int32), 0 ≤ c → c + t = 4 * a_gn A → t < M → iM1 I1 4 (a_gn A) (a_fl A) → frT 30 4 I I1 → (s.1 = -9 ∨ (0 ≤ s.1 ∧ s.1 < 16)) → 0 ≤ s.2 → s.2 ≤ 160 → ∃ I2, j_exec k_210 h_210 (j_run (d + 9)) M 13 [some (.ref 87), some (.int (j_k s.1)), some (.int (j_k s.2)), some (.int (j_k c)), none] [] (ST L p I1 J) = (if (p_loop (p_gatB (a_gw A) (a_gh A) (a_gr A) (a_gn A) (a_kd A) (a_fl A) (p_lost (a_gn A) (a_fl A))) t c s).1 = -9 then some (some (.int (j_k (-9))), ST L p I2 J) else some (some (.int (j_k (p_loop (p_gatB (a_gw A) (a_gh A) (a_gr A) (a_gn A) (a_kd A) (a_fl A) (p_lost (a_gn A) (a_fl A))) t c s).1)), ST L p (u2 I2 87 2 (j_k (p_loop (p_gatB (a_gw A) (a_gh A) (a_gr A) (a_gn A) (a_kd A) (a_fl A) (p_lost (a_gn A) (a_fl A))) t c s).2)) J)) ∧ frT 30 4 I I2 := by
    intro t
    induction t with
    | zero =>
      intro M c s I1 c1 c2 hM hf1 fr sr s0 s1
      obtain ⟨M, rfl⟩ : ∃ q, M = q + 1 := ⟨M - 1, by omega⟩
      have C := n_codes (L := L) (p := p) (d := d + 8) (I := I1) (J := J) (fr.m hm).2.2.2.1
      have z : ¬ c < 4 * a_gn A := by omega
      refine ⟨I1, ?_, fr⟩
      rw [x_exec, t_210_13, p_loop0]
      by_cases y : s.1 = -9
      · rw [if_pos y]
        simp (disch := first | assumption | omega) only [k_add, k_sub, k_mul, k_lt, k_eq, k_lt0, k_0lt, k_eq0, k_nat, k_b0, k_b1, k_z1, k_z0, k_o1, k_o0, Int.reduceEq, Int.reduceLT, Int.reduceLE, Int.reduceAdd, Int.reduceMul, Int.reduceNeg, Bool.false_eq_true, or_true, true_or, or_false, false_or, and_true, true_and, and_false, false_and, not_true_eq_false, not_false_eq_true, ↓reduceIte, z_0, z_k, s_I, s_J, s_uI, s_uJ, ↓c_oc_87, ↓jc1 C, z, y]
      · rw [if_neg y]
        have T := n_tells (L := L) (p := p) (d := d + 8) (I := I1) (J := J) (v := j_k s.2) (x := j_k s.1)
        simp (disch := first | assumption | omega) only [k_add, k_sub, k_mul, k_lt, k_eq, k_lt0, k_0lt, k_eq0, k_nat, k_b0, k_b1, k_z1, k_z0, k_o1, k_o0, Int.reduceEq, Int.reduceLT, Int.reduceLE, Int.reduceAdd, Int.reduceMul, Int.reduceNeg, Bool.false_eq_true, or_true, true_or, or_false, false_or, and_true, true_and, and_false, false_and, not_true_eq_false, not_false_eq_true, ↓reduceIte, z_0, z_k, s_I, s_J, s_uI, s_uJ, ↓c_oc_87, ↓jc1 C, z, y, ↓jc1 T]
    | succ t ih =>
      intro M c s I1 c1 c2 hM hf1 fr sr s0 s1
      obtain ⟨M, rfl⟩ : ∃ q, M = q + 1 := ⟨M - 1, by omega⟩
      have C := n_codes (L := L) (p := p) (d := d + 8) (I := I1) (J := J) (fr.m hm).2.2.2.1
      have z : c < 4 * a_gn A := by omega
      obtain ⟨I2, d1, d2, d3⟩ := n_driven (L := L) (p := p) (d := d) (J := J) (q := 4) (c := c) (by decide) (by decide) (fr.m hm) hf1 ho (by decide) c1 z
      have fr2 : frT 30 4 I I2 := fr.tr (d3.le (by decide) (by decide))
      have hf2 : iM1 I2 4 (a_gn A) (a_fl A) := d3.f n4 (by decide) (by decide) hf1
      rw [x_exec, t_210_13, p_loopS]
      cases hd : p_drive (a_gw A) (a_gh A) (a_gr A) (a_gn A) (a_kd A) (a_fl A) c with
      | none =>
        rw [hd] at d1
        have d1' : j_run (d + 9) 202 [.ref 87, .int (j_k 4), .int (j_k c)] (ST L p I1 J) = some (some (.int (j_k 0)), ST L p I2 J) := d1
        have B : p_gatB (a_gw A) (a_gh A) (a_gr A) (a_gn A) (a_kd A) (a_fl A) (p_lost (a_gn A) (a_fl A)) c s = s := by
          unfold p_gatB
          rw [hd]
        rw [B]
        obtain ⟨I3, r1, r2⟩ := ih M (c + 1) s I2 (by omega) (by omega) (by omega) hf2 fr2 sr s0 s1
        refine ⟨I3, ?_, r2⟩
        simp (disch := first | assumption | omega) only [k_add, k_sub, k_mul, k_lt, k_eq, k_lt0, k_0lt, k_eq0, k_nat, k_b0, k_b1, k_z1, k_z0, k_o1, k_o0, Int.reduceEq, Int.reduceLT, Int.reduceLE, Int.reduceAdd, Int.reduceMul, Int.reduceNeg, Bool.false_eq_true, or_true, true_or, or_false, false_or, and_true, true_and, and_false, false_and, not_true_eq_false, not_false_eq_true, ↓reduceIte, z_0, z_k, s_I, s_J, s_uI, s_uJ, ↓c_oc_87, ↓jc1 C, z, ↓jc1 d1']
        exact r1
      | some f' =>
        rw [hd] at d1 d2
        have d1' : j_run (d + 9) 202 [.ref 87, .int (j_k 4), .int (j_k c)] (ST L p I1 J) = some (some (.int (j_k 1)), ST L p I2 J) := d1
        have d2' : iM1 I2 5 (a_gn A) f' := d2
        have ho' := drive_ok hC ho c1 z hd
        have hn2 := (fr2.m hm).2.2.2.1
        have l5 := n_lost (L := L) (p := p) (d := d + 6) (I := I2) (J := J) (k := 5) (by decide) (by decide) hn2 n0 n4 d2' ho' bN1
        have l0 := n_lost (L := L) (p := p) (d := d + 6) (I := I2) (J := J) (k := 0) (by decide) (by decide) hn2 n0 n4 (fr2.f n4 (by decide) (by decide) hf) ho bN1
        have hlr5 := lost_rg (n := a_gn A) (f := f') n0
        have ar := apart_rg hC ho'
        by_cases u : p_lost (a_gn A) (a_fl A) < p_lost (a_gn A) f'
        · have B : p_gatB (a_gw A) (a_gh A) (a_gr A) (a_gn A) (a_kd A) (a_fl A) (p_lost (a_gn A) (a_fl A)) c s = s := by
            unfold p_gatB
            rw [hd]
            exact if_pos u
          rw [B]
          obtain ⟨I3, r1, r2⟩ := ih M (c + 1) s I2 (by omega) (by omega) (by omega) hf2 fr2 sr s0 s1
          refine ⟨I3, ?_, r2⟩
          simp (disch := first | assumption | omega) only [k_add, k_sub, k_mul, k_lt, k_eq, k_lt0, k_0lt, k_eq0, k_nat, k_b0, k_b1, k_z1, k_z0, k_o1, k_o0, Int.reduceEq, Int.reduceLT, Int.reduceLE, Int.reduceAdd, Int.reduceMul, Int.reduceNeg, Bool.false_eq_true, or_true, true_or, or_false, false_or, and_true, true_and, and_false, false_and, not_true_eq_false, not_false_eq_true, ↓reduceIte, z_0, z_k, s_I, s_J, s_uI, s_uJ, ↓c_oc_87, ↓jc1 C, z, ↓jc1 d1', ↓jc1 l5, ↓jc1 l0, u]
          exact r1
        · have ap := n_apartF (L := L) (p := p) (d := d + 6) (J := J) (q := 5) (by decide) (by decide) (fr2.m hm) d2' ho'
          by_cases v : s.1 = -9
          · have B : p_gatB (a_gw A) (a_gh A) (a_gr A) (a_gn A) (a_kd A) (a_fl A) (p_lost (a_gn A) (a_fl A)) c s = (c, p_apart (a_gw A) (a_gn A) f') := by
              unfold p_gatB
              rw [hd]
              exact (if_neg u).trans (if_pos (Or.inl v))
            rw [B]
            obtain ⟨I3, r1, r2⟩ := ih M (c + 1) (c, p_apart (a_gw A) (a_gn A) f') I2 (by omega) (by omega) (by omega) hf2 fr2 (Or.inr ⟨c1, by omega⟩) ar.1 (by omega)
            refine ⟨I3, ?_, r2⟩
            simp (disch := first | assumption | omega) only [k_add, k_sub, k_mul, k_lt, k_eq, k_lt0, k_0lt, k_eq0, k_nat, k_b0, k_b1, k_z1, k_z0, k_o1, k_o0, Int.reduceEq, Int.reduceLT, Int.reduceLE, Int.reduceAdd, Int.reduceMul, Int.reduceNeg, Bool.false_eq_true, or_true, true_or, or_false, false_or, and_true, true_and, and_false, false_and, not_true_eq_false, not_false_eq_true, ↓reduceIte, z_0, z_k, s_I, s_J, s_uI, s_uJ, ↓c_oc_87, ↓jc1 C, z, ↓jc1 d1', ↓jc1 l5, ↓jc1 l0, u, ↓jc1 ap, v]
            exact r1
          · by_cases x : p_apart (a_gw A) (a_gn A) f' < s.2
            · have B : p_gatB (a_gw A) (a_gh A) (a_gr A) (a_gn A) (a_kd A) (a_fl A) (p_lost (a_gn A) (a_fl A)) c s = (c, p_apart (a_gw A) (a_gn A) f') := by
                unfold p_gatB
                rw [hd]
                exact (if_neg u).trans (if_pos (Or.inr x))
              rw [B]
              obtain ⟨I3, r1, r2⟩ := ih M (c + 1) (c, p_apart (a_gw A) (a_gn A) f') I2 (by omega) (by omega) (by omega) hf2 fr2 (Or.inr ⟨c1, by omega⟩) ar.1 (by omega)
              refine ⟨I3, ?_, r2⟩
              simp (disch := first | assumption | omega) only [k_add, k_sub, k_mul, k_lt, k_eq, k_lt0, k_0lt, k_eq0, k_nat, k_b0, k_b1, k_z1, k_z0, k_o1, k_o0, Int.reduceEq, Int.reduceLT, Int.reduceLE, Int.reduceAdd, Int.reduceMul, Int.reduceNeg, Bool.false_eq_true, or_true, true_or, or_false, false_or, and_true, true_and, and_false, false_and, not_true_eq_false, not_false_eq_true, ↓reduceIte, z_0, z_k, s_I, s_J, s_uI, s_uJ, ↓c_oc_87, ↓jc1 C, z, ↓jc1 d1', ↓jc1 l5, ↓jc1 l0, u, ↓jc1 ap, v, x]
              exact r1
            · have B : p_gatB (a_gw A) (a_gh A) (a_gr A) (a_gn A) (a_kd A) (a_fl A) (p_lost (a_gn A) (a_fl A)) c s = s := by
                unfold p_gatB
                rw [hd]
                exact (if_neg u).trans (if_neg (fun t => t.elim v x))
              rw [B]
              obtain ⟨I3, r1, r2⟩ := ih M (c + 1) s I2 (by omega) (by omega) (by omega) hf2 fr2 sr s0 s1
              refine ⟨I3, ?_, r2⟩
              simp (disch := first | assumption | omega) only [k_add, k_sub, k_mul, k_lt, k_eq, k_lt0, k_0lt, k_eq0, k_nat, k_b0, k_b1, k_z1, k_z0, k_o1, k_o0, Int.reduceEq, Int.reduceLT, Int.reduceLE, Int.reduceAdd, Int.reduceMul, Int.reduceNeg, Bool.false_eq_true, or_true, true_or, or_false, false_or, and_true, true_and, and_false, false_and, not_true_eq_false, not_false_eq_true, ↓reduceIte, z_0, z_k, s_I, s_J, s_uI, s_uJ, ↓c_oc_87, ↓jc1 C, z, ↓jc1 d1', ↓jc1 l5, ↓jc1 l0, u, ↓jc1 ap, v, x]
              exact r1
  obtain ⟨I1, t1, t2, t3⟩ := n_tried (L := L) (p := p) (d := d + 7) hx
  obtain ⟨M, hM, hM2⟩ : ∃ M, M = 999999 ∧ 5000 < M := ⟨999999, rfl, by decide⟩
  obtain ⟨I2, r1, r2⟩ := inr (4 * a_gn A).toNat M 0 (-9, 0) I1 (Int.le_refl 0) (by omega) (by omega) t2 t3 (Or.inl rfl) (Int.le_refl 0) (by decide)
  have e := (r_210 (d + 9) (ST L p I J) 87).trans (t_210_0 _ _ _ _)
  rw [← hM, c_oc_87, jc0 t1] at e
  unfold p_gather
  have S : p_loop (p_gatB (a_gw A) (a_gh A) (a_gr A) (a_gn A) (a_kd A) (a_fl A) (p_lost (a_gn A) (a_fl A))) (4 * a_gn A).toNat 0 (-9, 0) = p_gatS A := rfl
  rw [S] at r1
  have e2 := e.trans r1
  by_cases y : (p_gatS A).1 = -9
  · rw [if_pos y] at e2 ⊢
    exact .of ⟨_, e2, r2.x hx, r2.n⟩
  · rw [if_neg y] at e2 ⊢
    refine .of ⟨_, e2, (r2.x hx).told, fun r a => ?_⟩
    rw [fr_told r a]
    exact r2.n r a
theorem n_part (hx : iM I J A) {k j : Int} (h1 : -2147483648 ≤ k) (h2 : k < 2147483648) (h3 : -2147483648 ≤ j) (h4 : j < 2147483648) : mc L p I J (d + 10) 211 [.ref 87, .int (j_k k), .int (j_k j)] (p_part k j A) := by
  have hC := hx.1.1
  have ho := hx.1.2.1
  have hm := hx.2.2.2.1
  have hf := hx.2.2.2.2.1
  have n0 := hC.2.2.1
  have n4 := hC.2.2.2.1
  have hw := hm.2.1
  have hN := hm.2.2.1
  have hn := hm.2.2.2.1
  have hk := hm.2.2.2.2.1
  have hg := hm.2.2.2.2.2
  obtain ⟨bN0, bN1, -⟩ := bd_N hC
  have a1 := n_isBeast (L := L) (p := p) (d := d + 7) (J := J) hn n0 n4 h1 h2
  have a2 := n_isBeast (L := L) (p := p) (d := d + 7) (J := J) hn n0 n4 h3 h4
  have e := (r_211 (d + 9) (ST L p I J) 87 (j_k k) (j_k j)).trans (t_211_0 _ _ _ _ _ _)
  unfold p_part
  by_cases x : 0 ≤ k ∧ k ≤ a_gn A - 1
  · have z : j_z (0 ≤ k ∧ k ≤ a_gn A - 1) = j_k 1 := if_pos x
    rw [z] at a1
    by_cases y : 0 ≤ j ∧ j ≤ a_gn A - 1
    · have z2 : j_z (0 ≤ j ∧ j ≤ a_gn A - 1) = j_k 1 := if_pos y
      rw [z2] at a2
      obtain ⟨k1, k2⟩ := x
      obtain ⟨j1, j2⟩ := y
      have k3 : k < a_gn A := by omega
      have j3 : j < a_gn A := by omega
      by_cases w : k = j
      · rw [if_neg (fun u => u.2.2 w)]
        simp (disch := first | assumption | omega) only [k_add, k_sub, k_mul, k_lt, k_eq, k_lt0, k_0lt, k_eq0, k_nat, k_b0, k_b1, k_z1, k_z0, k_o1, k_o0, Int.reduceEq, Int.reduceLT, Int.reduceLE, Int.reduceAdd, Int.reduceMul, Int.reduceNeg, Bool.false_eq_true, or_true, true_or, or_false, false_or, and_true, true_and, and_false, false_and, not_true_eq_false, not_false_eq_true, ↓reduceIte, z_0, z_k, s_I, s_J, s_uI, s_uJ, ↓c_oc_87, ↓jc1 a1, ↓jc1 a2] at e
        rw [if_pos w] at e
        exact .no hx e
      · rw [if_pos ⟨⟨k1, k3⟩, ⟨j1, j3⟩, w⟩]
        have inr : ∀ (t M : Nat) (c : Int) (s : Int × Int) (I1 : Nat → Nat → Int32), 0 ≤ c → c + t = 4 * a_gn A → t < M → iM1 I1 4 (a_gn A) (a_fl A) → frT 30 4 I I1 → (s.1 = -9 ∨ (0 ≤ s.1 ∧ s.1 < 16)) → 0 ≤ s.2 → s.2 ≤ 160 → ∃ I2, j_exec k_211 h_211 (j_run (d + 9)) M 41 [some (.ref 87), some (.int (j_k k)), some (.int (j_k j)), some (.int (j_k s.1)), some (.int (j_k s.2)), some (.int (j_k 5)), some (.int (j_k c)), none] [] (ST L p I1 J) = (if (p_loop (p_parB (a_gw A) (a_gh A) (a_gr A) (a_gn A) (a_kd A) (a_fl A) k j) t c s).1 = -9 then some (some (.int (j_k (-9))), ST L p I2 J) else some (some (.int (j_k (p_loop (p_parB (a_gw A) (a_gh A) (a_gr A) (a_gn A) (a_kd A) (a_fl A) k j) t c s).1)), ST L p (u2 I2 87 2 (j_k (p_loop (p_parB (a_gw A) (a_gh A) (a_gr A) (a_gn A) (a_kd A) (a_fl A) k j) t c s).2)) J)) ∧ frT 30 4 I I2 := by
          intro t
          induction t with
          | zero =>
            intro M c s I1 c1 c2 hM hf1 fr sr s0 s1
            obtain ⟨M, rfl⟩ : ∃ q, M = q + 1 := ⟨M - 1, by omega⟩
            have C := n_codes (L := L) (p := p) (d := d + 8) (I := I1) (J := J) (fr.m hm).2.2.2.1
            have z : ¬ c < 4 * a_gn A := by omega
            refine ⟨I1, ?_, fr⟩
            rw [x_exec, t_211_41, p_loop0]
            by_cases y : s.1 = -9
            · rw [if_pos y]
              simp (disch := first | assumption | omega) only [k_add, k_sub, k_mul, k_lt, k_eq, k_lt0, k_0lt, k_eq0, k_nat, k_b0, k_b1, k_z1, k_z0, k_o1, k_o0, Int.reduceEq, Int.reduceLT, Int.reduceLE, Int.reduceAdd, Int.reduceMul, Int.reduceNeg, Bool.false_eq_true, or_true, true_or, or_false, false_or, and_true, true_and, and_false, false_and, not_true_eq_false, not_false_eq_true, ↓reduceIte, z_0, z_k, s_I, s_J, s_uI, s_uJ, ↓c_oc_87, ↓jc1 C, z, y]
            · rw [if_neg y]
              have T := n_tells (L := L) (p := p) (d := d + 8) (I := I1) (J := J) (v := j_k s.2) (x := j_k s.1)
              simp (disch := first | assumption | omega) only [k_add, k_sub, k_mul, k_lt, k_eq, k_lt0, k_0lt, k_eq0, k_nat, k_b0, k_b1, k_z1, k_z0, k_o1, k_o0, Int.reduceEq, Int.reduceLT, Int.reduceLE, Int.reduceAdd, Int.reduceMul, Int.reduceNeg, Bool.false_eq_true, or_true, true_or, or_false, false_or, and_true, true_and, and_false, false_and, not_true_eq_false, not_false_eq_true, ↓reduceIte, z_0, z_k, s_I, s_J, s_uI, s_uJ, ↓c_oc_87, ↓jc1 C, z, y, ↓jc1 T]
          | succ t ih =>
            intro M c s I1 c1 c2 hM hf1 fr sr s0 s1
            obtain ⟨M, rfl⟩ : ∃ q, M = q + 1 := ⟨M - 1, by omega⟩
            have C := n_codes (L := L) (p := p) (d := d + 8) (I := I1) (J := J) (fr.m hm).2.2.2.1
            have z : c < 4 * a_gn A := by omega
            obtain ⟨I2, d1, d2, d3⟩ := n_driven (L := L) (p := p) (d := d) (J := J) (q := 4) (c := c) (by decide) (by decide) (fr.m hm) hf1 ho (by decide) c1 z
            have fr2 : frT 30 4 I I2 := fr.tr (d3.le (by decide) (by decide))
            have hf2 : iM1 I2 4 (a_gn A) (a_fl A) := d3.f n4 (by decide) (by decide) hf1
            rw [x_exec, t_211_41, p_loopS]
            cases hd : p_drive (a_gw A) (a_gh A) (a_gr A) (a_gn A) (a_kd A) (a_fl A) c with
            | none =>
              rw [hd] at d1
              have d1' : j_run (d + 9) 202 [.ref 87, .int (j_k 4), .int (j_k c)] (ST L p I1 J) = some (some (.int (j_k 0)), ST L p I2 J) := d1
              have B : p_parB (a_gw A) (a_gh A) (a_gr A) (a_gn A) (a_kd A) (a_fl A) k j c s = s := by
                unfold p_parB
                rw [hd]
              rw [B]
              obtain ⟨I3, r1, r2⟩ := ih M (c + 1) s I2 (by omega) (by omega) (by omega) hf2 fr2 sr s0 s1
              refine ⟨I3, ?_, r2⟩
              simp (disch := first | assumption | omega) only [k_add, k_sub, k_mul, k_lt, k_eq, k_lt0, k_0lt, k_eq0, k_nat, k_b0, k_b1, k_z1, k_z0, k_o1, k_o0, Int.reduceEq, Int.reduceLT, Int.reduceLE, Int.reduceAdd, Int.reduceMul, Int.reduceNeg, Bool.false_eq_true, or_true, true_or, or_false, false_or, and_true, true_and, and_false, false_and, not_true_eq_false, not_false_eq_true, ↓reduceIte, z_0, z_k, s_I, s_J, s_uI, s_uJ, ↓c_oc_87, ↓jc1 C, z, ↓jc1 d1']
              exact r1
            | some f' =>
              rw [hd] at d1 d2
              have d1' : j_run (d + 9) 202 [.ref 87, .int (j_k 4), .int (j_k c)] (ST L p I1 J) = some (some (.int (j_k 1)), ST L p I2 J) := d1
              have d2' : iM1 I2 5 (a_gn A) f' := d2
              have ho' := drive_ok hC ho c1 z hd
              have lk := n_isLost (L := L) (p := p) (d := d + 7) (I := I2) (J := J) (k := 5) (by decide) (by decide) d2' ho' bN1 k1 k3 n4
              have lj := n_isLost (L := L) (p := p) (d := d + 7) (I := I2) (J := J) (k := 5) (by decide) (by decide) d2' ho' bN1 j1 j3 n4
              by_cases u : f' (5 + k) = -9
              · have u1 : j_z (f' (5 + k) = -9) = j_k 1 := if_pos u
                rw [u1] at lk
                have B : p_parB (a_gw A) (a_gh A) (a_gr A) (a_gn A) (a_kd A) (a_fl A) k j c s = s := by
                  unfold p_parB
                  rw [hd]
                  exact if_pos (Or.inl u)
                rw [B]
                obtain ⟨I3, r1, r2⟩ := ih M (c + 1) s I2 (by omega) (by omega) (by omega) hf2 fr2 sr s0 s1
                refine ⟨I3, ?_, r2⟩
                simp (disch := first | assumption | omega) only [k_add, k_sub, k_mul, k_lt, k_eq, k_lt0, k_0lt, k_eq0, k_nat, k_b0, k_b1, k_z1, k_z0, k_o1, k_o0, Int.reduceEq, Int.reduceLT, Int.reduceLE, Int.reduceAdd, Int.reduceMul, Int.reduceNeg, Bool.false_eq_true, or_true, true_or, or_false, false_or, and_true, true_and, and_false, false_and, not_true_eq_false, not_false_eq_true, ↓reduceIte, z_0, z_k, s_I, s_J, s_uI, s_uJ, ↓c_oc_87, ↓jc1 C, z, ↓jc1 d1', ↓jc1 lk]
                exact r1
              · have u1 : j_z (f' (5 + k) = -9) = j_k 0 := if_neg u
                rw [u1] at lk
                by_cases u' : f' (5 + j) = -9
                · have u1' : j_z (f' (5 + j) = -9) = j_k 1 := if_pos u'
                  rw [u1'] at lj
                  have B : p_parB (a_gw A) (a_gh A) (a_gr A) (a_gn A) (a_kd A) (a_fl A) k j c s = s := by
                    unfold p_parB
                    rw [hd]
                    exact if_pos (Or.inr u')
                  rw [B]
                  obtain ⟨I3, r1, r2⟩ := ih M (c + 1) s I2 (by omega) (by omega) (by omega) hf2 fr2 sr s0 s1
                  refine ⟨I3, ?_, r2⟩
                  simp (disch := first | assumption | omega) only [k_add, k_sub, k_mul, k_lt, k_eq, k_lt0, k_0lt, k_eq0, k_nat, k_b0, k_b1, k_z1, k_z0, k_o1, k_o0, Int.reduceEq, Int.reduceLT, Int.reduceLE, Int.reduceAdd, Int.reduceMul, Int.reduceNeg, Bool.false_eq_true, or_true, true_or, or_false, false_or, and_true, true_and, and_false, false_and, not_true_eq_false, not_false_eq_true, ↓reduceIte, z_0, z_k, s_I, s_J, s_uI, s_uJ, ↓c_oc_87, ↓jc1 C, z, ↓jc1 d1', ↓jc1 lk, ↓jc1 lj]
                  exact r1
                · have u1' : j_z (f' (5 + j) = -9) = j_k 0 := if_neg u'
                  rw [u1'] at lj
                  have hck := (ho'.1 k k1 k3).resolve_left u
                  have hcj := (ho'.1 j j1 j3).resolve_left u'
                  have o := n_off (L := L) (p := p) (d := d + 7) (J := J) (fr2.m hm).2.1 hC hck.1 hck.2 hcj.1 hcj.2
                  have orr := off_rg hC hck.1 hck.2 hcj.1 hcj.2
                  have vk := n_v (L := L) (p := p) (d := d + 8) (I := I2) (J := J) (k := 5) (j := 5 + k) (by decide) (by decide) (by omega) (by omega)
                  have vj := n_v (L := L) (p := p) (d := d + 8) (I := I2) (J := J) (k := 5) (j := 5 + j) (by decide) (by decide) (by omega) (by omega)
                  rw [d2'.2.1 k k1 k3] at vk
                  rw [d2'.2.1 j j1 j3] at vj
                  by_cases v : s.1 = -9
                  · have B : p_parB (a_gw A) (a_gh A) (a_gr A) (a_gn A) (a_kd A) (a_fl A) k j c s = (c, p_off (a_gw A) (f' (5 + k)) (f' (5 + j))) := by
                      unfold p_parB
                      rw [hd]
                      exact (if_neg (fun t => t.elim u u')).trans (if_pos (Or.inl v))
                    rw [B]
                    obtain ⟨I3, r1, r2⟩ := ih M (c + 1) (c, p_off (a_gw A) (f' (5 + k)) (f' (5 + j))) I2 (by omega) (by omega) (by omega) hf2 fr2 (Or.inr ⟨c1, by omega⟩) orr.1 (by show p_off _ _ _ ≤ 160; omega)
                    refine ⟨I3, ?_, r2⟩
                    simp (disch := first | assumption | omega) only [k_add, k_sub, k_mul, k_lt, k_eq, k_lt0, k_0lt, k_eq0, k_nat, k_b0, k_b1, k_z1, k_z0, k_o1, k_o0, Int.reduceEq, Int.reduceLT, Int.reduceLE, Int.reduceAdd, Int.reduceMul, Int.reduceNeg, Bool.false_eq_true, or_true, true_or, or_false, false_or, and_true, true_and, and_false, false_and, not_true_eq_false, not_false_eq_true, ↓reduceIte, z_0, z_k, s_I, s_J, s_uI, s_uJ, ↓c_oc_87, ↓jc1 C, z, ↓jc1 d1', ↓jc1 lk, ↓jc1 lj, ↓jc1 vk, ↓jc1 vj, ↓jc1 o, v]
                    exact r1
                  · by_cases x : s.2 < p_off (a_gw A) (f' (5 + k)) (f' (5 + j))
                    · have B : p_parB (a_gw A) (a_gh A) (a_gr A) (a_gn A) (a_kd A) (a_fl A) k j c s = (c, p_off (a_gw A) (f' (5 + k)) (f' (5 + j))) := by
                        unfold p_parB
                        rw [hd]
                        exact (if_neg (fun t => t.elim u u')).trans (if_pos (Or.inr x))
                      rw [B]
                      obtain ⟨I3, r1, r2⟩ := ih M (c + 1) (c, p_off (a_gw A) (f' (5 + k)) (f' (5 + j))) I2 (by omega) (by omega) (by omega) hf2 fr2 (Or.inr ⟨c1, by omega⟩) orr.1 (by show p_off _ _ _ ≤ 160; omega)
                      refine ⟨I3, ?_, r2⟩
                      simp (disch := first | assumption | omega) only [k_add, k_sub, k_mul, k_lt, k_eq, k_lt0, k_0lt, k_eq0, k_nat, k_b0, k_b1, k_z1, k_z0, k_o1, k_o0, Int.reduceEq, Int.reduceLT, Int.reduceLE, Int.reduceAdd, Int.reduceMul, Int.reduceNeg, Bool.false_eq_true, or_true, true_or, or_false, false_or, and_true, true_and, and_false, false_and, not_true_eq_false, not_false_eq_true, ↓reduceIte, z_0, z_k, s_I, s_J, s_uI, s_uJ, ↓c_oc_87, ↓jc1 C, z, ↓jc1 d1', ↓jc1 lk, ↓jc1 lj, ↓jc1 vk, ↓jc1 vj, ↓jc1 o, v, x]
                      exact r1
                    · have B : p_parB (a_gw A) (a_gh A) (a_gr A) (a_gn A) (a_kd A) (a_fl A) k j c s = s := by
                        unfold p_parB
                        rw [hd]
                        exact (if_neg (fun t => t.elim u u')).trans (if_neg (fun t => t.elim v x))
                      rw [B]
                      obtain ⟨I3, r1, r2⟩ := ih M (c + 1) s I2 (by omega) (by omega) (by omega) hf2 fr2 sr s0 s1
                      refine ⟨I3, ?_, r2⟩
                      simp (disch := first | assumption | omega) only [k_add, k_sub, k_mul, k_lt, k_eq, k_lt0, k_0lt, k_eq0, k_nat, k_b0, k_b1, k_z1, k_z0, k_o1, k_o0, Int.reduceEq, Int.reduceLT, Int.reduceLE, Int.reduceAdd, Int.reduceMul, Int.reduceNeg, Bool.false_eq_true, or_true, true_or, or_false, false_or, and_true, true_and, and_false, false_and, not_true_eq_false, not_false_eq_true, ↓reduceIte, z_0, z_k, s_I, s_J, s_uI, s_uJ, ↓c_oc_87, ↓jc1 C, z, ↓jc1 d1', ↓jc1 lk, ↓jc1 lj, ↓jc1 vk, ↓jc1 vj, ↓jc1 o, v, x]
                      exact r1
        obtain ⟨I1, t1, t2, t3⟩ := n_tried (L := L) (p := p) (d := d + 7) hx
        obtain ⟨M, hM, hM2⟩ : ∃ M, M = 999999 ∧ 5000 < M := ⟨999999, rfl, by decide⟩
        obtain ⟨I2, r1, r2⟩ := inr (4 * a_gn A).toNat M 0 (-9, 0) I1 (Int.le_refl 0) (by omega) (by omega) t2 t3 (Or.inl rfl) (Int.le_refl 0) (by decide)
        rw [← hM] at e
        simp (disch := first | assumption | omega) only [k_add, k_sub, k_mul, k_lt, k_eq, k_lt0, k_0lt, k_eq0, k_nat, k_b0, k_b1, k_z1, k_z0, k_o1, k_o0, Int.reduceEq, Int.reduceLT, Int.reduceLE, Int.reduceAdd, Int.reduceMul, Int.reduceNeg, Bool.false_eq_true, or_true, true_or, or_false, false_or, and_true, true_and, and_false, false_and, not_true_eq_false, not_false_eq_true, ↓reduceIte, z_0, z_k, s_I, s_J, s_uI, s_uJ, ↓c_oc_87, ↓jc1 a1, ↓jc1 a2, ↓jc0 t1] at e
        rw [if_neg w] at e
        have S : p_loop (p_parB (a_gw A) (a_gh A) (a_gr A) (a_gn A) (a_kd A) (a_fl A) k j) (4 * a_gn A).toNat 0 (-9, 0) = p_parS k j A := rfl
        rw [S] at r1
        have e2 := e.trans r1
        by_cases y : (p_parS k j A).1 = -9
        · rw [if_pos y] at e2 ⊢
          exact .of ⟨_, e2, r2.x hx, r2.n⟩
        · rw [if_neg y] at e2 ⊢
          refine .of ⟨_, e2, (r2.x hx).told, fun r a => ?_⟩
          rw [fr_told r a]
          exact r2.n r a
    · have z2 : j_z (0 ≤ j ∧ j ≤ a_gn A - 1) = j_k 0 := if_neg y
      rw [z2] at a2
      rw [if_neg (fun u => y (by omega))]
      simp (disch := first | assumption | omega) only [k_add, k_sub, k_mul, k_lt, k_eq, k_lt0, k_0lt, k_eq0, k_nat, k_b0, k_b1, k_z1, k_z0, k_o1, k_o0, Int.reduceEq, Int.reduceLT, Int.reduceLE, Int.reduceAdd, Int.reduceMul, Int.reduceNeg, Bool.false_eq_true, or_true, true_or, or_false, false_or, and_true, true_and, and_false, false_and, not_true_eq_false, not_false_eq_true, ↓reduceIte, z_0, z_k, s_I, s_J, s_uI, s_uJ, ↓c_oc_87, ↓jc1 a1, ↓jc1 a2] at e
      exact .no hx e
  · have z : j_z (0 ≤ k ∧ k ≤ a_gn A - 1) = j_k 0 := if_neg x
    rw [z] at a1
    rw [if_neg (fun u => x (by omega))]
    simp (disch := first | assumption | omega) only [k_add, k_sub, k_mul, k_lt, k_eq, k_lt0, k_0lt, k_eq0, k_nat, k_b0, k_b1, k_z1, k_z0, k_o1, k_o0, Int.reduceEq, Int.reduceLT, Int.reduceLE, Int.reduceAdd, Int.reduceMul, Int.reduceNeg, Bool.false_eq_true, or_true, true_or, or_false, false_or, and_true, true_and, and_false, false_and, not_true_eq_false, not_false_eq_true, ↓reduceIte, z_0, z_k, s_I, s_J, s_uI, s_uJ, ↓c_oc_87, ↓jc1 a1] at e
    exact .no hx e
theorem n_stone (hx : iM I J A) {c : Int} (h1 : -2147483648 ≤ c) (h2 : c < 2147483648) : mc L p I J (d + 5) 214 [.ref 87, .int (j_k c)] (p_stoneC c A) := by
  have hC := hx.1.1
  have ho := hx.1.2.1
  have hm := hx.2.2.2.1
  have hf := hx.2.2.2.2.1
  have n0 := hC.2.2.1
  have n4 := hC.2.2.2.1
  have hw := hm.2.1
  have hN := hm.2.2.1
  have hn := hm.2.2.2.1
  have hk := hm.2.2.2.2.1
  have hg := hm.2.2.2.2.2
  obtain ⟨bN0, bN1, -⟩ := bd_N hC
  have a1 := n_isCell (L := L) (p := p) (d := d + 2) (J := J) hN bN0 bN1 h1 h2
  have e := (r_214 (d + 4) (ST L p I J) 87 (j_k c)).trans (t_214_0 _ _ _ _ _)
  unfold p_stoneC
  by_cases x : 0 ≤ c ∧ c ≤ a_N A - 1
  · have z : j_z (0 ≤ c ∧ c ≤ a_N A - 1) = j_k 1 := if_pos x
    rw [z] at a1
    obtain ⟨c1, c2⟩ := x
    have c3 : c < a_N A := by omega
    have c4 : c < 30 := by omega
    have gv := hg c c1 c3
    have gb := hC.2.2.2.2.1 c c1 c3
    by_cases y : a_gr A c = 1
    · rw [if_neg (fun u => u.2 y)]
      simp (disch := first | assumption | omega) only [k_add, k_sub, k_mul, k_lt, k_eq, k_lt0, k_0lt, k_eq0, k_nat, k_b0, k_b1, k_z1, k_z0, k_o1, k_o0, Int.reduceEq, Int.reduceLT, Int.reduceLE, Int.reduceAdd, Int.reduceMul, Int.reduceNeg, Bool.false_eq_true, or_true, true_or, or_false, false_or, and_true, true_and, and_false, false_and, not_true_eq_false, not_false_eq_true, ↓reduceIte, z_0, z_k, s_I, s_J, s_uI, s_uJ, ↓c_oc_87, ↓jc1 a1, ↓c_gP_87_12, ↓c_ia_94, gv, y] at e
      exact .no hx e
    · rw [if_pos ⟨⟨c1, c3⟩, y⟩]
      obtain ⟨v1, v2, v3, v4, v5, v6, v7, v8, v9, v10, v11⟩ := bd_xy hC c1 c3
      have w0 : ¬ a_gw A = 0 := by omega
      have hz : ¬ j_k (a_gw A) = 0 := by rw [k_eq0 (by omega) (by omega)]; exact w0
      have m1 : j_k c - j_k c / j_k (a_gw A) * j_k (a_gw A) = j_k (c % a_gw A) := k_modp c1 (by omega) (by omega) (by omega)
      have m2 : j_k c / j_k (a_gw A) = j_k (c / a_gw A) := k_divp c1 (by omega) (by omega) (by omega)
      have loop : ∀ (t M : Nat) (k : Int) (s : Fs) (I1 : Nat → Nat → Int32), 0 ≤ k → k + t = a_gn A → t < M → inFs (a_N A) (a_gn A) 10000 k s → (s.2.1 = 0 ↔ s.2.2.1 = -9) → iM1 I1 0 (a_gn A) s.1 → frQ (a_gn A) 0 I I1 → ∃ I2, j_exec k_214 h_214 (j_run (d + 4)) M 32 [some (.ref 87), some (.int (j_k c)), some (.int (j_k s.2.1)), some (.int (j_k s.2.2.1)), some (.int (j_k s.2.2.2)), some (.int (j_k k)), none] [] (ST L p I1 J) = some (some (.int (j_k (p_loop (p_fleeB (a_gw A) (a_gh A) (a_gr A) (a_gn A) (a_kd A) c) t k s).2.1)), ST L p I2 J) ∧ iM1 I2 0 (a_gn A) (p_fleeE (p_loop (p_fleeB (a_gw A) (a_gh A) (a_gr A) (a_gn A) (a_kd A) c) t k s)) ∧ frQ (a_gn A) 0 I I2 := by
        intro t
        induction t with
        | zero =>
          intro M k s I1 k1 k2 hM hs hz0 hf1 fr
          obtain ⟨M, rfl⟩ : ∃ q, M = q + 1 := ⟨M - 1, by omega⟩
          have hn1 := (fr.m hm).2.2.2.1
          have z : ¬ k < a_gn A := by omega
          obtain ⟨-, b1, b2, b3⟩ := hs
          rw [x_exec, t_214_32, p_loop0]
          by_cases u : s.2.2.1 = -9
          · have u0 : s.2.1 = 0 := hz0.mpr u
            refine ⟨I1, ?_, ?_, fr⟩
            · simp (disch := first | assumption | omega) only [k_add, k_sub, k_mul, k_lt, k_eq, k_lt0, k_0lt, k_eq0, k_nat, k_b0, k_b1, k_z1, k_z0, k_o1, k_o0, Int.reduceEq, Int.reduceLT, Int.reduceLE, Int.reduceAdd, Int.reduceMul, Int.reduceNeg, Bool.false_eq_true, or_true, true_or, or_false, false_or, and_true, true_and, and_false, false_and, not_true_eq_false, not_false_eq_true, ↓reduceIte, z_0, z_k, s_I, s_J, s_uI, s_uJ, ↓c_oc_87, hn1, z, u0]
            · unfold p_fleeE
              rw [if_pos u]
              exact hf1
          · have u0 : 0 < s.2.1 := by
              have : ¬ s.2.1 = 0 := fun v => u (hz0.mp v)
              omega
            obtain ⟨I2, w1, w2, w3⟩ := n_bl (L := L) (p := p) (d := d + 2) (J := J) (k := s.2.2.1) (c := s.2.2.2) hf1 (by decide) (by decide) n0 n4
            refine ⟨I2, ?_, ?_, fr.tr w3.q⟩
            · simp (disch := first | assumption | omega) only [k_add, k_sub, k_mul, k_lt, k_eq, k_lt0, k_0lt, k_eq0, k_nat, k_b0, k_b1, k_z1, k_z0, k_o1, k_o0, Int.reduceEq, Int.reduceLT, Int.reduceLE, Int.reduceAdd, Int.reduceMul, Int.reduceNeg, Bool.false_eq_true, or_true, true_or, or_false, false_or, and_true, true_and, and_false, false_and, not_true_eq_false, not_false_eq_true, ↓reduceIte, z_0, z_k, s_I, s_J, s_uI, s_uJ, ↓c_oc_87, hn1, z, u0, ↓jc0 w1]
            · unfold p_fleeE
              rw [if_neg u]
              exact w2
        | succ t ih =>
          intro M k s I1 k1 k2 hM hs hz0 hf1 fr
          obtain ⟨M, rfl⟩ : ∃ q, M = q + 1 := ⟨M - 1, by omega⟩
          have hm1 := fr.m hm
          have hn1 := hm1.2.2.2.1
          have z : k < a_gn A := by omega
          have hin := fleeB_in (w := a_gw A) (h := a_gh A) (gr := a_gr A) (kd := a_kd A) hC c1 c3 k1 z hs
          have b1 := hs.2.1
          have b2 := hs.2.2.1
          have v := n_v (L := L) (p := p) (d := d + 3) (I := I1) (J := J) (k := 0) (j := 5 + k) (by decide) (by decide) (by omega) (by omega)
          rw [hf1.2.1 k k1 z] at v
          rw [x_exec, t_214_32, p_loopS]
          by_cases u : s.1 (5 + k) = -9
          · have B : p_fleeB (a_gw A) (a_gh A) (a_gr A) (a_gn A) (a_kd A) c k s = s := if_pos (Or.inl u)
            rw [B] at hin ⊢
            obtain ⟨I2, r1, r2⟩ := ih M (k + 1) s I1 (by omega) (by omega) (by omega) hin hz0 hf1 fr
            refine ⟨I2, ?_, r2⟩
            rw [u] at v
            have kz : j_k k < j_k (a_gn A) := by rw [k_lt (by omega) (by omega) (by omega) (by omega)]; exact z
            have hn2 : s_I (ST L p I1 J) 87 13 = j_k (a_gn A) := hn1
            rw [c_oc_87, hn2, if_pos kz, c_oc_87, k_add, jc1 v, if_pos rfl, k_add]
            exact r1
          · have hck := (hs.1.1 k k1 z).resolve_left u
            have o := n_off (L := L) (p := p) (d := d + 2) (J := J) hm1.2.1 hC hck.1 hck.2 c1 c3
            have orr := off_rg hC hck.1 hck.2 c1 c3
            have hcb1 := hck.1
            have hcb2 := hck.2
            by_cases q : p_off (a_gw A) (s.1 (5 + k)) c = 1
            · have ow := off_way hC hck.1 hck.2 c1 c3 q
              obtain ⟨x1, x2, x3, x4, x5, x6, x7, x8, x9, x10, x11⟩ := bd_xy hC hck.1 hck.2
              have n1 : j_k (s.1 (5 + k)) - j_k (s.1 (5 + k)) / j_k (a_gw A) * j_k (a_gw A) = j_k (s.1 (5 + k) % a_gw A) := k_modp hck.1 (by omega) (by omega) (by omega)
              have n2 : j_k (s.1 (5 + k)) / j_k (a_gw A) = j_k (s.1 (5 + k) / a_gw A) := k_divp hck.1 (by omega) (by omega) (by omega)
              have fr1 : frQ (a_gn A) 0 I (u2 I1 87 26 (j_k 0)) := fr.tr (frQ.o (Or.inl rfl))
              have hm2 := fr1.m hm
              have hw2 : s_I (ST L p (u2 I1 87 26 (j_k 0)) J) 87 10 = j_k (a_gw A) := hm2.2.1
              obtain ⟨I2, g1, g2, g3⟩ := n_bg (L := L) (p := p) (d := d) (J := J) (q := 0) (k := k) (gate := false) (sx := s.1 (5 + k) % a_gw A - c % a_gw A) (sy := s.1 (5 + k) / a_gw A - c / a_gw A) (by decide) (by decide) hm2 (by rw [u2_ss]; exact (if_neg Bool.false_ne_true).symm) (hf1.o n4) hs.1 k1 z u (by omega)
              have hu : ¬ j_k (s.1 (5 + k)) = j_k (-9) := by rw [k_eq (by omega) (by omega) (by decide) (by decide)]; exact u
              have kz : j_k k < j_k (a_gn A) := by rw [k_lt (by omega) (by omega) (by omega) (by omega)]; exact z
              have t1' : ¬ j_k 1 = 0 := by decide
              have t0' : j_k 0 = 0 := by decide
              have hn2 : s_I (ST L p I1 J) 87 13 = j_k (a_gn A) := hn1
              rw [c_oc_87, hn2, if_pos kz, c_oc_87, k_add, jc1 v, if_neg hu, c_oc_87, jc1 o, q, if_pos rfl, if_pos (Or.inl kk0), if_pos (show (87 < j_b) from by decide), c_oc_87]
              show ∃ I2, (j_oc (ST L p (u2 I1 87 26 (j_k 0)) J) 7 87 _) = _ ∧ _
              rw [c_oc_87, hw2, if_neg hz, c_oc_87, if_neg hz, c_oc_87, if_neg hz, c_oc_87, if_neg hz, c_oc_87, m1, m2, n1, n2, k_sub, k_sub, jc1 g1, c_oc_87, jc1 g2]
              have BB : p_fleeB (a_gw A) (a_gh A) (a_gr A) (a_gn A) (a_kd A) c k s = if p_try (a_gr A) (a_gn A) (a_kd A) s.1 k (p_by (a_gw A) (a_gh A) (s.1 (5 + k)) (s.1 (5 + k) % a_gw A - c % a_gw A) (s.1 (5 + k) / a_gw A - c / a_gw A)) false = -9 then s
                else (p_goTo (a_gr A) s.1 k (p_try (a_gr A) (a_gn A) (a_kd A) s.1 k (p_by (a_gw A) (a_gh A) (s.1 (5 + k)) (s.1 (5 + k) % a_gw A - c % a_gw A) (s.1 (5 + k) / a_gw A - c / a_gw A)) false), s.2.1 + 1, k, p_try (a_gr A) (a_gn A) (a_kd A) s.1 k (p_by (a_gw A) (a_gh A) (s.1 (5 + k)) (s.1 (5 + k) % a_gw A - c % a_gw A) (s.1 (5 + k) / a_gw A - c / a_gw A)) false) := if_neg (fun t => t.elim u (fun t => t q))
              generalize p_try (a_gr A) (a_gn A) (a_kd A) s.1 k (p_by (a_gw A) (a_gh A) (s.1 (5 + k)) (s.1 (5 + k) % a_gw A - c % a_gw A) (s.1 (5 + k) / a_gw A - c / a_gw A)) false = R at g3 BB ⊢
              by_cases yR : R = -9
              · rw [if_pos yR] at BB
                rw [BB] at hin ⊢
                have eI := g3.2.1 yR
                subst eI
                obtain ⟨I3, r1, r2⟩ := ih M (k + 1) s (u2 I1 87 26 (j_k 0)) (by omega) (by omega) (by omega) hin hz0 (hf1.o n4) fr1
                refine ⟨I3, ?_, r2⟩
                rw [show j_z (R ≠ -9) = j_k 0 from if_neg (fun t => t yR), if_pos t0', k_add]
                exact r1
              · rw [if_neg yR] at BB
                rw [BB] at hin ⊢
                obtain ⟨p1, p2, p3⟩ := g3.2.2 yR
                obtain ⟨I3, r1, r2⟩ := ih M (k + 1) _ I2 (by omega) (by omega) (by omega) hin ⟨fun t => by have t' : s.2.1 + 1 = 0 := t; omega, fun t => by have t' : k = -9 := t; omega⟩ p1 (fr1.tr g3.1)
                refine ⟨I3, ?_, r2⟩
                have p3' : s_I (ST L p I2 J) 87 27 = j_k R := p3
                rw [show j_z (R ≠ -9) = j_k 1 from if_pos yR, if_neg t1', c_oc_87, p3', k_add, k_add]
                exact r1
            · have B : p_fleeB (a_gw A) (a_gh A) (a_gr A) (a_gn A) (a_kd A) c k s = s := if_pos (Or.inr q)
              rw [B] at hin ⊢
              obtain ⟨I2, r1, r2⟩ := ih M (k + 1) s I1 (by omega) (by omega) (by omega) hin hz0 hf1 fr
              refine ⟨I2, ?_, r2⟩
              have hu : ¬ j_k (s.1 (5 + k)) = j_k (-9) := by rw [k_eq (by omega) (by omega) (by decide) (by decide)]; exact u
              have kz : j_k k < j_k (a_gn A) := by rw [k_lt (by omega) (by omega) (by omega) (by omega)]; exact z
              have hn2 : s_I (ST L p I1 J) 87 13 = j_k (a_gn A) := hn1
              have hq : ¬ j_k (p_off (a_gw A) (s.1 (5 + k)) c) = j_k 1 := by rw [k_eq (by omega) (by omega) (by decide) (by decide)]; exact q
              rw [c_oc_87, hn2, if_pos kz, c_oc_87, k_add, jc1 v, if_neg hu, c_oc_87, jc1 o, if_neg hq, k_add]
              exact r1
      obtain ⟨M, hM, hM2⟩ : ∃ M, M = 999999 ∧ 5000 < M := ⟨999999, rfl, by decide⟩
      obtain ⟨I2, r1, r2, r3⟩ := loop (a_gn A).toNat M 0 (a_fl A, 0, -9, -9) I (Int.le_refl 0) (by omega) (by omega) ⟨ho, Int.le_refl _, Int.le_refl _, Or.inl ⟨rfl, rfl⟩⟩ ⟨fun _ => rfl, fun _ => rfl⟩ hf .rf
      have ok := fleeE_ok (fleeL_in (w := a_gw A) (h := a_gh A) (gr := a_gr A) (kd := a_kd A) hC c1 c3 (a_gn A).toNat 0 (a_fl A, 0, -9, -9) (Int.le_refl 0) (by omega) ⟨ho, Int.le_refl _, Int.le_refl _, Or.inl ⟨rfl, rfl⟩⟩)
      rw [← hM] at e
      simp (disch := first | assumption | omega) only [k_add, k_sub, k_mul, k_lt, k_eq, k_lt0, k_0lt, k_eq0, k_nat, k_b0, k_b1, k_z1, k_z0, k_o1, k_o0, Int.reduceEq, Int.reduceLT, Int.reduceLE, Int.reduceAdd, Int.reduceMul, Int.reduceNeg, Bool.false_eq_true, or_true, true_or, or_false, false_or, and_true, true_and, and_false, false_and, not_true_eq_false, not_false_eq_true, ↓reduceIte, z_0, z_k, s_I, s_J, s_uI, s_uJ, ↓c_oc_87, ↓jc1 a1, ↓c_gP_87_12, ↓c_ia_94, gv, y] at e
      exact .of ⟨I2, e.trans r1, hx.went r3.p r2 ok, r3.p.n⟩
  · have z : j_z (0 ≤ c ∧ c ≤ a_N A - 1) = j_k 0 := if_neg x
    rw [z] at a1
    rw [if_neg (fun u => x (by omega))]
    simp (disch := first | assumption | omega) only [k_add, k_sub, k_mul, k_lt, k_eq, k_lt0, k_0lt, k_eq0, k_nat, k_b0, k_b1, k_z1, k_z0, k_o1, k_o0, Int.reduceEq, Int.reduceLT, Int.reduceLE, Int.reduceAdd, Int.reduceMul, Int.reduceNeg, Bool.false_eq_true, or_true, true_or, or_false, false_or, and_true, true_and, and_false, false_and, not_true_eq_false, not_false_eq_true, ↓reduceIte, z_0, z_k, s_I, s_J, s_uI, s_uJ, ↓c_oc_87, ↓jc1 a1] at e
    exact .no hx e
end MCALLS4
