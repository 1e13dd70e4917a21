/-! ===== the class's calls: drive, gather, part ===== -/
theorem loop_in {α : Type} {b : Int → α → α} {P : Int → α → Prop} {k0 n : Int} (hs : ∀ k s, k0 ≤ k → k < n → P k s → P (k + 1) (b k s)) : ∀ (m : Nat) (k : Int) (s : α), k0 ≤ k → k + m = n → P k s → P n (p_loop b m k s)
  | 0, k, s, h1, h2, hp => by
    have e : k = n := by omega
    subst e
    exact hp
  | m + 1, k, s, h1, h2, hp => loop_in hs m (k + 1) (b k s) (by omega) (by omega) (hs k s h1 (by omega) hp)
theorem apart_rg {w h N n b : Int} {gr kd f : Fl} (hC : okC w h N n gr kd) (ho : okF N n b f) : 0 ≤ p_apart w n f ∧ p_apart w n f ≤ 40 * n := by
  have hn := hC.2.2.1
  have hn4 := hC.2.2.2.1
  refine loop_in (k0 := 0) (n := n) (P := fun k s => 0 ≤ s ∧ s ≤ 40 * k) (fun k s k1 k2 hs => ?_) n.toNat 0 0 (Int.le_refl 0) (by omega) ⟨Int.le_refl _, Int.le_refl _⟩
  have := loop_in (k0 := k + 1) (n := n) (P := fun j s => 0 ≤ s ∧ s ≤ 40 * k + 10 * (j - (k + 1))) (b := fun j s => if f (5 + k) ≠ -9 ∧ f (5 + j) ≠ -9 then s + p_off w (f (5 + k)) (f (5 + j)) else s) (fun j s j1 j2 hs => ?_) (n - (k + 1)).toNat (k + 1) s (Int.le_refl _) (by omega) (by show 0 ≤ s ∧ s ≤ 40 * k + 10 * (k + 1 - (k + 1)); omega)
  · show 0 ≤ p_loop _ _ _ _ ∧ p_loop _ _ _ _ ≤ 40 * (k + 1)
    have t : 0 ≤ p_loop (fun j s => if f (5 + k) ≠ -9 ∧ f (5 + j) ≠ -9 then s + p_off w (f (5 + k)) (f (5 + j)) else s) (n - (k + 1)).toNat (k + 1) s ∧ p_loop (fun j s => if f (5 + k) ≠ -9 ∧ f (5 + j) ≠ -9 then s + p_off w (f (5 + k)) (f (5 + j)) else s) (n - (k + 1)).toNat (k + 1) s ≤ 40 * k + 10 * (n - (k + 1)) := this
    exact ⟨t.1, by omega⟩
  · show 0 ≤ (if f (5 + k) ≠ -9 ∧ f (5 + j) ≠ -9 then s + p_off w (f (5 + k)) (f (5 + j)) else s) ∧ (if f (5 + k) ≠ -9 ∧ f (5 + j) ≠ -9 then s + p_off w (f (5 + k)) (f (5 + j)) else s) ≤ 40 * k + 10 * (j + 1 - (k + 1))
    have hs' : 0 ≤ s ∧ s ≤ 40 * k + 10 * (j - (k + 1)) := hs
    by_cases z : f (5 + k) ≠ -9 ∧ f (5 + j) ≠ -9
    · have a := (ho.1 k k1 k2).resolve_left z.1
      have c := (ho.1 j (by omega) j2).resolve_left z.2
      have := off_rg hC a.1 a.2 c.1 c.2
      rw [if_pos z]
      omega
    · rw [if_neg z]
      omega
def p_gatB (w h : Int) (gr : Fl) (n : Int) (kd f : Fl) (l0 : Int) (c : Int) (s : Int × Int) : Int × Int := match p_drive w h gr n kd f c with
  | none => s
  | some f' => if l0 < p_lost n f' then s else if s.1 = -9 ∨ p_apart w n f' < s.2 then (c, p_apart w n f') else s
def p_gatS (A : Ast) : Int × Int := p_loop (p_gatB (a_gw A) (a_gh A) (a_gr A) (a_gn A) (a_kd A) (a_fl A) (p_lost (a_gn A) (a_fl A))) (4 * a_gn A).toNat 0 (-9, 0)
def p_gather (A : Ast) : Int × Ast := if (p_gatS A).1 = -9 then (-9, A) else ((p_gatS A).1, A_told A (j_k (p_gatS A).2))
def p_parB (w h : Int) (gr : Fl) (n : Int) (kd f : Fl) (k j : Int) (c : Int) (s : Int × Int) : Int × Int := match p_drive w h gr n kd f c with
  | none => s
  | some f' => if f' (5 + k) = -9 ∨ f' (5 + j) = -9 then s else if s.1 = -9 ∨ s.2 < p_off w (f' (5 + k)) (f' (5 + j)) then (c, p_off w (f' (5 + k)) (f' (5 + j))) else s
def p_parS (k j : Int) (A : Ast) : Int × Int := p_loop (p_parB (a_gw A) (a_gh A) (a_gr A) (a_gn A) (a_kd A) (a_fl A) k j) (4 * a_gn A).toNat 0 (-9, 0)
def p_part (k j : Int) (A : Ast) : Int × Ast := if (0 ≤ k ∧ k < a_gn A) ∧ (0 ≤ j ∧ j < a_gn A) ∧ k ≠ j then (if (p_parS k j A).1 = -9 then (-9, A) else ((p_parS k j A).1, A_told A (j_k (p_parS k j A).2))) else (-1, A)
section CALLS5
variable {L p d : Nat} {J : Nat → Nat → Int64} {I I' : Nat → Nat → Int32} {A : Ast} {K : Option Rr} {r i : Int}
theorem x_drive (hx : iX I J A) {r : Int} (h1 : -2147483648 ≤ r) (h2 : r < 2147483648) : xc L p I J (d + 6) 98 [.ref 0, .int (j_k r)] (p_driveC r A) := by
  have hC := hx.1.1
  have ho := hx.1.2.1
  have hG := hx.2.2.2.1
  have hF := hx.2.2.2.2.1
  have hT := hx.2.2.2.2.2.2.2.2.1
  have hM := hx.2.2.2.2.2.2.2.1
  have hn := hC.2.2.1
  have hn4 := hC.2.2.2.1
  obtain ⟨bN0, bN1, -⟩ := bd_N hC
  have hA := fa_31
  have hg := ga_27
  have q1 := x_has1 (L := L) (p := p) (d := d + 4) (I := I) (J := J) h1 h2
  have e := (r_98 (d + 5) (ST L p I J) 0 (j_k r)).trans (t_98_0 _ _ _ _ _)
  unfold p_driveC
  by_cases z : 0 ≤ r ∧ r < 6
  · have z1 : j_z (0 ≤ r ∧ r < 6) = j_k 1 := if_pos z
    rw [z1] at q1
    rw [if_pos z]
    obtain ⟨r1, r2⟩ := z
    have hr := (hx.2.1 r r1 r2).1
    have br := hx.1.2.2.2.1 r r1 r2
    have br1 := br.1
    have br2 := br.2
    have o0 := ho.2.2.2.2.2
    have o1 := o0.1
    have o2 := o0.2
    by_cases y : a_N A = 0
    · rw [if_pos y]
      simp (disch := first | assumption | omega) only [k_add, k_sub, k_mul, k_lt, k_eq, k_lt0, k_0lt, k_eq0, k_nat, k_b0, k_b1, k_z1, k_z0, k_o1, k_o0, Int.reduceEq, Int.reduceLT, Int.reduceLE, Int.reduceAdd, Int.reduceMul, Int.reduceNeg, Bool.false_eq_true, or_true, true_or, or_false, false_or, and_true, true_and, and_false, false_and, not_true_eq_false, not_false_eq_true, ↓reduceIte, z_0, z_k, s_I, s_J, s_uI, s_uJ, ↓c_gP_0_0, ↓c_oc_1, ↓jc1 q1, ↓c_gP_0_3, ↓g_oc, hG.2.2.1, y] at e
      exact .of ⟨_, e, hx, fun _ _ => rfl⟩
    · rw [if_neg y]
      by_cases x : a_rz A r = -1
      · rw [if_pos x]
        obtain ⟨I', e1, e2, e3⟩ := x_finds (L := L) (p := p) (d := d + 4) hx (q := 1) (by decide) (by decide)
        simp (disch := first | assumption | omega) only [k_add, k_sub, k_mul, k_lt, k_eq, k_lt0, k_0lt, k_eq0, k_nat, k_b0, k_b1, k_z1, k_z0, k_o1, k_o0, Int.reduceEq, Int.reduceLT, Int.reduceLE, Int.reduceAdd, Int.reduceMul, Int.reduceNeg, Bool.false_eq_true, or_true, true_or, or_false, false_or, and_true, true_and, and_false, false_and, not_true_eq_false, not_false_eq_true, ↓reduceIte, z_0, z_k, s_I, s_J, s_uI, s_uJ, ↓c_gP_0_0, ↓c_oc_1, ↓c_oc_0, ↓jc1 q1, ↓c_gP_0_3, ↓g_oc, hG.2.2.1, y, ↓c_gP_1_1, ↓c_ia_9, hr, x, ↓jc1 e1] at e
        exact .of ⟨_, e, e2, fun q hq => e3 q (by omega) (by omega)⟩
      · rw [if_neg x]
        simp (disch := first | assumption | omega) only [k_add, k_sub, k_mul, k_lt, k_eq, k_lt0, k_0lt, k_eq0, k_nat, k_b0, k_b1, k_z1, k_z0, k_o1, k_o0, Int.reduceEq, Int.reduceLT, Int.reduceLE, Int.reduceAdd, Int.reduceMul, Int.reduceNeg, Bool.false_eq_true, or_true, true_or, or_false, false_or, and_true, true_and, and_false, false_and, not_true_eq_false, not_false_eq_true, ↓reduceIte, z_0, z_k, s_I, s_J, s_uI, s_uJ, ↓c_gP_0_0, ↓c_oc_1, ↓c_oc_0, ↓jc1 q1, ↓c_gP_0_3, ↓g_oc, hG.2.2.1, y, ↓c_gP_1_1, ↓c_ia_9, hr, x] at e
        have qd := s_drives (L := L) (p := p) (d := d + 4) (J := J) hA hF
        obtain ⟨I', e1, e2, e3⟩ := x_finds (L := L) (p := p) (d := d + 4) hx (q := 3) (by decide) (by decide)
        have check : ∀ (t M : Nat) (k : Int), 0 ≤ k → k + t = a_rz A r →
            (p_first (fun i => decide (¬ (0 ≤ (a_rv A r i).toInt ∧ (a_rv A r i).toInt < 4 * a_gn A))) t k ≠ -9 → j_exec k_98 h_98 (j_run (d + 5)) (M + t + 1) 57 [some (.ref 0), some (.int (j_k r)), some (.int (j_k (a_rz A r))), some (.int (j_k k)), none] [] (ST L p I J) = some (some (.int (j_k (p_meets 3 A).1)), ST L p I' J)) ∧
            (p_first (fun i => decide (¬ (0 ≤ (a_rv A r i).toInt ∧ (a_rv A r i).toInt < 4 * a_gn A))) t k = -9 → j_exec k_98 h_98 (j_run (d + 5)) (M + t + 1) 57 [some (.ref 0), some (.int (j_k r)), some (.int (j_k (a_rz A r))), some (.int (j_k k)), none] [] (ST L p I J) = if 10000 < a_fl A 0 + 40 * a_rz A r then some (some (.int (j_k (-6))), ST L p I J) else j_exec k_98 h_98 (j_run (d + 5)) M 127 [some (.ref 0), some (.int (j_k r)), some (.int (j_k (a_rz A r))), some (.int (j_k 0)), none] [] (ST L p I J)) := by
          intro t
          induction t with
          | zero =>
            intro M k k1 k2
            have z : ¬ k < a_rz A r := by omega
            refine ⟨fun u => absurd rfl u, fun _ => ?_⟩
            rw [x_exec, t_98_57]
            simp (disch := first | assumption | omega) only [k_add, k_sub, k_mul, k_lt, k_eq, k_lt0, k_0lt, k_eq0, k_nat, k_b0, k_b1, k_z1, k_z0, k_o1, k_o0, Int.reduceEq, Int.reduceLT, Int.reduceLE, Int.reduceAdd, Int.reduceMul, Int.reduceNeg, Bool.false_eq_true, or_true, true_or, or_false, false_or, and_true, true_and, and_false, false_and, not_true_eq_false, not_false_eq_true, ↓reduceIte, z_0, z_k, s_I, s_J, s_uI, s_uJ, z, ↓c_gP_0_4, ↓f_oc, hF.2.2.2.2.2.1]
          | succ t ih =>
            intro M k k1 k2
            have z : k < a_rz A r := by omega
            have k6 : k < 60 := by omega
            have hv : I (3 + 1 * r.toNat) k.toNat = j_k (a_rv A r k).toInt := ((hx.2.1 r r1 r2).2 k k1 k6).trans (Int32.ofInt_toInt _).symm
            have v1 := Int32.le_toInt (a_rv A r k)
            have v2 := Int32.toInt_lt (a_rv A r k)
            have ih' := ih M (k + 1) (by omega) (by omega)
            rw [show M + (t + 1) + 1 = (M + t + 1) + 1 by omega, x_exec, t_98_57, p_firstS]
            by_cases w1 : (a_rv A r k).toInt < 0
            · rw [if_pos (decide_eq_true (show ¬ (0 ≤ (a_rv A r k).toInt ∧ (a_rv A r k).toInt < 4 * a_gn A) from fun u => by omega))]
              refine ⟨fun _ => ?_, fun u => absurd u (by omega)⟩
              simp (disch := first | assumption | omega) only [k_add, k_sub, k_mul, k_lt, k_eq, k_lt0, k_0lt, k_eq0, k_nat, k_b0, k_b1, k_z1, k_z0, k_o1, k_o0, Int.reduceEq, Int.reduceLT, Int.reduceLE, Int.reduceAdd, Int.reduceMul, Int.reduceNeg, Bool.false_eq_true, or_true, true_or, or_false, false_or, and_true, true_and, and_false, false_and, not_true_eq_false, not_false_eq_true, ↓reduceIte, z_0, z_k, s_I, s_J, s_uI, s_uJ, z, ↓c_gP_0_0, ↓c_gP_1_0, ↓c_qa_2, ↓ia_row, hv, w1, ↓c_oc_0, ↓jc1 e1]
            · by_cases w2 : (a_rv A r k).toInt < 4 * a_gn A
              · rw [if_neg (by rw [decide_eq_true_iff]; exact fun u => u ⟨by omega, w2⟩)]
                simp (disch := first | assumption | omega) only [k_add, k_sub, k_mul, k_lt, k_eq, k_lt0, k_0lt, k_eq0, k_nat, k_b0, k_b1, k_z1, k_z0, k_o1, k_o0, Int.reduceEq, Int.reduceLT, Int.reduceLE, Int.reduceAdd, Int.reduceMul, Int.reduceNeg, Bool.false_eq_true, or_true, true_or, or_false, false_or, and_true, true_and, and_false, false_and, not_true_eq_false, not_false_eq_true, ↓reduceIte, z_0, z_k, s_I, s_J, s_uI, s_uJ, z, ↓c_gP_0_0, ↓c_gP_1_0, ↓c_qa_2, ↓ia_row, hv, w1, ↓c_gP_0_4, ↓f_oc, ↓jc1 qd, w2]
                exact ih'
              · rw [if_pos (decide_eq_true (show ¬ (0 ≤ (a_rv A r k).toInt ∧ (a_rv A r k).toInt < 4 * a_gn A) from fun u => w2 u.2))]
                refine ⟨fun _ => ?_, fun u => absurd u (by omega)⟩
                simp (disch := first | assumption | omega) only [k_add, k_sub, k_mul, k_lt, k_eq, k_lt0, k_0lt, k_eq0, k_nat, k_b0, k_b1, k_z1, k_z0, k_o1, k_o0, Int.reduceEq, Int.reduceLT, Int.reduceLE, Int.reduceAdd, Int.reduceMul, Int.reduceNeg, Bool.false_eq_true, or_true, true_or, or_false, false_or, and_true, true_and, and_false, false_and, not_true_eq_false, not_false_eq_true, ↓reduceIte, z_0, z_k, s_I, s_J, s_uI, s_uJ, z, ↓c_gP_0_0, ↓c_gP_1_0, ↓c_qa_2, ↓ia_row, hv, w1, ↓c_gP_0_4, ↓f_oc, ↓jc1 qd, w2, ↓c_oc_0, ↓jc1 e1]
        obtain ⟨M, hM⟩ : ∃ q, 999999 = q + (a_rz A r).toNat + 1 := ⟨999998 - (a_rz A r).toNat, by omega⟩
        obtain ⟨ch1, ch2⟩ := check (a_rz A r).toNat M 0 (Int.le_refl 0) (by omega)
        rw [hM] at e
        by_cases w : p_first (fun i => decide (¬ (0 ≤ (a_rv A r i).toInt ∧ (a_rv A r i).toInt < 4 * a_gn A))) (a_rz A r).toNat 0 = -9
        · rw [if_neg (fun u => u w)]
          have e4 := e.trans (ch2 w)
          by_cases s0 : 10000 < a_fl A 0 + 40 * a_rz A r
          · rw [if_pos s0] at e4 ⊢
            exact .of ⟨_, e4, hx, fun _ _ => rfl⟩
          · rw [if_neg s0] at e4 ⊢
            have wf := first_all (a_rz A r).toNat 0 (Int.le_refl 0) w
            have loop : ∀ (t M : Nat) (k b : Int) (f : Fl) (I1 : Nat → Nat → Int32), 0 ≤ k → k + t = a_rz A r → t < M → okF (a_N A) (a_gn A) b f → b + 40 * t ≤ 10000 → iF I1 31 (a_gn A) (a_kd A) f → fr 31 I I1 →
                ∃ I2, j_exec k_98 h_98 (j_run (d + 5)) M 127 [some (.ref 0), some (.int (j_k r)), some (.int (j_k (a_rz A r))), some (.int (j_k k)), none] [] (ST L p I1 J) = some (some (.int (j_k (p_drv (a_gw A) (a_gh A) (a_gr A) (a_gn A) (a_kd A) (a_rv A r) t k f).1)), ST L p I2 J) ∧ I2 0 13 = j_k (p_lost (a_gn A) (p_drv (a_gw A) (a_gh A) (a_gr A) (a_gn A) (a_kd A) (a_rv A r) t k f).2) ∧ iF I2 31 (a_gn A) (a_kd A) (p_drv (a_gw A) (a_gh A) (a_gr A) (a_gn A) (a_kd A) (a_rv A r) t k f).2 ∧ okF (a_N A) (a_gn A) 10000 (p_drv (a_gw A) (a_gh A) (a_gr A) (a_gn A) (a_kd A) (a_rv A r) t k f).2 ∧ (∀ q, q ≠ 0 → (q < 31 ∨ 35 ≤ q) → I2 q = I q) ∧ ∀ k, k ≠ 13 → I2 0 k = I 0 k := by
              intro t
              induction t with
              | zero =>
                intro M k b f I1 k1 k2 hM hf hb hi hfr
                obtain ⟨M, rfl⟩ : ∃ q, M = q + 1 := ⟨M - 1, by omega⟩
                have z : ¬ k < a_rz A r := by omega
                have ql := s_lostOnes (L := L) (p := p) (d := d + 4) (J := J) hA hi hn hn4 hf bN1
                refine ⟨u2 I1 0 13 (j_k (p_lost (a_gn A) f)), ?_, u2_ss _ _ _ _, hi.cg (fun r r1 r2 => by funext j; rw [u2_r (by omega)]), okF_le (by omega) hf, fun q a1 a2 => by funext j; rw [u2_r a1, hfr q (by omega)], fun k hk => by rw [u2_k hk, hfr 0 (by omega)]⟩
                rw [x_exec, t_98_127]
                simp (disch := first | assumption | omega) only [k_add, k_sub, k_mul, k_lt, k_eq, k_lt0, k_0lt, k_eq0, k_nat, k_b0, k_b1, k_z1, k_z0, k_o1, k_o0, Int.reduceEq, Int.reduceLT, Int.reduceLE, Int.reduceAdd, Int.reduceMul, Int.reduceNeg, Bool.false_eq_true, or_true, true_or, or_false, false_or, and_true, true_and, and_false, false_and, not_true_eq_false, not_false_eq_true, ↓reduceIte, z_0, z_k, s_I, s_J, s_uI, s_uJ, z, ↓c_gP_0_4, ↓f_oc, ↓jc1 ql, ↓c_lt_0, ↓c_oc_0]
                rfl
              | succ t ih =>
                intro M k b f I1 k1 k2 hM hf hb hi hfr
                obtain ⟨M, rfl⟩ : ∃ q, M = q + 1 := ⟨M - 1, by omega⟩
                have z : k < a_rz A r := by omega
                have k6 : k < 60 := by omega
                have hv : I1 (3 + 1 * r.toNat) k.toNat = j_k (a_rv A r k).toInt := by
                  rw [hfr _ (by omega)]
                  exact ((hx.2.1 r r1 r2).2 k k1 k6).trans (Int32.ofInt_toInt _).symm
                have hw := wf k (by omega) (by omega)
                have hw2 : 0 ≤ (a_rv A r k).toInt ∧ (a_rv A r k).toInt < 4 * a_gn A := Classical.byContradiction fun u => by
                  have := decide_eq_true u
                  have hw' : decide (¬ (0 ≤ (a_rv A r k).toInt ∧ (a_rv A r k).toInt < 4 * a_gn A)) = false := hw
                  rw [this] at hw'
                  exact absurd hw' (by decide)
                obtain ⟨I3, s1, s2, s3⟩ := s_driveBy (L := L) (p := p) (d := d) (J := J) hA hg hi (hG.fr hA hg hfr) (hT.fr hA hfr) hC hf (by omega) hw2.1 hw2.2
                rw [x_exec, t_98_127]
                cases hd : p_drive (a_gw A) (a_gh A) (a_gr A) (a_gn A) (a_kd A) f (a_rv A r k).toInt with
                | none =>
                  have ed : p_drv (a_gw A) (a_gh A) (a_gr A) (a_gn A) (a_kd A) (a_rv A r) (t + 1) k f = (k, f) := by
                    show (match p_drive (a_gw A) (a_gh A) (a_gr A) (a_gn A) (a_kd A) f (a_rv A r k).toInt with
                      | none => (k, f)
                      | some f' => _) = _
                    rw [hd]
                  rw [hd] at s1 s2
                  have s1' : j_run (d + 5) 29 [.ref 31, .ref 27, .int (j_k (a_rv A r k).toInt)] (ST L p I1 J) = some (some (.int (j_k 0)), ST L p I3 J) := s1
                  have s2' : iF I3 31 (a_gn A) (a_kd A) f := s2
                  have ql := s_lostOnes (L := L) (p := p) (d := d + 4) (J := J) hA s2' hn hn4 hf bN1
                  have hfr3 := hfr.tr s3
                  rw [ed]
                  refine ⟨u2 I3 0 13 (j_k (p_lost (a_gn A) f)), ?_, u2_ss _ _ _ _, s2'.cg (fun r r1 r2 => by funext j; rw [u2_r (by omega)]), okF_le (by omega) hf, fun q a1 a2 => by funext j; rw [u2_r a1, hfr3 q (by omega)], fun k hk => by rw [u2_k hk, hfr3 0 (by omega)]⟩
                  simp (disch := first | assumption | omega) only [k_add, k_sub, k_mul, k_lt, k_eq, k_lt0, k_0lt, k_eq0, k_nat, k_b0, k_b1, k_z1, k_z0, k_o1, k_o0, Int.reduceEq, Int.reduceLT, Int.reduceLE, Int.reduceAdd, Int.reduceMul, Int.reduceNeg, Bool.false_eq_true, or_true, true_or, or_false, false_or, and_true, true_and, and_false, false_and, not_true_eq_false, not_false_eq_true, ↓reduceIte, z_0, z_k, s_I, s_J, s_uI, s_uJ, z, ↓c_gP_0_4, ↓c_gP_0_3, ↓c_gP_0_0, ↓c_gP_1_0, ↓c_qa_2, ↓ia_row, hv, ↓f_oc, ↓jc1 s1', ↓jc1 ql, ↓c_lt_0, ↓c_oc_0]
                | some f' =>
                  have ed : p_drv (a_gw A) (a_gh A) (a_gr A) (a_gn A) (a_kd A) (a_rv A r) (t + 1) k f = p_drv (a_gw A) (a_gh A) (a_gr A) (a_gn A) (a_kd A) (a_rv A r) t (k + 1) f' := by
                    show (match p_drive (a_gw A) (a_gh A) (a_gr A) (a_gn A) (a_kd A) f (a_rv A r k).toInt with
                      | none => (k, f)
                      | some f' => _) = _
                    rw [hd]
                  rw [hd] at s1 s2
                  have s1' : j_run (d + 5) 29 [.ref 31, .ref 27, .int (j_k (a_rv A r k).toInt)] (ST L p I1 J) = some (some (.int (j_k 1)), ST L p I3 J) := s1
                  have s2' : iF I3 31 (a_gn A) (a_kd A) f' := s2
                  rw [ed]
                  obtain ⟨I2, t1, t2⟩ := ih M (k + 1) (b + 40) f' I3 (by omega) (by omega) (by omega) (drive_ok hC hf hw2.1 hw2.2 hd) (by omega) s2' (hfr.tr s3)
                  refine ⟨I2, ?_, t2⟩
                  simp (disch := first | assumption | omega) only [k_add, k_sub, k_mul, k_lt, k_eq, k_lt0, k_0lt, k_eq0, k_nat, k_b0, k_b1, k_z1, k_z0, k_o1, k_o0, Int.reduceEq, Int.reduceLT, Int.reduceLE, Int.reduceAdd, Int.reduceMul, Int.reduceNeg, Bool.false_eq_true, or_true, true_or, or_false, false_or, and_true, true_and, and_false, false_and, not_true_eq_false, not_false_eq_true, ↓reduceIte, z_0, z_k, s_I, s_J, s_uI, s_uJ, z, ↓c_gP_0_4, ↓c_gP_0_3, ↓c_gP_0_0, ↓c_gP_1_0, ↓c_qa_2, ↓ia_row, hv, ↓f_oc, ↓jc1 s1']
                  exact t1
            obtain ⟨I2, t1, t2, t3, t4, t5, t6⟩ := loop (a_rz A r).toNat M 0 (a_fl A 0) (a_fl A) I (Int.le_refl 0) (by omega) (by omega) (okF_ti ho) (by omega) hF fr.rf
            exact .of ⟨I2, e4.trans t1, hx.flock t5 t6 t2 t3 t4, fun q hq => t5 q (by omega) (by omega)⟩
        · rw [if_pos w]
          exact .of ⟨I', e.trans (ch1 w), e2, fun q hq => e3 q (by omega) (by omega)⟩
  · have z1 : j_z (0 ≤ r ∧ r < 6) = j_k 0 := if_neg z
    rw [z1] at q1
    rw [if_neg z]
    simp (disch := first | assumption | omega) only [k_add, k_sub, k_mul, k_lt, k_eq, k_lt0, k_0lt, k_eq0, k_nat, k_b0, k_b1, k_z1, k_z0, k_o1, k_o0, Int.reduceEq, Int.reduceLT, Int.reduceLE, Int.reduceAdd, Int.reduceMul, Int.reduceNeg, Bool.false_eq_true, or_true, true_or, or_false, false_or, and_true, true_and, and_false, false_and, not_true_eq_false, not_false_eq_true, ↓reduceIte, z_0, z_k, s_I, s_J, s_uI, s_uJ, ↓c_gP_0_0, ↓c_oc_1, ↓jc1 q1] at e
    exact .of ⟨_, e, hx, fun _ _ => rfl⟩
theorem x_gather (hx : iX I J A) : xc L p I J (d + 7) 94 [.ref 0] (p_gather A) := by
  have hC := hx.1.1
  have ho := hx.1.2.1
  have hG := hx.2.2.2.1
  have hF := hx.2.2.2.2.1
  have hT := hx.2.2.2.2.2.2.2.2.1
  have hM := hx.2.2.2.2.2.2.2.1
  have hn := hC.2.2.1
  have hn4 := hC.2.2.2.1
  obtain ⟨bN0, bN1, -⟩ := bd_N hC
  have hA := fa_31
  have hg := ga_27
  have ql := s_lostOnes (L := L) (p := p) (d := d + 5) (J := J) hA hF hn hn4 ho bN1
  have e := (r_94 (d + 6) (ST L p I J) 0).trans (t_94_0 _ _ _ _)
  have lr := lost_rg (n := a_gn A) (f := a_fl A) hn
  have loop : ∀ (t M : Nat) (c : Int) (s : Int × Int) (I1 : Nat → Nat → Int32), 0 ≤ c → c + t = 4 * a_gn A → t < M → iX I1 J A → (∀ q, 87 ≤ q → I1 q = I q) → (-9 ≤ s.1 ∧ s.1 < 16) → (0 ≤ s.2 ∧ s.2 ≤ 160) →
      ∃ I2 s', s' = p_loop (p_gatB (a_gw A) (a_gh A) (a_gr A) (a_gn A) (a_kd A) (a_fl A) (p_lost (a_gn A) (a_fl A))) t c s ∧ j_exec k_94 h_94 (j_run (d + 6)) M 16 [some (.ref 0), some (.int (j_k s.1)), some (.int (j_k s.2)), some (.int (j_k (p_lost (a_gn A) (a_fl A)))), some (.int (j_k c)), none] [] (ST L p I1 J) = some (some (.int (j_k s'.1)), ST L p I2 J) ∧ iX I2 J (if s'.1 = -9 then A else A_told A (j_k s'.2)) ∧ ∀ q, 87 ≤ q → I2 q = I q := by
    intro t
    induction t with
    | zero =>
      intro M c s I1 c1 c2 hM hx1 hf s1 s2
      obtain ⟨M, rfl⟩ : ∃ q, M = q + 1 := ⟨M - 1, by omega⟩
      have z : ¬ c < 4 * a_gn A := by omega
      have qd := s_drives (L := L) (p := p) (d := d + 5) (J := J) hA hx1.2.2.2.2.1
      have s11 := s1.1
      have s12 := s1.2
      by_cases y : s.1 = -9
      · refine ⟨I1, s, rfl, ?_, by rw [if_pos y]; exact hx1, hf⟩
        rw [x_exec, t_94_16]
        simp (disch := first | assumption | omega) only [k_add, k_sub, k_mul, k_lt, k_eq, k_lt0, k_0lt, k_eq0, k_nat, k_b0, k_b1, k_z1, k_z0, k_o1, k_o0, Int.reduceEq, Int.reduceLT, Int.reduceLE, Int.reduceAdd, Int.reduceMul, Int.reduceNeg, Bool.false_eq_true, or_true, true_or, or_false, false_or, and_true, true_and, and_false, false_and, not_true_eq_false, not_false_eq_true, ↓reduceIte, z_0, z_k, s_I, s_J, s_uI, s_uJ, ↓c_gP_0_4, ↓f_oc, ↓jc1 qd, z, y]
      · refine ⟨u2 I1 0 13 (j_k s.2), s, rfl, ?_, ?_, fun q hq => by funext k; rw [u2_r (by omega), hf q hq]⟩
        · rw [x_exec, t_94_16]
          simp (disch := first | assumption | omega) only [k_add, k_sub, k_mul, k_lt, k_eq, k_lt0, k_0lt, k_eq0, k_nat, k_b0, k_b1, k_z1, k_z0, k_o1, k_o0, Int.reduceEq, Int.reduceLT, Int.reduceLE, Int.reduceAdd, Int.reduceMul, Int.reduceNeg, Bool.false_eq_true, or_true, true_or, or_false, false_or, and_true, true_and, and_false, false_and, not_true_eq_false, not_false_eq_true, ↓reduceIte, z_0, z_k, s_I, s_J, s_uI, s_uJ, ↓c_gP_0_4, ↓f_oc, ↓jc1 qd, z, y, ↓c_lt_0, ↓c_oc_0]
        · rw [if_neg y]
          exact hx1.tell (fun q a b => by funext k; rw [u2_r a]) (fun k hk => by rw [u2_k hk]) (u2_ss _ _ _ _)
    | succ t ih =>
      intro M c s I1 c1 c2 hM hx1 hf s1 s2
      obtain ⟨M, rfl⟩ : ∃ q, M = q + 1 := ⟨M - 1, by omega⟩
      have z : c < 4 * a_gn A := by omega
      have qd := s_drives (L := L) (p := p) (d := d + 5) (J := J) hA hx1.2.2.2.2.1
      have s11 := s1.1
      have s12 := s1.2
      have s21 := s2.1
      have s22 := s2.2
      obtain ⟨I2, t1, t2, t3⟩ := x_try (L := L) (p := p) (d := d) hx1 c1 z
      have hx2 : iX I2 J A := hx1.same (fun r hr => t3 r (by omega)) rfl
      have hf2 : ∀ q, 87 ≤ q → I2 q = I q := fun q hq => (t3 q (by omega)).trans (hf q hq)
      rw [x_exec, t_94_16, p_loopS]
      cases hd : p_drive (a_gw A) (a_gh A) (a_gr A) (a_gn A) (a_kd A) (a_fl A) c with
      | none =>
        rw [hd] at t1
        have t1' : j_run (d + 6) 123 [.ref 0, .int (j_k c)] (ST L p I1 J) = some (some (.int (j_k 0)), ST L p I2 J) := t1
        have eb : p_gatB (a_gw A) (a_gh A) (a_gr A) (a_gn A) (a_kd A) (a_fl A) (p_lost (a_gn A) (a_fl A)) c s = s := by unfold p_gatB; rw [hd]
        rw [eb]
        obtain ⟨I3, s', e0, e1, e2, e3⟩ := ih M (c + 1) s I2 (by omega) (by omega) (by omega) hx2 hf2 s1 s2
        refine ⟨I3, s', e0, ?_, e2, e3⟩
        simp (disch := first | assumption | omega) only [k_add, k_sub, k_mul, k_lt, k_eq, k_lt0, k_0lt, k_eq0, k_nat, k_b0, k_b1, k_z1, k_z0, k_o1, k_o0, Int.reduceEq, Int.reduceLT, Int.reduceLE, Int.reduceAdd, Int.reduceMul, Int.reduceNeg, Bool.false_eq_true, or_true, true_or, or_false, false_or, and_true, true_and, and_false, false_and, not_true_eq_false, not_false_eq_true, ↓reduceIte, z_0, z_k, s_I, s_J, s_uI, s_uJ, ↓c_gP_0_4, ↓f_oc, ↓jc1 qd, z, ↓c_oc_0, ↓jc1 t1']
        exact e1
      | some f' =>
        rw [hd] at t1 t2
        have t1' : j_run (d + 6) 123 [.ref 0, .int (j_k c)] (ST L p I1 J) = some (some (.int (j_k 1)), ST L p I2 J) := t1
        have t2' : iF I2 48 (a_gn A) (a_kd A) f' := t2
        have hof := drive_ok hC ho c1 z hd
        have qm := s_lostOnes (L := L) (p := p) (d := d + 5) (J := J) fa_48 t2' hn hn4 hof bN1
        have lr' := lost_rg (n := a_gn A) (f := f') hn
        by_cases y : p_lost (a_gn A) (a_fl A) < p_lost (a_gn A) f'
        · have eb : p_gatB (a_gw A) (a_gh A) (a_gr A) (a_gn A) (a_kd A) (a_fl A) (p_lost (a_gn A) (a_fl A)) c s = s := by unfold p_gatB; rw [hd]; exact if_pos y
          rw [eb]
          obtain ⟨I3, s', e0, e1, e2, e3⟩ := ih M (c + 1) s I2 (by omega) (by omega) (by omega) hx2 hf2 s1 s2
          refine ⟨I3, s', e0, ?_, e2, e3⟩
          simp (disch := first | assumption | omega) only [k_add, k_sub, k_mul, k_lt, k_eq, k_lt0, k_0lt, k_eq0, k_nat, k_b0, k_b1, k_z1, k_z0, k_o1, k_o0, Int.reduceEq, Int.reduceLT, Int.reduceLE, Int.reduceAdd, Int.reduceMul, Int.reduceNeg, Bool.false_eq_true, or_true, true_or, or_false, false_or, and_true, true_and, and_false, false_and, not_true_eq_false, not_false_eq_true, ↓reduceIte, z_0, z_k, s_I, s_J, s_uI, s_uJ, ↓c_gP_0_4, ↓f_oc fa_31, ↓jc1 qd, z, ↓c_oc_0, ↓jc1 t1', ↓c_gP_0_6, ↓f_oc fa_48, ↓jc1 qm, y]
          exact e1
        · have qa := s_allOff (L := L) (p := p) (d := d + 4) (J := J) fa_48 hg t2' hx2.2.2.2.1 hC hof
          have ar := apart_rg hC hof
          have ar1 := ar.1
          have ar2 := ar.2
          by_cases v : s.1 = -9 ∨ p_apart (a_gw A) (a_gn A) f' < s.2
          · have eb : p_gatB (a_gw A) (a_gh A) (a_gr A) (a_gn A) (a_kd A) (a_fl A) (p_lost (a_gn A) (a_fl A)) c s = (c, p_apart (a_gw A) (a_gn A) f') := by unfold p_gatB; rw [hd]; exact (if_neg y).trans (if_pos v)
            rw [eb]
            obtain ⟨I3, s', e0, e1, e2, e3⟩ := ih M (c + 1) (c, p_apart (a_gw A) (a_gn A) f') I2 (by omega) (by omega) (by omega) hx2 hf2 (by show -9 ≤ c ∧ c < 16; omega) (by show 0 ≤ p_apart (a_gw A) (a_gn A) f' ∧ p_apart (a_gw A) (a_gn A) f' ≤ 160; omega)
            refine ⟨I3, s', e0, ?_, e2, e3⟩
            by_cases v1 : s.1 = -9
            · simp (disch := first | assumption | omega) only [k_add, k_sub, k_mul, k_lt, k_eq, k_lt0, k_0lt, k_eq0, k_nat, k_b0, k_b1, k_z1, k_z0, k_o1, k_o0, Int.reduceEq, Int.reduceLT, Int.reduceLE, Int.reduceAdd, Int.reduceMul, Int.reduceNeg, Bool.false_eq_true, or_true, true_or, or_false, false_or, and_true, true_and, and_false, false_and, not_true_eq_false, not_false_eq_true, ↓reduceIte, z_0, z_k, s_I, s_J, s_uI, s_uJ, ↓c_gP_0_4, ↓f_oc fa_31, ↓jc1 qd, z, ↓c_oc_0, ↓jc1 t1', ↓c_gP_0_6, ↓c_gP_0_3, ↓f_oc fa_48, ↓jc1 qm, y, ↓jc1 qa, v1]
              exact e1
            · have v2 := v.resolve_left v1
              simp (disch := first | assumption | omega) only [k_add, k_sub, k_mul, k_lt, k_eq, k_lt0, k_0lt, k_eq0, k_nat, k_b0, k_b1, k_z1, k_z0, k_o1, k_o0, Int.reduceEq, Int.reduceLT, Int.reduceLE, Int.reduceAdd, Int.reduceMul, Int.reduceNeg, Bool.false_eq_true, or_true, true_or, or_false, false_or, and_true, true_and, and_false, false_and, not_true_eq_false, not_false_eq_true, ↓reduceIte, z_0, z_k, s_I, s_J, s_uI, s_uJ, ↓c_gP_0_4, ↓f_oc fa_31, ↓jc1 qd, z, ↓c_oc_0, ↓jc1 t1', ↓c_gP_0_6, ↓c_gP_0_3, ↓f_oc fa_48, ↓jc1 qm, y, ↓jc1 qa, v1, v2]
              exact e1
          · have eb : p_gatB (a_gw A) (a_gh A) (a_gr A) (a_gn A) (a_kd A) (a_fl A) (p_lost (a_gn A) (a_fl A)) c s = s := by unfold p_gatB; rw [hd]; exact (if_neg y).trans (if_neg v)
            rw [eb]
            obtain ⟨I3, s', e0, e1, e2, e3⟩ := ih M (c + 1) s I2 (by omega) (by omega) (by omega) hx2 hf2 s1 s2
            refine ⟨I3, s', e0, ?_, e2, e3⟩
            have v1 : ¬ s.1 = -9 := fun u => v (Or.inl u)
            have v2 : ¬ p_apart (a_gw A) (a_gn A) f' < s.2 := fun u => v (Or.inr u)
            simp (disch := first | assumption | omega) only [k_add, k_sub, k_mul, k_lt, k_eq, k_lt0, k_0lt, k_eq0, k_nat, k_b0, k_b1, k_z1, k_z0, k_o1, k_o0, Int.reduceEq, Int.reduceLT, Int.reduceLE, Int.reduceAdd, Int.reduceMul, Int.reduceNeg, Bool.false_eq_true, or_true, true_or, or_false, false_or, and_true, true_and, and_false, false_and, not_true_eq_false, not_false_eq_true, ↓reduceIte, z_0, z_k, s_I, s_J, s_uI, s_uJ, ↓c_gP_0_4, ↓f_oc fa_31, ↓jc1 qd, z, ↓c_oc_0, ↓jc1 t1', ↓c_gP_0_6, ↓c_gP_0_3, ↓f_oc fa_48, ↓jc1 qm, y, ↓jc1 qa, v1, v2]
            exact e1
  obtain ⟨I2, s', e0, e1, e2, e3⟩ := loop (4 * a_gn A).toNat 999999 0 (-9, 0) I (Int.le_refl 0) (by omega) (by omega) hx (fun _ _ => rfl) (by decide) (by decide)
  simp (disch := first | assumption | omega) only [k_add, k_sub, k_mul, k_lt, k_eq, k_lt0, k_0lt, k_eq0, k_nat, k_b0, k_b1, k_z1, k_z0, k_o1, k_o0, Int.reduceEq, Int.reduceLT, Int.reduceLE, Int.reduceAdd, Int.reduceMul, Int.reduceNeg, Bool.false_eq_true, or_true, true_or, or_false, false_or, and_true, true_and, and_false, false_and, not_true_eq_false, not_false_eq_true, ↓reduceIte, z_0, z_k, s_I, s_J, s_uI, s_uJ, ↓c_gP_0_4, ↓f_oc, ↓jc1 ql] at e
  have e0' : s' = p_gatS A := e0
  subst e0'
  unfold p_gather
  by_cases y : (p_gatS A).1 = -9
  · rw [if_pos y] at e2 ⊢
    rw [y] at e1
    exact .of ⟨I2, e.trans e1, e2, e3⟩
  · rw [if_neg y] at e2 ⊢
    exact .of ⟨I2, e.trans e1, e2, e3⟩
theorem x_part (hx : iX I J A) {k j : Int} (h1 : -2147483648 ≤ k) (h2 : k < 2147483648) (h3 : -2147483648 ≤ j) (h4 : j < 2147483648) : xc L p I J (d + 7) 95 [.ref 0, .int (j_k k), .int (j_k j)] (p_part k j A) := by
  have hC := hx.1.1
  have ho := hx.1.2.1
  have hG := hx.2.2.2.1
  have hF := hx.2.2.2.2.1
  have hT := hx.2.2.2.2.2.2.2.2.1
  have hM := hx.2.2.2.2.2.2.2.1
  have hn := hC.2.2.1
  have hn4 := hC.2.2.2.1
  obtain ⟨bN0, bN1, -⟩ := bd_N hC
  have hA := fa_31
  have hg := ga_27
  have e := (r_95 (d + 6) (ST L p I J) 0 (j_k k) (j_k j)).trans (t_95_0 _ _ _ _ _ _)
  have q1 := s_has (L := L) (p := p) (d := d + 5) (J := J) hA hF hn hn4 h1 h2
  have q2 := s_has (L := L) (p := p) (d := d + 5) (J := J) hA hF hn hn4 h3 h4
  unfold p_part
  by_cases z : 0 ≤ k ∧ k < a_gn A
  · have z1 : j_z (0 ≤ k ∧ k < a_gn A) = j_k 1 := if_pos z
    rw [z1] at q1
    by_cases y : 0 ≤ j ∧ j < a_gn A
    · have y1 : j_z (0 ≤ j ∧ j < a_gn A) = j_k 1 := if_pos y
      rw [y1] at q2
      by_cases x : k = j
      · rw [if_neg (fun u => u.2.2 x)]
        simp (disch := first | assumption | omega) only [k_add, k_sub, k_mul, k_lt, k_eq, k_lt0, k_0lt, k_eq0, k_nat, k_b0, k_b1, k_z1, k_z0, k_o1, k_o0, Int.reduceEq, Int.reduceLT, Int.reduceLE, Int.reduceAdd, Int.reduceMul, Int.reduceNeg, Bool.false_eq_true, or_true, true_or, or_false, false_or, and_true, true_and, and_false, false_and, not_true_eq_false, not_false_eq_true, ↓reduceIte, z_0, z_k, s_I, s_J, s_uI, s_uJ, ↓c_gP_0_4, ↓f_oc, ↓jc1 q1, ↓jc1 q2] at e
        rw [if_pos x] at e
        exact .of ⟨_, e, hx, fun _ _ => rfl⟩
      · rw [if_pos ⟨z, y, x⟩]
        simp (disch := first | assumption | omega) only [k_add, k_sub, k_mul, k_lt, k_eq, k_lt0, k_0lt, k_eq0, k_nat, k_b0, k_b1, k_z1, k_z0, k_o1, k_o0, Int.reduceEq, Int.reduceLT, Int.reduceLE, Int.reduceAdd, Int.reduceMul, Int.reduceNeg, Bool.false_eq_true, or_true, true_or, or_false, false_or, and_true, true_and, and_false, false_and, not_true_eq_false, not_false_eq_true, ↓reduceIte, z_0, z_k, s_I, s_J, s_uI, s_uJ, ↓c_gP_0_4, ↓f_oc, ↓jc1 q1, ↓jc1 q2, x] at e
        obtain ⟨k1, k2⟩ := z
        obtain ⟨j1, j2⟩ := y
        have k4 : k < 4 := by omega
        have j4 : j < 4 := by omega
        have loop : ∀ (t M : Nat) (c : Int) (s : Int × Int) (I1 : Nat → Nat → Int32), 0 ≤ c → c + t = 4 * a_gn A → t < M → iX I1 J A → (∀ q, 87 ≤ q → I1 q = I q) → (-9 ≤ s.1 ∧ s.1 < 16) → (0 ≤ s.2 ∧ s.2 ≤ 160) →
            ∃ I2 s', s' = p_loop (p_parB (a_gw A) (a_gh A) (a_gr A) (a_gn A) (a_kd A) (a_fl A) k j) t c s ∧ j_exec k_95 h_95 (j_run (d + 6)) M 38 [some (.ref 0), some (.int (j_k k)), some (.int (j_k j)), some (.int (j_k s.1)), some (.int (j_k s.2)), some (.int (j_k c)), none] [] (ST L p I1 J) = some (some (.int (j_k s'.1)), ST L p I2 J) ∧ iX I2 J (if s'.1 = -9 then A else A_told A (j_k s'.2)) ∧ ∀ q, 87 ≤ q → I2 q = I q := by
          intro t
          induction t with
          | zero =>
            intro M c s I1 c1 c2 hM hx1 hf s1 s2
            obtain ⟨M, rfl⟩ : ∃ q, M = q + 1 := ⟨M - 1, by omega⟩
            have z : ¬ c < 4 * a_gn A := by omega
            have qd := s_drives (L := L) (p := p) (d := d + 5) (J := J) hA hx1.2.2.2.2.1
            have s11 := s1.1
            have s12 := s1.2
            by_cases y : s.1 = -9
            · refine ⟨I1, s, rfl, ?_, by rw [if_pos y]; exact hx1, hf⟩
              rw [x_exec, t_95_38]
              simp (disch := first | assumption | omega) only [k_add, k_sub, k_mul, k_lt, k_eq, k_lt0, k_0lt, k_eq0, k_nat, k_b0, k_b1, k_z1, k_z0, k_o1, k_o0, Int.reduceEq, Int.reduceLT, Int.reduceLE, Int.reduceAdd, Int.reduceMul, Int.reduceNeg, Bool.false_eq_true, or_true, true_or, or_false, false_or, and_true, true_and, and_false, false_and, not_true_eq_false, not_false_eq_true, ↓reduceIte, z_0, z_k, s_I, s_J, s_uI, s_uJ, ↓c_gP_0_4, ↓f_oc, ↓jc1 qd, z, y]
            · refine ⟨u2 I1 0 13 (j_k s.2), s, rfl, ?_, ?_, fun q hq => by funext k; rw [u2_r (by omega), hf q hq]⟩
              · rw [x_exec, t_95_38]
                simp (disch := first | assumption | omega) only [k_add, k_sub, k_mul, k_lt, k_eq, k_lt0, k_0lt, k_eq0, k_nat, k_b0, k_b1, k_z1, k_z0, k_o1, k_o0, Int.reduceEq, Int.reduceLT, Int.reduceLE, Int.reduceAdd, Int.reduceMul, Int.reduceNeg, Bool.false_eq_true, or_true, true_or, or_false, false_or, and_true, true_and, and_false, false_and, not_true_eq_false, not_false_eq_true, ↓reduceIte, z_0, z_k, s_I, s_J, s_uI, s_uJ, ↓c_gP_0_4, ↓f_oc, ↓jc1 qd, z, y, ↓c_lt_0, ↓c_oc_0]
              · rw [if_neg y]
                exact hx1.tell (fun q a b => by funext k; rw [u2_r a]) (fun k hk => by rw [u2_k hk]) (u2_ss _ _ _ _)
          | succ t ih =>
            intro M c s I1 c1 c2 hM hx1 hf s1 s2
            obtain ⟨M, rfl⟩ : ∃ q, M = q + 1 := ⟨M - 1, by omega⟩
            have z : c < 4 * a_gn A := by omega
            have qd := s_drives (L := L) (p := p) (d := d + 5) (J := J) hA hx1.2.2.2.2.1
            have s11 := s1.1
            have s12 := s1.2
            have s21 := s2.1
            have s22 := s2.2
            obtain ⟨I2, t1, t2, t3⟩ := x_try (L := L) (p := p) (d := d) hx1 c1 z
            have hx2 : iX I2 J A := hx1.same (fun r hr => t3 r (by omega)) rfl
            have hf2 : ∀ q, 87 ≤ q → I2 q = I q := fun q hq => (t3 q (by omega)).trans (hf q hq)
            rw [x_exec, t_95_38, p_loopS]
            cases hd : p_drive (a_gw A) (a_gh A) (a_gr A) (a_gn A) (a_kd A) (a_fl A) c with
            | none =>
              rw [hd] at t1
              have t1' : j_run (d + 6) 123 [.ref 0, .int (j_k c)] (ST L p I1 J) = some (some (.int (j_k 0)), ST L p I2 J) := t1
              have eb : p_parB (a_gw A) (a_gh A) (a_gr A) (a_gn A) (a_kd A) (a_fl A) k j c s = s := by unfold p_parB; rw [hd]
              rw [eb]
              obtain ⟨I3, s', e0, e1, e2, e3⟩ := ih M (c + 1) s I2 (by omega) (by omega) (by omega) hx2 hf2 s1 s2
              refine ⟨I3, s', e0, ?_, e2, e3⟩
              simp (disch := first | assumption | omega) only [k_add, k_sub, k_mul, k_lt, k_eq, k_lt0, k_0lt, k_eq0, k_nat, k_b0, k_b1, k_z1, k_z0, k_o1, k_o0, Int.reduceEq, Int.reduceLT, Int.reduceLE, Int.reduceAdd, Int.reduceMul, Int.reduceNeg, Bool.false_eq_true, or_true, true_or, or_false, false_or, and_true, true_and, and_false, false_and, not_true_eq_false, not_false_eq_true, ↓reduceIte, z_0, z_k, s_I, s_J, s_uI, s_uJ, ↓c_gP_0_4, ↓f_oc, ↓jc1 qd, z, ↓c_oc_0, ↓jc1 t1']
              exact e1
            | some f' =>
              rw [hd] at t1 t2
              have t1' : j_run (d + 6) 123 [.ref 0, .int (j_k c)] (ST L p I1 J) = some (some (.int (j_k 1)), ST L p I2 J) := t1
              have t2' : iF I2 48 (a_gn A) (a_kd A) f' := t2
              have hof := drive_ok hC ho c1 z hd
              have qk := s_isLost (L := L) (p := p) (d := d + 5) (J := J) fa_48 t2' hn4 hof bN1 k1 k2
              have qj := s_isLost (L := L) (p := p) (d := d + 5) (J := J) fa_48 t2' hn4 hof bN1 j1 j2
              have vk := t2'.2.2.2.2.2.2.2.1 k k1 k2
              have vj := t2'.2.2.2.2.2.2.2.1 j j1 j2
              by_cases yk : f' (5 + k) = -9
              · have yk1 : j_z (f' (5 + k) = -9) = j_k 1 := if_pos yk
                rw [yk1] at qk
                have eb : p_parB (a_gw A) (a_gh A) (a_gr A) (a_gn A) (a_kd A) (a_fl A) k j c s = s := by unfold p_parB; rw [hd]; exact if_pos (Or.inl yk)
                rw [eb]
                obtain ⟨I3, s', e0, e1, e2, e3⟩ := ih M (c + 1) s I2 (by omega) (by omega) (by omega) hx2 hf2 s1 s2
                refine ⟨I3, s', e0, ?_, e2, e3⟩
                simp (disch := first | assumption | omega) only [k_add, k_sub, k_mul, k_lt, k_eq, k_lt0, k_0lt, k_eq0, k_nat, k_b0, k_b1, k_z1, k_z0, k_o1, k_o0, Int.reduceEq, Int.reduceLT, Int.reduceLE, Int.reduceAdd, Int.reduceMul, Int.reduceNeg, Bool.false_eq_true, or_true, true_or, or_false, false_or, and_true, true_and, and_false, false_and, not_true_eq_false, not_false_eq_true, ↓reduceIte, z_0, z_k, s_I, s_J, s_uI, s_uJ, ↓c_gP_0_4, ↓f_oc fa_31, ↓jc1 qd, z, ↓c_oc_0, ↓jc1 t1', ↓c_gP_0_6, ↓f_oc fa_48, ↓jc1 qk]
                exact e1
              · have yk1 : j_z (f' (5 + k) = -9) = j_k 0 := if_neg yk
                rw [yk1] at qk
                by_cases yj : f' (5 + j) = -9
                · have yj1 : j_z (f' (5 + j) = -9) = j_k 1 := if_pos yj
                  rw [yj1] at qj
                  have eb : p_parB (a_gw A) (a_gh A) (a_gr A) (a_gn A) (a_kd A) (a_fl A) k j c s = s := by unfold p_parB; rw [hd]; exact if_pos (Or.inr yj)
                  rw [eb]
                  obtain ⟨I3, s', e0, e1, e2, e3⟩ := ih M (c + 1) s I2 (by omega) (by omega) (by omega) hx2 hf2 s1 s2
                  refine ⟨I3, s', e0, ?_, e2, e3⟩
                  simp (disch := first | assumption | omega) only [k_add, k_sub, k_mul, k_lt, k_eq, k_lt0, k_0lt, k_eq0, k_nat, k_b0, k_b1, k_z1, k_z0, k_o1, k_o0, Int.reduceEq, Int.reduceLT, Int.reduceLE, Int.reduceAdd, Int.reduceMul, Int.reduceNeg, Bool.false_eq_true, or_true, true_or, or_false, false_or, and_true, true_and, and_false, false_and, not_true_eq_false, not_false_eq_true, ↓reduceIte, z_0, z_k, s_I, s_J, s_uI, s_uJ, ↓c_gP_0_4, ↓f_oc fa_31, ↓jc1 qd, z, ↓c_oc_0, ↓jc1 t1', ↓c_gP_0_6, ↓f_oc fa_48, ↓jc1 qk, ↓jc1 qj]
                  exact e1
                · have yj1 : j_z (f' (5 + j) = -9) = j_k 0 := if_neg yj
                  rw [yj1] at qj
                  have ck := (hof.1 k k1 k2).resolve_left yk
                  have cj := (hof.1 j j1 j2).resolve_left yj
                  have qa := s_off (L := L) (p := p) (d := d + 5) (J := J) hg hx2.2.2.2.1 hC ck.1 ck.2 cj.1 cj.2
                  have ar := off_rg hC ck.1 ck.2 cj.1 cj.2
                  have ar1 := ar.1
                  have ar2 := ar.2
                  have y : ¬ (f' (5 + k) = -9 ∨ f' (5 + j) = -9) := fun u => u.elim yk yj
                  by_cases v : s.1 = -9 ∨ s.2 < p_off (a_gw A) (f' (5 + k)) (f' (5 + j))
                  · have eb : p_parB (a_gw A) (a_gh A) (a_gr A) (a_gn A) (a_kd A) (a_fl A) k j c s = (c, p_off (a_gw A) (f' (5 + k)) (f' (5 + j))) := by unfold p_parB; rw [hd]; exact (if_neg y).trans (if_pos v)
                    rw [eb]
                    obtain ⟨I3, s', e0, e1, e2, e3⟩ := ih M (c + 1) (c, p_off (a_gw A) (f' (5 + k)) (f' (5 + j))) I2 (by omega) (by omega) (by omega) hx2 hf2 (by show -9 ≤ c ∧ c < 16; omega) (by show 0 ≤ p_off (a_gw A) (f' (5 + k)) (f' (5 + j)) ∧ p_off (a_gw A) (f' (5 + k)) (f' (5 + j)) ≤ 160; omega)
                    refine ⟨I3, s', e0, ?_, e2, e3⟩
                    by_cases v1 : s.1 = -9
                    · simp (disch := first | assumption | omega) only [k_add, k_sub, k_mul, k_lt, k_eq, k_lt0, k_0lt, k_eq0, k_nat, k_b0, k_b1, k_z1, k_z0, k_o1, k_o0, Int.reduceEq, Int.reduceLT, Int.reduceLE, Int.reduceAdd, Int.reduceMul, Int.reduceNeg, Bool.false_eq_true, or_true, true_or, or_false, false_or, and_true, true_and, and_false, false_and, not_true_eq_false, not_false_eq_true, ↓reduceIte, z_0, z_k, s_I, s_J, s_uI, s_uJ, ↓c_gP_0_4, ↓f_oc fa_31, ↓jc1 qd, z, ↓c_oc_0, ↓jc1 t1', ↓c_gP_0_6, ↓c_gP_0_3, ↓f_oc fa_48, ↓jc1 qk, ↓jc1 qj, ↓f_gP1 fa_48, ↓f_ia1 fa_48, vk, vj, ↓g_oc, ↓jc1 qa, v1]
                      exact e1
                    · have v2 := v.resolve_left v1
                      simp (disch := first | assumption | omega) only [k_add, k_sub, k_mul, k_lt, k_eq, k_lt0, k_0lt, k_eq0, k_nat, k_b0, k_b1, k_z1, k_z0, k_o1, k_o0, Int.reduceEq, Int.reduceLT, Int.reduceLE, Int.reduceAdd, Int.reduceMul, Int.reduceNeg, Bool.false_eq_true, or_true, true_or, or_false, false_or, and_true, true_and, and_false, false_and, not_true_eq_false, not_false_eq_true, ↓reduceIte, z_0, z_k, s_I, s_J, s_uI, s_uJ, ↓c_gP_0_4, ↓f_oc fa_31, ↓jc1 qd, z, ↓c_oc_0, ↓jc1 t1', ↓c_gP_0_6, ↓c_gP_0_3, ↓f_oc fa_48, ↓jc1 qk, ↓jc1 qj, ↓f_gP1 fa_48, ↓f_ia1 fa_48, vk, vj, ↓g_oc, ↓jc1 qa, v1, v2]
                      exact e1
                  · have eb : p_parB (a_gw A) (a_gh A) (a_gr A) (a_gn A) (a_kd A) (a_fl A) k j c s = s := by unfold p_parB; rw [hd]; exact (if_neg y).trans (if_neg v)
                    rw [eb]
                    obtain ⟨I3, s', e0, e1, e2, e3⟩ := ih M (c + 1) s I2 (by omega) (by omega) (by omega) hx2 hf2 s1 s2
                    refine ⟨I3, s', e0, ?_, e2, e3⟩
                    have v1 : ¬ s.1 = -9 := fun u => v (Or.inl u)
                    have v2 : ¬ s.2 < p_off (a_gw A) (f' (5 + k)) (f' (5 + j)) := fun u => v (Or.inr u)
                    simp (disch := first | assumption | omega) only [k_add, k_sub, k_mul, k_lt, k_eq, k_lt0, k_0lt, k_eq0, k_nat, k_b0, k_b1, k_z1, k_z0, k_o1, k_o0, Int.reduceEq, Int.reduceLT, Int.reduceLE, Int.reduceAdd, Int.reduceMul, Int.reduceNeg, Bool.false_eq_true, or_true, true_or, or_false, false_or, and_true, true_and, and_false, false_and, not_true_eq_false, not_false_eq_true, ↓reduceIte, z_0, z_k, s_I, s_J, s_uI, s_uJ, ↓c_gP_0_4, ↓f_oc fa_31, ↓jc1 qd, z, ↓c_oc_0, ↓jc1 t1', ↓c_gP_0_6, ↓c_gP_0_3, ↓f_oc fa_48, ↓jc1 qk, ↓jc1 qj, ↓f_gP1 fa_48, ↓f_ia1 fa_48, vk, vj, ↓g_oc, ↓jc1 qa, v1, v2]
                    exact e1
        obtain ⟨I2, s', e0, e1, e2, e3⟩ := loop (4 * a_gn A).toNat 999999 0 (-9, 0) I (Int.le_refl 0) (by omega) (by omega) hx (fun _ _ => rfl) (by decide) (by decide)
        have e0' : s' = p_parS k j A := e0
        subst e0'
        by_cases y : (p_parS k j A).1 = -9
        · rw [if_pos y] at e2 ⊢
          rw [y] at e1
          exact .of ⟨I2, e.trans e1, e2, e3⟩
        · rw [if_neg y] at e2 ⊢
          exact .of ⟨I2, e.trans e1, e2, e3⟩
    · have y1 : j_z (0 ≤ j ∧ j < a_gn A) = j_k 0 := if_neg y
      rw [y1] at q2
      rw [if_neg (fun u => y u.2.1)]
      simp (disch := first | assumption | omega) only [k_add, k_sub, k_mul, k_lt, k_eq, k_lt0, k_0lt, k_eq0, k_nat, k_b0, k_b1, k_z1, k_z0, k_o1, k_o0, Int.reduceEq, Int.reduceLT, Int.reduceLE, Int.reduceAdd, Int.reduceMul, Int.reduceNeg, Bool.false_eq_true, or_true, true_or, or_false, false_or, and_true, true_and, and_false, false_and, not_true_eq_false, not_false_eq_true, ↓reduceIte, z_0, z_k, s_I, s_J, s_uI, s_uJ, ↓c_gP_0_4, ↓f_oc, ↓jc1 q1, ↓jc1 q2] at e
      exact .of ⟨_, e, hx, fun _ _ => rfl⟩
  · have z1 : j_z (0 ≤ k ∧ k < a_gn A) = j_k 0 := if_neg z
    rw [z1] at q1
    rw [if_neg (fun u => z u.1)]
    simp (disch := first | assumption | omega) only [k_add, k_sub, k_mul, k_lt, k_eq, k_lt0, k_0lt, k_eq0, k_nat, k_b0, k_b1, k_z1, k_z0, k_o1, k_o0, Int.reduceEq, Int.reduceLT, Int.reduceLE, Int.reduceAdd, Int.reduceMul, Int.reduceNeg, Bool.false_eq_true, or_true, true_or, or_false, false_or, and_true, true_and, and_false, false_and, not_true_eq_false, not_false_eq_true, ↓reduceIte, z_0, z_k, s_I, s_J, s_uI, s_uJ, ↓c_gP_0_4, ↓f_oc, ↓jc1 q1] at e
    exact .of ⟨_, e, hx, fun _ _ => rfl⟩
end CALLS5
