/-! ===== the class's calls: drive, gather, part ===== -/
theorem loop_in {α : Type} {b : Int → α → α} {P : Int → α → Prop} {k0 n : Int} (hs : ∀ k s, k0 ≤ k → k < n → P k s → P (k + 1) (b k s)) : ∀ (m : Nat) (k : Int) (s : α), k0 ≤ k → k + m = n → P k s → P n (p_loop b m k s)
  | 0, k, s, h1, h2, hp => by
    have e : k = n := by omega
    subst e
    exact hp
  | m + 1, k, s, h1, h2, hp => loop_in hs m (k + 1) (b k s) (by omega) (by omega) (hs k s h1 (by omega) hp)
theorem apart_rg {w h N n b : Int} {gr kd f : Fl} (hC : okC w h N n gr kd) (ho : okF N n b f) : 0 ≤ p_apart w n f ∧ p_apart w n f ≤ 40 * n := by
  have hn := hC.2.2.1
  have hn4 := hC.2.2.2.1
  refine loop_in (k0 := 0) (n := n) (P := fun k s => 0 ≤ s ∧ s ≤ 40 * k) (fun k s k1 k2 hs => ?_) n.toNat 0 0 (Int.le_refl 0) (by omega) ⟨Int.le_refl _, Int.le_refl _⟩
  have := loop_in (k0 := k + 1) (n := n) (P := fun j s => 0 ≤ s ∧ s ≤ 40 * k + 10 * (j - (k + 1))) (b := fun j s => if f (5 + k) ≠ -9 ∧ f (5 + j) ≠ -9 then s + p_off w (f (5 + k)) (f (5 + j)) else s) (fun j s j1 j2 hs => ?_) (n - (k + 1)).toNat (k + 1) s (Int.le_refl _) (by omega) (by show 0 ≤ s ∧ s ≤ 40 * k + 10 * (k + 1 - (k + 1)); omega)
  · show 0 ≤ p_loop _ _ _ _ ∧ p_loop _ _ _ _ ≤ 40 * (k + 1)
    have t : 0 ≤ p_loop (fun j s => if f (5 + k) ≠ -9 ∧ f (5 + j) ≠ -9 then s + p_off w (f (5 + k)) (f (5 + j)) else s) (n - (k + 1)).toNat (k + 1) s ∧ p_loop (fun j s => if f (5 + k) ≠ -9 ∧ f (5 + j) ≠ -9 then s + p_off w (f (5 + k)) (f (5 + j)) else s) (n - (k + 1)).toNat (k + 1) s ≤ 40 * k + 10 * (n - (k + 1)) := this
    exact ⟨t.1, by omega⟩
  · show 0 ≤ (if f (5 + k) ≠ -9 ∧ f (5 + j) ≠ -9 then s + p_off w (f (5 + k)) (f (5 + j)) else s) ∧ (if f (5 + k) ≠ -9 ∧ f (5 + j) ≠ -9 then s + p_off w (f (5 + k)) (f (5 + j)) else s) ≤ 40 * k + 10 * (j + 1 - (k + 1))
    have hs' : 0 ≤ s ∧ s ≤ 40 * k + 10 * (j - (k + 1)) := hs
    by_cases z : f (5 + k) ≠ -9 ∧ f (5 + j) ≠ -9
    · have a := (ho.1 k k1 k2).resolve_left z.1
      have c := (ho.1 j (by omega) j2).resolve_left z.2
      have := off_rg hC a.1 a.2 c.1 c.2
      rw [if_pos z]
      omega
    · rw [if_neg z]
      omega
def p_gatB (w h : Int) (gr : Fl) (n : Int) (kd f : Fl) (l0 : Int) (c : Int) (s : Int × Int) : Int × Int := match p_drive w h gr n kd f c with
  | none => s
  | some f' => if l0 < p_lost n f' then s else if s.1 = -9 ∨ p_apart w n f' < s.2 then (c, p_apart w n f') else s
def p_gatS (A : Ast) : Int × Int := p_loop (p_gatB (a_gw A) (a_gh A) (a_gr A) (a_gn A) (a_kd A) (a_fl A) (p_lost (a_gn A) (a_fl A))) (4 * a_gn A).toNat 0 (-9, 0)
def p_gather (A : Ast) : Int × Ast := if (p_gatS A).1 = -9 then (-9, A) else ((p_gatS A).1, A_told A (j_k (p_gatS A).2))
def p_parB (w h : Int) (gr : Fl) (n : Int) (kd f : Fl) (k j : Int) (c : Int) (s : Int × Int) : Int × Int := match p_drive w h gr n kd f c with
  | none => s
  | some f' => if f' (5 + k) = -9 ∨ f' (5 + j) = -9 then s else if s.1 = -9 ∨ s.2 < p_off w (f' (5 + k)) (f' (5 + j)) then (c, p_off w (f' (5 + k)) (f' (5 + j))) else s
def p_parS (k j : Int) (A : Ast) : Int × Int := p_loop (p_parB (a_gw A) (a_gh A) (a_gr A) (a_gn A) (a_kd A) (a_fl A) k j) (4 * a_gn A).toNat 0 (-9, 0)
def p_part (k j : Int) (A : Ast) : Int × Ast := if (0 ≤ k ∧ k < a_gn A) ∧ (0 ≤ j ∧ j < a_gn A) ∧ k ≠ j then (if (p_parS k j A).1 = -9 then (-9, A) else ((p_parS k j A).1, A_told A (j_k (p_parS k j A).2))) else (-1, A)
section CALLS5
variable {L p d : Nat} {J : Nat → Nat → Int64} {I I' : Nat → Nat → Int32} {A : Ast} {K : Option Rr} {r i : Int}
theorem x_gather (hx : iX I J A) : xc L p I J (d + 7) 94 [.ref 0] (p_gather A) := by
  have hC := hx.1.1
  have ho := hx.1.2.1
  have hG := hx.2.2.2.1
  have hF := hx.2.2.2.2.1
  have hT := hx.2.2.2.2.2.2.2.2.1
  have hM := hx.2.2.2.2.2.2.2.1
  have hn := hC.2.2.1
  have hn4 := hC.2.2.2.1
  obtain ⟨bN0, bN1, -⟩ := bd_N hC
  have hA := fa_31
  have hg := ga_27
  have ql := s_lostOnes (L := L) (p := p) (d := d + 5) (J := J) hA hF hn hn4 ho bN1
  have e := (r_94 (d + 6) (ST L p I J) 0).trans (t_94_0 _ _ _ _)
  have lr := lost_rg (n := a_gn A) (f := a_fl A) hn
  have loop : ∀ (t M : Nat) (c : Int) (s : Int × Int) (I1 : Nat → Nat → Int32), 0 ≤ c → c + t = 4 * a_gn A → t < M → iX I1 J A → (∀ q, 87 ≤ q → I1 q = I q) → (-9 ≤ s.1 ∧ s.1 < 16) → (0 ≤ s.2 ∧ s.2 ≤ 160) →
      ∃ I2 s', s' = p_loop (p_gatB (a_gw A) (a_gh A) (a_gr A) (a_gn A) (a_kd A) (a_fl A) (p_lost (a_gn A) (a_fl A))) t c s ∧ j_exec k_94 h_94 (j_run (d + 6)) M 16 [some (.ref 0), some (.int (j_k s.1)), some (.int (j_k s.2)), some (.int (j_k (p_lost (a_gn A) (a_fl A)))), some (.int (j_k c)), none] [] (ST L p I1 J) = some (some (.int (j_k s'.1)), ST L p I2 J) ∧ iX I2 J (if s'.1 = -9 then A else A_told A (j_k s'.2)) ∧ ∀ q, 87 ≤ q → I2 q = I q := by
    intro t
    induction t with
    | zero =>
      intro M c s I1 c1 c2 hM hx1 hf s1 s2
      obtain ⟨M, rfl⟩ : ∃ q, M = q + 1 := ⟨M - 1, by omega⟩
      have z : ¬ c < 4 * a_gn A := by omega
      have qd := s_drives (L := L) (p := p) (d := d + 5) (J := J) hA hx1.2.2.2.2.1
      have s11 := s1.1
      have s12 := s1.2
      by_cases y : s.1 = -9
      · refine ⟨I1, s, rfl, ?_, by rw [if_pos y]; exact hx1, hf⟩
        rw [x_exec, t_94_16]
        simp (disch := first | assumption | omega) only [k_add, k_sub, k_mul, k_lt, k_eq, k_lt0, k_0lt, k_eq0, k_nat, k_b0, k_b1, k_z1, k_z0, k_o1, k_o0, Int.reduceEq, Int.reduceLT, Int.reduceLE, Int.reduceAdd, Int.reduceMul, Int.reduceNeg, Bool.false_eq_true, or_true, true_or, or_false, false_or, and_true, true_and, and_false, false_and, not_true_eq_false, not_false_eq_true, ↓reduceIte, z_0, z_k, s_I, s_J, s_uI, s_uJ, ↓c_gP_0_4, ↓f_oc, ↓jc1 qd, z, y]
      · refine ⟨u2 I1 0 13 (j_k s.2), s, rfl, ?_, ?_, fun q hq => by funext k; rw [u2_r (by omega), hf q hq]⟩
        · rw [x_exec, t_94_16]
          simp (disch := first | assumption | omega) only [k_add, k_sub, k_mul, k_lt, k_eq, k_lt0, k_0lt, k_eq0, k_nat, k_b0, k_b1, k_z1, k_z0, k_o1, k_o0, Int.reduceEq, Int.reduceLT, Int.reduceLE, Int.reduceAdd, Int.reduceMul, Int.reduceNeg, Bool.false_eq_true, or_true, true_or, or_false, false_or, and_true, true_and, and_false, false_and, not_true_eq_false, not_false_eq_true, ↓reduceIte, z_0, z_k, s_I, s_J, s_uI, s_uJ, ↓c_gP_0_4, ↓f_oc, ↓jc1 qd, z, y, ↓c_lt_0, ↓c_oc_0]
        · rw [if_neg y]
          exact hx1.tell (fun q a b => by funext k; rw [u2_r a]) (fun k hk => by rw [u2_k hk]) (u2_ss _ _ _ _)
    | succ t ih =>
      intro M c s I1 c1 c2 hM hx1 hf s1 s2
      obtain ⟨M, rfl⟩ : ∃ q, M = q + 1 := ⟨M - 1, by omega⟩
      have z : c < 4 * a_gn A := by omega
      have qd := s_drives (L := L) (p := p) (d := d + 5) (J := J) hA hx1.2.2.2.2.1
      have s11 := s1.1
      have s12 := s1.2
      have s21 := s2.1
      have s22 := s2.2
      obtain ⟨I2, t1, t2, t3⟩ := x_try (L := L) (p := p) (d := d) hx1 c1 z
      have hx2 : iX I2 J A := hx1.same (fun r hr => t3 r (by omega)) rfl
      have hf2 : ∀ q, 87 ≤ q → I2 q = I q := fun q hq => (t3 q (by omega)).trans (hf q hq)
      rw [x_exec, t_94_16, p_loopS]
      cases hd : p_drive (a_gw A) (a_gh A) (a_gr A) (a_gn A) (a_kd A) (a_fl A) c with
      | none =>
        rw [hd] at t1
        have t1' : j_run (d + 6) 123 [.ref 0, .int (j_k c)] (ST L p I1 J) = some (some (.int (j_k 0)), ST L p I2 J) := t1
        have eb : p_gatB (a_gw A) (a_gh A) (a_gr A) (a_gn A) (a_kd A) (a_fl A) (p_lost (a_gn A) (a_fl A)) c s = s := by unfold p_gatB; rw [hd]
        rw [eb]
        obtain ⟨I3, s', e0, e1, e2, e3⟩ := ih M (c + 1) s I2 (by omega) (by omega) (by omega) hx2 hf2 s1 s2
        refine ⟨I3, s', e0, ?_, e2, e3⟩
        simp (disch := first | assumption | omega) only [k_add, k_sub, k_mul, k_lt, k_eq, k_lt0, k_0lt, k_eq0, k_nat, k_b0, k_b1, k_z1, k_z0, k_o1, k_o0, Int.reduceEq, Int.reduceLT, Int.reduceLE, Int.reduceAdd, Int.reduceMul, Int.reduceNeg, Bool.false_eq_true, or_true, true_or, or_false, false_or, and_true, true_and, and_false, false_and, not_true_eq_false, not_false_eq_true, ↓reduceIte, z_0, z_k, s_I, s_J, s_uI, s_uJ, ↓c_gP_0_4, ↓f_oc, ↓jc1 qd, z, ↓c_oc_0, ↓jc1 t1']
        exact e1
      | some f' =>
        rw [hd] at t1 t2
        have t1' : j_run (d + 6) 123 [.ref 0, .int (j_k c)] (ST L p I1 J) = some (some (.int (j_k 1)), ST L p I2 J) := t1
        have t2' : iF I2 48 (a_gn A) (a_kd A) f' := t2
        have hof := drive_ok hC ho c1 z hd
        have qm := s_lostOnes (L := L) (p := p) (d := d + 5) (J := J) fa_48 t2' hn hn4 hof bN1
        have lr' := lost_rg (n := a_gn A) (f := f') hn
        by_cases y : p_lost (a_gn A) (a_fl A) < p_lost (a_gn A) f'
        · have eb : p_gatB (a_gw A) (a_gh A) (a_gr A) (a_gn A) (a_kd A) (a_fl A) (p_lost (a_gn A) (a_fl A)) c s = s := by unfold p_gatB; rw [hd]; exact if_pos y
          rw [eb]
          obtain ⟨I3, s', e0, e1, e2, e3⟩ := ih M (c + 1) s I2 (by omega) (by omega) (by omega) hx2 hf2 s1 s2
          refine ⟨I3, s', e0, ?_, e2, e3⟩
          simp (disch := first | assumption | omega) only [k_add, k_sub, k_mul, k_lt, k_eq, k_lt0, k_0lt, k_eq0, k_nat, k_b0, k_b1, k_z1, k_z0, k_o1, k_o0, Int.reduceEq, Int.reduceLT, Int.reduceLE, Int.reduceAdd, Int.reduceMul, Int.reduceNeg, Bool.false_eq_true, or_true, true_or, or_false, false_or, and_true, true_and, and_false, false_and, not_true_eq_false, not_false_eq_true, ↓reduceIte, z_0, z_k, s_I, s_J, s_uI, s_uJ, ↓c_gP_0_4, ↓f_oc fa_31, ↓jc1 qd, z, ↓c_oc_0, ↓jc1 t1', ↓c_gP_0_6, ↓f_oc fa_48, ↓jc1 qm, y]
          exact e1
        · have qa := s_allOff (L := L) (p := p) (d := d + 4) (J := J) fa_48 hg t2' hx2.2.2.2.1 hC hof
          have ar := apart_rg hC hof
          have ar1 := ar.1
          have ar2 := ar.2
          by_cases v : s.1 = -9 ∨ p_apart (a_gw A) (a_gn A) f' < s.2
          · have eb : p_gatB (a_gw A) (a_gh A) (a_gr A) (a_gn A) (a_kd A) (a_fl A) (p_lost (a_gn A) (a_fl A)) c s = (c, p_apart (a_gw A) (a_gn A) f') := by unfold p_gatB; rw [hd]; exact (if_neg y).trans (if_pos v)
            rw [eb]
            obtain ⟨I3, s', e0, e1, e2, e3⟩ := ih M (c + 1) (c, p_apart (a_gw A) (a_gn A) f') I2 (by omega) (by omega) (by omega) hx2 hf2 (by show -9 ≤ c ∧ c < 16; omega) (by show 0 ≤ p_apart (a_gw A) (a_gn A) f' ∧ p_apart (a_gw A) (a_gn A) f' ≤ 160; omega)
            refine ⟨I3, s', e0, ?_, e2, e3⟩
            by_cases v1 : s.1 = -9
            · simp (disch := first | assumption | omega) only [k_add, k_sub, k_mul, k_lt, k_eq, k_lt0, k_0lt, k_eq0, k_nat, k_b0, k_b1, k_z1, k_z0, k_o1, k_o0, Int.reduceEq, Int.reduceLT, Int.reduceLE, Int.reduceAdd, Int.reduceMul, Int.reduceNeg, Bool.false_eq_true, or_true, true_or, or_false, false_or, and_true, true_and, and_false, false_and, not_true_eq_false, not_false_eq_true, ↓reduceIte, z_0, z_k, s_I, s_J, s_uI, s_uJ, ↓c_gP_0_4, ↓f_oc fa_31, ↓jc1 qd, z, ↓c_oc_0, ↓jc1 t1', ↓c_gP_0_6, ↓c_gP_0_3, ↓f_oc fa_48, ↓jc1 qm, y, ↓jc1 qa, v1]
              exact e1
            · have v2 := v.resolve_left v1
              simp (disch := first | assumption | omega) only [k_add, k_sub, k_mul, k_lt, k_eq, k_lt0, k_0lt, k_eq0, k_nat, k_b0, k_b1, k_z1, k_z0, k_o1, k_o0, Int.reduceEq, Int.reduceLT, Int.reduceLE, Int.reduceAdd, Int.reduceMul, Int.reduceNeg, Bool.false_eq_true, or_true, true_or, or_false, false_or, and_true, true_and, and_false, false_and, not_true_eq_false, not_false_eq_true, ↓reduceIte, z_0, z_k, s_I, s_J, s_uI, s_uJ, ↓c_gP_0_4, ↓f_oc fa_31, ↓jc1 qd, z, ↓c_oc_0, ↓jc1 t1', ↓c_gP_0_6, ↓c_gP_0_3, ↓f_oc fa_48, ↓jc1 qm, y, ↓jc1 qa, v1, v2]
              exact e1
          · have eb : p_gatB (a_gw A) (a_gh A) (a_gr A) (a_gn A) (a_kd A) (a_fl A) (p_lost (a_gn A) (a_fl A)) c s = s := by unfold p_gatB; rw [hd]; exact (if_neg y).trans (if_neg v)
            rw [eb]
            obtain ⟨I3, s', e0, e1, e2, e3⟩ := ih M (c + 1) s I2 (by omega) (by omega) (by omega) hx2 hf2 s1 s2
            refine ⟨I3, s', e0, ?_, e2, e3⟩
            have v1 : ¬ s.1 = -9 := fun u => v (Or.inl u)
            have v2 : ¬ p_apart (a_gw A) (a_gn A) f' < s.2 := fun u => v (Or.inr u)
            simp (disch := first | assumption | omega) only [k_add, k_sub, k_mul, k_lt, k_eq, k_lt0, k_0lt, k_eq0, k_nat, k_b0, k_b1, k_z1, k_z0, k_o1, k_o0, Int.reduceEq, Int.reduceLT, Int.reduceLE, Int.reduceAdd, Int.reduceMul, Int.reduceNeg, Bool.false_eq_true, or_true, true_or, or_false, false_or, and_true, true_and, and_false, false_and, not_true_eq_false, not_false_eq_true, ↓reduceIte, z_0, z_k, s_I, s_J, s_uI, s_uJ, ↓c_gP_0_4, ↓f_oc fa_31, ↓jc1 qd, z, ↓c_oc_0, ↓jc1 t1', ↓c_gP_0_6, ↓c_gP_0_3, ↓f_oc fa_48, ↓jc1 qm, y, ↓jc1 qa, v1, v2]
            exact e1
  obtain ⟨I2, s', e0, e1, e2, e3⟩ := loop (4 * a_gn A).toNat 999999 0 (-9, 0) I (Int.le_refl 0) (by omega) (by omega) hx (fun _ _ => rfl) (by decide) (by decide)
  simp (disch := first | assumption | omega) only [k_add, k_sub, k_mul, k_lt, k_eq, k_lt0, k_0lt, k_eq0, k_nat, k_b0, k_b1, k_z1, k_z0, k_o1, k_o0, Int.reduceEq, Int.reduceLT, Int.reduceLE, Int.reduceAdd, Int.reduceMul, Int.reduceNeg, Bool.false_eq_true, or_true, true_or, or_false, false_or, and_true, true_and, and_false, false_and, not_true_eq_false, not_false_eq_true, ↓reduceIte, z_0, z_k, s_I, s_J, s_uI, s_uJ, ↓c_gP_0_4, ↓f_oc, ↓jc1 ql] at e
  have e0' : s' = p_gatS A := e0
  subst e0'
  unfold p_gather
  by_cases y : (p_gatS A).1 = -9
  · rw [if_pos y] at e2 ⊢
    rw [y] at e1
    exact .of ⟨I2, e.trans e1, e2, e3⟩
  · rw [if_neg y] at e2 ⊢
    exact .of ⟨I2, e.trans e1, e2, e3⟩
end CALLS5
