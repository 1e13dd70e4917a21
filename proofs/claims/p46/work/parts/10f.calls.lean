/-! ===== the class's calls: mark, stone, drive; a drive that is tried; gather, part ===== -/
def p_near (w n : Int) (f : Fl) (k : Int) : Int := p_loop (fun j s => if j ≠ k ∧ f (5 + j) ≠ -9 ∧ p_off w (f (5 + k)) (f (5 + j)) < 3 then s + 1 else s) n.toNat 0 0
def p_markA (q k : Int) (A : Ast) : Int := if q = 1 then (if a_fl A 1 = -9 ∨ a_fl A (5 + k) = -9 then -9 else p_off (a_gw A) (a_fl A (5 + k)) (a_fl A 2)) else if q = 2 then a_fl A 0 % 2 else if q = 3 then p_aim (a_kd A) (a_fl A) k else if q = 4 then p_gates (a_N A) (a_gr A) 4 else if a_fl A (5 + k) = -9 then -9 else p_near (a_gw A) (a_gn A) (a_fl A) k
def p_mark (k q : Int) (A : Ast) : Int × Ast := if (0 ≤ k ∧ k < a_gn A) ∧ 1 ≤ q ∧ q ≤ 5 then (if a_kd A k = q ∨ (q = 1 ∧ p_shy (a_kd A) k = true) ∨ (q = 2 ∧ p_slow (a_kd A) k = true) then (p_markA q k A, A) else p_meets 3 A) else (-1, A)
def p_stoneC (c : Int) (A : Ast) : Int × Ast := if (0 ≤ c ∧ c < a_N A) ∧ a_gr A c ≠ 1 then ((p_fleeL (a_gw A) (a_gh A) (a_gr A) (a_gn A) (a_kd A) (a_fl A) c).2.1, A_fl A (p_fleeE (p_fleeL (a_gw A) (a_gh A) (a_gr A) (a_gn A) (a_kd A) (a_fl A) c))) else (-1, A)
/-- a row's drives, one by one while they can be -/
def p_drv (w h : Int) (gr : Fl) (n : Int) (kd : Fl) (row : Int → Int32) : Nat → Int → Fl → Int × Fl
  | 0, k, f => (k, f)
  | m + 1, k, f => match p_drive w h gr n kd f (row k).toInt with
    | none => (k, f)
    | some f' => p_drv w h gr n kd row m (k + 1) f'
def p_driveC (r : Int) (A : Ast) : Int × Ast := if 0 ≤ r ∧ r < 6 then (if a_N A = 0 then (-4, A) else if a_rz A r = -1 then p_meets 1 A else if p_first (fun i => decide (¬ (0 ≤ (a_rv A r i).toInt ∧ (a_rv A r i).toInt < 4 * a_gn A))) (a_rz A r).toNat 0 ≠ -9 then p_meets 3 A else if 10000 < a_fl A 0 + 40 * a_rz A r then (-6, A) else ((p_drv (a_gw A) (a_gh A) (a_gr A) (a_gn A) (a_kd A) (a_rv A r) (a_rz A r).toNat 0 (a_fl A)).1, A_told (A_fl A (p_drv (a_gw A) (a_gh A) (a_gr A) (a_gn A) (a_kd A) (a_rv A r) (a_rz A r).toNat 0 (a_fl A)).2) (j_k (p_lost (a_gn A) (p_drv (a_gw A) (a_gh A) (a_gr A) (a_gn A) (a_kd A) (a_rv A r) (a_rz A r).toNat 0 (a_fl A)).2)))) else (-1, A)
theorem drv_rg {w h : Int} {gr : Fl} {n : Int} {kd : Fl} {row : Int → Int32} : ∀ (m : Nat) (k : Int) (f : Fl), k ≤ (p_drv w h gr n kd row m k f).1 ∧ (p_drv w h gr n kd row m k f).1 ≤ k + m
  | 0, k, f => ⟨Int.le_refl _, by show k ≤ k + 0; omega⟩
  | m + 1, k, f => by
    unfold p_drv
    split
    · exact ⟨Int.le_refl _, by show k ≤ _; omega⟩
    · rename_i f' _
      have := drv_rg (w := w) (h := h) (gr := gr) (n := n) (kd := kd) (row := row) m (k + 1) f'
      omega
theorem first_all {P : Int → Bool} : ∀ (m : Nat) (k : Int), 0 ≤ k → p_first P m k = -9 → ∀ i, k ≤ i → i < k + m → P i = false
  | 0, k, hk, h, i, h1, h2 => by omega
  | m + 1, k, hk, h, i, h1, h2 => by
    rw [p_firstS] at h
    by_cases z : P k = true
    · rw [if_pos z] at h
      omega
    · rw [if_neg z] at h
      by_cases y : i = k
      · subst y
        exact Bool.eq_false_iff.mpr z
      · exact first_all m (k + 1) (by omega) h i (by omega) (by omega)
section CALLS4
variable {L p d : Nat} {J : Nat → Nat → Int64} {I I' : Nat → Nat → Int32} {A : Ast} {K : Option Rr} {r i : Int}
/-- a drive that is tried -/
theorem x_try (hx : iX I J A) {c : Int} (c1 : 0 ≤ c) (c2 : c < 4 * a_gn A) : ∃ I', j_run (d + 6) 123 [.ref 0, .int (j_k c)] (ST L p I J) = some (some (.int (if (p_drive (a_gw A) (a_gh A) (a_gr A) (a_gn A) (a_kd A) (a_fl A) c).isSome = true then j_k 1 else j_k 0)), ST L p I' J) ∧ iF I' 48 (a_gn A) (a_kd A) ((p_drive (a_gw A) (a_gh A) (a_gr A) (a_gn A) (a_kd A) (a_fl A) c).getD (a_fl A)) ∧ fr 48 I I' := by
  have hC := hx.1.1
  have ho := hx.1.2.1
  have hG := hx.2.2.2.1
  have hF := hx.2.2.2.2.1
  have hT := hx.2.2.2.2.2.2.2.2.1
  have hM := hx.2.2.2.2.2.2.2.1
  have hn := hC.2.2.1
  have hn4 := hC.2.2.2.1
  obtain ⟨bN0, bN1, -⟩ := bd_N hC
  have hA := fa_31
  have hg := ga_27
  obtain ⟨I1, s1, s2, s3⟩ := s_take (L := L) (p := p) (d := d + 4) (J := J) fa_48 hA (by omega) hF hn hn4
  obtain ⟨I2, t1, t2, t3⟩ := s_driveBy (L := L) (p := p) (d := d) (J := J) fa_48 hg s2 (hG.fr fa_48 hg s3) (hT.fr fa_48 s3) hC ho (by omega) c1 c2
  refine ⟨I2, ?_, t2, s3.tr t3⟩
  rw [r_123, t_123_0, c_gP_0_6, c_gP_0_4, f_oc fa_48, jc0 s1, c_gP_0_6, c_gP_0_3, f_oc fa_48, jc1 t1]
  split
  · exact if_pos (Or.inr rfl)
  · exact if_pos (Or.inl rfl)
end CALLS4
