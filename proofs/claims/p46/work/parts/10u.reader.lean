/-! ===== the reader: a whole text ===== -/
def p_rC (T : Int → Int) (s : Int) : Bool × Int × Fl := p_rdC T s ((p_rdG T s).2.2.1 * (p_rdG T s).2.2.2).toNat 0 (p_rdG T s).2.1 (fun _ => 0)
def p_rB (T : Int → Int) (s : Int) : Bool × Int × Int × Fl × Fl := p_rdB T s (p_rdG T s).2.2.1 (p_rdG T s).2.2.2 (p_rC T s).2.2 4 0 (p_rC T s).2.1 (fun _ => 0) p_clr
def p_faultV (T : Int → Int) (s : Int) : Int := if (p_rdG T s).1 = true then (if (p_rC T s).1 = true then (if (p_rB T s).1 = true then -9 else (p_rB T s).2.1) else (p_rC T s).2.1) else (p_rdG T s).2.1
theorem PP_u {p q : Nat} : u2 (PP p) 17 2 (some q) = PP q := by
  funext r k
  by_cases z : r = 17
  · subst z
    by_cases y : k = 2
    · subst y
      rw [u2_ss]
      rfl
    · rw [u2_k y]
      match k, y with
      | 0, _ => rfl
      | 1, _ => rfl
      | 2, y => exact absurd rfl y
      | k + 3, _ => rfl
  · rw [u2_r z]
    have e : PPL p r = PPL q r := by
      unfold PPL
      split <;> first | rfl | exact absurd rfl z
    unfold PP
    rw [e]
section READER6
variable {L p d : Nat} {I : Nat → Nat → Int32} {J : Nat → Nat → Int64} {T : Int → Int} {s : Int}
theorem s_readAll {p0 : Nat} (hp : 12 ≤ p ∧ p < 16 ∧ SH L p = some (.inr (.int, 80))) (s0 : 0 ≤ s) (s8 : s ≤ 80) (hT : ∀ i : Int, 0 ≤ i → i < 80 → -128 ≤ T i ∧ T i ≤ 127) (hI : ∀ i : Int, 0 ≤ i → i < 80 → I p i.toNat = j_k (T i)) (hS : xS I) : ∃ I', j_run (d + 5) 43 [.ref 17, .ref p, .int (j_k s)] (ST L p0 I J) = some (some (.int (j_k (p_faultV T s))), ST L p I' J) ∧ (p_faultV T s = -9 → okC (p_rdG T s).2.2.1 (p_rdG T s).2.2.2 ((p_rdG T s).2.2.1 * (p_rdG T s).2.2.2) (p_rB T s).2.2.1 (p_rC T s).2.2 (p_rB T s).2.2.2.1 ∧ 2 ≤ (p_rdG T s).2.2.1 ∧ okF ((p_rdG T s).2.2.1 * (p_rdG T s).2.2.2) (p_rB T s).2.2.1 0 (p_rB T s).2.2.2.2 ∧ iG I' 18 (p_rdG T s).2.2.1 (p_rdG T s).2.2.2 ((p_rdG T s).2.2.1 * (p_rdG T s).2.2.2) (p_rC T s).2.2 ∧ iF I' 22 (p_rB T s).2.2.1 (p_rB T s).2.2.2.1 (p_rB T s).2.2.2.2) ∧ (-9 ≤ p_faultV T s ∧ p_faultV T s ≤ 80) ∧ (∀ r, (r < 17 ∨ 26 ≤ r) → I' r = I r) := by
  have e := (r_43 (d + 4) (ST L p0 I J) 17 p (j_k s)).trans (t_43_0 _ _ _ _ _ _)
  have h0 : iR L p (u2 (u2 I 17 3 (j_k s)) 17 4 (j_k 0)) T s 0 := by
    refine ⟨hp, ⟨s0, s8, Int.le_refl 0, s0⟩, by rw [u2_k (by decide), u2_ss], u2_ss _ _ _ _, hT, fun i i1 i2 => ?_⟩
    have := hp.2.1
    rw [u2_r (by omega), u2_r (by omega)]
    exact hI i i1 i2
  have f0 : ∀ r, r ≠ 17 → u2 (u2 I 17 3 (j_k s)) 17 4 (j_k 0) r = I r := fun r hr => by funext k; rw [u2_r hr, u2_r hr]
  obtain ⟨I1, a1, a2, a3, a4⟩ := s_readSize (d := d + 1) (J := J) h0
  have hoc : ∀ K : Option Rr, j_oc (s_uP (ST L p0 I J) 17 2 (some p)) 2 17 K = K := fun K => q_oc rfl
  have wr : (p_rdG T s).1 = true → 0 ≤ (p_rdG T s).2.2.1 * (p_rdG T s).2.2.2 ∧ (p_rdG T s).2.2.1 * (p_rdG T s).2.2.2 ≤ 30 := fun u => by
    obtain ⟨w1, w2, w3, w4⟩ := (a3 u).1
    generalize (p_rdG T s).2.2.1 = w at w1 w2 ⊢
    generalize (p_rdG T s).2.2.2 = h at w3 w4 ⊢
    rcases (show w = 2 ∨ w = 3 ∨ w = 4 ∨ w = 5 ∨ w = 6 by omega) with rfl | rfl | rfl | rfl | rfl <;> omega
  have b80 : ∀ {I' : Nat → Nat → Int32} {q : Int}, iR L p I' T s q → 0 ≤ q ∧ q ≤ 80 := fun h => by
    have := h.2.1
    omega
  unfold p_faultV
  by_cases x : (p_rdG T s).1 = true
  · have j1 : j_z ((p_rdG T s).1 = true) = j_k 1 := if_pos x
    rw [j1] at a1
    rw [if_pos x]
    obtain ⟨⟨w1, w2, w3, w4⟩, g3, g4, g5, gc⟩ := a3 x
    obtain ⟨n0, n30⟩ := wr x
    have hS1 : xS I1 := hS.cg ((a4 _ (Or.inr (by decide))).trans (f0 _ (by decide))) ((a4 _ (Or.inr (by decide))).trans (f0 _ (by decide)))
    obtain ⟨I2, b1, b2, b3, b4⟩ := s_readCells (L := L) (p := p) (d := d + 2) (J := J) (N := (p_rdG T s).2.2.1 * (p_rdG T s).2.2.2) n0 n30 ((p_rdG T s).2.2.1 * (p_rdG T s).2.2.2).toNat 999999 0 (p_rdG T s).2.1 (fun _ => 0) I1 (Int.le_refl 0) (by omega) (by omega) hS1 a2 g5 (fun i i1 i2 => absurd i2 (by omega))
    have b1' : j_run (d + 4) 45 [.ref 17] (ST L p I1 J) = some (some (.int (j_z ((p_rC T s).1 = true))), ST L p I2 J) := by
      rw [r_45, t_45_0]
      exact b1
    have b2' : iR L p I2 T s (p_rC T s).2.1 := b2
    have b3' : (p_rC T s).1 = true → ∀ i : Int, 0 ≤ i → i < (p_rdG T s).2.2.1 * (p_rdG T s).2.2.2 → I2 19 i.toNat = j_k ((p_rC T s).2.2 i) ∧ 0 ≤ (p_rC T s).2.2 i ∧ (p_rC T s).2.2 i ≤ 4 := b3
    have fr2 : ∀ r, (r < 17 ∨ 22 ≤ r) → I2 r = I r := fun r hr => (b4 r (by omega) (by omega)).trans ((a4 r hr).trans (f0 r (by omega)))
    by_cases y : (p_rC T s).1 = true
    · have j2 : j_z ((p_rC T s).1 = true) = j_k 1 := if_pos y
      rw [j2] at b1'
      rw [if_pos y]
      have hG2 : iG I2 18 (p_rdG T s).2.2.1 (p_rdG T s).2.2.2 ((p_rdG T s).2.2.1 * (p_rdG T s).2.2.2) (p_rC T s).2.2 := by
        refine ⟨by rw [b4 18 (by decide) (by decide)]; exact g3, by rw [b4 18 (by decide) (by decide)]; exact g4, by rw [b4 18 (by decide) (by decide)]; exact g5, fun c c1 c2 => (b3' y c c1 c2).1, fun c c1 c2 => by rw [b4 _ (by decide) (by decide)]; exact gc.1 c c1 c2, fun c c1 c2 => by rw [b4 _ (by decide) (by decide)]; exact gc.2 c c1 c2⟩
      obtain ⟨I3, c1, c2, c3⟩ := s_clear (L := L) (p := p) (d := d + 2) (I := I2) (J := J) (kd := fun _ => 0) fa_22
      have hC0 : okC (p_rdG T s).2.2.1 (p_rdG T s).2.2.2 ((p_rdG T s).2.2.1 * (p_rdG T s).2.2.2) 0 (p_rC T s).2.2 (fun _ => 0) := ⟨rfl, Or.inl ⟨w1, w2, w3, w4⟩, Int.le_refl 0, by decide, fun c c1 c2 => (b3' y c c1 c2).2, fun k k1 k2 => absurd k2 (by omega)⟩
      have ho0 : okF ((p_rdG T s).2.2.1 * (p_rdG T s).2.2.2) 0 0 p_clr := ⟨fun k k1 k2 => absurd k2 (by omega), fun j k j1 k1 k2 => absurd k2 (by omega), Or.inl ⟨rfl, rfl⟩, Or.inl ⟨rfl, rfl⟩, fun _ => rfl, Int.le_refl 0, Int.le_refl 0⟩
      obtain ⟨I4, e1, e2, e3, e4, e5, e6⟩ := s_readBeasts (L := L) (p := p) (d := d) (J := J) (T := T) (s := s) w1 4 999999 0 (p_rC T s).2.1 (fun _ => 0) p_clr I3 (Int.le_refl 0) (by decide) (by decide) (b2'.cg (fun r r1 r2 => c3 r (by omega))) (hS1.cg ((c3 _ (Or.inr (by decide))).trans (b4 _ (by decide) (by decide))) ((c3 _ (Or.inr (by decide))).trans (b4 _ (by decide) (by decide)))) (hG2.cg (fun r r1 r2 => c3 r (by omega))) hC0 c2 ho0
      have e1' : j_run (d + 4) 46 [.ref 17] (ST L p I2 J) = some (some (.int (j_z ((p_rB T s).1 = true))), ST L p I4 J) := by
        rw [r_46, t_46_0, c_gP_17_1, f_oc fa_22, jc0 c1]
        exact e1
      have e2' : iR L p I4 T s (p_rB T s).2.1 := e2
      have fr4 : ∀ r, (r < 17 ∨ 26 ≤ r) → I4 r = I r := fun r hr => (e6 r (by omega) (by omega)).trans ((c3 r (by omega)).trans (fr2 r (by omega)))
      by_cases z : (p_rB T s).1 = true
      · have j3 : j_z ((p_rB T s).1 = true) = j_k 1 := if_pos z
        rw [j3] at e1'
        rw [if_pos z]
        refine ⟨I4, ?_, fun _ => ⟨e3, w1, e4, hG2.cg (fun r r1 r2 => (e6 r (by omega) (by omega)).trans (c3 r (by omega))), e5 z⟩, by decide, fr4⟩
        rw [e]
        simp (disch := first | assumption | omega) only [PP_u, ↓hoc, k_eq0, k_z0, k_z1, Int.reduceEq, s_uI, ↓c_oc_17, c_lt_17, ↓reduceIte, ↓jc1 a1, ↓jc1 b1', ↓jc1 e1', k_o0, k_o1]
      · have j3 : j_z ((p_rB T s).1 = true) = j_k 0 := if_neg z
        rw [j3] at e1'
        rw [if_neg z]
        have h4 := e2'.2.2.2.1
        have q4 := b80 e2'
        refine ⟨I4, ?_, fun u => absurd u (by omega), by omega, fr4⟩
        rw [e]
        simp (disch := first | assumption | omega) only [PP_u, ↓hoc, k_eq0, k_z0, k_z1, Int.reduceEq, s_uI, s_I, ↓c_oc_17, c_lt_17, ↓reduceIte, ↓jc1 a1, ↓jc1 b1', ↓jc1 e1', k_o0, k_o1, h4]
    · have j2 : j_z ((p_rC T s).1 = true) = j_k 0 := if_neg y
      rw [j2] at b1'
      rw [if_neg y]
      have h4 := b2'.2.2.2.1
      have q4 := b80 b2'
      refine ⟨I2, ?_, fun u => absurd u (by omega), by omega, fun r hr => fr2 r (by omega)⟩
      rw [e]
      simp (disch := first | assumption | omega) only [PP_u, ↓hoc, k_eq0, k_z0, k_z1, Int.reduceEq, s_uI, s_I, ↓c_oc_17, c_lt_17, ↓reduceIte, ↓jc1 a1, ↓jc1 b1', k_o0, k_o1, h4]
  · have j1 : j_z ((p_rdG T s).1 = true) = j_k 0 := if_neg x
    rw [j1] at a1
    rw [if_neg x]
    have h4 := a2.2.2.2.1
    have q4 := b80 a2
    refine ⟨I1, ?_, fun u => absurd u (by omega), by omega, fun r hr => (a4 r (by omega)).trans (f0 r (by omega))⟩
    rw [e]
    simp (disch := first | assumption | omega) only [PP_u, ↓hoc, k_eq0, k_z0, k_z1, Int.reduceEq, s_uI, s_I, ↓c_oc_17, c_lt_17, ↓reduceIte, ↓jc1 a1, k_o0, h4]
end READER6
