/-! ===== the reader: blanks, signs, figures, tables ===== -/
/-- the text that is read, what has been read of it -/
def iR (L p : Nat) (I : Nat → Nat → Int32) (T : Int → Int) (s q : Int) : Prop := (12 ≤ p ∧ p < 16 ∧ SH L p = some (.inr (.int, 80))) ∧ (0 ≤ s ∧ s ≤ 80 ∧ 0 ≤ q ∧ q ≤ s) ∧ I 17 3 = j_k s ∧ I 17 4 = j_k q ∧ (∀ i : Int, 0 ≤ i → i < 80 → -128 ≤ T i ∧ T i ≤ 127) ∧ ∀ i : Int, 0 ≤ i → i < 80 → I p i.toNat = j_k (T i)
def p_sk (T : Int → Int) (s : Int) : Nat → Int → Int
  | 0, q => q
  | m + 1, q => if q < s ∧ T q = 32 then p_sk T s m (q + 1) else q
def p_skip (T : Int → Int) (s q : Int) : Int := p_sk T s (s - q).toNat q
def p_sg (T : Int → Int) (s q : Int) : Int := if q < s then T q else 1000
def p_fig (T : Int → Int) (s lo hi q : Int) : Int := if lo ≤ p_sg T s q - 48 ∧ p_sg T s q - 48 ≤ hi then p_sg T s q - 48 else -9
def p_tbS (i : Int) : Int := if i = 0 then 46 else if i = 1 then 35 else if i = 2 then 126 else if i = 3 then 111 else 61
def p_tbL (i : Int) : Int := if i = 0 then 98 else if i = 1 then 115 else if i = 2 then 108 else if i = 3 then 99 else if i = 4 then 109 else 116
def p_sign (v : Int) : Int := p_first (fun i => decide (p_tbS i = v)) 5 0
def p_lett (v : Int) : Int := p_first (fun i => decide (p_tbL i = v)) 6 0
theorem iR.put {L p : Nat} {I : Nat → Nat → Int32} {T : Int → Int} {s q q' : Int} (h : iR L p I T s q) (h1 : 0 ≤ q') (h2 : q' ≤ s) : iR L p (u2 I 17 4 (j_k q')) T s q' := by
  obtain ⟨a, b, c, e, f, g⟩ := h
  exact ⟨a, ⟨b.1, b.2.1, h1, h2⟩, by rw [u2_k (by decide)]; exact c, u2_ss _ _ _ _, f, fun i i1 i2 => by rw [u2_r (by omega)]; exact g i i1 i2⟩
theorem iR.cg {L p : Nat} {I I' : Nat → Nat → Int32} {T : Int → Int} {s q : Int} (h : iR L p I T s q) (h1 : ∀ r, 12 ≤ r → r ≤ 17 → I' r = I r) : iR L p I' T s q := by
  obtain ⟨a, b, c, e, f, g⟩ := h
  refine ⟨a, b, by rw [h1 17 (by decide) (by decide)]; exact c, by rw [h1 17 (by decide) (by decide)]; exact e, f, fun i i1 i2 => by rw [h1 p a.1 (by omega)]; exact g i i1 i2⟩
theorem sg_rg {T : Int → Int} {s q : Int} (hT : ∀ i : Int, 0 ≤ i → i < 80 → -128 ≤ T i ∧ T i ≤ 127) (q0 : 0 ≤ q) (s1 : s ≤ 80) : -128 ≤ p_sg T s q ∧ p_sg T s q ≤ 1000 := by
  unfold p_sg
  split
  · have := hT q q0 (by omega)
    omega
  · omega
section READER
variable {L p d : Nat} {I : Nat → Nat → Int32} {J : Nat → Nat → Int64} {T : Int → Int} {s q : Int}
theorem s_sign (h : iR L p I T s q) : j_run (d + 1) 49 [.ref 17] (ST L p I J) = some (some (.int (j_k (p_sg T s q))), ST L p I J) := by
  obtain ⟨⟨a1, a2, a3⟩, ⟨b1, b2, b3, b4⟩, c, e, f, g⟩ := h
  rw [r_49, t_49_0]
  unfold p_sg
  by_cases z : q < s
  · have q8 : q < 80 := by omega
    have hv := g q b3 q8
    have ia : ∀ K : Option Rr, j_ia (ST L p I J) p (j_k q) K = K := fun K => q_ia (σ := ST L p I J) (n := 80) a3 (by decide) b3 (by omega)
    have gp : ∀ Kn : Nat → Option Rr, j_gP (ST L p I J) 2 17 2 Kn = Kn p := fun Kn => q_gP rfl rfl
    rw [if_pos z]
    simp (disch := first | assumption | omega) only [k_lt, k_nat, ↓reduceIte, s_I, ↓c_oc_17, c, e, z, ↓gp, ↓ia, hv]
  · rw [if_neg z]
    simp (disch := first | assumption | omega) only [k_lt, k_nat, ↓reduceIte, s_I, ↓c_oc_17, c, e, z]
theorem s_skip (h : iR L p I T s q) : j_run (d + 1) 48 [.ref 17] (ST L p I J) = some (none, ST L p (u2 I 17 4 (j_k (p_skip T s q))) J) ∧ q ≤ p_skip T s q ∧ p_skip T s q ≤ s := by
  have loop : ∀ (t M : Nat) (q : Int), t < M → (s - q).toNat = t → iR L p (u2 I 17 4 (j_k q)) T s q → j_seg k_48 h_48 (j_run d) (j_exec k_48 h_48 (j_run d) M) 2000 0 [some (.ref 17)] [] (ST L p (u2 I 17 4 (j_k q)) J) = some (none, ST L p (u2 I 17 4 (j_k (p_sk T s t q))) J) ∧ q ≤ p_sk T s t q ∧ p_sk T s t q ≤ s := by
    intro t
    induction t with
    | zero =>
      intro M q hM ht h
      obtain ⟨⟨a1, a2, a3⟩, ⟨b1, b2, b3, b4⟩, c, e, f, g⟩ := h
      have z : ¬ q < s := by omega
      refine ⟨?_, Int.le_refl _, b4⟩
      rw [t_48_0]
      simp (disch := first | assumption | omega) only [k_lt, k_nat, ↓reduceIte, s_I, ↓c_oc_17, c, e, z]
      rfl
    | succ t ih =>
      intro M q hM ht h
      obtain ⟨M, rfl⟩ : ∃ q, M = q + 1 := ⟨M - 1, by omega⟩
      have h0 := h
      obtain ⟨⟨a1, a2, a3⟩, ⟨b1, b2, b3, b4⟩, c, e, f, g⟩ := h
      have z : q < s := by omega
      have q8 : q < 80 := by omega
      have hv := g q b3 q8
      have fv := f q b3 q8
      have fv1 := fv.1
      have fv2 := fv.2
      have ia : ∀ K : Option Rr, j_ia (ST L p (u2 I 17 4 (j_k q)) J) p (j_k q) K = K := fun K => q_ia (σ := ST L p (u2 I 17 4 (j_k q)) J) (n := 80) a3 (by decide) b3 (by omega)
      have gp : ∀ Kn : Nat → Option Rr, j_gP (ST L p (u2 I 17 4 (j_k q)) J) 2 17 2 Kn = Kn p := fun Kn => q_gP rfl rfl
      have eu : u2 (u2 I 17 4 (j_k q)) 17 4 (j_k (q + 1)) = u2 I 17 4 (j_k (q + 1)) := by
        funext a b
        by_cases a0 : a = 17
        · subst a0
          by_cases b0 : b = 4
          · subst b0
            rw [u2_ss, u2_ss]
          · rw [u2_k b0, u2_k b0, u2_k b0]
        · rw [u2_r a0, u2_r a0, u2_r a0]
      by_cases x : T q = 32
      · have ep : p_sk T s (t + 1) q = p_sk T s t (q + 1) := if_pos ⟨z, x⟩
        have h1 := h0.put (q' := q + 1) (by omega) (by omega)
        rw [eu] at h1
        obtain ⟨i1, i2, i3⟩ := ih M (q + 1) (by omega) (by omega) h1
        rw [ep]
        refine ⟨?_, by omega, i3⟩
        rw [t_48_0]
        simp (disch := first | assumption | omega) only [k_lt, k_eq, k_add, k_nat, ↓reduceIte, s_I, s_uI, ↓c_oc_17, c_lt_17, c, e, z, ↓gp, ↓ia, hv, x]
        rw [x_exec]
        rw [show (1 : Int) = 1 from rfl]
        refine Eq.trans ?_ i1
        rw [← eu]
      · have ep : p_sk T s (t + 1) q = q := if_neg (fun u => x u.2)
        rw [ep]
        refine ⟨?_, Int.le_refl _, b4⟩
        rw [t_48_0]
        simp (disch := first | assumption | omega) only [k_lt, k_eq, k_nat, ↓reduceIte, s_I, ↓c_oc_17, c, e, z, ↓gp, ↓ia, hv, x]
  have e4 := h.2.2.2.1
  have eu : u2 I 17 4 (j_k q) = I := by
    funext a b
    by_cases a0 : a = 17
    · subst a0
      by_cases b0 : b = 4
      · subst b0
        rw [u2_ss, e4]
      · rw [u2_k b0]
    · rw [u2_r a0]
  have hb := h.2.1
  have := loop (s - q).toNat 999999 q (by omega) rfl (by rw [eu]; exact h)
  rw [eu] at this
  rw [r_48]
  exact this
theorem s_figure (h : iR L p I T s q) {lo hi : Int} (l1 : 0 ≤ lo) (l2 : hi ≤ 9) (l3 : -10 ≤ hi) (l4 : lo ≤ 9) : j_run (d + 2) 50 [.ref 17, .int (j_k lo), .int (j_k hi)] (ST L p I J) = some (some (.int (j_k (p_fig T s lo hi q))), ST L p (if p_fig T s lo hi q = -9 then I else u2 I 17 4 (j_k (q + 1))) J) := by
  have q1 := s_sign (d := d) (J := J) h
  obtain ⟨⟨a1, a2, a3⟩, ⟨b1, b2, b3, b4⟩, c, e, f, g⟩ := h
  have sr := sg_rg (s := s) f b3 b2
  have sr1 := sr.1
  have sr2 := sr.2
  rw [r_50, t_50_0]
  unfold p_fig
  by_cases z : lo ≤ p_sg T s q - 48 ∧ p_sg T s q - 48 ≤ hi
  · have z1 : ¬ p_sg T s q - 48 < lo := by omega
    have z2 : ¬ hi < p_sg T s q - 48 := by omega
    have z3 : ¬ p_sg T s q - 48 = -9 := by omega
    rw [if_pos z, if_neg z3]
    simp (disch := first | assumption | omega) only [k_lt, k_sub, k_add, ↓reduceIte, s_I, s_uI, ↓c_oc_17, c_lt_17, ↓jc1 q1, z1, z2, e]
  · rw [if_neg z, if_pos rfl]
    by_cases z1 : p_sg T s q - 48 < lo
    · simp (disch := first | assumption | omega) only [k_lt, k_sub, ↓reduceIte, ↓c_oc_17, ↓jc1 q1, z1]
    · have z2 : hi < p_sg T s q - 48 := by omega
      simp (disch := first | assumption | omega) only [k_lt, k_sub, ↓reduceIte, ↓c_oc_17, ↓jc1 q1, z1, z2]
end READER
