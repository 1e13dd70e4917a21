/-! ===== the reader: the size, the cells ===== -/
/-- whether a size is read; where it stands then; the size -/
def p_rdG (T : Int → Int) (s : Int) : Bool × Int × Int × Int :=
  if p_sg T s (p_skip T s 0) = 103 then (if p_fig T s 2 6 (p_skip T s 0 + 1) = -9 then (false, p_skip T s 0 + 1, 0, 0) else if p_fig T s 1 5 (p_skip T s 0 + 2) = -9 then (false, p_skip T s 0 + 2, 0, 0) else (true, p_skip T s 0 + 3, p_fig T s 2 6 (p_skip T s 0 + 1), p_fig T s 1 5 (p_skip T s 0 + 2))) else (false, p_skip T s 0, 0, 0)
def p_rdC (T : Int → Int) (s : Int) : Nat → Int → Int → Fl → Bool × Int × Fl
  | 0, _, q, gr => (true, q, gr)
  | m + 1, c, q, gr => if p_sign (p_sg T s (p_skip T s q)) = -9 then (false, p_skip T s q, gr) else p_rdC T s m (c + 1) (p_skip T s q + 1) (f2 gr c (p_sign (p_sg T s (p_skip T s q))))
theorem first_rg {P : Int → Bool} : ∀ (m : Nat) (k : Int), p_first P m k = -9 ∨ (k ≤ p_first P m k ∧ p_first P m k < k + m)
  | 0, k => Or.inl rfl
  | m + 1, k => by
    rw [p_firstS]
    split
    · right
      omega
    · have := first_rg (P := P) m (k + 1)
      omega
theorem fig_lt {T : Int → Int} {s lo hi q : Int} (h2 : hi ≤ 9) (h : p_fig T s lo hi q ≠ -9) : q < s ∧ lo ≤ p_fig T s lo hi q ∧ p_fig T s lo hi q ≤ hi := by
  unfold p_fig at h ⊢
  by_cases z : lo ≤ p_sg T s q - 48 ∧ p_sg T s q - 48 ≤ hi
  · rw [if_pos z]
    refine ⟨Classical.byContradiction fun u => ?_, z.1, z.2⟩
    have : p_sg T s q = 1000 := if_neg u
    omega
  · rw [if_neg z] at h
    exact absurd rfl h
section READER3
variable {L p d : Nat} {I : Nat → Nat → Int32} {J : Nat → Nat → Int64} {T : Int → Int} {s q : Int}
theorem s_readSize (h : iR L p I T s 0) : ∃ I', j_run (d + 3) 44 [.ref 17] (ST L p I J) = some (some (.int (j_z ((p_rdG T s).1 = true))), ST L p I' J) ∧ iR L p I' T s (p_rdG T s).2.1 ∧ ((p_rdG T s).1 = true → (2 ≤ (p_rdG T s).2.2.1 ∧ (p_rdG T s).2.2.1 ≤ 6 ∧ 1 ≤ (p_rdG T s).2.2.2 ∧ (p_rdG T s).2.2.2 ≤ 5) ∧ I' 18 3 = j_k (p_rdG T s).2.2.1 ∧ I' 18 4 = j_k (p_rdG T s).2.2.2 ∧ I' 18 5 = j_k ((p_rdG T s).2.2.1 * (p_rdG T s).2.2.2) ∧ iGc I' 18 (p_rdG T s).2.2.1 ((p_rdG T s).2.2.1 * (p_rdG T s).2.2.2)) ∧ (∀ r, (r < 17 ∨ 22 ≤ r) → I' r = I r) := by
  obtain ⟨k1, k2, k3⟩ := s_skip (d := d + 1) (J := J) h
  have e := (r_44 (d + 2) (ST L p I J) 17).trans (t_44_0 _ _ _ _)
  have hs := h.2.1
  have h1 := h.put (q' := p_skip T s 0) k2 k3
  have q1 := s_sign (d := d + 1) (J := J) h1
  have sr := sg_rg (s := s) h.2.2.2.2.1 k2 hs.2.1
  have sr1 := sr.1
  have sr2 := sr.2
  have f1 : ∀ (v : Int) (r : Nat), (r < 17 ∨ 22 ≤ r) → u2 I 17 4 (j_k v) r = I r := fun v r hr => by funext k; rw [u2_r (by omega)]
  have e4 : ∀ (v w : Int), u2 (u2 I 17 4 (j_k v)) 17 4 (j_k w) = u2 I 17 4 (j_k w) := fun v w => by
    funext a b
    by_cases a0 : a = 17
    · subst a0
      by_cases b0 : b = 4
      · subst b0
        rw [u2_ss, u2_ss]
      · rw [u2_k b0, u2_k b0, u2_k b0]
    · rw [u2_r a0, u2_r a0, u2_r a0]
  by_cases z : p_sg T s (p_skip T s 0) = 103
  · have z1 : p_skip T s 0 < s := Classical.byContradiction fun u => by
      have : p_sg T s (p_skip T s 0) = 1000 := if_neg u
      omega
    have h2 := h1.put (q' := p_skip T s 0 + 1) (by omega) (by omega)
    rw [e4] at h2
    have g1 := s_figure (d := d) (J := J) h2 (lo := 2) (hi := 6) (by decide) (by decide) (by decide) (by decide)
    have rd : p_rdG T s = (if p_fig T s 2 6 (p_skip T s 0 + 1) = -9 then (false, p_skip T s 0 + 1, 0, 0) else if p_fig T s 1 5 (p_skip T s 0 + 2) = -9 then (false, p_skip T s 0 + 2, 0, 0) else (true, p_skip T s 0 + 3, p_fig T s 2 6 (p_skip T s 0 + 1), p_fig T s 1 5 (p_skip T s 0 + 2))) := if_pos z
    rw [rd]
    by_cases x : p_fig T s 2 6 (p_skip T s 0 + 1) = -9
    · rw [if_pos x]
      rw [x, if_pos rfl] at g1
      simp (disch := first | assumption | omega) only [k_eq, k_add, ↓reduceIte, s_I, s_uI, ↓c_oc_17, c_lt_17, ↓jc0 k1, ↓jc1 q1, z, u2_ss, e4, ↓jc1 g1, k_o0, k_b0, true_or] at e
      exact ⟨_, e, h2, fun u => absurd u Bool.false_ne_true, f1 _⟩
    · obtain ⟨x1, x2, x3⟩ := fig_lt (by decide) x
      have h3 := h1.put (q' := p_skip T s 0 + 2) (by omega) (by omega)
      rw [e4] at h3
      have g2 := s_figure (d := d) (J := J) h3 (lo := 1) (hi := 5) (by decide) (by decide) (by decide) (by decide)
      rw [if_neg x] at g1 ⊢
      rw [e4, show p_skip T s 0 + 1 + 1 = p_skip T s 0 + 2 by omega] at g1
      by_cases y : p_fig T s 1 5 (p_skip T s 0 + 2) = -9
      · rw [if_pos y]
        rw [y, if_pos rfl] at g2
        simp (disch := first | assumption | omega) only [k_eq, k_add, ↓reduceIte, s_I, s_uI, ↓c_oc_17, c_lt_17, ↓jc0 k1, ↓jc1 q1, z, u2_ss, e4, ↓jc1 g1, x, ↓jc1 g2, k_o0, k_b0, true_or] at e
        exact ⟨_, e, h3, fun u => absurd u Bool.false_ne_true, f1 _⟩
      · obtain ⟨y1, y2, y3⟩ := fig_lt (by decide) y
        have h4 := h1.put (q' := p_skip T s 0 + 3) (by omega) (by omega)
        rw [e4] at h4
        rw [if_neg y] at g2 ⊢
        rw [e4, show p_skip T s 0 + 2 + 1 = p_skip T s 0 + 3 by omega] at g2
        obtain ⟨I', a1, a2, a3, a4, a5, a6⟩ := s_spread (L := L) (p := p) (d := d + 1) (I := u2 I 17 4 (j_k (p_skip T s 0 + 3))) (J := J) ga_18 x2 x3 y2 y3
        simp (disch := first | assumption | omega) only [k_eq, k_add, ↓reduceIte, s_I, s_uI, ↓c_oc_17, c_lt_17, ↓jc0 k1, ↓jc1 q1, z, u2_ss, e4, ↓jc1 g1, x, ↓jc1 g2, y, ↓c_gP_17_0, ↓g_oc ga_18, ↓jc0 a1, k_o1, k_b1, or_true] at e
        exact ⟨I', e, h4.cg (fun r r1 r2 => a6 r (by omega) (by omega) (by omega)), fun _ => ⟨⟨x2, x3, y2, y3⟩, a2, a3, a4, a5⟩, fun r hr => (a6 r (by omega) (by omega) (by omega)).trans (f1 _ r hr)⟩
  · have rd : p_rdG T s = (false, p_skip T s 0, 0, 0) := if_neg z
    rw [rd]
    simp (disch := first | assumption | omega) only [k_eq, ↓reduceIte, ↓c_oc_17, ↓jc0 k1, ↓jc1 q1, z, k_o0, k_b0, true_or] at e
    exact ⟨_, e, h1, fun u => absurd u Bool.false_ne_true, f1 _⟩
theorem sign_rg (v : Int) : p_sign v = -9 ∨ (0 ≤ p_sign v ∧ p_sign v < 5) := by
  have := first_rg (P := fun i => decide (p_tbS i = v)) 5 0
  unfold p_sign
  omega
theorem s_readCells {N : Int} (hN0 : 0 ≤ N) (hN : N ≤ 30) : ∀ (t M : Nat) (c q : Int) (gr : Fl) (I : Nat → Nat → Int32), 0 ≤ c → c + t = N → t < M → xS I → iR L p I T s q → I 18 5 = j_k N → (∀ i : Int, 0 ≤ i → i < c → I 19 i.toNat = j_k (gr i) ∧ 0 ≤ gr i ∧ gr i ≤ 4) →
    ∃ I', j_exec k_45 h_45 (j_run (d + 1)) M 2 [some (.ref 17), some (.int (j_k c)), none] [] (ST L p I J) = some (some (.int (j_z ((p_rdC T s t c q gr).1 = true))), ST L p I' J) ∧ iR L p I' T s (p_rdC T s t c q gr).2.1 ∧ ((p_rdC T s t c q gr).1 = true → ∀ i : Int, 0 ≤ i → i < N → I' 19 i.toNat = j_k ((p_rdC T s t c q gr).2.2 i) ∧ 0 ≤ (p_rdC T s t c q gr).2.2 i ∧ (p_rdC T s t c q gr).2.2 i ≤ 4) ∧ (∀ r, r ≠ 17 → r ≠ 19 → I' r = I r) := by
  intro t
  induction t with
  | zero =>
    intro M c q gr I c1 c2 hM hS h h5 hg
    obtain ⟨M, rfl⟩ : ∃ q, M = q + 1 := ⟨M - 1, by omega⟩
    have z : ¬ c < N := by omega
    refine ⟨I, ?_, h, fun _ i i1 i2 => hg i i1 (by omega), fun _ _ _ => rfl⟩
    rw [x_exec, t_45_2]
    simp (disch := first | assumption | omega) only [k_lt, ↓reduceIte, s_I, ↓c_gP_17_0, ↓g_oc ga_18, h5, z, k_o1, k_b1, or_true]
    rfl
  | succ t ih =>
    intro M c q gr I c1 c2 hM hS h h5 hg
    obtain ⟨M, rfl⟩ : ∃ q, M = q + 1 := ⟨M - 1, by omega⟩
    have z : c < N := by omega
    have c3 : c < 30 := by omega
    obtain ⟨k1, k2, k3⟩ := s_skip (d := d) (J := J) h
    have hs := h.2.1
    have q0 : 0 ≤ p_skip T s q := by omega
    have h1 := h.put (q' := p_skip T s q) q0 k3
    have q1 := s_sign (d := d) (J := J) h1
    have sr := sg_rg (s := s) h.2.2.2.2.1 q0 hs.2.1
    have sr1 := sr.1
    have sr2 := sr.2
    have hS1 : xS (u2 I 17 4 (j_k (p_skip T s q))) := hS.cg (by funext k; rw [u2_r (by decide)]) (by funext k; rw [u2_r (by decide)])
    have q2 := s_signOf (L := L) (p := p) (d := d) (J := J) hS1 (v := p_sg T s (p_skip T s q)) (by omega) (by omega)
    have sg := sign_rg (p_sg T s (p_skip T s q))
    rw [x_exec, t_45_2]
    by_cases x : p_sign (p_sg T s (p_skip T s q)) = -9
    · have rd : p_rdC T s (t + 1) c q gr = (false, p_skip T s q, gr) := if_pos x
      rw [rd]
      rw [x] at q2
      refine ⟨_, ?_, h1, fun u => absurd u Bool.false_ne_true, fun r a b => by funext k; rw [u2_r a]⟩
      simp (disch := first | assumption | omega) only [k_lt, ↓reduceIte, s_I, ↓c_gP_17_0, ↓g_oc ga_18, h5, z, ↓c_oc_17, ↓jc0 k1, ↓jc1 q1, ↓jc1 q2, k_o0, k_b0, true_or]
      rfl
    · obtain ⟨x1, x2⟩ := sg.resolve_left x
      have rd : p_rdC T s (t + 1) c q gr = p_rdC T s t (c + 1) (p_skip T s q + 1) (f2 gr c (p_sign (p_sg T s (p_skip T s q)))) := if_neg x
      have z1 : p_skip T s q < s := Classical.byContradiction fun u => by
        have e1 : p_sg T s (p_skip T s q) = 1000 := if_neg u
        rw [e1] at x
        exact x (by decide)
      have eI : u2 (u2 (u2 I 17 4 (j_k (p_skip T s q))) 19 c.toNat (j_k (p_sign (p_sg T s (p_skip T s q))))) 17 4 (j_k (p_skip T s q + 1)) = u2 (u2 I 19 c.toNat (j_k (p_sign (p_sg T s (p_skip T s q))))) 17 4 (j_k (p_skip T s q + 1)) := by
        funext a b
        by_cases a0 : a = 17
        · subst a0
          by_cases b0 : b = 4
          · subst b0
            rw [u2_ss, u2_ss]
          · rw [u2_k b0, u2_r (show (17 : Nat) ≠ 19 by decide), u2_k b0, u2_k b0, u2_r (show (17 : Nat) ≠ 19 by decide)]
        · by_cases a1 : a = 19
          · subst a1
            rw [u2_r a0, u2_r a0]
            by_cases b0 : b = c.toNat
            · subst b0
              rw [u2_ss, u2_ss]
            · rw [u2_k b0, u2_k b0, u2_r a0]
          · rw [u2_r a0, u2_r a0, u2_r a1, u2_r a1, u2_r a0]
      have h2 : iR L p (u2 (u2 I 19 c.toNat (j_k (p_sign (p_sg T s (p_skip T s q))))) 17 4 (j_k (p_skip T s q + 1))) T s (p_skip T s q + 1) := (h.cg (I' := u2 I 19 c.toNat (j_k (p_sign (p_sg T s (p_skip T s q))))) (fun r r1 r2 => by funext k; rw [u2_r (by omega)])).put (by omega) (by omega)
      obtain ⟨I', e1, e2, e3, e4⟩ := ih M (c + 1) (p_skip T s q + 1) (f2 gr c (p_sign (p_sg T s (p_skip T s q)))) (u2 (u2 I 19 c.toNat (j_k (p_sign (p_sg T s (p_skip T s q))))) 17 4 (j_k (p_skip T s q + 1))) (by omega) (by omega) (by omega) (hS.cg (by funext k; rw [u2_r (by decide), u2_r (by decide)]) (by funext k; rw [u2_r (by decide), u2_r (by decide)])) h2 (by rw [u2_r (by decide), u2_r (by decide)]; exact h5) (fun i i1 i2 => by
        unfold f2
        by_cases w : i = c
        · subst w
          rw [u2_r (by decide), u2_ss, if_pos rfl]
          exact ⟨rfl, x1, by omega⟩
        · rw [u2_r (by decide), u2_k (by omega), if_neg w]
          exact hg i i1 (by omega))
      rw [rd]
      refine ⟨I', ?_, e2, e3, fun r a b => (e4 r a b).trans (by funext k; rw [u2_r a, u2_r b])⟩
      simp (disch := first | assumption | omega) only [k_lt, k_eq, k_add, k_nat, ↓reduceIte, s_I, s_uI, ↓c_gP_17_0, ↓g_oc ga_18, h5, z, ↓c_oc_17, c_lt_17, ↓jc0 k1, ↓jc1 q1, ↓jc1 q2, x, ↓g_gP0 ga_18, ↓g_is0 ga_18, u2_r, u2_ss]
      rw [eI]
      exact e1
end READER3
