/-! ===== the reader: a beast ===== -/
def p_rdB1 (T : Int → Int) (s w h : Int) (gr : Fl) (n : Int) (f : Fl) (q : Int) : Bool × Int × Int × Int :=
  if p_lett (p_sg T s q) = -9 then (false, q, 0, 0)
  else if p_fig T s 0 (w - 1) (q + 1) = -9 then (false, q + 1, 0, 0)
  else if p_fig T s 0 (h - 1) (q + 2) = -9 then (false, q + 2, 0, 0)
  else if (gr (p_fig T s 0 (h - 1) (q + 2) * w + p_fig T s 0 (w - 1) (q + 1)) ≠ 1 ∧ gr (p_fig T s 0 (h - 1) (q + 2) * w + p_fig T s 0 (w - 1) (q + 1)) ≠ 2) ∧ p_who n f (p_fig T s 0 (h - 1) (q + 2) * w + p_fig T s 0 (w - 1) (q + 1)) (-9) = -9 then (true, q + 3, p_lett (p_sg T s q), p_fig T s 0 (h - 1) (q + 2) * w + p_fig T s 0 (w - 1) (q + 1))
  else (false, q + 2, 0, 0)
theorem lett_rg (v : Int) : p_lett v = -9 ∨ (0 ≤ p_lett v ∧ p_lett v < 6) := by
  have := first_rg (P := fun i => decide (p_tbL i = v)) 6 0
  unfold p_lett
  omega
section READER4
variable {L p d : Nat} {I : Nat → Nat → Int32} {J : Nat → Nat → Int64} {T : Int → Int} {s q w h N n : Int} {gr kd f : Fl}
theorem s_readBeast (hR : iR L p I T s q) (hS : xS I) (hG : iG I 18 w h N gr) (hC : okC w h N n gr kd) (hw : 2 ≤ w) (hF : iF I 22 n kd f) (hn4 : n < 4) : ∃ I', j_run (d + 3) 47 [.ref 17] (ST L p I J) = some (some (.int (j_z ((p_rdB1 T s w h gr n f q).1 = true))), ST L p I' J) ∧ iR L p I' T s (p_rdB1 T s w h gr n f q).2.1 ∧ ((p_rdB1 T s w h gr n f q).1 = true → (0 ≤ (p_rdB1 T s w h gr n f q).2.2.1 ∧ (p_rdB1 T s w h gr n f q).2.2.1 ≤ 5) ∧ (0 ≤ (p_rdB1 T s w h gr n f q).2.2.2 ∧ (p_rdB1 T s w h gr n f q).2.2.2 < N ∧ p_who n f (p_rdB1 T s w h gr n f q).2.2.2 (-9) = -9) ∧ iF I' 22 (n + 1) (f2 kd n (p_rdB1 T s w h gr n f q).2.2.1) (p_put1 f n (p_rdB1 T s w h gr n f q).2.2.2)) ∧ (∀ r, r ≠ 17 → (r < 22 ∨ 26 ≤ r) → I' r = I r) := by
  have hw := hC.2.1.resolve_right (fun z => by omega)
  obtain ⟨w1, w2, h1, h2⟩ := hw
  obtain ⟨bN0, bN1, -⟩ := bd_N hC
  have hn := hC.2.2.1
  have q1 := s_sign (d := d + 1) (J := J) hR
  have hs := hR.2.1
  have sr := sg_rg (s := s) hR.2.2.2.2.1 hs.2.2.1 hs.2.1
  have sr1 := sr.1
  have sr2 := sr.2
  have q2 := s_lettOf (L := L) (p := p) (d := d + 1) (J := J) hS (v := p_sg T s q) (by omega) (by omega)
  have lg := lett_rg (p_sg T s q)
  have e := (r_47 (d + 2) (ST L p I J) 17).trans (t_47_0 _ _ _ _)
  have hI4 := hR.2.2.2.1
  have e4 : ∀ (v x : Int), u2 (u2 I 17 4 (j_k v)) 17 4 (j_k x) = u2 I 17 4 (j_k x) := fun v x => by
    funext a b
    by_cases a0 : a = 17
    · subst a0
      by_cases b0 : b = 4
      · subst b0
        rw [u2_ss, u2_ss]
      · rw [u2_k b0, u2_k b0, u2_k b0]
    · rw [u2_r a0, u2_r a0, u2_r a0]
  have fr4 : ∀ (v : Int) (r : Nat), r ≠ 17 → u2 I 17 4 (j_k v) r = I r := fun v r hr => by funext k; rw [u2_r hr]
  unfold p_rdB1
  by_cases x : p_lett (p_sg T s q) = -9
  · rw [if_pos x]
    rw [x] at q2
    simp (disch := first | assumption | omega) only [↓reduceIte, ↓c_oc_17, ↓jc1 q1, ↓jc1 q2, k_o0, k_b0, true_or] at e
    exact ⟨I, e, hR, fun u => absurd u Bool.false_ne_true, fun _ _ _ => rfl⟩
  · rw [if_neg x]
    obtain ⟨x1, x2⟩ := lg.resolve_left x
    have z1 : q < s := Classical.byContradiction fun u => by
      have e1 : p_sg T s q = 1000 := if_neg u
      rw [e1] at x
      exact x (by decide)
    have g18 : u2 I 17 4 (j_k (q + 1)) 18 3 = j_k w := by rw [fr4 _ 18 (by decide)]; exact hG.1
    have h3 := hR.put (q' := q + 1) (by omega) (by omega)
    have g1 := s_figure (d := d) (J := J) h3 (lo := 0) (hi := w - 1) (by decide) (by omega) (by omega) (by decide)
    by_cases y : p_fig T s 0 (w - 1) (q + 1) = -9
    · rw [if_pos y]
      rw [y, if_pos rfl] at g1
      simp (disch := first | assumption | omega) only [k_eq, k_add, k_sub, ↓reduceIte, s_I, s_uI, ↓c_oc_17, c_lt_17, ↓jc1 q1, ↓jc1 q2, x, hI4, ↓c_gP_17_0, ↓g_oc ga_18, g18, ↓jc1 g1, k_o0, k_b0, true_or] at e
      exact ⟨_, e, h3, fun u => absurd u Bool.false_ne_true, fun r a _ => fr4 _ r a⟩
    · rw [if_neg y]
      obtain ⟨y1, y2, y3⟩ := fig_lt (by omega) y
      have h4 := hR.put (q' := q + 2) (by omega) (by omega)
      have g18' : u2 I 17 4 (j_k (q + 2)) 18 4 = j_k h := by rw [fr4 _ 18 (by decide)]; exact hG.2.1
      have g18w : ∀ v, u2 I 17 4 (j_k v) 18 3 = j_k w := fun v => by rw [fr4 _ 18 (by decide)]; exact hG.1
      have g2 := s_figure (d := d) (J := J) h4 (lo := 0) (hi := h - 1) (by decide) (by omega) (by omega) (by decide)
      rw [if_neg y, e4, show q + 1 + 1 = q + 2 by omega] at g1
      by_cases v : p_fig T s 0 (h - 1) (q + 2) = -9
      · rw [if_pos v]
        rw [v, if_pos rfl] at g2
        simp (disch := first | assumption | omega) only [k_eq, k_add, k_sub, ↓reduceIte, s_I, s_uI, ↓c_oc_17, c_lt_17, ↓jc1 q1, ↓jc1 q2, x, hI4, ↓c_gP_17_0, ↓g_oc ga_18, g18, ↓jc1 g1, y, g18', ↓jc1 g2, k_o0, k_b0, true_or] at e
        exact ⟨_, e, h4, fun u => absurd u Bool.false_ne_true, fun r a _ => fr4 _ r a⟩
      · rw [if_neg v]
        obtain ⟨v1, v2, v3⟩ := fig_lt (by omega) v
        have h5 := hR.put (q' := q + 3) (by omega) (by omega)
        rw [if_neg v, e4, show q + 2 + 1 = q + 3 by omega] at g2
        have cr := cell_rg (w := w) (h := h) (x := p_fig T s 0 (w - 1) (q + 1)) (y := p_fig T s 0 (h - 1) (q + 2)) y2 (by omega) v2 (by omega)
        rw [Int.mul_comm w, ← hC.1] at cr
        obtain ⟨c1, c2⟩ := cr
        have hG5 : iG (u2 I 17 4 (j_k (q + 3))) 18 w h N gr := hG.cg (fun r a b => fr4 _ r (by omega))
        have hF5 : iF (u2 I 17 4 (j_k (q + 3))) 22 n kd f := hF.cg (fun r a b => fr4 _ r (by omega))
        generalize hc : p_fig T s 0 (h - 1) (q + 2) * w + p_fig T s 0 (w - 1) (q + 1) = c at c1 c2 ⊢
        have c3 : c < 30 := by omega
        have g3 := s_isOpen (L := L) (p := p) (d := d + 1) (J := J) ga_18 hG5 hC c1 c2
        have g4 := s_isIn (L := L) (p := p) (d := d + 1) (J := J) fa_22 hF5 c1 c3
        by_cases o : gr c ≠ 1 ∧ gr c ≠ 2
        · have o1 : j_z (gr c ≠ 1 ∧ gr c ≠ 2) = j_k 1 := if_pos o
          rw [o1] at g3
          by_cases u : p_who n f c (-9) = -9
          · have u0 : ¬ bt (u2 I 17 4 (j_k (q + 3)) 22 9) c.toNat = true := by
              rw [hF5.2.2.2.2.2.2.2.2.2 c c1 c3, ← who_ex hn]
              exact fun t => t u
            rw [if_neg u0] at g4
            rw [if_pos ⟨o, u⟩]
            obtain ⟨I', a1, a2, a3⟩ := s_add (L := L) (p := p) (d := d + 1) (J := J) (k := p_lett (p_sg T s q)) fa_22 hF5 hn hn4 c1 c3
            simp (disch := first | assumption | omega) only [k_eq, k_add, k_sub, k_mul, ↓reduceIte, s_I, s_uI, ↓c_oc_17, c_lt_17, ↓jc1 q1, ↓jc1 q2, x, hI4, ↓c_gP_17_0, ↓c_gP_17_1, ↓g_oc ga_18, ↓f_oc fa_22, g18, ↓jc1 g1, y, g18', ↓jc1 g2, v, g18w, hc, ↓jc1 g3, ↓jc1 g4, ↓jc0 a1, k_o1, k_o0, k_b1, or_true] at e
            exact ⟨I', e, h5.cg (fun r r1 r2 => a3 r (by omega)), fun _ => ⟨⟨x1, show p_lett (p_sg T s q) ≤ 5 by omega⟩, ⟨c1, c2, u⟩, a2⟩, fun r a b => (a3 r (by omega)).trans (fr4 _ r a)⟩
          · have u0 : bt (u2 I 17 4 (j_k (q + 3)) 22 9) c.toNat = true := by
              rw [hF5.2.2.2.2.2.2.2.2.2 c c1 c3, ← who_ex hn]
              exact u
            rw [if_pos u0] at g4
            rw [if_neg (fun t => u t.2)]
            simp (disch := first | assumption | omega) only [k_eq, k_add, k_sub, k_mul, ↓reduceIte, s_I, s_uI, ↓c_oc_17, c_lt_17, ↓jc1 q1, ↓jc1 q2, x, hI4, ↓c_gP_17_0, ↓c_gP_17_1, ↓g_oc ga_18, ↓f_oc fa_22, g18, ↓jc1 g1, y, g18', ↓jc1 g2, v, g18w, hc, ↓jc1 g3, ↓jc1 g4, u2_ss, e4, k_o1, k_o0, k_b0, true_or] at e
            rw [show q + 3 - 1 = q + 2 by omega] at e
            exact ⟨_, e, h4, fun u => absurd u Bool.false_ne_true, fun r a _ => fr4 _ r a⟩
        · have o1 : j_z (gr c ≠ 1 ∧ gr c ≠ 2) = j_k 0 := if_neg o
          rw [o1] at g3
          rw [if_neg (fun t => o t.1)]
          simp (disch := first | assumption | omega) only [k_eq, k_add, k_sub, k_mul, ↓reduceIte, s_I, s_uI, ↓c_oc_17, c_lt_17, ↓jc1 q1, ↓jc1 q2, x, hI4, ↓c_gP_17_0, ↓c_gP_17_1, ↓g_oc ga_18, ↓f_oc fa_22, g18, ↓jc1 g1, y, g18', ↓jc1 g2, v, g18w, hc, ↓jc1 g3, u2_ss, e4, k_o1, k_o0, k_b0, true_or] at e
          rw [show q + 3 - 1 = q + 2 by omega] at e
          exact ⟨_, e, h4, fun u => absurd u Bool.false_ne_true, fun r a _ => fr4 _ r a⟩
end READER4
