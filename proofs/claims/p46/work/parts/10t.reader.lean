/-! ===== the reader: all beasts ===== -/
def p_rdB (T : Int → Int) (s w h : Int) (gr : Fl) : Nat → Int → Int → Fl → Fl → Bool × Int × Int × Fl × Fl
  | 0, n, q, kd, f => (decide (p_skip T s q = s), p_skip T s q, n, kd, f)
  | m + 1, n, q, kd, f => if p_skip T s q = s then (true, p_skip T s q, n, kd, f) else if (p_rdB1 T s w h gr n f (p_skip T s q)).1 = true then p_rdB T s w h gr m (n + 1) (p_rdB1 T s w h gr n f (p_skip T s q)).2.1 (f2 kd n (p_rdB1 T s w h gr n f (p_skip T s q)).2.2.1) (p_put1 f n (p_rdB1 T s w h gr n f (p_skip T s q)).2.2.2) else (false, (p_rdB1 T s w h gr n f (p_skip T s q)).2.1, n, kd, f)
theorem put1_lo {f : Fl} {n c j : Int} (hn : 0 ≤ n) (hj : j ≤ 4) : p_put1 f n c j = f j := by
  unfold p_put1 p_set
  rw [if_neg (by omega), if_neg (by omega)]
theorem put1_c {f : Fl} {n c j : Int} (hn : 0 ≤ n) (hn4 : n < 4) (j0 : 0 ≤ j) (j4 : j < 4) : p_put1 f n c (5 + j) = if j = n then c else f (5 + j) := by
  unfold p_put1 p_set
  by_cases z : j = n
  · rw [if_neg (by omega), if_pos (by omega), if_pos z]
  · rw [if_neg (by omega), if_neg (by omega), if_neg z]
theorem okF_put1 {N n b c : Int} {f : Fl} (ho : okF N n b f) (hn : 0 ≤ n) (hn4 : n < 4) (c1 : 0 ≤ c) (c2 : c < N) (hw : p_who n f c (-9) = -9) : okF N (n + 1) b (p_put1 f n c) := by
  obtain ⟨h1, h2, h3, h4, h5, h6⟩ := ho
  have no : ∀ k, 0 ≤ k → k < n → f (5 + k) ≠ c := fun k k1 k2 e => by
    have t : p_who n f c (-9) ≠ -9 := by
      rw [who_ex hn]
      exact ⟨k, k1, k2, e⟩
    exact t hw
  refine ⟨fun k k1 k2 => ?_, fun j k j1 k1 k2 e => ?_, ?_, ?_, ?_, ?_⟩
  · rw [put1_c hn hn4 k1 (by omega)]
    split
    · exact Or.inr ⟨c1, c2⟩
    · exact h1 k k1 (by omega)
  · rw [put1_c hn hn4 j1 (by omega), put1_c hn hn4 (by omega) (by omega), if_neg (by omega)] at e
    rw [put1_c hn hn4 j1 (by omega), if_neg (by omega)]
    by_cases z : k = n
    · rw [if_pos z] at e
      exact absurd e (no j j1 (by omega))
    · rw [if_neg z] at e
      exact h2 j k j1 k1 (by omega) e
  · rw [put1_lo hn (by decide), put1_lo hn (by decide)]
    omega
  · rw [put1_lo hn (by decide), put1_lo hn (by decide)]
    omega
  · rw [put1_lo hn (by decide), put1_lo hn (by decide)]
    exact h5
  · rw [put1_lo hn (by decide)]
    exact h6
section READER5
variable {L p d : Nat} {J : Nat → Nat → Int64} {T : Int → Int} {s w h N : Int} {gr : Fl}
theorem s_readBeasts (hw : 2 ≤ w) : ∀ (t M : Nat) (n q : Int) (kd f : Fl) (I : Nat → Nat → Int32), 0 ≤ n → n + t = 4 → t < M → iR L p I T s q → xS I → iG I 18 w h N gr → okC w h N n gr kd → iF I 22 n kd f → okF N n 0 f →
    ∃ I', j_exec k_46 h_46 (j_run (d + 3)) M 9 [some (.ref 17), some (.int (j_k n))] [] (ST L p I J) = some (some (.int (j_z ((p_rdB T s w h gr t n q kd f).1 = true))), ST L p I' J) ∧ iR L p I' T s (p_rdB T s w h gr t n q kd f).2.1 ∧ okC w h N (p_rdB T s w h gr t n q kd f).2.2.1 gr (p_rdB T s w h gr t n q kd f).2.2.2.1 ∧ okF N (p_rdB T s w h gr t n q kd f).2.2.1 0 (p_rdB T s w h gr t n q kd f).2.2.2.2 ∧ ((p_rdB T s w h gr t n q kd f).1 = true → iF I' 22 (p_rdB T s w h gr t n q kd f).2.2.1 (p_rdB T s w h gr t n q kd f).2.2.2.1 (p_rdB T s w h gr t n q kd f).2.2.2.2) ∧ (∀ r, r ≠ 17 → (r < 22 ∨ 26 ≤ r) → I' r = I r) := by
  intro t
  induction t with
  | zero =>
    intro M n q kd f I n1 n2 hM hR hS hG hC hF ho
    obtain ⟨M, rfl⟩ : ∃ q, M = q + 1 := ⟨M - 1, by omega⟩
    have z : ¬ n < 4 := by omega
    obtain ⟨k1, k2, k3⟩ := s_skip (d := d + 2) (J := J) hR
    have hs := hR.2.1
    have q0 : 0 ≤ p_skip T s q := by omega
    have h1 := hR.put (q' := p_skip T s q) q0 k3
    have e3 := h1.2.2.1
    have rd : p_rdB T s w h gr 0 n q kd f = (decide (p_skip T s q = s), p_skip T s q, n, kd, f) := rfl
    rw [rd]
    have fr4 : ∀ r, r ≠ 17 → u2 I 17 4 (j_k (p_skip T s q)) r = I r := fun r hr => by funext k; rw [u2_r hr]
    refine ⟨_, ?_, h1, hC, ho, fun _ => hF.cg (fun r a b => fr4 r (by omega)), fun r a _ => fr4 r a⟩
    rw [x_exec, t_46_9]
    by_cases x : p_skip T s q = s
    · have j1 : j_z (decide (p_skip T s q = s) = true) = j_k 1 := if_pos (decide_eq_true x)
      have ex : (j_k (p_skip T s q) = j_k s) = True := eq_true (by rw [x])
      show _ = some (some (Value.int (j_z (decide (p_skip T s q = s) = true))), _)
      rw [j1]
      simp (disch := first | assumption | omega) only [k_lt, ↓reduceIte, s_I, ↓c_oc_17, z, ↓jc0 k1, u2_ss, e3, ex, k_o1, k_b1, or_true]
    · have j1 : j_z (decide (p_skip T s q = s) = true) = j_k 0 := if_neg (by rw [decide_eq_true_iff]; exact x)
      show _ = some (some (Value.int (j_z (decide (p_skip T s q = s) = true))), _)
      rw [j1]
      simp (disch := first | assumption | omega) only [k_lt, k_eq, ↓reduceIte, s_I, ↓c_oc_17, z, ↓jc0 k1, u2_ss, e3, x, k_o0, k_b0, true_or]
      exact if_pos (Or.inl rfl)
  | succ t ih =>
    intro M n q kd f I n1 n2 hM hR hS hG hC hF ho
    obtain ⟨M, rfl⟩ : ∃ q, M = q + 1 := ⟨M - 1, by omega⟩
    have z : n < 4 := by omega
    obtain ⟨k1, k2, k3⟩ := s_skip (d := d + 2) (J := J) hR
    have hs := hR.2.1
    have q0 : 0 ≤ p_skip T s q := by omega
    have h1 := hR.put (q' := p_skip T s q) q0 k3
    have e3 := h1.2.2.1
    have fr4 : ∀ r, r ≠ 17 → u2 I 17 4 (j_k (p_skip T s q)) r = I r := fun r hr => by funext k; rw [u2_r hr]
    have hF1 : iF (u2 I 17 4 (j_k (p_skip T s q))) 22 n kd f := hF.cg (fun r a b => fr4 r (by omega))
    have hS1 : xS (u2 I 17 4 (j_k (p_skip T s q))) := hS.cg (fr4 _ (by decide)) (fr4 _ (by decide))
    have hG1 : iG (u2 I 17 4 (j_k (p_skip T s q))) 18 w h N gr := hG.cg (fun r a b => fr4 r (by omega))
    rw [x_exec, t_46_9]
    by_cases x : p_skip T s q = s
    · have rd : p_rdB T s w h gr (t + 1) n q kd f = (true, p_skip T s q, n, kd, f) := if_pos x
      rw [rd]
      have ex : (j_k (p_skip T s q) = j_k s) = True := eq_true (by rw [x])
      refine ⟨_, ?_, h1, hC, ho, fun _ => hF1, fun r a _ => fr4 r a⟩
      simp (disch := first | assumption | omega) only [k_lt, ↓reduceIte, s_I, ↓c_oc_17, z, ↓jc0 k1, u2_ss, e3, ex, k_o1, k_b1, or_true]
      rfl
    · obtain ⟨I1, a1, a2, a3, a4⟩ := s_readBeast (L := L) (p := p) (d := d) (J := J) h1 hS1 hG1 hC hw hF1 z
      by_cases y : (p_rdB1 T s w h gr n f (p_skip T s q)).1 = true
      · have rd : p_rdB T s w h gr (t + 1) n q kd f = p_rdB T s w h gr t (n + 1) (p_rdB1 T s w h gr n f (p_skip T s q)).2.1 (f2 kd n (p_rdB1 T s w h gr n f (p_skip T s q)).2.2.1) (p_put1 f n (p_rdB1 T s w h gr n f (p_skip T s q)).2.2.2) := (if_neg x).trans (if_pos y)
        have j1 : j_z ((p_rdB1 T s w h gr n f (p_skip T s q)).1 = true) = j_k 1 := if_pos y
        rw [j1] at a1
        obtain ⟨b1, b2, b3⟩ := a3 y
        have hC2 : okC w h N (n + 1) gr (f2 kd n (p_rdB1 T s w h gr n f (p_skip T s q)).2.2.1) := by
          refine ⟨hC.1, Or.inl (hC.2.1.resolve_right (fun z => by omega)), by omega, by omega, hC.2.2.2.2.1, fun k k1 k2 => ?_⟩
          unfold f2
          by_cases u : k = n
          · rw [if_pos u]
            exact b1
          · rw [if_neg u]
            exact hC.2.2.2.2.2 k k1 (by omega)
        obtain ⟨I', e1, e2, e3', e4, e5, e6⟩ := ih M (n + 1) (p_rdB1 T s w h gr n f (p_skip T s q)).2.1 (f2 kd n (p_rdB1 T s w h gr n f (p_skip T s q)).2.2.1) (p_put1 f n (p_rdB1 T s w h gr n f (p_skip T s q)).2.2.2) I1 (by omega) (by omega) (by omega) a2 (hS1.cg (a4 _ (by decide) (Or.inr (by decide))) (a4 _ (by decide) (Or.inr (by decide)))) (hG1.cg (fun r x1 x2 => a4 r (by omega) (by omega))) hC2 b3 (okF_put1 ho n1 z b2.1 b2.2.1 b2.2.2)
        rw [rd]
        refine ⟨I', ?_, e2, e3', e4, e5, fun r x1 x2 => (e6 r x1 x2).trans ((a4 r x1 x2).trans (fr4 r x1))⟩
        simp (disch := first | assumption | omega) only [k_lt, k_eq, k_add, ↓reduceIte, s_I, ↓c_oc_17, z, ↓jc0 k1, u2_ss, e3, x, ↓jc1 a1, k_o1]
        exact e1
      · have rd : p_rdB T s w h gr (t + 1) n q kd f = (false, (p_rdB1 T s w h gr n f (p_skip T s q)).2.1, n, kd, f) := (if_neg x).trans (if_neg y)
        have j1 : j_z ((p_rdB1 T s w h gr n f (p_skip T s q)).1 = true) = j_k 0 := if_neg y
        rw [j1] at a1
        rw [rd]
        refine ⟨I1, ?_, a2, hC, ho, fun u => absurd u Bool.false_ne_true, fun r x1 x2 => (a4 r x1 x2).trans (fr4 r x1)⟩
        simp (disch := first | assumption | omega) only [k_lt, k_eq, ↓reduceIte, s_I, ↓c_oc_17, z, ↓jc0 k1, u2_ss, e3, x, ↓jc1 a1, k_o0, k_b0, true_or]
        rfl
end READER5
