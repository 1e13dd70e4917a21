/-! ===== the nested constructors ===== -/
def fP (a k : Nat) (P : Nat → Nat → Option Nat) : Nat → Nat → Option Nat := u2 (u2 (u2 P a 0 (some k)) a 1 (some (k + 1))) a 2 (some (k + 2))
def fI (a : Nat) (I : Nat → Nat → Int32) : Nat → Nat → Int32 := u2 (u2 (u2 (u2 I a 4 (j_k (-9))) a 5 (j_k (-9))) a 6 (j_k (-9))) a 7 (j_k (-9))
section NEST
variable {L k s d a : Nat} {P : Nat → Nat → Option Nat} {I : Nat → Nat → Int32} {J : Nat → Nat → Int64} {K : Option Rr} {Kn : Nat → Option Rr} {Ki : Int32 → Option Rr} {Ks : Sto → Option Rr}
theorem nw.fP (h : nw k P I J) (ha : a < k) {q : Nat} : nw k (fP a q P) I J := ((h.uP ha (by decide)).uP ha (by decide)).uP ha (by decide)
theorem nw.fI (h : nw k P I J) (ha : a < k) : nw k P (fI a I) J := (((h.uI ha).uI ha).uI ha).uI ha
theorem i_0 {D : Nat} (hD : 1 ≤ D) (h : nw k P I J) (ha : a < k) (hk : k + 3 ≤ 88) (s0 : SHL[a]? = some (.inl 0)) (s1 : SHL[k]? = some (.inr (.int, 4))) (s2 : SHL[k + 1]? = some (.inr (.int, 4))) (s3 : SHL[k + 2]? = some (.inr (.int, 4))) : j_c0 (j_run D) 0 [.ref a] (CT L k s P I J) Ks = Ks (CT L (k + 3) (s + 12) (fP a k P) (fI a I) J) := by
  obtain ⟨d, rfl⟩ : ∃ d, D = d + 1 := ⟨D - 1, by omega⟩
  have e := (r_0 d (CT L k s P I J) a).trans (t_0_0 _ _ _ _)
  have z4 : (j_k 4 < 0 ∨ 100000 < (j_k 4).toNatClampNeg) = False := sz_n (by decide) (by decide)
  have n4 : (j_k 4).toNatClampNeg = 4 := k_nat (by decide) (by decide)
  have lt : (a < j_b) = True := lt_jb (by omega)
  have h1 : nw (k + 1) (u2 P a 0 (some k)) I J := (h.up).uP (by omega) (by decide)
  have h2 : nw (k + 2) (u2 (u2 P a 0 (some k)) a 1 (some (k + 1))) I J := (h1.up).uP (by omega) (by decide)
  have b1 : k < 88 := by omega
  have b2 : k + 1 < 88 := by omega
  have b3 : k + 2 < 88 := by omega
  simp only [z4, n4, lt, ct_n, ct_al h b1 s1, ct_uP, ct_al h1 b2 s2, ct_al h2 b3 s3, ct_uI, ct_oc s0 (show a < k + 1 by omega) (show k + 1 ≤ 88 by omega), ct_oc s0 (show a < k + 1 + 1 by omega) (show k + 1 + 1 ≤ 88 by omega), ct_oc s0 (show a < k + 1 + 1 + 1 by omega) (show k + 1 + 1 + 1 ≤ 88 by omega), ↓reduceIte, Nat.add_assoc, Nat.reduceAdd] at e
  exact jc0 e
theorem i_32 {D : Nat} (hD : 1 ≤ D) (h : nw k P I J) (ha : a < k) (hk : k + 3 ≤ 88) (s0 : SHL[a]? = some (.inl 1)) (s1 : SHL[k]? = some (.inr (.int, 30))) (s2 : SHL[k + 1]? = some (.inr (.int, 30))) (s3 : SHL[k + 2]? = some (.inr (.int, 30))) : j_c0 (j_run D) 32 [.ref a] (CT L k s P I J) Ks = Ks (CT L (k + 3) (s + 90) (fP a k P) I J) := by
  obtain ⟨d, rfl⟩ : ∃ d, D = d + 1 := ⟨D - 1, by omega⟩
  have e := (r_32 d (CT L k s P I J) a).trans (t_32_0 _ _ _ _)
  have z4 : (j_k 30 < 0 ∨ 100000 < (j_k 30).toNatClampNeg) = False := sz_n (by decide) (by decide)
  have n4 : (j_k 30).toNatClampNeg = 30 := k_nat (by decide) (by decide)
  have lt : (a < j_b) = True := lt_jb (by omega)
  have h1 : nw (k + 1) (u2 P a 0 (some k)) I J := (h.up).uP (by omega) (by decide)
  have h2 : nw (k + 2) (u2 (u2 P a 0 (some k)) a 1 (some (k + 1))) I J := (h1.up).uP (by omega) (by decide)
  have b1 : k < 88 := by omega
  have b2 : k + 1 < 88 := by omega
  have b3 : k + 2 < 88 := by omega
  simp only [z4, n4, lt, ct_n, ct_al h b1 s1, ct_uP, ct_al h1 b2 s2, ct_al h2 b3 s3, ct_oc s0 (show a < k + 1 by omega) (show k + 1 ≤ 88 by omega), ct_oc s0 (show a < k + 1 + 1 by omega) (show k + 1 + 1 ≤ 88 by omega), ct_oc s0 (show a < k + 1 + 1 + 1 by omega) (show k + 1 + 1 + 1 ≤ 88 by omega), ↓reduceIte, Nat.add_assoc, Nat.reduceAdd] at e
  exact jc0 e
/-- Arrays.fill of ints -/
theorem i_fill {r q : Nat} {v : Int32} (hs : SHL[r]? = some (.inr (.int, q))) (hr : r < k) (hk : k ≤ 88) (hq : q ≤ 1000) : j_run (d + 1) 127 [.ref r, .int v] (CT L k s P I J) = some (none, CT L k s P (u1 I r (fun j => if j < q then v else I r j)) J) := by
  have e : ∀ I', (CT L k s P I' J).1 r = some (.inr (.int, q)) := fun I' => (SHk_at hr hk).trans hs
  have key : ∀ (m M : Nat) (k1 : Int) (I' : Nat → Nat → Int32), 0 ≤ k1 → k1 + m = q → m < M → I' = u1 I r (fun j => if j < k1.toNat then v else I r j) → j_exec k_127 h_127 (j_run d) M 5 [some (.ref r), some (.int v), some (.int (j_k k1)), some (.int (j_k q))] [] (CT L k s P I' J) = some (none, CT L k s P (u1 I r (fun j => if j < q then v else I r j)) J) := by
    intro m
    induction m with
    | zero =>
      intro M k1 I' k2 k3 hM hI
      obtain ⟨M, rfl⟩ : ∃ q, M = q + 1 := ⟨M - 1, by omega⟩
      have z : ¬ k1 < (q : Int) := by omega
      rw [x_exec, t_127_5]
      simp (disch := first | assumption | omega) only [k_add, k_sub, k_mul, k_lt, k_eq, k_lt0, k_0lt, k_eq0, k_nat, k_b0, k_b1, k_z1, k_z0, k_o1, k_o0, Int.reduceEq, Int.reduceLT, Int.reduceLE, Int.reduceAdd, Int.reduceMul, Int.reduceNeg, Int.reduceToNat, Bool.false_eq_true, or_true, true_or, or_false, false_or, and_true, true_and, and_false, false_and, not_true_eq_false, not_false_eq_true, ↓reduceIte, z_0, z_k, s_I, s_J, s_uI, s_uJ, z]
      rw [hI, show k1.toNat = q by omega]
    | succ m ih =>
      intro M k1 I' k2 k3 hM hI
      obtain ⟨M, rfl⟩ : ∃ q, M = q + 1 := ⟨M - 1, by omega⟩
      have z : k1 < (q : Int) := by omega
      rw [x_exec, t_127_5]
      rw [if_pos (show j_k k1 < j_k q from by rw [k_lt (by omega) (by omega) (by omega) (by omega)]; exact z), q_is (e I') (by omega) hq k2 z]
      show j_exec k_127 h_127 (j_run d) M 5 [some (.ref r), some (.int v), some (.int (j_k k1 + j_k 1)), some (.int (j_k q))] [] (CT L k s P (u2 I' r (j_k k1).toNatClampNeg v) J) = _
      rw [k_nat (by omega) (by omega), k_add]
      refine ih M (k1 + 1) _ (by omega) (by omega) (by omega) ?_
      subst hI
      unfold u2
      funext r'
      by_cases z1 : r' = r
      · subst z1
        rw [u1_same, u1_same, u1_same]
        funext j
        unfold u1
        by_cases z2 : j = k1.toNat
        · rw [if_pos z2, if_pos (by omega)]
        · rw [if_neg z2]
          show (if j < k1.toNat then v else I r' j) = _
          by_cases z3 : j < k1.toNat
          · rw [if_pos z3, if_pos (by omega)]
          · rw [if_neg z3, if_neg (by omega)]
      · rw [u1_ne z1, u1_ne z1, u1_ne z1]
  rw [r_127, t_127_0, q_lenI (e I)]
  refine key q 999999 0 I (Int.le_refl 0) (by omega) (by omega) ?_
  funext r'
  by_cases z1 : r' = r
  · subst z1
    rw [u1_same]
    funext j
    rw [if_neg (by simp)]
  · rw [u1_ne z1]
/-- a row of n sizes, all -1 -/
def m1 (n : Nat) : Nat → Int32 := fun j => if j < n then j_k (-1) else 0
theorem i_59 {D b n : Nat} (hD : 2 ≤ D) (h : nw k P I J) (ha : a < k) (hb : b < k) (hk : k + 1 ≤ 88) (hn : n ≤ 40) (s0 : SHL[a]? = some (.inl 4)) (s1 : SHL[b]? = some (.inr (.array .int, n))) (s2 : SHL[k]? = some (.inr (.int, n))) : j_c0 (j_run D) 59 [.ref a, .ref b] (CT L k s P I J) Ks = Ks (CT L (k + 1) (s + n) (u2 (u2 P a 0 (some b)) a 1 (some k)) (u1 I k (m1 n)) J) := by
  obtain ⟨d, rfl⟩ : ∃ d, D = d + 1 + 1 := ⟨D - 2, by omega⟩
  have e := (r_59 (d + 1) (CT L k s P I J) a b).trans (t_59_0 _ _ _ _ _)
  have n4 : (j_k n).toNatClampNeg = n := (k_nat (by omega) (by omega)).trans (Int.toNat_natCast n)
  have z4 : (j_k n < 0 ∨ 100000 < n) = False := by
    have z := sz_n (n := n) (by omega) (by omega)
    rw [n4] at z
    exact z
  have lt : (a < j_b) = True := lt_jb (by omega)
  have h1 : nw k (u2 P a 0 (some b)) I J := h.uP ha (by decide)
  have g : ∀ Kn, j_gP (CT L (k + 1) (s + n) (u2 (u2 P a 0 (some b)) a 1 (some k)) I J) 4 a 1 Kn = Kn k := fun Kn => ct_gP s0 (by omega) (by omega) (u2_ss _ _ _ _)
  have f := i_fill (L := L) (k := k + 1) (s := s + n) (P := u2 (u2 P a 0 (some b)) a 1 (some k)) (I := I) (J := J) (d := d) (v := j_k (-1)) s2 (Nat.lt_succ_self k) (by omega) (by omega)
  rw [show (fun j => if j < n then j_k (-1) else I k j) = m1 n from by rw [h.2.1 k (Nat.le_refl k) (by omega)]; rfl] at f
  simp only [lt, ct_oc s0 ha (show k ≤ 88 by omega), ct_uP, ct_lenQ s1 hb (show k ≤ 88 by omega), z4, n4, ct_n, ct_al h1 (show k < 88 by omega) s2, ct_oc s0 (show a < k + 1 by omega) hk, g, jc0 f, ↓reduceIte] at e
  exact jc0 e
end NEST
