/-! ===== the model: becomesLast ===== -/
section MODEL9
variable {L p d : Nat} {I : Nat → Nat → Int32} {J : Nat → Nat → Int64} {n : Int} {f : Fl}
theorem n_bl {q k c : Int} (hf : iM1 I q n f) (q1 : 0 ≤ q) (q2 : q < 9) (n0 : 0 ≤ n) (n4 : n ≤ 4) : ∃ I', j_run (d + 2) 183 [.ref 87, .int (j_k q), .int (j_k k), .int (j_k c)] (ST L p I J) = some (none, ST L p I' J) ∧ iM1 I' q n (p_bl f k c) ∧ frM n q I I' := by
  have v1 := n_v (L := L) (p := p) (d := d) (I := I) (J := J) q1 q2 (show (0 : Int) ≤ 1 by decide) (show (1 : Int) < 13 by decide)
  rw [hf.1 1 (by decide) (by decide)] at v1
  have p1 := n_place (L := L) (p := p) (d := d) (I := I) (J := J) (v := j_k (f 1)) q1 q2 (show (0 : Int) ≤ 3 by decide) (show (3 : Int) < 13 by decide)
  have f1 := hf.put (v := f 1) q1 n4 (show (0 : Int) ≤ 3 by decide) (show (3 : Int) < 13 by decide)
  have v2 := n_v (L := L) (p := p) (d := d) (I := u2 I 99 (13 * q + 3).toNat (j_k (f 1))) (J := J) q1 q2 (show (0 : Int) ≤ 2 by decide) (show (2 : Int) < 13 by decide)
  rw [f1.1 2 (by decide) (by decide), show p_set f 3 (f 1) 2 = f 2 from if_neg (by decide)] at v2
  have p2 := n_place (L := L) (p := p) (d := d) (I := u2 I 99 (13 * q + 3).toNat (j_k (f 1))) (J := J) (v := j_k (f 2)) q1 q2 (show (0 : Int) ≤ 4 by decide) (show (4 : Int) < 13 by decide)
  have f2 := f1.put (v := f 2) q1 n4 (show (0 : Int) ≤ 4 by decide) (show (4 : Int) < 13 by decide)
  have p3 := n_place (L := L) (p := p) (d := d) (I := u2 (u2 I 99 (13 * q + 3).toNat (j_k (f 1))) 99 (13 * q + 4).toNat (j_k (f 2))) (J := J) (v := j_k k) q1 q2 (show (0 : Int) ≤ 1 by decide) (show (1 : Int) < 13 by decide)
  have f3 := f2.put (v := k) q1 n4 (show (0 : Int) ≤ 1 by decide) (show (1 : Int) < 13 by decide)
  have p4 := n_place (L := L) (p := p) (d := d) (I := u2 (u2 (u2 I 99 (13 * q + 3).toNat (j_k (f 1))) 99 (13 * q + 4).toNat (j_k (f 2))) 99 (13 * q + 1).toNat (j_k k)) (J := J) (v := j_k c) q1 q2 (show (0 : Int) ≤ 2 by decide) (show (2 : Int) < 13 by decide)
  have f4 := f3.put (v := c) q1 n4 (show (0 : Int) ≤ 2 by decide) (show (2 : Int) < 13 by decide)
  refine ⟨_, ?_, f4, (((frM.put q1 (by decide) (Or.inl (by omega)) (by decide) n0).tr (frM.put q1 (by decide) (Or.inl (by omega)) (by decide) n0)).tr (frM.put q1 (by decide) (Or.inl (by omega)) (by decide) n0)).tr (frM.put q1 (by decide) (Or.inl (by omega)) (by decide) n0)⟩
  rw [r_183, t_183_0, c_oc_87, jc1 v1, c_oc_87, jc0 p1, c_oc_87, jc1 v2, c_oc_87, jc0 p2, c_oc_87, jc0 p3, c_oc_87, jc0 p4]
end MODEL9
