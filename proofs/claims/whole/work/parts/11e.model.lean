/-! ===== the model: the cell beside; kinds, aims ===== -/
section MODEL5
variable {L p d : Nat} {I : Nat → Nat → Int32} {J : Nat → Nat → Int64} {n w h N b : Int} {f gr kd : Fl}
theorem n_by (hw : I 87 10 = j_k w) (hN : I 87 11 = j_k N) (hC : okC w h N n gr kd) {c dx dy : Int} (c1 : 0 ≤ c) (c2 : c < N) (x1 : -100 ≤ dx) (x2 : dx ≤ 100) (y1 : -100 ≤ dy) (y2 : dy ≤ 100) : j_run (d + 2) 181 [.ref 87, .int (j_k c), .int (j_k dx), .int (j_k dy)] (ST L p I J) = some (some (.int (j_k (p_by w h c dx dy))), ST L p I J) := by
  obtain ⟨a1, a2, a3, a4, a5, a6, a7, a8, a9, a10, a11⟩ := bd_xy hC c1 c2
  have w0 : ¬ w = 0 := by omega
  have e1 : j_k c - j_k c / j_k w * j_k w = j_k (c % w) := k_modp c1 (by omega) (by omega) (by omega)
  have e3 : j_k c / j_k w = j_k (c / w) := k_divp c1 (by omega) (by omega) (by omega)
  have eh : N / w = h := by
    rw [hC.1, Int.mul_ediv_cancel_left _ w0]
  have e5 : j_k N / j_k w = j_k h := by rw [k_divp (by omega) (by omega) (by omega) (by omega), eh]
  have q1 := n_in (L := L) (p := p) (d := d) (I := I) (J := J) (v := c % w + dx) (lo := 0) (hi := w - 1) (by omega) (by omega) (by decide) (by decide) (by omega) (by omega)
  have q2 := n_in (L := L) (p := p) (d := d) (I := I) (J := J) (v := c / w + dy) (lo := 0) (hi := h - 1) (by omega) (by omega) (by decide) (by decide) (by omega) (by omega)
  have hz : ¬ j_k w = 0 := by rw [k_eq0 (by omega) (by omega)]; exact w0
  have hs : s_I (ST L p I J) 87 10 = j_k w := hw
  have hs2 : s_I (ST L p I J) 87 11 = j_k N := hN
  have t1 : ¬ j_k 1 = 0 := by decide
  have t0 : j_k 0 = 0 := by decide
  unfold p_by
  rw [r_181, t_181_0, c_oc_87, hs, if_neg hz, c_oc_87, if_neg hz, c_oc_87, e1, k_add, k_sub, jc1 q1]
  by_cases x : 0 ≤ c % w + dx ∧ c % w + dx ≤ w - 1
  · have z1 : j_z (0 ≤ c % w + dx ∧ c % w + dx ≤ w - 1) = j_k 1 := if_pos x
    rw [z1, if_neg t1, c_oc_87, c_oc_87, hs, if_neg hz, e3, k_add, hs2, e5, k_sub, jc1 q2]
    by_cases y : 0 ≤ c / w + dy ∧ c / w + dy ≤ h - 1
    · have z2 : j_z (0 ≤ c / w + dy ∧ c / w + dy ≤ h - 1) = j_k 1 := if_pos y
      rw [z2, if_neg t1, c_oc_87, if_pos (show 0 ≤ c % w + dx ∧ c % w + dx < w ∧ 0 ≤ c / w + dy ∧ c / w + dy < h by omega), hs, k_mul, k_add]
    · have z2 : j_z (0 ≤ c / w + dy ∧ c / w + dy ≤ h - 1) = j_k 0 := if_neg y
      rw [z2, if_pos t0, if_neg (show ¬ (0 ≤ c % w + dx ∧ c % w + dx < w ∧ 0 ≤ c / w + dy ∧ c / w + dy < h) by omega)]
  · have z1 : j_z (0 ≤ c % w + dx ∧ c % w + dx ≤ w - 1) = j_k 0 := if_neg x
    rw [z1, if_pos t0, if_neg (show ¬ (0 ≤ c % w + dx ∧ c % w + dx < w ∧ 0 ≤ c / w + dy ∧ c / w + dy < h) by omega)]
end MODEL5
