/-! ===== reader, search, watch: their constructors (by program wip/gen/s13f.py) ===== -/
section NEST2
variable {L s d : Nat} {P : Nat → Nat → Option Nat} {I : Nat → Nat → Int32} {J : Nat → Nat → Int64} {Ks : Sto → Option Rr}
theorem i_42 {D : Nat} (hD : 2 ≤ D) (h : nw 18 P I J) : j_c0 (j_run D) 42 [.ref 17] (CT L 18 s P I J) Ks = Ks (CT L 27 (s + 118) (u2 (u2 (fP 22 23 (u2 (fP 18 19 P) 17 0 (some 18))) 17 1 (some 22)) 17 2 (some 26)) (fI 22 I) J) := by
  obtain ⟨d, rfl⟩ : ∃ d, D = d + 2 := ⟨D - 2, by omega⟩
  have e := (r_42 (d + 1) (CT L 18 s P I J) 17).trans (t_42_0 _ _ _ _)
  have n0 : (j_k 0).toNatClampNeg = 0 := k_nat (by decide) (by decide)
  have z0 : (j_k 0 < 0 ∨ 100000 < 0) = False := by
    have z := sz_n (n := 0) (by decide) (by decide)
    rw [n0] at z
    exact z
  have h1 : nw 19 _ _ _ := h.up
  have h2 : nw 22 _ _ _ := h1.up.up.up
  have h3 : nw 22 _ _ _ := h2.fP (a := 18) (q := 19) (by decide)
  have h4 : nw 22 _ _ _ := h3.uP (r := 17) (q := 0) (v := some 18) (by decide) (by decide)
  have h5 : nw 23 _ _ _ := h4.up
  have h6 : nw 26 _ _ _ := h5.up.up.up
  have h7 : nw 26 _ _ _ := h6.fP (a := 22) (q := 23) (by decide)
  have h8 : nw 26 _ _ _ := h7.fI (a := 22) (by decide)
  have h9 : nw 26 _ _ _ := h8.uP (r := 17) (q := 1) (v := some 22) (by decide) (by decide)
  have h10 : nw 27 _ _ _ := h9.up
  have h11 : nw 27 _ _ _ := h10.uP (r := 17) (q := 2) (v := some 26) (by decide) (by decide)
  simp (disch := first | omega | rfl | decide) only [n0, z0, ct_al h (show 18 < 88 by decide) rfl, i_32 (show 1 ≤ d + 1 by omega) h1 (show 18 < 19 by decide) (show 19 + 3 ≤ 88 by decide) rfl rfl rfl rfl, ct_al h4 (show 22 < 88 by decide) rfl, i_0 (show 1 ≤ d + 1 by omega) h5 (show 22 < 23 by decide) (show 23 + 3 ≤ 88 by decide) rfl rfl rfl rfl, ct_al h9 (show 26 < 88 by decide) rfl, ct_n, ct_oc, ct_uP, ct_uI, ct_uJ, ct_mn, lt_jb, ↓reduceIte, Nat.add_assoc, Nat.reduceAdd, Nat.reduceMul] at e
  exact jc0 e
theorem i_51 {D : Nat} (hD : 2 ≤ D) (h : nw 54 P I J) : j_c0 (j_run D) 51 [.ref 53] (CT L 54 s P I J) Ks = Ks (CT L 72 (s + 96) (u2 (u2 (u2 (fP 67 68 (u2 (fP 63 64 (u2 (fP 59 60 (u2 (fP 55 56 P) 54 0 (some 55))) 54 1 (some 59))) 54 2 (some 63))) 54 3 (some 67)) 53 0 (some 54)) 53 1 (some 71)) (fI 67 (fI 63 (fI 59 (fI 55 I)))) J) := by
  obtain ⟨d, rfl⟩ : ∃ d, D = d + 2 := ⟨D - 2, by omega⟩
  have e := (r_51 (d + 1) (CT L 54 s P I J) 53).trans (t_51_0 _ _ _ _)
  have n0 : (j_k 0).toNatClampNeg = 0 := k_nat (by decide) (by decide)
  have n1 : (j_k 1).toNatClampNeg = 1 := k_nat (by decide) (by decide)
  have n2 : (j_k 2).toNatClampNeg = 2 := k_nat (by decide) (by decide)
  have n3 : (j_k 3).toNatClampNeg = 3 := k_nat (by decide) (by decide)
  have n4 : (j_k 4).toNatClampNeg = 4 := k_nat (by decide) (by decide)
  have z4 : (j_k 4 < 0 ∨ 100000 < 4) = False := by
    have z := sz_n (n := 4) (by decide) (by decide)
    rw [n4] at z
    exact z
  have h1 : nw 55 _ _ _ := h.up
  have h2 : nw 56 _ _ _ := h1.up
  have h3 : nw 59 _ _ _ := h2.up.up.up
  have h4 : nw 59 _ _ _ := h3.fP (a := 55) (q := 56) (by decide)
  have h5 : nw 59 _ _ _ := h4.fI (a := 55) (by decide)
  have h6 : nw 59 _ _ _ := h5.uP (r := 54) (q := 0) (v := some 55) (by decide) (by decide)
  have h7 : nw 60 _ _ _ := h6.up
  have h8 : nw 63 _ _ _ := h7.up.up.up
  have h9 : nw 63 _ _ _ := h8.fP (a := 59) (q := 60) (by decide)
  have h10 : nw 63 _ _ _ := h9.fI (a := 59) (by decide)
  have h11 : nw 63 _ _ _ := h10.uP (r := 54) (q := 1) (v := some 59) (by decide) (by decide)
  have h12 : nw 64 _ _ _ := h11.up
  have h13 : nw 67 _ _ _ := h12.up.up.up
  have h14 : nw 67 _ _ _ := h13.fP (a := 63) (q := 64) (by decide)
  have h15 : nw 67 _ _ _ := h14.fI (a := 63) (by decide)
  have h16 : nw 67 _ _ _ := h15.uP (r := 54) (q := 2) (v := some 63) (by decide) (by decide)
  have h17 : nw 68 _ _ _ := h16.up
  have h18 : nw 71 _ _ _ := h17.up.up.up
  have h19 : nw 71 _ _ _ := h18.fP (a := 67) (q := 68) (by decide)
  have h20 : nw 71 _ _ _ := h19.fI (a := 67) (by decide)
  have h21 : nw 71 _ _ _ := h20.uP (r := 54) (q := 3) (v := some 67) (by decide) (by decide)
  have h22 : nw 71 _ _ _ := h21.uP (r := 53) (q := 0) (v := some 54) (by decide) (by decide)
  have h23 : nw 72 _ _ _ := h22.up
  have h24 : nw 72 _ _ _ := h23.uP (r := 53) (q := 1) (v := some 71) (by decide) (by decide)
  simp (disch := first | omega | rfl | decide) only [n0, n1, n2, n3, n4, z4, ct_al h (show 54 < 88 by decide) rfl, ct_al h1 (show 55 < 88 by decide) rfl, i_0 (show 1 ≤ d + 1 by omega) h2 (show 55 < 56 by decide) (show 56 + 3 ≤ 88 by decide) rfl rfl rfl rfl, ct_al h6 (show 59 < 88 by decide) rfl, i_0 (show 1 ≤ d + 1 by omega) h7 (show 59 < 60 by decide) (show 60 + 3 ≤ 88 by decide) rfl rfl rfl rfl, ct_al h11 (show 63 < 88 by decide) rfl, i_0 (show 1 ≤ d + 1 by omega) h12 (show 63 < 64 by decide) (show 64 + 3 ≤ 88 by decide) rfl rfl rfl rfl, ct_al h16 (show 67 < 88 by decide) rfl, i_0 (show 1 ≤ d + 1 by omega) h17 (show 67 < 68 by decide) (show 68 + 3 ≤ 88 by decide) rfl rfl rfl rfl, ct_al h22 (show 71 < 88 by decide) rfl, ct_qs (r := 54) (n := 4) rfl, ct_n, ct_oc, ct_uP, ct_uI, ct_uJ, ct_mn, lt_jb, ↓reduceIte, Nat.add_assoc, Nat.reduceAdd, Nat.reduceMul] at e
  exact jc0 e
theorem i_64 {D : Nat} (hD : 2 ≤ D) (h : nw 73 P I J) : j_c0 (j_run D) 64 [.ref 72] (CT L 73 s P I J) Ks = Ks (CT L 86 (s + 69) (u2 (u2 (fP 82 83 (u2 (fP 78 79 (u2 (fP 74 75 P) 73 0 (some 74))) 73 1 (some 78))) 73 2 (some 82)) 72 0 (some 73)) (fI 82 (fI 78 (fI 74 I))) J) := by
  obtain ⟨d, rfl⟩ : ∃ d, D = d + 2 := ⟨D - 2, by omega⟩
  have e := (r_64 (d + 1) (CT L 73 s P I J) 72).trans (t_64_0 _ _ _ _)
  have n0 : (j_k 0).toNatClampNeg = 0 := k_nat (by decide) (by decide)
  have n1 : (j_k 1).toNatClampNeg = 1 := k_nat (by decide) (by decide)
  have n2 : (j_k 2).toNatClampNeg = 2 := k_nat (by decide) (by decide)
  have n3 : (j_k 3).toNatClampNeg = 3 := k_nat (by decide) (by decide)
  have z3 : (j_k 3 < 0 ∨ 100000 < 3) = False := by
    have z := sz_n (n := 3) (by decide) (by decide)
    rw [n3] at z
    exact z
  have h1 : nw 74 _ _ _ := h.up
  have h2 : nw 75 _ _ _ := h1.up
  have h3 : nw 78 _ _ _ := h2.up.up.up
  have h4 : nw 78 _ _ _ := h3.fP (a := 74) (q := 75) (by decide)
  have h5 : nw 78 _ _ _ := h4.fI (a := 74) (by decide)
  have h6 : nw 78 _ _ _ := h5.uP (r := 73) (q := 0) (v := some 74) (by decide) (by decide)
  have h7 : nw 79 _ _ _ := h6.up
  have h8 : nw 82 _ _ _ := h7.up.up.up
  have h9 : nw 82 _ _ _ := h8.fP (a := 78) (q := 79) (by decide)
  have h10 : nw 82 _ _ _ := h9.fI (a := 78) (by decide)
  have h11 : nw 82 _ _ _ := h10.uP (r := 73) (q := 1) (v := some 78) (by decide) (by decide)
  have h12 : nw 83 _ _ _ := h11.up
  have h13 : nw 86 _ _ _ := h12.up.up.up
  have h14 : nw 86 _ _ _ := h13.fP (a := 82) (q := 83) (by decide)
  have h15 : nw 86 _ _ _ := h14.fI (a := 82) (by decide)
  have h16 : nw 86 _ _ _ := h15.uP (r := 73) (q := 2) (v := some 82) (by decide) (by decide)
  have h17 : nw 86 _ _ _ := h16.uP (r := 72) (q := 0) (v := some 73) (by decide) (by decide)
  simp (disch := first | omega | rfl | decide) only [n0, n1, n2, n3, z3, ct_al h (show 73 < 88 by decide) rfl, ct_al h1 (show 74 < 88 by decide) rfl, i_0 (show 1 ≤ d + 1 by omega) h2 (show 74 < 75 by decide) (show 75 + 3 ≤ 88 by decide) rfl rfl rfl rfl, ct_al h6 (show 78 < 88 by decide) rfl, i_0 (show 1 ≤ d + 1 by omega) h7 (show 78 < 79 by decide) (show 79 + 3 ≤ 88 by decide) rfl rfl rfl rfl, ct_al h11 (show 82 < 88 by decide) rfl, i_0 (show 1 ≤ d + 1 by omega) h12 (show 82 < 83 by decide) (show 83 + 3 ≤ 88 by decide) rfl rfl rfl rfl, ct_qs (r := 73) (n := 3) rfl, ct_n, ct_oc, ct_uP, ct_uI, ct_uJ, ct_mn, lt_jb, ↓reduceIte, Nat.add_assoc, Nat.reduceAdd, Nat.reduceMul] at e
  exact jc0 e
end NEST2
