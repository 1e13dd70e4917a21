/-! ===== its constructor (by program wip/gen/s13f.py) ===== -/
section CTOR2
variable {L s d : Nat} {P : Nat → Nat → Option Nat} {I : Nat → Nat → Int32} {J : Nat → Nat → Int64} {Ks : Sto → Option Rr}
theorem i_68 {D : Nat} (hD : 3 ≤ D) (h : nw 1 P I J) : j_c0 (j_run D) 68 [.ref 0] (CT L 1 s P I J) Ks = Ks (CT L 87 (s + 1421) (u2 (u2 (u2 (u2 (fP 82 83 (u2 (fP 78 79 (u2 (fP 74 75 (u2 (u2 (u2 (u2 (fP 67 68 (u2 (fP 63 64 (u2 (fP 59 60 (u2 (fP 55 56 (u2 (u2 (fP 48 49 (u2 (u2 (fP 44 45 (u2 (fP 40 41 (u2 (fP 36 37 (u2 (fP 31 32 (u2 (fP 27 28 (u2 (u2 (u2 (fP 22 23 (u2 (fP 18 19 (u2 (u2 (u2 (rowsP (u2 (u2 (u2 (rowsP P 2 6) 1 0 (some 2)) 1 1 (some 9)) 0 0 (some 1)) 11 4) 10 0 (some 11)) 10 1 (some 16)) 0 1 (some 10))) 17 0 (some 18))) 17 1 (some 22)) 17 2 (some 26)) 0 2 (some 17))) 0 3 (some 27))) 0 4 (some 31))) 35 0 (some 36))) 35 1 (some 40))) 35 2 (some 44)) 0 5 (some 35))) 0 6 (some 48)) 0 7 (some 52))) 54 0 (some 55))) 54 1 (some 59))) 54 2 (some 63))) 54 3 (some 67)) 53 0 (some 54)) 53 1 (some 71)) 0 8 (some 53))) 73 0 (some 74))) 73 1 (some 78))) 73 2 (some 82)) 72 0 (some 73)) 0 9 (some 72)) 0 10 (some 86)) (fI 82 (fI 78 (fI 74 (fI 67 (fI 63 (fI 59 (fI 55 (fI 48 (fI 44 (fI 40 (fI 36 (fI 31 (fI 22 (u1 (u1 I 9 (m1 6)) 16 (m1 4))))))))))))))) (u2 J 0 15 (Int64.ofNat 1))) := by
  obtain ⟨d, rfl⟩ : ∃ d, D = d + 3 := ⟨D - 3, by omega⟩
  have e := (r_68 (d + 2) (CT L 1 s P I J) 0).trans (t_68_0 _ _ _ _)
  have n0 : (j_k 0).toNatClampNeg = 0 := k_nat (by decide) (by decide)
  have n1 : (j_k 1).toNatClampNeg = 1 := k_nat (by decide) (by decide)
  have n2 : (j_k 2).toNatClampNeg = 2 := k_nat (by decide) (by decide)
  have n3 : (j_k 3).toNatClampNeg = 3 := k_nat (by decide) (by decide)
  have n4 : (j_k 4).toNatClampNeg = 4 := k_nat (by decide) (by decide)
  have n6 : (j_k 6).toNatClampNeg = 6 := k_nat (by decide) (by decide)
  have n60 : (j_k 60).toNatClampNeg = 60 := k_nat (by decide) (by decide)
  have n80 : (j_k 80).toNatClampNeg = 80 := k_nat (by decide) (by decide)
  have n201 : (j_k 201).toNatClampNeg = 201 := k_nat (by decide) (by decide)
  have z3 : (j_k 3 < 0 ∨ 100000 < 3) = False := by
    have z := sz_n (n := 3) (by decide) (by decide)
    rw [n3] at z
    exact z
  have z6 : (j_k 6 < 0 ∨ 100000 < 6) = False := by
    have z := sz_n (n := 6) (by decide) (by decide)
    rw [n6] at z
    exact z
  have z201 : (j_k 201 < 0 ∨ 100000 < 201) = False := by
    have z := sz_n (n := 201) (by decide) (by decide)
    rw [n201] at z
    exact z
  have y6 : (j_k 6 < 0 ∨ j_k 60 < 0 ∨ 1000 < 6 ∨ 1000 < 60) = False := by
    have z := sz_m (n := 6) (w := 60) (by decide) (by decide) (by decide) (by decide)
    rw [n6, n60] at z
    exact z
  have y4 : (j_k 4 < 0 ∨ j_k 80 < 0 ∨ 1000 < 4 ∨ 1000 < 80) = False := by
    have z := sz_m (n := 4) (w := 80) (by decide) (by decide) (by decide) (by decide)
    rw [n4, n80] at z
    exact z
  have h1 : nw 2 _ _ _ := h.up
  have h2 : nw 9 _ _ _ := h1.up.up.up.up.up.up.up
  have h3 : nw 9 _ _ _ := h2.rP (r := 2) (n := 6) (by decide) (by decide)
  have h4 : nw 10 _ _ _ := h3.up
  have h5 : nw 10 _ _ _ := h4.uP (r := 1) (q := 0) (v := some 2) (by decide) (by decide)
  have h6 : nw 10 _ _ _ := h5.uP (r := 1) (q := 1) (v := some 9) (by decide) (by decide)
  have h7 : nw 10 _ _ _ := h6.rI (r := 9) (f := m1 6) (by decide)
  have h8 : nw 10 _ _ _ := h7.uP (r := 0) (q := 0) (v := some 1) (by decide) (by decide)
  have h9 : nw 11 _ _ _ := h8.up
  have h10 : nw 16 _ _ _ := h9.up.up.up.up.up
  have h11 : nw 16 _ _ _ := h10.rP (r := 11) (n := 4) (by decide) (by decide)
  have h12 : nw 17 _ _ _ := h11.up
  have h13 : nw 17 _ _ _ := h12.uP (r := 10) (q := 0) (v := some 11) (by decide) (by decide)
  have h14 : nw 17 _ _ _ := h13.uP (r := 10) (q := 1) (v := some 16) (by decide) (by decide)
  have h15 : nw 17 _ _ _ := h14.rI (r := 16) (f := m1 4) (by decide)
  have h16 : nw 17 _ _ _ := h15.uP (r := 0) (q := 1) (v := some 10) (by decide) (by decide)
  have h17 : nw 18 _ _ _ := h16.up
  have h18 : nw 19 _ _ _ := h17.up
  have h19 : nw 22 _ _ _ := h18.up.up.up
  have h20 : nw 22 _ _ _ := h19.fP (a := 18) (q := 19) (by decide)
  have h21 : nw 22 _ _ _ := h20.uP (r := 17) (q := 0) (v := some 18) (by decide) (by decide)
  have h22 : nw 23 _ _ _ := h21.up
  have h23 : nw 26 _ _ _ := h22.up.up.up
  have h24 : nw 26 _ _ _ := h23.fP (a := 22) (q := 23) (by decide)
  have h25 : nw 26 _ _ _ := h24.fI (a := 22) (by decide)
  have h26 : nw 26 _ _ _ := h25.uP (r := 17) (q := 1) (v := some 22) (by decide) (by decide)
  have h27 : nw 27 _ _ _ := h26.up
  have h28 : nw 27 _ _ _ := h27.uP (r := 17) (q := 2) (v := some 26) (by decide) (by decide)
  have h29 : nw 27 _ _ _ := h28.uP (r := 0) (q := 2) (v := some 17) (by decide) (by decide)
  have h30 : nw 28 _ _ _ := h29.up
  have h31 : nw 31 _ _ _ := h30.up.up.up
  have h32 : nw 31 _ _ _ := h31.fP (a := 27) (q := 28) (by decide)
  have h33 : nw 31 _ _ _ := h32.uP (r := 0) (q := 3) (v := some 27) (by decide) (by decide)
  have h34 : nw 32 _ _ _ := h33.up
  have h35 : nw 35 _ _ _ := h34.up.up.up
  have h36 : nw 35 _ _ _ := h35.fP (a := 31) (q := 32) (by decide)
  have h37 : nw 35 _ _ _ := h36.fI (a := 31) (by decide)
  have h38 : nw 35 _ _ _ := h37.uP (r := 0) (q := 4) (v := some 31) (by decide) (by decide)
  have h39 : nw 36 _ _ _ := h38.up
  have h40 : nw 37 _ _ _ := h39.up
  have h41 : nw 40 _ _ _ := h40.up.up.up
  have h42 : nw 40 _ _ _ := h41.fP (a := 36) (q := 37) (by decide)
  have h43 : nw 40 _ _ _ := h42.fI (a := 36) (by decide)
  have h44 : nw 40 _ _ _ := h43.uP (r := 35) (q := 0) (v := some 36) (by decide) (by decide)
  have h45 : nw 41 _ _ _ := h44.up
  have h46 : nw 44 _ _ _ := h45.up.up.up
  have h47 : nw 44 _ _ _ := h46.fP (a := 40) (q := 41) (by decide)
  have h48 : nw 44 _ _ _ := h47.fI (a := 40) (by decide)
  have h49 : nw 44 _ _ _ := h48.uP (r := 35) (q := 1) (v := some 40) (by decide) (by decide)
  have h50 : nw 45 _ _ _ := h49.up
  have h51 : nw 48 _ _ _ := h50.up.up.up
  have h52 : nw 48 _ _ _ := h51.fP (a := 44) (q := 45) (by decide)
  have h53 : nw 48 _ _ _ := h52.fI (a := 44) (by decide)
  have h54 : nw 48 _ _ _ := h53.uP (r := 35) (q := 2) (v := some 44) (by decide) (by decide)
  have h55 : nw 48 _ _ _ := h54.uP (r := 0) (q := 5) (v := some 35) (by decide) (by decide)
  have h56 : nw 49 _ _ _ := h55.up
  have h57 : nw 52 _ _ _ := h56.up.up.up
  have h58 : nw 52 _ _ _ := h57.fP (a := 48) (q := 49) (by decide)
  have h59 : nw 52 _ _ _ := h58.fI (a := 48) (by decide)
  have h60 : nw 52 _ _ _ := h59.uP (r := 0) (q := 6) (v := some 48) (by decide) (by decide)
  have h61 : nw 53 _ _ _ := h60.up
  have h62 : nw 53 _ _ _ := h61.uP (r := 0) (q := 7) (v := some 52) (by decide) (by decide)
  have h63 : nw 54 _ _ _ := h62.up
  have h64 : nw 55 _ _ _ := h63.up
  have h65 : nw 56 _ _ _ := h64.up
  have h66 : nw 59 _ _ _ := h65.up.up.up
  have h67 : nw 59 _ _ _ := h66.fP (a := 55) (q := 56) (by decide)
  have h68 : nw 59 _ _ _ := h67.fI (a := 55) (by decide)
  have h69 : nw 59 _ _ _ := h68.uP (r := 54) (q := 0) (v := some 55) (by decide) (by decide)
  have h70 : nw 60 _ _ _ := h69.up
  have h71 : nw 63 _ _ _ := h70.up.up.up
  have h72 : nw 63 _ _ _ := h71.fP (a := 59) (q := 60) (by decide)
  have h73 : nw 63 _ _ _ := h72.fI (a := 59) (by decide)
  have h74 : nw 63 _ _ _ := h73.uP (r := 54) (q := 1) (v := some 59) (by decide) (by decide)
  have h75 : nw 64 _ _ _ := h74.up
  have h76 : nw 67 _ _ _ := h75.up.up.up
  have h77 : nw 67 _ _ _ := h76.fP (a := 63) (q := 64) (by decide)
  have h78 : nw 67 _ _ _ := h77.fI (a := 63) (by decide)
  have h79 : nw 67 _ _ _ := h78.uP (r := 54) (q := 2) (v := some 63) (by decide) (by decide)
  have h80 : nw 68 _ _ _ := h79.up
  have h81 : nw 71 _ _ _ := h80.up.up.up
  have h82 : nw 71 _ _ _ := h81.fP (a := 67) (q := 68) (by decide)
  have h83 : nw 71 _ _ _ := h82.fI (a := 67) (by decide)
  have h84 : nw 71 _ _ _ := h83.uP (r := 54) (q := 3) (v := some 67) (by decide) (by decide)
  have h85 : nw 71 _ _ _ := h84.uP (r := 53) (q := 0) (v := some 54) (by decide) (by decide)
  have h86 : nw 72 _ _ _ := h85.up
  have h87 : nw 72 _ _ _ := h86.uP (r := 53) (q := 1) (v := some 71) (by decide) (by decide)
  have h88 : nw 72 _ _ _ := h87.uP (r := 0) (q := 8) (v := some 53) (by decide) (by decide)
  have h89 : nw 73 _ _ _ := h88.up
  have h90 : nw 74 _ _ _ := h89.up
  have h91 : nw 75 _ _ _ := h90.up
  have h92 : nw 78 _ _ _ := h91.up.up.up
  have h93 : nw 78 _ _ _ := h92.fP (a := 74) (q := 75) (by decide)
  have h94 : nw 78 _ _ _ := h93.fI (a := 74) (by decide)
  have h95 : nw 78 _ _ _ := h94.uP (r := 73) (q := 0) (v := some 74) (by decide) (by decide)
  have h96 : nw 79 _ _ _ := h95.up
  have h97 : nw 82 _ _ _ := h96.up.up.up
  have h98 : nw 82 _ _ _ := h97.fP (a := 78) (q := 79) (by decide)
  have h99 : nw 82 _ _ _ := h98.fI (a := 78) (by decide)
  have h100 : nw 82 _ _ _ := h99.uP (r := 73) (q := 1) (v := some 78) (by decide) (by decide)
  have h101 : nw 83 _ _ _ := h100.up
  have h102 : nw 86 _ _ _ := h101.up.up.up
  have h103 : nw 86 _ _ _ := h102.fP (a := 82) (q := 83) (by decide)
  have h104 : nw 86 _ _ _ := h103.fI (a := 82) (by decide)
  have h105 : nw 86 _ _ _ := h104.uP (r := 73) (q := 2) (v := some 82) (by decide) (by decide)
  have h106 : nw 86 _ _ _ := h105.uP (r := 72) (q := 0) (v := some 73) (by decide) (by decide)
  have h107 : nw 86 _ _ _ := h106.uP (r := 0) (q := 9) (v := some 72) (by decide) (by decide)
  have h108 : nw 87 _ _ _ := h107.up
  have h109 : nw 87 _ _ _ := h108.uP (r := 0) (q := 10) (v := some 86) (by decide) (by decide)
  have h110 : nw 87 _ _ _ := h109.uJ (r := 0) (q := 15) (v := Int64.ofNat 1) (by decide)
  have w2 : ∀ j, j < 6 → SHL[2 + 1 + j]? = some (.inr (.int, 60)) := by
    intro j hj
    rcases j with _ | _ | _ | _ | _ | _ | j
    · rfl
    · rfl
    · rfl
    · rfl
    · rfl
    · rfl
    · exact absurd hj (by omega)
  have w11 : ∀ j, j < 4 → SHL[11 + 1 + j]? = some (.inr (.int, 80)) := by
    intro j hj
    rcases j with _ | _ | _ | _ | j
    · rfl
    · rfl
    · rfl
    · rfl
    · exact absurd hj (by omega)
  simp (disch := first | omega | rfl | decide) only [n0, n1, n2, n3, n4, n6, n60, n80, n201, z3, z6, z201, y6, y4, ct_mn h1 (show 2 + 1 + 6 ≤ 88 by decide) rfl w2, ct_mn h9 (show 11 + 1 + 4 ≤ 88 by decide) rfl w11, ct_al h (show 1 < 88 by decide) rfl, i_59 (n := 6) (show 2 ≤ d + 2 by omega) h3 (show 1 < 9 by decide) (show 2 < 9 by decide) (show 9 + 1 ≤ 88 by decide) (by decide) rfl rfl rfl, ct_al h8 (show 10 < 88 by decide) rfl, i_59 (n := 4) (show 2 ≤ d + 2 by omega) h11 (show 10 < 16 by decide) (show 11 < 16 by decide) (show 16 + 1 ≤ 88 by decide) (by decide) rfl rfl rfl, ct_al h16 (show 17 < 88 by decide) rfl, i_42 (show 2 ≤ d + 2 by omega) h17, ct_al h29 (show 27 < 88 by decide) rfl, i_32 (show 1 ≤ d + 2 by omega) h30 (show 27 < 28 by decide) (show 28 + 3 ≤ 88 by decide) rfl rfl rfl rfl, ct_al h33 (show 31 < 88 by decide) rfl, i_0 (show 1 ≤ d + 2 by omega) h34 (show 31 < 32 by decide) (show 32 + 3 ≤ 88 by decide) rfl rfl rfl rfl, ct_al h38 (show 35 < 88 by decide) rfl, ct_al h39 (show 36 < 88 by decide) rfl, i_0 (show 1 ≤ d + 2 by omega) h40 (show 36 < 37 by decide) (show 37 + 3 ≤ 88 by decide) rfl rfl rfl rfl, ct_al h44 (show 40 < 88 by decide) rfl, i_0 (show 1 ≤ d + 2 by omega) h45 (show 40 < 41 by decide) (show 41 + 3 ≤ 88 by decide) rfl rfl rfl rfl, ct_al h49 (show 44 < 88 by decide) rfl, i_0 (show 1 ≤ d + 2 by omega) h50 (show 44 < 45 by decide) (show 45 + 3 ≤ 88 by decide) rfl rfl rfl rfl, ct_al h55 (show 48 < 88 by decide) rfl, i_0 (show 1 ≤ d + 2 by omega) h56 (show 48 < 49 by decide) (show 49 + 3 ≤ 88 by decide) rfl rfl rfl rfl, ct_al h60 (show 52 < 88 by decide) rfl, ct_al h62 (show 53 < 88 by decide) rfl, i_51 (show 2 ≤ d + 2 by omega) h63, ct_al h88 (show 72 < 88 by decide) rfl, i_64 (show 2 ≤ d + 2 by omega) h89, ct_al h107 (show 86 < 88 by decide) rfl, ct_qs (r := 35) (n := 3) rfl, ct_n, ct_oc, ct_uP, ct_uI, ct_uJ, lt_jb, ↓reduceIte, Nat.add_assoc, Nat.reduceAdd, Nat.reduceMul] at e
  exact jc0 e
end CTOR2
