/-! ===== what the constructors leave (by program wip/gen/s13h.py) ===== -/
def e_P1 : Nat → Nat → Option Nat := u2 (u2 (u2 (u2 (fP 82 83 (u2 (fP 78 79 (u2 (fP 74 75 (u2 (u2 (u2 (u2 (fP 67 68 (u2 (fP 63 64 (u2 (fP 59 60 (u2 (fP 55 56 (u2 (u2 (fP 48 49 (u2 (u2 (fP 44 45 (u2 (fP 40 41 (u2 (fP 36 37 (u2 (fP 31 32 (u2 (fP 27 28 (u2 (u2 (u2 (fP 22 23 (u2 (fP 18 19 (u2 (u2 (u2 (rowsP (u2 (u2 (u2 (rowsP ((fun _ _ => none)) 2 6) 1 0 (some 2)) 1 1 (some 9)) 0 0 (some 1)) 11 4) 10 0 (some 11)) 10 1 (some 16)) 0 1 (some 10))) 17 0 (some 18))) 17 1 (some 22)) 17 2 (some 26)) 0 2 (some 17))) 0 3 (some 27))) 0 4 (some 31))) 35 0 (some 36))) 35 1 (some 40))) 35 2 (some 44)) 0 5 (some 35))) 0 6 (some 48)) 0 7 (some 52))) 54 0 (some 55))) 54 1 (some 59))) 54 2 (some 63))) 54 3 (some 67)) 53 0 (some 54)) 53 1 (some 71)) 0 8 (some 53))) 73 0 (some 74))) 73 1 (some 78))) 73 2 (some 82)) 72 0 (some 73)) 0 9 (some 72)) 0 10 (some 86)
def e_P : Nat → Nat → Option Nat := u2 (u2 (u2 (u2 (u2 (u2 (u2 (u2 (u2 (u2 (u2 (u2 (u2 (u2 (u2 (u2 e_P1 87 1 (some 88)) 87 5 (some 89)) 87 6 (some 90)) 87 7 (some 91)) 87 8 (some 92)) 87 9 (some 93)) 87 12 (some 94)) 87 14 (some 95)) 87 21 (some 96)) 87 22 (some 97)) 87 23 (some 98)) 87 24 (some 99)) 87 25 (some 100)) 87 28 (some 101)) 87 31 (some 102)) 87 37 (some 103)
def e_I (I : Nat → Nat → Int32) : Nat → Nat → Int32 := fI 82 (fI 78 (fI 74 (fI 67 (fI 63 (fI 59 (fI 55 (fI 48 (fI 44 (fI 40 (fI 36 (fI 31 (fI 22 (u1 (u1 I 9 (m1 6)) 16 (m1 4))))))))))))))
def e_J : Nat → Nat → Int64 := u2 (u2 ((fun _ _ => 0)) 0 15 (Int64.ofNat 1)) 87 4 (Int64.ofNat 1)
def e_I2 (I : Nat → Nat → Int32) : Nat → Nat → Int32 := u2 (u2 (u2 (u2 (u2 (u2 (u2 (u2 (u2 (u2 (u2 (u2 (u2 (u2 (e_I I) 89 0 (j_k (-1))) 89 1 (j_k (-1))) 89 2 (j_k (-1))) 89 3 (j_k (-1))) 89 4 (j_k (-1))) 89 5 (j_k (-1))) 92 0 (j_k (-1))) 92 1 (j_k (-1))) 92 2 (j_k (-1))) 92 3 (j_k (-1))) 99 1 (j_k (-9))) 99 2 (j_k (-9))) 99 3 (j_k (-9))) 99 4 (j_k (-9))
theorem PP_out {r q : Nat} (h : 104 ≤ r ∨ 40 ≤ q) : PP 26 r q = none := by
  have key : ∀ r, r < 104 → (PPL 26 r).length ≤ 40 := by decide +kernel
  unfold PP
  by_cases z : r < 104
  · have z1 := key r z
    rw [List.getElem?_eq_none (by omega)]
    rfl
  · have z1 : PPL 26 r = [] := by
      unfold PPL
      split <;> first | rfl | (exfalso; omega)
    rw [z1]
    rfl
theorem e_PP (h : nw 104 e_P (fun _ _ => 0) (fun _ _ => 0)) : e_P = PP 26 := by
  have key : ∀ r, r < 104 → ∀ q, q < 40 → e_P r q = PP 26 r q := by decide +kernel
  funext r q
  by_cases z : r < 104 ∧ q < 40
  · exact key r z.1 q z.2
  · rw [PP_out (by omega), h.1 r q (by omega)]
theorem CT_ST {L : Nat} {I : Nat → Nat → Int32} {J : Nat → Nat → Int64} {P : Nat → Nat → Option Nat} (h : P = PP 26) : CT L 104 2633 P I J = ST L 26 I J := by
  subst h
  have e : SHk L 104 = SH L := by
    funext r
    unfold SHk SH
    by_cases z : r < 104
    · rw [if_pos z]
    · rw [if_neg z, List.getElem?_eq_none (show SHL.length ≤ r by rw [SHL_len]; omega)]
  show (SHk L 104, PP 26, I, J, 104, 2633) = (SH L, PP 26, I, J, 104, 2633)
  rw [e]
section AFTER
variable {L p d : Nat} {I : Nat → Nat → Int32} {J : Nat → Nat → Int64}
theorem i_126_135 {M : Nat} {k : Int} (h1 : 0 ≤ k) (h2 : k < 6) : j_exec k_126 h_126 (j_run d) (M + 1) 135 [some (.ref 87), some (.int (j_k k))] [] (ST L p I J) = j_exec k_126 h_126 (j_run d) M 135 [some (.ref 87), some (.int (j_k (k + 1)))] [] (ST L p (u2 I 89 k.toNat (j_k (-1))) J) := by
  rw [x_exec, t_126_135]
  have z : k < 6 := h2
  simp (disch := first | assumption | omega) only [k_add, k_sub, k_mul, k_lt, k_eq, k_lt0, k_0lt, k_eq0, k_nat, k_b0, k_b1, k_z1, k_z0, k_o1, k_o0, Int.reduceEq, Int.reduceLT, Int.reduceLE, Int.reduceAdd, Int.reduceMul, Int.reduceNeg, Bool.false_eq_true, or_true, true_or, or_false, false_or, and_true, true_and, and_false, false_and, not_true_eq_false, not_false_eq_true, ↓reduceIte, z_0, z_k, s_I, s_J, s_uI, s_uJ, z, ↓c_gP_87_5, ↓c_is_89]
theorem i_126_156 {M : Nat} {k : Int} (h1 : 0 ≤ k) (h2 : k < 4) : j_exec k_126 h_126 (j_run d) (M + 1) 156 [some (.ref 87), some (.int (j_k k))] [] (ST L p I J) = j_exec k_126 h_126 (j_run d) M 156 [some (.ref 87), some (.int (j_k (k + 1)))] [] (ST L p (u2 I 92 k.toNat (j_k (-1))) J) := by
  rw [x_exec, t_126_156]
  have z : k < 4 := h2
  simp (disch := first | assumption | omega) only [k_add, k_sub, k_mul, k_lt, k_eq, k_lt0, k_0lt, k_eq0, k_nat, k_b0, k_b1, k_z1, k_z0, k_o1, k_o0, Int.reduceEq, Int.reduceLT, Int.reduceLE, Int.reduceAdd, Int.reduceMul, Int.reduceNeg, Bool.false_eq_true, or_true, true_or, or_false, false_or, and_true, true_and, and_false, false_and, not_true_eq_false, not_false_eq_true, ↓reduceIte, z_0, z_k, s_I, s_J, s_uI, s_uJ, z, ↓c_gP_87_8, ↓c_is_92]
theorem i_126_x {M : Nat} : j_exec k_126 h_126 (j_run d) (M + 1) 135 [some (.ref 87), some (.int (j_k 6))] [] (ST L p I J) = j_exec k_126 h_126 (j_run d) M 156 [some (.ref 87), some (.int (j_k 0))] [] (ST L p I J) := by
  rw [x_exec, t_126_135]
  simp (disch := first | assumption | omega) only [k_add, k_sub, k_mul, k_lt, k_eq, k_lt0, k_0lt, k_eq0, k_nat, k_b0, k_b1, k_z1, k_z0, k_o1, k_o0, Int.reduceEq, Int.reduceLT, Int.reduceLE, Int.reduceAdd, Int.reduceMul, Int.reduceNeg, Bool.false_eq_true, or_true, true_or, or_false, false_or, and_true, true_and, and_false, false_and, not_true_eq_false, not_false_eq_true, ↓reduceIte, z_0, z_k, s_I, s_J, s_uI, s_uJ, ]
theorem i_126_y {M : Nat} : j_exec k_126 h_126 (j_run (d + 1)) (M + 1) 156 [some (.ref 87), some (.int (j_k 4))] [] (ST L p I J) = some (none, ST L p (u2 (u2 (u2 (u2 I 99 1 (j_k (-9))) 99 2 (j_k (-9))) 99 3 (j_k (-9))) 99 4 (j_k (-9))) J) := by
  have p1 := n_place (L := L) (p := p) (d := d) (I := I) (J := J) (k := 0) (j := 1) (v := j_k (-9)) (by decide) (by decide) (by decide) (by decide)
  have p2 := n_place (L := L) (p := p) (d := d) (I := u2 I 99 1 (j_k (-9))) (J := J) (k := 0) (j := 2) (v := j_k (-9)) (by decide) (by decide) (by decide) (by decide)
  have p3 := n_place (L := L) (p := p) (d := d) (I := u2 (u2 I 99 1 (j_k (-9))) 99 2 (j_k (-9))) (J := J) (k := 0) (j := 3) (v := j_k (-9)) (by decide) (by decide) (by decide) (by decide)
  have p4 := n_place (L := L) (p := p) (d := d) (I := u2 (u2 (u2 I 99 1 (j_k (-9))) 99 2 (j_k (-9))) 99 3 (j_k (-9))) (J := J) (k := 0) (j := 4) (v := j_k (-9)) (by decide) (by decide) (by decide) (by decide)
  rw [show ((13 : Int) * 0 + 1).toNat = 1 from rfl] at p1
  rw [show ((13 : Int) * 0 + 2).toNat = 2 from rfl] at p2
  rw [show ((13 : Int) * 0 + 3).toNat = 3 from rfl] at p3
  rw [show ((13 : Int) * 0 + 4).toNat = 4 from rfl] at p4
  rw [x_exec, t_126_156]
  simp (disch := first | assumption | omega) only [k_add, k_sub, k_mul, k_lt, k_eq, k_lt0, k_0lt, k_eq0, k_nat, k_b0, k_b1, k_z1, k_z0, k_o1, k_o0, Int.reduceEq, Int.reduceLT, Int.reduceLE, Int.reduceAdd, Int.reduceMul, Int.reduceNeg, Bool.false_eq_true, or_true, true_or, or_false, false_or, and_true, true_and, and_false, false_and, not_true_eq_false, not_false_eq_true, ↓reduceIte, z_0, z_k, s_I, s_J, s_uI, s_uJ, ↓c_oc_87, ↓jc0 p1, ↓jc0 p2, ↓jc0 p3, ↓jc0 p4]
theorem i_126_z : j_exec k_126 h_126 (j_run (d + 1)) 999999 135 [some (.ref 87), some (.int (j_k 0))] [] (ST L p (e_I I) J) = some (none, ST L p (e_I2 I) J) := by
  obtain ⟨M, hM⟩ : ∃ M, M + 12 = 999999 := ⟨999987, rfl⟩
  rw [← hM]
  rw [i_126_135 (M := M + 11) (k := 0) (by decide) (by decide), show ((0 : Int) + 1) = 1 from rfl, show (0 : Int).toNat = 0 from rfl]
  rw [i_126_135 (M := M + 10) (k := 1) (by decide) (by decide), show ((1 : Int) + 1) = 2 from rfl, show (1 : Int).toNat = 1 from rfl]
  rw [i_126_135 (M := M + 9) (k := 2) (by decide) (by decide), show ((2 : Int) + 1) = 3 from rfl, show (2 : Int).toNat = 2 from rfl]
  rw [i_126_135 (M := M + 8) (k := 3) (by decide) (by decide), show ((3 : Int) + 1) = 4 from rfl, show (3 : Int).toNat = 3 from rfl]
  rw [i_126_135 (M := M + 7) (k := 4) (by decide) (by decide), show ((4 : Int) + 1) = 5 from rfl, show (4 : Int).toNat = 4 from rfl]
  rw [i_126_135 (M := M + 6) (k := 5) (by decide) (by decide), show ((5 : Int) + 1) = 6 from rfl, show (5 : Int).toNat = 5 from rfl]
  rw [i_126_x (M := M + 5)]
  rw [i_126_156 (M := M + 4) (k := 0) (by decide) (by decide), show ((0 : Int) + 1) = 1 from rfl, show (0 : Int).toNat = 0 from rfl]
  rw [i_126_156 (M := M + 3) (k := 1) (by decide) (by decide), show ((1 : Int) + 1) = 2 from rfl, show (1 : Int).toNat = 1 from rfl]
  rw [i_126_156 (M := M + 2) (k := 2) (by decide) (by decide), show ((2 : Int) + 1) = 3 from rfl, show (2 : Int).toNat = 2 from rfl]
  rw [i_126_156 (M := M + 1) (k := 3) (by decide) (by decide), show ((3 : Int) + 1) = 4 from rfl, show (3 : Int).toNat = 3 from rfl]
  exact i_126_y (M := M + 0)
end AFTER
theorem e_nw1 : nw 87 e_P1 (fun _ _ => 0) (fun _ _ => 0) := by
  have h : nw 0 (fun _ _ => none) (fun _ _ => (0 : Int32)) (fun _ _ => (0 : Int64)) := ⟨fun _ _ _ => rfl, fun _ _ _ => rfl, fun _ _ _ => rfl⟩
  have h0 := h.up
  have h1 : nw 2 _ _ _ := h0.up
  have h2 : nw 9 _ _ _ := h1.up.up.up.up.up.up.up
  have h3 : nw 9 _ _ _ := h2.rP (r := 2) (n := 6) (by decide) (by decide)
  have h4 : nw 10 _ _ _ := h3.up
  have h5 : nw 10 _ _ _ := h4.uP (r := 1) (q := 0) (v := some 2) (by decide) (by decide)
  have h6 : nw 10 _ _ _ := h5.uP (r := 1) (q := 1) (v := some 9) (by decide) (by decide)
  have h7 : nw 10 _ _ _ := h6.uP (r := 0) (q := 0) (v := some 1) (by decide) (by decide)
  have h8 : nw 11 _ _ _ := h7.up
  have h9 : nw 16 _ _ _ := h8.up.up.up.up.up
  have h10 : nw 16 _ _ _ := h9.rP (r := 11) (n := 4) (by decide) (by decide)
  have h11 : nw 17 _ _ _ := h10.up
  have h12 : nw 17 _ _ _ := h11.uP (r := 10) (q := 0) (v := some 11) (by decide) (by decide)
  have h13 : nw 17 _ _ _ := h12.uP (r := 10) (q := 1) (v := some 16) (by decide) (by decide)
  have h14 : nw 17 _ _ _ := h13.uP (r := 0) (q := 1) (v := some 10) (by decide) (by decide)
  have h15 : nw 18 _ _ _ := h14.up
  have h16 : nw 19 _ _ _ := h15.up
  have h17 : nw 22 _ _ _ := h16.up.up.up
  have h18 : nw 22 _ _ _ := h17.fP (a := 18) (q := 19) (by decide)
  have h19 : nw 22 _ _ _ := h18.uP (r := 17) (q := 0) (v := some 18) (by decide) (by decide)
  have h20 : nw 23 _ _ _ := h19.up
  have h21 : nw 26 _ _ _ := h20.up.up.up
  have h22 : nw 26 _ _ _ := h21.fP (a := 22) (q := 23) (by decide)
  have h23 : nw 26 _ _ _ := h22.uP (r := 17) (q := 1) (v := some 22) (by decide) (by decide)
  have h24 : nw 27 _ _ _ := h23.up
  have h25 : nw 27 _ _ _ := h24.uP (r := 17) (q := 2) (v := some 26) (by decide) (by decide)
  have h26 : nw 27 _ _ _ := h25.uP (r := 0) (q := 2) (v := some 17) (by decide) (by decide)
  have h27 : nw 28 _ _ _ := h26.up
  have h28 : nw 31 _ _ _ := h27.up.up.up
  have h29 : nw 31 _ _ _ := h28.fP (a := 27) (q := 28) (by decide)
  have h30 : nw 31 _ _ _ := h29.uP (r := 0) (q := 3) (v := some 27) (by decide) (by decide)
  have h31 : nw 32 _ _ _ := h30.up
  have h32 : nw 35 _ _ _ := h31.up.up.up
  have h33 : nw 35 _ _ _ := h32.fP (a := 31) (q := 32) (by decide)
  have h34 : nw 35 _ _ _ := h33.uP (r := 0) (q := 4) (v := some 31) (by decide) (by decide)
  have h35 : nw 36 _ _ _ := h34.up
  have h36 : nw 37 _ _ _ := h35.up
  have h37 : nw 40 _ _ _ := h36.up.up.up
  have h38 : nw 40 _ _ _ := h37.fP (a := 36) (q := 37) (by decide)
  have h39 : nw 40 _ _ _ := h38.uP (r := 35) (q := 0) (v := some 36) (by decide) (by decide)
  have h40 : nw 41 _ _ _ := h39.up
  have h41 : nw 44 _ _ _ := h40.up.up.up
  have h42 : nw 44 _ _ _ := h41.fP (a := 40) (q := 41) (by decide)
  have h43 : nw 44 _ _ _ := h42.uP (r := 35) (q := 1) (v := some 40) (by decide) (by decide)
  have h44 : nw 45 _ _ _ := h43.up
  have h45 : nw 48 _ _ _ := h44.up.up.up
  have h46 : nw 48 _ _ _ := h45.fP (a := 44) (q := 45) (by decide)
  have h47 : nw 48 _ _ _ := h46.uP (r := 35) (q := 2) (v := some 44) (by decide) (by decide)
  have h48 : nw 48 _ _ _ := h47.uP (r := 0) (q := 5) (v := some 35) (by decide) (by decide)
  have h49 : nw 49 _ _ _ := h48.up
  have h50 : nw 52 _ _ _ := h49.up.up.up
  have h51 : nw 52 _ _ _ := h50.fP (a := 48) (q := 49) (by decide)
  have h52 : nw 52 _ _ _ := h51.uP (r := 0) (q := 6) (v := some 48) (by decide) (by decide)
  have h53 : nw 53 _ _ _ := h52.up
  have h54 : nw 53 _ _ _ := h53.uP (r := 0) (q := 7) (v := some 52) (by decide) (by decide)
  have h55 : nw 54 _ _ _ := h54.up
  have h56 : nw 55 _ _ _ := h55.up
  have h57 : nw 56 _ _ _ := h56.up
  have h58 : nw 59 _ _ _ := h57.up.up.up
  have h59 : nw 59 _ _ _ := h58.fP (a := 55) (q := 56) (by decide)
  have h60 : nw 59 _ _ _ := h59.uP (r := 54) (q := 0) (v := some 55) (by decide) (by decide)
  have h61 : nw 60 _ _ _ := h60.up
  have h62 : nw 63 _ _ _ := h61.up.up.up
  have h63 : nw 63 _ _ _ := h62.fP (a := 59) (q := 60) (by decide)
  have h64 : nw 63 _ _ _ := h63.uP (r := 54) (q := 1) (v := some 59) (by decide) (by decide)
  have h65 : nw 64 _ _ _ := h64.up
  have h66 : nw 67 _ _ _ := h65.up.up.up
  have h67 : nw 67 _ _ _ := h66.fP (a := 63) (q := 64) (by decide)
  have h68 : nw 67 _ _ _ := h67.uP (r := 54) (q := 2) (v := some 63) (by decide) (by decide)
  have h69 : nw 68 _ _ _ := h68.up
  have h70 : nw 71 _ _ _ := h69.up.up.up
  have h71 : nw 71 _ _ _ := h70.fP (a := 67) (q := 68) (by decide)
  have h72 : nw 71 _ _ _ := h71.uP (r := 54) (q := 3) (v := some 67) (by decide) (by decide)
  have h73 : nw 71 _ _ _ := h72.uP (r := 53) (q := 0) (v := some 54) (by decide) (by decide)
  have h74 : nw 72 _ _ _ := h73.up
  have h75 : nw 72 _ _ _ := h74.uP (r := 53) (q := 1) (v := some 71) (by decide) (by decide)
  have h76 : nw 72 _ _ _ := h75.uP (r := 0) (q := 8) (v := some 53) (by decide) (by decide)
  have h77 : nw 73 _ _ _ := h76.up
  have h78 : nw 74 _ _ _ := h77.up
  have h79 : nw 75 _ _ _ := h78.up
  have h80 : nw 78 _ _ _ := h79.up.up.up
  have h81 : nw 78 _ _ _ := h80.fP (a := 74) (q := 75) (by decide)
  have h82 : nw 78 _ _ _ := h81.uP (r := 73) (q := 0) (v := some 74) (by decide) (by decide)
  have h83 : nw 79 _ _ _ := h82.up
  have h84 : nw 82 _ _ _ := h83.up.up.up
  have h85 : nw 82 _ _ _ := h84.fP (a := 78) (q := 79) (by decide)
  have h86 : nw 82 _ _ _ := h85.uP (r := 73) (q := 1) (v := some 78) (by decide) (by decide)
  have h87 : nw 83 _ _ _ := h86.up
  have h88 : nw 86 _ _ _ := h87.up.up.up
  have h89 : nw 86 _ _ _ := h88.fP (a := 82) (q := 83) (by decide)
  have h90 : nw 86 _ _ _ := h89.uP (r := 73) (q := 2) (v := some 82) (by decide) (by decide)
  have h91 : nw 86 _ _ _ := h90.uP (r := 72) (q := 0) (v := some 73) (by decide) (by decide)
  have h92 : nw 86 _ _ _ := h91.uP (r := 0) (q := 9) (v := some 72) (by decide) (by decide)
  have h93 : nw 87 _ _ _ := h92.up
  have h94 : nw 87 _ _ _ := h93.uP (r := 0) (q := 10) (v := some 86) (by decide) (by decide)
  exact h94
theorem e_nw : nw 104 e_P (fun _ _ => 0) (fun _ _ => 0) := by
  have h0 := e_nw1.up
  have h1 : nw 89 _ _ _ := h0.up
  have h2 : nw 89 _ _ _ := h1.uP (r := 87) (q := 1) (v := some 88) (by decide) (by decide)
  have h3 : nw 90 _ _ _ := h2.up
  have h4 : nw 90 _ _ _ := h3.uP (r := 87) (q := 5) (v := some 89) (by decide) (by decide)
  have h5 : nw 91 _ _ _ := h4.up
  have h6 : nw 91 _ _ _ := h5.uP (r := 87) (q := 6) (v := some 90) (by decide) (by decide)
  have h7 : nw 92 _ _ _ := h6.up
  have h8 : nw 92 _ _ _ := h7.uP (r := 87) (q := 7) (v := some 91) (by decide) (by decide)
  have h9 : nw 93 _ _ _ := h8.up
  have h10 : nw 93 _ _ _ := h9.uP (r := 87) (q := 8) (v := some 92) (by decide) (by decide)
  have h11 : nw 94 _ _ _ := h10.up
  have h12 : nw 94 _ _ _ := h11.uP (r := 87) (q := 9) (v := some 93) (by decide) (by decide)
  have h13 : nw 95 _ _ _ := h12.up
  have h14 : nw 95 _ _ _ := h13.uP (r := 87) (q := 12) (v := some 94) (by decide) (by decide)
  have h15 : nw 96 _ _ _ := h14.up
  have h16 : nw 96 _ _ _ := h15.uP (r := 87) (q := 14) (v := some 95) (by decide) (by decide)
  have h17 : nw 97 _ _ _ := h16.up
  have h18 : nw 97 _ _ _ := h17.uP (r := 87) (q := 21) (v := some 96) (by decide) (by decide)
  have h19 : nw 98 _ _ _ := h18.up
  have h20 : nw 98 _ _ _ := h19.uP (r := 87) (q := 22) (v := some 97) (by decide) (by decide)
  have h21 : nw 99 _ _ _ := h20.up
  have h22 : nw 99 _ _ _ := h21.uP (r := 87) (q := 23) (v := some 98) (by decide) (by decide)
  have h23 : nw 100 _ _ _ := h22.up
  have h24 : nw 100 _ _ _ := h23.uP (r := 87) (q := 24) (v := some 99) (by decide) (by decide)
  have h25 : nw 101 _ _ _ := h24.up
  have h26 : nw 101 _ _ _ := h25.uP (r := 87) (q := 25) (v := some 100) (by decide) (by decide)
  have h27 : nw 102 _ _ _ := h26.up
  have h28 : nw 102 _ _ _ := h27.uP (r := 87) (q := 28) (v := some 101) (by decide) (by decide)
  have h29 : nw 103 _ _ _ := h28.up
  have h30 : nw 103 _ _ _ := h29.uP (r := 87) (q := 31) (v := some 102) (by decide) (by decide)
  have h31 : nw 104 _ _ _ := h30.up
  have h32 : nw 104 _ _ _ := h31.uP (r := 87) (q := 37) (v := some 103) (by decide) (by decide)
  exact h32
