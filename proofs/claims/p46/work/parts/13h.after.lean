/-! ===== what the constructor leaves (by program wip/gen46/s13h.py) ===== -/
def e_P : Nat → Nat → Option Nat := u2 (u2 (u2 (u2 (fP 82 83 (u2 (fP 78 79 (u2 (fP 74 75 (u2 (u2 (u2 (u2 (fP 67 68 (u2 (fP 63 64 (u2 (fP 59 60 (u2 (fP 55 56 (u2 (u2 (fP 48 49 (u2 (u2 (fP 44 45 (u2 (fP 40 41 (u2 (fP 36 37 (u2 (fP 31 32 (u2 (fP 27 28 (u2 (u2 (u2 (fP 22 23 (u2 (fP 18 19 (u2 (u2 (u2 (rowsP (u2 (u2 (u2 (rowsP ((fun _ _ => none)) 2 6) 1 0 (some 2)) 1 1 (some 9)) 0 0 (some 1)) 11 4) 10 0 (some 11)) 10 1 (some 16)) 0 1 (some 10))) 17 0 (some 18))) 17 1 (some 22)) 17 2 (some 26)) 0 2 (some 17))) 0 3 (some 27))) 0 4 (some 31))) 35 0 (some 36))) 35 1 (some 40))) 35 2 (some 44)) 0 5 (some 35))) 0 6 (some 48)) 0 7 (some 52))) 54 0 (some 55))) 54 1 (some 59))) 54 2 (some 63))) 54 3 (some 67)) 53 0 (some 54)) 53 1 (some 71)) 0 8 (some 53))) 73 0 (some 74))) 73 1 (some 78))) 73 2 (some 82)) 72 0 (some 73)) 0 9 (some 72)) 0 10 (some 86)
def e_I (I : Nat → Nat → Int32) : Nat → Nat → Int32 := fI 82 (fI 78 (fI 74 (fI 67 (fI 63 (fI 59 (fI 55 (fI 48 (fI 44 (fI 40 (fI 36 (fI 31 (fI 22 (u1 (u1 I 9 (m1 6)) 16 (m1 4))))))))))))))
def e_J : Nat → Nat → Int64 := u2 ((fun _ _ => 0)) 0 15 (Int64.ofNat 1)
theorem PPL_out {p r : Nat} (h : 88 ≤ r) : PPL p r = [] := by
  unfold PPL
  split <;> first | rfl | (exfalso; omega)
theorem PP_out {r q : Nat} (h : 88 ≤ r ∨ 40 ≤ q) : PP 26 r q = none := by
  have key : ∀ r, r < 88 → (PPL 26 r).length ≤ 40 := by decide +kernel
  unfold PP
  by_cases z : r < 88
  · have z1 := key r z
    rw [List.getElem?_eq_none (by omega)]
    rfl
  · rw [PPL_out (by omega)]
    rfl
theorem e_PP (h : nw 87 e_P (fun _ _ => 0) (fun _ _ => 0)) : e_P = PP 26 := by
  have key : ∀ r, r < 88 → ∀ q, q < 40 → e_P r q = PP 26 r q := by decide +kernel
  funext r q
  by_cases z : r < 88 ∧ q < 40
  · exact key r z.1 q z.2
  · rw [PP_out (by omega), h.1 r q (by omega)]
theorem CT_ST {L : Nat} (hL : L < 1000) {I : Nat → Nat → Int32} {J : Nat → Nat → Int64} {P : Nat → Nat → Option Nat} (h : P = PP 26) : CT L 88 1501 P I J = ST L 26 I J := by
  subst h
  have z0 : L / 1000 = 0 := by omega
  have e : SHk L 88 = SH L := by
    funext r
    unfold SHk SH
    by_cases z : r < 88
    · rw [if_pos z, if_pos z]
    · rw [if_neg z, if_neg z, if_neg (show ¬ r < 88 + L / 1000 by omega)]
  show (SHk L 88, PP 26, I, J, 88, 1501) = (SH L, PP 26, I, J, 88 + L / 1000, 1501 + 4 * (L / 1000))
  rw [e, z0]
/-- the law's two last rows -/
theorem st_al {L p : Nat} {I : Nat → Nat → Int32} {J : Nat → Nat → Int64} (hL : L < 2000) : s_al (ST L p I J) (.inr (.int, 4)) 4 = ST (L + 1000) p (u1 I (88 + L / 1000) (fun _ => 0)) (u1 J (88 + L / 1000) (fun _ => 0)) := by
  have e1 : u1 (SH L) (88 + L / 1000) (some (.inr (.int, 4))) = SH (L + 1000) := by
    funext r
    by_cases z : r = 88 + L / 1000
    · rw [z, u1_same]
      unfold SH
      rw [if_neg (by omega), if_neg (by omega), if_neg (by omega), if_pos (by omega)]
    · rw [u1_ne z]
      unfold SH
      rw [show (L + 1000) % 1000 = L % 1000 by omega]
      by_cases z1 : r < 88
      · rw [if_pos z1, if_pos z1]
      · rw [if_neg z1, if_neg z1]
        by_cases z2 : r < 88 + L / 1000
        · rw [if_pos z2, if_pos (show r < 88 + (L + 1000) / 1000 by omega)]
        · rw [if_neg z2, if_neg (show ¬ r < 88 + (L + 1000) / 1000 by omega)]
  have e2 : u1 (PP p) (88 + L / 1000) (fun _ => none) = PP p := by
    refine u1_id (funext fun q => ?_)
    unfold PP
    rw [PPL_out (by omega)]
    rfl
  show (u1 (SH L) (88 + L / 1000) (some (.inr (.int, 4))), u1 (PP p) (88 + L / 1000) (fun _ => none), u1 I (88 + L / 1000) (fun _ => 0), u1 J (88 + L / 1000) (fun _ => 0), 88 + L / 1000 + 1, 1501 + 4 * (L / 1000) + 4) = (SH (L + 1000), PP p, u1 I (88 + L / 1000) (fun _ => 0), u1 J (88 + L / 1000) (fun _ => 0), 88 + (L + 1000) / 1000, 1501 + 4 * ((L + 1000) / 1000))
  rw [e1, e2, show 88 + (L + 1000) / 1000 = 88 + L / 1000 + 1 by omega, show 1501 + 4 * ((L + 1000) / 1000) = 1501 + 4 * (L / 1000) + 4 by omega]
theorem e_nw : nw 87 e_P (fun _ _ => 0) (fun _ _ => 0) := by
  have h : nw 0 (fun _ _ => none) (fun _ _ => (0 : Int32)) (fun _ _ => (0 : Int64)) := ⟨fun _ _ _ => rfl, fun _ _ _ => rfl, fun _ _ _ => rfl⟩
  have h0 := h.up
  have h1 : nw 2 _ _ _ := h0.up
  have h2 : nw 9 _ _ _ := h1.up.up.up.up.up.up.up
  have h3 : nw 9 _ _ _ := h2.rP (r := 2) (n := 6) (by decide) (by decide)
  have h4 : nw 10 _ _ _ := h3.up
  have h5 : nw 10 _ _ _ := h4.uP (r := 1) (q := 0) (v := some 2) (by decide) (by decide)
  have h6 : nw 10 _ _ _ := h5.uP (r := 1) (q := 1) (v := some 9) (by decide) (by decide)
  have h7 : nw 10 _ _ _ := h6.uP (r := 0) (q := 0) (v := some 1) (by decide) (by decide)
  have h8 : nw 11 _ _ _ := h7.up
  have h9 : nw 16 _ _ _ := h8.up.up.up.up.up
  have h10 : nw 16 _ _ _ := h9.rP (r := 11) (n := 4) (by decide) (by decide)
  have h11 : nw 17 _ _ _ := h10.up
  have h12 : nw 17 _ _ _ := h11.uP (r := 10) (q := 0) (v := some 11) (by decide) (by decide)
  have h13 : nw 17 _ _ _ := h12.uP (r := 10) (q := 1) (v := some 16) (by decide) (by decide)
  have h14 : nw 17 _ _ _ := h13.uP (r := 0) (q := 1) (v := some 10) (by decide) (by decide)
  have h15 : nw 18 _ _ _ := h14.up
  have h16 : nw 19 _ _ _ := h15.up
  have h17 : nw 22 _ _ _ := h16.up.up.up
  have h18 : nw 22 _ _ _ := h17.fP (a := 18) (q := 19) (by decide)
  have h19 : nw 22 _ _ _ := h18.uP (r := 17) (q := 0) (v := some 18) (by decide) (by decide)
  have h20 : nw 23 _ _ _ := h19.up
  have h21 : nw 26 _ _ _ := h20.up.up.up
  have h22 : nw 26 _ _ _ := h21.fP (a := 22) (q := 23) (by decide)
  have h23 : nw 26 _ _ _ := h22.uP (r := 17) (q := 1) (v := some 22) (by decide) (by decide)
  have h24 : nw 27 _ _ _ := h23.up
  have h25 : nw 27 _ _ _ := h24.uP (r := 17) (q := 2) (v := some 26) (by decide) (by decide)
  have h26 : nw 27 _ _ _ := h25.uP (r := 0) (q := 2) (v := some 17) (by decide) (by decide)
  have h27 : nw 28 _ _ _ := h26.up
  have h28 : nw 31 _ _ _ := h27.up.up.up
  have h29 : nw 31 _ _ _ := h28.fP (a := 27) (q := 28) (by decide)
  have h30 : nw 31 _ _ _ := h29.uP (r := 0) (q := 3) (v := some 27) (by decide) (by decide)
  have h31 : nw 32 _ _ _ := h30.up
  have h32 : nw 35 _ _ _ := h31.up.up.up
  have h33 : nw 35 _ _ _ := h32.fP (a := 31) (q := 32) (by decide)
  have h34 : nw 35 _ _ _ := h33.uP (r := 0) (q := 4) (v := some 31) (by decide) (by decide)
  have h35 : nw 36 _ _ _ := h34.up
  have h36 : nw 37 _ _ _ := h35.up
  have h37 : nw 40 _ _ _ := h36.up.up.up
  have h38 : nw 40 _ _ _ := h37.fP (a := 36) (q := 37) (by decide)
  have h39 : nw 40 _ _ _ := h38.uP (r := 35) (q := 0) (v := some 36) (by decide) (by decide)
  have h40 : nw 41 _ _ _ := h39.up
  have h41 : nw 44 _ _ _ := h40.up.up.up
  have h42 : nw 44 _ _ _ := h41.fP (a := 40) (q := 41) (by decide)
  have h43 : nw 44 _ _ _ := h42.uP (r := 35) (q := 1) (v := some 40) (by decide) (by decide)
  have h44 : nw 45 _ _ _ := h43.up
  have h45 : nw 48 _ _ _ := h44.up.up.up
  have h46 : nw 48 _ _ _ := h45.fP (a := 44) (q := 45) (by decide)
  have h47 : nw 48 _ _ _ := h46.uP (r := 35) (q := 2) (v := some 44) (by decide) (by decide)
  have h48 : nw 48 _ _ _ := h47.uP (r := 0) (q := 5) (v := some 35) (by decide) (by decide)
  have h49 : nw 49 _ _ _ := h48.up
  have h50 : nw 52 _ _ _ := h49.up.up.up
  have h51 : nw 52 _ _ _ := h50.fP (a := 48) (q := 49) (by decide)
  have h52 : nw 52 _ _ _ := h51.uP (r := 0) (q := 6) (v := some 48) (by decide) (by decide)
  have h53 : nw 53 _ _ _ := h52.up
  have h54 : nw 53 _ _ _ := h53.uP (r := 0) (q := 7) (v := some 52) (by decide) (by decide)
  have h55 : nw 54 _ _ _ := h54.up
  have h56 : nw 55 _ _ _ := h55.up
  have h57 : nw 56 _ _ _ := h56.up
  have h58 : nw 59 _ _ _ := h57.up.up.up
  have h59 : nw 59 _ _ _ := h58.fP (a := 55) (q := 56) (by decide)
  have h60 : nw 59 _ _ _ := h59.uP (r := 54) (q := 0) (v := some 55) (by decide) (by decide)
  have h61 : nw 60 _ _ _ := h60.up
  have h62 : nw 63 _ _ _ := h61.up.up.up
  have h63 : nw 63 _ _ _ := h62.fP (a := 59) (q := 60) (by decide)
  have h64 : nw 63 _ _ _ := h63.uP (r := 54) (q := 1) (v := some 59) (by decide) (by decide)
  have h65 : nw 64 _ _ _ := h64.up
  have h66 : nw 67 _ _ _ := h65.up.up.up
  have h67 : nw 67 _ _ _ := h66.fP (a := 63) (q := 64) (by decide)
  have h68 : nw 67 _ _ _ := h67.uP (r := 54) (q := 2) (v := some 63) (by decide) (by decide)
  have h69 : nw 68 _ _ _ := h68.up
  have h70 : nw 71 _ _ _ := h69.up.up.up
  have h71 : nw 71 _ _ _ := h70.fP (a := 67) (q := 68) (by decide)
  have h72 : nw 71 _ _ _ := h71.uP (r := 54) (q := 3) (v := some 67) (by decide) (by decide)
  have h73 : nw 71 _ _ _ := h72.uP (r := 53) (q := 0) (v := some 54) (by decide) (by decide)
  have h74 : nw 72 _ _ _ := h73.up
  have h75 : nw 72 _ _ _ := h74.uP (r := 53) (q := 1) (v := some 71) (by decide) (by decide)
  have h76 : nw 72 _ _ _ := h75.uP (r := 0) (q := 8) (v := some 53) (by decide) (by decide)
  have h77 : nw 73 _ _ _ := h76.up
  have h78 : nw 74 _ _ _ := h77.up
  have h79 : nw 75 _ _ _ := h78.up
  have h80 : nw 78 _ _ _ := h79.up.up.up
  have h81 : nw 78 _ _ _ := h80.fP (a := 74) (q := 75) (by decide)
  have h82 : nw 78 _ _ _ := h81.uP (r := 73) (q := 0) (v := some 74) (by decide) (by decide)
  have h83 : nw 79 _ _ _ := h82.up
  have h84 : nw 82 _ _ _ := h83.up.up.up
  have h85 : nw 82 _ _ _ := h84.fP (a := 78) (q := 79) (by decide)
  have h86 : nw 82 _ _ _ := h85.uP (r := 73) (q := 1) (v := some 78) (by decide) (by decide)
  have h87 : nw 83 _ _ _ := h86.up
  have h88 : nw 86 _ _ _ := h87.up.up.up
  have h89 : nw 86 _ _ _ := h88.fP (a := 82) (q := 83) (by decide)
  have h90 : nw 86 _ _ _ := h89.uP (r := 73) (q := 2) (v := some 82) (by decide) (by decide)
  have h91 : nw 86 _ _ _ := h90.uP (r := 72) (q := 0) (v := some 73) (by decide) (by decide)
  have h92 : nw 86 _ _ _ := h91.uP (r := 0) (q := 9) (v := some 72) (by decide) (by decide)
  have h93 : nw 87 _ _ _ := h92.up
  have h94 : nw 87 _ _ _ := h93.uP (r := 0) (q := 10) (v := some 86) (by decide) (by decide)
  exact h94
