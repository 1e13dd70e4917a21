/-! ===== each call of the law, on the class and on the model (by program wip/gen/s13.py) ===== -/
theorem iM.fr {I I' : Nat → Nat → Int32} {J J' : Nat → Nat → Int64} {A : Ast} (hx : iM I J A) (h : frX I I' J J') : iM I' J' A := hx.same ⟨fun r a => h.1 r (by omega), fun k _ _ => by rw [h.1 87 (by decide)], fun i _ _ => by rw [h.1 99 (by decide)]⟩ (by rw [h.1 87 (by decide)]) (by rw [h.1 87 (by decide)]) (h.1 88 (by decide)) (h.2 87 (by decide))
theorem iX.fr {I I' : Nat → Nat → Int32} {J J' : Nat → Nat → Int64} {A : Ast} (hx : iX I J A) (h : frN I I' J J') : iX I' J' A := by
  obtain ⟨x1, x2, x3, x4, x5, x6, x7, x8, x9, x10⟩ := hx
  have e0 := h.1 0 (by omega)
  have ej := h.2 0 (by omega)
  have e86 := h.1 86 (by omega)
  refine ⟨x1, x2.cg (fun r a b => h.1 r (by omega)), x3.cg (fun r a b => h.1 r (by omega)), x4.cg (fun r a b => h.1 r (by omega)), x5.cg (fun r a b => h.1 r (by omega)), x6.cg (by rw [e0]) (fun r a b => h.1 r (by omega)), ?_, ?_, x9.cg (h.1 _ (Or.inr (by decide))) (h.1 _ (Or.inr (by decide))), x10.cg (h.1 _ (Or.inr (by decide))) (h.1 _ (Or.inr (by decide)))⟩
  · unfold xK2
    rw [e0]
    exact x7
  · unfold xM
    rw [e0, ej, e86]
    exact x8
/-- a pair of calls answers alike, and both stores still mean one state -/
def lw2 (L p : Nat) (I : Nat → Nat → Int32) (J : Nat → Nat → Int64) (d kx km : Nat) (ax am : List Value) (w : Value) (p1 : Nat) (I1 : Nat → Nat → Int32) (J1 : Nat → Nat → Int64) (I2 : Nat → Nat → Int32) (J2 : Nat → Nat → Int64) (B : Ast) : Prop :=
  j_run d kx ax (ST L p I J) = some (some w, ST L p1 I1 J1) ∧ I1 1000004 = I 1000004 ∧ j_run d km am (ST L p1 I1 J1) = some (some w, ST L p1 I2 J2) ∧ I2 1000004 = I 1000004 ∧ iX I2 J2 B ∧ iM I2 J2 B
section PAIRS
variable {L p d : Nat} {I : Nat → Nat → Int32} {J : Nat → Nat → Int64} {A : Ast}
theorem lw2_in {kx km : Nat} {ax am : List Value} {r : Int × Ast} (h1 : xc L p I J d kx ax r) (hm : iM I J A) (h2 : ∀ p' I' J', iX I' J' r.2 → iM I' J' A → mc L p' I' J' d km am r) : ∃ w p1 I1 J1 I2 J2 B, lw2 L p I J d kx km ax am (.int w) p1 I1 J1 I2 J2 B := by
  obtain ⟨p1, I1, J1, e1, x1, f1⟩ := h1
  obtain ⟨I2, J2, e2, m2, f2⟩ := h2 p1 I1 J1 x1 (hm.fr f1)
  exact ⟨_, p1, I1, J1, I2, J2, r.2, e1, f1.1 _ (by decide), e2, (f2.1 _ (Or.inr (by decide))).trans (f1.1 _ (by decide)), x1.fr f2, m2⟩
theorem lw_0 (hx : iX I J A) (hm : iM I J A) {v1 : Int32} {v2 : Int32} : ∃ w p1 I1 J1 I2 J2 B, lw2 L p I J (d + 14) 69 141 [.ref 0, .int v1, .int v2] [.ref 87, .int v1, .int v2] (.int w) p1 I1 J1 I2 J2 B := by
  obtain ⟨c1, rfl, a1, b1⟩ := k_ex v1
  obtain ⟨c2, rfl, a2, b2⟩ := k_ex v2
  exact lw2_in (x_row (L := L) (p := p) (d := d + 9) hx a1 b1 a2 b2) hm (fun p' I' J' _ m' => n_row (L := L) (p := p') (d := d + 11) m' a1 b1 a2 b2)
theorem lw_1 (hx : iX I J A) (hm : iM I J A) {v1 : Int32} {v2 : Int32} {v3 : Int32} : ∃ w p1 I1 J1 I2 J2 B, lw2 L p I J (d + 14) 70 142 [.ref 0, .int v1, .int v2, .int v3] [.ref 87, .int v1, .int v2, .int v3] (.int w) p1 I1 J1 I2 J2 B := by
  obtain ⟨c1, rfl, a1, b1⟩ := k_ex v1
  obtain ⟨c2, rfl, a2, b2⟩ := k_ex v2
  exact lw2_in (x_lay (L := L) (p := p) (d := d + 10) hx a1 b1 a2 b2) hm (fun p' I' J' _ m' => n_lay (L := L) (p := p') (d := d + 11) m' a1 b1 a2 b2)
theorem lw_2 (hx : iX I J A) (hm : iM I J A) {v1 : Int32} {v2 : Int32} : ∃ w p1 I1 J1 I2 J2 B, lw2 L p I J (d + 14) 71 143 [.ref 0, .int v1, .int v2] [.ref 87, .int v1, .int v2] (.int w) p1 I1 J1 I2 J2 B := by
  obtain ⟨c1, rfl, a1, b1⟩ := k_ex v1
  obtain ⟨c2, rfl, a2, b2⟩ := k_ex v2
  exact lw2_in (x_at (L := L) (p := p) (d := d + 10) hx a1 b1 a2 b2) hm (fun p' I' J' _ m' => n_at (L := L) (p := p') (d := d + 11) m' a1 b1 a2 b2)
theorem lw_3 (hx : iX I J A) (hm : iM I J A) {v1 : Int32} : ∃ w p1 I1 J1 I2 J2 B, lw2 L p I J (d + 14) 72 144 [.ref 0, .int v1] [.ref 87, .int v1] (.int w) p1 I1 J1 I2 J2 B := by
  obtain ⟨c1, rfl, a1, b1⟩ := k_ex v1
  exact lw2_in (x_tear (L := L) (p := p) (d := d + 11) hx a1 b1) hm (fun p' I' J' _ m' => n_tear (L := L) (p := p') (d := d + 11) m' a1 b1)
theorem lw_4 (hx : iX I J A) (hm : iM I J A) {v1 : Int32} {v2 : Int32} {v3 : Int32} {v4 : Int32} {v5 : Int32} : ∃ w p1 I1 J1 I2 J2 B, lw2 L p I J (d + 14) 73 145 [.ref 0, .int v1, .int v2, .int v3, .int v4, .int v5] [.ref 87, .int v1, .int v2, .int v3, .int v4, .int v5] (.int w) p1 I1 J1 I2 J2 B := by
  obtain ⟨c1, rfl, a1, b1⟩ := k_ex v1
  obtain ⟨c2, rfl, a2, b2⟩ := k_ex v2
  obtain ⟨c3, rfl, a3, b3⟩ := k_ex v3
  obtain ⟨c4, rfl, a4, b4⟩ := k_ex v4
  obtain ⟨c5, rfl, a5, b5⟩ := k_ex v5
  exact lw2_in (x_copy (L := L) (p := p) (d := d + 12) hx a1 b1 a2 b2 a3 b3 a4 b4 a5 b5) hm (fun p' I' J' _ m' => n_copyC (L := L) (p := p') (d := d + 11) m' a1 b1 a2 b2 a3 b3 a4 b4 a5 b5)
theorem lw_5 (hx : iX I J A) (hm : iM I J A) {v1 : Int32} : ∃ w p1 I1 J1 I2 J2 B, lw2 L p I J (d + 14) 74 146 [.ref 0, .int v1] [.ref 87, .int v1] (.int w) p1 I1 J1 I2 J2 B := by
  obtain ⟨c1, rfl, a1, b1⟩ := k_ex v1
  exact lw2_in (x_mean (L := L) (p := p) (d := d + 11) hx a1 b1) hm (fun p' I' J' _ m' => n_mean (L := L) (p := p') (d := d + 11) m' a1 b1)
theorem lw_6 (hx : iX I J A) (hm : iM I J A) {v1 : Int32} {v2 : Int32} : ∃ w p1 I1 J1 I2 J2 B, lw2 L p I J (d + 14) 75 148 [.ref 0, .int v1, .int v2] [.ref 87, .int v1, .int v2] (.int w) p1 I1 J1 I2 J2 B := by
  obtain ⟨c1, rfl, a1, b1⟩ := k_ex v1
  obtain ⟨c2, rfl, a2, b2⟩ := k_ex v2
  exact lw2_in (x_text (L := L) (p := p) (d := d + 9) hx a1 b1 a2 b2) hm (fun p' I' J' _ m' => n_text (L := L) (p := p') (d := d + 11) m' a1 b1 a2 b2)
theorem lw_7 (hx : iX I J A) (hm : iM I J A) {v1 : Int32} {v2 : Int32} {v3 : Int32} : ∃ w p1 I1 J1 I2 J2 B, lw2 L p I J (d + 14) 76 149 [.ref 0, .int v1, .int v2, .int v3] [.ref 87, .int v1, .int v2, .int v3] (.int w) p1 I1 J1 I2 J2 B := by
  obtain ⟨c1, rfl, a1, b1⟩ := k_ex v1
  obtain ⟨c2, rfl, a2, b2⟩ := k_ex v2
  exact lw2_in (x_put (L := L) (p := p) (d := d + 10) hx a1 b1 a2 b2) hm (fun p' I' J' _ m' => n_putC (L := L) (p := p') (d := d + 11) m' a1 b1 a2 b2)
theorem lw_8 (hx : iX I J A) (hm : iM I J A) {v1 : Int32} : ∃ w p1 I1 J1 I2 J2 B, lw2 L p I J (d + 14) 77 158 [.ref 0, .int v1] [.ref 87, .int v1] (.int w) p1 I1 J1 I2 J2 B := by
  obtain ⟨c1, rfl, a1, b1⟩ := k_ex v1
  exact lw2_in (x_fault (L := L) (p := p) (d := d + 8) hx a1 b1) hm (fun p' I' J' _ m' => n_fault (L := L) (p := p') (d := d + 8) m' a1 b1)
theorem lw_9 (hx : iX I J A) (hm : iM I J A) {v1 : Int32} : ∃ w p1 I1 J1 I2 J2 B, lw2 L p I J (d + 14) 78 159 [.ref 0, .int v1] [.ref 87, .int v1] (.int w) p1 I1 J1 I2 J2 B := by
  obtain ⟨c1, rfl, a1, b1⟩ := k_ex v1
  exact lw2_in (x_ground (L := L) (p := p) (d := d + 8) hx a1 b1) hm (fun p' I' J' x' m' => n_ground (L := L) (p := p') (d := d + 8) m' a1 b1 x'.1)
theorem lw_10 (hx : iX I J A) (hm : iM I J A) {v1 : Int32} : ∃ w p1 I1 J1 I2 J2 B, lw2 L p I J (d + 14) 79 169 [.ref 0, .int v1] [.ref 87, .int v1] (.int w) p1 I1 J1 I2 J2 B := by
  obtain ⟨c1, rfl, a1, b1⟩ := k_ex v1
  exact lw2_in (x_cell (L := L) (p := p) (d := d + 12) hx a1 b1) hm (fun p' I' J' _ m' => n_cell (L := L) (p := p') (d := d + 11) m' a1 b1)
theorem lw_11 (hx : iX I J A) (hm : iM I J A) {v1 : Int32} {v2 : Int32} : ∃ w p1 I1 J1 I2 J2 B, lw2 L p I J (d + 14) 80 170 [.ref 0, .int v1, .int v2] [.ref 87, .int v1, .int v2] (.int w) p1 I1 J1 I2 J2 B := by
  obtain ⟨c1, rfl, a1, b1⟩ := k_ex v1
  obtain ⟨c2, rfl, a2, b2⟩ := k_ex v2
  exact lw2_in (x_build (L := L) (p := p) (d := d + 12) hx a1 b1 a2 b2) hm (fun p' I' J' _ m' => n_build (L := L) (p := p') (d := d + 11) m' a1 b1 a2 b2)
theorem lw_12 (hx : iX I J A) (hm : iM I J A) {v1 : Int32} {v2 : Int32} : ∃ w p1 I1 J1 I2 J2 B, lw2 L p I J (d + 14) 81 172 [.ref 0, .int v1, .int v2] [.ref 87, .int v1, .int v2] (.int w) p1 I1 J1 I2 J2 B := by
  obtain ⟨c1, rfl, a1, b1⟩ := k_ex v1
  obtain ⟨c2, rfl, a2, b2⟩ := k_ex v2
  exact lw2_in (x_beast (L := L) (p := p) (d := d + 12) hx a1 b1 a2 b2) hm (fun p' I' J' _ m' => n_beast (L := L) (p := p') (d := d + 11) m' a1 b1 a2 b2)
theorem lw_13 (hx : iX I J A) (hm : iM I J A) {v1 : Int32} {v2 : Int32} : ∃ w p1 I1 J1 I2 J2 B, lw2 L p I J (d + 14) 82 178 [.ref 0, .int v1, .int v2] [.ref 87, .int v1, .int v2] (.int w) p1 I1 J1 I2 J2 B := by
  obtain ⟨c1, rfl, a1, b1⟩ := k_ex v1
  obtain ⟨c2, rfl, a2, b2⟩ := k_ex v2
  exact lw2_in (x_mark (L := L) (p := p) (d := d + 11) hx a1 b1 a2 b2) hm (fun p' I' J' _ m' => n_mark (L := L) (p := p') (d := d + 10) m' a1 b1 a2 b2)
theorem lw_14 (hx : iX I J A) (hm : iM I J A) : ∃ w p1 I1 J1 I2 J2 B, lw2 L p I J (d + 14) 83 179 [.ref 0] [.ref 87] (.int w) p1 I1 J1 I2 J2 B := by
  exact lw2_in (x_last (L := L) (p := p) (d := d + 13) hx) hm (fun p' I' J' _ m' => n_last (L := L) (p := p') (d := d + 12) m')
theorem lw_15 (hx : iX I J A) (hm : iM I J A) {v1 : Int32} {v2 : Int32} : ∃ w p1 I1 J1 I2 J2 B, lw2 L p I J (d + 14) 84 190 [.ref 0, .int v1, .int v2] [.ref 87, .int v1, .int v2] (.int w) p1 I1 J1 I2 J2 B := by
  obtain ⟨c1, rfl, a1, b1⟩ := k_ex v1
  obtain ⟨c2, rfl, a2, b2⟩ := k_ex v2
  exact lw2_in (x_stir (L := L) (p := p) (d := d + 11) hx a1 b1 a2 b2) hm (fun p' I' J' _ m' => n_stir (L := L) (p := p') (d := d + 8) m' a1 b1 a2 b2)
theorem lw_16 (hx : iX I J A) (hm : iM I J A) {v1 : Int32} : ∃ w p1 I1 J1 I2 J2 B, lw2 L p I J (d + 14) 85 191 [.ref 0, .int v1] [.ref 87, .int v1] (.int w) p1 I1 J1 I2 J2 B := by
  obtain ⟨c1, rfl, a1, b1⟩ := k_ex v1
  exact lw2_in (x_go (L := L) (p := p) (d := d + 10) hx a1 b1) hm (fun p' I' J' _ m' => n_go (L := L) (p := p') (d := d + 7) m' a1 b1)
theorem lw_17 (hx : iX I J A) (hm : iM I J A) : ∃ w p1 I1 J1 I2 J2 B, lw2 L p I J (d + 14) 86 192 [.ref 0] [.ref 87] (.int w) p1 I1 J1 I2 J2 B := by
  exact lw2_in (x_run (L := L) (p := p) (d := d + 9) hx) hm (fun p' I' J' _ m' => n_run (L := L) (p := p') (d := d + 6) m')
theorem lw_18 (hx : iX I J A) (hm : iM I J A) : ∃ w p1 I1 J1 I2 J2 B, lw2 L p I J (d + 14) 87 194 [.ref 0] [.ref 87] (.int w) p1 I1 J1 I2 J2 B := by
  exact lw2_in (x_ring (L := L) (p := p) (d := d + 10) hx) hm (fun p' I' J' _ m' => n_ring (L := L) (p := p') (d := d + 7) m')
theorem lw_19 (hx : iX I J A) (hm : iM I J A) {v1 : Int32} : ∃ w p1 I1 J1 I2 J2 B, lw2 L p I J (d + 14) 88 195 [.ref 0, .int v1] [.ref 87, .int v1] (.int w) p1 I1 J1 I2 J2 B := by
  obtain ⟨c1, rfl, a1, b1⟩ := k_ex v1
  exact lw2_in (x_where (L := L) (p := p) (d := d + 11) hx a1 b1) hm (fun p' I' J' _ m' => n_where (L := L) (p := p') (d := d + 10) m' a1 b1)
theorem lw_20 (hx : iX I J A) (hm : iM I J A) : ∃ w p1 I1 J1 I2 J2 B, lw2 L p I J (d + 14) 89 197 [.ref 0] [.ref 87] (.int w) p1 I1 J1 I2 J2 B := by
  exact lw2_in (x_apart (L := L) (p := p) (d := d + 11) hx) hm (fun p' I' J' _ m' => n_apart (L := L) (p := p') (d := d + 10) m')
theorem lw_21 (hx : iX I J A) (hm : iM I J A) {v1 : Int32} : ∃ w p1 I1 J1 I2 J2 B, lw2 L p I J (d + 14) 90 198 [.ref 0, .int v1] [.ref 87, .int v1] (.int w) p1 I1 J1 I2 J2 B := by
  obtain ⟨c1, rfl, a1, b1⟩ := k_ex v1
  exact lw2_in (x_keep (L := L) (p := p) (d := d + 12) hx a1 b1) hm (fun p' I' J' _ m' => n_keep (L := L) (p := p') (d := d + 11) m' a1 b1)
theorem lw_22 (hx : iX I J A) (hm : iM I J A) {v1 : Int32} : ∃ w p1 I1 J1 I2 J2 B, lw2 L p I J (d + 14) 91 199 [.ref 0, .int v1] [.ref 87, .int v1] (.int w) p1 I1 J1 I2 J2 B := by
  obtain ⟨c1, rfl, a1, b1⟩ := k_ex v1
  exact lw2_in (x_on (L := L) (p := p) (d := d + 12) hx a1 b1) hm (fun p' I' J' _ m' => n_on (L := L) (p := p') (d := d + 11) m' a1 b1)
theorem lw_23 (hx : iX I J A) (hm : iM I J A) : ∃ w p1 I1 J1 I2 J2 B, lw2 L p I J (d + 14) 92 208 [.ref 0] [.ref 87] (.int w) p1 I1 J1 I2 J2 B := by
  exact lw2_in (x_fewest (L := L) (p := p) (d := d + 3) hx) hm (fun p' I' J' _ m' => n_fewest (L := L) (p := p') (d := d + 0) m')
theorem lw_24 (hx : iX I J A) (hm : iM I J A) {v1 : Int32} : ∃ w p1 I1 J1 I2 J2 B, lw2 L p I J (d + 14) 93 209 [.ref 0, .int v1] [.ref 87, .int v1] (.int w) p1 I1 J1 I2 J2 B := by
  obtain ⟨c1, rfl, a1, b1⟩ := k_ex v1
  exact lw2_in (x_ways (L := L) (p := p) (d := d + 3) hx a1 b1) hm (fun p' I' J' _ m' => n_ways (L := L) (p := p') (d := d + 1) m' a1 b1)
theorem lw_25 (hx : iX I J A) (hm : iM I J A) : ∃ w p1 I1 J1 I2 J2 B, lw2 L p I J (d + 14) 94 210 [.ref 0] [.ref 87] (.int w) p1 I1 J1 I2 J2 B := by
  exact lw2_in (x_gather (L := L) (p := p) (d := d + 7) hx) hm (fun p' I' J' _ m' => n_gather (L := L) (p := p') (d := d + 4) m')
theorem lw_26 (hx : iX I J A) (hm : iM I J A) {v1 : Int32} {v2 : Int32} : ∃ w p1 I1 J1 I2 J2 B, lw2 L p I J (d + 14) 95 211 [.ref 0, .int v1, .int v2] [.ref 87, .int v1, .int v2] (.int w) p1 I1 J1 I2 J2 B := by
  obtain ⟨c1, rfl, a1, b1⟩ := k_ex v1
  obtain ⟨c2, rfl, a2, b2⟩ := k_ex v2
  exact lw2_in (x_part (L := L) (p := p) (d := d + 7) hx a1 b1 a2 b2) hm (fun p' I' J' _ m' => n_part (L := L) (p := p') (d := d + 4) m' a1 b1 a2 b2)
theorem lw_27 (hx : iX I J A) (hm : iM I J A) {v1 : Int32} {v2 : Int32} : ∃ w p1 I1 J1 I2 J2 B, lw2 L p I J (d + 14) 96 213 [.ref 0, .int v1, .int v2] [.ref 87, .int v1, .int v2] (.int w) p1 I1 J1 I2 J2 B := by
  obtain ⟨c1, rfl, a1, b1⟩ := k_ex v1
  obtain ⟨c2, rfl, a2, b2⟩ := k_ex v2
  exact lw2_in (x_worth (L := L) (p := p) (d := d + 9) hx a1 b1 a2 b2) hm (fun p' I' J' _ m' => n_worth (L := L) (p := p') (d := d + 6) m' a1 b1 a2 b2)
theorem lw_28 (hx : iX I J A) (hm : iM I J A) {v1 : Int32} : ∃ w p1 I1 J1 I2 J2 B, lw2 L p I J (d + 14) 97 214 [.ref 0, .int v1] [.ref 87, .int v1] (.int w) p1 I1 J1 I2 J2 B := by
  obtain ⟨c1, rfl, a1, b1⟩ := k_ex v1
  exact lw2_in (x_stone (L := L) (p := p) (d := d + 10) hx a1 b1) hm (fun p' I' J' _ m' => n_stone (L := L) (p := p') (d := d + 9) m' a1 b1)
theorem lw_29 (hx : iX I J A) (hm : iM I J A) {v1 : Int32} : ∃ w p1 I1 J1 I2 J2 B, lw2 L p I J (d + 14) 98 215 [.ref 0, .int v1] [.ref 87, .int v1] (.int w) p1 I1 J1 I2 J2 B := by
  obtain ⟨c1, rfl, a1, b1⟩ := k_ex v1
  exact lw2_in (x_drive (L := L) (p := p) (d := d + 8) hx a1 b1) hm (fun p' I' J' _ m' => n_driveC (L := L) (p := p') (d := d + 5) m' a1 b1)
theorem lw_30 (hx : iX I J A) (hm : iM I J A) {v1 : Int32} {v2 : Int32} : ∃ w p1 I1 J1 I2 J2 B, lw2 L p I J (d + 14) 99 218 [.ref 0, .int v1, .int v2] [.ref 87, .int v1, .int v2] (.int w) p1 I1 J1 I2 J2 B := by
  obtain ⟨c1, rfl, a1, b1⟩ := k_ex v1
  obtain ⟨c2, rfl, a2, b2⟩ := k_ex v2
  obtain ⟨w1, r1, s1, e1⟩ := x_reach (L := L) (p := p) (d := d + 10) hx a1 b1 a2 b2
  obtain ⟨w2, r2, s2, e2⟩ := n_reach (L := L) (p := p) (d := d + 10) hm a1 b1 a2 b2
  have e : w2 = w1 := by
    by_cases z : (0 ≤ c1 ∧ c1 < a_N A) ∧ 0 ≤ c2 ∧ c2 ≤ 1
    · exact (r2 z).eq (r1 z)
    · rw [s1 z, s2 z]
  subst e
  exact ⟨_, p, I, J, I, J, A, e1, rfl, e2, rfl, hx, hm⟩
theorem lw_31 (hx : iX I J A) (hm : iM I J A) : ∃ w p1 I1 J1 I2 J2 B, lw2 L p I J (d + 14) 100 219 [.ref 0] [.ref 87] (.int w) p1 I1 J1 I2 J2 B := by
  obtain ⟨rb, hr⟩ : ∃ rb, okR A rb := ⟨fun k j => @decide _ (Classical.propDecidable ((a_gr A (a_fl A (5 + k)) ≠ 1 ∧ a_gr A (a_fl A (5 + k)) ≠ 2) ∧ p_R (a_gw A) (a_gh A) (a_gr A) true (a_fl A (5 + k)) (a_fl A (5 + j)))), fun k j _ _ _ _ _ _ => @decide_eq_true_iff _ (Classical.propDecidable _)⟩
  exact lw2_in (x_never (L := L) (p := p) (d := d + 10) hx hr) hm (fun p' I' J' _ m' => n_never (L := L) (p := p') (d := d + 10) m' hr)
theorem lw_32 (hx : iX I J A) (hm : iM I J A) {v1 : Int32} {v2 : Int32} : ∃ w p1 I1 J1 I2 J2 B, lw2 L p I J (d + 14) 101 224 [.ref 0, .int v1, .int v2] [.ref 87, .int v1, .int v2] (.int w) p1 I1 J1 I2 J2 B := by
  obtain ⟨c1, rfl, a1, b1⟩ := k_ex v1
  obtain ⟨c2, rfl, a2, b2⟩ := k_ex v2
  exact lw2_in (x_wolf (L := L) (p := p) (d := d + 1) hx a1 b1 a2 b2) hm (fun p' I' J' _ m' => n_wolf (L := L) (p := p') (d := d + 2) m' a1 b1 a2 b2)
theorem lw_33 (hx : iX I J A) (hm : iM I J A) {v1 : Int32} : ∃ w p1 I1 J1 I2 J2 B, lw2 L p I J (d + 14) 102 226 [.ref 0, .int v1] [.ref 87, .int v1] (.int w) p1 I1 J1 I2 J2 B := by
  obtain ⟨c1, rfl, a1, b1⟩ := k_ex v1
  exact lw2_in (x_dawn (L := L) (p := p) (d := d + 3) hx a1 b1) hm (fun p' I' J' _ m' => n_dawn (L := L) (p := p') (d := d + 0) m' a1 b1)
theorem lw_34 (hx : iX I J A) (hm : iM I J A) {v1 : Int32} : ∃ w p1 I1 J1 I2 J2 B, lw2 L p I J (d + 14) 103 227 [.ref 0, .int v1] [.ref 87, .int v1] (.int w) p1 I1 J1 I2 J2 B := by
  obtain ⟨c1, rfl, a1, b1⟩ := k_ex v1
  exact lw2_in (x_who (L := L) (p := p) (d := d + 3) hx a1 b1) hm (fun p' I' J' _ m' => n_whoC (L := L) (p := p') (d := d + 0) m' a1 b1)
theorem lw_35 (hx : iX I J A) (hm : iM I J A) {v1 : Int32} : ∃ w p1 I1 J1 I2 J2 B, lw2 L p I J (d + 14) 104 228 [.ref 0, .int v1] [.ref 87, .int v1] (.int w) p1 I1 J1 I2 J2 B := by
  obtain ⟨c1, rfl, a1, b1⟩ := k_ex v1
  exact lw2_in (x_breed (L := L) (p := p) (d := d + 3) hx a1 b1) hm (fun p' I' J' _ m' => n_breed (L := L) (p := p') (d := d + 0) m' a1 b1)
theorem lw_36 (hx : iX I J A) (hm : iM I J A) : ∃ w p1 I1 J1 I2 J2 B, lw2 L p I J (d + 14) 105 135 [.ref 0] [.ref 87] (.int w) p1 I1 J1 I2 J2 B := by
  exact ⟨_, p, I, J, I, J, A, x_asked (L := L) (p := p) (d := d + 13) hx, rfl, n_asked (L := L) (p := p) (d := d + 13) hm, rfl, hx, hm⟩
theorem lw_37 (hx : iX I J A) (hm : iM I J A) : ∃ w p1 I1 J1 I2 J2 B, lw2 L p I J (d + 14) 106 137 [.ref 0] [.ref 87] (.long w) p1 I1 J1 I2 J2 B := by
  exact ⟨_, p, I, J, I, J, A, x_upper (L := L) (p := p) (d := d + 13) hx, rfl, n_upper (L := L) (p := p) (d := d + 13) hm, rfl, hx, hm⟩
theorem lw_38 (hx : iX I J A) (hm : iM I J A) : ∃ w p1 I1 J1 I2 J2 B, lw2 L p I J (d + 14) 107 138 [.ref 0] [.ref 87] (.long w) p1 I1 J1 I2 J2 B := by
  exact ⟨_, p, I, J, I, J, A, x_lower (L := L) (p := p) (d := d + 13) hx, rfl, n_lower (L := L) (p := p) (d := d + 13) hm, rfl, hx, hm⟩
theorem lw_39 (hx : iX I J A) (hm : iM I J A) {v1 : Int32} : ∃ w p1 I1 J1 I2 J2 B, lw2 L p I J (d + 14) 108 230 [.ref 0, .int v1] [.ref 87, .int v1] (.int w) p1 I1 J1 I2 J2 B := by
  obtain ⟨c1, rfl, a1, b1⟩ := k_ex v1
  exact ⟨_, p, I, J, I, J, A, x_count (L := L) (p := p) (d := d + 11) hx a1 b1, rfl, n_count (L := L) (p := p) (d := d + 9) hm a1 b1, rfl, hx, hm⟩
theorem lw_40 (hx : iX I J A) (hm : iM I J A) : ∃ w p1 I1 J1 I2 J2 B, lw2 L p I J (d + 14) 109 132 [.ref 0] [.ref 87] (.int w) p1 I1 J1 I2 J2 B := by
  obtain ⟨p1, I1, J1, e1, x1, f1⟩ := x_finding (L := L) (p := p) (d := d + 13) hx
  exact ⟨_, p1, I1, J1, I1, J1, A, e1, f1.1 _ (by decide), n_find (L := L) (p := p1) (d := d + 13) (hm.fr f1), f1.1 _ (by decide), x1, hm.fr f1⟩
theorem lw_41 (hx : iX I J A) (hm : iM I J A) {v1 : Int32} : ∃ w p1 I1 J1 I2 J2 B, lw2 L p I J (d + 14) 110 133 [.ref 0, .int v1] [.ref 87, .int v1] (.int w) p1 I1 J1 I2 J2 B := by
  obtain ⟨c1, rfl, a1, b1⟩ := k_ex v1
  exact lw2_in (x_findings (L := L) (p := p) (d := d + 13) hx a1 b1) hm (fun p' I' J' _ m' => n_findings (L := L) (p := p') (d := d + 12) m' a1 b1)
theorem lw_42 (hx : iX I J A) (hm : iM I J A) : ∃ w p1 I1 J1 I2 J2 B, lw2 L p I J (d + 14) 111 233 [.ref 0] [.ref 87] (.long w) p1 I1 J1 I2 J2 B := by
  obtain ⟨J1, e1, m1, f1⟩ := n_digest (L := L) (p := p) (d := d + 9) hm
  exact ⟨_, p, I, J, I, J1, A, x_digest (L := L) (p := p) (d := d + 10) hx, rfl, e1, rfl, hx.fr ⟨fun _ _ => rfl, fun r a => f1 r (by omega)⟩, m1⟩
end PAIRS
