/-! ===== calls that are not refused ===== -/
abbrev p_it (A : Ast) (m : Nat) (f : Fl) : Fl := p_its (a_gw A) (a_gh A) (a_gr A) (a_gn A) (a_kd A) m f
/-- all is as it was, but for the flock, what is told, the rows 1 and 2 -/
def bq (A B : Ast) : Prop := a_rz B = a_rz A ∧ (∀ r, r ≠ 1 → r ≠ 2 → a_rv B r = a_rv A r) ∧ a_tz B = a_tz A ∧ a_tv B = a_tv A ∧ a_gw B = a_gw A ∧ a_gh B = a_gh A ∧ a_gr B = a_gr A ∧ a_gn B = a_gn A ∧ a_kd B = a_kd A ∧ a_kp B = a_kp A ∧ a_kf B = a_kf A
theorem bq.tr {A B C : Ast} (h : bq A B) (h' : bq B C) : bq A C := by
  obtain ⟨a1, a2, a3, a4, a5, a6, a7, a8, a9, a10, a11⟩ := h
  obtain ⟨b1, b2, b3, b4, b5, b6, b7, b8, b9, b10, b11⟩ := h'
  exact ⟨b1.trans a1, fun r x y => (b2 r x y).trans (a2 r x y), b3.trans a3, b4.trans a4, b5.trans a5, b6.trans a6, b7.trans a7, b8.trans a8, b9.trans a9, b10.trans a10, b11.trans a11⟩
abbrev p_rw (n : Int) (f : Fl) : Int → Int32 := fun i => if i < n then j_k (f (5 + i)) else 0
section CALLS6
variable {L p d : Nat} {I : Nat → Nat → Int32} {J : Nat → Nat → Int64} {A : Ast}
theorem N_ne {A : Ast} (hA : okA A) (h : a_N A ≠ 0) : okC (a_gw A) (a_gh A) (a_N A) (a_gn A) (a_gr A) (a_kd A) ∧ okF (a_N A) (a_gn A) 10000 (a_fl A) := ⟨hA.1, hA.2.1⟩
theorem miss6_0 {C : Int} {z : Int → Int} {r : Int} (h1 : 0 ≤ r ∧ r < C) (h2 : z r ≠ -1) : p_miss C z r A = (0, A) := by
  unfold p_miss
  rw [if_pos h1, if_neg h2]
theorem c_go (hx : iX I J A) {m : Int} (m0 : 0 ≤ m) (m1 : m ≤ 40) (hN : a_N A ≠ 0) (hs : a_fl A 0 + m ≤ 10000) : xc L p I J (d + 11) 85 [.ref 0, .int (j_k m)] ((p_goes (a_gw A) (a_gh A) (a_gr A) (a_gn A) (a_kd A) m.toNat 0 (a_fl A)).1, A_fl A (p_it A m.toNat (a_fl A))) := by
  have h := x_go (L := L) (p := p) (d := d + 7) hx (m := m) (by omega) (by omega)
  have e : p_goC m A = ((p_goes (a_gw A) (a_gh A) (a_gr A) (a_gn A) (a_kd A) m.toNat 0 (a_fl A)).1, A_fl A (p_it A m.toNat (a_fl A))) := by
    unfold p_goC
    rw [if_pos ⟨m0, m1⟩, if_neg hN, if_neg (by omega), goes_its]
  rw [e] at h
  exact h
theorem goes_rg (hC : okC (a_gw A) (a_gh A) (a_N A) (a_gn A) (a_gr A) (a_kd A)) : ∀ (m : Nat) (s b : Int) (f : Fl), okF (a_N A) (a_gn A) b f → 0 ≤ s → s < 16 → 0 ≤ (p_goes (a_gw A) (a_gh A) (a_gr A) (a_gn A) (a_kd A) m s f).1 ∧ (p_goes (a_gw A) (a_gh A) (a_gr A) (a_gn A) (a_kd A) m s f).1 < 16
  | 0, s, b, f, ho, s0, s1 => ⟨s0, s1⟩
  | m + 1, s, b, f, ho, s0, s1 => by
    have h := stepW_rg hC ho
    exact goes_rg hC m _ (b + 1) _ (stepF_ok hC ho) h.1 h.2
theorem c_run (hx : iX I J A) (hN : a_N A ≠ 0) (hs : a_fl A 0 ≤ 9960) {t q : Nat} (e : p_runs (a_gw A) (a_gh A) (a_gr A) (a_gn A) (a_kd A) (a_fl A) = (p_it A t (a_fl A), (q : Int), (t : Int))) : xc L p I J (d + 11) 86 [.ref 0] ((t : Int), A_told (A_fl A (p_it A t (a_fl A))) (j_z ((q : Int) = 2))) := by
  have h := x_run (L := L) (p := p) (d := d + 6) hx
  have e2 : p_runC A = ((t : Int), A_told (A_fl A (p_it A t (a_fl A))) (j_z ((q : Int) = 2))) := by
    unfold p_runC
    rw [if_neg hN, if_neg (by omega), e]
    dsimp only
    have ez : p_it A t (a_fl A) 0 = a_fl A 0 + t := its_0 hx.1.1 hx.1.2.1 t
    rw [ez, show a_fl A 0 + (t : Int) - a_fl A 0 = t by omega]
  rw [e2] at h
  exact h
theorem c_where (hx : iX I J A) {r : Int} (r0 : 0 ≤ r) (r1 : r < 6) : xc L p I J (d + 11) 88 [.ref 0, .int (j_k r)] (p_lost (a_gn A) (a_fl A), A_rv (A_rz A (f2 (a_rz A) r (a_gn A))) (f2 (a_rv A) r (p_rw (a_gn A) (a_fl A)))) := by
  have h := x_where (L := L) (p := p) (d := d + 8) hx (r := r) (by omega) (by omega)
  have e : p_where r A = (p_lost (a_gn A) (a_fl A), A_rv (A_rz A (f2 (a_rz A) r (a_gn A))) (f2 (a_rv A) r (p_rw (a_gn A) (a_fl A)))) := by
    unfold p_where
    rw [if_pos ⟨r0, r1⟩]
  rw [e] at h
  exact h
theorem c_on (hx : iX I J A) (hk : a_kp A 0 = true) : xc L p I J (d + 11) 91 [.ref 0, .int (j_k 0)] (a_kf A 0 0, A_fl A (a_kf A 0)) := by
  have h := x_on (L := L) (p := p) (d := d + 9) hx (k := 0) (by decide) (by decide)
  have e : p_on 0 A = (a_kf A 0 0, A_fl A (a_kf A 0)) := by
    unfold p_on
    rw [if_pos (by decide), if_pos hk]
  rw [e] at h
  exact h
theorem c_tear (hx : iX I J A) {r : Int} (r0 : 0 ≤ r) (r1 : r < 6) (hz : a_rz A r ≠ -1) : xc L p I J (d + 11) 72 [.ref 0, .int (j_k r)] (1, A_rz A (f2 (a_rz A) r (-1))) := by
  have h := x_tear (L := L) (p := p) (d := d + 8) hx (r := r) (by omega) (by omega)
  have e : p_tear r A = (1, A_rz A (f2 (a_rz A) r (-1))) := by
    unfold p_tear
    rw [miss6_0 ⟨r0, r1⟩ hz, if_pos rfl]
  rw [e] at h
  exact h
theorem c_at (hx : iX I J A) {r i : Int} (r0 : 0 ≤ r) (r1 : r < 6) (i0 : 0 ≤ i) (i1 : i < a_rz A r) (i2 : i < 100) : xc L p I J (d + 11) 71 [.ref 0, .int (j_k r), .int (j_k i)] (1, A_told A (a_rv A r i)) := by
  have h := x_at (L := L) (p := p) (d := d + 7) hx (r := r) (i := i) (by omega) (by omega) (by omega) (by omega)
  have e : p_at1 r i A = (1, A_told A (a_rv A r i)) := by
    have ep : p_place 6 (a_rz A) r i A = (0, A) := by
      unfold p_place
      rw [miss6_0 ⟨r0, r1⟩ (by omega), if_pos rfl]
      exact if_pos ⟨i0, i1⟩
    unfold p_at1
    rw [ep, if_pos rfl]
  rw [e] at h
  exact h
theorem c_last (hx : iX I J A) : xc L p I J (d + 11) 83 [.ref 0] (a_fl A 1, A_told A (j_k (a_fl A 2))) := x_last (L := L) (p := p) (d := d + 10) hx
theorem c_asked (hx : iX I J A) : j_run (d + 11) 105 [.ref 0] (ST L p I J) = some (some (.int (a_told A)), ST L p I J) := x_asked (d := d + 10) hx
theorem c_count (hx : iX I J A) {q : Int} (h1 : 0 ≤ q) (h2 : q < 8) : j_run (d + 11) 108 [.ref 0, .int (j_k q)] (ST L p I J) = some (some (.int (j_k (p_countV q A))), ST L p I J) := x_count (d := d + 8) hx (by omega) (by omega)
theorem c_stir (hx : iX I J A) {k y c : Int} (k0 : 0 ≤ k) (k1 : k < a_gn A) (y0 : 0 ≤ y) (y1 : y < 4) (e : p_stir (a_gw A) (a_gh A) (a_gr A) (a_gn A) (a_kd A) (a_fl A) k y = c) (hc : c ≠ -9) : xc L p I J (d + 11) 84 [.ref 0, .int (j_k k), .int (j_k y)] (c, A_fl A (p_stirF (a_gr A) (a_fl A) k c)) := by
  have n4 := hx.1.1.2.2.2.1
  have h := x_stir (L := L) (p := p) (d := d + 8) hx (k := k) (b := y) (by omega) (by omega) (by omega) (by omega)
  have e2 : p_stirC k y A = (c, A_fl A (p_stirF (a_gr A) (a_fl A) k c)) := by
    unfold p_stirC
    rw [if_pos ⟨⟨k0, k1⟩, y0, y1⟩, e, if_neg hc]
  rw [e2] at h
  exact h
theorem c_beast (hx : iX I J A) {k q : Int} (k0 : 0 ≤ k) (k1 : k < a_gn A) (q0 : 0 ≤ q) (q1 : q ≤ 2) : xc L p I J (d + 11) 81 [.ref 0, .int (j_k k), .int (j_k q)] (1, A_told A (j_k (p_tells (a_kd A) (a_fl A) k q))) := by
  have n4 := hx.1.1.2.2.2.1
  have h := x_beast (L := L) (p := p) (d := d + 9) hx (k := k) (b := q) (by omega) (by omega) (by omega) (by omega)
  have e2 : p_beast k q A = (1, A_told A (j_k (p_tells (a_kd A) (a_fl A) k q))) := by
    unfold p_beast
    rw [if_pos ⟨⟨k0, k1⟩, q0, q1⟩]
  rw [e2] at h
  exact h
theorem c_tells (hx : iX I J A) : j_run (d + 11) 133 [.ref 0, .int (j_k 1)] (ST L p I J) = some (some (.int (a_told A)), ST L p I J) := lw_tells (d := d + 9) hx
end CALLS6
