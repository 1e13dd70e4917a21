/-! ===== who can never come together; what the digest rests on ===== -/
def mv (w h : Int) (gr f g : Fl) (k : Int) : Prop := g (5 + k) = f (5 + k) ∨ (f (5 + k) ≠ -9 ∧ ∃ c, nb w h (f (5 + k)) c ∧ gr c ≠ 1 ∧ g (5 + k) = if gr c = 2 then -9 else c)
/-- no one stands in a wall, in water -/
def okD (gr : Fl) (n : Int) (f : Fl) : Prop := ∀ k, 0 ≤ k → k < n → f (5 + k) ≠ -9 → gr (f (5 + k)) ≠ 1 ∧ gr (f (5 + k)) ≠ 2
theorem by_is {w h c dx dy : Int} (hz : p_by w h c dx dy ≠ -9) : 0 ≤ c % w + dx ∧ c % w + dx < w ∧ 0 ≤ c / w + dy ∧ c / w + dy < h ∧ p_by w h c dx dy = w * (c / w + dy) + (c % w + dx) := by
  unfold p_by at hz ⊢
  split at hz
  · rename_i z
    rw [if_pos z]
    exact ⟨z.1, z.2.1, z.2.2.1, z.2.2.2, rfl⟩
  · exact absurd rfl hz
theorem by_of {w h c dx dy : Int} (h1 : 0 ≤ c % w + dx) (h2 : c % w + dx < w) (h3 : 0 ≤ c / w + dy) (h4 : c / w + dy < h) : p_by w h c dx dy = w * (c / w + dy) + (c % w + dx) := if_pos ⟨h1, h2, h3, h4⟩
section NEVER6
variable {w h N n b : Int} {gr kd f g : Fl}
theorem nb_all (hC : okC w h N n gr kd) {a c : Int} (a0 : 0 ≤ a) (a1 : a < N) (hb : nb w h a c) : 0 ≤ c ∧ c < N ∧ p_off w c a = 1 ∧ nb w h c a := by
  obtain ⟨c9, y, y0, y1, e⟩ := hb
  have hz : p_by w h a (p_dx y) (p_dy y) ≠ -9 := by rw [← e]; exact c9
  obtain ⟨x0, x1, z0, z1, e2⟩ := by_is hz
  obtain ⟨q0, q1, q2, q3, q4, -⟩ := bd_xy hC a0 a1
  have hr := cell_rg x0 x1 z0 z1
  have hxy := cell_xy (w := w) (x := a % w + p_dx y) (y := a / w + p_dy y) x0 x1
  have eN := hC.1
  have ec : c = w * (a / w + p_dy y) + (a % w + p_dx y) := e.trans e2
  rw [← ec] at hr hxy
  have hN : 0 ≤ c ∧ c < N := by rw [eN]; exact hr
  have ho : p_off w c a = 1 := by
    unfold p_off p_abs
    rw [hxy.1, hxy.2, show a % w + p_dx y - a % w = p_dx y by omega, show a / w + p_dy y - a / w = p_dy y by omega]
    rcases (show y = 0 ∨ y = 1 ∨ y = 2 ∨ y = 3 by omega) with rfl | rfl | rfl | rfl <;> rfl
  refine ⟨hN.1, hN.2, ho, by omega, ?_⟩
  have back : ∀ y' : Int, p_dx y' = - p_dx y → p_dy y' = - p_dy y → a = p_by w h c (p_dx y') (p_dy y') := fun y' d1 d2 => by
    have b1 : c % w + p_dx y' = a % w := by rw [hxy.1, d1]; omega
    have b2 : c / w + p_dy y' = a / w := by rw [hxy.2, d2]; omega
    rw [by_of (by rw [b1]; exact q0) (by rw [b1]; exact q1) (by rw [b2]; exact q2) (by rw [b2]; exact q3), b1, b2]
    exact q4
  rcases (show y = 0 ∨ y = 1 ∨ y = 2 ∨ y = 3 by omega) with rfl | rfl | rfl | rfl
  · exact ⟨2, by decide, by decide, back 2 rfl rfl⟩
  · exact ⟨3, by decide, by decide, back 3 rfl rfl⟩
  · exact ⟨0, by decide, by decide, back 0 rfl rfl⟩
  · exact ⟨1, by decide, by decide, back 1 rfl rfl⟩
theorem off_nb (hC : okC w h N n gr kd) {a c : Int} (a0 : 0 ≤ a) (a1 : a < N) (c0 : 0 ≤ c) (c1 : c < N) (ho : p_off w a c = 1) : nb w h c a := by
  obtain ⟨q0, q1, q2, q3, q4, -⟩ := bd_xy hC a0 a1
  have hw := off_way hC a0 a1 c0 c1 ho
  have back : ∀ y' : Int, c % w + p_dx y' = a % w → c / w + p_dy y' = a / w → a = p_by w h c (p_dx y') (p_dy y') := fun y' b1 b2 => by
    rw [by_of (by rw [b1]; exact q0) (by rw [b1]; exact q1) (by rw [b2]; exact q2) (by rw [b2]; exact q3), b1, b2]
    exact q4
  refine ⟨by omega, ?_⟩
  rcases hw with ⟨h1, h2 | h2⟩ | ⟨h1, h2 | h2⟩
  · exact ⟨2, by decide, by decide, back 2 (by rw [dx2]; omega) (by rw [dy2]; omega)⟩
  · exact ⟨0, by decide, by decide, back 0 (by rw [dx0]; omega) (by rw [dy0]; omega)⟩
  · exact ⟨1, by decide, by decide, back 1 (by rw [dx1]; omega) (by rw [dy1]; omega)⟩
  · exact ⟨3, by decide, by decide, back 3 (by rw [dx3]; omega) (by rw [dy3]; omega)⟩
theorem off_0 (hC : okC w h N n gr kd) {a c : Int} (a0 : 0 ≤ a) (a1 : a < N) (c0 : 0 ≤ c) (c1 : c < N) (ho : p_off w a c = 0) : a = c := by
  obtain ⟨-, -, -, -, q4, -⟩ := bd_xy hC a0 a1
  obtain ⟨-, -, -, -, r4, -⟩ := bd_xy hC c0 c1
  unfold p_off p_abs at ho
  have e1 : a % w = c % w := by split at ho <;> split at ho <;> omega
  have e2 : a / w = c / w := by split at ho <;> split at ho <;> omega
  rw [q4, r4, e1, e2]
theorem mv_okD (hd : okD gr n f) (hm : ∀ k, 0 ≤ k → k < n → mv w h gr f g k) : okD gr n g := by
  intro k k0 k1 hl
  rcases hm k k0 k1 with e | ⟨h1, c, h2, h3, e⟩
  · rw [e] at hl ⊢
    exact hd k k0 k1 hl
  · rw [e] at hl ⊢
    split at hl
    · exact absurd rfl hl
    · rename_i z
      rw [if_neg z]
      exact ⟨h3, z⟩
/-- kept apart by a set of cells that no step leaves -/
def sep (P : Int → Prop) (f : Fl) (i j : Int) : Prop := (f (5 + i) = -9 ∨ P (f (5 + i))) ∧ (f (5 + j) = -9 ∨ ¬ P (f (5 + j)))
theorem cl_nb {P : Int → Prop} (hc : clR w h gr true P) {a c : Int} (ha : P a) (hb : nb w h a c) (h1 : gr c ≠ 1) (h2 : gr c ≠ 2) : P c := by
  obtain ⟨c9, y, y0, y1, e⟩ := hb
  rw [e] at c9 h1 h2 ⊢
  exact hc a y ha y0 y1 c9 ⟨h1, h2, Or.inl rfl⟩
theorem mv_sep (hC : okC w h N n gr kd) (ho : okF N n b f) (hd : okD gr n f) {P : Int → Prop} (hc : clR w h gr true P) {i j : Int} (i0 : 0 ≤ i) (i1 : i < n) (j0 : 0 ≤ j) (j1 : j < n) (hs : sep P f i j) (hm : ∀ k, 0 ≤ k → k < n → mv w h gr f g k) : sep P g i j := by
  refine ⟨?_, ?_⟩
  · rcases hm i i0 i1 with e | ⟨h1, c, h2, h3, e⟩
    · rw [e]
      exact hs.1
    · rw [e]
      by_cases z : gr c = 2
      · rw [if_pos z]
        exact Or.inl rfl
      · rw [if_neg z]
        exact Or.inr (cl_nb hc (hs.1.resolve_left h1) h2 h3 z)
  · rcases hm j j0 j1 with e | ⟨h1, c, h2, h3, e⟩
    · rw [e]
      exact hs.2
    · rw [e]
      by_cases z : gr c = 2
      · rw [if_pos z]
        exact Or.inl rfl
      · rw [if_neg z]
        refine Or.inr fun hp => hs.2.resolve_left h1 ?_
        have hr := (ho.1 j j0 j1).resolve_left h1
        have hD := hd j j0 j1 h1
        exact cl_nb hc hp (nb_all hC hr.1 hr.2 h2).2.2.2 hD.1 hD.2
theorem sep_far (hC : okC w h N n gr kd) (ho : okF N n b f) (hd : okD gr n f) {P : Int → Prop} (hc : clR w h gr true P) {i j : Int} (i0 : 0 ≤ i) (i1 : i < n) (j0 : 0 ≤ j) (j1 : j < n) (hs : sep P f i j) (hi : f (5 + i) ≠ -9) (hj : f (5 + j) ≠ -9) : 2 ≤ p_off w (f (5 + i)) (f (5 + j)) := by
  have ri := (ho.1 i i0 i1).resolve_left hi
  have rj := (ho.1 j j0 j1).resolve_left hj
  have rg := off_rg hC ri.1 ri.2 rj.1 rj.2
  have pi := hs.1.resolve_left hi
  have pj := hs.2.resolve_left hj
  by_cases z0 : p_off w (f (5 + i)) (f (5 + j)) = 0
  · have e := off_0 hC ri.1 ri.2 rj.1 rj.2 z0
    rw [e] at pi
    exact absurd pi pj
  by_cases z1 : p_off w (f (5 + i)) (f (5 + j)) = 1
  · have hb := off_nb hC ri.1 ri.2 rj.1 rj.2 z1
    have hD := hd j j0 j1 hj
    exact absurd (cl_nb hc pi (nb_all hC rj.1 rj.2 hb).2.2.2 hD.1 hD.2) pj
  omega
theorem nev_is {rb : Int → Int → Bool} : (0 < (p_nev rb n f).1 → ∃ k j, 0 ≤ k ∧ k < j ∧ j < n ∧ (p_nev rb n f).2 = 10 * k + j ∧ f (5 + k) ≠ -9 ∧ f (5 + j) ≠ -9 ∧ ¬ rb k j = true) := by
  have hl := loop_inv (b := p_nevO rb n f) (P := fun _ s => 0 ≤ s.1 ∧ (0 < s.1 → ∃ k j, 0 ≤ k ∧ k < j ∧ j < n ∧ s.2 = 10 * k + j ∧ f (5 + k) ≠ -9 ∧ f (5 + j) ≠ -9 ∧ ¬ rb k j = true)) n.toNat 0 (0, -9) ⟨Int.le_refl 0, fun x => absurd x (by decide)⟩ (fun k s k0 k1 hs => by
    unfold p_nevO
    by_cases z : f (5 + k) = -9
    · rw [if_pos z]
      exact hs
    · rw [if_neg z]
      have h2 := loop_inv (b := p_nevI rb f k) (P := fun _ s => 0 ≤ s.1 ∧ (0 < s.1 → ∃ k j, 0 ≤ k ∧ k < j ∧ j < n ∧ s.2 = 10 * k + j ∧ f (5 + k) ≠ -9 ∧ f (5 + j) ≠ -9 ∧ ¬ rb k j = true)) (n - (k + 1)).toNat (k + 1) s hs (fun j t j0 j1 ht => by
        unfold p_nevI
        by_cases y : f (5 + j) = -9 ∨ rb k j = true
        · rw [if_pos y]
          exact ht
        · rw [if_neg y]
          have y' := not_or.mp y
          refine ⟨show 0 ≤ t.1 + 1 by have := ht.1; omega, fun _ => ?_⟩
          by_cases x : t.1 = 0
          · have hkj : k < j ∧ j < n := by clear ht hs; omega
            exact ⟨k, j, k0, hkj.1, hkj.2, if_pos x, z, y'.1, y'.2⟩
          · show ∃ k' j', 0 ≤ k' ∧ k' < j' ∧ j' < n ∧ (if t.1 = 0 then 10 * k + j else t.2) = 10 * k' + j' ∧ f (5 + k') ≠ -9 ∧ f (5 + j') ≠ -9 ∧ ¬ rb k' j' = true
            rw [if_neg x]
            exact ht.2 (by have := ht.1; omega))
      exact h2)
  exact hl.2
/-- what never() tells: a set that the one can't leave, in which the other isn't -/
theorem nev_sep {A : Ast} {rb : Int → Int → Bool} (hrb : okR A rb) (hd : okD (a_gr A) (a_gn A) (a_fl A)) (hp : 0 < (p_nev rb (a_gn A) (a_fl A)).1) : ∃ i j, 0 ≤ i ∧ i < j ∧ j < a_gn A ∧ (p_nev rb (a_gn A) (a_fl A)).2 = 10 * i + j ∧ ∃ P, clR (a_gw A) (a_gh A) (a_gr A) true P ∧ sep P (a_fl A) i j := by
  obtain ⟨i, j, i0, ij, j1, e, hi, hj, hn⟩ := nev_is hp
  refine ⟨i, j, i0, ij, j1, e, ?_⟩
  have h1 := hrb i j i0 (by omega) (by omega) j1 hi hj
  have h2 : ¬ p_R (a_gw A) (a_gh A) (a_gr A) true (a_fl A (5 + i)) (a_fl A (5 + j)) := fun z => hn (h1.mpr ⟨hd i i0 (by omega) hi, z⟩)
  unfold p_R at h2
  refine Classical.byContradiction fun hh => h2 fun P p1 p2 => ?_
  refine Classical.byContradiction fun p3 => hh ⟨P, p2, Or.inr p1, Or.inr p3⟩
end NEVER6
theorem rb_ex (A : Ast) : ∃ rb : Int → Int → Bool, okR A rb := ⟨fun k j => @decide ((a_gr A (a_fl A (5 + k)) ≠ 1 ∧ a_gr A (a_fl A (5 + k)) ≠ 2) ∧ p_R (a_gw A) (a_gh A) (a_gr A) true (a_fl A (5 + k)) (a_fl A (5 + j))) (Classical.propDecidable _), fun k j _ _ _ _ _ _ => ⟨fun z => @of_decide_eq_true _ (Classical.propDecidable _) z, fun z => @decide_eq_true _ (Classical.propDecidable _) z⟩⟩
/-- the same but for what is told and what a row that isn't there holds -/
def smD (A B : Ast) : Prop := a_rz B = a_rz A ∧ (∀ r, a_rz A r ≠ -1 → a_rv B r = a_rv A r) ∧ a_tz B = a_tz A ∧ a_tv B = a_tv A ∧ a_gw B = a_gw A ∧ a_gh B = a_gh A ∧ a_gr B = a_gr A ∧ a_gn B = a_gn A ∧ a_kd B = a_kd A ∧ a_fl B = a_fl A ∧ a_kp B = a_kp A ∧ a_kf B = a_kf A
theorem add_cg {z : Int → Int} {v u : Int → Int → Int32} (hv : ∀ r, z r ≠ -1 → u r = v r) (C : Nat) (s : Int64) : p_add C z u s = p_add C z v s := by
  unfold p_add
  refine loop_cg _ _ _ (fun r s _ _ => ?_)
  by_cases x : z r = -1
  · rw [x, show (-1 : Int).toNat = 0 from rfl, p_loop0, p_loop0]
  · rw [hv r x]
theorem dig_cg {A B : Ast} (hs : smD A B) : p_digest B = p_digest A := by
  obtain ⟨h1, h2, h3, h4, h5, h6, h7, h8, h9, h10, h11, h12⟩ := hs
  unfold p_digest
  rw [h1, add_cg h2, h3, h4]
  unfold p_hashF p_countV p_keptN a_N
  rw [h1, h3, h5, h6, h7, h8, h9, h10, h11, h12]
