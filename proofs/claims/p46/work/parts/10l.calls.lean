/-! ===== the class's calls: worth ===== -/
theorem goTo_went {gr f : Fl} {k c i : Int} (k1 : 0 ≤ k) (k2 : k < 4) (i0 : 0 ≤ i) : p_goTo gr f k c (9 + i) = if i = k then f (9 + k) + 1 else f (9 + i) := by
  unfold p_goTo p_set
  by_cases z : i = k
  · rw [if_pos z, if_pos (by omega)]
  · rw [if_neg z, if_neg (by omega), if_neg (by omega)]
theorem bl_went {f : Fl} {k c i : Int} (i0 : 0 ≤ i) : p_bl f k c (9 + i) = f (9 + i) := by
  unfold p_bl p_set
  rw [if_neg (by omega), if_neg (by omega), if_neg (by omega), if_neg (by omega)]
theorem step_went {w h N n : Int} {gr kd : Fl} (hC : okC w h N n gr kd) {f : Fl} {i : Int} (i0 : 0 ≤ i) : f (9 + i) ≤ p_stepF w h gr n kd f (9 + i) ∧ p_stepF w h gr n kd f (9 + i) ≤ f (9 + i) + 1 := by
  have hn := hC.2.2.1
  have hn4 := hC.2.2.2.1
  have key : f (9 + i) ≤ (p_stepL w h gr n kd f).1 (9 + i) ∧ (p_stepL w h gr n kd f).1 (9 + i) ≤ f (9 + i) + (if i < n then 1 else 0) := by
    refine loop_in (k0 := 0) (n := n) (P := fun k (s : Ss) => f (9 + i) ≤ s.1 (9 + i) ∧ s.1 (9 + i) ≤ f (9 + i) + (if i < k then 1 else 0)) (fun k s k1 k2 hs => ?_) n.toNat 0 _ (Int.le_refl 0) (by omega) ⟨Int.le_refl _, by show f (9 + i) ≤ f (9 + i) + (if i < 0 then 1 else 0); rw [if_neg (by omega)]; omega⟩
    have hs' : f (9 + i) ≤ s.1 (9 + i) ∧ s.1 (9 + i) ≤ f (9 + i) + (if i < k then 1 else 0) := hs
    show f (9 + i) ≤ (p_stepB w h gr n kd f k s).1 (9 + i) ∧ (p_stepB w h gr n kd f k s).1 (9 + i) ≤ f (9 + i) + (if i < k + 1 then 1 else 0)
    have mono : (if i < k then (1 : Int) else 0) ≤ (if i < k + 1 then 1 else 0) := by
      split <;> split <;> omega
    unfold p_stepB
    split
    · omega
    · split
      · omega
      · show f (9 + i) ≤ p_goTo gr s.1 k _ (9 + i) ∧ p_goTo gr s.1 k _ (9 + i) ≤ _
        rw [goTo_went k1 (by omega) i0]
        by_cases z : i = k
        · subst z
          rw [if_pos rfl, if_pos (by omega)]
          rw [if_neg (by omega)] at hs'
          omega
        · rw [if_neg z]
          omega
  have k2 : (if i < n then (1 : Int) else 0) ≤ 1 := by split <;> omega
  have e0 : ∀ g : Fl, p_set g 0 (g 0 + 1) (9 + i) = g (9 + i) := fun g => if_neg (by omega)
  unfold p_stepF p_stepE
  split
  · rw [e0]
    omega
  · rw [bl_went i0, e0]
    omega
theorem run_went {w h N n : Int} {gr kd : Fl} (hC : okC w h N n gr kd) {i : Int} (i0 : 0 ≤ i) : ∀ (m : Nat) (st sp : Int) (f : Fl), f (9 + i) ≤ (p_run w h gr n kd m st sp f).1 (9 + i) ∧ (p_run w h gr n kd m st sp f).1 (9 + i) ≤ f (9 + i) + m
  | 0, st, sp, f => ⟨Int.le_refl _, by show f (9 + i) ≤ f (9 + i) + 0; omega⟩
  | m + 1, st, sp, f => by
    unfold p_run
    split
    · have a := run_went hC i0 m (if p_stepW w h gr n kd f = 0 then st + 1 else 0) (sp + 1) (p_stepF w h gr n kd f)
      have b := step_went hC (f := f) i0
      omega
    · exact ⟨Int.le_refl _, by show f (9 + i) ≤ f (9 + i) + _; omega⟩
section CALLS10
variable {L p d : Nat} {J : Nat → Nat → Int64} {I I' : Nat → Nat → Int32} {A : Ast} {K : Option Rr} {r i : Int}
theorem okF_fg {N n b : Int} {f : Fl} (hn4 : n ≤ 4) (ho : okF N n b f) : okF N n b (p_fg f) := by
  obtain ⟨h1, h2, h3, h4, h5, h6⟩ := ho
  refine ⟨fun k k1 k2 => ?_, fun j k j1 k1 k2 => ?_, ?_, ?_, ?_, ?_⟩
  · rw [fg_lo (by omega)]; exact h1 k k1 k2
  · rw [fg_lo (by omega), fg_lo (by omega)]; exact h2 j k j1 k1 k2
  · rw [fg_lo (by decide), fg_lo (by decide)]; exact h3
  · rw [fg_lo (by decide), fg_lo (by decide)]; exact h4
  · rw [fg_lo (by decide), fg_lo (by decide)]; exact h5
  · rw [fg_lo (by decide)]; exact h6
end CALLS10
