/-! ===== the shepherd and the wolf ===== -/
def p_wto (w h : Int) (gr : Fl) (c way : Int) : Int := if way < 0 then c else if p_by w h c (p_dx way) (p_dy way) = -9 ∨ gr (p_by w h c (p_dx way) (p_dy way)) = 1 ∨ gr (p_by w h c (p_dx way) (p_dy way)) = 2 then -9 else p_by w h c (p_dx way) (p_dy way)
def p_opt (drv : Fl → Int → Option Fl) (f : Fl) (code : Int) : Option Fl := if code < 0 then some f else drv f code
/-- by which drive (-1: none) all are kept for so many turns; -9: by none -/
def p_hold (drv : Fl → Int → Option Fl) (m4 : Nat) (w h : Int) (gr : Fl) (n l0 : Int) : Nat → Fl → Int → Int
  | 0, _, _ => -1
  | t + 1, f, c => p_first (fun code => match p_opt drv f code with
    | none => false
    | some f' => decide (p_lost n f' ≤ l0) && decide (p_first (fun way => decide (p_wto w h gr c way ≠ -9 ∧ (p_who n f' (p_wto w h gr c way) (-9) ≠ -9 ∨ p_hold drv m4 w h gr n l0 t f' (p_wto w h gr c way) = -9))) 5 (-1) = -9)) (m4 + 1) (-1)
abbrev wA (i : Int) : Nat := 74 + 4 * i.toNat
theorem fa_w {i : Int} (h1 : 0 ≤ i) (h2 : i < 3) : FA (wA i) := by
  rcases (show i = 0 ∨ i = 1 ∨ i = 2 by omega) with rfl | rfl | rfl
  · exact fa_74
  · exact fa_78
  · exact fa_82
def frW (q : Nat) (I I' : Nat → Nat → Int32) : Prop := (∀ r, r ≠ 72 → (r < q ∨ 86 ≤ r) → I' r = I r) ∧ ∀ k, k < 3 → I' 72 k = I 72 k
theorem frW.rf {q : Nat} {I : Nat → Nat → Int32} : frW q I I := ⟨fun _ _ _ => rfl, fun _ _ => rfl⟩
theorem frW.tr {q : Nat} {I I' I'' : Nat → Nat → Int32} (h : frW q I I') (h' : frW q I' I'') : frW q I I'' := ⟨fun r a b => (h'.1 r a b).trans (h.1 r a b), fun k hk => (h'.2 k hk).trans (h.2 k hk)⟩
theorem frW.le {q q' : Nat} {I I' : Nat → Nat → Int32} (hq : q ≤ q') (h : frW q' I I') : frW q I I' := ⟨fun r a b => h.1 r a (by omega), h.2⟩
theorem frW.of {q a : Nat} {I I' : Nat → Nat → Int32} (h1 : 73 ≤ a) (h2 : q ≤ a) (h3 : a + 4 ≤ 86) (h : fr a I I') : frW q I I' := ⟨fun r _ b => h r (by omega), fun k _ => by rw [h 72 (by omega)]⟩
theorem wto_rg {w h N n c way : Int} {gr kd : Fl} (hC : okC w h N n gr kd) (c1 : 0 ≤ c) (c2 : c < N) (y2 : way < 4) : p_wto w h gr c way = -9 ∨ (0 ≤ p_wto w h gr c way ∧ p_wto w h gr c way < N) := by
  unfold p_wto
  split
  · exact Or.inr ⟨c1, c2⟩
  · split
    · exact Or.inl rfl
    · rename_i h1 h2
      have := by_rg hC c1 c2 (dxy (show 0 ≤ way by omega) y2)
      exact this.imp id (fun z => ⟨z.1, z.2.1⟩)
theorem who_ex {n c : Int} {f : Fl} (hn : 0 ≤ n) : (p_who n f c (-9) ≠ -9) = (∃ k, 0 ≤ k ∧ k < n ∧ f (5 + k) = c) := by
  refine propext ⟨fun z => ?_, fun ⟨k, k1, k2, k3⟩ z => ?_⟩
  · refine Classical.byContradiction fun y => z ((who_none hn).mpr fun j j1 j2 _ j4 => y ⟨j, j1, j2, j4⟩)
  · exact (who_none hn).mp z k k1 k2 (by omega) k3
/-- what the wolf can do behind a drive: false if nothing harms -/
def p_harm (w h : Int) (gr : Fl) (n : Int) (hold : Fl → Int → Int) (f' : Fl) (c way : Int) : Bool := decide (p_wto w h gr c way ≠ -9 ∧ (p_who n f' (p_wto w h gr c way) (-9) ≠ -9 ∨ hold f' (p_wto w h gr c way) = -9))
theorem lost_rg {n : Int} {f : Fl} (hn : 0 ≤ n) : 0 ≤ p_lost n f ∧ p_lost n f ≤ n := by
  have key : ∀ (m : Nat) (k s : Int), 0 ≤ s → 0 ≤ p_loop (fun k s => if f (5 + k) = -9 then s + 1 else s) m k s ∧ p_loop (fun k s => if f (5 + k) = -9 then s + 1 else s) m k s ≤ s + m := by
    intro m
    induction m with
    | zero => intro k s h; exact ⟨h, by show s ≤ s + 0; omega⟩
    | succ m ih =>
      intro k s h
      rw [p_loopS]
      split
      · have := ih (k + 1) (s + 1) (by omega)
        omega
      · have := ih (k + 1) s h
        omega
  have := key n.toNat 0 0 (Int.le_refl 0)
  unfold p_lost
  omega
section WATCH
variable {L p d : Nat} {J : Nat → Nat → Int64} {n w h N l0 : Int} {kd gr : Fl}
end WATCH
