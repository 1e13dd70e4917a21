/-! ===== what stays true of a flock: steps, runs, drives keep it on its ground ===== -/
section KEEPS
variable {w h N n b : Int} {gr kd f : Fl}
theorem two_ok (hC : okC w h N n gr kd) {k c sx sy : Int} {gate ac : Bool} (hc : f (5 + k) = c) (c1 : 0 ≤ c) (c2 : c < N) (hx : sx = 0 ∨ sx = 1 ∨ sx = -1) (hy : sy = 0 ∨ sy = 1 ∨ sy = -1) : p_two w h gr n kd f k sx sy gate ac = -9 ∨ (0 ≤ p_two w h gr n kd f k sx sy gate ac ∧ p_two w h gr n kd f k sx sy gate ac < N ∧ p_can gr n kd f k (p_two w h gr n kd f k sx sy gate ac) gate = true) := by
  have key : ∀ dx dy, (dx = 0 ∧ (dy = 1 ∨ dy = -1)) ∨ (dy = 0 ∧ (dx = 1 ∨ dx = -1)) → p_try gr n kd f k (p_by w h (f (5 + k)) dx dy) gate = -9 ∨ (0 ≤ p_try gr n kd f k (p_by w h (f (5 + k)) dx dy) gate ∧ p_try gr n kd f k (p_by w h (f (5 + k)) dx dy) gate < N ∧ p_can gr n kd f k (p_try gr n kd f k (p_by w h (f (5 + k)) dx dy) gate) gate = true) := by
    intro dx dy hd
    rw [hc]
    by_cases hz : p_try gr n kd f k (p_by w h c dx dy) gate = -9
    · exact Or.inl hz
    · obtain ⟨e1, e2, e3⟩ := try_eq hz
      have := (by_rg hC c1 c2 hd).resolve_left e2
      rw [e1]
      exact Or.inr ⟨this.1, this.2.1, e3⟩
  unfold p_two
  split
  · split
    · rename_i hz
      exact key _ _ (by omega)
    · split
      · exact Or.inl rfl
      · exact key _ _ (by omega)
  · split
    · rename_i hz
      exact key _ _ (by omega)
    · split
      · exact Or.inl rfl
      · exact key _ _ (by omega)
theorem sgn_rg (s : Bool) (x : Int) : (if s = true then -1 else 1) * p_sgn x = 0 ∨ (if s = true then -1 else 1) * p_sgn x = 1 ∨ (if s = true then -1 else 1) * p_sgn x = -1 := by
  unfold p_sgn
  cases s <;> by_cases h1 : x < 0 <;> by_cases h2 : 0 < x <;> simp [h1, h2]
theorem next_ok (hC : okC w h N n gr kd) (ho : okF N n b f) {k aim : Int} {gate : Bool} (h1 : 0 ≤ k) (h2 : k < n) (hl : f (5 + k) ≠ -9) (hz : p_next w h gr n kd f k aim gate ≠ -9) : 0 ≤ p_next w h gr n kd f k aim gate ∧ p_next w h gr n kd f k aim gate < N ∧ p_can gr n kd f k (p_next w h gr n kd f k aim gate) gate = true := by
  have hk := (ho.1 k h1 h2).resolve_left hl
  unfold p_next at hz ⊢
  split at hz
  · exact absurd rfl hz
  · rename_i q1
    rw [if_neg q1]
    split at hz
    · exact absurd rfl hz
    · rename_i q2
      rw [if_neg q2]
      exact (two_ok hC rfl hk.1 hk.2 (sgn_rg _ _) (sgn_rg _ _)).resolve_left hz
theorem can_who {k c : Int} {gate : Bool} (h : p_can gr n kd f k c gate = true) : p_who n f c k = -9 := by
  unfold p_can at h
  simp only [decide_eq_true_eq] at h
  exact h.2.1
theorem okF_goTo (hC : okC w h N n gr kd) (ho : okF N n b f) {k c : Int} (h1 : 0 ≤ k) (h2 : k < n) (c1 : 0 ≤ c) (c2 : c < N) (hw : p_who n f c k = -9) : okF N n b (p_goTo gr f k c) := by
  have hn4 := hC.2.2.2.1
  have hn := hC.2.2.1
  rw [who_none hn] at hw
  refine ⟨fun j j1 j2 => ?_, fun i j i1 ij j2 e => ?_, ?_, ?_, ?_, ?_⟩
  · rw [gt_c h1 j1 (by omega)]
    have := ho.1 j j1 j2
    split
    · split <;> omega
    · exact this
  · rw [gt_c h1 (by omega) (by omega), gt_c h1 (by omega) (by omega)] at e
    rw [gt_c h1 (by omega) (by omega)]
    have q := ho.2.1 i j i1 ij j2
    by_cases z1 : i = k
    · rw [if_pos z1] at e ⊢
      rw [if_neg (show ¬ j = k by omega)] at e
      split
      · rfl
      · rename_i z2
        rw [if_neg z2] at e
        exact absurd e.symm (hw j (by omega) j2 (by omega))
    · rw [if_neg z1] at e ⊢
      by_cases z2 : j = k
      · rw [if_pos z2] at e
        split at e
        · exact e
        · exact absurd e (hw i i1 (by omega) z1)
      · rw [if_neg z2] at e
        exact q e
  · rw [gt_l h1 (by decide), gt_l h1 (by decide)]
    exact ho.2.2.1
  · rw [gt_l h1 (by decide), gt_l h1 (by decide)]
    exact ho.2.2.2.1
  · rw [gt_l h1 (by decide), gt_l h1 (by decide)]
    exact ho.2.2.2.2.1
  · rw [gt_l h1 (by decide)]
    exact ho.2.2.2.2.2
theorem okF_bl (ho : okF N n b f) {k c : Int} (h1 : 0 ≤ k) (h2 : k < n) (c1 : 0 ≤ c) (c2 : c < N) : okF N n b (p_bl f k c) := by
  refine ⟨fun j j1 j2 => ?_, fun i j i1 ij j2 e => ?_, Or.inr ⟨h1, h2, c1, c2⟩, ?_, fun z => ?_, ho.2.2.2.2.2⟩
  · rw [bl_hi (by omega)]
    exact ho.1 j j1 j2
  · rw [bl_hi (by omega), bl_hi (by omega)] at e
    rw [bl_hi (by omega)]
    exact ho.2.1 i j i1 ij j2 e
  · rw [bl_3, bl_4]
    exact ho.2.2.1
  · rw [bl_1] at z
    omega
theorem set0_hi {v i : Int} (hi : 1 ≤ i) : p_set f 0 v i = f i := if_neg (by omega)
theorem set0_0 {v : Int} : p_set f 0 v 0 = v := if_pos rfl
theorem okF_set0 (ho : okF N n b f) {v b' : Int} (h1 : 0 ≤ v) (h2 : v ≤ b') : okF N n b' (p_set f 0 v) := by
  refine ⟨fun j j1 j2 => ?_, fun i j i1 ij j2 e => ?_, ?_, ?_, ?_, ?_⟩
  · rw [set0_hi (by omega)]
    exact ho.1 j j1 j2
  · rw [set0_hi (by omega), set0_hi (by omega)] at e
    rw [set0_hi (by omega)]
    exact ho.2.1 i j i1 ij j2 e
  · rw [set0_hi (by decide), set0_hi (by decide)]
    exact ho.2.2.1
  · rw [set0_hi (by decide), set0_hi (by decide)]
    exact ho.2.2.2.1
  · rw [set0_hi (by decide), set0_hi (by decide)]
    exact ho.2.2.2.2.1
  · rw [set0_0]
    exact ⟨h1, h2⟩
/-- in a step, before the beast k goes -/
def inS (N n b : Int) (f0 : Fl) (k : Int) (s : Ss) : Prop :=
  okF N n b s.1 ∧ (∀ i, i < 5 → s.1 i = f0 i) ∧ 0 ≤ s.2.1 ∧ s.2.1 < 2 ^ k.toNat ∧ ((s.2.2.1 = -9 ∧ s.2.2.2.1 = -9) ∨ (0 ≤ s.2.2.1 ∧ s.2.2.1 < n ∧ 0 ≤ s.2.2.2.1 ∧ s.2.2.2.1 < N))
theorem pow_S {k : Int} (h : 0 ≤ k) : (2 : Int) ^ (k + 1).toNat = 2 * 2 ^ k.toNat := by
  rw [show (k + 1).toNat = k.toNat + 1 by omega, Int.pow_succ, Int.mul_comm]
theorem pow_pos (k : Int) : 0 < (2 : Int) ^ k.toNat := Int.pow_pos (by decide)
theorem stepB_in (hC : okC w h N n gr kd) {f0 : Fl} {k : Int} {s : Ss} (h1 : 0 ≤ k) (h2 : k < n) (hs : inS N n b f0 k s) : inS N n b f0 (k + 1) (p_stepB w h gr n kd f0 k s) := by
  have hp := pow_S h1
  have hp2 := pow_pos k
  have hmono : inS N n b f0 (k + 1) s := ⟨hs.1, hs.2.1, hs.2.2.1, by have := hs.2.2.2.1; omega, hs.2.2.2.2⟩
  unfold p_stepB
  split
  · exact hmono
  · rename_i q1
    split
    · exact hmono
    · rename_i q2
      obtain ⟨n1, n2, n3⟩ := next_ok hC hs.1 h1 h2 (fun z => q1 (Or.inr (Or.inl z))) q2
      refine ⟨okF_goTo hC hs.1 h1 h2 n1 n2 (can_who n3), fun i hi => ?_, ?_, ?_, Or.inr ⟨h1, h2, n1, n2⟩⟩
      · show p_goTo gr s.1 k _ i = _
        rw [gt_l h1 hi]
        exact hs.2.1 i hi
      · show 0 ≤ s.2.1 + 2 ^ k.toNat
        have := hs.2.2.1
        omega
      · show s.2.1 + 2 ^ k.toNat < _
        have := hs.2.2.2.1
        omega
theorem stepL_in (hC : okC w h N n gr kd) {f0 : Fl} : ∀ (m : Nat) (k : Int) (s : Ss), 0 ≤ k → k + m = n → inS N n b f0 k s → inS N n b f0 n (p_loop (p_stepB w h gr n kd f0) m k s)
  | 0, k, s, h1, h2, hs => by
    rw [show n = k by omega]
    rw [show n = k by omega] at hs
    exact hs
  | m + 1, k, s, h1, h2, hs => stepL_in hC m (k + 1) _ (by omega) (by omega) (stepB_in hC h1 (by omega) hs)
theorem stepE_ok {f0 : Fl} {s : Ss} (hs : inS N n b f0 n s) : okF N n (b + 1) (p_stepE s) := by
  have hb := hs.1.2.2.2.2.2
  have h1 := okF_set0 hs.1 (v := s.1 0 + 1) (b' := b + 1) (by omega) (by omega)
  unfold p_stepE
  split
  · exact h1
  · rename_i q
    rcases hs.2.2.2.2 with z | z
    · exact absurd z.1 q
    · exact okF_bl h1 z.1 z.2.1 z.2.2.1 z.2.2.2
theorem in0 (ho : okF N n b f) : inS N n b f 0 (f, 0, -9, -9, false) := ⟨ho, fun _ _ => rfl, Int.le_refl 0, (by decide : (0 : Int) < 2 ^ (0 : Int).toNat), Or.inl ⟨rfl, rfl⟩⟩
theorem stepF_ok (hC : okC w h N n gr kd) (ho : okF N n b f) : okF N n (b + 1) (p_stepF w h gr n kd f) := stepE_ok (stepL_in hC n.toNat 0 _ (Int.le_refl 0) (by have := hC.2.2.1; omega) (in0 ho))
theorem run_ok (hC : okC w h N n gr kd) : ∀ (m : Nat) (st sp b : Int) (f : Fl), okF N n b f → okF N n (b + m) (p_run w h gr n kd m st sp f).1
  | 0, st, sp, b, f, ho => by
    rw [show b + ((0 : Nat) : Int) = b by omega]
    exact ho
  | m + 1, st, sp, b, f, ho => by
    unfold p_run
    split
    · have := run_ok hC m (if p_stepW w h gr n kd f = 0 then st + 1 else 0) (sp + 1) (b + 1) _ (stepF_ok hC ho)
      rw [show b + ((m + 1 : Nat) : Int) = b + 1 + m by omega]
      exact this
    · exact ⟨ho.1, ho.2.1, ho.2.2.1, ho.2.2.2.1, ho.2.2.2.2.1, ho.2.2.2.2.2.1, by have := ho.2.2.2.2.2.2; show f 0 ≤ _; omega⟩
theorem stir_ok (hC : okC w h N n gr kd) (ho : okF N n b f) {k way : Int} (h1 : 0 ≤ k) (h2 : k < n) (y1 : 0 ≤ way) (y2 : way < 4) (hz : p_stir w h gr n kd f k way ≠ -9) : 0 ≤ p_stir w h gr n kd f k way ∧ p_stir w h gr n kd f k way < N ∧ okF N n b (p_stirF gr f k (p_stir w h gr n kd f k way)) := by
  unfold p_stir at hz ⊢
  by_cases hl : f (5 + k) = -9
  · rw [if_pos hl] at hz
    exact absurd rfl hz
  · rw [if_neg hl] at hz ⊢
    have hk := (ho.1 k h1 h2).resolve_left hl
    obtain ⟨e1, e2, e3⟩ := try_eq hz
    have := (by_rg hC hk.1 hk.2 (dxy y1 y2)).resolve_left e2
    rw [e1]
    exact ⟨this.1, this.2.1, okF_bl (okF_goTo hC ho h1 h2 this.1 this.2.1 (can_who e3)) h1 h2 this.1 this.2.1⟩
end KEEPS
