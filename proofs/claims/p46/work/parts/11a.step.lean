/-! ===== what a step does, one by one ===== -/
theorem loop_inv {α : Type} {b : Int → α → α} (P : Int → α → Prop) : ∀ (m : Nat) (k : Int) (s : α), P k s → (∀ j s, k ≤ j → j < k + m → P j s → P (j + 1) (b j s)) → P (k + m) (p_loop b m k s)
  | 0, k, s, h, _ => by
    rw [p_loop0, show k + ((0 : Nat) : Int) = k by omega]
    exact h
  | m + 1, k, s, h, hb => by
    have h1 := loop_inv P m (k + 1) (b k s) (hb k s (Int.le_refl k) (by omega) h) (fun j s h1 h2 h3 => hb j s (by omega) (by omega) h3)
    rw [p_loopS, show k + ((m + 1 : Nat) : Int) = k + 1 + m by omega]
    exact h1
theorem loop_cg {α : Type} {b b' : Int → α → α} : ∀ (m : Nat) (k : Int) (s : α), (∀ j s, k ≤ j → j < k + m → b j s = b' j s) → p_loop b m k s = p_loop b' m k s
  | 0, k, s, _ => rfl
  | m + 1, k, s, h => by
    rw [p_loopS, p_loopS, h k s (Int.le_refl k) (by omega)]
    exact loop_cg m (k + 1) _ (fun j s h1 h2 => h j s (by omega) (by omega))
theorem e2_0 : (2 : Int) ^ (0 : Int).toNat = 1 := rfl
theorem e2_1 : (2 : Int) ^ (1 : Int).toNat = 2 := rfl
theorem e2_2 : (2 : Int) ^ (2 : Int).toNat = 4 := rfl
theorem e2_3 : (2 : Int) ^ (3 : Int).toNat = 8 := rfl
theorem e2_4 : (2 : Int) ^ (4 : Int).toNat = 16 := rfl
theorem bit_add {s j k : Int} (j0 : 0 ≤ j) (j4 : j < 4) (s0 : 0 ≤ s) (s1 : s < 2 ^ j.toNat) (k0 : 0 ≤ k) (k1 : k ≤ j) : (s + 2 ^ j.toNat) / 2 ^ k.toNat % 2 = if k = j then 1 else s / 2 ^ k.toNat % 2 := by
  rcases (show j = 0 ∨ j = 1 ∨ j = 2 ∨ j = 3 by omega) with rfl | rfl | rfl | rfl <;> rcases (show k = 0 ∨ k = 1 ∨ k = 2 ∨ k = 3 by omega) with rfl | rfl | rfl | rfl <;> simp only [e2_0, e2_1, e2_2, e2_3] at s1 ⊢ <;> first | (exfalso; omega) | (rw [if_pos trivial]; omega) | (rw [if_neg (by decide)]; omega)
theorem bit_no {s j : Int} (j0 : 0 ≤ j) (j4 : j < 4) (s0 : 0 ≤ s) (s1 : s < 2 ^ j.toNat) : s / 2 ^ j.toNat % 2 = 0 := by
  rcases (show j = 0 ∨ j = 1 ∨ j = 2 ∨ j = 3 by omega) with rfl | rfl | rfl | rfl <;> simp only [e2_0, e2_1, e2_2, e2_3] at s1 ⊢ <;> omega
/-- a cell beside a cell -/
def nb (w h c e : Int) : Prop := e ≠ -9 ∧ ∃ y : Int, 0 ≤ y ∧ y < 4 ∧ e = p_by w h c (p_dx y) (p_dy y)
theorem dx0 : p_dx 0 = 0 := rfl
theorem dx1 : p_dx 1 = 1 := rfl
theorem dx2 : p_dx 2 = 0 := rfl
theorem dx3 : p_dx 3 = -1 := rfl
theorem dy0 : p_dy 0 = -1 := rfl
theorem dy1 : p_dy 1 = 0 := rfl
theorem dy2 : p_dy 2 = 1 := rfl
theorem dy3 : p_dy 3 = 0 := rfl
section STEP6
variable {w h N n b : Int} {gr kd f : Fl}
theorem can_gr {k c : Int} {gate : Bool} (hc : p_can gr n kd f k c gate = true) : gr c ≠ 1 := (of_decide_eq_true hc).1
theorem try_nb {k c0 sx sy : Int} {gate : Bool} (hs : (sy = 0 ∧ (sx = 1 ∨ sx = -1)) ∨ (sx = 0 ∧ (sy = 1 ∨ sy = -1))) (ht : p_try gr n kd f k (p_by w h c0 sx sy) gate ≠ -9) : nb w h c0 (p_try gr n kd f k (p_by w h c0 sx sy) gate) ∧ p_can gr n kd f k (p_try gr n kd f k (p_by w h c0 sx sy) gate) gate = true := by
  obtain ⟨e1, e2, e3⟩ := try_eq ht
  rw [e1]
  refine ⟨⟨e2, ?_⟩, e3⟩
  rcases hs with ⟨rfl, rfl | rfl⟩ | ⟨rfl, rfl | rfl⟩
  · exact ⟨1, by decide, by decide, rfl⟩
  · exact ⟨3, by decide, by decide, rfl⟩
  · exact ⟨2, by decide, by decide, rfl⟩
  · exact ⟨0, by decide, by decide, rfl⟩
theorem two_nb {k sx sy : Int} {gate ac : Bool} (hx : sx = 0 ∨ sx = 1 ∨ sx = -1) (hy : sy = 0 ∨ sy = 1 ∨ sy = -1) (ht : p_two w h gr n kd f k sx sy gate ac ≠ -9) : nb w h (f (5 + k)) (p_two w h gr n kd f k sx sy gate ac) ∧ p_can gr n kd f k (p_two w h gr n kd f k sx sy gate ac) gate = true := by
  revert ht
  unfold p_two
  by_cases a : ac = true
  · rw [if_pos a]
    by_cases z : sx ≠ 0 ∧ p_try gr n kd f k (p_by w h (f (5 + k)) sx 0) gate ≠ -9
    · rw [if_pos z]
      intro ht
      exact try_nb (Or.inl ⟨rfl, by omega⟩) ht
    · rw [if_neg z]
      by_cases y : sy = 0
      · rw [if_pos y]
        intro ht
        exact absurd rfl ht
      · rw [if_neg y]
        intro ht
        exact try_nb (Or.inr ⟨rfl, by omega⟩) ht
  · rw [if_neg a]
    by_cases z : sy ≠ 0 ∧ p_try gr n kd f k (p_by w h (f (5 + k)) 0 sy) gate ≠ -9
    · rw [if_pos z]
      intro ht
      exact try_nb (Or.inr ⟨rfl, by omega⟩) ht
    · rw [if_neg z]
      by_cases y : sx = 0
      · rw [if_pos y]
        intro ht
        exact absurd rfl ht
      · rw [if_neg y]
        intro ht
        exact try_nb (Or.inl ⟨rfl, by omega⟩) ht
theorem next_nb {k aim : Int} {gate : Bool} (ht : p_next w h gr n kd f k aim gate ≠ -9) : nb w h (f (5 + k)) (p_next w h gr n kd f k aim gate) ∧ p_can gr n kd f k (p_next w h gr n kd f k aim gate) gate = true := by
  revert ht
  unfold p_next
  by_cases z1 : aim = -9
  · rw [if_pos z1]
    intro ht
    exact absurd rfl ht
  rw [if_neg z1]
  split
  · intro ht
    exact absurd rfl ht
  · intro ht
    exact two_nb (sgn_rg _ _) (sgn_rg _ _) ht
/-- who goes in a step, and whereto -/
def went (w h : Int) (gr f g : Fl) (k : Int) : Prop := f (5 + k) ≠ -9 ∧ g (9 + k) = f (9 + k) + 1 ∧ ∃ c, nb w h (f (5 + k)) c ∧ gr c ≠ 1 ∧ g (5 + k) = if gr c = 2 then -9 else c
def stays (f g : Fl) (k : Int) : Prop := g (5 + k) = f (5 + k) ∧ g (9 + k) = f (9 + k)
def stI (w h : Int) (gr : Fl) (N n b : Int) (f0 : Fl) (j : Int) (s : Ss) : Prop :=
  okF N n b s.1 ∧ (∀ i, i < 5 → s.1 i = f0 i) ∧ (∀ k, j ≤ k → k < n → stays f0 s.1 k) ∧
  (∀ k, 0 ≤ k → k < j → (s.2.1 / 2 ^ k.toNat % 2 = 0 ∧ stays f0 s.1 k) ∨ (s.2.1 / 2 ^ k.toNat % 2 = 1 ∧ went w h gr f0 s.1 k)) ∧
  (0 ≤ s.2.1 ∧ s.2.1 < 2 ^ j.toNat) ∧ ((s.2.1 = 0 ∧ s.2.2.1 = -9 ∧ s.1 = f0) ∨ (0 < s.2.1 ∧ 0 ≤ s.2.2.1 ∧ s.2.2.1 < n ∧ 0 ≤ s.2.2.2.1 ∧ s.2.2.2.1 < N))
theorem stI_no {f0 : Fl} {j : Int} {s : Ss} (hn : n ≤ 4) (j0 : 0 ≤ j) (j1 : j < n) (hs : stI w h gr N n b f0 j s) : stI w h gr N n b f0 (j + 1) s := by
  obtain ⟨h1, h2, h3, h4, h5, h6⟩ := hs
  refine ⟨h1, h2, fun k a b => h3 k (by omega) b, fun k a b => ?_, ⟨h5.1, ?_⟩, h6⟩
  · by_cases z : k = j
    · subst z
      exact Or.inl ⟨bit_no j0 (by omega) h5.1 h5.2, h3 k (Int.le_refl k) j1⟩
    · exact h4 k a (by omega)
  · have := pow_S j0
    have := pow_pos j
    omega
theorem stepB_st (hC : okC w h N n gr kd) {f0 : Fl} {j : Int} {s : Ss} (j0 : 0 ≤ j) (j1 : j < n) (hs : stI w h gr N n b f0 j s) : stI w h gr N n b f0 (j + 1) (p_stepB w h gr n kd f0 j s) := by
  have n4 := hC.2.2.2.1
  unfold p_stepB
  by_cases z1 : j = f0 1 ∨ s.1 (5 + j) = -9 ∨ (f0 0 % 2 = 1 ∧ p_slow kd j = true)
  · rw [if_pos z1]
    exact stI_no n4 j0 j1 hs
  rw [if_neg z1]
  by_cases z2 : p_next w h gr n kd s.1 j (p_aim kd f0 j) s.2.2.2.2 = -9
  · rw [if_pos z2]
    exact stI_no n4 j0 j1 hs
  rw [if_neg z2]
  obtain ⟨h1, h2, h3, h4, h5, h6⟩ := hs
  have hl : s.1 (5 + j) ≠ -9 := fun z => z1 (Or.inr (Or.inl z))
  have c12 := next_ok hC h1 j0 j1 hl z2
  obtain ⟨hnb, hcan⟩ := next_nb z2
  generalize hc : p_next w h gr n kd s.1 j (p_aim kd f0 j) s.2.2.2.2 = c at c12 hnb hcan z2 ⊢
  have e5 := (h3 j (Int.le_refl j) j1).1
  have e9 := (h3 j (Int.le_refl j) j1).2
  have hpos := pow_pos j
  have hS := pow_S j0
  refine ⟨okF_goTo hC h1 j0 j1 c12.1 c12.2.1 (can_who hcan), fun i hi => ?_, fun k a b => ⟨?_, ?_⟩, fun k a b => ?_, ⟨?_, ?_⟩, Or.inr ⟨?_, j0, j1, c12.1, c12.2.1⟩⟩
  · show p_goTo gr s.1 j c i = _
    rw [gt_l j0 hi]
    exact h2 i hi
  · show p_goTo gr s.1 j c (5 + k) = _
    rw [gt_c j0 (by omega) (by omega), if_neg (by omega)]
    exact (h3 k (by omega) b).1
  · show p_goTo gr s.1 j c (9 + k) = _
    rw [gt_w (by omega) (by omega), if_neg (by omega)]
    exact (h3 k (by omega) b).2
  · show ((s.2.1 + 2 ^ j.toNat) / 2 ^ k.toNat % 2 = 0 ∧ stays f0 (p_goTo gr s.1 j c) k) ∨ ((s.2.1 + 2 ^ j.toNat) / 2 ^ k.toNat % 2 = 1 ∧ went w h gr f0 (p_goTo gr s.1 j c) k)
    have hb := bit_add j0 (by omega) h5.1 h5.2 a (show k ≤ j by omega)
    by_cases z : k = j
    · subst z
      rw [if_pos rfl] at hb
      refine Or.inr ⟨hb, ?_, ?_, c, ?_, can_gr hcan, ?_⟩
      · rw [← e5]; exact hl
      · rw [gt_w (by omega) (by omega), if_pos rfl, e9]
      · rw [← e5]; exact hnb
      · rw [gt_c j0 (by omega) (by omega), if_pos rfl]
    · rw [if_neg z] at hb
      rw [hb]
      have g5 : p_goTo gr s.1 j c (5 + k) = s.1 (5 + k) := by rw [gt_c j0 (by omega) (by omega), if_neg z]
      have g9 : p_goTo gr s.1 j c (9 + k) = s.1 (9 + k) := by rw [gt_w (by omega) (by omega), if_neg z]
      unfold stays went
      rw [g5, g9]
      exact h4 k a (by omega)
  · show 0 ≤ s.2.1 + 2 ^ j.toNat
    omega
  · show s.2.1 + 2 ^ j.toNat < 2 ^ (j + 1).toNat
    omega
  · show 0 < s.2.1 + 2 ^ j.toNat
    omega
theorem stepL_st (hC : okC w h N n gr kd) (ho : okF N n b f) : stI w h gr N n b f n (p_stepL w h gr n kd f) := by
  have n0 := hC.2.2.1
  have hi := loop_inv (b := p_stepB w h gr n kd f) (P := stI w h gr N n b f) n.toNat 0 (f, 0, -9, -9, false) ⟨ho, fun _ _ => rfl, fun _ _ _ => ⟨rfl, rfl⟩, fun k a b => absurd b (by omega), ⟨Int.le_refl 0, (by decide : (0 : Int) < 2 ^ (0 : Int).toNat)⟩, Or.inl ⟨rfl, rfl, rfl⟩⟩ (fun j s h1 h2 h3 => stepB_st hC h1 (by omega) h3)
  rw [show (0 : Int) + (n.toNat : Int) = n by omega] at hi
  exact hi
theorem stepE_5 {s : Ss} {i : Int} (hi : 5 ≤ i) : p_stepE s i = s.1 i := by
  unfold p_stepE
  split
  · exact set0_hi (by omega)
  · rw [bl_hi hi]
    exact set0_hi (by omega)
theorem stepE_0 {s : Ss} : p_stepE s 0 = s.1 0 + 1 := by
  unfold p_stepE
  split
  · exact set0_0
  · rw [bl_0]
    exact set0_0
/-- a step, one by one -/
theorem step_all (hC : okC w h N n gr kd) (ho : okF N n b f) {k : Int} (k0 : 0 ≤ k) (k1 : k < n) : (p_stepW w h gr n kd f / 2 ^ k.toNat % 2 = 0 ∧ stays f (p_stepF w h gr n kd f) k) ∨ (p_stepW w h gr n kd f / 2 ^ k.toNat % 2 = 1 ∧ went w h gr f (p_stepF w h gr n kd f) k) := by
  have h4 := (stepL_st hC ho).2.2.2.1 k k0 k1
  unfold p_stepF p_stepW stays went
  rw [stepE_5 (by omega), stepE_5 (by omega)]
  exact h4
theorem step_0 (hC : okC w h N n gr kd) (ho : okF N n b f) : p_stepF w h gr n kd f 0 = f 0 + 1 := by
  unfold p_stepF
  rw [stepE_0, (stepL_st hC ho).2.1 0 (by decide)]
theorem step_still (hC : okC w h N n gr kd) (ho : okF N n b f) (hw : p_stepW w h gr n kd f = 0) : p_stepF w h gr n kd f = p_set f 0 (f 0 + 1) := by
  have h6 := (stepL_st hC ho).2.2.2.2.2
  unfold p_stepW at hw
  rw [hw] at h6
  rcases h6 with ⟨-, h7, h8⟩ | ⟨h7, -⟩
  · unfold p_stepF p_stepE
    rw [if_pos h7, h8]
  · omega
/-! what a step does rests on the step's number by its parity alone -/
theorem who_set0 {v c but : Int} : p_who n (p_set f 0 v) c but = p_who n f c but := by
  unfold p_who
  refine first_cg _ _ (fun j h1 h2 => ?_)
  rw [set0_hi (by omega)]
theorem next_set0 {v k aim : Int} {gate : Bool} (k0 : 0 ≤ k) : p_next w h gr n kd (p_set f 0 v) k aim gate = p_next w h gr n kd f k aim gate := by
  unfold p_next p_two p_try p_can
  simp only [who_set0, set0_hi (show 1 ≤ 5 + k by omega)]
theorem goTo_set0 {v k c : Int} (k0 : 0 ≤ k) : p_goTo gr (p_set f 0 v) k c = p_set (p_goTo gr f k c) 0 v := by
  unfold p_goTo
  rw [set0_hi (show 1 ≤ 9 + k by omega)]
  funext i
  unfold p_set
  by_cases z : i = 0
  · subst z
    rw [if_neg (by omega), if_neg (by omega), if_pos rfl, if_pos rfl]
  · rw [if_neg z, if_neg z]
theorem aim_set0 {v k : Int} : p_aim kd (p_set f 0 v) k = p_aim kd f k := by
  unfold p_aim
  rw [set0_hi (by decide), set0_hi (by decide)]
theorem stepB_set0 {f0 : Fl} {v k : Int} (k0 : 0 ≤ k) (hv : v % 2 = f0 0 % 2) (s : Ss) : p_stepB w h gr n kd (p_set f0 0 v) k (p_set s.1 0 v, s.2) = (p_set (p_stepB w h gr n kd f0 k s).1 0 v, (p_stepB w h gr n kd f0 k s).2) := by
  unfold p_stepB
  simp only [next_set0 k0, goTo_set0 k0, aim_set0, set0_hi (show (1 : Int) ≤ 1 by decide), set0_hi (show 1 ≤ 5 + k by omega), set0_0, hv]
  by_cases z1 : k = f0 1 ∨ s.1 (5 + k) = -9 ∨ (f0 0 % 2 = 1 ∧ p_slow kd k = true)
  · rw [if_pos z1, if_pos z1]
  rw [if_neg z1, if_neg z1]
  by_cases z2 : p_next w h gr n kd s.1 k (p_aim kd f0 k) s.2.2.2.2 = -9
  · rw [if_pos z2, if_pos z2]
  · rw [if_neg z2, if_neg z2]
theorem stepL_set0 {f0 : Fl} {v : Int} (hv : v % 2 = f0 0 % 2) : ∀ (m : Nat) (k : Int) (s : Ss), 0 ≤ k → p_loop (p_stepB w h gr n kd (p_set f0 0 v)) m k (p_set s.1 0 v, s.2) = (p_set (p_loop (p_stepB w h gr n kd f0) m k s).1 0 v, (p_loop (p_stepB w h gr n kd f0) m k s).2)
  | 0, k, s, _ => rfl
  | m + 1, k, s, h => by
    rw [p_loopS, p_loopS, stepB_set0 h hv s]
    exact stepL_set0 hv m (k + 1) _ (by omega)
theorem stepW_set0 {v : Int} (hv : v % 2 = f 0 % 2) : p_stepW w h gr n kd (p_set f 0 v) = p_stepW w h gr n kd f := by
  unfold p_stepW p_stepL
  rw [stepL_set0 (f0 := f) hv n.toNat 0 (f, 0, -9, -9, false) (Int.le_refl 0)]
theorem set0_set0 {u v : Int} : p_set (p_set f 0 u) 0 v = p_set f 0 v := by
  funext i
  unfold p_set
  by_cases z : i = 0
  · rw [if_pos z, if_pos z]
  · rw [if_neg z, if_neg z, if_neg z]
/-! many steps -/
theorem its_S (m : Nat) : p_its w h gr n kd (m + 1) f = p_stepF w h gr n kd (p_its w h gr n kd m f) := rfl
theorem its_in : ∀ m : Nat, p_its w h gr n kd m (p_stepF w h gr n kd f) = p_stepF w h gr n kd (p_its w h gr n kd m f)
  | 0 => rfl
  | m + 1 => by rw [its_S, its_in m, its_S]
theorem its_add (a : Nat) : ∀ m : Nat, p_its w h gr n kd m (p_its w h gr n kd a f) = p_its w h gr n kd (a + m) f
  | 0 => rfl
  | m + 1 => by rw [its_S, its_add a m]; rfl
theorem goes_its : ∀ (m : Nat) (s : Int) (f : Fl), (p_goes w h gr n kd m s f).2 = p_its w h gr n kd m f
  | 0, s, f => rfl
  | m + 1, s, f => by
    show (p_goes w h gr n kd m _ (p_stepF w h gr n kd f)).2 = _
    rw [goes_its m, its_in, its_S]
theorem its_0 (hC : okC w h N n gr kd) (ho : okF N n b f) : ∀ m : Nat, p_its w h gr n kd m f 0 = f 0 + m
  | 0 => by show f 0 = f 0 + 0; omega
  | m + 1 => by rw [its_S, step_0 hC (its_ok hC ho m), its_0 hC ho m]; omega
/-- a run is its steps -/
theorem run_inv {f0 : Fl} : ∀ (m q t : Nat) (sp : Int), q ≤ 2 → q ≤ t → (∀ i, i < q → p_stepW w h gr n kd (p_its w h gr n kd (t - 1 - i) f0) = 0) → ∃ t' q' : Nat, p_run w h gr n kd m q sp (p_its w h gr n kd t f0) = (p_its w h gr n kd t' f0, (q' : Int), sp + t' - t) ∧ t ≤ t' ∧ t' ≤ t + m ∧ q' ≤ 2 ∧ q' ≤ t' ∧ (∀ i, i < q' → p_stepW w h gr n kd (p_its w h gr n kd (t' - 1 - i) f0) = 0) ∧ (q' < 2 → t' = t + m)
  | 0, q, t, sp, h1, h2, h3 => ⟨t, q, by
      show (_, _, _) = (_, _, _)
      rw [show sp + (t : Int) - t = sp by omega], Nat.le_refl t, Nat.le_refl t, h1, h2, h3, fun _ => rfl⟩
  | m + 1, q, t, sp, h1, h2, h3 => by
    have e : p_run w h gr n kd (m + 1) q sp (p_its w h gr n kd t f0) = if (q : Int) < 2 then p_run w h gr n kd m (if p_stepW w h gr n kd (p_its w h gr n kd t f0) = 0 then (q : Int) + 1 else 0) (sp + 1) (p_its w h gr n kd (t + 1) f0) else (p_its w h gr n kd t f0, (q : Int), sp) := rfl
    rw [e]
    by_cases z : (q : Int) < 2
    · rw [if_pos z]
      by_cases y : p_stepW w h gr n kd (p_its w h gr n kd t f0) = 0
      · rw [if_pos y]
        obtain ⟨t', q', r1, r2, r3, r4, r5, r6, r7⟩ := run_inv m (q + 1) (t + 1) (sp + 1) (by omega) (by omega) (fun i hi => by
          by_cases x : i = 0
          · subst x
            exact y
          · have := h3 (i - 1) (by omega)
            rw [show t + 1 - 1 - i = t - 1 - (i - 1) by omega]
            exact this)
        refine ⟨t', q', ?_, by omega, by omega, r4, r5, r6, fun x => by have := r7 x; omega⟩
        rw [show (q : Int) + 1 = ((q + 1 : Nat) : Int) by omega, r1, show sp + 1 + (t' : Int) - ((t + 1 : Nat) : Int) = sp + t' - t by omega]
      · rw [if_neg y]
        obtain ⟨t', q', r1, r2, r3, r4, r5, r6, r7⟩ := run_inv m 0 (t + 1) (sp + 1) (by omega) (by omega) (fun i hi => absurd hi (by omega))
        refine ⟨t', q', ?_, by omega, by omega, r4, r5, r6, fun x => by have := r7 x; omega⟩
        rw [show (0 : Int) = ((0 : Nat) : Int) by omega, r1, show sp + 1 + (t' : Int) - ((t + 1 : Nat) : Int) = sp + t' - t by omega]
    · rw [if_neg z]
      exact ⟨t, q, by rw [show sp + (t : Int) - t = sp by omega], Nat.le_refl t, by omega, h1, h2, h3, fun x => absurd x (by omega)⟩
theorem runs_its : ∃ t q : Nat, p_runs w h gr n kd f = (p_its w h gr n kd t f, (q : Int), (t : Int)) ∧ 2 ≤ t ∧ t ≤ 40 ∧ q ≤ 2 ∧ (q = 2 → p_stepW w h gr n kd (p_its w h gr n kd (t - 1) f) = 0 ∧ p_stepW w h gr n kd (p_its w h gr n kd (t - 2) f) = 0) ∧ (q < 2 → t = 40) := by
  obtain ⟨t', q', r1, r2, r3, r4, r5, r6, r7⟩ := run_inv (w := w) (h := h) (gr := gr) (n := n) (kd := kd) (f0 := f) 40 0 0 0 (by omega) (by omega) (fun i hi => absurd hi (by omega))
  refine ⟨t', q', ?_, ?_, by omega, r4, fun x => ?_, fun x => by have := r7 x; omega⟩
  · show p_run w h gr n kd 40 0 0 f = _
    have r1' : p_run w h gr n kd 40 0 0 f = (p_its w h gr n kd t' f, (q' : Int), 0 + (t' : Int) - ((0 : Nat) : Int)) := r1
    rw [r1', show (0 : Int) + (t' : Int) - ((0 : Nat) : Int) = t' by omega]
  · rcases Nat.lt_or_ge q' 2 with z | z
    · have := r7 z; omega
    · omega
  · subst x
    exact ⟨r6 0 (by omega), r6 1 (by omega)⟩
/-- who stand stay -/
theorem stand_stays (hC : okC w h N n gr kd) (ho : okF N n b f) {t : Nat} (ht : 2 ≤ t) (h1 : p_stepW w h gr n kd (p_its w h gr n kd (t - 1) f) = 0) (h2 : p_stepW w h gr n kd (p_its w h gr n kd (t - 2) f) = 0) (s : Int) : (p_goes w h gr n kd 2 s (p_its w h gr n kd t f)).1 = 0 ∧ (p_goes w h gr n kd 2 s (p_its w h gr n kd t f)).2 1 = p_its w h gr n kd t f 1 := by
  obtain ⟨u, rfl⟩ : ∃ u, t = u + 2 := ⟨t - 2, by omega⟩
  rw [show u + 2 - 1 = u + 1 by omega] at h1
  rw [show u + 2 - 2 = u by omega] at h2
  have o0 := its_ok hC ho u
  have o1 := its_ok hC ho (u + 1)
  have o2 := its_ok hC ho (u + 2)
  have o3 := its_ok hC ho (u + 3)
  have e1 := step_still hC o0 h2
  have e2 := step_still hC o1 h1
  rw [its_S, e1] at h1 e2
  have E2 : p_its w h gr n kd (u + 2) f = p_set (p_its w h gr n kd u f) 0 (p_its w h gr n kd u f 0 + 2) := by
    show p_stepF w h gr n kd (p_stepF w h gr n kd (p_its w h gr n kd u f)) = _
    rw [e1, e2, set0_set0, set0_0, Int.add_assoc]
    rfl
  have w2 : p_stepW w h gr n kd (p_its w h gr n kd (u + 2) f) = 0 := by
    rw [E2, stepW_set0 (by omega)]
    exact h2
  have e3 := step_still hC o2 w2
  have E3 : p_its w h gr n kd (u + 3) f = p_set (p_its w h gr n kd u f) 0 (p_its w h gr n kd u f 0 + 3) := by
    show p_stepF w h gr n kd (p_its w h gr n kd (u + 2) f) = _
    rw [e3, E2, set0_set0, set0_0, Int.add_assoc]
    rfl
  have w3 : p_stepW w h gr n kd (p_its w h gr n kd (u + 3) f) = 0 := by
    rw [E3, ← set0_set0 (f := p_its w h gr n kd u f) (u := p_its w h gr n kd u f 0 + 1) (v := p_its w h gr n kd u f 0 + 3), stepW_set0 (by rw [set0_0]; omega)]
    exact h1
  have e4 := step_still hC o3 w3
  refine ⟨w3, ?_⟩
  show p_stepF w h gr n kd (p_its w h gr n kd (u + 3) f) 1 = _
  rw [e4, set0_hi (by decide), E3, E2, set0_hi (by decide), set0_hi (by decide)]
end STEP6
