/-! ===== rows of drives, in their order ===== -/
abbrev Sc : Type := Int × Int × Int × Int × Int
def p_or (s b : Int) : Int := if s / 2 ^ b.toNat % 2 = 1 then s else s + 2 ^ b.toNat
def p_note (want : Fl → Bool) (f : Fl) (code fst : Int) (s : Sc) : Sc :=
  if want f = true then (s.1 + 1, s.2.1 + 1, if s.2.1 = 0 then code else s.2.2.1, if fst = -9 then s.2.2.2.1 else p_or s.2.2.2.1 (fst / 4), if fst = -9 then s.2.2.2.2 else p_or s.2.2.2.2 (fst % 4))
  else (s.1 + 1, s.2)
def p_lay (drv : Fl → Int → Option Fl) (m4 : Nat) (want : Fl → Bool) : Nat → Fl → Int → Int → Sc → Sc
  | 0, f, code, fst, s => p_note want f code fst s
  | r + 1, f, code, fst, s => p_loop (fun a s => match drv f a with
    | none => s
    | some f' => p_lay drv m4 want r f' (16 * code + a) (if fst = -9 then a else fst) s) m4 0 s
/-- all rows of r drives -/
def p_all (drv : Fl → Int → Option Fl) (m4 : Nat) (want : Fl → Bool) (r : Nat) (f : Fl) : Sc := p_lay drv m4 want r f 0 (-9) (0, 0, 0, 0, 0)
/-- the fewest, from r on, t more at most: how many (-9), and what was seen -/
def p_few (drv : Fl → Int → Option Fl) (m4 : Nat) (want : Fl → Bool) (f : Fl) : Nat → Nat → Int × Sc
  | 0, r => if 0 < (p_all drv m4 want r f).2.1 then ((r : Int), p_all drv m4 want r f) else (-9, p_all drv m4 want r f)
  | t + 1, r => if 0 < (p_all drv m4 want r f).2.1 then ((r : Int), p_all drv m4 want r f) else p_few drv m4 want f t (r + 1)
def okS (B : Int) (s : Sc) : Prop := 0 ≤ s.2.1 ∧ s.2.1 ≤ s.1 ∧ s.1 ≤ B ∧ 0 ≤ s.2.2.2.1 ∧ s.2.2.2.1 < 16 ∧ 0 ≤ s.2.2.2.2 ∧ s.2.2.2.2 < 16
theorem bt_nat {n i : Nat} (hi : i < 32) : bt (j_k n) i = n.testBit i := by
  rw [← nI_k]
  show (BitVec.ofNat 32 n).getLsbD i = _
  rw [BitVec.getLsbD_ofNat]
  simp [hi]
theorem k_shr {a s : Int} (h1 : 0 ≤ a) (h2 : a < 2147483648) (h3 : 0 ≤ s) (h4 : s < 32) : j_k a >>> (j_k s &&& 31) = j_k (a / 2 ^ s.toNat) := by
  obtain ⟨n, rfl⟩ : ∃ n : Nat, a = n := ⟨a.toNat, by omega⟩
  obtain ⟨t, rfl⟩ : ∃ t : Nat, s = t := ⟨s.toNat, by omega⟩
  rw [Int.toNat_natCast]
  have e : ((n : Int) / 2 ^ t) = ((n / 2 ^ t : Nat) : Int) := by
    rw [Int.natCast_ediv, Int.natCast_pow]
    rfl
  rw [e]
  refine b_ext fun i hi => ?_
  rw [← nI_k t, b_sshr t (by omega) _ hi, bt_nat hi, Nat.testBit_div_two_pow]
  split
  · rw [bt_nat (by omega), Nat.add_comm]
  · have : n < 2 ^ 31 := by omega
    rw [bt_nat (by omega), Nat.testBit_lt_two_pow this, Nat.testBit_lt_two_pow (Nat.lt_of_lt_of_le this (Nat.pow_le_pow_right (by decide) (by omega)))]
theorem k_app {c a : Int} (h1 : 0 ≤ c) (h2 : c < 1000000) (h3 : 0 ≤ a) (h4 : a < 16) : (j_k c <<< (j_k 4 &&& 31)) ||| j_k a = j_k (16 * c + a) := by
  obtain ⟨n, rfl⟩ : ∃ n : Nat, c = n := ⟨c.toNat, by omega⟩
  obtain ⟨m, rfl⟩ : ∃ m : Nat, a = m := ⟨a.toNat, by omega⟩
  have e : (16 * (n : Int) + m) = ((2 ^ 4 * n + m : Nat) : Int) := by omega
  rw [e]
  refine b_ext fun i hi => ?_
  rw [b_or, show j_k 4 = nI 4 from rfl, b_shl 4 (by decide) _ hi, bt_nat hi, bt_nat hi, Nat.testBit_two_pow_mul_add _ (show m < 2 ^ 4 by omega)]
  by_cases z : i < 4
  · simp [z, show ¬ 4 ≤ i by omega]
  · have : m.testBit i = false := Nat.testBit_lt_two_pow (Nat.lt_of_lt_of_le (show m < 2 ^ 4 by omega) (Nat.pow_le_pow_right (by decide) (by omega)))
    rw [bt_nat (by omega)]
    simp [z, this, show 4 ≤ i by omega]
theorem or_fin2 : ∀ b, b < 4 → ∀ s, s < 16 → nI s ||| (nI 1 <<< (nI b &&& 31)) = nI (if s / 2 ^ b % 2 = 1 then s else s + 2 ^ b) := by decide +kernel
theorem or_rg2 : ∀ b, b < 4 → ∀ s, s < 16 → (if s / 2 ^ b % 2 = 1 then s else s + 2 ^ b) < 16 := by decide +kernel
theorem p_or_nat {s b : Nat} : p_or s b = ((if s / 2 ^ b % 2 = 1 then s else s + 2 ^ b : Nat) : Int) := by
  unfold p_or
  rw [Int.toNat_natCast]
  have e : ((s : Int) / 2 ^ b % 2) = ((s / 2 ^ b % 2 : Nat) : Int) := by
    rw [Int.natCast_emod, Int.natCast_ediv, Int.natCast_pow]
    rfl
  have e2 : ((2 : Int) ^ b) = ((2 ^ b : Nat) : Int) := by
    rw [Int.natCast_pow]
    rfl
  rw [e, e2]
  by_cases z : s / 2 ^ b % 2 = 1
  · rw [if_pos (by omega), if_pos z]
  · rw [if_neg (by omega), if_neg z]
    omega
theorem k_or {s b : Int} (h1 : 0 ≤ s) (h2 : s < 16) (h3 : 0 ≤ b) (h4 : b < 4) : j_k s ||| (j_k 1 <<< (j_k b &&& 31)) = j_k (p_or s b) := by
  obtain ⟨n, rfl⟩ : ∃ n : Nat, s = n := ⟨s.toNat, by omega⟩
  obtain ⟨m, rfl⟩ : ∃ m : Nat, b = m := ⟨b.toNat, by omega⟩
  have := or_fin2 m (by omega) n (by omega)
  rw [nI_k, nI_k, nI_k, nI_k, ← p_or_nat] at this
  exact this
theorem or_rg {s b : Int} (h1 : 0 ≤ s) (h2 : s < 16) (h3 : 0 ≤ b) (h4 : b < 4) : 0 ≤ p_or s b ∧ p_or s b < 16 := by
  obtain ⟨n, rfl⟩ : ∃ n : Nat, s = n := ⟨s.toNat, by omega⟩
  obtain ⟨m, rfl⟩ : ∃ m : Nat, b = m := ⟨b.toNat, by omega⟩
  have := or_rg2 m (by omega) n (by omega)
  rw [p_or_nat]
  omega
theorem note_ok {want : Fl → Bool} {f : Fl} {code fst B : Int} {s : Sc} (hf : fst = -9 ∨ (0 ≤ fst ∧ fst < 16)) (hs : okS B s) : okS (B + 1) (p_note want f code fst s) := by
  obtain ⟨a1, a2, a3, a4, a5, a6, a7⟩ := hs
  unfold p_note
  split
  · refine ⟨?_, ?_, ?_, ?_, ?_, ?_, ?_⟩ <;> dsimp only
    · omega
    · omega
    · omega
    · split
      · exact a4
      · exact (or_rg a4 a5 (by omega) (by omega)).1
    · split
      · exact a5
      · exact (or_rg a4 a5 (by omega) (by omega)).2
    · split
      · exact a6
      · exact (or_rg a6 a7 (by omega) (by omega)).1
    · split
      · exact a7
      · exact (or_rg a6 a7 (by omega) (by omega)).2
  · exact ⟨a1, by show s.2.1 ≤ s.1 + 1; omega, by show s.1 + 1 ≤ B + 1; omega, a4, a5, a6, a7⟩
theorem okS_le {B B' : Int} {s : Sc} (h : B ≤ B') (hs : okS B s) : okS B' s := ⟨hs.1, hs.2.1, Int.le_trans hs.2.2.1 h, hs.2.2.2⟩
theorem lay_ok {drv : Fl → Int → Option Fl} {m4 : Nat} {want : Fl → Bool} (hm : m4 ≤ 16) : ∀ (r : Nat) (f : Fl) (code fst B : Int) (s : Sc), (fst = -9 ∨ (0 ≤ fst ∧ fst < 16)) → okS B s → okS (B + 16 ^ r) (p_lay drv m4 want r f code fst s)
  | 0, f, code, fst, B, s, hf, hs => note_ok hf hs
  | r + 1, f, code, fst, B, s, hf, hs => by
    have key : ∀ (m : Nat) (a : Int) (B : Int) (s : Sc), 0 ≤ a → a + m = m4 → okS B s → okS (B + m * 16 ^ r) (p_loop (fun a s => match drv f a with
        | none => s
        | some f' => p_lay drv m4 want r f' (16 * code + a) (if fst = -9 then a else fst) s) m a s) := by
      intro m
      induction m with
      | zero =>
        intro a B s a1 a2 hs
        rw [show ((0 : Nat) : Int) * 16 ^ r = 0 by omega, Int.add_zero]
        exact hs
      | succ m ih =>
        intro a B s a1 a2 hs
        have hp : 0 < (16 : Int) ^ r := Int.pow_pos (by decide)
        rw [p_loopS, show B + ((m + 1 : Nat) : Int) * 16 ^ r = (B + 16 ^ r) + m * 16 ^ r by rw [Int.natCast_add, Int.add_mul]; omega]
        refine ih (a + 1) _ _ (by omega) (by omega) ?_
        cases drv f a with
        | none => exact okS_le (by omega) hs
        | some f' => exact lay_ok hm r f' _ _ B s (by split <;> omega) hs
    have hp : 0 < (16 : Int) ^ r := Int.pow_pos (by decide)
    refine okS_le ?_ (key m4 0 B s (Int.le_refl 0) (by omega) hs)
    rw [Int.pow_succ]
    have := Int.mul_le_mul_of_nonneg_right (show (m4 : Int) ≤ 16 by omega) (show 0 ≤ (16 : Int) ^ r by omega)
    omega
