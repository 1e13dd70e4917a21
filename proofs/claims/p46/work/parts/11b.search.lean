/-! ===== rings, drives, gathering, dusk and dawn ===== -/
theorem enc6_rg {N v : Int} (hN : N ≤ 30) (h : v = -9 ∨ (0 ≤ v ∧ v < N)) : 0 ≤ p_enc v ∧ p_enc v < 32 := by
  unfold p_enc
  split <;> omega
theorem enc6_inj {N v u : Int} (hN : N ≤ 30) (h : v = -9 ∨ (0 ≤ v ∧ v < N)) (h' : u = -9 ∨ (0 ≤ u ∧ u < N)) (e : p_enc v = p_enc u) : v = u := by
  unfold p_enc at e
  split at e <;> split at e <;> omega
theorem num_loop {N : Int} {f g : Fl} (hN : N ≤ 30) : ∀ (m : Nat) (k x y : Int), (∀ j, k ≤ j → j < k + m → (f (5 + j) = -9 ∨ (0 ≤ f (5 + j) ∧ f (5 + j) < N)) ∧ (g (5 + j) = -9 ∨ (0 ≤ g (5 + j) ∧ g (5 + j) < N))) → p_loop (fun k s => 32 * s + p_enc (f (5 + k))) m k x = p_loop (fun k s => 32 * s + p_enc (g (5 + k))) m k y → x = y ∧ ∀ j, k ≤ j → j < k + m → f (5 + j) = g (5 + j)
  | 0, k, x, y, _, e => ⟨e, fun j h1 h2 => absurd h2 (by omega)⟩
  | m + 1, k, x, y, h, e => by
    rw [p_loopS, p_loopS] at e
    obtain ⟨e1, e2⟩ := num_loop hN m (k + 1) _ _ (fun j h1 h2 => h j (by omega) (by omega)) e
    have hk := h k (Int.le_refl k) (by omega)
    have r1 := enc6_rg hN hk.1
    have r2 := enc6_rg hN hk.2
    refine ⟨by omega, fun j h1 h2 => ?_⟩
    by_cases z : j = k
    · subst z
      exact enc6_inj hN hk.1 hk.2 (by omega)
    · exact e2 j (by omega) (by omega)
section RING6
variable {w h N n b b' : Int} {gr kd f g : Fl}
theorem last_rg (hN : N ≤ 30) (h4 : n ≤ 4) (ho : okF N n b f) : (f 1 = -9 ∨ (0 ≤ f 1 ∧ f 1 < 30)) ∧ (f 2 = -9 ∨ (0 ≤ f 2 ∧ f 2 < 30)) ∧ (f 3 = -9 ∨ (0 ≤ f 3 ∧ f 3 < 30)) ∧ (f 4 = -9 ∨ (0 ≤ f 4 ∧ f 4 < 30)) := by
  obtain ⟨-, -, h1, h2, -⟩ := ho
  omega
theorem num_inj (hC : okC w h N n gr kd) (ho : okF N n b f) (ho' : okF N n b' g) (e : p_num n f = p_num n g) : (∀ k, 0 ≤ k → k < n → f (5 + k) = g (5 + k)) ∧ f 1 = g 1 ∧ f 2 = g 2 ∧ f 0 % 2 = g 0 % 2 := by
  have hN := (bd_N hC).2.1
  have n4 := hC.2.2.2.1
  have n0 := hC.2.2.1
  obtain ⟨a1, a2, a3, a4⟩ := last_rg hN n4 ho
  obtain ⟨c1, c2, c3, c4⟩ := last_rg hN n4 ho'
  have hh := Int.le_refl 30
  have r1 := enc6_rg hh a1
  have r2 := enc6_rg hh a2
  have r3 := enc6_rg hh a3
  have r4 := enc6_rg hh a4
  have q1 := enc6_rg hh c1
  have q2 := enc6_rg hh c2
  have q3 := enc6_rg hh c3
  have q4 := enc6_rg hh c4
  unfold p_num at e
  generalize hx : p_loop (fun k s => 32 * s + p_enc (f (5 + k))) n.toNat 0 (f 0 % 2) = X at e
  generalize hy : p_loop (fun k s => 32 * s + p_enc (g (5 + k))) n.toNat 0 (g 0 % 2) = Y at e
  have e1 : p_enc (f 1) = p_enc (g 1) := by omega
  have e2 : p_enc (f 2) = p_enc (g 2) := by omega
  have eX : X = Y := by omega
  rw [← hx, ← hy] at eX
  obtain ⟨u1, u2⟩ := num_loop hN n.toNat 0 _ _ (fun j h1 h2 => ⟨ho.1 j h1 (by omega), ho'.1 j h1 (by omega)⟩) eX
  exact ⟨fun k k0 k1 => u2 k k0 (by omega), enc6_inj hh a1 c1 e1, enc6_inj hh a2 c2 e2, u1⟩
theorem first_is {P : Int → Bool} : ∀ (m : Nat) (k : Int), p_first P m k ≠ -9 → k ≤ p_first P m k ∧ p_first P m k < k + m ∧ P (p_first P m k) = true
  | 0, k, e => absurd rfl e
  | m + 1, k, e => by
    rw [p_firstS] at e ⊢
    by_cases z : P k = true
    · rw [if_pos z]
      exact ⟨Int.le_refl k, by omega, z⟩
    · rw [if_neg z] at e ⊢
      have := first_is m (k + 1) e
      exact ⟨by omega, by omega, this.2.2⟩
end RING6
theorem ring_is {A : Ast} (hA : okA A) (h : p_ringN A ≠ -9) : 0 ≤ p_ringN A ∧ p_ringN A ≤ 200 ∧ 0 ≤ p_again A (p_ringN A) ∧ p_again A (p_ringN A) < p_ringN A ∧ (p_ringN A - p_again A (p_ringN A)) % 2 = 0 ∧ (∀ k, 0 ≤ k → k < a_gn A → p_fa A (p_again A (p_ringN A)) (5 + k) = p_fa A (p_ringN A) (5 + k)) ∧ p_fa A (p_again A (p_ringN A)) 1 = p_fa A (p_ringN A) 1 ∧ p_fa A (p_again A (p_ringN A)) 2 = p_fa A (p_ringN A) 2 := by
  have h1 := first_is (P := fun k => decide (p_again A k ≠ -9)) 201 0 h
  have h2 : p_again A (p_ringN A) ≠ -9 := of_decide_eq_true h1.2.2
  have h3 := first_is (P := fun m => decide (p_num (a_gn A) (p_fa A m) = p_num (a_gn A) (p_fa A (p_ringN A)))) (p_ringN A).toNat 0 h2
  have h4 := of_decide_eq_true h3.2.2
  have l1 : 0 ≤ p_ringN A := h1.1
  have l2 : p_ringN A < 0 + ((201 : Nat) : Int) := h1.2.1
  have l3 : 0 ≤ p_again A (p_ringN A) := h3.1
  have l4 : p_again A (p_ringN A) < 0 + ((p_ringN A).toNat : Int) := h3.2.1
  have h5 := num_inj hA.1 (its_ok hA.1 hA.2.1 _) (its_ok hA.1 hA.2.1 _) h4
  have e1 : p_fa A (p_again A (p_ringN A)) 0 = a_fl A 0 + ((p_again A (p_ringN A)).toNat : Int) := its_0 hA.1 hA.2.1 (p_again A (p_ringN A)).toNat
  have e2 : p_fa A (p_ringN A) 0 = a_fl A 0 + ((p_ringN A).toNat : Int) := its_0 hA.1 hA.2.1 (p_ringN A).toNat
  have h6 : p_fa A (p_again A (p_ringN A)) 0 % 2 = p_fa A (p_ringN A) 0 % 2 := h5.2.2.2
  refine ⟨l1, by omega, l3, by omega, ?_, h5.1, h5.2.1, h5.2.2.1⟩
  rw [e1, e2] at h6
  omega
/-! drives -/
/-- r drives in a row: whereto, and the row's number -/
def path (drv : Fl → Int → Option Fl) (m4 : Nat) : Nat → Fl → Int → Fl → Int → Prop
  | 0, f, code, f', c => f' = f ∧ c = code
  | r + 1, f, code, f', c => ∃ a f1, 0 ≤ a ∧ a < (m4 : Int) ∧ drv f a = some f1 ∧ path drv m4 r f1 (16 * code + a) f' c
theorem path_code {drv : Fl → Int → Option Fl} {m4 : Nat} (hm : m4 ≤ 16) : ∀ (r : Nat) (f : Fl) (code : Int) (f' : Fl) (c : Int), path drv m4 r f code f' c → ∃ x, 0 ≤ x ∧ x < 16 ^ r ∧ c = code * 16 ^ r + x
  | 0, f, code, f', c, hp => ⟨0, Int.le_refl 0, by decide, by rw [hp.2]; omega⟩
  | r + 1, f, code, f', c, hp => by
    obtain ⟨a, f1, a0, a1, -, h2⟩ := hp
    obtain ⟨x, x0, x1, e⟩ := path_code hm r f1 (16 * code + a) f' c h2
    have hp : (16 : Int) ^ (r + 1) = 16 * 16 ^ r := by rw [Int.pow_succ, Int.mul_comm]
    have h0 : (0 : Int) < 16 ^ r := Int.pow_pos (by decide)
    have h3 : a * 16 ^ r ≤ 15 * 16 ^ r := Int.mul_le_mul_of_nonneg_right (by omega) (by omega)
    have h4 : 0 ≤ a * 16 ^ r := Int.mul_nonneg a0 (by omega)
    refine ⟨a * 16 ^ r + x, by omega, by rw [hp]; omega, ?_⟩
    rw [e, hp, Int.add_mul, ← Int.add_assoc]
    congr 2
    rw [Int.mul_comm 16 code, Int.mul_assoc]
def hitI (drv : Fl → Int → Option Fl) (m4 : Nat) (want : Fl → Bool) (r : Nat) (f : Fl) (code : Int) (s0 s : Sc) : Prop :=
  (0 < s0.2.1 → 0 < s.2.1 ∧ s.2.2.1 = s0.2.2.1) ∧ (s0.2.1 = 0 → s.2.1 = 0 ∨ (0 < s.2.1 ∧ ∃ f', path drv m4 r f code f' s.2.2.1 ∧ want f' = true))
theorem lay_first {drv : Fl → Int → Option Fl} {m4 : Nat} {want : Fl → Bool} : ∀ (r : Nat) (f : Fl) (code fst : Int) (s : Sc), 0 ≤ s.2.1 → 0 ≤ (p_lay drv m4 want r f code fst s).2.1 ∧ hitI drv m4 want r f code s (p_lay drv m4 want r f code fst s)
  | 0, f, code, fst, s, hs => by
    show 0 ≤ (p_note want f code fst s).2.1 ∧ hitI drv m4 want 0 f code s (p_note want f code fst s)
    unfold p_note hitI
    by_cases z : want f = true
    · rw [if_pos z]
      refine ⟨show 0 ≤ s.2.1 + 1 by omega, fun x => ⟨show 0 < s.2.1 + 1 by omega, if_neg (by omega)⟩, fun x => Or.inr ⟨show 0 < s.2.1 + 1 by omega, f, ⟨rfl, if_pos x⟩, z⟩⟩
    · rw [if_neg z]
      exact ⟨hs, fun x => ⟨x, rfl⟩, fun x => Or.inl x⟩
  | r + 1, f, code, fst, s, hs => by
    have hl := loop_inv (b := fun a s => match drv f a with
      | none => s
      | some f' => p_lay drv m4 want r f' (16 * code + a) (if fst = -9 then a else fst) s) (P := fun j t => 0 ≤ t.2.1 ∧ hitI drv m4 want (r + 1) f code s t) m4 0 s ⟨hs, fun x => ⟨x, rfl⟩, fun x => Or.inl x⟩ (fun a t a0 a1 ht => by
        cases hd : drv f a with
        | none => exact ht
        | some f1 =>
          have ih := lay_first (drv := drv) (m4 := m4) (want := want) r f1 (16 * code + a) (if fst = -9 then a else fst) t ht.1
          refine ⟨ih.1, fun x => ?_, fun x => ?_⟩
          · have h1 := ht.2.1 x
            have h2 := ih.2.1 h1.1
            exact ⟨h2.1, h2.2.trans h1.2⟩
          · rcases ht.2.2 x with h1 | ⟨h1, h2⟩
            · rcases ih.2.2 h1 with h3 | ⟨h3, f', h4, h5⟩
              · exact Or.inl h3
              · exact Or.inr ⟨h3, f', ⟨a, f1, a0, by omega, hd, h4⟩, h5⟩
            · have h3 := ih.2.1 h1
              refine Or.inr ⟨h3.1, ?_⟩
              show ∃ f', path drv m4 (r + 1) f code f' (p_lay drv m4 want r f1 (16 * code + a) (if fst = -9 then a else fst) t).2.2.1 ∧ want f' = true
              rw [h3.2]
              exact h2)
    exact hl
theorem few_hit {drv : Fl → Int → Option Fl} {m4 : Nat} {want : Fl → Bool} {f : Fl} : ∀ (t r : Nat), (p_few drv m4 want f t r).1 ≠ -9 → ∃ q : Nat, r ≤ q ∧ q ≤ r + t ∧ (p_few drv m4 want f t r).1 = (q : Int) ∧ ∃ f', path drv m4 q f 0 f' (p_few drv m4 want f t r).2.2.2.1 ∧ want f' = true := by
  have hit : ∀ r, 0 < (p_all drv m4 want r f).2.1 → ∃ f', path drv m4 r f 0 f' (p_all drv m4 want r f).2.2.1 ∧ want f' = true := fun r hr => by
    have h1 := lay_first (drv := drv) (m4 := m4) (want := want) r f 0 (-9) (0, 0, 0, 0, 0) (Int.le_refl 0)
    rcases h1.2.2 rfl with h2 | ⟨-, h2⟩
    · unfold p_all at hr
      omega
    · exact h2
  intro t
  induction t with
  | zero =>
    intro r he
    unfold p_few at he ⊢
    by_cases z : 0 < (p_all drv m4 want r f).2.1
    · rw [if_pos z]
      exact ⟨r, Nat.le_refl r, by omega, rfl, hit r z⟩
    · rw [if_neg z] at he
      exact absurd rfl he
  | succ t ih =>
    intro r he
    unfold p_few at he ⊢
    by_cases z : 0 < (p_all drv m4 want r f).2.1
    · rw [if_pos z]
      exact ⟨r, Nat.le_refl r, by omega, rfl, hit r z⟩
    · rw [if_neg z] at he ⊢
      obtain ⟨q, q1, q2, q3⟩ := ih (r + 1) he
      exact ⟨q, by omega, by omega, q3⟩
/-- nothing to do: none of it is wanted -/
theorem few_0 {drv : Fl → Int → Option Fl} {m4 : Nat} {want : Fl → Bool} {f : Fl} (hw : want f = true) (t : Nat) : (p_few drv m4 want f t 0).1 = 0 := by
  have e : p_all drv m4 want 0 f = p_note want f 0 (-9) (0, 0, 0, 0, 0) := rfl
  have h : 0 < (p_all drv m4 want 0 f).2.1 := by
    rw [e]
    unfold p_note
    rw [if_pos hw]
    decide
  cases t with
  | zero => unfold p_few; rw [if_pos h]; rfl
  | succ t => unfold p_few; rw [if_pos h]; rfl
theorem or_bit_fin : ∀ b, b < 4 → ∀ s, s < 16 → (if s / 2 ^ b % 2 = 1 then s else s + 2 ^ b) / 2 ^ b % 2 = 1 := by decide +kernel
theorem or_bit_fin2 : ∀ b, b < 4 → ∀ i, i < 4 → ∀ s, s < 16 → s / 2 ^ i % 2 = 1 → (if s / 2 ^ b % 2 = 1 then s else s + 2 ^ b) / 2 ^ i % 2 = 1 := by decide +kernel
theorem bit_cast {s i : Nat} : ((s : Int) / 2 ^ i % 2 = 1) ↔ (s / 2 ^ i % 2 = 1) := by
  have e : (s : Int) / 2 ^ i % 2 = ((s / 2 ^ i % 2 : Nat) : Int) := by simp
  rw [e]
  omega
theorem or_bit {s b : Int} (s0 : 0 ≤ s) (s1 : s < 16) (b0 : 0 ≤ b) (b1 : b < 4) : p_or s b / 2 ^ b.toNat % 2 = 1 := by
  obtain ⟨m, rfl⟩ : ∃ m : Nat, s = m := ⟨s.toNat, by omega⟩
  obtain ⟨j, rfl⟩ : ∃ j : Nat, b = j := ⟨b.toNat, by omega⟩
  rw [p_or_nat, Int.toNat_natCast, bit_cast]
  exact or_bit_fin j (by omega) m (by omega)
theorem or_bit2 {s b i : Int} (s0 : 0 ≤ s) (s1 : s < 16) (b0 : 0 ≤ b) (b1 : b < 4) (i0 : 0 ≤ i) (i1 : i < 4) (hs : s / 2 ^ i.toNat % 2 = 1) : p_or s b / 2 ^ i.toNat % 2 = 1 := by
  obtain ⟨m, rfl⟩ : ∃ m : Nat, s = m := ⟨s.toNat, by omega⟩
  obtain ⟨j, rfl⟩ : ∃ j : Nat, b = j := ⟨b.toNat, by omega⟩
  obtain ⟨q, rfl⟩ : ∃ q : Nat, i = q := ⟨i.toNat, by omega⟩
  rw [Int.toNat_natCast, bit_cast] at hs
  rw [p_or_nat, Int.toNat_natCast, bit_cast]
  exact or_bit_fin2 j (by omega) q (by omega) m (by omega) hs
/-- a single drive that leads to what is wanted is seen -/
def seen (c : Int) (s : Sc) : Prop := 0 < s.2.1 ∧ s.2.2.2.1 / 2 ^ (c / 4).toNat % 2 = 1 ∧ s.2.2.2.2 / 2 ^ (c % 4).toNat % 2 = 1
theorem note_seen {want : Fl → Bool} {f : Fl} {a c B : Int} {s : Sc} (a0 : 0 ≤ a) (a1 : a < 16) (c0 : 0 ≤ c) (c1 : c < 16) (hs : okS B s) (h : seen c s) : seen c (p_note want f a a s) := by
  obtain ⟨h1, h2, h3⟩ := h
  obtain ⟨-, -, -, o1, o2, o3, o4⟩ := hs
  unfold p_note
  by_cases z : want f = true
  · rw [if_pos z, if_neg (show ¬ a = -9 by omega), if_neg (show ¬ a = -9 by omega)]
    exact ⟨show 0 < s.2.1 + 1 by omega, or_bit2 o1 o2 (by omega) (by omega) (by omega) (by omega) h2, or_bit2 o3 o4 (by omega) (by omega) (by omega) (by omega) h3⟩
  · rw [if_neg z]
    exact ⟨h1, h2, h3⟩
theorem note_see {want : Fl → Bool} {f : Fl} {a B : Int} {s : Sc} (a0 : 0 ≤ a) (a1 : a < 16) (hs : okS B s) (z : want f = true) : seen a (p_note want f a a s) := by
  obtain ⟨h0, -, -, o1, o2, o3, o4⟩ := hs
  unfold p_note
  rw [if_pos z, if_neg (show ¬ a = -9 by omega), if_neg (show ¬ a = -9 by omega)]
  exact ⟨show 0 < s.2.1 + 1 by omega, or_bit o1 o2 (by omega) (by omega), or_bit o3 o4 (by omega) (by omega)⟩
theorem all_1 {drv : Fl → Int → Option Fl} {m4 : Nat} {want : Fl → Bool} {f f' : Fl} {c : Int} (hm : m4 ≤ 16) (c0 : 0 ≤ c) (c1 : c < m4) (hd : drv f c = some f') (hw : want f' = true) : okS m4 (p_all drv m4 want 1 f) ∧ seen c (p_all drv m4 want 1 f) := by
  have hl := loop_inv (b := fun a s => match drv f a with
      | none => s
      | some f' => p_lay drv m4 want 0 f' (16 * 0 + a) (if (-9 : Int) = -9 then a else -9) s) (P := fun j t => okS j t ∧ (c < j → seen c t)) m4 0 (0, 0, 0, 0, 0) ⟨⟨Int.le_refl 0, Int.le_refl 0, Int.le_refl 0, Int.le_refl 0, by decide, Int.le_refl 0, by decide⟩, fun x => absurd x (by omega)⟩ (fun a t a0 a1 ht => by
        cases hd' : drv f a with
        | none =>
          refine ⟨okS_le (by omega) ht.1, fun x => ?_⟩
          by_cases z : c = a
          · subst z
            rw [hd] at hd'
            cases hd'
          · exact ht.2 (by omega)
        | some f1 =>
          show okS (a + 1) (p_note want f1 (16 * 0 + a) (if (-9 : Int) = -9 then a else -9) t) ∧ (c < a + 1 → seen c (p_note want f1 (16 * 0 + a) (if (-9 : Int) = -9 then a else -9) t))
          rw [if_pos rfl, show 16 * 0 + a = a by omega]
          refine ⟨note_ok (Or.inr ⟨a0, by omega⟩) ht.1, fun x => ?_⟩
          by_cases z : c = a
          · subst z
            rw [hd] at hd'
            cases hd'
            exact note_see c0 (by omega) ht.1 hw
          · exact note_seen a0 (by omega) c0 (by omega) ht.1 (ht.2 (by omega)))
  rw [show (0 : Int) + (m4 : Int) = m4 by omega] at hl
  exact ⟨hl.1, hl.2 c1⟩
/-- one drive leads there: found at once or by one, and that one is told -/
theorem few_1 {drv : Fl → Int → Option Fl} {m4 : Nat} {want : Fl → Bool} {f f' : Fl} {c : Int} (hm : m4 ≤ 16) (c0 : 0 ≤ c) (c1 : c < m4) (hd : drv f c = some f') (hw : want f' = true) : (p_few drv m4 want f 2 0).1 = 0 ∨ ((p_few drv m4 want f 2 0).1 = 1 ∧ okS m4 (p_few drv m4 want f 2 0).2 ∧ seen c (p_few drv m4 want f 2 0).2) := by
  have h1 := all_1 hm c0 c1 hd hw
  have h2 : 0 < (p_all drv m4 want (0 + 1) f).2.1 := h1.2.1
  unfold p_few
  by_cases z : 0 < (p_all drv m4 want 0 f).2.1
  · rw [if_pos z]
    exact Or.inl rfl
  · rw [if_neg z]
    unfold p_few
    rw [if_pos h2]
    exact Or.inr ⟨rfl, h1⟩
/-! gathering -/
theorem gat_is {A : Ast} (h : (p_gatS A).1 ≠ -9) : 0 ≤ (p_gatS A).1 ∧ (p_gatS A).1 < 4 * a_gn A ∧ ∃ f', p_drive (a_gw A) (a_gh A) (a_gr A) (a_gn A) (a_kd A) (a_fl A) (p_gatS A).1 = some f' ∧ p_lost (a_gn A) f' ≤ p_lost (a_gn A) (a_fl A) ∧ (p_gatS A).2 = p_apart (a_gw A) (a_gn A) f' := by
  have hl := loop_inv (b := p_gatB (a_gw A) (a_gh A) (a_gr A) (a_gn A) (a_kd A) (a_fl A) (p_lost (a_gn A) (a_fl A))) (P := fun j s => s.1 ≠ -9 → 0 ≤ s.1 ∧ s.1 < j ∧ ∃ f', p_drive (a_gw A) (a_gh A) (a_gr A) (a_gn A) (a_kd A) (a_fl A) s.1 = some f' ∧ p_lost (a_gn A) f' ≤ p_lost (a_gn A) (a_fl A) ∧ s.2 = p_apart (a_gw A) (a_gn A) f') (4 * a_gn A).toNat 0 (-9, 0) (fun x => absurd rfl x) (fun c s c0 c1 ih => by
    have ih' : s.1 ≠ -9 → 0 ≤ s.1 ∧ s.1 < c + 1 ∧ ∃ f', p_drive (a_gw A) (a_gh A) (a_gr A) (a_gn A) (a_kd A) (a_fl A) s.1 = some f' ∧ p_lost (a_gn A) f' ≤ p_lost (a_gn A) (a_fl A) ∧ s.2 = p_apart (a_gw A) (a_gn A) f' := fun x => ⟨(ih x).1, by have := (ih x).2.1; omega, (ih x).2.2⟩
    unfold p_gatB
    cases hd : p_drive (a_gw A) (a_gh A) (a_gr A) (a_gn A) (a_kd A) (a_fl A) c with
    | none => exact ih'
    | some f' =>
      dsimp only
      by_cases z : p_lost (a_gn A) (a_fl A) < p_lost (a_gn A) f'
      · rw [if_pos z]
        exact ih'
      · rw [if_neg z]
        by_cases y : s.1 = -9 ∨ p_apart (a_gw A) (a_gn A) f' < s.2
        · rw [if_pos y]
          exact fun _ => ⟨c0, show c < c + 1 by omega, f', hd, by omega, rfl⟩
        · rw [if_neg y]
          exact ih')
  have hh := hl h
  exact ⟨hh.1, by have := hh.2.1; have e : p_loop (p_gatB (a_gw A) (a_gh A) (a_gr A) (a_gn A) (a_kd A) (a_fl A) (p_lost (a_gn A) (a_fl A))) (4 * a_gn A).toNat 0 (-9, 0) = p_gatS A := rfl; rw [e] at this; have h3 := hh.1; rw [e] at h3; omega, hh.2.2⟩
/-! lost ones, cells alike -/
theorem lost_cg {n : Int} {f g : Fl} (h : ∀ k, 0 ≤ k → k < n → f (5 + k) = g (5 + k)) : p_lost n f = p_lost n g := by
  unfold p_lost
  exact loop_cg _ _ _ (fun j s h1 h2 => by rw [h j h1 (by omega)])
theorem at_self {n : Int} {row : Int → Int32} {f : Fl} (h : ∀ k, 0 ≤ k → k < n → j_k (f (5 + k)) = row k) : p_at n row f = true := by
  unfold p_at
  refine decide_eq_true ((first_none n.toNat 0 (Int.le_refl 0)).mpr (fun j h1 h2 => ?_))
  rw [h j h1 (by omega)]
  simp
