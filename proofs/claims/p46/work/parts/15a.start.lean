/-! ===== the start: classes, tables, the script ===== -/
def st_tb : Nat → List Int32 := fun k => match k with
  | 0 => [46, 35, 126, 111, 61]
  | 1 => [98, 115, 108, 99, 109, 116]
  | 2 => [0, 1, 0, -1]
  | _ => [-1, 0, 1, 0]
def st_rx (xs : Nat → Int32) : Nat → Nat → Int32 := fun k => if k = 4 then xs else fun j => (st_tb k).getD j 0
def st_rn (L : Nat) : Nat → Nat := fun k => if k = 4 then L % 1000 else [5, 6, 4, 4].getD k 0
def st_I (xs : Nat → Int32) : Nat → Nat → Int32 := fun r => if r < 1000000 then fun _ => 0 else st_rx xs (r - 1000000)
theorem st_I0 {xs : Nat → Int32} : ∀ r, r < 1000000 → st_I xs r = fun _ => 0 := fun r h => if_pos h
theorem st_It {xs : Nat → Int32} (k : Nat) : st_I xs (j_b + k) = st_rx xs k := by
  unfold st_I
  rw [if_neg (show ¬ j_b + k < 1000000 by show ¬ 1000000 + k < 1000000; omega), show j_b + k - 1000000 = k from by show 1000000 + k - 1000000 = k; omega]
theorem st_rx_ne {xs : Nat → Int32} {k : Nat} (h : k ≠ 4) : st_rx xs k = fun j => (st_tb k).getD j 0 := if_neg h
theorem st_iT {xs : Nat → Int32} : iT (st_I xs) := by
  unfold iT
  rw [st_It 2, st_It 3, st_rx_ne (by decide), st_rx_ne (by decide)]
  refine ⟨fun y y1 y2 => ?_, fun y y1 y2 => ?_⟩
  · have h : y = 0 ∨ y = 1 ∨ y = 2 ∨ y = 3 := by omega
    rcases h with rfl | rfl | rfl | rfl <;> decide
  · have h : y = 0 ∨ y = 1 ∨ y = 2 ∨ y = 3 := by omega
    rcases h with rfl | rfl | rfl | rfl <;> decide
theorem st_xS {xs : Nat → Int32} : xS (st_I xs) := by
  have e0 : st_I xs j_b = st_rx xs 0 := st_It 0
  unfold xS
  rw [e0, st_It 1, st_rx_ne (by decide), st_rx_ne (by decide)]
  refine ⟨⟨?_, ?_, ?_, ?_, ?_⟩, ?_, ?_, ?_, ?_, ?_, ?_⟩ <;> decide
theorem st_Wf {L : Nat} {xs : Nat → Int32} : m_Wf (st_rn L) (st_rx xs) (CT L 0 0 (fun _ _ => none) (st_I xs) (fun _ _ => 0)) := by
  refine ⟨fun r h => ?_, Nat.zero_le _, fun k hk => ⟨?_, st_It k⟩, fun r k q h => absurd h (Nat.not_lt_zero r)⟩
  · have h : SHk L 0 r ≠ none := h
    refine Or.inr ?_
    by_cases z : r = 1000004
    · exact ⟨4, by decide, z⟩
    · by_cases z1 : 1000000 ≤ r ∧ r < 1000004
      · exact ⟨r - 1000000, by omega, by show r = 1000000 + (r - 1000000); omega⟩
      · exact absurd (show SHk L 0 r = none from by unfold SHk; rw [if_neg z, if_neg z1, if_neg (Nat.not_lt_zero r)]) h
  · show SHk L 0 (1000000 + k) = _
    have h : k = 0 ∨ k = 1 ∨ k = 2 ∨ k = 3 ∨ k = 4 := by omega
    rcases h with rfl | rfl | rfl | rfl | rfl <;> rfl
/-- the classes, the arrays' classes -/
theorem st_K {s : State} {as : Array Value} (hts : ∀ w ∈ lw_tbl, w.before as s = true) : ∃ (dC : Nat → ClassId) (dI : Nat → Nat → Nat) (cA : FieldType → ClassId), va_K (dC, dI) j_cls (m_tys cA) s := by
  have hw : ∀ w ∈ j_ws, w.before as s = true := fun w h => hts w (List.mem_filter.mp h).1
  have h : ∀ k, ∃ (c : ClassId) (iS : Nat → Nat), k < 8 → u_Kn s (j_CN k) (j_T k) (j_nf k) c iS := by
    intro k
    by_cases hk : k < 8
    · obtain ⟨c, iS, z⟩ := u_known (C := j_CN k) (T := j_T k) (N := j_nf k) (n := j_nf k) hw (j_us hk) (hw _ (j_cat_ok hk).1)
      exact ⟨c, iS, fun _ => z⟩
    · exact ⟨0, fun _ => 0, fun z => absurd z hk⟩
  obtain ⟨c0, k0, p0, a1, a2, a3⟩ := Cond.arrayClass_spec (hw _ j_ca_int)
  obtain ⟨c3, k3, p3, e1, e2, e3⟩ := Cond.arrayClass_spec (hw _ j_ca_long)
  obtain ⟨p4, c4, k4, f0, -, f2, f3, f4⟩ := Cond.arrayOver_spec (hts _ j_ao_obj)
  obtain ⟨p5, c5, k5, -, -, g2, g3, g4⟩ := arrayOverA_spec (hts _ j_ao_arr)
  refine ⟨fun k => (h k).choose, fun k => (h k).choose_spec.choose, fun ty => match ty with
    | .int => c0
    | .long => c3
    | .object _ => c4
    | _ => c5, fun k q hq => ?_, fun k q hq => ?_⟩
  · have hk : k < 8 := by
      have := (List.getElem?_eq_some_iff.mp hq).1
      exact this
    rw [j_cls_get hk] at hq
    cases hq
    exact (h k).choose_spec.choose_spec hk
  · match k, hq with
    | 0, hq => cases hq; exact ⟨fun N z => ⟨(fun _ h => by cases h), k0, a2, p0, a3⟩, a1⟩
    | 1, hq => cases hq; exact ⟨fun N z => ⟨(fun _ h => by cases h), k0, a2, p0, a3⟩, a1⟩
    | 2, hq => cases hq; exact ⟨fun N z => ⟨(fun _ h => by cases h), k0, a2, p0, a3⟩, a1⟩
    | 3, hq => cases hq; exact ⟨fun N z => ⟨(fun _ h => by cases h), k3, e2, p3, e3⟩, e1⟩
    | 4, hq => cases hq; exact ⟨fun N z => ⟨(fun _ h => by cases h), k4, f2, p4, f3⟩, k4, p4, f2, f3, f0, f4⟩
    | 5, hq => cases hq; exact ⟨fun N z => ⟨(fun _ h => by cases h), k5, g2, p5, g3⟩, g4⟩
    | k + 6, hq => cases hq
theorem st_X {s : State} {as : Array Value} (hts : ∀ w ∈ lw_tbl, w.before as s = true) : m_X s := fun w hw hn => by
  have h1 := hts w hw
  cases w <;> first | exact va_tabs rfl rfl h1 | exact h1 | cases hn
abbrev st_A (s : State) : Nat → Prop := fun q => s.heap.size ≤ q
/-- a table of ints -/
theorem st_T {s : State} {as : Array Value} {C n : String} {N : Nat} {f : Nat → Int32} (hgv : ∀ c ∈ flatC (Jvm.Cond.and given_1 narrow_1), c.before as s = true) (hts : ∀ w ∈ lw_tbl, w.before as s = true) (hN : N < 2 ^ 31) (ha : Jvm.Cond.arrayOf (.static C n "[I") .int ∈ flatC (Jvm.Cond.and given_1 narrow_1)) (hl : Jvm.Cond.eq (.length (.static C n "[I")) (.int (Int32.ofNat N)) ∈ flatC (Jvm.Cond.and given_1 narrow_1)) (he : ∀ j, j < N → Jvm.Cond.eq (.elem (.static C n "[I") (.int (Int32.ofNat j))) (.int (f j)) ∈ flatC (Jvm.Cond.and given_1 narrow_1)) (hs : Jvm.Cond.laysStatic C n "[I" ∈ lw_tbl) (hi : Jvm.Cond.initialized C ∈ lw_tbl) : ∃ t, va_Z C n "[I" (.ref t) (st_A s) s s.heap ∧ va_T .int t N (fun j => .int (f j)) (st_A s) s s.heap := by
  have hA : ∀ a : Nat, a < s.heap.size → ¬ st_A s a := fun a h => Nat.not_le.mpr h
  obtain ⟨t, ht, hT⟩ := va_Tof (A := st_A s) (f := fun j => .int (f j)) hN (hgv _ ha) (va_eqt (hgv _ hl)) (fun j hj => va_eqt (hgv _ (he j hj))) hA
  exact ⟨t, va_Zof (hts _ hs) (hts _ hi) ht hA, hT⟩
theorem st_G {s : State} {b L : Nat} (hL : L < 1000) {xs : Nat → Int32} (hts : ∀ w ∈ lw_tbl, w.before #[Value.ref b] s = true) (hgv : (Jvm.Cond.and given_1 narrow_1).before #[Value.ref b] s = true) (hX : va_X b L xs s s.heap) (hbl : b < s.heap.size) : ∃ τ : Nat → Nat, τ 4 = b ∧ m_G τ (st_rn L) (st_rx xs) (st_A s) s s.heap := by
  have hf := flat_of_before _ hgv
  obtain ⟨t0, z0, y0⟩ := st_T (C := RX2) (n := "SIGNS") (N := 5) (f := fun j => (st_tb 0).getD j 0) hf hts (by decide) (by decide +kernel) (by decide +kernel) (by decide +kernel) (by decide +kernel) (by decide +kernel)
  obtain ⟨t1, z1, y1⟩ := st_T (C := RX2) (n := "LETTERS") (N := 6) (f := fun j => (st_tb 1).getD j 0) hf hts (by decide) (by decide +kernel) (by decide +kernel) (by decide +kernel) (by decide +kernel) (by decide +kernel)
  obtain ⟨t2, z2, y2⟩ := st_T (C := RX1) (n := "ACROSS") (N := 4) (f := fun j => (st_tb 2).getD j 0) hf hts (by decide) (by decide +kernel) (by decide +kernel) (by decide +kernel) (by decide +kernel) (by decide +kernel)
  obtain ⟨t3, z3, y3⟩ := st_T (C := RX1) (n := "DOWN") (N := 4) (f := fun j => (st_tb 3).getD j 0) hf hts (by decide) (by decide +kernel) (by decide +kernel) (by decide +kernel) (by decide +kernel) (by decide +kernel)
  refine ⟨fun k => match k with
    | 0 => t0
    | 1 => t1
    | 2 => t2
    | 3 => t3
    | _ => b, rfl, ⟨st_X hts, fun k hk => ?_⟩, fun k hk => ?_⟩
  · have h : k = 0 ∨ k = 1 ∨ k = 2 ∨ k = 3 := by omega
    rcases h with rfl | rfl | rfl | rfl
    · exact z0
    · exact z1
    · exact z2
    · exact z3
  · have h : k = 0 ∨ k = 1 ∨ k = 2 ∨ k = 3 ∨ k = 4 := by omega
    rcases h with rfl | rfl | rfl | rfl | rfl
    · exact y0
    · exact y1
    · exact y2
    · exact y3
    · have e4 : st_rn L 4 = L := Nat.mod_eq_of_lt hL
      rw [e4]
      obtain ⟨scr, h1, h2, h3, h4, h5⟩ := hX
      exact ⟨scr, h1, h2, h3, Nat.le_of_eq h4.symm, by rw [h4], h5, Nat.not_le.mpr hbl⟩
