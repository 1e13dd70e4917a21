/-! ===== the skeleton of the store behind the constructors (by program wip/gen/skel.py) ===== -/
def SHL : List j_Sh := [.inl 6, .inl 4, .inr (.array .int, 6), .inr (.int, 60), .inr (.int, 60), .inr (.int, 60), .inr (.int, 60), .inr (.int, 60), .inr (.int, 60), .inr (.int, 6), .inl 4, .inr (.array .int, 4), .inr (.int, 80), .inr (.int, 80), .inr (.int, 80), .inr (.int, 80), .inr (.int, 4), .inl 2, .inl 1, .inr (.int, 30), .inr (.int, 30), .inr (.int, 30), .inl 0, .inr (.int, 4), .inr (.int, 4), .inr (.int, 4), .inr (.int, 0), .inl 1, .inr (.int, 30), .inr (.int, 30), .inr (.int, 30), .inl 0, .inr (.int, 4), .inr (.int, 4), .inr (.int, 4), .inr (.object RX0, 3), .inl 0, .inr (.int, 4), .inr (.int, 4), .inr (.int, 4), .inl 0, .inr (.int, 4), .inr (.int, 4), .inr (.int, 4), .inl 0, .inr (.int, 4), .inr (.int, 4), .inr (.int, 4), .inl 0, .inr (.int, 4), .inr (.int, 4), .inr (.int, 4), .inr (.long, 201), .inl 3, .inr (.object RX0, 4), .inl 0, .inr (.int, 4), .inr (.int, 4), .inr (.int, 4), .inl 0, .inr (.int, 4), .inr (.int, 4), .inr (.int, 4), .inl 0, .inr (.int, 4), .inr (.int, 4), .inr (.int, 4), .inl 0, .inr (.int, 4), .inr (.int, 4), .inr (.int, 4), .inr (.int, 4), .inl 5, .inr (.object RX0, 3), .inl 0, .inr (.int, 4), .inr (.int, 4), .inr (.int, 4), .inl 0, .inr (.int, 4), .inr (.int, 4), .inr (.int, 4), .inl 0, .inr (.int, 4), .inr (.int, 4), .inr (.int, 4), .inr (.int, 6), .inr (.int, 64)]
/-- L: the script's length, and (by thousands) how many of the law's two last rows are made -/
def SH (L r : Nat) : Option j_Sh := if r = 1000004 then some (.inr (.int, L % 1000)) else if 1000000 ≤ r ∧ r < 1000004 then some (.inr (.int, [5, 6, 4, 4].getD (r - 1000000) 0)) else if r < 88 then SHL[r]? else if r < 88 + L / 1000 then some (.inr (.int, 4)) else none
/-- the pointers; p: which text the reader reads -/
def PPL (p : Nat) : Nat → List (Option Nat) := fun r => match r with
  | 0 => [some 1, some 10, some 17, some 27, some 31, some 35, some 48, some 52, some 53, some 72, some 86]
  | 1 => [some 2, some 9]
  | 2 => [some 3, some 4, some 5, some 6, some 7, some 8]
  | 10 => [some 11, some 16]
  | 11 => [some 12, some 13, some 14, some 15]
  | 17 => [some 18, some 22, some p]
  | 18 => [some 19, some 20, some 21]
  | 22 => [some 23, some 24, some 25]
  | 27 => [some 28, some 29, some 30]
  | 31 => [some 32, some 33, some 34]
  | 35 => [some 36, some 40, some 44]
  | 36 => [some 37, some 38, some 39]
  | 40 => [some 41, some 42, some 43]
  | 44 => [some 45, some 46, some 47]
  | 48 => [some 49, some 50, some 51]
  | 53 => [some 54, some 71]
  | 54 => [some 55, some 59, some 63, some 67]
  | 55 => [some 56, some 57, some 58]
  | 59 => [some 60, some 61, some 62]
  | 63 => [some 64, some 65, some 66]
  | 67 => [some 68, some 69, some 70]
  | 72 => [some 73]
  | 73 => [some 74, some 78, some 82]
  | 74 => [some 75, some 76, some 77]
  | 78 => [some 79, some 80, some 81]
  | 82 => [some 83, some 84, some 85]
  | _ => []
def PP (p r k : Nat) : Option Nat := ((PPL p r)[k]?).getD none
def FL : List Nat := [22, 31, 36, 40, 44, 48, 55, 59, 63, 67, 74, 78, 82]
/-- a flock's cell, a ground's -/
def FA (a : Nat) : Prop := a ∈ FL
def GA (g : Nat) : Prop := g = 18 ∨ g = 27
abbrev ST (L p : Nat) (I : Nat → Nat → Int32) (J : Nat → Nat → Int64) : Sto := (SH L, PP p, I, J, 88 + L / 1000, 1501 + 4 * (L / 1000))
theorem fa_all {L p a : Nat} (h : FA a) : (SH L a = some (.inl 0) ∧ SH L (a + 1) = some (.inr (.int, 4)) ∧ SH L (a + 2) = some (.inr (.int, 4)) ∧ SH L (a + 3) = some (.inr (.int, 4))) ∧ (PP p a 0 = some (a + 1) ∧ PP p a 1 = some (a + 2) ∧ PP p a 2 = some (a + 3)) ∧ 22 ≤ a ∧ a + 3 < 86 := by
  have h1 : a ∈ FL := h
  simp only [FL, List.mem_cons, List.not_mem_nil, or_false] at h1
  rcases h1 with rfl | rfl | rfl | rfl | rfl | rfl | rfl | rfl | rfl | rfl | rfl | rfl | rfl <;> exact ⟨⟨rfl, rfl, rfl, rfl⟩, ⟨rfl, rfl, rfl⟩, by omega, by omega⟩
theorem ga_all {L p g : Nat} (h : GA g) : (SH L g = some (.inl 1) ∧ SH L (g + 1) = some (.inr (.int, 30)) ∧ SH L (g + 2) = some (.inr (.int, 30)) ∧ SH L (g + 3) = some (.inr (.int, 30))) ∧ (PP p g 0 = some (g + 1) ∧ PP p g 1 = some (g + 2) ∧ PP p g 2 = some (g + 3)) ∧ 18 ≤ g ∧ g + 3 < 31 := by
  rcases h with rfl | rfl <;> exact ⟨⟨rfl, rfl, rfl, rfl⟩, ⟨rfl, rfl, rfl⟩, by omega, by omega⟩
section SKEL
variable {L p : Nat} {I : Nat → Nat → Int32} {J : Nat → Nat → Int64} {K : Option Rr} {Kn : Nat → Option Rr} {Ki : Int32 → Option Rr} {Ks : Sto → Option Rr} {a g : Nat} {i : Int}
theorem k_in {n : Nat} {i : Int} (h1 : 0 ≤ i) (h2 : i < n) (h3 : n ≤ 1000) : j_in (j_k i) n := by
  refine ⟨?_, ?_⟩
  · rw [k_lt0 (by omega) (by omega)]; omega
  · rw [k_nat (by omega) (by omega)]; omega
theorem q_ia {σ : Sto} {r n : Nat} (e : σ.1 r = some (.inr (.int, n))) (h3 : n ≤ 1000) (h1 : 0 ≤ i) (h2 : i < n) : j_ia σ r (j_k i) K = K := by
  unfold j_ia
  rw [e]
  exact if_pos (k_in h1 h2 h3)
theorem q_is {σ : Sto} {r n : Nat} (e : σ.1 r = some (.inr (.int, n))) (hr : r < 1000000) (h3 : n ≤ 1000) (h1 : 0 ≤ i) (h2 : i < n) : j_is σ r (j_k i) K = K := by
  unfold j_is
  rw [e]
  exact if_pos ⟨hr, k_in h1 h2 h3⟩
theorem q_la {σ : Sto} {r n : Nat} (e : σ.1 r = some (.inr (.long, n))) (h3 : n ≤ 1000) (h1 : 0 ≤ i) (h2 : i < n) : j_la σ r (j_k i) K = K := by
  unfold j_la
  rw [e]
  exact if_pos (k_in h1 h2 h3)
theorem q_ba {σ : Sto} {r n : Nat} (e : σ.1 r = some (.inr (.byte, n))) (h3 : n ≤ 1000) (h1 : 0 ≤ i) (h2 : i < n) : j_ba σ r (j_k i) K = K := by
  unfold j_ba
  rw [e]
  exact if_pos (k_in h1 h2 h3)
theorem q_za {σ : Sto} {r n : Nat} (e : σ.1 r = some (.inr (.boolean, n))) (h3 : n ≤ 1000) (h1 : 0 ≤ i) (h2 : i < n) : j_ba σ r (j_k i) K = K := by
  unfold j_ba
  rw [e]
  exact if_pos (k_in h1 h2 h3)
theorem q_bs {σ : Sto} {r n : Nat} {v : Int32} (e : σ.1 r = some (.inr (.byte, n))) (hr : r < 1000000) (h3 : n ≤ 1000) (h1 : 0 ≤ i) (h2 : i < n) : j_bs σ r (j_k i) v Ks = Ks (s_uI σ r (j_k i).toNatClampNeg v.toInt8.toInt32) := by
  unfold j_bs
  rw [e]
  exact if_pos ⟨hr, k_in h1 h2 h3⟩
theorem q_zs {σ : Sto} {r n : Nat} {v : Int32} (e : σ.1 r = some (.inr (.boolean, n))) (hr : r < 1000000) (h3 : n ≤ 1000) (h1 : 0 ≤ i) (h2 : i < n) (hv : v = 0 ∨ v = 1) : j_bs σ r (j_k i) v Ks = Ks (s_uI σ r (j_k i).toNatClampNeg v) := by
  unfold j_bs
  rw [e]
  exact if_pos ⟨hr, k_in h1 h2 h3, hv⟩
theorem q_oc {σ : Sto} {r c : Nat} (e : σ.1 r = some (.inl c)) : j_oc σ c r K = K := if_pos e
theorem q_gP {σ : Sto} {r c k q : Nat} (e : σ.1 r = some (.inl c)) (e2 : σ.2.1 r k = some q) : j_gP σ c r k Kn = Kn q := by
  unfold j_gP
  rw [if_pos e, e2]
theorem q_lenI {σ : Sto} {r n : Nat} (e : σ.1 r = some (.inr (.int, n))) : j_len σ r Ki = Ki (j_k n) := by
  unfold j_len
  rw [e]
  show Ki _ = _
  rw [show Int32.ofNat n = j_k n from (Int32.ofInt_eq_ofNat).symm]
theorem q_lenQ {σ : Sto} {r n : Nat} (e : σ.1 r = some (.inr (.object RX0, n))) : j_len σ r Ki = Ki (j_k n) := by
  unfold j_len
  rw [e]
  show (if RX0 = RX0 then Ki _ else none) = _
  rw [if_pos rfl, show Int32.ofNat n = j_k n from (Int32.ofInt_eq_ofNat).symm]
theorem q_qaQ {σ : Sto} {r n q : Nat} (e : σ.1 r = some (.inr (.object RX0, n))) (h3 : n ≤ 1000) (h1 : 0 ≤ i) (h2 : i < n) (hq : σ.2.1 r i.toNat = some q) : j_qa σ r (j_k i) Kn = Kn q := by
  unfold j_qa
  rw [e]
  show (if RX0 = RX0 ∧ j_in (j_k i) n then _ else none) = _
  rw [if_pos ⟨rfl, k_in h1 h2 h3⟩, k_nat (by omega) (by omega), hq]
theorem q_qaI {σ : Sto} {r n q : Nat} (e : σ.1 r = some (.inr (.array .int, n))) (h3 : n ≤ 1000) (h1 : 0 ≤ i) (h2 : i < n) (hq : σ.2.1 r i.toNat = some q) : j_qa σ r (j_k i) Kn = Kn q := by
  unfold j_qa
  rw [e]
  show (if j_in (j_k i) n then _ else none) = _
  rw [if_pos (k_in h1 h2 h3), k_nat (by omega) (by omega), hq]
theorem f_oc (h : FA a) : j_oc (ST L p I J) 0 a K = K := q_oc (fa_all (p := p) h).1.1
theorem f_gP0 (h : FA a) : j_gP (ST L p I J) 0 a 0 Kn = Kn (a + 1) := q_gP (fa_all (p := p) h).1.1 (fa_all (L := L) h).2.1.1
theorem f_ia0 (h : FA a) (h1 : 0 ≤ i) (h2 : i < 4) : j_ia (ST L p I J) (a + 1) (j_k i) K = K := q_ia (fa_all (p := p) h).1.2.1 (by decide) h1 h2
theorem f_is0 (h : FA a) (h1 : 0 ≤ i) (h2 : i < 4) : j_is (ST L p I J) (a + 1) (j_k i) K = K := q_is (fa_all (p := p) h).1.2.1 (by have := (fa_all (L := L) (p := p) h).2.2; omega) (by decide) h1 h2
theorem f_gP1 (h : FA a) : j_gP (ST L p I J) 0 a 1 Kn = Kn (a + 2) := q_gP (fa_all (p := p) h).1.1 (fa_all (L := L) h).2.1.2.1
theorem f_ia1 (h : FA a) (h1 : 0 ≤ i) (h2 : i < 4) : j_ia (ST L p I J) (a + 2) (j_k i) K = K := q_ia (fa_all (p := p) h).1.2.2.1 (by decide) h1 h2
theorem f_is1 (h : FA a) (h1 : 0 ≤ i) (h2 : i < 4) : j_is (ST L p I J) (a + 2) (j_k i) K = K := q_is (fa_all (p := p) h).1.2.2.1 (by have := (fa_all (L := L) (p := p) h).2.2; omega) (by decide) h1 h2
theorem f_gP2 (h : FA a) : j_gP (ST L p I J) 0 a 2 Kn = Kn (a + 3) := q_gP (fa_all (p := p) h).1.1 (fa_all (L := L) h).2.1.2.2
theorem f_ia2 (h : FA a) (h1 : 0 ≤ i) (h2 : i < 4) : j_ia (ST L p I J) (a + 3) (j_k i) K = K := q_ia (fa_all (p := p) h).1.2.2.2 (by decide) h1 h2
theorem f_is2 (h : FA a) (h1 : 0 ≤ i) (h2 : i < 4) : j_is (ST L p I J) (a + 3) (j_k i) K = K := q_is (fa_all (p := p) h).1.2.2.2 (by have := (fa_all (L := L) (p := p) h).2.2; omega) (by decide) h1 h2
theorem f_lt (h : FA a) : (a < j_b) = True := eq_true (by have := (fa_all (L := 0) (p := 0) h).2.2; show a < 1000000; omega)
theorem g_oc (h : GA g) : j_oc (ST L p I J) 1 g K = K := q_oc (ga_all (p := p) h).1.1
theorem g_gP0 (h : GA g) : j_gP (ST L p I J) 1 g 0 Kn = Kn (g + 1) := q_gP (ga_all (p := p) h).1.1 (ga_all (L := L) h).2.1.1
theorem g_ia0 (h : GA g) (h1 : 0 ≤ i) (h2 : i < 30) : j_ia (ST L p I J) (g + 1) (j_k i) K = K := q_ia (ga_all (p := p) h).1.2.1 (by decide) h1 h2
theorem g_is0 (h : GA g) (h1 : 0 ≤ i) (h2 : i < 30) : j_is (ST L p I J) (g + 1) (j_k i) K = K := q_is (ga_all (p := p) h).1.2.1 (by have := (ga_all (L := L) (p := p) h).2.2; omega) (by decide) h1 h2
theorem g_gP1 (h : GA g) : j_gP (ST L p I J) 1 g 1 Kn = Kn (g + 2) := q_gP (ga_all (p := p) h).1.1 (ga_all (L := L) h).2.1.2.1
theorem g_ia1 (h : GA g) (h1 : 0 ≤ i) (h2 : i < 30) : j_ia (ST L p I J) (g + 2) (j_k i) K = K := q_ia (ga_all (p := p) h).1.2.2.1 (by decide) h1 h2
theorem g_is1 (h : GA g) (h1 : 0 ≤ i) (h2 : i < 30) : j_is (ST L p I J) (g + 2) (j_k i) K = K := q_is (ga_all (p := p) h).1.2.2.1 (by have := (ga_all (L := L) (p := p) h).2.2; omega) (by decide) h1 h2
theorem g_gP2 (h : GA g) : j_gP (ST L p I J) 1 g 2 Kn = Kn (g + 3) := q_gP (ga_all (p := p) h).1.1 (ga_all (L := L) h).2.1.2.2
theorem g_ia2 (h : GA g) (h1 : 0 ≤ i) (h2 : i < 30) : j_ia (ST L p I J) (g + 3) (j_k i) K = K := q_ia (ga_all (p := p) h).1.2.2.2 (by decide) h1 h2
theorem g_is2 (h : GA g) (h1 : 0 ≤ i) (h2 : i < 30) : j_is (ST L p I J) (g + 3) (j_k i) K = K := q_is (ga_all (p := p) h).1.2.2.2 (by have := (ga_all (L := L) (p := p) h).2.2; omega) (by decide) h1 h2
theorem g_lt (h : GA g) : (g < j_b) = True := eq_true (by have := (ga_all (L := 0) (p := 0) h).2.2; show g < 1000000; omega)
theorem c_ia_b0 (h1 : 0 ≤ i) (h2 : i < 5) : j_ia (ST L p I J) (j_b + 0) (j_k i) K = K := q_ia (n := 5) rfl (by decide) h1 h2
theorem c_len_b0 : j_len (ST L p I J) (j_b + 0) Ki = Ki (j_k 5) := q_lenI (n := 5) rfl
theorem c_ia_b1 (h1 : 0 ≤ i) (h2 : i < 6) : j_ia (ST L p I J) (j_b + 1) (j_k i) K = K := q_ia (n := 6) rfl (by decide) h1 h2
theorem c_len_b1 : j_len (ST L p I J) (j_b + 1) Ki = Ki (j_k 6) := q_lenI (n := 6) rfl
theorem c_ia_b2 (h1 : 0 ≤ i) (h2 : i < 4) : j_ia (ST L p I J) (j_b + 2) (j_k i) K = K := q_ia (n := 4) rfl (by decide) h1 h2
theorem c_len_b2 : j_len (ST L p I J) (j_b + 2) Ki = Ki (j_k 4) := q_lenI (n := 4) rfl
theorem c_ia_b3 (h1 : 0 ≤ i) (h2 : i < 4) : j_ia (ST L p I J) (j_b + 3) (j_k i) K = K := q_ia (n := 4) rfl (by decide) h1 h2
theorem c_len_b3 : j_len (ST L p I J) (j_b + 3) Ki = Ki (j_k 4) := q_lenI (n := 4) rfl
theorem c_oc_0 : j_oc (ST L p I J) 6 0 K = K := q_oc rfl
theorem c_lt_0 : (0 < j_b) = True := eq_true (by decide)
theorem c_gP_0_0 : j_gP (ST L p I J) 6 0 0 Kn = Kn 1 := q_gP rfl rfl
theorem c_gP_0_1 : j_gP (ST L p I J) 6 0 1 Kn = Kn 10 := q_gP rfl rfl
theorem c_gP_0_2 : j_gP (ST L p I J) 6 0 2 Kn = Kn 17 := q_gP rfl rfl
theorem c_gP_0_3 : j_gP (ST L p I J) 6 0 3 Kn = Kn 27 := q_gP rfl rfl
theorem c_gP_0_4 : j_gP (ST L p I J) 6 0 4 Kn = Kn 31 := q_gP rfl rfl
theorem c_gP_0_5 : j_gP (ST L p I J) 6 0 5 Kn = Kn 35 := q_gP rfl rfl
theorem c_gP_0_6 : j_gP (ST L p I J) 6 0 6 Kn = Kn 48 := q_gP rfl rfl
theorem c_gP_0_7 : j_gP (ST L p I J) 6 0 7 Kn = Kn 52 := q_gP rfl rfl
theorem c_gP_0_8 : j_gP (ST L p I J) 6 0 8 Kn = Kn 53 := q_gP rfl rfl
theorem c_gP_0_9 : j_gP (ST L p I J) 6 0 9 Kn = Kn 72 := q_gP rfl rfl
theorem c_gP_0_10 : j_gP (ST L p I J) 6 0 10 Kn = Kn 86 := q_gP rfl rfl
theorem c_oc_1 : j_oc (ST L p I J) 4 1 K = K := q_oc rfl
theorem c_lt_1 : (1 < j_b) = True := eq_true (by decide)
theorem c_gP_1_0 : j_gP (ST L p I J) 4 1 0 Kn = Kn 2 := q_gP rfl rfl
theorem c_gP_1_1 : j_gP (ST L p I J) 4 1 1 Kn = Kn 9 := q_gP rfl rfl
theorem c_qa_2 (h1 : 0 ≤ i) (h2 : i < 6) : j_qa (ST L p I J) 2 (j_k i) Kn = Kn (3 + 1 * i.toNat) := by
  rcases (show i = 0 ∨ i = 1 ∨ i = 2 ∨ i = 3 ∨ i = 4 ∨ i = 5 by omega) with rfl | rfl | rfl | rfl | rfl | rfl <;> exact q_qaI (n := 6) rfl (by decide) (by omega) (by omega) rfl
theorem c_ia_3 (h1 : 0 ≤ i) (h2 : i < 60) : j_ia (ST L p I J) 3 (j_k i) K = K := q_ia (n := 60) rfl (by decide) h1 h2
theorem c_is_3 (h1 : 0 ≤ i) (h2 : i < 60) : j_is (ST L p I J) 3 (j_k i) K = K := q_is (n := 60) rfl (by decide) (by decide) h1 h2
theorem c_len_3 : j_len (ST L p I J) 3 Ki = Ki (j_k 60) := q_lenI (n := 60) rfl
theorem c_ia_4 (h1 : 0 ≤ i) (h2 : i < 60) : j_ia (ST L p I J) 4 (j_k i) K = K := q_ia (n := 60) rfl (by decide) h1 h2
theorem c_is_4 (h1 : 0 ≤ i) (h2 : i < 60) : j_is (ST L p I J) 4 (j_k i) K = K := q_is (n := 60) rfl (by decide) (by decide) h1 h2
theorem c_len_4 : j_len (ST L p I J) 4 Ki = Ki (j_k 60) := q_lenI (n := 60) rfl
theorem c_ia_5 (h1 : 0 ≤ i) (h2 : i < 60) : j_ia (ST L p I J) 5 (j_k i) K = K := q_ia (n := 60) rfl (by decide) h1 h2
theorem c_is_5 (h1 : 0 ≤ i) (h2 : i < 60) : j_is (ST L p I J) 5 (j_k i) K = K := q_is (n := 60) rfl (by decide) (by decide) h1 h2
theorem c_len_5 : j_len (ST L p I J) 5 Ki = Ki (j_k 60) := q_lenI (n := 60) rfl
theorem c_ia_6 (h1 : 0 ≤ i) (h2 : i < 60) : j_ia (ST L p I J) 6 (j_k i) K = K := q_ia (n := 60) rfl (by decide) h1 h2
theorem c_is_6 (h1 : 0 ≤ i) (h2 : i < 60) : j_is (ST L p I J) 6 (j_k i) K = K := q_is (n := 60) rfl (by decide) (by decide) h1 h2
theorem c_len_6 : j_len (ST L p I J) 6 Ki = Ki (j_k 60) := q_lenI (n := 60) rfl
theorem c_ia_7 (h1 : 0 ≤ i) (h2 : i < 60) : j_ia (ST L p I J) 7 (j_k i) K = K := q_ia (n := 60) rfl (by decide) h1 h2
theorem c_is_7 (h1 : 0 ≤ i) (h2 : i < 60) : j_is (ST L p I J) 7 (j_k i) K = K := q_is (n := 60) rfl (by decide) (by decide) h1 h2
theorem c_len_7 : j_len (ST L p I J) 7 Ki = Ki (j_k 60) := q_lenI (n := 60) rfl
theorem c_ia_8 (h1 : 0 ≤ i) (h2 : i < 60) : j_ia (ST L p I J) 8 (j_k i) K = K := q_ia (n := 60) rfl (by decide) h1 h2
theorem c_is_8 (h1 : 0 ≤ i) (h2 : i < 60) : j_is (ST L p I J) 8 (j_k i) K = K := q_is (n := 60) rfl (by decide) (by decide) h1 h2
theorem c_len_8 : j_len (ST L p I J) 8 Ki = Ki (j_k 60) := q_lenI (n := 60) rfl
theorem c_ia_9 (h1 : 0 ≤ i) (h2 : i < 6) : j_ia (ST L p I J) 9 (j_k i) K = K := q_ia (n := 6) rfl (by decide) h1 h2
theorem c_is_9 (h1 : 0 ≤ i) (h2 : i < 6) : j_is (ST L p I J) 9 (j_k i) K = K := q_is (n := 6) rfl (by decide) (by decide) h1 h2
theorem c_len_9 : j_len (ST L p I J) 9 Ki = Ki (j_k 6) := q_lenI (n := 6) rfl
theorem c_oc_10 : j_oc (ST L p I J) 4 10 K = K := q_oc rfl
theorem c_lt_10 : (10 < j_b) = True := eq_true (by decide)
theorem c_gP_10_0 : j_gP (ST L p I J) 4 10 0 Kn = Kn 11 := q_gP rfl rfl
theorem c_gP_10_1 : j_gP (ST L p I J) 4 10 1 Kn = Kn 16 := q_gP rfl rfl
theorem c_qa_11 (h1 : 0 ≤ i) (h2 : i < 4) : j_qa (ST L p I J) 11 (j_k i) Kn = Kn (12 + 1 * i.toNat) := by
  rcases (show i = 0 ∨ i = 1 ∨ i = 2 ∨ i = 3 by omega) with rfl | rfl | rfl | rfl <;> exact q_qaI (n := 4) rfl (by decide) (by omega) (by omega) rfl
theorem c_ia_12 (h1 : 0 ≤ i) (h2 : i < 80) : j_ia (ST L p I J) 12 (j_k i) K = K := q_ia (n := 80) rfl (by decide) h1 h2
theorem c_is_12 (h1 : 0 ≤ i) (h2 : i < 80) : j_is (ST L p I J) 12 (j_k i) K = K := q_is (n := 80) rfl (by decide) (by decide) h1 h2
theorem c_len_12 : j_len (ST L p I J) 12 Ki = Ki (j_k 80) := q_lenI (n := 80) rfl
theorem c_ia_13 (h1 : 0 ≤ i) (h2 : i < 80) : j_ia (ST L p I J) 13 (j_k i) K = K := q_ia (n := 80) rfl (by decide) h1 h2
theorem c_is_13 (h1 : 0 ≤ i) (h2 : i < 80) : j_is (ST L p I J) 13 (j_k i) K = K := q_is (n := 80) rfl (by decide) (by decide) h1 h2
theorem c_len_13 : j_len (ST L p I J) 13 Ki = Ki (j_k 80) := q_lenI (n := 80) rfl
theorem c_ia_14 (h1 : 0 ≤ i) (h2 : i < 80) : j_ia (ST L p I J) 14 (j_k i) K = K := q_ia (n := 80) rfl (by decide) h1 h2
theorem c_is_14 (h1 : 0 ≤ i) (h2 : i < 80) : j_is (ST L p I J) 14 (j_k i) K = K := q_is (n := 80) rfl (by decide) (by decide) h1 h2
theorem c_len_14 : j_len (ST L p I J) 14 Ki = Ki (j_k 80) := q_lenI (n := 80) rfl
theorem c_ia_15 (h1 : 0 ≤ i) (h2 : i < 80) : j_ia (ST L p I J) 15 (j_k i) K = K := q_ia (n := 80) rfl (by decide) h1 h2
theorem c_is_15 (h1 : 0 ≤ i) (h2 : i < 80) : j_is (ST L p I J) 15 (j_k i) K = K := q_is (n := 80) rfl (by decide) (by decide) h1 h2
theorem c_len_15 : j_len (ST L p I J) 15 Ki = Ki (j_k 80) := q_lenI (n := 80) rfl
theorem c_ia_16 (h1 : 0 ≤ i) (h2 : i < 4) : j_ia (ST L p I J) 16 (j_k i) K = K := q_ia (n := 4) rfl (by decide) h1 h2
theorem c_is_16 (h1 : 0 ≤ i) (h2 : i < 4) : j_is (ST L p I J) 16 (j_k i) K = K := q_is (n := 4) rfl (by decide) (by decide) h1 h2
theorem c_len_16 : j_len (ST L p I J) 16 Ki = Ki (j_k 4) := q_lenI (n := 4) rfl
theorem c_oc_17 : j_oc (ST L p I J) 2 17 K = K := q_oc rfl
theorem c_lt_17 : (17 < j_b) = True := eq_true (by decide)
theorem c_gP_17_0 : j_gP (ST L p I J) 2 17 0 Kn = Kn 18 := q_gP rfl rfl
theorem c_gP_17_1 : j_gP (ST L p I J) 2 17 1 Kn = Kn 22 := q_gP rfl rfl
theorem c_oc_18 : j_oc (ST L p I J) 1 18 K = K := q_oc rfl
theorem c_lt_18 : (18 < j_b) = True := eq_true (by decide)
theorem c_gP_18_0 : j_gP (ST L p I J) 1 18 0 Kn = Kn 19 := q_gP rfl rfl
theorem c_gP_18_1 : j_gP (ST L p I J) 1 18 1 Kn = Kn 20 := q_gP rfl rfl
theorem c_gP_18_2 : j_gP (ST L p I J) 1 18 2 Kn = Kn 21 := q_gP rfl rfl
theorem c_ia_19 (h1 : 0 ≤ i) (h2 : i < 30) : j_ia (ST L p I J) 19 (j_k i) K = K := q_ia (n := 30) rfl (by decide) h1 h2
theorem c_is_19 (h1 : 0 ≤ i) (h2 : i < 30) : j_is (ST L p I J) 19 (j_k i) K = K := q_is (n := 30) rfl (by decide) (by decide) h1 h2
theorem c_len_19 : j_len (ST L p I J) 19 Ki = Ki (j_k 30) := q_lenI (n := 30) rfl
theorem c_ia_20 (h1 : 0 ≤ i) (h2 : i < 30) : j_ia (ST L p I J) 20 (j_k i) K = K := q_ia (n := 30) rfl (by decide) h1 h2
theorem c_is_20 (h1 : 0 ≤ i) (h2 : i < 30) : j_is (ST L p I J) 20 (j_k i) K = K := q_is (n := 30) rfl (by decide) (by decide) h1 h2
theorem c_len_20 : j_len (ST L p I J) 20 Ki = Ki (j_k 30) := q_lenI (n := 30) rfl
theorem c_ia_21 (h1 : 0 ≤ i) (h2 : i < 30) : j_ia (ST L p I J) 21 (j_k i) K = K := q_ia (n := 30) rfl (by decide) h1 h2
theorem c_is_21 (h1 : 0 ≤ i) (h2 : i < 30) : j_is (ST L p I J) 21 (j_k i) K = K := q_is (n := 30) rfl (by decide) (by decide) h1 h2
theorem c_len_21 : j_len (ST L p I J) 21 Ki = Ki (j_k 30) := q_lenI (n := 30) rfl
theorem c_oc_22 : j_oc (ST L p I J) 0 22 K = K := q_oc rfl
theorem c_lt_22 : (22 < j_b) = True := eq_true (by decide)
theorem c_gP_22_0 : j_gP (ST L p I J) 0 22 0 Kn = Kn 23 := q_gP rfl rfl
theorem c_gP_22_1 : j_gP (ST L p I J) 0 22 1 Kn = Kn 24 := q_gP rfl rfl
theorem c_gP_22_2 : j_gP (ST L p I J) 0 22 2 Kn = Kn 25 := q_gP rfl rfl
theorem c_ia_23 (h1 : 0 ≤ i) (h2 : i < 4) : j_ia (ST L p I J) 23 (j_k i) K = K := q_ia (n := 4) rfl (by decide) h1 h2
theorem c_is_23 (h1 : 0 ≤ i) (h2 : i < 4) : j_is (ST L p I J) 23 (j_k i) K = K := q_is (n := 4) rfl (by decide) (by decide) h1 h2
theorem c_len_23 : j_len (ST L p I J) 23 Ki = Ki (j_k 4) := q_lenI (n := 4) rfl
theorem c_ia_24 (h1 : 0 ≤ i) (h2 : i < 4) : j_ia (ST L p I J) 24 (j_k i) K = K := q_ia (n := 4) rfl (by decide) h1 h2
theorem c_is_24 (h1 : 0 ≤ i) (h2 : i < 4) : j_is (ST L p I J) 24 (j_k i) K = K := q_is (n := 4) rfl (by decide) (by decide) h1 h2
theorem c_len_24 : j_len (ST L p I J) 24 Ki = Ki (j_k 4) := q_lenI (n := 4) rfl
theorem c_ia_25 (h1 : 0 ≤ i) (h2 : i < 4) : j_ia (ST L p I J) 25 (j_k i) K = K := q_ia (n := 4) rfl (by decide) h1 h2
theorem c_is_25 (h1 : 0 ≤ i) (h2 : i < 4) : j_is (ST L p I J) 25 (j_k i) K = K := q_is (n := 4) rfl (by decide) (by decide) h1 h2
theorem c_len_25 : j_len (ST L p I J) 25 Ki = Ki (j_k 4) := q_lenI (n := 4) rfl
theorem c_ia_26 (h1 : 0 ≤ i) (h2 : i < 0) : j_ia (ST L p I J) 26 (j_k i) K = K := q_ia (n := 0) rfl (by decide) h1 h2
theorem c_is_26 (h1 : 0 ≤ i) (h2 : i < 0) : j_is (ST L p I J) 26 (j_k i) K = K := q_is (n := 0) rfl (by decide) (by decide) h1 h2
theorem c_len_26 : j_len (ST L p I J) 26 Ki = Ki (j_k 0) := q_lenI (n := 0) rfl
theorem c_oc_27 : j_oc (ST L p I J) 1 27 K = K := q_oc rfl
theorem c_lt_27 : (27 < j_b) = True := eq_true (by decide)
theorem c_gP_27_0 : j_gP (ST L p I J) 1 27 0 Kn = Kn 28 := q_gP rfl rfl
theorem c_gP_27_1 : j_gP (ST L p I J) 1 27 1 Kn = Kn 29 := q_gP rfl rfl
theorem c_gP_27_2 : j_gP (ST L p I J) 1 27 2 Kn = Kn 30 := q_gP rfl rfl
theorem c_ia_28 (h1 : 0 ≤ i) (h2 : i < 30) : j_ia (ST L p I J) 28 (j_k i) K = K := q_ia (n := 30) rfl (by decide) h1 h2
theorem c_is_28 (h1 : 0 ≤ i) (h2 : i < 30) : j_is (ST L p I J) 28 (j_k i) K = K := q_is (n := 30) rfl (by decide) (by decide) h1 h2
theorem c_len_28 : j_len (ST L p I J) 28 Ki = Ki (j_k 30) := q_lenI (n := 30) rfl
theorem c_ia_29 (h1 : 0 ≤ i) (h2 : i < 30) : j_ia (ST L p I J) 29 (j_k i) K = K := q_ia (n := 30) rfl (by decide) h1 h2
theorem c_is_29 (h1 : 0 ≤ i) (h2 : i < 30) : j_is (ST L p I J) 29 (j_k i) K = K := q_is (n := 30) rfl (by decide) (by decide) h1 h2
theorem c_len_29 : j_len (ST L p I J) 29 Ki = Ki (j_k 30) := q_lenI (n := 30) rfl
theorem c_ia_30 (h1 : 0 ≤ i) (h2 : i < 30) : j_ia (ST L p I J) 30 (j_k i) K = K := q_ia (n := 30) rfl (by decide) h1 h2
theorem c_is_30 (h1 : 0 ≤ i) (h2 : i < 30) : j_is (ST L p I J) 30 (j_k i) K = K := q_is (n := 30) rfl (by decide) (by decide) h1 h2
theorem c_len_30 : j_len (ST L p I J) 30 Ki = Ki (j_k 30) := q_lenI (n := 30) rfl
theorem c_oc_31 : j_oc (ST L p I J) 0 31 K = K := q_oc rfl
theorem c_lt_31 : (31 < j_b) = True := eq_true (by decide)
theorem c_gP_31_0 : j_gP (ST L p I J) 0 31 0 Kn = Kn 32 := q_gP rfl rfl
theorem c_gP_31_1 : j_gP (ST L p I J) 0 31 1 Kn = Kn 33 := q_gP rfl rfl
theorem c_gP_31_2 : j_gP (ST L p I J) 0 31 2 Kn = Kn 34 := q_gP rfl rfl
theorem c_ia_32 (h1 : 0 ≤ i) (h2 : i < 4) : j_ia (ST L p I J) 32 (j_k i) K = K := q_ia (n := 4) rfl (by decide) h1 h2
theorem c_is_32 (h1 : 0 ≤ i) (h2 : i < 4) : j_is (ST L p I J) 32 (j_k i) K = K := q_is (n := 4) rfl (by decide) (by decide) h1 h2
theorem c_len_32 : j_len (ST L p I J) 32 Ki = Ki (j_k 4) := q_lenI (n := 4) rfl
theorem c_ia_33 (h1 : 0 ≤ i) (h2 : i < 4) : j_ia (ST L p I J) 33 (j_k i) K = K := q_ia (n := 4) rfl (by decide) h1 h2
theorem c_is_33 (h1 : 0 ≤ i) (h2 : i < 4) : j_is (ST L p I J) 33 (j_k i) K = K := q_is (n := 4) rfl (by decide) (by decide) h1 h2
theorem c_len_33 : j_len (ST L p I J) 33 Ki = Ki (j_k 4) := q_lenI (n := 4) rfl
theorem c_ia_34 (h1 : 0 ≤ i) (h2 : i < 4) : j_ia (ST L p I J) 34 (j_k i) K = K := q_ia (n := 4) rfl (by decide) h1 h2
theorem c_is_34 (h1 : 0 ≤ i) (h2 : i < 4) : j_is (ST L p I J) 34 (j_k i) K = K := q_is (n := 4) rfl (by decide) (by decide) h1 h2
theorem c_len_34 : j_len (ST L p I J) 34 Ki = Ki (j_k 4) := q_lenI (n := 4) rfl
theorem c_len_35 : j_len (ST L p I J) 35 Ki = Ki (j_k 3) := q_lenQ (n := 3) rfl
theorem c_qa_35 (h1 : 0 ≤ i) (h2 : i < 3) : j_qa (ST L p I J) 35 (j_k i) Kn = Kn (36 + 4 * i.toNat) := by
  rcases (show i = 0 ∨ i = 1 ∨ i = 2 by omega) with rfl | rfl | rfl <;> exact q_qaQ (n := 3) rfl (by decide) (by omega) (by omega) rfl
theorem c_oc_36 : j_oc (ST L p I J) 0 36 K = K := q_oc rfl
theorem c_lt_36 : (36 < j_b) = True := eq_true (by decide)
theorem c_gP_36_0 : j_gP (ST L p I J) 0 36 0 Kn = Kn 37 := q_gP rfl rfl
theorem c_gP_36_1 : j_gP (ST L p I J) 0 36 1 Kn = Kn 38 := q_gP rfl rfl
theorem c_gP_36_2 : j_gP (ST L p I J) 0 36 2 Kn = Kn 39 := q_gP rfl rfl
theorem c_ia_37 (h1 : 0 ≤ i) (h2 : i < 4) : j_ia (ST L p I J) 37 (j_k i) K = K := q_ia (n := 4) rfl (by decide) h1 h2
theorem c_is_37 (h1 : 0 ≤ i) (h2 : i < 4) : j_is (ST L p I J) 37 (j_k i) K = K := q_is (n := 4) rfl (by decide) (by decide) h1 h2
theorem c_len_37 : j_len (ST L p I J) 37 Ki = Ki (j_k 4) := q_lenI (n := 4) rfl
theorem c_ia_38 (h1 : 0 ≤ i) (h2 : i < 4) : j_ia (ST L p I J) 38 (j_k i) K = K := q_ia (n := 4) rfl (by decide) h1 h2
theorem c_is_38 (h1 : 0 ≤ i) (h2 : i < 4) : j_is (ST L p I J) 38 (j_k i) K = K := q_is (n := 4) rfl (by decide) (by decide) h1 h2
theorem c_len_38 : j_len (ST L p I J) 38 Ki = Ki (j_k 4) := q_lenI (n := 4) rfl
theorem c_ia_39 (h1 : 0 ≤ i) (h2 : i < 4) : j_ia (ST L p I J) 39 (j_k i) K = K := q_ia (n := 4) rfl (by decide) h1 h2
theorem c_is_39 (h1 : 0 ≤ i) (h2 : i < 4) : j_is (ST L p I J) 39 (j_k i) K = K := q_is (n := 4) rfl (by decide) (by decide) h1 h2
theorem c_len_39 : j_len (ST L p I J) 39 Ki = Ki (j_k 4) := q_lenI (n := 4) rfl
theorem c_oc_40 : j_oc (ST L p I J) 0 40 K = K := q_oc rfl
theorem c_lt_40 : (40 < j_b) = True := eq_true (by decide)
theorem c_gP_40_0 : j_gP (ST L p I J) 0 40 0 Kn = Kn 41 := q_gP rfl rfl
theorem c_gP_40_1 : j_gP (ST L p I J) 0 40 1 Kn = Kn 42 := q_gP rfl rfl
theorem c_gP_40_2 : j_gP (ST L p I J) 0 40 2 Kn = Kn 43 := q_gP rfl rfl
theorem c_ia_41 (h1 : 0 ≤ i) (h2 : i < 4) : j_ia (ST L p I J) 41 (j_k i) K = K := q_ia (n := 4) rfl (by decide) h1 h2
theorem c_is_41 (h1 : 0 ≤ i) (h2 : i < 4) : j_is (ST L p I J) 41 (j_k i) K = K := q_is (n := 4) rfl (by decide) (by decide) h1 h2
theorem c_len_41 : j_len (ST L p I J) 41 Ki = Ki (j_k 4) := q_lenI (n := 4) rfl
theorem c_ia_42 (h1 : 0 ≤ i) (h2 : i < 4) : j_ia (ST L p I J) 42 (j_k i) K = K := q_ia (n := 4) rfl (by decide) h1 h2
theorem c_is_42 (h1 : 0 ≤ i) (h2 : i < 4) : j_is (ST L p I J) 42 (j_k i) K = K := q_is (n := 4) rfl (by decide) (by decide) h1 h2
theorem c_len_42 : j_len (ST L p I J) 42 Ki = Ki (j_k 4) := q_lenI (n := 4) rfl
theorem c_ia_43 (h1 : 0 ≤ i) (h2 : i < 4) : j_ia (ST L p I J) 43 (j_k i) K = K := q_ia (n := 4) rfl (by decide) h1 h2
theorem c_is_43 (h1 : 0 ≤ i) (h2 : i < 4) : j_is (ST L p I J) 43 (j_k i) K = K := q_is (n := 4) rfl (by decide) (by decide) h1 h2
theorem c_len_43 : j_len (ST L p I J) 43 Ki = Ki (j_k 4) := q_lenI (n := 4) rfl
theorem c_oc_44 : j_oc (ST L p I J) 0 44 K = K := q_oc rfl
theorem c_lt_44 : (44 < j_b) = True := eq_true (by decide)
theorem c_gP_44_0 : j_gP (ST L p I J) 0 44 0 Kn = Kn 45 := q_gP rfl rfl
theorem c_gP_44_1 : j_gP (ST L p I J) 0 44 1 Kn = Kn 46 := q_gP rfl rfl
theorem c_gP_44_2 : j_gP (ST L p I J) 0 44 2 Kn = Kn 47 := q_gP rfl rfl
theorem c_ia_45 (h1 : 0 ≤ i) (h2 : i < 4) : j_ia (ST L p I J) 45 (j_k i) K = K := q_ia (n := 4) rfl (by decide) h1 h2
theorem c_is_45 (h1 : 0 ≤ i) (h2 : i < 4) : j_is (ST L p I J) 45 (j_k i) K = K := q_is (n := 4) rfl (by decide) (by decide) h1 h2
theorem c_len_45 : j_len (ST L p I J) 45 Ki = Ki (j_k 4) := q_lenI (n := 4) rfl
theorem c_ia_46 (h1 : 0 ≤ i) (h2 : i < 4) : j_ia (ST L p I J) 46 (j_k i) K = K := q_ia (n := 4) rfl (by decide) h1 h2
theorem c_is_46 (h1 : 0 ≤ i) (h2 : i < 4) : j_is (ST L p I J) 46 (j_k i) K = K := q_is (n := 4) rfl (by decide) (by decide) h1 h2
theorem c_len_46 : j_len (ST L p I J) 46 Ki = Ki (j_k 4) := q_lenI (n := 4) rfl
theorem c_ia_47 (h1 : 0 ≤ i) (h2 : i < 4) : j_ia (ST L p I J) 47 (j_k i) K = K := q_ia (n := 4) rfl (by decide) h1 h2
theorem c_is_47 (h1 : 0 ≤ i) (h2 : i < 4) : j_is (ST L p I J) 47 (j_k i) K = K := q_is (n := 4) rfl (by decide) (by decide) h1 h2
theorem c_len_47 : j_len (ST L p I J) 47 Ki = Ki (j_k 4) := q_lenI (n := 4) rfl
theorem c_oc_48 : j_oc (ST L p I J) 0 48 K = K := q_oc rfl
theorem c_lt_48 : (48 < j_b) = True := eq_true (by decide)
theorem c_gP_48_0 : j_gP (ST L p I J) 0 48 0 Kn = Kn 49 := q_gP rfl rfl
theorem c_gP_48_1 : j_gP (ST L p I J) 0 48 1 Kn = Kn 50 := q_gP rfl rfl
theorem c_gP_48_2 : j_gP (ST L p I J) 0 48 2 Kn = Kn 51 := q_gP rfl rfl
theorem c_ia_49 (h1 : 0 ≤ i) (h2 : i < 4) : j_ia (ST L p I J) 49 (j_k i) K = K := q_ia (n := 4) rfl (by decide) h1 h2
theorem c_is_49 (h1 : 0 ≤ i) (h2 : i < 4) : j_is (ST L p I J) 49 (j_k i) K = K := q_is (n := 4) rfl (by decide) (by decide) h1 h2
theorem c_len_49 : j_len (ST L p I J) 49 Ki = Ki (j_k 4) := q_lenI (n := 4) rfl
theorem c_ia_50 (h1 : 0 ≤ i) (h2 : i < 4) : j_ia (ST L p I J) 50 (j_k i) K = K := q_ia (n := 4) rfl (by decide) h1 h2
theorem c_is_50 (h1 : 0 ≤ i) (h2 : i < 4) : j_is (ST L p I J) 50 (j_k i) K = K := q_is (n := 4) rfl (by decide) (by decide) h1 h2
theorem c_len_50 : j_len (ST L p I J) 50 Ki = Ki (j_k 4) := q_lenI (n := 4) rfl
theorem c_ia_51 (h1 : 0 ≤ i) (h2 : i < 4) : j_ia (ST L p I J) 51 (j_k i) K = K := q_ia (n := 4) rfl (by decide) h1 h2
theorem c_is_51 (h1 : 0 ≤ i) (h2 : i < 4) : j_is (ST L p I J) 51 (j_k i) K = K := q_is (n := 4) rfl (by decide) (by decide) h1 h2
theorem c_len_51 : j_len (ST L p I J) 51 Ki = Ki (j_k 4) := q_lenI (n := 4) rfl
theorem c_la_52 (h1 : 0 ≤ i) (h2 : i < 201) : j_la (ST L p I J) 52 (j_k i) K = K := q_la (n := 201) rfl (by decide) h1 h2
theorem c_lt_52 : (52 < j_b) = True := eq_true (by decide)
theorem c_oc_53 : j_oc (ST L p I J) 3 53 K = K := q_oc rfl
theorem c_lt_53 : (53 < j_b) = True := eq_true (by decide)
theorem c_gP_53_0 : j_gP (ST L p I J) 3 53 0 Kn = Kn 54 := q_gP rfl rfl
theorem c_gP_53_1 : j_gP (ST L p I J) 3 53 1 Kn = Kn 71 := q_gP rfl rfl
theorem c_len_54 : j_len (ST L p I J) 54 Ki = Ki (j_k 4) := q_lenQ (n := 4) rfl
theorem c_qa_54 (h1 : 0 ≤ i) (h2 : i < 4) : j_qa (ST L p I J) 54 (j_k i) Kn = Kn (55 + 4 * i.toNat) := by
  rcases (show i = 0 ∨ i = 1 ∨ i = 2 ∨ i = 3 by omega) with rfl | rfl | rfl | rfl <;> exact q_qaQ (n := 4) rfl (by decide) (by omega) (by omega) rfl
theorem c_oc_55 : j_oc (ST L p I J) 0 55 K = K := q_oc rfl
theorem c_lt_55 : (55 < j_b) = True := eq_true (by decide)
theorem c_gP_55_0 : j_gP (ST L p I J) 0 55 0 Kn = Kn 56 := q_gP rfl rfl
theorem c_gP_55_1 : j_gP (ST L p I J) 0 55 1 Kn = Kn 57 := q_gP rfl rfl
theorem c_gP_55_2 : j_gP (ST L p I J) 0 55 2 Kn = Kn 58 := q_gP rfl rfl
theorem c_ia_56 (h1 : 0 ≤ i) (h2 : i < 4) : j_ia (ST L p I J) 56 (j_k i) K = K := q_ia (n := 4) rfl (by decide) h1 h2
theorem c_is_56 (h1 : 0 ≤ i) (h2 : i < 4) : j_is (ST L p I J) 56 (j_k i) K = K := q_is (n := 4) rfl (by decide) (by decide) h1 h2
theorem c_len_56 : j_len (ST L p I J) 56 Ki = Ki (j_k 4) := q_lenI (n := 4) rfl
theorem c_ia_57 (h1 : 0 ≤ i) (h2 : i < 4) : j_ia (ST L p I J) 57 (j_k i) K = K := q_ia (n := 4) rfl (by decide) h1 h2
theorem c_is_57 (h1 : 0 ≤ i) (h2 : i < 4) : j_is (ST L p I J) 57 (j_k i) K = K := q_is (n := 4) rfl (by decide) (by decide) h1 h2
theorem c_len_57 : j_len (ST L p I J) 57 Ki = Ki (j_k 4) := q_lenI (n := 4) rfl
theorem c_ia_58 (h1 : 0 ≤ i) (h2 : i < 4) : j_ia (ST L p I J) 58 (j_k i) K = K := q_ia (n := 4) rfl (by decide) h1 h2
theorem c_is_58 (h1 : 0 ≤ i) (h2 : i < 4) : j_is (ST L p I J) 58 (j_k i) K = K := q_is (n := 4) rfl (by decide) (by decide) h1 h2
theorem c_len_58 : j_len (ST L p I J) 58 Ki = Ki (j_k 4) := q_lenI (n := 4) rfl
theorem c_oc_59 : j_oc (ST L p I J) 0 59 K = K := q_oc rfl
theorem c_lt_59 : (59 < j_b) = True := eq_true (by decide)
theorem c_gP_59_0 : j_gP (ST L p I J) 0 59 0 Kn = Kn 60 := q_gP rfl rfl
theorem c_gP_59_1 : j_gP (ST L p I J) 0 59 1 Kn = Kn 61 := q_gP rfl rfl
theorem c_gP_59_2 : j_gP (ST L p I J) 0 59 2 Kn = Kn 62 := q_gP rfl rfl
theorem c_ia_60 (h1 : 0 ≤ i) (h2 : i < 4) : j_ia (ST L p I J) 60 (j_k i) K = K := q_ia (n := 4) rfl (by decide) h1 h2
theorem c_is_60 (h1 : 0 ≤ i) (h2 : i < 4) : j_is (ST L p I J) 60 (j_k i) K = K := q_is (n := 4) rfl (by decide) (by decide) h1 h2
theorem c_len_60 : j_len (ST L p I J) 60 Ki = Ki (j_k 4) := q_lenI (n := 4) rfl
theorem c_ia_61 (h1 : 0 ≤ i) (h2 : i < 4) : j_ia (ST L p I J) 61 (j_k i) K = K := q_ia (n := 4) rfl (by decide) h1 h2
theorem c_is_61 (h1 : 0 ≤ i) (h2 : i < 4) : j_is (ST L p I J) 61 (j_k i) K = K := q_is (n := 4) rfl (by decide) (by decide) h1 h2
theorem c_len_61 : j_len (ST L p I J) 61 Ki = Ki (j_k 4) := q_lenI (n := 4) rfl
theorem c_ia_62 (h1 : 0 ≤ i) (h2 : i < 4) : j_ia (ST L p I J) 62 (j_k i) K = K := q_ia (n := 4) rfl (by decide) h1 h2
theorem c_is_62 (h1 : 0 ≤ i) (h2 : i < 4) : j_is (ST L p I J) 62 (j_k i) K = K := q_is (n := 4) rfl (by decide) (by decide) h1 h2
theorem c_len_62 : j_len (ST L p I J) 62 Ki = Ki (j_k 4) := q_lenI (n := 4) rfl
theorem c_oc_63 : j_oc (ST L p I J) 0 63 K = K := q_oc rfl
theorem c_lt_63 : (63 < j_b) = True := eq_true (by decide)
theorem c_gP_63_0 : j_gP (ST L p I J) 0 63 0 Kn = Kn 64 := q_gP rfl rfl
theorem c_gP_63_1 : j_gP (ST L p I J) 0 63 1 Kn = Kn 65 := q_gP rfl rfl
theorem c_gP_63_2 : j_gP (ST L p I J) 0 63 2 Kn = Kn 66 := q_gP rfl rfl
theorem c_ia_64 (h1 : 0 ≤ i) (h2 : i < 4) : j_ia (ST L p I J) 64 (j_k i) K = K := q_ia (n := 4) rfl (by decide) h1 h2
theorem c_is_64 (h1 : 0 ≤ i) (h2 : i < 4) : j_is (ST L p I J) 64 (j_k i) K = K := q_is (n := 4) rfl (by decide) (by decide) h1 h2
theorem c_len_64 : j_len (ST L p I J) 64 Ki = Ki (j_k 4) := q_lenI (n := 4) rfl
theorem c_ia_65 (h1 : 0 ≤ i) (h2 : i < 4) : j_ia (ST L p I J) 65 (j_k i) K = K := q_ia (n := 4) rfl (by decide) h1 h2
theorem c_is_65 (h1 : 0 ≤ i) (h2 : i < 4) : j_is (ST L p I J) 65 (j_k i) K = K := q_is (n := 4) rfl (by decide) (by decide) h1 h2
theorem c_len_65 : j_len (ST L p I J) 65 Ki = Ki (j_k 4) := q_lenI (n := 4) rfl
theorem c_ia_66 (h1 : 0 ≤ i) (h2 : i < 4) : j_ia (ST L p I J) 66 (j_k i) K = K := q_ia (n := 4) rfl (by decide) h1 h2
theorem c_is_66 (h1 : 0 ≤ i) (h2 : i < 4) : j_is (ST L p I J) 66 (j_k i) K = K := q_is (n := 4) rfl (by decide) (by decide) h1 h2
theorem c_len_66 : j_len (ST L p I J) 66 Ki = Ki (j_k 4) := q_lenI (n := 4) rfl
theorem c_oc_67 : j_oc (ST L p I J) 0 67 K = K := q_oc rfl
theorem c_lt_67 : (67 < j_b) = True := eq_true (by decide)
theorem c_gP_67_0 : j_gP (ST L p I J) 0 67 0 Kn = Kn 68 := q_gP rfl rfl
theorem c_gP_67_1 : j_gP (ST L p I J) 0 67 1 Kn = Kn 69 := q_gP rfl rfl
theorem c_gP_67_2 : j_gP (ST L p I J) 0 67 2 Kn = Kn 70 := q_gP rfl rfl
theorem c_ia_68 (h1 : 0 ≤ i) (h2 : i < 4) : j_ia (ST L p I J) 68 (j_k i) K = K := q_ia (n := 4) rfl (by decide) h1 h2
theorem c_is_68 (h1 : 0 ≤ i) (h2 : i < 4) : j_is (ST L p I J) 68 (j_k i) K = K := q_is (n := 4) rfl (by decide) (by decide) h1 h2
theorem c_len_68 : j_len (ST L p I J) 68 Ki = Ki (j_k 4) := q_lenI (n := 4) rfl
theorem c_ia_69 (h1 : 0 ≤ i) (h2 : i < 4) : j_ia (ST L p I J) 69 (j_k i) K = K := q_ia (n := 4) rfl (by decide) h1 h2
theorem c_is_69 (h1 : 0 ≤ i) (h2 : i < 4) : j_is (ST L p I J) 69 (j_k i) K = K := q_is (n := 4) rfl (by decide) (by decide) h1 h2
theorem c_len_69 : j_len (ST L p I J) 69 Ki = Ki (j_k 4) := q_lenI (n := 4) rfl
theorem c_ia_70 (h1 : 0 ≤ i) (h2 : i < 4) : j_ia (ST L p I J) 70 (j_k i) K = K := q_ia (n := 4) rfl (by decide) h1 h2
theorem c_is_70 (h1 : 0 ≤ i) (h2 : i < 4) : j_is (ST L p I J) 70 (j_k i) K = K := q_is (n := 4) rfl (by decide) (by decide) h1 h2
theorem c_len_70 : j_len (ST L p I J) 70 Ki = Ki (j_k 4) := q_lenI (n := 4) rfl
theorem c_ia_71 (h1 : 0 ≤ i) (h2 : i < 4) : j_ia (ST L p I J) 71 (j_k i) K = K := q_ia (n := 4) rfl (by decide) h1 h2
theorem c_is_71 (h1 : 0 ≤ i) (h2 : i < 4) : j_is (ST L p I J) 71 (j_k i) K = K := q_is (n := 4) rfl (by decide) (by decide) h1 h2
theorem c_len_71 : j_len (ST L p I J) 71 Ki = Ki (j_k 4) := q_lenI (n := 4) rfl
theorem c_oc_72 : j_oc (ST L p I J) 5 72 K = K := q_oc rfl
theorem c_lt_72 : (72 < j_b) = True := eq_true (by decide)
theorem c_gP_72_0 : j_gP (ST L p I J) 5 72 0 Kn = Kn 73 := q_gP rfl rfl
theorem c_len_73 : j_len (ST L p I J) 73 Ki = Ki (j_k 3) := q_lenQ (n := 3) rfl
theorem c_qa_73 (h1 : 0 ≤ i) (h2 : i < 3) : j_qa (ST L p I J) 73 (j_k i) Kn = Kn (74 + 4 * i.toNat) := by
  rcases (show i = 0 ∨ i = 1 ∨ i = 2 by omega) with rfl | rfl | rfl <;> exact q_qaQ (n := 3) rfl (by decide) (by omega) (by omega) rfl
theorem c_oc_74 : j_oc (ST L p I J) 0 74 K = K := q_oc rfl
theorem c_lt_74 : (74 < j_b) = True := eq_true (by decide)
theorem c_gP_74_0 : j_gP (ST L p I J) 0 74 0 Kn = Kn 75 := q_gP rfl rfl
theorem c_gP_74_1 : j_gP (ST L p I J) 0 74 1 Kn = Kn 76 := q_gP rfl rfl
theorem c_gP_74_2 : j_gP (ST L p I J) 0 74 2 Kn = Kn 77 := q_gP rfl rfl
theorem c_ia_75 (h1 : 0 ≤ i) (h2 : i < 4) : j_ia (ST L p I J) 75 (j_k i) K = K := q_ia (n := 4) rfl (by decide) h1 h2
theorem c_is_75 (h1 : 0 ≤ i) (h2 : i < 4) : j_is (ST L p I J) 75 (j_k i) K = K := q_is (n := 4) rfl (by decide) (by decide) h1 h2
theorem c_len_75 : j_len (ST L p I J) 75 Ki = Ki (j_k 4) := q_lenI (n := 4) rfl
theorem c_ia_76 (h1 : 0 ≤ i) (h2 : i < 4) : j_ia (ST L p I J) 76 (j_k i) K = K := q_ia (n := 4) rfl (by decide) h1 h2
theorem c_is_76 (h1 : 0 ≤ i) (h2 : i < 4) : j_is (ST L p I J) 76 (j_k i) K = K := q_is (n := 4) rfl (by decide) (by decide) h1 h2
theorem c_len_76 : j_len (ST L p I J) 76 Ki = Ki (j_k 4) := q_lenI (n := 4) rfl
theorem c_ia_77 (h1 : 0 ≤ i) (h2 : i < 4) : j_ia (ST L p I J) 77 (j_k i) K = K := q_ia (n := 4) rfl (by decide) h1 h2
theorem c_is_77 (h1 : 0 ≤ i) (h2 : i < 4) : j_is (ST L p I J) 77 (j_k i) K = K := q_is (n := 4) rfl (by decide) (by decide) h1 h2
theorem c_len_77 : j_len (ST L p I J) 77 Ki = Ki (j_k 4) := q_lenI (n := 4) rfl
theorem c_oc_78 : j_oc (ST L p I J) 0 78 K = K := q_oc rfl
theorem c_lt_78 : (78 < j_b) = True := eq_true (by decide)
theorem c_gP_78_0 : j_gP (ST L p I J) 0 78 0 Kn = Kn 79 := q_gP rfl rfl
theorem c_gP_78_1 : j_gP (ST L p I J) 0 78 1 Kn = Kn 80 := q_gP rfl rfl
theorem c_gP_78_2 : j_gP (ST L p I J) 0 78 2 Kn = Kn 81 := q_gP rfl rfl
theorem c_ia_79 (h1 : 0 ≤ i) (h2 : i < 4) : j_ia (ST L p I J) 79 (j_k i) K = K := q_ia (n := 4) rfl (by decide) h1 h2
theorem c_is_79 (h1 : 0 ≤ i) (h2 : i < 4) : j_is (ST L p I J) 79 (j_k i) K = K := q_is (n := 4) rfl (by decide) (by decide) h1 h2
theorem c_len_79 : j_len (ST L p I J) 79 Ki = Ki (j_k 4) := q_lenI (n := 4) rfl
theorem c_ia_80 (h1 : 0 ≤ i) (h2 : i < 4) : j_ia (ST L p I J) 80 (j_k i) K = K := q_ia (n := 4) rfl (by decide) h1 h2
theorem c_is_80 (h1 : 0 ≤ i) (h2 : i < 4) : j_is (ST L p I J) 80 (j_k i) K = K := q_is (n := 4) rfl (by decide) (by decide) h1 h2
theorem c_len_80 : j_len (ST L p I J) 80 Ki = Ki (j_k 4) := q_lenI (n := 4) rfl
theorem c_ia_81 (h1 : 0 ≤ i) (h2 : i < 4) : j_ia (ST L p I J) 81 (j_k i) K = K := q_ia (n := 4) rfl (by decide) h1 h2
theorem c_is_81 (h1 : 0 ≤ i) (h2 : i < 4) : j_is (ST L p I J) 81 (j_k i) K = K := q_is (n := 4) rfl (by decide) (by decide) h1 h2
theorem c_len_81 : j_len (ST L p I J) 81 Ki = Ki (j_k 4) := q_lenI (n := 4) rfl
theorem c_oc_82 : j_oc (ST L p I J) 0 82 K = K := q_oc rfl
theorem c_lt_82 : (82 < j_b) = True := eq_true (by decide)
theorem c_gP_82_0 : j_gP (ST L p I J) 0 82 0 Kn = Kn 83 := q_gP rfl rfl
theorem c_gP_82_1 : j_gP (ST L p I J) 0 82 1 Kn = Kn 84 := q_gP rfl rfl
theorem c_gP_82_2 : j_gP (ST L p I J) 0 82 2 Kn = Kn 85 := q_gP rfl rfl
theorem c_ia_83 (h1 : 0 ≤ i) (h2 : i < 4) : j_ia (ST L p I J) 83 (j_k i) K = K := q_ia (n := 4) rfl (by decide) h1 h2
theorem c_is_83 (h1 : 0 ≤ i) (h2 : i < 4) : j_is (ST L p I J) 83 (j_k i) K = K := q_is (n := 4) rfl (by decide) (by decide) h1 h2
theorem c_len_83 : j_len (ST L p I J) 83 Ki = Ki (j_k 4) := q_lenI (n := 4) rfl
theorem c_ia_84 (h1 : 0 ≤ i) (h2 : i < 4) : j_ia (ST L p I J) 84 (j_k i) K = K := q_ia (n := 4) rfl (by decide) h1 h2
theorem c_is_84 (h1 : 0 ≤ i) (h2 : i < 4) : j_is (ST L p I J) 84 (j_k i) K = K := q_is (n := 4) rfl (by decide) (by decide) h1 h2
theorem c_len_84 : j_len (ST L p I J) 84 Ki = Ki (j_k 4) := q_lenI (n := 4) rfl
theorem c_ia_85 (h1 : 0 ≤ i) (h2 : i < 4) : j_ia (ST L p I J) 85 (j_k i) K = K := q_ia (n := 4) rfl (by decide) h1 h2
theorem c_is_85 (h1 : 0 ≤ i) (h2 : i < 4) : j_is (ST L p I J) 85 (j_k i) K = K := q_is (n := 4) rfl (by decide) (by decide) h1 h2
theorem c_len_85 : j_len (ST L p I J) 85 Ki = Ki (j_k 4) := q_lenI (n := 4) rfl
theorem c_ia_86 (h1 : 0 ≤ i) (h2 : i < 6) : j_ia (ST L p I J) 86 (j_k i) K = K := q_ia (n := 6) rfl (by decide) h1 h2
theorem c_is_86 (h1 : 0 ≤ i) (h2 : i < 6) : j_is (ST L p I J) 86 (j_k i) K = K := q_is (n := 6) rfl (by decide) (by decide) h1 h2
theorem c_len_86 : j_len (ST L p I J) 86 Ki = Ki (j_k 6) := q_lenI (n := 6) rfl
theorem c_ia_87 (h1 : 0 ≤ i) (h2 : i < 64) : j_ia (ST L p I J) 87 (j_k i) K = K := q_ia (n := 64) rfl (by decide) h1 h2
theorem c_is_87 (h1 : 0 ≤ i) (h2 : i < 64) : j_is (ST L p I J) 87 (j_k i) K = K := q_is (n := 64) rfl (by decide) (by decide) h1 h2
theorem c_len_87 : j_len (ST L p I J) 87 Ki = Ki (j_k 64) := q_lenI (n := 64) rfl
theorem fa_22 : FA 22 := show 22 ∈ FL by decide
theorem fa_31 : FA 31 := show 31 ∈ FL by decide
theorem fa_36 : FA 36 := show 36 ∈ FL by decide
theorem fa_40 : FA 40 := show 40 ∈ FL by decide
theorem fa_44 : FA 44 := show 44 ∈ FL by decide
theorem fa_48 : FA 48 := show 48 ∈ FL by decide
theorem fa_55 : FA 55 := show 55 ∈ FL by decide
theorem fa_59 : FA 59 := show 59 ∈ FL by decide
theorem fa_63 : FA 63 := show 63 ∈ FL by decide
theorem fa_67 : FA 67 := show 67 ∈ FL by decide
theorem fa_74 : FA 74 := show 74 ∈ FL by decide
theorem fa_78 : FA 78 := show 78 ∈ FL by decide
theorem fa_82 : FA 82 := show 82 ∈ FL by decide
theorem ga_18 : GA 18 := Or.inl rfl
theorem ga_27 : GA 27 := Or.inr rfl
end SKEL
