/-! ===== bits (the first rows out of kit/laws/BITS.to-paste) ===== -/
def bt (x : Int32) (i : Nat) : Bool := x.toBitVec.getLsbD i
theorem b_ext {x y : Int32} (h : ∀ i, i < 32 → bt x i = bt y i) : x = y := Int32.toBitVec_inj.mp (BitVec.eq_of_getLsbD_eq (fun i hi => h i hi))
theorem b_or (x y : Int32) (i : Nat) : bt (x ||| y) i = (bt x i || bt y i) := by unfold bt; rw [Int32.toBitVec_or, BitVec.getLsbD_or]
theorem b_and (x y : Int32) (i : Nat) : bt (x &&& y) i = (bt x i && bt y i) := by unfold bt; rw [Int32.toBitVec_and, BitVec.getLsbD_and]
theorem b_xor (x y : Int32) (i : Nat) : bt (x ^^^ y) i = (bt x i ^^ bt y i) := by unfold bt; rw [Int32.toBitVec_xor, BitVec.getLsbD_xor]
theorem b_big {x : Int32} {i : Nat} (h : 32 ≤ i) : bt x i = false := BitVec.getLsbD_of_ge _ _ h
theorem b_m1 : ∀ i, i < 32 → bt (-1) i = true := by decide +kernel
theorem b_0 (i : Nat) : bt 0 i = false := BitVec.getLsbD_zero
theorem s_lb : ∀ n, n < 32 → ((nI n &&& 31).toBitVec.smod 32).toNat = n := by decide +kernel
theorem s_u : ∀ n, n < 32 → (((nI n).toUInt32 &&& Int32.toUInt32 31).toBitVec % 32).toNat = n := by decide +kernel
theorem b_shl (n : Nat) (hn : n < 32) (x : Int32) {i : Nat} (hi : i < 32) : bt (x <<< (nI n &&& 31)) i = (decide (n ≤ i) && bt x (i - n)) := by
  unfold bt
  rw [Int32.toBitVec_shiftLeft]
  show (x.toBitVec <<< ((nI n &&& 31).toBitVec.smod 32).toNat).getLsbD i = _
  rw [s_lb n hn, BitVec.getLsbD_shiftLeft]
  rcases Nat.lt_or_ge i n with h | h
  · simp [h, Nat.not_le.mpr h]
  · simp [hi, h, Nat.not_lt.mpr h]
theorem b_sshr (n : Nat) (hn : n < 32) (x : Int32) {i : Nat} (hi : i < 32) : bt (x >>> (nI n &&& 31)) i = if n + i < 32 then bt x (n + i) else bt x 31 := by
  unfold bt
  rw [Int32.toBitVec_shiftRight]
  show (x.toBitVec.sshiftRight ((nI n &&& 31).toBitVec.smod 32).toNat).getLsbD i = _
  rw [s_lb n hn, BitVec.getLsbD_sshiftRight, BitVec.msb_eq_getLsbD_last]
  simp [hi]
theorem nI_k (n : Nat) : nI n = j_k n := (Int32.ofInt_eq_ofNat).symm
theorem bt_1 : ∀ i, i < 32 → bt 1 i = decide (i = 0) := by decide +kernel
theorem k_m1 : j_k (-1) = -1 := by decide
theorem tb_iff (x : Int32) {c : Int} (h1 : 0 ≤ c) (h2 : c < 32) : ((x >>> (j_k c &&& 31)) &&& j_k 1 = j_k 1) = (bt x c.toNat = true) := by
  obtain ⟨n, rfl⟩ : ∃ n : Nat, c = n := ⟨c.toNat, by omega⟩
  have hn : n < 32 := by omega
  rw [← nI_k, kk1, Int.toNat_natCast]
  have e : bt x n = bt (x >>> (nI n &&& 31)) 0 := by
    rw [b_sshr n hn x (by omega)]
    simp [hn]
  rw [e]
  generalize x >>> (nI n &&& 31) = y
  refine propext ⟨fun h => ?_, fun h => ?_⟩
  · have h3 := congrArg (fun z => bt z 0) h
    simp only [b_and, bt_1 0 (by omega)] at h3
    simpa using h3
  · refine b_ext fun i hi => ?_
    rw [b_and, bt_1 i hi]
    by_cases e : i = 0
    · subst e
      rw [h]
      rfl
    · simp [e]
theorem bt_bit {i c : Int} (h1 : 0 ≤ i) (h2 : i < 32) (h3 : 0 ≤ c) (h4 : c < 32) : bt (j_k 1 <<< (j_k i &&& 31)) c.toNat = decide (c = i) := by
  obtain ⟨n, rfl⟩ : ∃ n : Nat, i = n := ⟨i.toNat, by omega⟩
  obtain ⟨m, rfl⟩ : ∃ m : Nat, c = m := ⟨c.toNat, by omega⟩
  rw [← nI_k, Int.toNat_natCast, b_shl n (by omega) _ (by omega), kk1]
  by_cases e : n ≤ m
  · rw [bt_1 _ (by omega)]
    by_cases e2 : m = n
    · subst e2
      simp
    · have : ¬ m - n = 0 := by omega
      have : ¬ (m : Int) = n := by omega
      simp [*]
  · have : ¬ (m : Int) = n := by omega
    simp [*]
theorem bt_off (x : Int32) {i c : Int} (h1 : 0 ≤ i) (h2 : i < 32) (h3 : 0 ≤ c) (h4 : c < 32) : bt (x &&& ((j_k 1 <<< (j_k i &&& 31)) ^^^ j_k (-1))) c.toNat = (bt x c.toNat && !decide (c = i)) := by
  rw [b_and, b_xor, bt_bit h1 h2 h3 h4, k_m1, b_m1 _ (by omega), Bool.xor_true]
theorem bt_on (x : Int32) {i c : Int} (h1 : 0 ≤ i) (h2 : i < 32) (h3 : 0 ≤ c) (h4 : c < 32) : bt (x ||| (j_k 1 <<< (j_k i &&& 31))) c.toNat = (bt x c.toNat || decide (c = i)) := by
  rw [b_or, bt_bit h1 h2 h3 h4]
theorem or_fin : ∀ k, k < 4 → ∀ s, s < 2 ^ k → nI s ||| (nI 1 <<< (nI k &&& 31)) = nI (s + 2 ^ k) := by decide +kernel
theorem or_set {s k : Int} (h1 : 0 ≤ k) (h2 : k < 4) (h3 : 0 ≤ s) (h4 : s < 2 ^ k.toNat) : j_k s ||| (j_k 1 <<< (j_k k &&& 31)) = j_k (s + 2 ^ k.toNat) := by
  obtain ⟨n, rfl⟩ : ∃ n : Nat, k = n := ⟨k.toNat, by omega⟩
  obtain ⟨m, rfl⟩ : ∃ m : Nat, s = m := ⟨s.toNat, by omega⟩
  rw [Int.toNat_natCast] at h4 ⊢
  have h5 : m < 2 ^ n := by
    have : ((2 : Int) ^ n) = ((2 ^ n : Nat) : Int) := by rw [Int.natCast_pow]; rfl
    rw [this] at h4
    exact Int.ofNat_lt.mp h4
  have h6 := or_fin n (by omega) m h5
  rw [nI_k, nI_k, nI_k, nI_k] at h6
  refine Eq.trans h6 ?_
  congr 1
theorem k_par {a : Int} (h1 : 0 ≤ a) (h2 : a < 2147483648) : j_k a &&& j_k 1 = j_k (a % 2) := by
  obtain ⟨n, rfl⟩ : ∃ n : Nat, a = n := ⟨a.toNat, by omega⟩
  rw [kk1]
  refine b_ext fun i hi => ?_
  have e2 : ((n : Int) % 2) = ((n % 2 : Nat) : Int) := by omega
  rw [b_and, bt_1 i hi, e2, ← nI_k, ← nI_k]
  unfold bt nI
  show ((BitVec.ofNat 32 n).getLsbD i && _) = (BitVec.ofNat 32 (n % 2)).getLsbD i
  rw [BitVec.getLsbD_ofNat, BitVec.getLsbD_ofNat]
  by_cases e : i = 0
  · subst e
    rcases Nat.mod_two_eq_zero_or_one n with h | h <;> simp [h]
  · have : (n % 2).testBit i = false := Nat.testBit_lt_two_pow (Nat.lt_of_lt_of_le (Nat.mod_lt _ (by decide)) (show 2 ^ 1 ≤ 2 ^ i from Nat.pow_le_pow_right (by decide) (by omega)))
    simp [e, this]
