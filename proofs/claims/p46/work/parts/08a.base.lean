/-! ===== numbers: Int32 by integers ===== -/
theorem k_add (a b : Int) : j_k a + j_k b = j_k (a + b) := (Int32.ofInt_add a b).symm
theorem k_sub (a b : Int) : j_k a - j_k b = j_k (a - b) := (Int32.ofInt_sub a b).symm
theorem k_mul (a b : Int) : j_k a * j_k b = j_k (a * b) := (Int32.ofInt_mul a b).symm
theorem k_neg (a : Int) : -(j_k a) = j_k (-a) := (Int32.ofInt_neg a).symm
theorem k_int {a : Int} (h1 : -2147483648 ≤ a) (h2 : a < 2147483648) : (j_k a).toInt = a := Int32.toInt_ofInt_of_le (by omega) (by omega)
theorem k_toInt (x : Int32) : j_k x.toInt = x := Int32.ofInt_toInt x
theorem k_ex (x : Int32) : ∃ a : Int, x = j_k a ∧ -2147483648 ≤ a ∧ a < 2147483648 := ⟨x.toInt, (k_toInt x).symm, by have := Int32.le_toInt x; omega, by have := Int32.toInt_lt x; omega⟩
theorem k_lt {a b : Int} (h1 : -2147483648 ≤ a) (h2 : a < 2147483648) (h3 : -2147483648 ≤ b) (h4 : b < 2147483648) : (j_k a < j_k b) = (a < b) := propext (by rw [Int32.lt_iff_toInt_lt, k_int h1 h2, k_int h3 h4])
theorem k_le {a b : Int} (h1 : -2147483648 ≤ a) (h2 : a < 2147483648) (h3 : -2147483648 ≤ b) (h4 : b < 2147483648) : (j_k a ≤ j_k b) = (a ≤ b) := propext (by rw [Int32.le_iff_toInt_le, k_int h1 h2, k_int h3 h4])
theorem k_eq {a b : Int} (h1 : -2147483648 ≤ a) (h2 : a < 2147483648) (h3 : -2147483648 ≤ b) (h4 : b < 2147483648) : (j_k a = j_k b) = (a = b) := propext ⟨fun h => by
  have h5 := congrArg Int32.toInt h
  rwa [k_int h1 h2, k_int h3 h4] at h5, fun h => by rw [h]⟩
theorem kk0 : j_k 0 = 0 := by decide
theorem kk1 : j_k 1 = 1 := by decide
theorem k_lt0 {a : Int} (h1 : -2147483648 ≤ a) (h2 : a < 2147483648) : (j_k a < 0) = (a < 0) := by rw [← kk0, k_lt h1 h2 (by decide) (by decide)]
theorem k_0lt {a : Int} (h1 : -2147483648 ≤ a) (h2 : a < 2147483648) : (0 < j_k a) = (0 < a) := by rw [← kk0, k_lt (by decide) (by decide) h1 h2]
theorem k_eq0 {a : Int} (h1 : -2147483648 ≤ a) (h2 : a < 2147483648) : (j_k a = 0) = (a = 0) := by rw [← kk0, k_eq h1 h2 (by decide) (by decide)]
theorem k_0eq {a : Int} (h1 : -2147483648 ≤ a) (h2 : a < 2147483648) : (0 = j_k a) = (0 = a) := by rw [← kk0, k_eq (by decide) (by decide) h1 h2]
theorem k_nat {a : Int} (h1 : -2147483648 ≤ a) (h2 : a < 2147483648) : (j_k a).toNatClampNeg = a.toNat := by rw [← Int32.toNat_toInt, k_int h1 h2]
theorem k_b0 : (j_k 0 = 0 ∨ j_k 0 = 1) = True := by decide
theorem k_b1 : (j_k 1 = 0 ∨ j_k 1 = 1) = True := by decide
theorem k_z1 : (j_k 1 = 0) = False := by decide
theorem k_z0 : (j_k 0 = 0) = True := by decide
theorem k_o1 : (j_k 1 = 1) = True := by decide
theorem k_o0 : (j_k 0 = 1) = False := by decide
theorem k_abs {a : Int} (h1 : -2147483647 ≤ a) (h2 : a < 2147483648) : j_abs (j_k a) = j_k (if 0 ≤ a then a else -a) := by
  unfold j_abs
  rw [← kk0]
  simp only [k_le (show (-2147483648 : Int) ≤ 0 by decide) (show (0 : Int) < 2147483648 by decide) (show -2147483648 ≤ a by omega) h2, k_sub]
  split
  · rfl
  · rw [Int.zero_sub]
theorem k_min {a b : Int} (h1 : -2147483648 ≤ a) (h2 : a < 2147483648) (h3 : -2147483648 ≤ b) (h4 : b < 2147483648) : j_min (j_k a) (j_k b) = j_k (if b < a then b else a) := by
  unfold j_min
  simp only [k_lt h3 h4 h1 h2]
  split <;> rfl
theorem k_lit (n : Nat) : (OfNat.ofNat n : Int32) = j_k n := (Int32.ofInt_eq_ofNat).symm
theorem k_div {a b : Int} (h1 : -2147483647 ≤ a) (h2 : a < 2147483648) (h3 : -2147483648 ≤ b) (h4 : b < 2147483648) : j_k a / j_k b = j_k (a.tdiv b) := (Int32.ofInt_tdiv (by show (-2147483648 : Int) ≤ a; omega) (by show a ≤ 2147483647; omega) (by show (-2147483648 : Int) ≤ b; omega) (by show b ≤ 2147483647; omega)).symm
theorem k_divp {a b : Int} (h1 : 0 ≤ a) (h2 : a < 2147483648) (h3 : 0 ≤ b) (h4 : b < 2147483648) : j_k a / j_k b = j_k (a / b) := by
  rw [k_div (by omega) h2 (by omega) h4, Int.tdiv_eq_ediv_of_nonneg h1]
theorem k_modp {a b : Int} (h1 : 0 ≤ a) (h2 : a < 2147483648) (h3 : 0 ≤ b) (h4 : b < 2147483648) : j_k a - j_k a / j_k b * j_k b = j_k (a % b) := by
  rw [k_divp h1 h2 h3 h4, k_mul, k_sub]
  congr 1
  have h := Int.emod_add_mul_ediv a b
  rw [Int.mul_comm b] at h
  omega
/-- bits -/
theorem k_tbv {a : Int} : (j_k a).toBitVec = BitVec.ofInt 32 a := Int32.toBitVec_ofInt a
theorem u2_ss {α : Type} (f : Nat → Nat → α) (r k : Nat) (v : α) : u2 f r k v r k = v := by unfold u2; rw [u1_same, u1_same]
theorem u2_k {α : Type} {f : Nat → Nat → α} {r k k' : Nat} {v : α} (h : k' ≠ k) : u2 f r k v r k' = f r k' := by unfold u2; rw [u1_same, u1_ne h]
theorem u2_r {α : Type} {f : Nat → Nat → α} {r k r' k' : Nat} {v : α} (h : r' ≠ r) : u2 f r k v r' k' = f r' k' := by unfold u2; rw [u1_ne h]
theorem x_exec (cd : List (Nat × Instr × List Nat)) (hd : List (Nat × Nat)) (call : Nat → List Value → Sto → Option Rr) (n pc : Nat) (L : j_L) (st : List Value) (σ : Sto) : j_exec cd hd call (n + 1) pc L st σ = j_seg cd hd call (j_exec cd hd call n) 2000 pc L st σ := rfl
/-- a loop with a body by its index: m times from k on -/
def p_loop {α : Type} (b : Int → α → α) : Nat → Int → α → α
  | 0, _, s => s
  | m + 1, k, s => p_loop b m (k + 1) (b k s)
theorem p_loop0 {α : Type} (b : Int → α → α) (k : Int) (s : α) : p_loop b 0 k s = s := rfl
theorem p_loopS {α : Type} (b : Int → α → α) (m : Nat) (k : Int) (s : α) : p_loop b (m + 1) k s = p_loop b m (k + 1) (b k s) := rfl
/-- the first index with a property; -9 -/
def p_first (P : Int → Bool) : Nat → Int → Int
  | 0, _ => -9
  | m + 1, k => if P k = true then k else p_first P m (k + 1)
theorem p_first0 (P : Int → Bool) (k : Int) : p_first P 0 k = -9 := rfl
theorem p_firstS (P : Int → Bool) (m : Nat) (k : Int) : p_first P (m + 1) k = if P k = true then k else p_first P m (k + 1) := rfl
