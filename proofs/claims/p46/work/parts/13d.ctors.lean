/-! ===== stores while the constructors run ===== -/
def SHk (L k r : Nat) : Option j_Sh := if r = 1000004 then some (.inr (.int, L % 1000)) else if 1000000 ≤ r ∧ r < 1000004 then some (.inr (.int, [5, 6, 4, 4].getD (r - 1000000) 0)) else if r < k then SHL[r]? else none
def CT (L k s : Nat) (P : Nat → Nat → Option Nat) (I : Nat → Nat → Int32) (J : Nat → Nat → Int64) : Sto := (SHk L k, P, I, J, k, s)
/-- nothing stands yet from cell k on -/
def nw (k : Nat) (P : Nat → Nat → Option Nat) (I : Nat → Nat → Int32) (J : Nat → Nat → Int64) : Prop := (∀ r q, (k ≤ r ∨ 40 ≤ q) → P r q = none) ∧ (∀ r, k ≤ r → r < 1000000 → I r = fun _ => 0) ∧ (∀ r, k ≤ r → r < 1000000 → J r = fun _ => 0)
section CTORS
variable {L k s d : Nat} {P : Nat → Nat → Option Nat} {I : Nat → Nat → Int32} {J : Nat → Nat → Int64} {K : Option Rr} {Kn : Nat → Option Rr} {Ki : Int32 → Option Rr} {Ks : Sto → Option Rr}
theorem SHL_len : SHL.length = 88 := rfl
theorem SHk_at {r : Nat} (h : r < k) (hk : k ≤ 88) : SHk L k r = SHL[r]? := by
  unfold SHk
  rw [if_neg (by omega), if_neg (by omega), if_pos h]
theorem SHk_up {sh : j_Sh} (hk : k < 88) (hs : SHL[k]? = some sh) : u1 (SHk L k) k (some sh) = SHk L (k + 1) := by
  funext r
  unfold SHk
  by_cases z : r = k
  · subst z
    rw [u1_same, if_neg (by omega), if_neg (by omega), if_pos (by omega), hs]
  · rw [u1_ne z]
    by_cases z1 : r < k
    · rw [if_pos z1, if_pos (show r < k + 1 by omega)]
    · rw [if_neg z1, if_neg (show ¬ r < k + 1 by omega)]
theorem u1_id {α : Type} {f : Nat → α} {k : Nat} {v : α} (h : f k = v) : u1 f k v = f := by
  funext r
  by_cases z : r = k
  · rw [z, u1_same, h]
  · rw [u1_ne z]
theorem nw.up (h : nw k P I J) : nw (k + 1) P I J := ⟨fun r q a => h.1 r q (by omega), fun r a b => h.2.1 r (by omega) b, fun r a b => h.2.2 r (by omega) b⟩
theorem nw.uP {r q : Nat} {v : Option Nat} (h : nw k P I J) (hr : r < k) (hq : q < 40) : nw k (u2 P r q v) I J := ⟨fun a b c => by
  by_cases z : a = r
  · subst z
    rw [u2_k (by omega)]
    exact h.1 _ _ c
  · rw [u2_r z]
    exact h.1 _ _ c, h.2.1, h.2.2⟩
theorem nw.uI {r q : Nat} {v : Int32} (h : nw k P I J) (hr : r < k) : nw k P (u2 I r q v) J := ⟨h.1, fun a b c => by
  funext j
  rw [u2_r (by omega), h.2.1 a b c], h.2.2⟩
theorem nw.rI {r : Nat} {f : Nat → Int32} (h : nw k P I J) (hr : r < k) : nw k P (u1 I r f) J := ⟨h.1, fun a b c => by
  rw [u1_ne (by omega), h.2.1 a b c], h.2.2⟩
theorem nw.uJ {r q : Nat} {v : Int64} (h : nw k P I J) (hr : r < k) : nw k P I (u2 J r q v) := ⟨h.1, h.2.1, fun a b c => by
  funext j
  rw [u2_r (by omega), h.2.2 a b c]⟩
theorem ct_n : s_n (CT L k s P I J) = k := rfl
theorem ct_al {sh : j_Sh} {n : Nat} (h : nw k P I J) (hk : k < 88) (hs : SHL[k]? = some sh) : s_al (CT L k s P I J) sh n = CT L (k + 1) (s + n) P I J := by
  show (u1 (SHk L k) k (some sh), u1 P k (fun _ => none), u1 I k (fun _ => 0), u1 J k (fun _ => 0), k + 1, s + n) = (SHk L (k + 1), P, I, J, k + 1, s + n)
  rw [SHk_up hk hs, u1_id (h.2.1 k (Nat.le_refl k) (by omega)), u1_id (h.2.2 k (Nat.le_refl k) (by omega)), u1_id (show P k = fun _ => none from funext fun q => h.1 k q (Or.inl (Nat.le_refl k)))]
theorem ct_uP {r q : Nat} {v : Option Nat} : s_uP (CT L k s P I J) r q v = CT L k s (u2 P r q v) I J := rfl
theorem ct_uI {r q : Nat} {v : Int32} : s_uI (CT L k s P I J) r q v = CT L k s P (u2 I r q v) J := rfl
theorem ct_uJ {r q : Nat} {v : Int64} : s_uJ (CT L k s P I J) r q v = CT L k s P I (u2 J r q v) := rfl
theorem ct_oc {r c : Nat} (hs : SHL[r]? = some (.inl c)) (hr : r < k) (hk : k ≤ 88) : j_oc (CT L k s P I J) c r K = K := q_oc (σ := CT L k s P I J) ((SHk_at hr hk).trans hs)
theorem ct_qs {r v n : Nat} {i : Int} (hs : SHL[r]? = some (.inr (.object RX0, n))) (hv : SHL[v]? = some (.inl 0)) (hr : r < k) (hvk : v < k) (hk : k ≤ 88) (h3 : n ≤ 1000) (h1 : 0 ≤ i) (h2 : i < n) : j_qs (CT L k s P I J) r (j_k i) v K = K := by
  have e : (CT L k s P I J).1 r = some (.inr (.object RX0, n)) := (SHk_at hr hk).trans hs
  have e2 : (CT L k s P I J).1 v = some (.inl 0) := (SHk_at hvk hk).trans hv
  unfold j_qs
  rw [e]
  exact if_pos ⟨by show r < 1000000; omega, k_in h1 h2 h3, by show v < 1000000; omega, rfl, e2⟩
theorem ct_gP {r c q v : Nat} (hs : SHL[r]? = some (.inl c)) (hr : r < k) (hk : k ≤ 88) (hP : P r q = some v) : j_gP (CT L k s P I J) c r q Kn = Kn v := q_gP (σ := CT L k s P I J) ((SHk_at hr hk).trans hs) hP
theorem ct_lenQ {r n : Nat} (hs : SHL[r]? = some (.inr (.array .int, n))) (hr : r < k) (hk : k ≤ 88) : j_len (CT L k s P I J) r Ki = Ki (j_k n) := by
  have e : (CT L k s P I J).1 r = some (.inr (.array .int, n)) := (SHk_at hr hk).trans hs
  unfold j_len
  rw [e]
  show Ki _ = _
  rw [show Int32.ofNat n = j_k n from (Int32.ofInt_eq_ofNat).symm]
/-- the rows of new int[n][w] -/
def rowsP (P : Nat → Nat → Option Nat) (k n : Nat) : Nat → Nat → Option Nat := fun r i => if r = k ∧ i < n then some (r + 1 + i) else P r i
theorem nw.rP {r n : Nat} (h : nw k P I J) (hr : r < k) (hn : n ≤ 40) : nw k (rowsP P r n) I J := ⟨fun a b c => by
  unfold rowsP
  rw [if_neg (by omega)]
  exact h.1 _ _ c, h.2.1, h.2.2⟩
theorem ct_mn {n w : Nat} (h : nw k P I J) (hk : k + 1 + n ≤ 88) (hs : SHL[k]? = some (.inr (.array .int, n))) (hw : ∀ j, j < n → SHL[k + 1 + j]? = some (.inr (.int, w))) : s_mn (CT L k s P I J) n w = CT L (k + 1 + n) (s + n + n * w) (rowsP P k n) I J := by
  show ((fun r => if r < k then SHk L k r else if r = k then some (.inr (.array .int, n)) else if r < k + 1 + n then some (.inr (.int, w)) else SHk L k r), (fun r i => if r = k then (if i < n then some (r + 1 + i) else none) else if k < r ∧ r < k + 1 + n then none else P r i), (fun r i => if k ≤ r ∧ r < k + 1 + n then (0 : Int32) else I r i), (fun r i => if k ≤ r ∧ r < k + 1 + n then (0 : Int64) else J r i), k + 1 + n, s + n + n * w) = (SHk L (k + 1 + n), rowsP P k n, I, J, k + 1 + n, s + n + n * w)
  have e1 : (fun r => if r < k then SHk L k r else if r = k then some (.inr (.array .int, n)) else if r < k + 1 + n then some (.inr (.int, w)) else SHk L k r) = SHk L (k + 1 + n) := by
    funext r
    by_cases z1 : r < k
    · rw [if_pos z1, SHk_at z1 (by omega), SHk_at (by omega) (by omega)]
    · rw [if_neg z1]
      by_cases z2 : r = k
      · subst z2
        rw [if_pos rfl, SHk_at (by omega) (by omega), hs]
      · rw [if_neg z2]
        by_cases z3 : r < k + 1 + n
        · obtain ⟨j, rfl⟩ : ∃ j, r = k + 1 + j := ⟨r - (k + 1), by omega⟩
          rw [if_pos z3, SHk_at z3 hk, hw j (by omega)]
        · rw [if_neg z3]
          unfold SHk
          rw [if_neg z1, if_neg z3]
  have e2 : (fun r i => if r = k then (if i < n then some (r + 1 + i) else none) else if k < r ∧ r < k + 1 + n then none else P r i) = rowsP P k n := by
    funext r i
    unfold rowsP
    by_cases z1 : r = k
    · rw [if_pos z1]
      by_cases z2 : i < n
      · rw [if_pos z2, if_pos ⟨z1, z2⟩]
      · rw [if_neg z2, if_neg (fun z => z2 z.2), h.1 r i (Or.inl (by omega))]
    · rw [if_neg z1, if_neg (show ¬ (r = k ∧ i < n) from fun z => z1 z.1)]
      by_cases z2 : k < r ∧ r < k + 1 + n
      · rw [if_pos z2, h.1 r i (Or.inl (by omega))]
      · rw [if_neg z2]
  have e3 : (fun r i => if k ≤ r ∧ r < k + 1 + n then (0 : Int32) else I r i) = I := by
    funext r i
    by_cases z : k ≤ r ∧ r < k + 1 + n
    · rw [if_pos z, h.2.1 r z.1 (by omega)]
    · rw [if_neg z]
  have e4 : (fun r i => if k ≤ r ∧ r < k + 1 + n then (0 : Int64) else J r i) = J := by
    funext r i
    by_cases z : k ≤ r ∧ r < k + 1 + n
    · rw [if_pos z, h.2.2 r z.1 (by omega)]
    · rw [if_neg z]
  rw [e1, e2, e3, e4]
/-- sizes of arrays -/
theorem sz_n {n : Int} (h1 : 0 ≤ n) (h2 : n ≤ 1000) : (j_k n < 0 ∨ 100000 < (j_k n).toNatClampNeg) = False := by
  rw [k_lt0 (by omega) (by omega), k_nat (by omega) (by omega)]
  exact eq_false (by omega)
theorem sz_m {n w : Int} (h1 : 0 ≤ n) (h2 : n ≤ 1000) (h3 : 0 ≤ w) (h4 : w ≤ 1000) : (j_k n < 0 ∨ j_k w < 0 ∨ 1000 < (j_k n).toNatClampNeg ∨ 1000 < (j_k w).toNatClampNeg) = False := by
  rw [k_lt0 (by omega) (by omega), k_nat (by omega) (by omega), k_lt0 (by omega) (by omega), k_nat (by omega) (by omega)]
  exact eq_false (by omega)
theorem lt_jb {a : Nat} (h : a < 1000000) : (a < j_b) = True := eq_true h
end CTORS
