/-! ===== THE MACHINE FOLLOWS THE LITTLE MACHINE, part 1: pictures of stores in the heap ===== -/
def j_T : Nat → u_T := fun k => match k with
  | 0 => TX0 | 1 => TX1 | 2 => TX2 | 3 => TX3 | 4 => TX4 | 5 => TX5 | 6 => TX6 | _ => TX7
def j_ty : Nat → Nat → FieldType := fun k => match k with
  | 0 => tyX0 | 1 => tyX1 | 2 => tyX2 | 3 => tyX3 | 4 => tyX4 | 5 => tyX5 | 6 => tyX6 | _ => tyX7
def j_nf : Nat → Nat := fun k => match k with
  | 0 => 10 | 1 => 6 | 2 => 5 | 3 => 9 | 4 => 2 | 5 => 4 | 6 => 16 | _ => 4
theorem m_c8 {P : Nat → Prop} (h0 : P 0) (h1 : P 1) (h2 : P 2) (h3 : P 3) (h4 : P 4) (h5 : P 5) (h6 : P 6) (h7 : P 7) {k : Nat} (hk : k < 8) : P k := by
  rcases k with _ | _ | _ | _ | _ | _ | _ | _ | k
  · exact h0
  · exact h1
  · exact h2
  · exact h3
  · exact h4
  · exact h5
  · exact h6
  · exact h7
  · omega
theorem j_cls_get {k : Nat} (hk : k < 8) : j_cls[k]? = some (j_CN k, j_T k, j_nf k) := m_c8 (P := fun k => j_cls[k]? = some (j_CN k, j_T k, j_nf k)) rfl rfl rfl rfl rfl rfl rfl rfl hk
theorem j_ty_ok {c : Nat} (hc : c < 8) : ∀ k, k < j_nf c → parseFieldDescriptor (j_T c k).2.2.1 = some (j_ty c k) := m_c8 (P := fun c => ∀ k, k < j_nf c → parseFieldDescriptor (j_T c k).2.2.1 = some (j_ty c k)) tyX0_ok tyX1_ok tyX2_ok tyX3_ok tyX4_ok tyX5_ok tyX6_ok tyX7_ok hc
theorem j_nm {c : Nat} (hc : c < 8) : ∀ a, a < j_nf c → ∀ b, b < j_nf c → a ≠ b → (j_T c a).2.1 ≠ (j_T c b).2.1 := m_c8 (P := fun c => ∀ a, a < j_nf c → ∀ b, b < j_nf c → a ≠ b → (j_T c a).2.1 ≠ (j_T c b).2.1) nmX0 nmX1 nmX2 nmX3 nmX4 nmX5 nmX6 nmX7 hc
/-- addresses, values -/
def m_ad (ρ τ : Nat → Nat) (r : Nat) : Nat := if r < j_b then ρ r else τ (r - j_b)
theorem m_ad_lt {ρ τ : Nat → Nat} {r : Nat} (h : r < j_b) : m_ad ρ τ r = ρ r := if_pos h
theorem m_ad_ro {ρ τ : Nat → Nat} {k : Nat} : m_ad ρ τ (j_b + k) = τ k := by
  unfold m_ad
  rw [if_neg (by omega), Nat.add_sub_cancel_left]
def m_v (ρ τ : Nat → Nat) : Value → Value
  | .ref r => .ref (m_ad ρ τ r)
  | v => v
theorem m_v_cat (ρ τ : Nat → Nat) (v : Value) : (m_v ρ τ v).category = v.category := by cases v <;> rfl
def m_rf (ρ τ : Nat → Nat) (o : Option Nat) : Option Nat := o.map (m_ad ρ τ)
/-- what a field of a type holds -/
def m_f (ρ τ : Nat → Nat) (σ : Sto) (r k : Nat) (ty : FieldType) : Value := match ty with
  | .long => .long (σ.2.2.2.1 r k)
  | .object _ => va_rf (m_rf ρ τ (σ.2.1 r k))
  | .array _ => va_rf (m_rf ρ τ (σ.2.1 r k))
  | _ => .int (σ.2.2.1 r k)
def m_fs (ρ τ : Nat → Nat) (σ : Sto) (r c : Nat) : List Value := (List.range (j_nf c)).map fun k => m_f ρ τ σ r k (j_ty c k)
def m_ar (ρ τ : Nat → Nat) (σ : Sto) (r : Nat) (ty : FieldType) : (Nat → Int32) ⊕ (Nat → Int64) ⊕ (Nat → UInt32) ⊕ (Nat → UInt64) ⊕ (Nat → Option Nat) := match ty with
  | .long => .inr (.inl (σ.2.2.2.1 r))
  | .object _ => .inr (.inr (.inr (.inr fun k => m_rf ρ τ (σ.2.1 r k))))
  | .array _ => .inr (.inr (.inr (.inr fun k => m_rf ρ τ (σ.2.1 r k))))
  | _ => .inl (σ.2.2.1 r)
def m_E (cA : FieldType → ClassId) (ρ τ : Nat → Nat) (σ : Sto) (r : Nat) : va_E := match σ.1 r with
  | some (.inl c) => .inr (c, m_fs ρ τ σ r c)
  | some (.inr (ty, n)) => .inl (cA ty, n, m_ar ρ τ σ r ty)
  | none => .inl (0, 0, .inl fun _ => 0)
def m_ws (cA : FieldType → ClassId) (ρ τ : Nat → Nat) (σ : Sto) : va_W := (List.range (s_n σ)).map fun r => (ρ r, m_E cA ρ τ σ r)
theorem m_E_obj {cA : FieldType → ClassId} {ρ τ : Nat → Nat} {σ : Sto} {r c : Nat} (h : σ.1 r = some (.inl c)) : m_E cA ρ τ σ r = .inr (c, m_fs ρ τ σ r c) := by
  unfold m_E
  rw [h]
theorem m_E_arr {cA : FieldType → ClassId} {ρ τ : Nat → Nat} {σ : Sto} {r n : Nat} {ty : FieldType} (h : σ.1 r = some (.inr (ty, n))) : m_E cA ρ τ σ r = .inl (cA ty, n, m_ar ρ τ σ r ty) := by
  unfold m_E
  rw [h]
theorem m_E_ext {cA : FieldType → ClassId} {ρ ρ' τ : Nat → Nat} {σ σ' : Sto} {r : Nat} (h1 : σ'.1 r = σ.1 r) (h2 : ∀ k, m_rf ρ' τ (σ'.2.1 r k) = m_rf ρ τ (σ.2.1 r k)) (h3 : σ'.2.2.1 r = σ.2.2.1 r) (h4 : σ'.2.2.2.1 r = σ.2.2.2.1 r) : m_E cA ρ' τ σ' r = m_E cA ρ τ σ r := by
  have hf : ∀ k ty, m_f ρ' τ σ' r k ty = m_f ρ τ σ r k ty := fun k ty => by
    cases ty <;> simp only [m_f, h2, h3, h4]
  have ha : ∀ ty, m_ar ρ' τ σ' r ty = m_ar ρ τ σ r ty := fun ty => by
    cases ty <;> simp only [m_ar, h2, h3, h4]
  unfold m_E
  rw [h1]
  cases σ.1 r with
  | none => rfl
  | some x =>
    cases x with
    | inl c =>
      show Sum.inr (c, m_fs ρ' τ σ' r c) = Sum.inr (c, m_fs ρ τ σ r c)
      unfold m_fs
      simp only [hf]
    | inr q =>
      show Sum.inl (cA q.1, q.2, m_ar ρ' τ σ' r q.1) = Sum.inl (cA q.1, q.2, m_ar ρ τ σ r q.1)
      rw [ha]
theorem m_ws_get {cA : FieldType → ClassId} {ρ τ : Nat → Nat} {σ : Sto} {r : Nat} (h : r < s_n σ) : (m_ws cA ρ τ σ)[r]? = some (ρ r, m_E cA ρ τ σ r) := by
  unfold m_ws
  rw [List.getElem?_map, List.getElem?_range h]
  rfl
theorem m_ws_len {cA : FieldType → ClassId} {ρ τ : Nat → Nat} {σ : Sto} : (m_ws cA ρ τ σ).length = s_n σ := by
  unfold m_ws
  rw [List.length_map, List.length_range]
theorem m_ws_some {cA : FieldType → ClassId} {ρ τ : Nat → Nat} {σ : Sto} {k : Nat} {q : Nat × va_E} (h : (m_ws cA ρ τ σ)[k]? = some q) : k < s_n σ ∧ q = (ρ k, m_E cA ρ τ σ k) := by
  have hk : k < s_n σ := by
    have := (List.getElem?_eq_some_iff.mp h).1
    rwa [m_ws_len] at this
  rw [m_ws_get hk] at h
  exact ⟨hk, (Option.some.inj h).symm⟩
theorem m_ws_set {cA : FieldType → ClassId} {ρ τ : Nat → Nat} {σ σ' : Sto} {r : Nat} {e : va_E} (hn : s_n σ' = s_n σ) (ho : ∀ q, q ≠ r → m_E cA ρ τ σ' q = m_E cA ρ τ σ q) (he : e = m_E cA ρ τ σ' r) : (m_ws cA ρ τ σ).set r (ρ r, e) = m_ws cA ρ τ σ' := by
  apply List.ext_getElem?
  intro i
  rw [List.getElem?_set]
  by_cases hi : i < s_n σ
  · rw [m_ws_get (show i < s_n σ' by rw [hn]; exact hi)]
    by_cases h : r = i
    · subst h
      rw [if_pos rfl, if_pos (by rw [m_ws_len]; exact hi), he]
    · rw [if_neg h, m_ws_get hi, ho i (fun z => h z.symm)]
  · have h1 : (m_ws cA ρ τ σ)[i]? = none := List.getElem?_eq_none (by rw [m_ws_len]; omega)
    have h2 : (m_ws cA ρ τ σ')[i]? = none := List.getElem?_eq_none (by rw [m_ws_len, hn]; omega)
    rw [h1, h2]
    by_cases h : r = i
    · rw [if_pos h, if_neg (by rw [m_ws_len]; omega)]
    · rw [if_neg h]
theorem u1_same {α : Type} (f : Nat → α) (k : Nat) (v : α) : u1 f k v k = v := if_pos rfl
theorem u1_ne {α : Type} {f : Nat → α} {k j : Nat} {v : α} (h : j ≠ k) : u1 f k v j = f j := if_neg h
theorem u2_row {α : Type} {f : Nat → Nat → α} {r k q : Nat} {v : α} (h : q ≠ r) : u2 f r k v q = f q := if_neg h
theorem u2_self {α : Type} (f : Nat → Nat → α) (r k : Nat) (v : α) : u2 f r k v r = u1 (f r) k v := if_pos rfl
/-- which references may stand anywhere -/
def m_ok (n : Nat) : Value → Prop
  | .ref r => r < n ∨ j_b ≤ r
  | _ => True
theorem m_ok_le {n n' : Nat} (h : n ≤ n') {v : Value} (hv : m_ok n v) : m_ok n' v := by
  cases v <;> first | trivial | exact hv.elim (fun z => Or.inl (Nat.lt_of_lt_of_le z h)) Or.inr
theorem m_v_ext {ρ ρ' τ : Nat → Nat} {n : Nat} (h : ∀ r, r < n → ρ' r = ρ r) (hb : n ≤ j_b) {v : Value} (hv : m_ok n v) : m_v ρ' τ v = m_v ρ τ v := by
  cases v with
  | ref r =>
    show Value.ref (m_ad ρ' τ r) = Value.ref (m_ad ρ τ r)
    unfold m_ad
    by_cases hr : r < j_b
    · rw [if_pos hr, if_pos hr, h r (hv.elim id fun z => absurd hr (Nat.not_lt.mpr z))]
    · rw [if_neg hr, if_neg hr]
  | _ => rfl
/-- what is true of a store by itself -/
def m_Wf (rn : Nat → Nat) (rx : Nat → Nat → Int32) (σ : Sto) : Prop :=
  (∀ r, σ.1 r ≠ none → r < s_n σ ∨ ∃ k, k < 5 ∧ r = j_b + k) ∧ s_n σ ≤ j_b ∧ (∀ k, k < 5 → σ.1 (j_b + k) = some (.inr (.int, rn k)) ∧ σ.2.2.1 (j_b + k) = rx k) ∧ (∀ r k q, r < s_n σ → σ.2.1 r k = some q → q < s_n σ ∨ j_b ≤ q)
/-- the tables and the script, which stand before the call and stay -/
def j_sC : Nat → String := fun k => match k with
  | 0 => RX2 | 1 => RX2 | _ => RX1
def j_sN : Nat → String := fun k => match k with
  | 0 => "SIGNS" | 1 => "LETTERS" | 2 => "ACROSS" | _ => "DOWN"
/-- words of the tables that hold of a state, not of its first tables alone -/
def j_isN : Jvm.Cond → Bool
  | .methodLinkNest .. => true
  | .arrayOver .. => true
  | _ => false
def m_X (U : State) : Prop := ∀ w ∈ lw_tbl, j_isN w = true → w.before #[] U = true
theorem m_aoF {vm vm' : Vm} (h : vm.Alike vm') (f : Class → Bool) (hf : ∀ k : Class, f k.bare = f k) : vm'.classes.findIdx? f = vm.classes.findIdx? f := by
  have e : ∀ v : Vm, v.bare.classes.findIdx? f = v.classes.findIdx? f := fun v => by
    simp only [Vm.bare, Array.findIdx?_map]
    congr 1; funext k; exact hf k
  rw [← e vm', ← e vm, h.bare_eq]
theorem m_ao {ty : FieldType} {u U : State} (h : u.vm.Alike U.vm) (h1 : (Jvm.Cond.arrayOver ty).before #[] u = true) : (Jvm.Cond.arrayOver ty).before #[] U = true := by
  rw [← h1]
  simp only [Jvm.Cond.before, Jvm.Cond.holds, Jvm.Cond.value, h.findClass]
  congr 1
  congr 1
  funext comp
  rw [m_aoF h _ (fun k => rfl)]
  congr 1
  funext c
  exact h.class_map _ (fun k r _ _ => rfl) c
theorem m_X.same {u U : State} (h : u.vm = U.vm) (hX : m_X u) : m_X U := fun w hw hn => by
  have h1 := hX w hw hn
  cases w <;> first | exact va_tabs rfl h h1 | exact m_ao (by rw [h]; exact Vm.Alike.refl _) h1 | cases hn
theorem m_X.warm {u U : State} (hW : u.WarmedH U.vm) (hX : m_X u) : m_X U := fun w hw hn => by
  have h1 := hX w hw hn
  cases w <;> first | exact va_Nw.warmM hW h1 | exact m_ao hW.alike h1 | cases hn
def m_G (τ rn : Nat → Nat) (rx : Nat → Nat → Int32) (A : Nat → Prop) (U : State) (H : Heap) : Prop :=
  (m_X U ∧ ∀ k, k < 4 → va_Z (j_sC k) (j_sN k) "[I" (.ref (τ k)) A U H) ∧ ∀ k, k < 5 → va_T .int (τ k) (rn k) (fun j => .int (rx k j)) A U H
theorem m_G.warm {τ rn : Nat → Nat} {rx : Nat → Nat → Int32} {A : Nat → Prop} {u U : State} {H : Heap} (hW : u.WarmedH U.vm) (h : m_G τ rn rx A u H) : m_G τ rn rx A U H := ⟨⟨h.1.1.warm hW, fun k hk => va_Z.moved hW.alike (h.1.2 k hk)⟩, fun k hk => va_T.moved hW.alike (h.2 k hk)⟩
theorem m_G.same {τ rn : Nat → Nat} {rx : Nat → Nat → Int32} {A : Nat → Prop} {u U : State} {H : Heap} (hv : u.vm = U.vm) (h : m_G τ rn rx A u H) : m_G τ rn rx A U H := by
  have ha : u.vm.Alike U.vm := by rw [hv]; exact Vm.Alike.refl _
  exact ⟨⟨h.1.1.same hv, fun k hk => va_Z.moved ha (h.1.2 k hk)⟩, fun k hk => va_T.moved ha (h.2 k hk)⟩
theorem m_G.kept {τ rn : Nat → Nat} {rx : Nat → Nat → Int32} {A B : Nat → Prop} {U : State} {H H1 : Heap} (h : m_G τ rn rx A U H) (hq : ∀ a : Nat, a < H.size → ¬ A a → H1[a]? = H[a]?) (hAB : ∀ q, B q → A q) : m_G τ rn rx B U H1 := ⟨⟨h.1.1, fun k hk => ((h.1.2 k hk).kept hq).narrow hAB⟩, fun k hk => ((h.2 k hk).kept hq).narrow hAB⟩
def m_TYL : List FieldType := [.int, .int, .int, .long, .object RX0, .array .int]
def m_tys (cA : FieldType → ClassId) : List (ClassId × FieldType) := m_TYL.map fun ty => (cA ty, ty)
/-- the store σ, seen in the heap H -/
def m_Inv (dC : Nat → ClassId) (dI : Nat → Nat → Nat) (cA : FieldType → ClassId) (τ rn : Nat → Nat) (rx : Nat → Nat → Int32) (A : Nat → Prop) (s : State) (ρ : Nat → Nat) (σ : Sto) (H : Heap) (locs : List Loc) : Prop :=
  va_P (dC, dI) j_cls (m_ws cA ρ τ σ) H ∧ va_D A (m_ws cA ρ τ σ) ∧ va_S A s.heap H locs ∧ m_Wf rn rx σ
def m_LR (ρ τ : Nat → Nat) (nL n : Nat) (ls : Array Slot) (L : j_L) : Prop :=
  L.length = nL ∧ (∃ lv : List (Nat × Value), lv_has ls nL lv ∧ ∀ (k : Nat) (v : Value), L[k]? = some (some v) → (k, m_v ρ τ v) ∈ lv) ∧ ∀ v, some v ∈ L → m_ok n v
theorem m_LR_at {ρ τ : Nat → Nat} {nL n : Nat} {ls : Array Slot} {L : j_L} (h : m_LR ρ τ nL n ls L) {k : Nat} {v : Value} (hk : L[k]? = some (some v)) : ls[k]? = some (.val (m_v ρ τ v)) := by
  obtain ⟨-, ⟨lv, h1, h2⟩, -⟩ := h
  exact h1.2.2 _ (h2 k v hk)
theorem m_LR_ok {ρ τ : Nat → Nat} {nL n : Nat} {ls : Array Slot} {L : j_L} (h : m_LR ρ τ nL n ls L) {k : Nat} {v : Value} (hk : L[k]? = some (some v)) : m_ok n v := h.2.2 v (List.mem_of_getElem? hk)
theorem m_LR_sz {ρ τ : Nat → Nat} {nL n : Nat} {ls : Array Slot} {L : j_L} (h : m_LR ρ τ nL n ls L) : ls.size = nL := by
  obtain ⟨-, ⟨lv, h1, -⟩, -⟩ := h
  exact h1.1
theorem j_st1_eq : ∀ (L : j_L) (k : Nat) (v : Value), j_st1 L k v = (j_kill L k).set k (some v)
  | [], k, v => by cases k <;> simp [j_st1, j_kill]
  | x :: r, 0, v => by simp [j_st1, j_kill]
  | x :: r, 1, v => by
    have e : j_st1 r 0 v = r.set 0 (some v) := by cases r <;> simp [j_st1]
    cases x with
    | none => simp [j_st1, j_kill, j_killv, e]
    | some u => by_cases h : u.category = 2 <;> simp [j_st1, j_kill, j_killv, h, e]
  | x :: r, k + 2, v => by
    have ih := j_st1_eq r (k + 1) v
    rw [show j_st1 (x :: r) (k + 2) v = x :: j_st1 r (k + 1) v from rfl, ih]
    have e : j_kill (x :: r) (k + 2) = x :: j_kill r (k + 1) := by
      unfold j_kill
      dsimp only
      rw [List.getElem?_cons_succ]
      rcases hr : r[k]? with _ | (_ | u)
      · rfl
      · rfl
      · by_cases h : u.category = 2
        · simp [h]
        · simp [h]
    rw [e, List.set_cons_succ]
theorem j_st2_eq : ∀ (L : j_L) (k : Nat) (v : Value), j_st2 L k v = ((j_kill L k).set k (some v)).set (k + 1) none
  | [], k, v => by cases k <;> simp [j_st2, j_kill]
  | x :: r, 0, v => by cases r <;> simp [j_st2, j_kill]
  | x :: r, 1, v => by
    have e : j_st2 r 0 v = (r.set 0 (some v)).set 1 none := by
      rcases r with _ | ⟨a, _ | ⟨b, r⟩⟩ <;> simp [j_st2]
    cases x with
    | none => simp [j_st2, j_kill, j_killv, e]
    | some u => by_cases h : u.category = 2 <;> simp [j_st2, j_kill, j_killv, h, e]
  | x :: r, k + 2, v => by
    have ih := j_st2_eq r (k + 1) v
    rw [show j_st2 (x :: r) (k + 2) v = x :: j_st2 r (k + 1) v from rfl, ih]
    have e : j_kill (x :: r) (k + 2) = x :: j_kill r (k + 1) := by
      unfold j_kill
      dsimp only
      rw [List.getElem?_cons_succ]
      rcases hr : r[k]? with _ | (_ | u)
      · rfl
      · rfl
      · by_cases h : u.category = 2
        · simp [h]
        · simp [h]
    rw [e, List.set_cons_succ, List.set_cons_succ]
theorem m_kill_len (L : j_L) (k : Nat) : (j_kill L k).length = L.length := by
  unfold j_kill
  cases k with
  | zero => rfl
  | succ q =>
    dsimp only
    split
    · split
      · simp
      · rfl
    · rfl
theorem m_kill_get {L : j_L} {k j : Nat} {w : Value} (h : (j_kill L k)[j]? = some (some w)) : L[j]? = some (some w) ∧ ¬ (j + 1 = k ∧ w.category = 2) := by
  unfold j_kill at h
  cases k with
  | zero => exact ⟨h, fun z => by omega⟩
  | succ q =>
    dsimp only at h
    split at h
    next v hv =>
      split at h
      next hc =>
        rw [List.getElem?_set] at h
        by_cases e : q = j
        · rw [if_pos e] at h
          split at h <;> cases h
        · rw [if_neg e] at h
          exact ⟨h, fun z => e (by omega)⟩
      next hc =>
        refine ⟨h, fun z => ?_⟩
        have e : q = j := by omega
        subst e
        rw [hv] at h
        cases h
        exact hc z.2
    next hv =>
      refine ⟨h, fun z => ?_⟩
      have e : q = j := by omega
      subst e
      exact hv w h
theorem m_LR_st1 {ρ τ : Nat → Nat} {nL n : Nat} {ls' : Array Slot} {L : j_L} {i : Nat} {v : Value} {lv : List (Nat × Value)} (hlen : L.length = nL) (h2 : ∀ (k : Nat) (v : Value), L[k]? = some (some v) → (k, m_v ρ τ v) ∈ lv) (h3 : ∀ v, some v ∈ L → m_ok n v) (hv : m_ok n v)
    (h : lv_has ls' nL ((i, m_v ρ τ v) :: lv.filter (fun q => !(q.1 == i) && !(q.1 + 1 == i && q.2.category == 2)))) : m_LR ρ τ nL n ls' (j_st1 L i v) := by
  have key : ∀ (k : Nat) (w : Value), (j_st1 L i v)[k]? = some (some w) → (k = i ∧ w = v) ∨ (k ≠ i ∧ L[k]? = some (some w) ∧ ¬ (k + 1 = i ∧ w.category = 2)) := by
    intro k w hk
    rw [j_st1_eq] at hk
    rw [List.getElem?_set] at hk
    by_cases e : i = k
    · rw [if_pos e] at hk
      split at hk
      · cases hk
        exact Or.inl ⟨e.symm, rfl⟩
      · cases hk
    · rw [if_neg e] at hk
      obtain ⟨a, b⟩ := m_kill_get hk
      exact Or.inr ⟨fun z => e z.symm, a, b⟩
  refine ⟨by rw [j_st1_eq, List.length_set, m_kill_len, hlen], ⟨_, h, fun k w hk => ?_⟩, fun w hw => ?_⟩
  · rcases key k w hk with ⟨rfl, rfl⟩ | ⟨e, a, b⟩
    · exact List.mem_cons_self
    · refine List.mem_cons_of_mem _ (List.mem_filter.mpr ⟨h2 k w a, ?_⟩)
      rw [m_v_cat]
      by_cases e1 : k + 1 = i
      · have : ¬ w.category = 2 := fun z => b ⟨e1, z⟩
        simp [e, this]
      · simp [e, e1]
  · obtain ⟨k, hk⟩ := List.getElem?_of_mem hw
    rcases key k w hk with ⟨-, rfl⟩ | ⟨-, a, -⟩
    · exact hv
    · exact h3 w (List.mem_of_getElem? a)
theorem m_LR_st2 {ρ τ : Nat → Nat} {nL n : Nat} {ls' : Array Slot} {L : j_L} {i : Nat} {v : Value} {lv : List (Nat × Value)} (hlen : L.length = nL) (h2 : ∀ (k : Nat) (v : Value), L[k]? = some (some v) → (k, m_v ρ τ v) ∈ lv) (h3 : ∀ v, some v ∈ L → m_ok n v) (hv : m_ok n v)
    (h : lv_has ls' nL ((i, m_v ρ τ v) :: lv.filter (fun q => !(q.1 == i) && (!(q.1 == i + 1) && !(q.1 + 1 == i && q.2.category == 2))))) : m_LR ρ τ nL n ls' (j_st2 L i v) := by
  have key : ∀ (k : Nat) (w : Value), (j_st2 L i v)[k]? = some (some w) → (k = i ∧ w = v) ∨ (k ≠ i ∧ k ≠ i + 1 ∧ L[k]? = some (some w) ∧ ¬ (k + 1 = i ∧ w.category = 2)) := by
    intro k w hk
    rw [j_st2_eq] at hk
    rw [List.getElem?_set] at hk
    by_cases e2 : i + 1 = k
    · rw [if_pos e2] at hk
      split at hk <;> cases hk
    · rw [if_neg e2, List.getElem?_set] at hk
      by_cases e : i = k
      · rw [if_pos e] at hk
        split at hk
        · cases hk
          exact Or.inl ⟨e.symm, rfl⟩
        · cases hk
      · rw [if_neg e] at hk
        obtain ⟨a, b⟩ := m_kill_get hk
        exact Or.inr ⟨fun z => e z.symm, fun z => e2 z.symm, a, b⟩
  refine ⟨by rw [j_st2_eq, List.length_set, List.length_set, m_kill_len, hlen], ⟨_, h, fun k w hk => ?_⟩, fun w hw => ?_⟩
  · rcases key k w hk with ⟨rfl, rfl⟩ | ⟨e, e2, a, b⟩
    · exact List.mem_cons_self
    · refine List.mem_cons_of_mem _ (List.mem_filter.mpr ⟨h2 k w a, ?_⟩)
      rw [m_v_cat]
      by_cases e1 : k + 1 = i
      · have : ¬ w.category = 2 := fun z => b ⟨e1, z⟩
        simp [e, e2, this]
      · simp [e, e2, e1]
  · obtain ⟨k, hk⟩ := List.getElem?_of_mem hw
    rcases key k w hk with ⟨-, rfl⟩ | ⟨-, -, a, -⟩
    · exact hv
    · exact h3 w (List.mem_of_getElem? a)
theorem m_cut_get {L : j_L} {w k : Nat} {v : Value} (h : (j_cut w L)[k]? = some (some v)) : L[k]? = some (some v) := by
  unfold j_cut at h
  by_cases hk : k < (L.take w).length
  · rw [List.getElem?_append_left hk, List.getElem?_take] at h
    split at h
    · exact h
    · cases h
  · rw [List.getElem?_append_right (by omega), List.getElem?_replicate] at h
    split at h <;> cases h
theorem m_LR_cut {ρ τ : Nat → Nat} {nL n : Nat} {ls : Array Slot} {L : j_L} (w : Nat) (h : m_LR ρ τ nL n ls L) : m_LR ρ τ nL n ls (j_cut w L) := by
  obtain ⟨h1, ⟨lv, h2, h3⟩, h4⟩ := h
  refine ⟨by unfold j_cut; simp; omega, ⟨lv, h2, fun k v hk => h3 k v (m_cut_get hk)⟩, fun v hv => ?_⟩
  obtain ⟨k, hk⟩ := List.getElem?_of_mem hv
  exact h4 v (List.mem_of_getElem? (m_cut_get hk))
theorem m_LR_ext {ρ ρ' τ : Nat → Nat} {nL n n' : Nat} {ls : Array Slot} {L : j_L} (h : m_LR ρ τ nL n ls L) (hn : n ≤ n') (hb : n ≤ j_b) (he : ∀ r, r < n → ρ' r = ρ r) : m_LR ρ' τ nL n' ls L := by
  obtain ⟨h1, ⟨lv, h2, h3⟩, h4⟩ := h
  refine ⟨h1, ⟨lv, h2, fun k v hk => ?_⟩, fun v hv => m_ok_le hn (h4 v hv)⟩
  rw [m_v_ext he hb (h4 v (List.mem_of_getElem? hk))]
  exact h3 k v hk
/-- the locals at the entry -/
theorem m_ent_len : ∀ as : List Value, (j_ent0 as).length = (lg_sl as).length
  | [] => rfl
  | v :: vs => by
    unfold j_ent0 lg_sl
    rw [List.flatMap_cons, List.length_append]
    have ih := m_ent_len vs
    unfold lg_sl at ih
    split
    · simp [ih]; omega
    · simp [ih]; omega
theorem m_ent_get (ρ τ : Nat → Nat) : ∀ (as : List Value) (i k : Nat) (v : Value), (j_ent0 as)[k]? = some (some v) → (i + k, m_v ρ τ v) ∈ lv_args i (as.map (m_v ρ τ)) ∧ v ∈ as
  | [], _, _, _, h => by simp [j_ent0] at h
  | a :: as, i, k, v, h => by
    rw [List.map_cons]
    unfold lv_args
    rw [m_v_cat]
    unfold j_ent0 at h
    by_cases hc : a.category = 2
    · rw [if_pos hc] at h ⊢
      match k, h with
      | 0, h => simp at h; subst h; exact ⟨List.mem_cons_self, List.mem_cons_self⟩
      | 1, h => simp at h
      | k + 2, h =>
        rw [List.getElem?_cons_succ, List.getElem?_cons_succ] at h
        obtain ⟨q1, q2⟩ := m_ent_get ρ τ as (i + 2) k v h
        exact ⟨List.mem_cons_of_mem _ (by rw [show i + (k + 2) = i + 2 + k by omega]; exact q1), List.mem_cons_of_mem _ q2⟩
    · rw [if_neg hc] at h ⊢
      match k, h with
      | 0, h => simp at h; subst h; exact ⟨List.mem_cons_self, List.mem_cons_self⟩
      | k + 1, h =>
        rw [List.getElem?_cons_succ] at h
        obtain ⟨q1, q2⟩ := m_ent_get ρ τ as (i + 1) k v h
        exact ⟨List.mem_cons_of_mem _ (by rw [show i + (k + 1) = i + 1 + k by omega]; exact q1), List.mem_cons_of_mem _ q2⟩
theorem m_sl_map (ρ τ : Nat → Nat) (as : List Value) : (lg_sl (as.map (m_v ρ τ))).length = (lg_sl as).length := by
  induction as with
  | nil => rfl
  | cons a as ih =>
    unfold lg_sl at ih ⊢
    rw [List.map_cons, List.flatMap_cons, List.flatMap_cons, List.length_append, List.length_append, ih, m_v_cat]
    split <;> rfl
theorem m_LR_ent {ρ τ : Nat → Nat} {nL n : Nat} {as : List Value} (hw : ∀ v ∈ as, m_ok n v) (hl : (j_ent0 as).length ≤ nL) : m_LR ρ τ nL n ((lg_sl (as.map (m_v ρ τ)) ++ List.replicate (nL - (lg_sl (as.map (m_v ρ τ))).length) Slot.unset).toArray) (j_ent nL as) := by
  have h := lv_entry (as.map (m_v ρ τ)) (n := nL) (by rw [m_sl_map, ← m_ent_len]; exact hl)
  have key : ∀ (k : Nat) (v : Value), (j_ent nL as)[k]? = some (some v) → (j_ent0 as)[k]? = some (some v) := by
    intro k v hk
    unfold j_ent at hk
    by_cases hl : k < (j_ent0 as).length
    · rwa [List.getElem?_append_left hl] at hk
    · rw [List.getElem?_append_right (by omega), List.getElem?_replicate] at hk
      split at hk <;> cases hk
  refine ⟨by unfold j_ent; simp; omega, ⟨_, h, fun k v hk => ?_⟩, fun v hv => ?_⟩
  · have := (m_ent_get ρ τ as 0 k v (key k v hk)).1
    rwa [Nat.zero_add] at this
  · obtain ⟨k, hk⟩ := List.getElem?_of_mem hv
    exact hw v (m_ent_get ρ τ as 0 k v (key k v hk)).2
/-- a place of an object written -/
theorem m_fs_get {ρ τ : Nat → Nat} {σ : Sto} {r c k : Nat} (hk : k < j_nf c) : (m_fs ρ τ σ r c)[k]? = some (m_f ρ τ σ r k (j_ty c k)) := by
  unfold m_fs
  rw [List.getElem?_map, List.getElem?_range hk]
  rfl
theorem m_fs_len {ρ τ : Nat → Nat} {σ : Sto} {r c : Nat} : (m_fs ρ τ σ r c).length = j_nf c := by
  unfold m_fs
  rw [List.length_map, List.length_range]
theorem m_fs_set {ρ τ : Nat → Nat} {σ σ' : Sto} {r c k : Nat} {v : Value} (hk : k < j_nf c) (hv : v = m_f ρ τ σ' r k (j_ty c k)) (ho : ∀ j, j ≠ k → m_f ρ τ σ' r j (j_ty c j) = m_f ρ τ σ r j (j_ty c j)) : (m_fs ρ τ σ r c).set k v = m_fs ρ τ σ' r c := by
  apply List.ext_getElem?
  intro i
  rw [List.getElem?_set]
  by_cases hi : i < j_nf c
  · have hR : (m_fs ρ τ σ' r c)[i]? = some (m_f ρ τ σ' r i (j_ty c i)) := m_fs_get hi
    rw [hR]
    by_cases e : k = i
    · subst e
      rw [if_pos rfl, if_pos (by rw [m_fs_len]; exact hi), hv]
    · rw [if_neg e, m_fs_get hi, ho i (fun z => e z.symm)]
  · have h1 : (m_fs ρ τ σ r c)[i]? = none := List.getElem?_eq_none (by rw [m_fs_len]; omega)
    have h2 : (m_fs ρ τ σ' r c)[i]? = none := List.getElem?_eq_none (by rw [m_fs_len]; omega)
    rw [h1, h2]
    by_cases e : k = i
    · rw [if_pos e, if_neg (by rw [m_fs_len]; omega)]
    · rw [if_neg e]
theorem m_Wf_uI {rn : Nat → Nat} {rx : Nat → Nat → Int32} {σ : Sto} {r k : Nat} {v : Int32} (hr : r < j_b) (h : m_Wf rn rx σ) : m_Wf rn rx (s_uI σ r k v) := ⟨h.1, h.2.1, fun q hq => ⟨(h.2.2.1 q hq).1, by show u2 _ r k v (j_b + q) = _; rw [u2_row (by omega)]; exact (h.2.2.1 q hq).2⟩, h.2.2.2⟩
theorem m_Wf_uJ {rn : Nat → Nat} {rx : Nat → Nat → Int32} {σ : Sto} {r k : Nat} {v : Int64} (h : m_Wf rn rx σ) : m_Wf rn rx (s_uJ σ r k v) := ⟨h.1, h.2.1, h.2.2.1, h.2.2.2⟩
theorem m_Wf_rI {rn : Nat → Nat} {rx : Nat → Nat → Int32} {σ : Sto} {r : Nat} {f : Nat → Int32} (hr : r < j_b) (h : m_Wf rn rx σ) : m_Wf rn rx (s_rI σ r f) := ⟨h.1, h.2.1, fun q hq => ⟨(h.2.2.1 q hq).1, by show u1 _ r f (j_b + q) = _; rw [u1_ne (by omega)]; exact (h.2.2.1 q hq).2⟩, h.2.2.2⟩
theorem m_Wf_uP {rn : Nat → Nat} {rx : Nat → Nat → Int32} {σ : Sto} {r k v : Nat} (hv : m_ok (s_n σ) (.ref v)) (h : m_Wf rn rx σ) : m_Wf rn rx (s_uP σ r k (some v)) := ⟨h.1, h.2.1, h.2.2.1, fun q j x hq hx => by
  by_cases e : q = r
  · subst e
    change u2 σ.2.1 q k (some v) q j = some x at hx
    rw [u2_self] at hx
    by_cases e2 : j = k
    · subst e2
      rw [u1_same] at hx
      cases hx
      exact hv
    · rw [u1_ne e2] at hx
      exact h.2.2.2 q j x hq hx
  · change u2 σ.2.1 r k (some v) q j = some x at hx
    rw [u2_row e] at hx
    exact h.2.2.2 q j x hq hx⟩
theorem m_inr {rn : Nat → Nat} {rx : Nat → Nat → Int32} {σ : Sto} (h : m_Wf rn rx σ) {r : Nat} {x : j_Sh} (hr : σ.1 r = some x) (hb : r < j_b) : r < s_n σ := (h.1 r (by rw [hr]; exact fun z => by cases z)).elim id (fun ⟨k, _, e⟩ => by omega)
theorem m_inr' {rn : Nat → Nat} {rx : Nat → Nat → Int32} {σ : Sto} (h : m_Wf rn rx σ) {r c : Nat} (hr : σ.1 r = some (.inl c)) : r < s_n σ := (h.1 r (by rw [hr]; exact fun z => by cases z)).elim id (fun ⟨k, hk, e⟩ => by
  subst e
  rw [(h.2.2.1 k hk).1] at hr
  cases hr)
theorem m_inr2 {rn : Nat → Nat} {rx : Nat → Nat → Int32} {σ : Sto} (h : m_Wf rn rx σ) {r : Nat} {x : j_Sh} (hr : σ.1 r = some x) : r < s_n σ ∨ ∃ k, k < 5 ∧ r = j_b + k := h.1 r (by rw [hr]; exact fun z => by cases z)
