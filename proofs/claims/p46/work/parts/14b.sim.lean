/-! ===== THE MACHINE FOLLOWS THE LITTLE MACHINE, part 2: instruction by instruction ===== -/
def j_ws : List Jvm.Cond := lw_tbl.filter goodWord
/-- what holds all through a method's body -/
def m_St (p : Program) (R : Room) (s : State) (m : MethodId) (args : Array Value) (c : Code) (dC : Nat → ClassId) (dI : Nat → Nat → Nat) (cA : FieldType → ClassId) (τ rn : Nat → Nat) (rx : Nat → Nat → Int32) (A : Nat → Prop) (nL own : Nat) (cc : ByteArray) : Prop :=
  p.tables.exec = Jvm.exec ∧ c.code = cc ∧ s.vm.findClass (j_CN own) = some m.cls ∧ (∀ w ∈ j_ws, w.before args s = true) ∧ va_K (dC, dI) j_cls (m_tys cA) s ∧ m_G τ rn rx A s s.heap ∧ (∀ q, s.heap.size ≤ q → A q) ∧ c.maxLocals = nL ∧ 1 ≤ R.frames ∧ 40 ≤ R.locals
/-- from here on, whatever the heap that shows σ -/
def m_at (p : Program) (l : Launch) (e : Env) (R : Room) (s : State) (m : MethodId) (args : Array Value) (below : List Frame) (meth : Method) (c : Code) (Q : State → Prop) (dC : Nat → ClassId) (dI : Nat → Nat → Nat) (cA : FieldType → ClassId) (τ rn : Nat → Nat) (rx : Nat → Nat → Int32) (A : Nat → Prop) (nL nb lb : Nat) (ρ0 : Nat → Nat) (pc : Nat) (L : j_L) (st : List Value) (σ : Sto) : Prop :=
  ∀ (ρ : Nat → Nat) (H : Heap) (locs : List Loc) (cells slots : Nat) (ls : Array Slot), m_Inv dC dI cA τ rn rx A s ρ σ H locs → (cells + nb = s_n σ ∧ ∀ r, r < nb → ρ r = ρ0 r) → slots + lb = s_l σ → m_LR ρ τ nL (s_n σ) ls L → (∀ v ∈ st, m_ok (s_n σ) v) → W p l e R s m args below meth c H locs cells slots Q (F0 m pc ls (st.map (m_v ρ τ)))
theorem m_wt {n : Nat} {a : Value} {st : List Value} (h : ∀ v ∈ a :: st, m_ok n v) : ∀ v ∈ st, m_ok n v := fun v hv => h v (List.mem_cons_of_mem _ hv)
theorem m_wi {n : Nat} {x : Int32} {st : List Value} (h : ∀ v ∈ st, m_ok n v) : ∀ v ∈ Value.int x :: st, m_ok n v := fun v hv => (List.mem_cons.mp hv).elim (fun e => e ▸ trivial) (h v)
theorem m_wj {n : Nat} {x : Int64} {st : List Value} (h : ∀ v ∈ st, m_ok n v) : ∀ v ∈ Value.long x :: st, m_ok n v := fun v hv => (List.mem_cons.mp hv).elim (fun e => e ▸ trivial) (h v)
theorem m_wr {n r : Nat} {st : List Value} (hr : m_ok n (.ref r)) (h : ∀ v ∈ st, m_ok n v) : ∀ v ∈ Value.ref r :: st, m_ok n v := fun v hv => (List.mem_cons.mp hv).elim (fun e => e ▸ hr) (h v)
theorem m_wh {n : Nat} {a : Value} {st : List Value} (h : ∀ v ∈ a :: st, m_ok n v) : m_ok n a := h a List.mem_cons_self
theorem m_vin {i : Int32} {n : Nat} (h : j_in i n) : vp_in i n := fun z => z.elim h.1 (fun z => absurd h.2 (Nat.not_lt.mpr z))
def j_P (c : ClassFile.Cond) (x y : Int32) : Prop := match c with
  | .eq => x = y
  | .ne => ¬ x = y
  | .lt => x < y
  | .ge => ¬ x < y
  | .gt => y < x
  | .le => ¬ y < x
section SIMOPS
variable {p : Program} {l : Launch} {e : Env} {R : Room} {s : State} {m : MethodId} {args : Array Value} {below : List Frame} {meth : Method} {c : Code} {Q : State → Prop} {dC : Nat → ClassId} {dI : Nat → Nat → Nat} {cA : FieldType → ClassId} {τ rn : Nat → Nat} {rx : Nat → Nat → Int32} {A : Nat → Prop} {nL nb lb own : Nat} {ρ0 : Nat → Nat} {cc : ByteArray} {pc : Nat} {L : j_L} {st : List Value} {σ : Sto}

theorem m_iconst (hS : m_St p R s m args c dC dI cA τ rn rx A nL own cc) {n : Int} (hdg : decode cc pc = .ok (.iconst n, 1)) (k : m_at p l e R s m args below meth c Q dC dI cA τ rn rx A nL nb lb ρ0 (pc + 1) (L) (.int (j_k n) :: st) (σ)) : m_at p l e R s m args below meth c Q dC dI cA τ rn rx A nL nb lb ρ0 (pc) (L) (st) (σ) := by
  intro ρ H locs cells slots ls hI hc hs hL hw
  exact lv_iconst hS.1 hS.2.1 hdg rfl (k ρ H locs cells slots ls hI hc hs hL (m_wi hw))
theorem m_bipush (hS : m_St p R s m args c dC dI cA τ rn rx A nL own cc) {n : Int} (hn : (Int8.ofInt n).toInt32 = j_k n) (hdg : decode cc pc = .ok (.bipush n, 2)) (k : m_at p l e R s m args below meth c Q dC dI cA τ rn rx A nL nb lb ρ0 (pc + 2) (L) (.int (j_k n) :: st) (σ)) : m_at p l e R s m args below meth c Q dC dI cA τ rn rx A nL nb lb ρ0 (pc) (L) (st) (σ) := by
  intro ρ H locs cells slots ls hI hc hs hL hw
  exact lv_bipush hS.1 hS.2.1 hdg hn (k ρ H locs cells slots ls hI hc hs hL (m_wi hw))
theorem m_sipush (hS : m_St p R s m args c dC dI cA τ rn rx A nL own cc) {n : Int} (hn : (Int16.ofInt n).toInt32 = j_k n) (hdg : decode cc pc = .ok (.sipush n, 3)) (k : m_at p l e R s m args below meth c Q dC dI cA τ rn rx A nL nb lb ρ0 (pc + 3) (L) (.int (j_k n) :: st) (σ)) : m_at p l e R s m args below meth c Q dC dI cA τ rn rx A nL nb lb ρ0 (pc) (L) (st) (σ) := by
  intro ρ H locs cells slots ls hI hc hs hL hw
  exact lv_sipush hS.1 hS.2.1 hdg hn (k ρ H locs cells slots ls hI hc hs hL (m_wi hw))
theorem m_lconst (hS : m_St p R s m args c dC dI cA τ rn rx A nL own cc) {n : Fin 2} (hdg : decode cc pc = .ok (.lconst n, 1)) (k : m_at p l e R s m args below meth c Q dC dI cA τ rn rx A nL nb lb ρ0 (pc + 1) (L) (.long (Int64.ofNat (n : Nat)) :: st) (σ)) : m_at p l e R s m args below meth c Q dC dI cA τ rn rx A nL nb lb ρ0 (pc) (L) (st) (σ) := by
  intro ρ H locs cells slots ls hI hc hs hL hw
  exact lv_lconst hS.1 hS.2.1 hdg rfl (k ρ H locs cells slots ls hI hc hs hL (m_wj hw))
theorem m_ldcw (hS : m_St p R s m args c dC dI cA τ rn rx A nL own cc) {idx q : Nat} (hq : Jvm.Cond.constant (j_CN own) idx (j_ci q) ∈ j_ws) (hdg : decode cc pc = .ok (.ldc_w idx, 3)) (k : m_at p l e R s m args below meth c Q dC dI cA τ rn rx A nL nb lb ρ0 (pc + 3) (L) (.int (j_ci q) :: st) (σ)) : m_at p l e R s m args below meth c Q dC dI cA τ rn rx A nL nb lb ρ0 (pc) (L) (st) (σ) := by
  intro ρ H locs cells slots ls hI hc hs hL hw
  exact lv_ldcw hS.1 hS.2.1 hS.2.2.1 (hS.2.2.2.1 _ hq) hdg (k ρ H locs cells slots ls hI hc hs hL (m_wi hw))
theorem m_ldc (hS : m_St p R s m args c dC dI cA τ rn rx A nL own cc) {idx q : Nat} (hq : Jvm.Cond.constant (j_CN own) idx (j_ci q) ∈ j_ws) (hdg : decode cc pc = .ok (.ldc idx, 2)) (k : m_at p l e R s m args below meth c Q dC dI cA τ rn rx A nL nb lb ρ0 (pc + 2) (L) (.int (j_ci q) :: st) (σ)) : m_at p l e R s m args below meth c Q dC dI cA τ rn rx A nL nb lb ρ0 (pc) (L) (st) (σ) := by
  intro ρ H locs cells slots ls hI hc hs hL hw
  exact lv_ldc hS.1 hS.2.1 hS.2.2.1 (hS.2.2.2.1 _ hq) hdg (k ρ H locs cells slots ls hI hc hs hL (m_wi hw))
theorem m_ldc2 (hS : m_St p R s m args c dC dI cA τ rn rx A nL own cc) {idx q : Nat} (hq : Jvm.Cond.constantLong (j_CN own) idx (j_cJ q) ∈ j_ws) (hdg : decode cc pc = .ok (.ldc2_w idx, 3)) (k : m_at p l e R s m args below meth c Q dC dI cA τ rn rx A nL nb lb ρ0 (pc + 3) (L) (.long (j_cJ q) :: st) (σ)) : m_at p l e R s m args below meth c Q dC dI cA τ rn rx A nL nb lb ρ0 (pc) (L) (st) (σ) := by
  intro ρ H locs cells slots ls hI hc hs hL hw
  exact lv_ldc2 hS.1 hS.2.1 hS.2.2.1 (hS.2.2.2.1 _ hq) hdg (k ρ H locs cells slots ls hI hc hs hL (m_wj hw))
theorem m_iload (hS : m_St p R s m args c dC dI cA τ rn rx A nL own cc) {k : Nat} {x : Int32} (hx : L[k]? = some (some (.int x))) (hdg : decode cc pc = .ok (.iload k, 2)) (k : m_at p l e R s m args below meth c Q dC dI cA τ rn rx A nL nb lb ρ0 (pc + 2) (L) (.int x :: st) (σ)) : m_at p l e R s m args below meth c Q dC dI cA τ rn rx A nL nb lb ρ0 (pc) (L) (st) (σ) := by
  intro ρ H locs cells slots ls hI hc hs hL hw
  exact lv_iload hS.1 hS.2.1 hdg (m_LR_at hL hx) (k ρ H locs cells slots ls hI hc hs hL (m_wi hw))
theorem m_iload_n (hS : m_St p R s m args c dC dI cA τ rn rx A nL own cc) {k : Fin 4} {x : Int32} (hx : L[k.val]? = some (some (.int x))) (hdg : decode cc pc = .ok (.iload_n k, 1)) (k : m_at p l e R s m args below meth c Q dC dI cA τ rn rx A nL nb lb ρ0 (pc + 1) (L) (.int x :: st) (σ)) : m_at p l e R s m args below meth c Q dC dI cA τ rn rx A nL nb lb ρ0 (pc) (L) (st) (σ) := by
  intro ρ H locs cells slots ls hI hc hs hL hw
  exact lv_iload_n hS.1 hS.2.1 hdg rfl (m_LR_at hL hx) (k ρ H locs cells slots ls hI hc hs hL (m_wi hw))
theorem m_lload (hS : m_St p R s m args c dC dI cA τ rn rx A nL own cc) {k : Nat} {x : Int64} (hx : L[k]? = some (some (.long x))) (hdg : decode cc pc = .ok (.lload k, 2)) (k : m_at p l e R s m args below meth c Q dC dI cA τ rn rx A nL nb lb ρ0 (pc + 2) (L) (.long x :: st) (σ)) : m_at p l e R s m args below meth c Q dC dI cA τ rn rx A nL nb lb ρ0 (pc) (L) (st) (σ) := by
  intro ρ H locs cells slots ls hI hc hs hL hw
  exact lv_lload hS.1 hS.2.1 hdg (m_LR_at hL hx) (k ρ H locs cells slots ls hI hc hs hL (m_wj hw))
theorem m_lload_n (hS : m_St p R s m args c dC dI cA τ rn rx A nL own cc) {k : Fin 4} {x : Int64} (hx : L[k.val]? = some (some (.long x))) (hdg : decode cc pc = .ok (.lload_n k, 1)) (k : m_at p l e R s m args below meth c Q dC dI cA τ rn rx A nL nb lb ρ0 (pc + 1) (L) (.long x :: st) (σ)) : m_at p l e R s m args below meth c Q dC dI cA τ rn rx A nL nb lb ρ0 (pc) (L) (st) (σ) := by
  intro ρ H locs cells slots ls hI hc hs hL hw
  exact lv_lload_n hS.1 hS.2.1 hdg rfl (m_LR_at hL hx) (k ρ H locs cells slots ls hI hc hs hL (m_wj hw))
theorem m_aload (hS : m_St p R s m args c dC dI cA τ rn rx A nL own cc) {k x : Nat} (hx : L[k]? = some (some (.ref x))) (hdg : decode cc pc = .ok (.aload k, 2)) (k : m_at p l e R s m args below meth c Q dC dI cA τ rn rx A nL nb lb ρ0 (pc + 2) (L) (.ref x :: st) (σ)) : m_at p l e R s m args below meth c Q dC dI cA τ rn rx A nL nb lb ρ0 (pc) (L) (st) (σ) := by
  intro ρ H locs cells slots ls hI hc hs hL hw
  exact lv_aload hS.1 hS.2.1 hdg (m_LR_at hL hx) (k ρ H locs cells slots ls hI hc hs hL (m_wr (m_LR_ok hL hx) hw))
theorem m_aload_n (hS : m_St p R s m args c dC dI cA τ rn rx A nL own cc) {k : Fin 4} {x : Nat} (hx : L[k.val]? = some (some (.ref x))) (hdg : decode cc pc = .ok (.aload_n k, 1)) (k : m_at p l e R s m args below meth c Q dC dI cA τ rn rx A nL nb lb ρ0 (pc + 1) (L) (.ref x :: st) (σ)) : m_at p l e R s m args below meth c Q dC dI cA τ rn rx A nL nb lb ρ0 (pc) (L) (st) (σ) := by
  intro ρ H locs cells slots ls hI hc hs hL hw
  exact lv_aload_n hS.1 hS.2.1 hdg rfl (m_LR_at hL hx) (k ρ H locs cells slots ls hI hc hs hL (m_wr (m_LR_ok hL hx) hw))
theorem m_istore (hS : m_St p R s m args c dC dI cA τ rn rx A nL own cc) {k : Nat} {x : Int32} (hk : k < L.length) (hdg : decode cc pc = .ok (.istore k, 2)) (kk : m_at p l e R s m args below meth c Q dC dI cA τ rn rx A nL nb lb ρ0 (pc + 2) (j_st1 L k (.int x)) (st) (σ)) : m_at p l e R s m args below meth c Q dC dI cA τ rn rx A nL nb lb ρ0 (pc) (L) (.int x :: st) (σ) := by
  intro ρ H locs cells slots ls hI hc hs hL hw
  obtain ⟨h1, ⟨lv, h2, h3⟩, h4⟩ := hL
  exact lv_istore hS.1 hS.2.1 hdg h2 (by rw [← h1]; exact hk) rfl (fun ls' h' => kk ρ H locs cells slots ls' hI hc hs (m_LR_st1 (v := .int x) h1 h3 h4 trivial h') (m_wt hw))
theorem m_istore_n (hS : m_St p R s m args c dC dI cA τ rn rx A nL own cc) {k : Fin 4} {x : Int32} (hk : k.val < L.length) (hdg : decode cc pc = .ok (.istore_n k, 1)) (kk : m_at p l e R s m args below meth c Q dC dI cA τ rn rx A nL nb lb ρ0 (pc + 1) (j_st1 L k.val (.int x)) (st) (σ)) : m_at p l e R s m args below meth c Q dC dI cA τ rn rx A nL nb lb ρ0 (pc) (L) (.int x :: st) (σ) := by
  intro ρ H locs cells slots ls hI hc hs hL hw
  obtain ⟨h1, ⟨lv, h2, h3⟩, h4⟩ := hL
  exact lv_istore_n hS.1 hS.2.1 hdg rfl h2 (by rw [← h1]; exact hk) rfl (fun ls' h' => kk ρ H locs cells slots ls' hI hc hs (m_LR_st1 (v := .int x) h1 h3 h4 trivial h') (m_wt hw))
theorem m_lstore (hS : m_St p R s m args c dC dI cA τ rn rx A nL own cc) {k : Nat} {x : Int64} (hk : k + 1 < L.length) (hdg : decode cc pc = .ok (.lstore k, 2)) (kk : m_at p l e R s m args below meth c Q dC dI cA τ rn rx A nL nb lb ρ0 (pc + 2) (j_st2 L k (.long x)) (st) (σ)) : m_at p l e R s m args below meth c Q dC dI cA τ rn rx A nL nb lb ρ0 (pc) (L) (.long x :: st) (σ) := by
  intro ρ H locs cells slots ls hI hc hs hL hw
  obtain ⟨h1, ⟨lv, h2, h3⟩, h4⟩ := hL
  exact lv_lstore hS.1 hS.2.1 hdg h2 (by rw [← h1]; exact hk) rfl (fun ls' h' => kk ρ H locs cells slots ls' hI hc hs (m_LR_st2 (v := .long x) h1 h3 h4 trivial h') (m_wt hw))
theorem m_lstore_n (hS : m_St p R s m args c dC dI cA τ rn rx A nL own cc) {k : Fin 4} {x : Int64} (hk : k.val + 1 < L.length) (hdg : decode cc pc = .ok (.lstore_n k, 1)) (kk : m_at p l e R s m args below meth c Q dC dI cA τ rn rx A nL nb lb ρ0 (pc + 1) (j_st2 L k.val (.long x)) (st) (σ)) : m_at p l e R s m args below meth c Q dC dI cA τ rn rx A nL nb lb ρ0 (pc) (L) (.long x :: st) (σ) := by
  intro ρ H locs cells slots ls hI hc hs hL hw
  obtain ⟨h1, ⟨lv, h2, h3⟩, h4⟩ := hL
  exact lv_lstore_n hS.1 hS.2.1 hdg rfl h2 (by rw [← h1]; exact hk) rfl (fun ls' h' => kk ρ H locs cells slots ls' hI hc hs (m_LR_st2 (v := .long x) h1 h3 h4 trivial h') (m_wt hw))
theorem m_astore (hS : m_St p R s m args c dC dI cA τ rn rx A nL own cc) {k : Nat} {x : Nat} (hk : k < L.length) (hdg : decode cc pc = .ok (.astore k, 2)) (kk : m_at p l e R s m args below meth c Q dC dI cA τ rn rx A nL nb lb ρ0 (pc + 2) (j_st1 L k (.ref x)) (st) (σ)) : m_at p l e R s m args below meth c Q dC dI cA τ rn rx A nL nb lb ρ0 (pc) (L) (.ref x :: st) (σ) := by
  intro ρ H locs cells slots ls hI hc hs hL hw
  obtain ⟨h1, ⟨lv, h2, h3⟩, h4⟩ := hL
  exact lv_astore hS.1 hS.2.1 hdg h2 (by rw [← h1]; exact hk) rfl (fun ls' h' => kk ρ H locs cells slots ls' hI hc hs (m_LR_st1 (v := .ref x) h1 h3 h4 (m_wh hw) h') (m_wt hw))
theorem m_astore_n (hS : m_St p R s m args c dC dI cA τ rn rx A nL own cc) {k : Fin 4} {x : Nat} (hk : k.val < L.length) (hdg : decode cc pc = .ok (.astore_n k, 1)) (kk : m_at p l e R s m args below meth c Q dC dI cA τ rn rx A nL nb lb ρ0 (pc + 1) (j_st1 L k.val (.ref x)) (st) (σ)) : m_at p l e R s m args below meth c Q dC dI cA τ rn rx A nL nb lb ρ0 (pc) (L) (.ref x :: st) (σ) := by
  intro ρ H locs cells slots ls hI hc hs hL hw
  obtain ⟨h1, ⟨lv, h2, h3⟩, h4⟩ := hL
  exact lv_astore_n hS.1 hS.2.1 hdg rfl h2 (by rw [← h1]; exact hk) rfl (fun ls' h' => kk ρ H locs cells slots ls' hI hc hs (m_LR_st1 (v := .ref x) h1 h3 h4 (m_wh hw) h') (m_wt hw))
theorem m_iinc (hS : m_St p R s m args c dC dI cA τ rn rx A nL own cc) {k : Nat} {n : Int} {x : Int32} (hx : L[k]? = some (some (.int x))) (hdg : decode cc pc = .ok (.iinc k n, 3)) (kk : m_at p l e R s m args below meth c Q dC dI cA τ rn rx A nL nb lb ρ0 (pc + 3) (j_st1 L k (.int (x + j_k n))) (st) (σ)) : m_at p l e R s m args below meth c Q dC dI cA τ rn rx A nL nb lb ρ0 (pc) (L) (st) (σ) := by
  intro ρ H locs cells slots ls hI hc hs hL hw
  obtain ⟨h1, ⟨lv, h2, h3⟩, h4⟩ := hL
  obtain ⟨q, hq⟩ := List.getElem?_of_mem (h3 k _ hx)
  exact lv_iinc hS.1 hS.2.1 hdg h2 hq rfl (by rw [← h1]; exact (List.getElem?_eq_some_iff.mp hx).1) rfl (fun ls' h' => kk ρ H locs cells slots ls' hI hc hs (m_LR_st1 (v := .int (x + j_k n)) h1 h3 h4 trivial h') hw)
theorem m_iadd (hS : m_St p R s m args c dC dI cA τ rn rx A nL own cc) {x y : Int32} (hdg : decode cc pc = .ok (.iadd, 1)) (k : m_at p l e R s m args below meth c Q dC dI cA τ rn rx A nL nb lb ρ0 (pc + 1) (L) (.int (x + y) :: st) (σ)) : m_at p l e R s m args below meth c Q dC dI cA τ rn rx A nL nb lb ρ0 (pc) (L) (.int y :: .int x :: st) (σ) := by
  intro ρ H locs cells slots ls hI hc hs hL hw
  exact lv_iadd hS.1 hS.2.1 hdg (k ρ H locs cells slots ls hI hc hs hL (m_wi (m_wt (m_wt hw))))
theorem m_isub (hS : m_St p R s m args c dC dI cA τ rn rx A nL own cc) {x y : Int32} (hdg : decode cc pc = .ok (.isub, 1)) (k : m_at p l e R s m args below meth c Q dC dI cA τ rn rx A nL nb lb ρ0 (pc + 1) (L) (.int (x - y) :: st) (σ)) : m_at p l e R s m args below meth c Q dC dI cA τ rn rx A nL nb lb ρ0 (pc) (L) (.int y :: .int x :: st) (σ) := by
  intro ρ H locs cells slots ls hI hc hs hL hw
  exact lv_isub hS.1 hS.2.1 hdg (k ρ H locs cells slots ls hI hc hs hL (m_wi (m_wt (m_wt hw))))
theorem m_imul (hS : m_St p R s m args c dC dI cA τ rn rx A nL own cc) {x y : Int32} (hdg : decode cc pc = .ok (.imul, 1)) (k : m_at p l e R s m args below meth c Q dC dI cA τ rn rx A nL nb lb ρ0 (pc + 1) (L) (.int (x * y) :: st) (σ)) : m_at p l e R s m args below meth c Q dC dI cA τ rn rx A nL nb lb ρ0 (pc) (L) (.int y :: .int x :: st) (σ) := by
  intro ρ H locs cells slots ls hI hc hs hL hw
  exact lv_imul hS.1 hS.2.1 hdg (k ρ H locs cells slots ls hI hc hs hL (m_wi (m_wt (m_wt hw))))
theorem m_iand (hS : m_St p R s m args c dC dI cA τ rn rx A nL own cc) {x y : Int32} (hdg : decode cc pc = .ok (.iand, 1)) (k : m_at p l e R s m args below meth c Q dC dI cA τ rn rx A nL nb lb ρ0 (pc + 1) (L) (.int (x &&& y) :: st) (σ)) : m_at p l e R s m args below meth c Q dC dI cA τ rn rx A nL nb lb ρ0 (pc) (L) (.int y :: .int x :: st) (σ) := by
  intro ρ H locs cells slots ls hI hc hs hL hw
  exact lv_iand hS.1 hS.2.1 hdg (k ρ H locs cells slots ls hI hc hs hL (m_wi (m_wt (m_wt hw))))
theorem m_ior (hS : m_St p R s m args c dC dI cA τ rn rx A nL own cc) {x y : Int32} (hdg : decode cc pc = .ok (.ior, 1)) (k : m_at p l e R s m args below meth c Q dC dI cA τ rn rx A nL nb lb ρ0 (pc + 1) (L) (.int (x ||| y) :: st) (σ)) : m_at p l e R s m args below meth c Q dC dI cA τ rn rx A nL nb lb ρ0 (pc) (L) (.int y :: .int x :: st) (σ) := by
  intro ρ H locs cells slots ls hI hc hs hL hw
  exact lv_ior hS.1 hS.2.1 hdg (k ρ H locs cells slots ls hI hc hs hL (m_wi (m_wt (m_wt hw))))
theorem m_ixor (hS : m_St p R s m args c dC dI cA τ rn rx A nL own cc) {x y : Int32} (hdg : decode cc pc = .ok (.ixor, 1)) (k : m_at p l e R s m args below meth c Q dC dI cA τ rn rx A nL nb lb ρ0 (pc + 1) (L) (.int (x ^^^ y) :: st) (σ)) : m_at p l e R s m args below meth c Q dC dI cA τ rn rx A nL nb lb ρ0 (pc) (L) (.int y :: .int x :: st) (σ) := by
  intro ρ H locs cells slots ls hI hc hs hL hw
  exact lv_ixor hS.1 hS.2.1 hdg (k ρ H locs cells slots ls hI hc hs hL (m_wi (m_wt (m_wt hw))))
theorem m_ishl (hS : m_St p R s m args c dC dI cA τ rn rx A nL own cc) {x y : Int32} (hdg : decode cc pc = .ok (.ishl, 1)) (k : m_at p l e R s m args below meth c Q dC dI cA τ rn rx A nL nb lb ρ0 (pc + 1) (L) (.int (x <<< (y &&& 31)) :: st) (σ)) : m_at p l e R s m args below meth c Q dC dI cA τ rn rx A nL nb lb ρ0 (pc) (L) (.int y :: .int x :: st) (σ) := by
  intro ρ H locs cells slots ls hI hc hs hL hw
  exact lv_ishl hS.1 hS.2.1 hdg (k ρ H locs cells slots ls hI hc hs hL (m_wi (m_wt (m_wt hw))))
theorem m_ishr (hS : m_St p R s m args c dC dI cA τ rn rx A nL own cc) {x y : Int32} (hdg : decode cc pc = .ok (.ishr, 1)) (k : m_at p l e R s m args below meth c Q dC dI cA τ rn rx A nL nb lb ρ0 (pc + 1) (L) (.int (x >>> (y &&& 31)) :: st) (σ)) : m_at p l e R s m args below meth c Q dC dI cA τ rn rx A nL nb lb ρ0 (pc) (L) (.int y :: .int x :: st) (σ) := by
  intro ρ H locs cells slots ls hI hc hs hL hw
  exact lv_ishr hS.1 hS.2.1 hdg (k ρ H locs cells slots ls hI hc hs hL (m_wi (m_wt (m_wt hw))))
theorem m_iushr (hS : m_St p R s m args c dC dI cA τ rn rx A nL own cc) {x y : Int32} (hdg : decode cc pc = .ok (.iushr, 1)) (k : m_at p l e R s m args below meth c Q dC dI cA τ rn rx A nL nb lb ρ0 (pc + 1) (L) (.int (x.toUInt32 >>> (y.toUInt32 &&& Int32.toUInt32 31)).toInt32 :: st) (σ)) : m_at p l e R s m args below meth c Q dC dI cA τ rn rx A nL nb lb ρ0 (pc) (L) (.int y :: .int x :: st) (σ) := by
  intro ρ H locs cells slots ls hI hc hs hL hw
  exact lv_iushr hS.1 hS.2.1 hdg rfl (k ρ H locs cells slots ls hI hc hs hL (m_wi (m_wt (m_wt hw))))
theorem m_idiv (hS : m_St p R s m args c dC dI cA τ rn rx A nL own cc) {x y : Int32} (hy : ¬ y = 0) (hdg : decode cc pc = .ok (.idiv, 1)) (k : m_at p l e R s m args below meth c Q dC dI cA τ rn rx A nL nb lb ρ0 (pc + 1) (L) (.int (x / y) :: st) (σ)) : m_at p l e R s m args below meth c Q dC dI cA τ rn rx A nL nb lb ρ0 (pc) (L) (.int y :: .int x :: st) (σ) := by
  intro ρ H locs cells slots ls hI hc hs hL hw
  exact lv_idiv hS.1 hS.2.1 hdg hy (k ρ H locs cells slots ls hI hc hs hL (m_wi (m_wt (m_wt hw))))
theorem m_irem (hS : m_St p R s m args c dC dI cA τ rn rx A nL own cc) {x y : Int32} (hy : ¬ y = 0) (hdg : decode cc pc = .ok (.irem, 1)) (k : m_at p l e R s m args below meth c Q dC dI cA τ rn rx A nL nb lb ρ0 (pc + 1) (L) (.int (x - x / y * y) :: st) (σ)) : m_at p l e R s m args below meth c Q dC dI cA τ rn rx A nL nb lb ρ0 (pc) (L) (.int y :: .int x :: st) (σ) := by
  intro ρ H locs cells slots ls hI hc hs hL hw
  exact lv_irem hS.1 hS.2.1 hdg hy (k ρ H locs cells slots ls hI hc hs hL (m_wi (m_wt (m_wt hw))))
theorem m_ineg (hS : m_St p R s m args c dC dI cA τ rn rx A nL own cc) {x : Int32} (hdg : decode cc pc = .ok (.ineg, 1)) (k : m_at p l e R s m args below meth c Q dC dI cA τ rn rx A nL nb lb ρ0 (pc + 1) (L) (.int (-x) :: st) (σ)) : m_at p l e R s m args below meth c Q dC dI cA τ rn rx A nL nb lb ρ0 (pc) (L) (.int x :: st) (σ) := by
  intro ρ H locs cells slots ls hI hc hs hL hw
  exact lv_ineg hS.1 hS.2.1 hdg (k ρ H locs cells slots ls hI hc hs hL (m_wi (m_wt hw)))
theorem m_ladd (hS : m_St p R s m args c dC dI cA τ rn rx A nL own cc) {x y : Int64} (hdg : decode cc pc = .ok (.ladd, 1)) (k : m_at p l e R s m args below meth c Q dC dI cA τ rn rx A nL nb lb ρ0 (pc + 1) (L) (.long (x + y) :: st) (σ)) : m_at p l e R s m args below meth c Q dC dI cA τ rn rx A nL nb lb ρ0 (pc) (L) (.long y :: .long x :: st) (σ) := by
  intro ρ H locs cells slots ls hI hc hs hL hw
  exact lv_ladd hS.1 hS.2.1 hdg (k ρ H locs cells slots ls hI hc hs hL (m_wj (m_wt (m_wt hw))))
theorem m_lmul (hS : m_St p R s m args c dC dI cA τ rn rx A nL own cc) {x y : Int64} (hdg : decode cc pc = .ok (.lmul, 1)) (k : m_at p l e R s m args below meth c Q dC dI cA τ rn rx A nL nb lb ρ0 (pc + 1) (L) (.long (x * y) :: st) (σ)) : m_at p l e R s m args below meth c Q dC dI cA τ rn rx A nL nb lb ρ0 (pc) (L) (.long y :: .long x :: st) (σ) := by
  intro ρ H locs cells slots ls hI hc hs hL hw
  exact lv_lmul hS.1 hS.2.1 hdg (k ρ H locs cells slots ls hI hc hs hL (m_wj (m_wt (m_wt hw))))
theorem m_ldiv (hS : m_St p R s m args c dC dI cA τ rn rx A nL own cc) {x y : Int64} (hy : ¬ y = 0) (hdg : decode cc pc = .ok (.ldiv, 1)) (k : m_at p l e R s m args below meth c Q dC dI cA τ rn rx A nL nb lb ρ0 (pc + 1) (L) (.long (x / y) :: st) (σ)) : m_at p l e R s m args below meth c Q dC dI cA τ rn rx A nL nb lb ρ0 (pc) (L) (.long y :: .long x :: st) (σ) := by
  intro ρ H locs cells slots ls hI hc hs hL hw
  exact lv_ldiv hS.1 hS.2.1 hdg hy (k ρ H locs cells slots ls hI hc hs hL (m_wj (m_wt (m_wt hw))))
theorem m_lrem (hS : m_St p R s m args c dC dI cA τ rn rx A nL own cc) {x y : Int64} (hy : ¬ y = 0) (hdg : decode cc pc = .ok (.lrem, 1)) (k : m_at p l e R s m args below meth c Q dC dI cA τ rn rx A nL nb lb ρ0 (pc + 1) (L) (.long (x - x / y * y) :: st) (σ)) : m_at p l e R s m args below meth c Q dC dI cA τ rn rx A nL nb lb ρ0 (pc) (L) (.long y :: .long x :: st) (σ) := by
  intro ρ H locs cells slots ls hI hc hs hL hw
  exact lv_lrem hS.1 hS.2.1 hdg hy (k ρ H locs cells slots ls hI hc hs hL (m_wj (m_wt (m_wt hw))))
theorem m_lcmp (hS : m_St p R s m args c dC dI cA τ rn rx A nL own cc) {x y : Int64} (hdg : decode cc pc = .ok (.lcmp, 1)) (k : m_at p l e R s m args below meth c Q dC dI cA τ rn rx A nL nb lb ρ0 (pc + 1) (L) (.int (lg_cmp x y) :: st) (σ)) : m_at p l e R s m args below meth c Q dC dI cA τ rn rx A nL nb lb ρ0 (pc) (L) (.long y :: .long x :: st) (σ) := by
  intro ρ H locs cells slots ls hI hc hs hL hw
  exact W.lcmp hS.1 hS.2.1 hdg (k ρ H locs cells slots ls hI hc hs hL (m_wi (m_wt (m_wt hw))))
theorem m_i2l (hS : m_St p R s m args c dC dI cA τ rn rx A nL own cc) {x : Int32} (hdg : decode cc pc = .ok (.i2l, 1)) (k : m_at p l e R s m args below meth c Q dC dI cA τ rn rx A nL nb lb ρ0 (pc + 1) (L) (.long x.toInt64 :: st) (σ)) : m_at p l e R s m args below meth c Q dC dI cA τ rn rx A nL nb lb ρ0 (pc) (L) (.int x :: st) (σ) := by
  intro ρ H locs cells slots ls hI hc hs hL hw
  exact lv_i2l hS.1 hS.2.1 hdg rfl (k ρ H locs cells slots ls hI hc hs hL (m_wj (m_wt hw)))
theorem m_l2i (hS : m_St p R s m args c dC dI cA τ rn rx A nL own cc) {x : Int64} (hdg : decode cc pc = .ok (.l2i, 1)) (k : m_at p l e R s m args below meth c Q dC dI cA τ rn rx A nL nb lb ρ0 (pc + 1) (L) (.int x.toInt32 :: st) (σ)) : m_at p l e R s m args below meth c Q dC dI cA τ rn rx A nL nb lb ρ0 (pc) (L) (.long x :: st) (σ) := by
  intro ρ H locs cells slots ls hI hc hs hL hw
  exact lv_l2i hS.1 hS.2.1 hdg rfl (k ρ H locs cells slots ls hI hc hs hL (m_wi (m_wt hw)))
theorem m_i2b (hS : m_St p R s m args c dC dI cA τ rn rx A nL own cc) {x : Int32} (hdg : decode cc pc = .ok (.i2b, 1)) (k : m_at p l e R s m args below meth c Q dC dI cA τ rn rx A nL nb lb ρ0 (pc + 1) (L) (.int x.toInt8.toInt32 :: st) (σ)) : m_at p l e R s m args below meth c Q dC dI cA τ rn rx A nL nb lb ρ0 (pc) (L) (.int x :: st) (σ) := by
  intro ρ H locs cells slots ls hI hc hs hL hw
  exact lv_i2b hS.1 hS.2.1 hdg rfl (k ρ H locs cells slots ls hI hc hs hL (m_wi (m_wt hw)))
theorem m_dupI (hS : m_St p R s m args c dC dI cA τ rn rx A nL own cc) {x : Int32} (hdg : decode cc pc = .ok (.dup, 1)) (k : m_at p l e R s m args below meth c Q dC dI cA τ rn rx A nL nb lb ρ0 (pc + 1) (L) (.int x :: .int x :: st) (σ)) : m_at p l e R s m args below meth c Q dC dI cA τ rn rx A nL nb lb ρ0 (pc) (L) (.int x :: st) (σ) := by
  intro ρ H locs cells slots ls hI hc hs hL hw
  exact lv_dup hS.1 hS.2.1 hdg rfl (k ρ H locs cells slots ls hI hc hs hL (m_wi hw))
theorem m_dupA (hS : m_St p R s m args c dC dI cA τ rn rx A nL own cc) {x : Nat} (hdg : decode cc pc = .ok (.dup, 1)) (k : m_at p l e R s m args below meth c Q dC dI cA τ rn rx A nL nb lb ρ0 (pc + 1) (L) (.ref x :: .ref x :: st) (σ)) : m_at p l e R s m args below meth c Q dC dI cA τ rn rx A nL nb lb ρ0 (pc) (L) (.ref x :: st) (σ) := by
  intro ρ H locs cells slots ls hI hc hs hL hw
  exact lv_dup hS.1 hS.2.1 hdg rfl (k ρ H locs cells slots ls hI hc hs hL (m_wr (m_wh hw) hw))
theorem m_dup2 (hS : m_St p R s m args c dC dI cA τ rn rx A nL own cc) {y : Int32} {x : Nat} (hdg : decode cc pc = .ok (.dup2, 1)) (k : m_at p l e R s m args below meth c Q dC dI cA τ rn rx A nL nb lb ρ0 (pc + 1) (L) (.int y :: .ref x :: .int y :: .ref x :: st) (σ)) : m_at p l e R s m args below meth c Q dC dI cA τ rn rx A nL nb lb ρ0 (pc) (L) (.int y :: .ref x :: st) (σ) := by
  intro ρ H locs cells slots ls hI hc hs hL hw
  exact lv_dup2_11 hS.1 hS.2.1 hdg rfl rfl (k ρ H locs cells slots ls hI hc hs hL (m_wi (m_wr (m_wh (m_wt hw)) hw)))
theorem m_pop (hS : m_St p R s m args c dC dI cA τ rn rx A nL own cc) {x : Int32} (hdg : decode cc pc = .ok (.pop, 1)) (k : m_at p l e R s m args below meth c Q dC dI cA τ rn rx A nL nb lb ρ0 (pc + 1) (L) (st) (σ)) : m_at p l e R s m args below meth c Q dC dI cA τ rn rx A nL nb lb ρ0 (pc) (L) (.int x :: st) (σ) := by
  intro ρ H locs cells slots ls hI hc hs hL hw
  exact lv_pop hS.1 hS.2.1 hdg rfl (k ρ H locs cells slots ls hI hc hs hL (m_wt hw))
theorem m_ifc (hS : m_St p R s m args c dC dI cA τ rn rx A nL own cc) {cn : ClassFile.Cond} {x : Int32} {off : Int} {t : Nat} (hdg : decode cc pc = .ok (.ifCond cn off, 3)) (ht : (pc : Int) + off = (t : Int)) (k1 : j_P cn x 0 → m_at p l e R s m args below meth c Q dC dI cA τ rn rx A nL nb lb ρ0 (t) (L) (st) (σ)) (k2 : ¬ j_P cn x 0 → m_at p l e R s m args below meth c Q dC dI cA τ rn rx A nL nb lb ρ0 (pc + 3) (L) (st) (σ)) : m_at p l e R s m args below meth c Q dC dI cA τ rn rx A nL nb lb ρ0 (pc) (L) (.int x :: st) (σ) := by
  intro ρ H locs cells slots ls hI hc hs hL hw
  have hw1 := m_wt hw
  cases cn
  · exact lv_if_eq hS.1 hS.2.1 hdg ht (fun h => k1 h ρ H locs cells slots ls hI hc hs hL hw1) (fun h => k2 h ρ H locs cells slots ls hI hc hs hL hw1)
  · exact lv_if_ne hS.1 hS.2.1 hdg ht (fun h => k1 h ρ H locs cells slots ls hI hc hs hL hw1) (fun h => k2 (fun z => z h) ρ H locs cells slots ls hI hc hs hL hw1)
  · exact lv_if_lt hS.1 hS.2.1 hdg ht (fun h => k1 h ρ H locs cells slots ls hI hc hs hL hw1) (fun h => k2 h ρ H locs cells slots ls hI hc hs hL hw1)
  · exact lv_if_ge hS.1 hS.2.1 hdg ht (fun h => k1 (Int32.not_lt.mpr h) ρ H locs cells slots ls hI hc hs hL hw1) (fun h => k2 (fun z => z (Int32.not_le.mp h)) ρ H locs cells slots ls hI hc hs hL hw1)
  · exact lv_if_gt hS.1 hS.2.1 hdg ht (fun h => k1 h ρ H locs cells slots ls hI hc hs hL hw1) (fun h => k2 h ρ H locs cells slots ls hI hc hs hL hw1)
  · exact lv_if_le hS.1 hS.2.1 hdg ht (fun h => k1 (Int32.not_lt.mpr h) ρ H locs cells slots ls hI hc hs hL hw1) (fun h => k2 (fun z => z (Int32.not_le.mp h)) ρ H locs cells slots ls hI hc hs hL hw1)
theorem m_icmp (hS : m_St p R s m args c dC dI cA τ rn rx A nL own cc) {cn : ClassFile.Cond} {x y : Int32} {off : Int} {t : Nat} (hdg : decode cc pc = .ok (.if_icmp cn off, 3)) (ht : (pc : Int) + off = (t : Int)) (k1 : j_P cn x y → m_at p l e R s m args below meth c Q dC dI cA τ rn rx A nL nb lb ρ0 (t) (L) (st) (σ)) (k2 : ¬ j_P cn x y → m_at p l e R s m args below meth c Q dC dI cA τ rn rx A nL nb lb ρ0 (pc + 3) (L) (st) (σ)) : m_at p l e R s m args below meth c Q dC dI cA τ rn rx A nL nb lb ρ0 (pc) (L) (.int y :: .int x :: st) (σ) := by
  intro ρ H locs cells slots ls hI hc hs hL hw
  have hw1 := m_wt (m_wt hw)
  cases cn
  · exact lv_icmp_eq hS.1 hS.2.1 hdg ht (fun h => k1 h ρ H locs cells slots ls hI hc hs hL hw1) (fun h => k2 h ρ H locs cells slots ls hI hc hs hL hw1)
  · exact lv_icmp_ne hS.1 hS.2.1 hdg ht (fun h => k1 h ρ H locs cells slots ls hI hc hs hL hw1) (fun h => k2 (fun z => z h) ρ H locs cells slots ls hI hc hs hL hw1)
  · exact lv_icmp_lt hS.1 hS.2.1 hdg ht (fun h => k1 h ρ H locs cells slots ls hI hc hs hL hw1) (fun h => k2 h ρ H locs cells slots ls hI hc hs hL hw1)
  · exact lv_icmp_ge hS.1 hS.2.1 hdg ht (fun h => k1 (Int32.not_lt.mpr h) ρ H locs cells slots ls hI hc hs hL hw1) (fun h => k2 (fun z => z (Int32.not_le.mp h)) ρ H locs cells slots ls hI hc hs hL hw1)
  · exact lv_icmp_gt hS.1 hS.2.1 hdg ht (fun h => k1 h ρ H locs cells slots ls hI hc hs hL hw1) (fun h => k2 h ρ H locs cells slots ls hI hc hs hL hw1)
  · exact lv_icmp_le hS.1 hS.2.1 hdg ht (fun h => k1 (Int32.not_lt.mpr h) ρ H locs cells slots ls hI hc hs hL hw1) (fun h => k2 (fun z => z (Int32.not_le.mp h)) ρ H locs cells slots ls hI hc hs hL hw1)
theorem m_goto (hS : m_St p R s m args c dC dI cA τ rn rx A nL own cc) {off : Int} {t : Nat} (hdg : decode cc pc = .ok (.goto off, 3)) (ht : (pc : Int) + off = (t : Int)) (k : m_at p l e R s m args below meth c Q dC dI cA τ rn rx A nL nb lb ρ0 (t) (L) (st) (σ)) : m_at p l e R s m args below meth c Q dC dI cA τ rn rx A nL nb lb ρ0 (pc) (L) (st) (σ) := by
  intro ρ H locs cells slots ls hI hc hs hL hw
  exact lv_goto hS.1 hS.2.1 hdg ht (k ρ H locs cells slots ls hI hc hs hL hw)
theorem m_getI (hS : m_St p R s m args c dC dI cA τ rn rx A nL own cc) {ci k idx : Nat} (hci : ci < 8) (hk : k < j_nf ci) (hl : Jvm.Cond.fieldLink (j_CN own) idx (j_T ci k).1 (j_T ci k).2.1 (j_T ci k).2.2.1 ∈ j_ws) (hu : ∀ w ∈ u_ws (j_CN ci) (j_T ci) (j_nf ci), w ∈ j_ws) (hty : j_ty ci k = .int ∨ j_ty ci k = .boolean) {r : Nat} (hr : σ.1 r = some (.inl ci)) (hdg : decode cc pc = .ok (.getfield idx, 3)) (kk : m_at p l e R s m args below meth c Q dC dI cA τ rn rx A nL nb lb ρ0 (pc + 3) (L) (.int (σ.2.2.1 r k) :: st) (σ)) : m_at p l e R s m args below meth c Q dC dI cA τ rn rx A nL nb lb ρ0 (pc) (L) (.ref r :: st) (σ) := by
  intro ρ H locs cells slots ls hI hc hs hL hw
  have hrn := m_inr' hI.2.2.2 hr
  have hrb : r < j_b := Nat.lt_of_lt_of_le hrn hI.2.2.2.2.1
  have e1 : m_v ρ τ (.ref r) = .ref (ρ r) := by show Value.ref (m_ad ρ τ r) = _; rw [m_ad_lt hrb]
  have hf : m_f ρ τ σ r k (j_ty ci k) = .int (σ.2.2.1 r k) := by rcases hty with h | h <;> (unfold m_f; rw [h])
  have h9 := kk ρ H locs cells slots ls hI hc hs hL (m_wi (m_wt hw))
  rw [List.map_cons, e1]
  exact va_get hS.1 hS.2.1 hS.2.2.2.1 hu hS.2.2.1 hS.2.2.2.2.1 hI.1 r ((m_ws_get hrn).trans (by rw [m_E_obj hr])) (j_cls_get hci) k hk (hS.2.2.2.1 _ hl) (fun _ h => h) (by rw [m_fs_get hk, hf]; rfl) hdg h9
theorem m_getJ (hS : m_St p R s m args c dC dI cA τ rn rx A nL own cc) {ci k idx : Nat} (hci : ci < 8) (hk : k < j_nf ci) (hl : Jvm.Cond.fieldLink (j_CN own) idx (j_T ci k).1 (j_T ci k).2.1 (j_T ci k).2.2.1 ∈ j_ws) (hu : ∀ w ∈ u_ws (j_CN ci) (j_T ci) (j_nf ci), w ∈ j_ws) (hty : j_ty ci k = .long) {r : Nat} (hr : σ.1 r = some (.inl ci)) (hdg : decode cc pc = .ok (.getfield idx, 3)) (kk : m_at p l e R s m args below meth c Q dC dI cA τ rn rx A nL nb lb ρ0 (pc + 3) (L) (.long (σ.2.2.2.1 r k) :: st) (σ)) : m_at p l e R s m args below meth c Q dC dI cA τ rn rx A nL nb lb ρ0 (pc) (L) (.ref r :: st) (σ) := by
  intro ρ H locs cells slots ls hI hc hs hL hw
  have hrn := m_inr' hI.2.2.2 hr
  have hrb : r < j_b := Nat.lt_of_lt_of_le hrn hI.2.2.2.2.1
  have e1 : m_v ρ τ (.ref r) = .ref (ρ r) := by show Value.ref (m_ad ρ τ r) = _; rw [m_ad_lt hrb]
  have hf : m_f ρ τ σ r k (j_ty ci k) = .long (σ.2.2.2.1 r k) := by unfold m_f; rw [hty]
  have h9 := kk ρ H locs cells slots ls hI hc hs hL (m_wj (m_wt hw))
  rw [List.map_cons, e1]
  exact va_get hS.1 hS.2.1 hS.2.2.2.1 hu hS.2.2.1 hS.2.2.2.2.1 hI.1 r ((m_ws_get hrn).trans (by rw [m_E_obj hr])) (j_cls_get hci) k hk (hS.2.2.2.1 _ hl) (fun _ h => h) (by rw [m_fs_get hk, hf]; rfl) hdg h9
theorem m_getP (hS : m_St p R s m args c dC dI cA τ rn rx A nL own cc) {ci k idx : Nat} (hci : ci < 8) (hk : k < j_nf ci) (hl : Jvm.Cond.fieldLink (j_CN own) idx (j_T ci k).1 (j_T ci k).2.1 (j_T ci k).2.2.1 ∈ j_ws) (hu : ∀ w ∈ u_ws (j_CN ci) (j_T ci) (j_nf ci), w ∈ j_ws) (hty : (∃ n, j_ty ci k = .object n) ∨ ∃ t, j_ty ci k = .array t) {r q : Nat} (hr : σ.1 r = some (.inl ci)) (hq : σ.2.1 r k = some q) (hdg : decode cc pc = .ok (.getfield idx, 3)) (kk : m_at p l e R s m args below meth c Q dC dI cA τ rn rx A nL nb lb ρ0 (pc + 3) (L) (.ref q :: st) (σ)) : m_at p l e R s m args below meth c Q dC dI cA τ rn rx A nL nb lb ρ0 (pc) (L) (.ref r :: st) (σ) := by
  intro ρ H locs cells slots ls hI hc hs hL hw
  have hrn := m_inr' hI.2.2.2 hr
  have hrb : r < j_b := Nat.lt_of_lt_of_le hrn hI.2.2.2.2.1
  have e1 : m_v ρ τ (.ref r) = .ref (ρ r) := by show Value.ref (m_ad ρ τ r) = _; rw [m_ad_lt hrb]
  have hf : m_f ρ τ σ r k (j_ty ci k) = m_v ρ τ (.ref q) := by rcases hty with ⟨_, h⟩ | ⟨_, h⟩ <;> (unfold m_f; rw [h, hq]; rfl)
  have h9 := kk ρ H locs cells slots ls hI hc hs hL (m_wr (hI.2.2.2.2.2.2 r k q hrn hq) (m_wt hw))
  rw [List.map_cons, e1]
  exact va_get hS.1 hS.2.1 hS.2.2.2.1 hu hS.2.2.1 hS.2.2.2.2.1 hI.1 r ((m_ws_get hrn).trans (by rw [m_E_obj hr])) (j_cls_get hci) k hk (hS.2.2.2.1 _ hl) (fun _ h => h) (by rw [m_fs_get hk, hf]) hdg h9
theorem m_putI (hS : m_St p R s m args c dC dI cA τ rn rx A nL own cc) {ci k idx : Nat} (hci : ci < 8) (hk : k < j_nf ci) (hl : Jvm.Cond.fieldLink (j_CN own) idx (j_T ci k).1 (j_T ci k).2.1 (j_T ci k).2.2.1 ∈ j_ws) (hu : ∀ w ∈ u_ws (j_CN ci) (j_T ci) (j_nf ci), w ∈ j_ws) {x : Int32} (hty : j_ty ci k = .int ∨ (j_ty ci k = .boolean ∧ (x = 0 ∨ x = 1))) {r : Nat} (hfin : (j_T ci k).2.2.2 = false ∨ (meth.name = "<init>" ∧ (j_T ci k).1 = j_CN own)) (hr : σ.1 r = some (.inl ci)) (hrb : r < j_b) (hdg : decode cc pc = .ok (.putfield idx, 3)) (kk : m_at p l e R s m args below meth c Q dC dI cA τ rn rx A nL nb lb ρ0 (pc + 3) (L) (st) (s_uI σ r k x)) : m_at p l e R s m args below meth c Q dC dI cA τ rn rx A nL nb lb ρ0 (pc) (L) (.int x :: .ref r :: st) (σ) := by
  intro ρ H locs cells slots ls hI hc hs hL hw
  have hrn := m_inr' hI.2.2.2 hr
  have e1 : m_v ρ τ (.ref r) = .ref (ρ r) := by show Value.ref (m_ad ρ τ r) = _; rw [m_ad_lt hrb]
  have hn : narrow (j_ty ci k) (.int x) = .int x ∧ fits (j_ty ci k) (.int x) = true := by
    rcases hty with h | ⟨h, rfl | rfl⟩ <;> rw [h] <;> first | exact ⟨rfl, rfl⟩ | decide
  have hf : Value.int x = m_f ρ τ (s_uI σ r k x) r k (j_ty ci k) := by
    have e9 : u2 σ.2.2.1 r k x r k = x := by rw [u2_self, u1_same]
    rcases hty with h | ⟨h, -⟩ <;> rw [h] <;> unfold m_f <;> dsimp only <;> rw [e9]
  have ho : ∀ j, j ≠ k → m_f ρ τ (s_uI σ r k x) r j (j_ty ci j) = m_f ρ τ σ r j (j_ty ci j) := fun j hj => by
    have e9 : u2 σ.2.2.1 r k x r j = σ.2.2.1 r j := by rw [u2_self, u1_ne hj]
    cases j_ty ci j <;> first | rfl | (unfold m_f; dsimp only; rw [e9])
  have hoo : ∀ q, q ≠ r → m_E cA ρ τ (s_uI σ r k x) q = m_E cA ρ τ σ q := fun q hq => m_E_ext rfl (fun _ => rfl) (u2_row hq) rfl
  have hwf : m_Wf rn rx (s_uI σ r k x) := m_Wf_uI hrb hI.2.2.2
  have hE : m_E cA ρ τ (s_uI σ r k x) r = .inr (ci, m_fs ρ τ (s_uI σ r k x) r ci) := m_E_obj hr
  have hset : (m_ws cA ρ τ σ).set r (ρ r, .inr (ci, (m_fs ρ τ σ r ci).set k (m_v ρ τ (.int x)))) = m_ws cA ρ τ (s_uI σ r k x) := m_ws_set rfl hoo (by rw [hE, ← m_fs_set hk hf ho]; rfl)
  have h9 : ∀ (H1 : Heap) (locs1 : List Loc), va_P (dC, dI) j_cls ((m_ws cA ρ τ σ).set r (ρ r, .inr (ci, (m_fs ρ τ σ r ci).set k (m_v ρ τ (.int x))))) H1 → va_D A ((m_ws cA ρ τ σ).set r (ρ r, .inr (ci, (m_fs ρ τ σ r ci).set k (m_v ρ τ (.int x))))) → va_S A s.heap H1 locs1 → W p l e R s m args below meth c H1 locs1 cells slots Q (F0 m (pc + 3) ls (st.map (m_v ρ τ))) := fun H1 locs1 g1 g2 g3 => by
    rw [hset] at g1 g2
    exact kk ρ H1 locs1 cells slots ls ⟨g1, g2, g3, hwf⟩ hc hs hL (m_wt (m_wt hw))
  rw [List.map_cons, List.map_cons, e1]
  rcases hfin with hfin | ⟨hfin, hdecl⟩
  · exact va_put hS.1 hS.2.1 hS.2.2.2.1 hu (j_ty ci) (j_ty_ok hci) (j_nm hci) hS.2.2.1 hS.2.2.2.2.1 hI.1 hI.2.1 hI.2.2.1 r ((m_ws_get hrn).trans (by rw [m_E_obj hr])) (j_cls_get hci) k hk (hS.2.2.2.1 _ hl) (fun _ h => h) hfin (j_ty_ok hci k hk) hn.1 hn.2 (by rw [m_fs_len]; exact hk) hdg h9
  · by_cases hff : (j_T ci k).2.2.2 = true
    · exact va_putF hS.1 hS.2.1 hS.2.2.2.1 hu (j_ty ci) (j_ty_ok hci) (j_nm hci) hS.2.2.1 hS.2.2.2.2.1 hI.1 hI.2.1 hI.2.2.1 r ((m_ws_get hrn).trans (by rw [m_E_obj hr])) (j_cls_get hci) k hk (hS.2.2.2.1 _ hl) (fun _ h => h) hff hfin hdecl (j_ty_ok hci k hk) hn.1 hn.2 (by rw [m_fs_len]; exact hk) hdg h9
    · exact va_put hS.1 hS.2.1 hS.2.2.2.1 hu (j_ty ci) (j_ty_ok hci) (j_nm hci) hS.2.2.1 hS.2.2.2.2.1 hI.1 hI.2.1 hI.2.2.1 r ((m_ws_get hrn).trans (by rw [m_E_obj hr])) (j_cls_get hci) k hk (hS.2.2.2.1 _ hl) (fun _ h => h) (Bool.not_eq_true _ ▸ hff) (j_ty_ok hci k hk) hn.1 hn.2 (by rw [m_fs_len]; exact hk) hdg h9
theorem m_putJ (hS : m_St p R s m args c dC dI cA τ rn rx A nL own cc) {ci k idx : Nat} (hci : ci < 8) (hk : k < j_nf ci) (hl : Jvm.Cond.fieldLink (j_CN own) idx (j_T ci k).1 (j_T ci k).2.1 (j_T ci k).2.2.1 ∈ j_ws) (hu : ∀ w ∈ u_ws (j_CN ci) (j_T ci) (j_nf ci), w ∈ j_ws) {x : Int64} (hty : j_ty ci k = .long) {r : Nat} (hfin : (j_T ci k).2.2.2 = false ∨ (meth.name = "<init>" ∧ (j_T ci k).1 = j_CN own)) (hr : σ.1 r = some (.inl ci)) (hrb : r < j_b) (hdg : decode cc pc = .ok (.putfield idx, 3)) (kk : m_at p l e R s m args below meth c Q dC dI cA τ rn rx A nL nb lb ρ0 (pc + 3) (L) (st) (s_uJ σ r k x)) : m_at p l e R s m args below meth c Q dC dI cA τ rn rx A nL nb lb ρ0 (pc) (L) (.long x :: .ref r :: st) (σ) := by
  intro ρ H locs cells slots ls hI hc hs hL hw
  have hrn := m_inr' hI.2.2.2 hr
  have e1 : m_v ρ τ (.ref r) = .ref (ρ r) := by show Value.ref (m_ad ρ τ r) = _; rw [m_ad_lt hrb]
  have hn : narrow (j_ty ci k) (.long x) = .long x ∧ fits (j_ty ci k) (.long x) = true := by rw [hty]; exact ⟨rfl, rfl⟩
  have hf : Value.long x = m_f ρ τ (s_uJ σ r k x) r k (j_ty ci k) := by
    have e9 : u2 σ.2.2.2.1 r k x r k = x := by rw [u2_self, u1_same]
    rw [hty]; unfold m_f; dsimp only; rw [e9]
  have ho : ∀ j, j ≠ k → m_f ρ τ (s_uJ σ r k x) r j (j_ty ci j) = m_f ρ τ σ r j (j_ty ci j) := fun j hj => by
    have e9 : u2 σ.2.2.2.1 r k x r j = σ.2.2.2.1 r j := by rw [u2_self, u1_ne hj]
    cases j_ty ci j <;> first | rfl | (unfold m_f; dsimp only; rw [e9])
  have hoo : ∀ q, q ≠ r → m_E cA ρ τ (s_uJ σ r k x) q = m_E cA ρ τ σ q := fun q hq => m_E_ext rfl (fun _ => rfl) rfl (u2_row hq)
  have hwf : m_Wf rn rx (s_uJ σ r k x) := m_Wf_uJ hI.2.2.2
  have hE : m_E cA ρ τ (s_uJ σ r k x) r = .inr (ci, m_fs ρ τ (s_uJ σ r k x) r ci) := m_E_obj hr
  have hset : (m_ws cA ρ τ σ).set r (ρ r, .inr (ci, (m_fs ρ τ σ r ci).set k (m_v ρ τ (.long x)))) = m_ws cA ρ τ (s_uJ σ r k x) := m_ws_set rfl hoo (by rw [hE, ← m_fs_set hk hf ho]; rfl)
  have h9 : ∀ (H1 : Heap) (locs1 : List Loc), va_P (dC, dI) j_cls ((m_ws cA ρ τ σ).set r (ρ r, .inr (ci, (m_fs ρ τ σ r ci).set k (m_v ρ τ (.long x))))) H1 → va_D A ((m_ws cA ρ τ σ).set r (ρ r, .inr (ci, (m_fs ρ τ σ r ci).set k (m_v ρ τ (.long x))))) → va_S A s.heap H1 locs1 → W p l e R s m args below meth c H1 locs1 cells slots Q (F0 m (pc + 3) ls (st.map (m_v ρ τ))) := fun H1 locs1 g1 g2 g3 => by
    rw [hset] at g1 g2
    exact kk ρ H1 locs1 cells slots ls ⟨g1, g2, g3, hwf⟩ hc hs hL (m_wt (m_wt hw))
  rw [List.map_cons, List.map_cons, e1]
  rcases hfin with hfin | ⟨hfin, hdecl⟩
  · exact va_put hS.1 hS.2.1 hS.2.2.2.1 hu (j_ty ci) (j_ty_ok hci) (j_nm hci) hS.2.2.1 hS.2.2.2.2.1 hI.1 hI.2.1 hI.2.2.1 r ((m_ws_get hrn).trans (by rw [m_E_obj hr])) (j_cls_get hci) k hk (hS.2.2.2.1 _ hl) (fun _ h => h) hfin (j_ty_ok hci k hk) hn.1 hn.2 (by rw [m_fs_len]; exact hk) hdg h9
  · by_cases hff : (j_T ci k).2.2.2 = true
    · exact va_putF hS.1 hS.2.1 hS.2.2.2.1 hu (j_ty ci) (j_ty_ok hci) (j_nm hci) hS.2.2.1 hS.2.2.2.2.1 hI.1 hI.2.1 hI.2.2.1 r ((m_ws_get hrn).trans (by rw [m_E_obj hr])) (j_cls_get hci) k hk (hS.2.2.2.1 _ hl) (fun _ h => h) hff hfin hdecl (j_ty_ok hci k hk) hn.1 hn.2 (by rw [m_fs_len]; exact hk) hdg h9
    · exact va_put hS.1 hS.2.1 hS.2.2.2.1 hu (j_ty ci) (j_ty_ok hci) (j_nm hci) hS.2.2.1 hS.2.2.2.2.1 hI.1 hI.2.1 hI.2.2.1 r ((m_ws_get hrn).trans (by rw [m_E_obj hr])) (j_cls_get hci) k hk (hS.2.2.2.1 _ hl) (fun _ h => h) (Bool.not_eq_true _ ▸ hff) (j_ty_ok hci k hk) hn.1 hn.2 (by rw [m_fs_len]; exact hk) hdg h9
theorem m_putP (hS : m_St p R s m args c dC dI cA τ rn rx A nL own cc) {ci k idx : Nat} (hci : ci < 8) (hk : k < j_nf ci) (hl : Jvm.Cond.fieldLink (j_CN own) idx (j_T ci k).1 (j_T ci k).2.1 (j_T ci k).2.2.1 ∈ j_ws) (hu : ∀ w ∈ u_ws (j_CN ci) (j_T ci) (j_nf ci), w ∈ j_ws) {x : Nat} (hty : (∃ n, j_ty ci k = .object n) ∨ ∃ t, j_ty ci k = .array t) {r : Nat} (hfin : (j_T ci k).2.2.2 = false ∨ (meth.name = "<init>" ∧ (j_T ci k).1 = j_CN own)) (hr : σ.1 r = some (.inl ci)) (hrb : r < j_b) (hdg : decode cc pc = .ok (.putfield idx, 3)) (kk : m_at p l e R s m args below meth c Q dC dI cA τ rn rx A nL nb lb ρ0 (pc + 3) (L) (st) (s_uP σ r k (some x))) : m_at p l e R s m args below meth c Q dC dI cA τ rn rx A nL nb lb ρ0 (pc) (L) (.ref x :: .ref r :: st) (σ) := by
  intro ρ H locs cells slots ls hI hc hs hL hw
  have hrn := m_inr' hI.2.2.2 hr
  have e1 : m_v ρ τ (.ref r) = .ref (ρ r) := by show Value.ref (m_ad ρ τ r) = _; rw [m_ad_lt hrb]
  have hn : narrow (j_ty ci k) (m_v ρ τ (.ref x)) = m_v ρ τ (.ref x) ∧ fits (j_ty ci k) (m_v ρ τ (.ref x)) = true := by
    rcases hty with ⟨_, h⟩ | ⟨_, h⟩ <;> rw [h] <;> exact ⟨rfl, rfl⟩
  have hf : m_v ρ τ (.ref x) = m_f ρ τ (s_uP σ r k (some x)) r k (j_ty ci k) := by
    have e9 : u2 σ.2.1 r k (some x) r k = some x := by rw [u2_self, u1_same]
    rcases hty with ⟨_, h⟩ | ⟨_, h⟩ <;> rw [h] <;> unfold m_f <;> dsimp only <;> rw [e9] <;> rfl
  have ho : ∀ j, j ≠ k → m_f ρ τ (s_uP σ r k (some x)) r j (j_ty ci j) = m_f ρ τ σ r j (j_ty ci j) := fun j hj => by
    have e9 : u2 σ.2.1 r k (some x) r j = σ.2.1 r j := by rw [u2_self, u1_ne hj]
    cases j_ty ci j <;> first | rfl | (unfold m_f; dsimp only; rw [e9])
  have hoo : ∀ q, q ≠ r → m_E cA ρ τ (s_uP σ r k (some x)) q = m_E cA ρ τ σ q := fun q hq => m_E_ext rfl (fun j => by show m_rf ρ τ (u2 _ _ _ _ q j) = _; rw [u2_row hq]) rfl rfl
  have hwf : m_Wf rn rx (s_uP σ r k (some x)) := m_Wf_uP (m_wh hw) hI.2.2.2
  have hE : m_E cA ρ τ (s_uP σ r k (some x)) r = .inr (ci, m_fs ρ τ (s_uP σ r k (some x)) r ci) := m_E_obj hr
  have hset : (m_ws cA ρ τ σ).set r (ρ r, .inr (ci, (m_fs ρ τ σ r ci).set k (m_v ρ τ (.ref x)))) = m_ws cA ρ τ (s_uP σ r k (some x)) := m_ws_set rfl hoo (by rw [hE, ← m_fs_set hk hf ho])
  have h9 : ∀ (H1 : Heap) (locs1 : List Loc), va_P (dC, dI) j_cls ((m_ws cA ρ τ σ).set r (ρ r, .inr (ci, (m_fs ρ τ σ r ci).set k (m_v ρ τ (.ref x))))) H1 → va_D A ((m_ws cA ρ τ σ).set r (ρ r, .inr (ci, (m_fs ρ τ σ r ci).set k (m_v ρ τ (.ref x))))) → va_S A s.heap H1 locs1 → W p l e R s m args below meth c H1 locs1 cells slots Q (F0 m (pc + 3) ls (st.map (m_v ρ τ))) := fun H1 locs1 g1 g2 g3 => by
    rw [hset] at g1 g2
    exact kk ρ H1 locs1 cells slots ls ⟨g1, g2, g3, hwf⟩ hc hs hL (m_wt (m_wt hw))
  rw [List.map_cons, List.map_cons, e1]
  rcases hfin with hfin | ⟨hfin, hdecl⟩
  · exact va_put hS.1 hS.2.1 hS.2.2.2.1 hu (j_ty ci) (j_ty_ok hci) (j_nm hci) hS.2.2.1 hS.2.2.2.2.1 hI.1 hI.2.1 hI.2.2.1 r ((m_ws_get hrn).trans (by rw [m_E_obj hr])) (j_cls_get hci) k hk (hS.2.2.2.1 _ hl) (fun _ h => h) hfin (j_ty_ok hci k hk) hn.1 hn.2 (by rw [m_fs_len]; exact hk) hdg h9
  · by_cases hff : (j_T ci k).2.2.2 = true
    · exact va_putF hS.1 hS.2.1 hS.2.2.2.1 hu (j_ty ci) (j_ty_ok hci) (j_nm hci) hS.2.2.1 hS.2.2.2.2.1 hI.1 hI.2.1 hI.2.2.1 r ((m_ws_get hrn).trans (by rw [m_E_obj hr])) (j_cls_get hci) k hk (hS.2.2.2.1 _ hl) (fun _ h => h) hff hfin hdecl (j_ty_ok hci k hk) hn.1 hn.2 (by rw [m_fs_len]; exact hk) hdg h9
    · exact va_put hS.1 hS.2.1 hS.2.2.2.1 hu (j_ty ci) (j_ty_ok hci) (j_nm hci) hS.2.2.1 hS.2.2.2.2.1 hI.1 hI.2.1 hI.2.2.1 r ((m_ws_get hrn).trans (by rw [m_E_obj hr])) (j_cls_get hci) k hk (hS.2.2.2.1 _ hl) (fun _ h => h) (Bool.not_eq_true _ ▸ hff) (j_ty_ok hci k hk) hn.1 hn.2 (by rw [m_fs_len]; exact hk) hdg h9
end SIMOPS
