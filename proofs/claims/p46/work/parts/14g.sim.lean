/-! ===== THE MACHINE FOLLOWS THE LITTLE MACHINE, part 7: one instruction, a stretch, a method ===== -/
def m_go (p : Program) (l : Launch) (e : Env) (R : Room) (s : State) (m : MethodId) (args : Array Value) (below : List Frame) (meth : Method) (c : Code) (Q : State → Prop) (dC : Nat → ClassId) (dI : Nat → Nat → Nat) (cA : FieldType → ClassId) (τ rn : Nat → Nat) (rx : Nat → Nat → Int32) (A : Nat → Prop) (nL nb lb : Nat) (ρ0 : Nat → Nat) (r0 : Rr) (pc : Nat) (L : j_L) (st : List Value) (σ : Sto) : Prop :=
  m_at p l e R s m args below meth c Q dC dI cA τ rn rx A nL nb lb ρ0 pc L st σ ∧ s_n σ ≤ s_n r0.2 ∧ s_l σ ≤ s_l r0.2
/-- where a method ends, with what -/
def m_end (k : Nat) (v : Option Value) (cc : ByteArray) (pc : Nat) (st : List Value) : Prop :=
  (decode cc pc = .ok (.return_, 1) ∧ mRt k = none ∧ v = none ∧ st = []) ∨ (decode cc pc = .ok (.ireturn, 1) ∧ ∃ x : Int32, v = some (.int x) ∧ st = [.int x] ∧ (mRt k = some .int ∨ (mRt k = some .boolean ∧ (x = 0 ∨ x = 1)))) ∨ (decode cc pc = .ok (.lreturn, 1) ∧ ∃ x : Int64, v = some (.long x) ∧ st = [.long x] ∧ mRt k = some .long)
theorem m_tst {cn : ClassFile.Cond} {x y : Int32} {a b : Option Rr} {r0 : Rr} (h : j_tst cn x y a b = some r0) : (j_P cn x y ∧ a = some r0) ∨ (¬ j_P cn x y ∧ b = some r0) := by
  unfold j_tst at h
  unfold j_P
  cases cn <;> dsimp only at h ⊢ <;> split at h
  · exact Or.inl ⟨by assumption, h⟩
  · exact Or.inr ⟨by assumption, h⟩
  · exact Or.inr ⟨fun z => z (by assumption), h⟩
  · exact Or.inl ⟨by assumption, h⟩
  · exact Or.inl ⟨by assumption, h⟩
  · exact Or.inr ⟨by assumption, h⟩
  · exact Or.inr ⟨fun z => z (by assumption), h⟩
  · exact Or.inl ⟨by assumption, h⟩
  · exact Or.inl ⟨by assumption, h⟩
  · exact Or.inr ⟨by assumption, h⟩
  · exact Or.inr ⟨fun z => z (by assumption), h⟩
  · exact Or.inl ⟨by assumption, h⟩
theorem m_kT {n : Int} (h1 : -1000 ≤ n) (h2 : n ≤ 3000) : (j_k n).toInt = n := by
  unfold j_k
  exact Int32.toInt_ofInt_of_le (by omega) (by omega)
theorem m_tsw {x : Int32} {d : Nat} {K : Nat → Option Rr} {r0 : Rr} : ∀ (ts : List Nat) (lo : Int), -1000 ≤ lo → lo + ts.length ≤ 3000 → j_sw x d K (j_tps lo ts) = some r0 → (K d = some r0 ∧ (x.toInt < lo ∨ lo + ts.length ≤ x.toInt)) ∨ ∃ (i t : Nat), ts[i]? = some t ∧ x.toInt = lo + i ∧ K t = some r0
  | [], lo, _, _, h => Or.inl ⟨h, by simp; omega⟩
  | t :: ts, lo, h1, h2, h => by
    unfold j_tps j_sw at h
    rw [List.length_cons] at h2 ⊢
    split at h
    next he => exact Or.inr ⟨0, t, rfl, by rw [he, m_kT h1 (by omega)]; omega, h⟩
    next he =>
      have hx : x.toInt ≠ lo := fun z => he (Int32.toInt_inj.mp (by rw [z, m_kT h1 (by omega)]))
      rcases m_tsw ts (lo + 1) (by omega) (by omega) h with ⟨a, b⟩ | ⟨i, t', a, b, c⟩
      · exact Or.inl ⟨a, by omega⟩
      · exact Or.inr ⟨i + 1, t', a, by omega, c⟩
theorem m_lk {l own idx k kind : Nat} (h : j_lkA l own idx k kind = true) : ∃ p a b, j_lkB (own, idx, k, kind, p, a, b) = true := by
  unfold j_lkA at h
  cases hl : j_lks[l]? with
  | none => rw [hl] at h; cases h
  | some e =>
    rw [hl] at h
    obtain ⟨o, i, m, kd, p, a, b⟩ := e
    simp only [decide_eq_true_eq] at h
    obtain ⟨rfl, rfl, rfl, rfl⟩ := h
    exact ⟨p, a, b, List.all_eq_true.mp j_lks_ok _ (List.mem_of_getElem? hl)⟩
theorem m_fl {l own idx c f : Nat} (h : (match j_fls[l]? with
      | some (o, i, c', f', _) => decide (o = own ∧ i = idx ∧ c' = c ∧ f' = f)
      | none => false) = true) : Jvm.Cond.fieldLink (j_CN own) idx (j_T c f).1 (j_T c f).2.1 (j_T c f).2.2.1 ∈ j_ws := by
  cases hl : j_fls[l]? with
  | none => rw [hl] at h; cases h
  | some e =>
    rw [hl] at h
    obtain ⟨o, i, m, kd, p⟩ := e
    simp only [decide_eq_true_eq] at h
    obtain ⟨rfl, rfl, rfl, rfl⟩ := h
    exact m_has (List.all_eq_true.mp j_fls_ok _ (List.mem_of_getElem? hl))
theorem m_kd0 {c k : Nat} (h : 0 = j_kd c k) : j_ty c k = .int := by
  unfold j_kd at h
  split at h <;> first | assumption | cases h
theorem m_kd1 {c k : Nat} (h : 1 = j_kd c k) : j_ty c k = .long := by
  unfold j_kd at h
  split at h <;> first | assumption | cases h
theorem m_kd3 {c k : Nat} (h : 3 = j_kd c k) : j_ty c k = .boolean := by
  unfold j_kd at h
  split at h <;> first | assumption | cases h
theorem m_kd2 {c k : Nat} (h : 2 = j_kd c k) : (∃ n, j_ty c k = .object n) ∨ ∃ t, j_ty c k = .array t := by
  unfold j_kd at h
  split at h <;> first | exact Or.inl ⟨_, by assumption⟩ | exact Or.inr ⟨_, by assumption⟩ | cases h
theorem m_kdx {c k kd : Nat} (h : kd = j_kd c k) (h1 : ¬ kd = 1) (h2 : ¬ kd = 2) (h9 : j_kd c k ≠ 9) : j_ty c k = .int ∨ j_ty c k = .boolean := by
  subst h
  unfold j_kd at h1 h2 h9
  split at h1 <;> first | exact Or.inl (by assumption) | exact Or.inr (by assumption) | exact absurd rfl h1 | (exact absurd (by assumption) (by simp_all))
/-- an array class, by the words of the tables -/
theorem m_drop {st : List Value} {na : Nat} {r : Nat} {st' : List Value} (h : st.drop na = .ref r :: st') : st = st.take na ++ .ref r :: st' := by rw [← h, List.take_append_drop]
theorem m_clo {call : Nat → List Value → Sto → Option Rr} {m rt : Nat} {as st : List Value} {σ : Sto} {K : List Value → Sto → Option Rr} {r0 : Rr} (h : j_cl call m rt as σ st K = some r0) : ∃ v σ', call m as σ = some (v, σ') ∧ K (v.toList ++ st) σ' = some r0 := by
  unfold j_cl at h
  split at h
  · unfold j_c0 at h
    split at h
    · rename_i t ht
      exact ⟨none, t, ht, h⟩
    · cases h
  · unfold j_c1 at h
    split at h
    · rename_i x t ht
      exact ⟨some (.int x), t, ht, h⟩
    · cases h
  · unfold j_c2 at h
    split at h
    · rename_i x t ht
      exact ⟨some (.long x), t, ht, h⟩
    · cases h
theorem j_kd9 {c f : Nat} (hc : c < 8) (hf : f < j_nf c) : j_kd c f ≠ 9 := m_c8 (P := fun c => ∀ f, f < j_nf c → j_kd c f ≠ 9) (by decide +kernel) (by decide +kernel) (by decide +kernel) (by decide +kernel) (by decide +kernel) (by decide +kernel) (by decide +kernel) (by decide +kernel) hc f hf
theorem j_dv {c : Nat} (hc : c < 8) : ∀ j, j < j_nf c → defaultValue (j_ty c j) = (if j_ty c j = .long then .long 0 else if refKind (j_ty c j) then .null else .int 0) := m_c8 (P := fun c => ∀ j, j < j_nf c → defaultValue (j_ty c j) = (if j_ty c j = .long then .long 0 else if refKind (j_ty c j) then .null else .int 0)) (by decide +kernel) (by decide +kernel) (by decide +kernel) (by decide +kernel) (by decide +kernel) (by decide +kernel) (by decide +kernel) (by decide +kernel) hc
section SIMSTP
variable {p : Program} {l : Launch} {e : Env} {R : Room} {s : State} {m : MethodId} {args : Array Value} {below : List Frame} {meth : Method} {c : Code} {Q : State → Prop} {dC : Nat → ClassId} {dI : Nat → Nat → Nat} {cA : FieldType → ClassId} {τ rn : Nat → Nat} {rx : Nat → Nat → Int32} {A : Nat → Prop} {nL nb lb own : Nat} {ρ0 : Nat → Nat} {cc : ByteArray} {pc : Nat} {L : j_L} {st : List Value} {σ : Sto}
variable {k d : Nat} {r0 : Rr} {call : Nat → List Value → Sto → Option Rr}

set_option maxHeartbeats 4000000 in
theorem m_s_iconst (hS : m_St p R s m args c dC dI cA τ rn rx A nL own cc) (hnm : (mN k).name = "<init>" → meth.name = "<init>") (hbn : s_n r0.2 ≤ j_b) (hRc : s_n r0.2 ≤ R.cells + nb) (hRs : s_l r0.2 ≤ R.slots + lb) (hfr : d + 1 ≤ R.frames) (hlo : 40 * d + 40 ≤ R.locals) (hcall : ∀ k' as σ v σ', k' < 137 → call k' as σ = some (v, σ') → m_Ct l d k' as σ v σ') (hend : ∀ pc L st, m_end k r0.1 cc pc st → m_at p l e R s m args below meth c Q dC dI cA τ rn rx A nL nb lb ρ0 (pc) (L) (st) (r0.2)) (n : Int) {q : List Nat} {K : Nat → j_L → List Value → Sto → Option Rr} (hE : j_okE k own pc (.iconst n) q = true) (hd0 : ∃ ln, decode cc pc = .ok ((.iconst n), ln) ∧ (ln = j_il (.iconst n) ∨ j_isw (.iconst n) = true)) (h : j_stp call (.iconst n) q pc L st σ K = some r0) (hK : ∀ pc' L' st' σ', K pc' L' st' σ' = some r0 → m_go p l e R s m args below meth c Q dC dI cA τ rn rx A nL nb lb ρ0 r0 (pc') (L') (st') (σ')) : m_go p l e R s m args below meth c Q dC dI cA τ rn rx A nL nb lb ρ0 r0 (pc) (L) (st) (σ) := by
    have hd1 : decode cc pc = .ok ((.iconst n), j_il (.iconst n)) := by obtain ⟨ln, h1, h2 | h2⟩ := hd0 <;> first | (rw [h1, h2]) | cases h2
    unfold j_stp at h
    unfold j_okE at hE
    dsimp only at h hE
    obtain ⟨a1, a2, a3⟩ := hK _ _ _ _ h
    exact ⟨m_iconst hS hd1 a1, a2, a3⟩
set_option maxHeartbeats 4000000 in
theorem m_s_bipush (hS : m_St p R s m args c dC dI cA τ rn rx A nL own cc) (hnm : (mN k).name = "<init>" → meth.name = "<init>") (hbn : s_n r0.2 ≤ j_b) (hRc : s_n r0.2 ≤ R.cells + nb) (hRs : s_l r0.2 ≤ R.slots + lb) (hfr : d + 1 ≤ R.frames) (hlo : 40 * d + 40 ≤ R.locals) (hcall : ∀ k' as σ v σ', k' < 137 → call k' as σ = some (v, σ') → m_Ct l d k' as σ v σ') (hend : ∀ pc L st, m_end k r0.1 cc pc st → m_at p l e R s m args below meth c Q dC dI cA τ rn rx A nL nb lb ρ0 (pc) (L) (st) (r0.2)) (n : Int) {q : List Nat} {K : Nat → j_L → List Value → Sto → Option Rr} (hE : j_okE k own pc (.bipush n) q = true) (hd0 : ∃ ln, decode cc pc = .ok ((.bipush n), ln) ∧ (ln = j_il (.bipush n) ∨ j_isw (.bipush n) = true)) (h : j_stp call (.bipush n) q pc L st σ K = some r0) (hK : ∀ pc' L' st' σ', K pc' L' st' σ' = some r0 → m_go p l e R s m args below meth c Q dC dI cA τ rn rx A nL nb lb ρ0 r0 (pc') (L') (st') (σ')) : m_go p l e R s m args below meth c Q dC dI cA τ rn rx A nL nb lb ρ0 r0 (pc) (L) (st) (σ) := by
    have hd1 : decode cc pc = .ok ((.bipush n), j_il (.bipush n)) := by obtain ⟨ln, h1, h2 | h2⟩ := hd0 <;> first | (rw [h1, h2]) | cases h2
    unfold j_stp at h
    unfold j_okE at hE
    dsimp only at h hE
    obtain ⟨a1, a2, a3⟩ := hK _ _ _ _ h
    exact ⟨m_bipush hS (of_decide_eq_true hE) hd1 a1, a2, a3⟩
set_option maxHeartbeats 4000000 in
theorem m_s_sipush (hS : m_St p R s m args c dC dI cA τ rn rx A nL own cc) (hnm : (mN k).name = "<init>" → meth.name = "<init>") (hbn : s_n r0.2 ≤ j_b) (hRc : s_n r0.2 ≤ R.cells + nb) (hRs : s_l r0.2 ≤ R.slots + lb) (hfr : d + 1 ≤ R.frames) (hlo : 40 * d + 40 ≤ R.locals) (hcall : ∀ k' as σ v σ', k' < 137 → call k' as σ = some (v, σ') → m_Ct l d k' as σ v σ') (hend : ∀ pc L st, m_end k r0.1 cc pc st → m_at p l e R s m args below meth c Q dC dI cA τ rn rx A nL nb lb ρ0 (pc) (L) (st) (r0.2)) (n : Int) {q : List Nat} {K : Nat → j_L → List Value → Sto → Option Rr} (hE : j_okE k own pc (.sipush n) q = true) (hd0 : ∃ ln, decode cc pc = .ok ((.sipush n), ln) ∧ (ln = j_il (.sipush n) ∨ j_isw (.sipush n) = true)) (h : j_stp call (.sipush n) q pc L st σ K = some r0) (hK : ∀ pc' L' st' σ', K pc' L' st' σ' = some r0 → m_go p l e R s m args below meth c Q dC dI cA τ rn rx A nL nb lb ρ0 r0 (pc') (L') (st') (σ')) : m_go p l e R s m args below meth c Q dC dI cA τ rn rx A nL nb lb ρ0 r0 (pc) (L) (st) (σ) := by
    have hd1 : decode cc pc = .ok ((.sipush n), j_il (.sipush n)) := by obtain ⟨ln, h1, h2 | h2⟩ := hd0 <;> first | (rw [h1, h2]) | cases h2
    unfold j_stp at h
    unfold j_okE at hE
    dsimp only at h hE
    obtain ⟨a1, a2, a3⟩ := hK _ _ _ _ h
    exact ⟨m_sipush hS (of_decide_eq_true hE) hd1 a1, a2, a3⟩
set_option maxHeartbeats 4000000 in
theorem m_s_lconst (hS : m_St p R s m args c dC dI cA τ rn rx A nL own cc) (hnm : (mN k).name = "<init>" → meth.name = "<init>") (hbn : s_n r0.2 ≤ j_b) (hRc : s_n r0.2 ≤ R.cells + nb) (hRs : s_l r0.2 ≤ R.slots + lb) (hfr : d + 1 ≤ R.frames) (hlo : 40 * d + 40 ≤ R.locals) (hcall : ∀ k' as σ v σ', k' < 137 → call k' as σ = some (v, σ') → m_Ct l d k' as σ v σ') (hend : ∀ pc L st, m_end k r0.1 cc pc st → m_at p l e R s m args below meth c Q dC dI cA τ rn rx A nL nb lb ρ0 (pc) (L) (st) (r0.2)) (n : Fin 2) {q : List Nat} {K : Nat → j_L → List Value → Sto → Option Rr} (hE : j_okE k own pc (.lconst n) q = true) (hd0 : ∃ ln, decode cc pc = .ok ((.lconst n), ln) ∧ (ln = j_il (.lconst n) ∨ j_isw (.lconst n) = true)) (h : j_stp call (.lconst n) q pc L st σ K = some r0) (hK : ∀ pc' L' st' σ', K pc' L' st' σ' = some r0 → m_go p l e R s m args below meth c Q dC dI cA τ rn rx A nL nb lb ρ0 r0 (pc') (L') (st') (σ')) : m_go p l e R s m args below meth c Q dC dI cA τ rn rx A nL nb lb ρ0 r0 (pc) (L) (st) (σ) := by
    have hd1 : decode cc pc = .ok ((.lconst n), j_il (.lconst n)) := by obtain ⟨ln, h1, h2 | h2⟩ := hd0 <;> first | (rw [h1, h2]) | cases h2
    unfold j_stp at h
    unfold j_okE at hE
    dsimp only at h hE
    obtain ⟨a1, a2, a3⟩ := hK _ _ _ _ h
    exact ⟨m_lconst hS hd1 a1, a2, a3⟩
set_option maxHeartbeats 4000000 in
theorem m_s_ldc (hS : m_St p R s m args c dC dI cA τ rn rx A nL own cc) (hnm : (mN k).name = "<init>" → meth.name = "<init>") (hbn : s_n r0.2 ≤ j_b) (hRc : s_n r0.2 ≤ R.cells + nb) (hRs : s_l r0.2 ≤ R.slots + lb) (hfr : d + 1 ≤ R.frames) (hlo : 40 * d + 40 ≤ R.locals) (hcall : ∀ k' as σ v σ', k' < 137 → call k' as σ = some (v, σ') → m_Ct l d k' as σ v σ') (hend : ∀ pc L st, m_end k r0.1 cc pc st → m_at p l e R s m args below meth c Q dC dI cA τ rn rx A nL nb lb ρ0 (pc) (L) (st) (r0.2)) (n : Nat) {q : List Nat} {K : Nat → j_L → List Value → Sto → Option Rr} (hE : j_okE k own pc (.ldc n) q = true) (hd0 : ∃ ln, decode cc pc = .ok ((.ldc n), ln) ∧ (ln = j_il (.ldc n) ∨ j_isw (.ldc n) = true)) (h : j_stp call (.ldc n) q pc L st σ K = some r0) (hK : ∀ pc' L' st' σ', K pc' L' st' σ' = some r0 → m_go p l e R s m args below meth c Q dC dI cA τ rn rx A nL nb lb ρ0 r0 (pc') (L') (st') (σ')) : m_go p l e R s m args below meth c Q dC dI cA τ rn rx A nL nb lb ρ0 r0 (pc) (L) (st) (σ) := by
    have hd1 : decode cc pc = .ok ((.ldc n), j_il (.ldc n)) := by obtain ⟨ln, h1, h2 | h2⟩ := hd0 <;> first | (rw [h1, h2]) | cases h2
    unfold j_stp at h
    unfold j_okE at hE
    dsimp only at h hE
    split at h
    · obtain ⟨a1, a2, a3⟩ := hK _ _ _ _ h
      exact ⟨m_ldc hS (m_has hE) hd1 a1, a2, a3⟩
    · cases h
set_option maxHeartbeats 4000000 in
theorem m_s_ldc_w (hS : m_St p R s m args c dC dI cA τ rn rx A nL own cc) (hnm : (mN k).name = "<init>" → meth.name = "<init>") (hbn : s_n r0.2 ≤ j_b) (hRc : s_n r0.2 ≤ R.cells + nb) (hRs : s_l r0.2 ≤ R.slots + lb) (hfr : d + 1 ≤ R.frames) (hlo : 40 * d + 40 ≤ R.locals) (hcall : ∀ k' as σ v σ', k' < 137 → call k' as σ = some (v, σ') → m_Ct l d k' as σ v σ') (hend : ∀ pc L st, m_end k r0.1 cc pc st → m_at p l e R s m args below meth c Q dC dI cA τ rn rx A nL nb lb ρ0 (pc) (L) (st) (r0.2)) (n : Nat) {q : List Nat} {K : Nat → j_L → List Value → Sto → Option Rr} (hE : j_okE k own pc (.ldc_w n) q = true) (hd0 : ∃ ln, decode cc pc = .ok ((.ldc_w n), ln) ∧ (ln = j_il (.ldc_w n) ∨ j_isw (.ldc_w n) = true)) (h : j_stp call (.ldc_w n) q pc L st σ K = some r0) (hK : ∀ pc' L' st' σ', K pc' L' st' σ' = some r0 → m_go p l e R s m args below meth c Q dC dI cA τ rn rx A nL nb lb ρ0 r0 (pc') (L') (st') (σ')) : m_go p l e R s m args below meth c Q dC dI cA τ rn rx A nL nb lb ρ0 r0 (pc) (L) (st) (σ) := by
    have hd1 : decode cc pc = .ok ((.ldc_w n), j_il (.ldc_w n)) := by obtain ⟨ln, h1, h2 | h2⟩ := hd0 <;> first | (rw [h1, h2]) | cases h2
    unfold j_stp at h
    unfold j_okE at hE
    dsimp only at h hE
    split at h
    · obtain ⟨a1, a2, a3⟩ := hK _ _ _ _ h
      exact ⟨m_ldcw hS (m_has hE) hd1 a1, a2, a3⟩
    · cases h
set_option maxHeartbeats 4000000 in
theorem m_s_ldc2_w (hS : m_St p R s m args c dC dI cA τ rn rx A nL own cc) (hnm : (mN k).name = "<init>" → meth.name = "<init>") (hbn : s_n r0.2 ≤ j_b) (hRc : s_n r0.2 ≤ R.cells + nb) (hRs : s_l r0.2 ≤ R.slots + lb) (hfr : d + 1 ≤ R.frames) (hlo : 40 * d + 40 ≤ R.locals) (hcall : ∀ k' as σ v σ', k' < 137 → call k' as σ = some (v, σ') → m_Ct l d k' as σ v σ') (hend : ∀ pc L st, m_end k r0.1 cc pc st → m_at p l e R s m args below meth c Q dC dI cA τ rn rx A nL nb lb ρ0 (pc) (L) (st) (r0.2)) (n : Nat) {q : List Nat} {K : Nat → j_L → List Value → Sto → Option Rr} (hE : j_okE k own pc (.ldc2_w n) q = true) (hd0 : ∃ ln, decode cc pc = .ok ((.ldc2_w n), ln) ∧ (ln = j_il (.ldc2_w n) ∨ j_isw (.ldc2_w n) = true)) (h : j_stp call (.ldc2_w n) q pc L st σ K = some r0) (hK : ∀ pc' L' st' σ', K pc' L' st' σ' = some r0 → m_go p l e R s m args below meth c Q dC dI cA τ rn rx A nL nb lb ρ0 r0 (pc') (L') (st') (σ')) : m_go p l e R s m args below meth c Q dC dI cA τ rn rx A nL nb lb ρ0 r0 (pc) (L) (st) (σ) := by
    have hd1 : decode cc pc = .ok ((.ldc2_w n), j_il (.ldc2_w n)) := by obtain ⟨ln, h1, h2 | h2⟩ := hd0 <;> first | (rw [h1, h2]) | cases h2
    unfold j_stp at h
    unfold j_okE at hE
    dsimp only at h hE
    split at h
    · obtain ⟨a1, a2, a3⟩ := hK _ _ _ _ h
      exact ⟨m_ldc2 hS (m_has hE) hd1 a1, a2, a3⟩
    · cases h
set_option maxHeartbeats 4000000 in
theorem m_s_iload (hS : m_St p R s m args c dC dI cA τ rn rx A nL own cc) (hnm : (mN k).name = "<init>" → meth.name = "<init>") (hbn : s_n r0.2 ≤ j_b) (hRc : s_n r0.2 ≤ R.cells + nb) (hRs : s_l r0.2 ≤ R.slots + lb) (hfr : d + 1 ≤ R.frames) (hlo : 40 * d + 40 ≤ R.locals) (hcall : ∀ k' as σ v σ', k' < 137 → call k' as σ = some (v, σ') → m_Ct l d k' as σ v σ') (hend : ∀ pc L st, m_end k r0.1 cc pc st → m_at p l e R s m args below meth c Q dC dI cA τ rn rx A nL nb lb ρ0 (pc) (L) (st) (r0.2)) (n : Nat) {q : List Nat} {K : Nat → j_L → List Value → Sto → Option Rr} (hE : j_okE k own pc (.iload n) q = true) (hd0 : ∃ ln, decode cc pc = .ok ((.iload n), ln) ∧ (ln = j_il (.iload n) ∨ j_isw (.iload n) = true)) (h : j_stp call (.iload n) q pc L st σ K = some r0) (hK : ∀ pc' L' st' σ', K pc' L' st' σ' = some r0 → m_go p l e R s m args below meth c Q dC dI cA τ rn rx A nL nb lb ρ0 r0 (pc') (L') (st') (σ')) : m_go p l e R s m args below meth c Q dC dI cA τ rn rx A nL nb lb ρ0 r0 (pc) (L) (st) (σ) := by
    have hd1 : decode cc pc = .ok ((.iload n), j_il (.iload n)) := by obtain ⟨ln, h1, h2 | h2⟩ := hd0 <;> first | (rw [h1, h2]) | cases h2
    unfold j_stp at h
    unfold j_okE at hE
    dsimp only at h hE
    unfold j_ldI at h
    split at h
    · rename_i x hx
      obtain ⟨a1, a2, a3⟩ := hK _ _ _ _ h
      exact ⟨m_iload hS hx hd1 a1, a2, a3⟩
    · cases h
set_option maxHeartbeats 4000000 in
theorem m_s_lload (hS : m_St p R s m args c dC dI cA τ rn rx A nL own cc) (hnm : (mN k).name = "<init>" → meth.name = "<init>") (hbn : s_n r0.2 ≤ j_b) (hRc : s_n r0.2 ≤ R.cells + nb) (hRs : s_l r0.2 ≤ R.slots + lb) (hfr : d + 1 ≤ R.frames) (hlo : 40 * d + 40 ≤ R.locals) (hcall : ∀ k' as σ v σ', k' < 137 → call k' as σ = some (v, σ') → m_Ct l d k' as σ v σ') (hend : ∀ pc L st, m_end k r0.1 cc pc st → m_at p l e R s m args below meth c Q dC dI cA τ rn rx A nL nb lb ρ0 (pc) (L) (st) (r0.2)) (n : Nat) {q : List Nat} {K : Nat → j_L → List Value → Sto → Option Rr} (hE : j_okE k own pc (.lload n) q = true) (hd0 : ∃ ln, decode cc pc = .ok ((.lload n), ln) ∧ (ln = j_il (.lload n) ∨ j_isw (.lload n) = true)) (h : j_stp call (.lload n) q pc L st σ K = some r0) (hK : ∀ pc' L' st' σ', K pc' L' st' σ' = some r0 → m_go p l e R s m args below meth c Q dC dI cA τ rn rx A nL nb lb ρ0 r0 (pc') (L') (st') (σ')) : m_go p l e R s m args below meth c Q dC dI cA τ rn rx A nL nb lb ρ0 r0 (pc) (L) (st) (σ) := by
    have hd1 : decode cc pc = .ok ((.lload n), j_il (.lload n)) := by obtain ⟨ln, h1, h2 | h2⟩ := hd0 <;> first | (rw [h1, h2]) | cases h2
    unfold j_stp at h
    unfold j_okE at hE
    dsimp only at h hE
    unfold j_ldJ at h
    split at h
    · rename_i x hx
      obtain ⟨a1, a2, a3⟩ := hK _ _ _ _ h
      exact ⟨m_lload hS hx hd1 a1, a2, a3⟩
    · cases h
set_option maxHeartbeats 4000000 in
theorem m_s_aload (hS : m_St p R s m args c dC dI cA τ rn rx A nL own cc) (hnm : (mN k).name = "<init>" → meth.name = "<init>") (hbn : s_n r0.2 ≤ j_b) (hRc : s_n r0.2 ≤ R.cells + nb) (hRs : s_l r0.2 ≤ R.slots + lb) (hfr : d + 1 ≤ R.frames) (hlo : 40 * d + 40 ≤ R.locals) (hcall : ∀ k' as σ v σ', k' < 137 → call k' as σ = some (v, σ') → m_Ct l d k' as σ v σ') (hend : ∀ pc L st, m_end k r0.1 cc pc st → m_at p l e R s m args below meth c Q dC dI cA τ rn rx A nL nb lb ρ0 (pc) (L) (st) (r0.2)) (n : Nat) {q : List Nat} {K : Nat → j_L → List Value → Sto → Option Rr} (hE : j_okE k own pc (.aload n) q = true) (hd0 : ∃ ln, decode cc pc = .ok ((.aload n), ln) ∧ (ln = j_il (.aload n) ∨ j_isw (.aload n) = true)) (h : j_stp call (.aload n) q pc L st σ K = some r0) (hK : ∀ pc' L' st' σ', K pc' L' st' σ' = some r0 → m_go p l e R s m args below meth c Q dC dI cA τ rn rx A nL nb lb ρ0 r0 (pc') (L') (st') (σ')) : m_go p l e R s m args below meth c Q dC dI cA τ rn rx A nL nb lb ρ0 r0 (pc) (L) (st) (σ) := by
    have hd1 : decode cc pc = .ok ((.aload n), j_il (.aload n)) := by obtain ⟨ln, h1, h2 | h2⟩ := hd0 <;> first | (rw [h1, h2]) | cases h2
    unfold j_stp at h
    unfold j_okE at hE
    dsimp only at h hE
    unfold j_ldA at h
    split at h
    · rename_i x hx
      obtain ⟨a1, a2, a3⟩ := hK _ _ _ _ h
      exact ⟨m_aload hS hx hd1 a1, a2, a3⟩
    · cases h
set_option maxHeartbeats 4000000 in
theorem m_s_iload_n (hS : m_St p R s m args c dC dI cA τ rn rx A nL own cc) (hnm : (mN k).name = "<init>" → meth.name = "<init>") (hbn : s_n r0.2 ≤ j_b) (hRc : s_n r0.2 ≤ R.cells + nb) (hRs : s_l r0.2 ≤ R.slots + lb) (hfr : d + 1 ≤ R.frames) (hlo : 40 * d + 40 ≤ R.locals) (hcall : ∀ k' as σ v σ', k' < 137 → call k' as σ = some (v, σ') → m_Ct l d k' as σ v σ') (hend : ∀ pc L st, m_end k r0.1 cc pc st → m_at p l e R s m args below meth c Q dC dI cA τ rn rx A nL nb lb ρ0 (pc) (L) (st) (r0.2)) (n : Fin 4) {q : List Nat} {K : Nat → j_L → List Value → Sto → Option Rr} (hE : j_okE k own pc (.iload_n n) q = true) (hd0 : ∃ ln, decode cc pc = .ok ((.iload_n n), ln) ∧ (ln = j_il (.iload_n n) ∨ j_isw (.iload_n n) = true)) (h : j_stp call (.iload_n n) q pc L st σ K = some r0) (hK : ∀ pc' L' st' σ', K pc' L' st' σ' = some r0 → m_go p l e R s m args below meth c Q dC dI cA τ rn rx A nL nb lb ρ0 r0 (pc') (L') (st') (σ')) : m_go p l e R s m args below meth c Q dC dI cA τ rn rx A nL nb lb ρ0 r0 (pc) (L) (st) (σ) := by
    have hd1 : decode cc pc = .ok ((.iload_n n), j_il (.iload_n n)) := by obtain ⟨ln, h1, h2 | h2⟩ := hd0 <;> first | (rw [h1, h2]) | cases h2
    unfold j_stp at h
    unfold j_okE at hE
    dsimp only at h hE
    unfold j_ldI at h
    split at h
    · rename_i x hx
      obtain ⟨a1, a2, a3⟩ := hK _ _ _ _ h
      exact ⟨m_iload_n hS hx hd1 a1, a2, a3⟩
    · cases h
set_option maxHeartbeats 4000000 in
theorem m_s_lload_n (hS : m_St p R s m args c dC dI cA τ rn rx A nL own cc) (hnm : (mN k).name = "<init>" → meth.name = "<init>") (hbn : s_n r0.2 ≤ j_b) (hRc : s_n r0.2 ≤ R.cells + nb) (hRs : s_l r0.2 ≤ R.slots + lb) (hfr : d + 1 ≤ R.frames) (hlo : 40 * d + 40 ≤ R.locals) (hcall : ∀ k' as σ v σ', k' < 137 → call k' as σ = some (v, σ') → m_Ct l d k' as σ v σ') (hend : ∀ pc L st, m_end k r0.1 cc pc st → m_at p l e R s m args below meth c Q dC dI cA τ rn rx A nL nb lb ρ0 (pc) (L) (st) (r0.2)) (n : Fin 4) {q : List Nat} {K : Nat → j_L → List Value → Sto → Option Rr} (hE : j_okE k own pc (.lload_n n) q = true) (hd0 : ∃ ln, decode cc pc = .ok ((.lload_n n), ln) ∧ (ln = j_il (.lload_n n) ∨ j_isw (.lload_n n) = true)) (h : j_stp call (.lload_n n) q pc L st σ K = some r0) (hK : ∀ pc' L' st' σ', K pc' L' st' σ' = some r0 → m_go p l e R s m args below meth c Q dC dI cA τ rn rx A nL nb lb ρ0 r0 (pc') (L') (st') (σ')) : m_go p l e R s m args below meth c Q dC dI cA τ rn rx A nL nb lb ρ0 r0 (pc) (L) (st) (σ) := by
    have hd1 : decode cc pc = .ok ((.lload_n n), j_il (.lload_n n)) := by obtain ⟨ln, h1, h2 | h2⟩ := hd0 <;> first | (rw [h1, h2]) | cases h2
    unfold j_stp at h
    unfold j_okE at hE
    dsimp only at h hE
    unfold j_ldJ at h
    split at h
    · rename_i x hx
      obtain ⟨a1, a2, a3⟩ := hK _ _ _ _ h
      exact ⟨m_lload_n hS hx hd1 a1, a2, a3⟩
    · cases h
set_option maxHeartbeats 4000000 in
theorem m_s_aload_n (hS : m_St p R s m args c dC dI cA τ rn rx A nL own cc) (hnm : (mN k).name = "<init>" → meth.name = "<init>") (hbn : s_n r0.2 ≤ j_b) (hRc : s_n r0.2 ≤ R.cells + nb) (hRs : s_l r0.2 ≤ R.slots + lb) (hfr : d + 1 ≤ R.frames) (hlo : 40 * d + 40 ≤ R.locals) (hcall : ∀ k' as σ v σ', k' < 137 → call k' as σ = some (v, σ') → m_Ct l d k' as σ v σ') (hend : ∀ pc L st, m_end k r0.1 cc pc st → m_at p l e R s m args below meth c Q dC dI cA τ rn rx A nL nb lb ρ0 (pc) (L) (st) (r0.2)) (n : Fin 4) {q : List Nat} {K : Nat → j_L → List Value → Sto → Option Rr} (hE : j_okE k own pc (.aload_n n) q = true) (hd0 : ∃ ln, decode cc pc = .ok ((.aload_n n), ln) ∧ (ln = j_il (.aload_n n) ∨ j_isw (.aload_n n) = true)) (h : j_stp call (.aload_n n) q pc L st σ K = some r0) (hK : ∀ pc' L' st' σ', K pc' L' st' σ' = some r0 → m_go p l e R s m args below meth c Q dC dI cA τ rn rx A nL nb lb ρ0 r0 (pc') (L') (st') (σ')) : m_go p l e R s m args below meth c Q dC dI cA τ rn rx A nL nb lb ρ0 r0 (pc) (L) (st) (σ) := by
    have hd1 : decode cc pc = .ok ((.aload_n n), j_il (.aload_n n)) := by obtain ⟨ln, h1, h2 | h2⟩ := hd0 <;> first | (rw [h1, h2]) | cases h2
    unfold j_stp at h
    unfold j_okE at hE
    dsimp only at h hE
    unfold j_ldA at h
    split at h
    · rename_i x hx
      obtain ⟨a1, a2, a3⟩ := hK _ _ _ _ h
      exact ⟨m_aload_n hS hx hd1 a1, a2, a3⟩
    · cases h
set_option maxHeartbeats 4000000 in
theorem m_s_istore (hS : m_St p R s m args c dC dI cA τ rn rx A nL own cc) (hnm : (mN k).name = "<init>" → meth.name = "<init>") (hbn : s_n r0.2 ≤ j_b) (hRc : s_n r0.2 ≤ R.cells + nb) (hRs : s_l r0.2 ≤ R.slots + lb) (hfr : d + 1 ≤ R.frames) (hlo : 40 * d + 40 ≤ R.locals) (hcall : ∀ k' as σ v σ', k' < 137 → call k' as σ = some (v, σ') → m_Ct l d k' as σ v σ') (hend : ∀ pc L st, m_end k r0.1 cc pc st → m_at p l e R s m args below meth c Q dC dI cA τ rn rx A nL nb lb ρ0 (pc) (L) (st) (r0.2)) (n : Nat) {q : List Nat} {K : Nat → j_L → List Value → Sto → Option Rr} (hE : j_okE k own pc (.istore n) q = true) (hd0 : ∃ ln, decode cc pc = .ok ((.istore n), ln) ∧ (ln = j_il (.istore n) ∨ j_isw (.istore n) = true)) (h : j_stp call (.istore n) q pc L st σ K = some r0) (hK : ∀ pc' L' st' σ', K pc' L' st' σ' = some r0 → m_go p l e R s m args below meth c Q dC dI cA τ rn rx A nL nb lb ρ0 r0 (pc') (L') (st') (σ')) : m_go p l e R s m args below meth c Q dC dI cA τ rn rx A nL nb lb ρ0 r0 (pc) (L) (st) (σ) := by
    have hd1 : decode cc pc = .ok ((.istore n), j_il (.istore n)) := by obtain ⟨ln, h1, h2 | h2⟩ := hd0 <;> first | (rw [h1, h2]) | cases h2
    unfold j_stp at h
    unfold j_okE at hE
    dsimp only at h hE
    split at h
    · split at h
      next hk =>
        obtain ⟨a1, a2, a3⟩ := hK _ _ _ _ h
        exact ⟨m_istore hS hk hd1 a1, a2, a3⟩
      next => cases h
    · cases h
set_option maxHeartbeats 4000000 in
theorem m_s_lstore (hS : m_St p R s m args c dC dI cA τ rn rx A nL own cc) (hnm : (mN k).name = "<init>" → meth.name = "<init>") (hbn : s_n r0.2 ≤ j_b) (hRc : s_n r0.2 ≤ R.cells + nb) (hRs : s_l r0.2 ≤ R.slots + lb) (hfr : d + 1 ≤ R.frames) (hlo : 40 * d + 40 ≤ R.locals) (hcall : ∀ k' as σ v σ', k' < 137 → call k' as σ = some (v, σ') → m_Ct l d k' as σ v σ') (hend : ∀ pc L st, m_end k r0.1 cc pc st → m_at p l e R s m args below meth c Q dC dI cA τ rn rx A nL nb lb ρ0 (pc) (L) (st) (r0.2)) (n : Nat) {q : List Nat} {K : Nat → j_L → List Value → Sto → Option Rr} (hE : j_okE k own pc (.lstore n) q = true) (hd0 : ∃ ln, decode cc pc = .ok ((.lstore n), ln) ∧ (ln = j_il (.lstore n) ∨ j_isw (.lstore n) = true)) (h : j_stp call (.lstore n) q pc L st σ K = some r0) (hK : ∀ pc' L' st' σ', K pc' L' st' σ' = some r0 → m_go p l e R s m args below meth c Q dC dI cA τ rn rx A nL nb lb ρ0 r0 (pc') (L') (st') (σ')) : m_go p l e R s m args below meth c Q dC dI cA τ rn rx A nL nb lb ρ0 r0 (pc) (L) (st) (σ) := by
    have hd1 : decode cc pc = .ok ((.lstore n), j_il (.lstore n)) := by obtain ⟨ln, h1, h2 | h2⟩ := hd0 <;> first | (rw [h1, h2]) | cases h2
    unfold j_stp at h
    unfold j_okE at hE
    dsimp only at h hE
    split at h
    · split at h
      next hk =>
        obtain ⟨a1, a2, a3⟩ := hK _ _ _ _ h
        exact ⟨m_lstore hS hk hd1 a1, a2, a3⟩
      next => cases h
    · cases h
set_option maxHeartbeats 4000000 in
theorem m_s_astore (hS : m_St p R s m args c dC dI cA τ rn rx A nL own cc) (hnm : (mN k).name = "<init>" → meth.name = "<init>") (hbn : s_n r0.2 ≤ j_b) (hRc : s_n r0.2 ≤ R.cells + nb) (hRs : s_l r0.2 ≤ R.slots + lb) (hfr : d + 1 ≤ R.frames) (hlo : 40 * d + 40 ≤ R.locals) (hcall : ∀ k' as σ v σ', k' < 137 → call k' as σ = some (v, σ') → m_Ct l d k' as σ v σ') (hend : ∀ pc L st, m_end k r0.1 cc pc st → m_at p l e R s m args below meth c Q dC dI cA τ rn rx A nL nb lb ρ0 (pc) (L) (st) (r0.2)) (n : Nat) {q : List Nat} {K : Nat → j_L → List Value → Sto → Option Rr} (hE : j_okE k own pc (.astore n) q = true) (hd0 : ∃ ln, decode cc pc = .ok ((.astore n), ln) ∧ (ln = j_il (.astore n) ∨ j_isw (.astore n) = true)) (h : j_stp call (.astore n) q pc L st σ K = some r0) (hK : ∀ pc' L' st' σ', K pc' L' st' σ' = some r0 → m_go p l e R s m args below meth c Q dC dI cA τ rn rx A nL nb lb ρ0 r0 (pc') (L') (st') (σ')) : m_go p l e R s m args below meth c Q dC dI cA τ rn rx A nL nb lb ρ0 r0 (pc) (L) (st) (σ) := by
    have hd1 : decode cc pc = .ok ((.astore n), j_il (.astore n)) := by obtain ⟨ln, h1, h2 | h2⟩ := hd0 <;> first | (rw [h1, h2]) | cases h2
    unfold j_stp at h
    unfold j_okE at hE
    dsimp only at h hE
    split at h
    · split at h
      next hk =>
        obtain ⟨a1, a2, a3⟩ := hK _ _ _ _ h
        exact ⟨m_astore hS hk hd1 a1, a2, a3⟩
      next => cases h
    · cases h
set_option maxHeartbeats 4000000 in
theorem m_s_istore_n (hS : m_St p R s m args c dC dI cA τ rn rx A nL own cc) (hnm : (mN k).name = "<init>" → meth.name = "<init>") (hbn : s_n r0.2 ≤ j_b) (hRc : s_n r0.2 ≤ R.cells + nb) (hRs : s_l r0.2 ≤ R.slots + lb) (hfr : d + 1 ≤ R.frames) (hlo : 40 * d + 40 ≤ R.locals) (hcall : ∀ k' as σ v σ', k' < 137 → call k' as σ = some (v, σ') → m_Ct l d k' as σ v σ') (hend : ∀ pc L st, m_end k r0.1 cc pc st → m_at p l e R s m args below meth c Q dC dI cA τ rn rx A nL nb lb ρ0 (pc) (L) (st) (r0.2)) (n : Fin 4) {q : List Nat} {K : Nat → j_L → List Value → Sto → Option Rr} (hE : j_okE k own pc (.istore_n n) q = true) (hd0 : ∃ ln, decode cc pc = .ok ((.istore_n n), ln) ∧ (ln = j_il (.istore_n n) ∨ j_isw (.istore_n n) = true)) (h : j_stp call (.istore_n n) q pc L st σ K = some r0) (hK : ∀ pc' L' st' σ', K pc' L' st' σ' = some r0 → m_go p l e R s m args below meth c Q dC dI cA τ rn rx A nL nb lb ρ0 r0 (pc') (L') (st') (σ')) : m_go p l e R s m args below meth c Q dC dI cA τ rn rx A nL nb lb ρ0 r0 (pc) (L) (st) (σ) := by
    have hd1 : decode cc pc = .ok ((.istore_n n), j_il (.istore_n n)) := by obtain ⟨ln, h1, h2 | h2⟩ := hd0 <;> first | (rw [h1, h2]) | cases h2
    unfold j_stp at h
    unfold j_okE at hE
    dsimp only at h hE
    split at h
    · split at h
      next hk =>
        obtain ⟨a1, a2, a3⟩ := hK _ _ _ _ h
        exact ⟨m_istore_n hS hk hd1 a1, a2, a3⟩
      next => cases h
    · cases h
set_option maxHeartbeats 4000000 in
theorem m_s_lstore_n (hS : m_St p R s m args c dC dI cA τ rn rx A nL own cc) (hnm : (mN k).name = "<init>" → meth.name = "<init>") (hbn : s_n r0.2 ≤ j_b) (hRc : s_n r0.2 ≤ R.cells + nb) (hRs : s_l r0.2 ≤ R.slots + lb) (hfr : d + 1 ≤ R.frames) (hlo : 40 * d + 40 ≤ R.locals) (hcall : ∀ k' as σ v σ', k' < 137 → call k' as σ = some (v, σ') → m_Ct l d k' as σ v σ') (hend : ∀ pc L st, m_end k r0.1 cc pc st → m_at p l e R s m args below meth c Q dC dI cA τ rn rx A nL nb lb ρ0 (pc) (L) (st) (r0.2)) (n : Fin 4) {q : List Nat} {K : Nat → j_L → List Value → Sto → Option Rr} (hE : j_okE k own pc (.lstore_n n) q = true) (hd0 : ∃ ln, decode cc pc = .ok ((.lstore_n n), ln) ∧ (ln = j_il (.lstore_n n) ∨ j_isw (.lstore_n n) = true)) (h : j_stp call (.lstore_n n) q pc L st σ K = some r0) (hK : ∀ pc' L' st' σ', K pc' L' st' σ' = some r0 → m_go p l e R s m args below meth c Q dC dI cA τ rn rx A nL nb lb ρ0 r0 (pc') (L') (st') (σ')) : m_go p l e R s m args below meth c Q dC dI cA τ rn rx A nL nb lb ρ0 r0 (pc) (L) (st) (σ) := by
    have hd1 : decode cc pc = .ok ((.lstore_n n), j_il (.lstore_n n)) := by obtain ⟨ln, h1, h2 | h2⟩ := hd0 <;> first | (rw [h1, h2]) | cases h2
    unfold j_stp at h
    unfold j_okE at hE
    dsimp only at h hE
    split at h
    · split at h
      next hk =>
        obtain ⟨a1, a2, a3⟩ := hK _ _ _ _ h
        exact ⟨m_lstore_n hS hk hd1 a1, a2, a3⟩
      next => cases h
    · cases h
set_option maxHeartbeats 4000000 in
theorem m_s_astore_n (hS : m_St p R s m args c dC dI cA τ rn rx A nL own cc) (hnm : (mN k).name = "<init>" → meth.name = "<init>") (hbn : s_n r0.2 ≤ j_b) (hRc : s_n r0.2 ≤ R.cells + nb) (hRs : s_l r0.2 ≤ R.slots + lb) (hfr : d + 1 ≤ R.frames) (hlo : 40 * d + 40 ≤ R.locals) (hcall : ∀ k' as σ v σ', k' < 137 → call k' as σ = some (v, σ') → m_Ct l d k' as σ v σ') (hend : ∀ pc L st, m_end k r0.1 cc pc st → m_at p l e R s m args below meth c Q dC dI cA τ rn rx A nL nb lb ρ0 (pc) (L) (st) (r0.2)) (n : Fin 4) {q : List Nat} {K : Nat → j_L → List Value → Sto → Option Rr} (hE : j_okE k own pc (.astore_n n) q = true) (hd0 : ∃ ln, decode cc pc = .ok ((.astore_n n), ln) ∧ (ln = j_il (.astore_n n) ∨ j_isw (.astore_n n) = true)) (h : j_stp call (.astore_n n) q pc L st σ K = some r0) (hK : ∀ pc' L' st' σ', K pc' L' st' σ' = some r0 → m_go p l e R s m args below meth c Q dC dI cA τ rn rx A nL nb lb ρ0 r0 (pc') (L') (st') (σ')) : m_go p l e R s m args below meth c Q dC dI cA τ rn rx A nL nb lb ρ0 r0 (pc) (L) (st) (σ) := by
    have hd1 : decode cc pc = .ok ((.astore_n n), j_il (.astore_n n)) := by obtain ⟨ln, h1, h2 | h2⟩ := hd0 <;> first | (rw [h1, h2]) | cases h2
    unfold j_stp at h
    unfold j_okE at hE
    dsimp only at h hE
    split at h
    · split at h
      next hk =>
        obtain ⟨a1, a2, a3⟩ := hK _ _ _ _ h
        exact ⟨m_astore_n hS hk hd1 a1, a2, a3⟩
      next => cases h
    · cases h
set_option maxHeartbeats 4000000 in
theorem m_s_iinc (hS : m_St p R s m args c dC dI cA τ rn rx A nL own cc) (hnm : (mN k).name = "<init>" → meth.name = "<init>") (hbn : s_n r0.2 ≤ j_b) (hRc : s_n r0.2 ≤ R.cells + nb) (hRs : s_l r0.2 ≤ R.slots + lb) (hfr : d + 1 ≤ R.frames) (hlo : 40 * d + 40 ≤ R.locals) (hcall : ∀ k' as σ v σ', k' < 137 → call k' as σ = some (v, σ') → m_Ct l d k' as σ v σ') (hend : ∀ pc L st, m_end k r0.1 cc pc st → m_at p l e R s m args below meth c Q dC dI cA τ rn rx A nL nb lb ρ0 (pc) (L) (st) (r0.2)) (n : Nat) (z : Int) {q : List Nat} {K : Nat → j_L → List Value → Sto → Option Rr} (hE : j_okE k own pc (.iinc n z) q = true) (hd0 : ∃ ln, decode cc pc = .ok ((.iinc n z), ln) ∧ (ln = j_il (.iinc n z) ∨ j_isw (.iinc n z) = true)) (h : j_stp call (.iinc n z) q pc L st σ K = some r0) (hK : ∀ pc' L' st' σ', K pc' L' st' σ' = some r0 → m_go p l e R s m args below meth c Q dC dI cA τ rn rx A nL nb lb ρ0 r0 (pc') (L') (st') (σ')) : m_go p l e R s m args below meth c Q dC dI cA τ rn rx A nL nb lb ρ0 r0 (pc) (L) (st) (σ) := by
    have hd1 : decode cc pc = .ok ((.iinc n z), j_il (.iinc n z)) := by obtain ⟨ln, h1, h2 | h2⟩ := hd0 <;> first | (rw [h1, h2]) | cases h2
    unfold j_stp at h
    unfold j_okE at hE
    dsimp only at h hE
    unfold j_ldI at h
    split at h
    · rename_i x hx
      obtain ⟨a1, a2, a3⟩ := hK _ _ _ _ h
      exact ⟨m_iinc hS hx hd1 a1, a2, a3⟩
    · cases h
set_option maxHeartbeats 4000000 in
theorem m_s_iadd (hS : m_St p R s m args c dC dI cA τ rn rx A nL own cc) (hnm : (mN k).name = "<init>" → meth.name = "<init>") (hbn : s_n r0.2 ≤ j_b) (hRc : s_n r0.2 ≤ R.cells + nb) (hRs : s_l r0.2 ≤ R.slots + lb) (hfr : d + 1 ≤ R.frames) (hlo : 40 * d + 40 ≤ R.locals) (hcall : ∀ k' as σ v σ', k' < 137 → call k' as σ = some (v, σ') → m_Ct l d k' as σ v σ') (hend : ∀ pc L st, m_end k r0.1 cc pc st → m_at p l e R s m args below meth c Q dC dI cA τ rn rx A nL nb lb ρ0 (pc) (L) (st) (r0.2))  {q : List Nat} {K : Nat → j_L → List Value → Sto → Option Rr} (hE : j_okE k own pc (.iadd) q = true) (hd0 : ∃ ln, decode cc pc = .ok ((.iadd), ln) ∧ (ln = j_il (.iadd) ∨ j_isw (.iadd) = true)) (h : j_stp call (.iadd) q pc L st σ K = some r0) (hK : ∀ pc' L' st' σ', K pc' L' st' σ' = some r0 → m_go p l e R s m args below meth c Q dC dI cA τ rn rx A nL nb lb ρ0 r0 (pc') (L') (st') (σ')) : m_go p l e R s m args below meth c Q dC dI cA τ rn rx A nL nb lb ρ0 r0 (pc) (L) (st) (σ) := by
    have hd1 : decode cc pc = .ok ((.iadd), j_il (.iadd)) := by obtain ⟨ln, h1, h2 | h2⟩ := hd0 <;> first | (rw [h1, h2]) | cases h2
    unfold j_stp at h
    unfold j_okE at hE
    dsimp only at h hE
    split at h
    · obtain ⟨a1, a2, a3⟩ := hK _ _ _ _ h
      exact ⟨m_iadd hS hd1 a1, a2, a3⟩
    · cases h
set_option maxHeartbeats 4000000 in
theorem m_s_isub (hS : m_St p R s m args c dC dI cA τ rn rx A nL own cc) (hnm : (mN k).name = "<init>" → meth.name = "<init>") (hbn : s_n r0.2 ≤ j_b) (hRc : s_n r0.2 ≤ R.cells + nb) (hRs : s_l r0.2 ≤ R.slots + lb) (hfr : d + 1 ≤ R.frames) (hlo : 40 * d + 40 ≤ R.locals) (hcall : ∀ k' as σ v σ', k' < 137 → call k' as σ = some (v, σ') → m_Ct l d k' as σ v σ') (hend : ∀ pc L st, m_end k r0.1 cc pc st → m_at p l e R s m args below meth c Q dC dI cA τ rn rx A nL nb lb ρ0 (pc) (L) (st) (r0.2))  {q : List Nat} {K : Nat → j_L → List Value → Sto → Option Rr} (hE : j_okE k own pc (.isub) q = true) (hd0 : ∃ ln, decode cc pc = .ok ((.isub), ln) ∧ (ln = j_il (.isub) ∨ j_isw (.isub) = true)) (h : j_stp call (.isub) q pc L st σ K = some r0) (hK : ∀ pc' L' st' σ', K pc' L' st' σ' = some r0 → m_go p l e R s m args below meth c Q dC dI cA τ rn rx A nL nb lb ρ0 r0 (pc') (L') (st') (σ')) : m_go p l e R s m args below meth c Q dC dI cA τ rn rx A nL nb lb ρ0 r0 (pc) (L) (st) (σ) := by
    have hd1 : decode cc pc = .ok ((.isub), j_il (.isub)) := by obtain ⟨ln, h1, h2 | h2⟩ := hd0 <;> first | (rw [h1, h2]) | cases h2
    unfold j_stp at h
    unfold j_okE at hE
    dsimp only at h hE
    split at h
    · obtain ⟨a1, a2, a3⟩ := hK _ _ _ _ h
      exact ⟨m_isub hS hd1 a1, a2, a3⟩
    · cases h
set_option maxHeartbeats 4000000 in
theorem m_s_imul (hS : m_St p R s m args c dC dI cA τ rn rx A nL own cc) (hnm : (mN k).name = "<init>" → meth.name = "<init>") (hbn : s_n r0.2 ≤ j_b) (hRc : s_n r0.2 ≤ R.cells + nb) (hRs : s_l r0.2 ≤ R.slots + lb) (hfr : d + 1 ≤ R.frames) (hlo : 40 * d + 40 ≤ R.locals) (hcall : ∀ k' as σ v σ', k' < 137 → call k' as σ = some (v, σ') → m_Ct l d k' as σ v σ') (hend : ∀ pc L st, m_end k r0.1 cc pc st → m_at p l e R s m args below meth c Q dC dI cA τ rn rx A nL nb lb ρ0 (pc) (L) (st) (r0.2))  {q : List Nat} {K : Nat → j_L → List Value → Sto → Option Rr} (hE : j_okE k own pc (.imul) q = true) (hd0 : ∃ ln, decode cc pc = .ok ((.imul), ln) ∧ (ln = j_il (.imul) ∨ j_isw (.imul) = true)) (h : j_stp call (.imul) q pc L st σ K = some r0) (hK : ∀ pc' L' st' σ', K pc' L' st' σ' = some r0 → m_go p l e R s m args below meth c Q dC dI cA τ rn rx A nL nb lb ρ0 r0 (pc') (L') (st') (σ')) : m_go p l e R s m args below meth c Q dC dI cA τ rn rx A nL nb lb ρ0 r0 (pc) (L) (st) (σ) := by
    have hd1 : decode cc pc = .ok ((.imul), j_il (.imul)) := by obtain ⟨ln, h1, h2 | h2⟩ := hd0 <;> first | (rw [h1, h2]) | cases h2
    unfold j_stp at h
    unfold j_okE at hE
    dsimp only at h hE
    split at h
    · obtain ⟨a1, a2, a3⟩ := hK _ _ _ _ h
      exact ⟨m_imul hS hd1 a1, a2, a3⟩
    · cases h
set_option maxHeartbeats 4000000 in
theorem m_s_iand (hS : m_St p R s m args c dC dI cA τ rn rx A nL own cc) (hnm : (mN k).name = "<init>" → meth.name = "<init>") (hbn : s_n r0.2 ≤ j_b) (hRc : s_n r0.2 ≤ R.cells + nb) (hRs : s_l r0.2 ≤ R.slots + lb) (hfr : d + 1 ≤ R.frames) (hlo : 40 * d + 40 ≤ R.locals) (hcall : ∀ k' as σ v σ', k' < 137 → call k' as σ = some (v, σ') → m_Ct l d k' as σ v σ') (hend : ∀ pc L st, m_end k r0.1 cc pc st → m_at p l e R s m args below meth c Q dC dI cA τ rn rx A nL nb lb ρ0 (pc) (L) (st) (r0.2))  {q : List Nat} {K : Nat → j_L → List Value → Sto → Option Rr} (hE : j_okE k own pc (.iand) q = true) (hd0 : ∃ ln, decode cc pc = .ok ((.iand), ln) ∧ (ln = j_il (.iand) ∨ j_isw (.iand) = true)) (h : j_stp call (.iand) q pc L st σ K = some r0) (hK : ∀ pc' L' st' σ', K pc' L' st' σ' = some r0 → m_go p l e R s m args below meth c Q dC dI cA τ rn rx A nL nb lb ρ0 r0 (pc') (L') (st') (σ')) : m_go p l e R s m args below meth c Q dC dI cA τ rn rx A nL nb lb ρ0 r0 (pc) (L) (st) (σ) := by
    have hd1 : decode cc pc = .ok ((.iand), j_il (.iand)) := by obtain ⟨ln, h1, h2 | h2⟩ := hd0 <;> first | (rw [h1, h2]) | cases h2
    unfold j_stp at h
    unfold j_okE at hE
    dsimp only at h hE
    split at h
    · obtain ⟨a1, a2, a3⟩ := hK _ _ _ _ h
      exact ⟨m_iand hS hd1 a1, a2, a3⟩
    · cases h
set_option maxHeartbeats 4000000 in
theorem m_s_ior (hS : m_St p R s m args c dC dI cA τ rn rx A nL own cc) (hnm : (mN k).name = "<init>" → meth.name = "<init>") (hbn : s_n r0.2 ≤ j_b) (hRc : s_n r0.2 ≤ R.cells + nb) (hRs : s_l r0.2 ≤ R.slots + lb) (hfr : d + 1 ≤ R.frames) (hlo : 40 * d + 40 ≤ R.locals) (hcall : ∀ k' as σ v σ', k' < 137 → call k' as σ = some (v, σ') → m_Ct l d k' as σ v σ') (hend : ∀ pc L st, m_end k r0.1 cc pc st → m_at p l e R s m args below meth c Q dC dI cA τ rn rx A nL nb lb ρ0 (pc) (L) (st) (r0.2))  {q : List Nat} {K : Nat → j_L → List Value → Sto → Option Rr} (hE : j_okE k own pc (.ior) q = true) (hd0 : ∃ ln, decode cc pc = .ok ((.ior), ln) ∧ (ln = j_il (.ior) ∨ j_isw (.ior) = true)) (h : j_stp call (.ior) q pc L st σ K = some r0) (hK : ∀ pc' L' st' σ', K pc' L' st' σ' = some r0 → m_go p l e R s m args below meth c Q dC dI cA τ rn rx A nL nb lb ρ0 r0 (pc') (L') (st') (σ')) : m_go p l e R s m args below meth c Q dC dI cA τ rn rx A nL nb lb ρ0 r0 (pc) (L) (st) (σ) := by
    have hd1 : decode cc pc = .ok ((.ior), j_il (.ior)) := by obtain ⟨ln, h1, h2 | h2⟩ := hd0 <;> first | (rw [h1, h2]) | cases h2
    unfold j_stp at h
    unfold j_okE at hE
    dsimp only at h hE
    split at h
    · obtain ⟨a1, a2, a3⟩ := hK _ _ _ _ h
      exact ⟨m_ior hS hd1 a1, a2, a3⟩
    · cases h
set_option maxHeartbeats 4000000 in
theorem m_s_ixor (hS : m_St p R s m args c dC dI cA τ rn rx A nL own cc) (hnm : (mN k).name = "<init>" → meth.name = "<init>") (hbn : s_n r0.2 ≤ j_b) (hRc : s_n r0.2 ≤ R.cells + nb) (hRs : s_l r0.2 ≤ R.slots + lb) (hfr : d + 1 ≤ R.frames) (hlo : 40 * d + 40 ≤ R.locals) (hcall : ∀ k' as σ v σ', k' < 137 → call k' as σ = some (v, σ') → m_Ct l d k' as σ v σ') (hend : ∀ pc L st, m_end k r0.1 cc pc st → m_at p l e R s m args below meth c Q dC dI cA τ rn rx A nL nb lb ρ0 (pc) (L) (st) (r0.2))  {q : List Nat} {K : Nat → j_L → List Value → Sto → Option Rr} (hE : j_okE k own pc (.ixor) q = true) (hd0 : ∃ ln, decode cc pc = .ok ((.ixor), ln) ∧ (ln = j_il (.ixor) ∨ j_isw (.ixor) = true)) (h : j_stp call (.ixor) q pc L st σ K = some r0) (hK : ∀ pc' L' st' σ', K pc' L' st' σ' = some r0 → m_go p l e R s m args below meth c Q dC dI cA τ rn rx A nL nb lb ρ0 r0 (pc') (L') (st') (σ')) : m_go p l e R s m args below meth c Q dC dI cA τ rn rx A nL nb lb ρ0 r0 (pc) (L) (st) (σ) := by
    have hd1 : decode cc pc = .ok ((.ixor), j_il (.ixor)) := by obtain ⟨ln, h1, h2 | h2⟩ := hd0 <;> first | (rw [h1, h2]) | cases h2
    unfold j_stp at h
    unfold j_okE at hE
    dsimp only at h hE
    split at h
    · obtain ⟨a1, a2, a3⟩ := hK _ _ _ _ h
      exact ⟨m_ixor hS hd1 a1, a2, a3⟩
    · cases h
set_option maxHeartbeats 4000000 in
theorem m_s_ishl (hS : m_St p R s m args c dC dI cA τ rn rx A nL own cc) (hnm : (mN k).name = "<init>" → meth.name = "<init>") (hbn : s_n r0.2 ≤ j_b) (hRc : s_n r0.2 ≤ R.cells + nb) (hRs : s_l r0.2 ≤ R.slots + lb) (hfr : d + 1 ≤ R.frames) (hlo : 40 * d + 40 ≤ R.locals) (hcall : ∀ k' as σ v σ', k' < 137 → call k' as σ = some (v, σ') → m_Ct l d k' as σ v σ') (hend : ∀ pc L st, m_end k r0.1 cc pc st → m_at p l e R s m args below meth c Q dC dI cA τ rn rx A nL nb lb ρ0 (pc) (L) (st) (r0.2))  {q : List Nat} {K : Nat → j_L → List Value → Sto → Option Rr} (hE : j_okE k own pc (.ishl) q = true) (hd0 : ∃ ln, decode cc pc = .ok ((.ishl), ln) ∧ (ln = j_il (.ishl) ∨ j_isw (.ishl) = true)) (h : j_stp call (.ishl) q pc L st σ K = some r0) (hK : ∀ pc' L' st' σ', K pc' L' st' σ' = some r0 → m_go p l e R s m args below meth c Q dC dI cA τ rn rx A nL nb lb ρ0 r0 (pc') (L') (st') (σ')) : m_go p l e R s m args below meth c Q dC dI cA τ rn rx A nL nb lb ρ0 r0 (pc) (L) (st) (σ) := by
    have hd1 : decode cc pc = .ok ((.ishl), j_il (.ishl)) := by obtain ⟨ln, h1, h2 | h2⟩ := hd0 <;> first | (rw [h1, h2]) | cases h2
    unfold j_stp at h
    unfold j_okE at hE
    dsimp only at h hE
    split at h
    · obtain ⟨a1, a2, a3⟩ := hK _ _ _ _ h
      exact ⟨m_ishl hS hd1 a1, a2, a3⟩
    · cases h
set_option maxHeartbeats 4000000 in
theorem m_s_ishr (hS : m_St p R s m args c dC dI cA τ rn rx A nL own cc) (hnm : (mN k).name = "<init>" → meth.name = "<init>") (hbn : s_n r0.2 ≤ j_b) (hRc : s_n r0.2 ≤ R.cells + nb) (hRs : s_l r0.2 ≤ R.slots + lb) (hfr : d + 1 ≤ R.frames) (hlo : 40 * d + 40 ≤ R.locals) (hcall : ∀ k' as σ v σ', k' < 137 → call k' as σ = some (v, σ') → m_Ct l d k' as σ v σ') (hend : ∀ pc L st, m_end k r0.1 cc pc st → m_at p l e R s m args below meth c Q dC dI cA τ rn rx A nL nb lb ρ0 (pc) (L) (st) (r0.2))  {q : List Nat} {K : Nat → j_L → List Value → Sto → Option Rr} (hE : j_okE k own pc (.ishr) q = true) (hd0 : ∃ ln, decode cc pc = .ok ((.ishr), ln) ∧ (ln = j_il (.ishr) ∨ j_isw (.ishr) = true)) (h : j_stp call (.ishr) q pc L st σ K = some r0) (hK : ∀ pc' L' st' σ', K pc' L' st' σ' = some r0 → m_go p l e R s m args below meth c Q dC dI cA τ rn rx A nL nb lb ρ0 r0 (pc') (L') (st') (σ')) : m_go p l e R s m args below meth c Q dC dI cA τ rn rx A nL nb lb ρ0 r0 (pc) (L) (st) (σ) := by
    have hd1 : decode cc pc = .ok ((.ishr), j_il (.ishr)) := by obtain ⟨ln, h1, h2 | h2⟩ := hd0 <;> first | (rw [h1, h2]) | cases h2
    unfold j_stp at h
    unfold j_okE at hE
    dsimp only at h hE
    split at h
    · obtain ⟨a1, a2, a3⟩ := hK _ _ _ _ h
      exact ⟨m_ishr hS hd1 a1, a2, a3⟩
    · cases h
set_option maxHeartbeats 4000000 in
theorem m_s_iushr (hS : m_St p R s m args c dC dI cA τ rn rx A nL own cc) (hnm : (mN k).name = "<init>" → meth.name = "<init>") (hbn : s_n r0.2 ≤ j_b) (hRc : s_n r0.2 ≤ R.cells + nb) (hRs : s_l r0.2 ≤ R.slots + lb) (hfr : d + 1 ≤ R.frames) (hlo : 40 * d + 40 ≤ R.locals) (hcall : ∀ k' as σ v σ', k' < 137 → call k' as σ = some (v, σ') → m_Ct l d k' as σ v σ') (hend : ∀ pc L st, m_end k r0.1 cc pc st → m_at p l e R s m args below meth c Q dC dI cA τ rn rx A nL nb lb ρ0 (pc) (L) (st) (r0.2))  {q : List Nat} {K : Nat → j_L → List Value → Sto → Option Rr} (hE : j_okE k own pc (.iushr) q = true) (hd0 : ∃ ln, decode cc pc = .ok ((.iushr), ln) ∧ (ln = j_il (.iushr) ∨ j_isw (.iushr) = true)) (h : j_stp call (.iushr) q pc L st σ K = some r0) (hK : ∀ pc' L' st' σ', K pc' L' st' σ' = some r0 → m_go p l e R s m args below meth c Q dC dI cA τ rn rx A nL nb lb ρ0 r0 (pc') (L') (st') (σ')) : m_go p l e R s m args below meth c Q dC dI cA τ rn rx A nL nb lb ρ0 r0 (pc) (L) (st) (σ) := by
    have hd1 : decode cc pc = .ok ((.iushr), j_il (.iushr)) := by obtain ⟨ln, h1, h2 | h2⟩ := hd0 <;> first | (rw [h1, h2]) | cases h2
    unfold j_stp at h
    unfold j_okE at hE
    dsimp only at h hE
    split at h
    · obtain ⟨a1, a2, a3⟩ := hK _ _ _ _ h
      exact ⟨m_iushr hS hd1 a1, a2, a3⟩
    · cases h
set_option maxHeartbeats 4000000 in
theorem m_s_ineg (hS : m_St p R s m args c dC dI cA τ rn rx A nL own cc) (hnm : (mN k).name = "<init>" → meth.name = "<init>") (hbn : s_n r0.2 ≤ j_b) (hRc : s_n r0.2 ≤ R.cells + nb) (hRs : s_l r0.2 ≤ R.slots + lb) (hfr : d + 1 ≤ R.frames) (hlo : 40 * d + 40 ≤ R.locals) (hcall : ∀ k' as σ v σ', k' < 137 → call k' as σ = some (v, σ') → m_Ct l d k' as σ v σ') (hend : ∀ pc L st, m_end k r0.1 cc pc st → m_at p l e R s m args below meth c Q dC dI cA τ rn rx A nL nb lb ρ0 (pc) (L) (st) (r0.2))  {q : List Nat} {K : Nat → j_L → List Value → Sto → Option Rr} (hE : j_okE k own pc (.ineg) q = true) (hd0 : ∃ ln, decode cc pc = .ok ((.ineg), ln) ∧ (ln = j_il (.ineg) ∨ j_isw (.ineg) = true)) (h : j_stp call (.ineg) q pc L st σ K = some r0) (hK : ∀ pc' L' st' σ', K pc' L' st' σ' = some r0 → m_go p l e R s m args below meth c Q dC dI cA τ rn rx A nL nb lb ρ0 r0 (pc') (L') (st') (σ')) : m_go p l e R s m args below meth c Q dC dI cA τ rn rx A nL nb lb ρ0 r0 (pc) (L) (st) (σ) := by
    have hd1 : decode cc pc = .ok ((.ineg), j_il (.ineg)) := by obtain ⟨ln, h1, h2 | h2⟩ := hd0 <;> first | (rw [h1, h2]) | cases h2
    unfold j_stp at h
    unfold j_okE at hE
    dsimp only at h hE
    split at h
    · obtain ⟨a1, a2, a3⟩ := hK _ _ _ _ h
      exact ⟨m_ineg hS hd1 a1, a2, a3⟩
    · cases h
set_option maxHeartbeats 4000000 in
theorem m_s_ladd (hS : m_St p R s m args c dC dI cA τ rn rx A nL own cc) (hnm : (mN k).name = "<init>" → meth.name = "<init>") (hbn : s_n r0.2 ≤ j_b) (hRc : s_n r0.2 ≤ R.cells + nb) (hRs : s_l r0.2 ≤ R.slots + lb) (hfr : d + 1 ≤ R.frames) (hlo : 40 * d + 40 ≤ R.locals) (hcall : ∀ k' as σ v σ', k' < 137 → call k' as σ = some (v, σ') → m_Ct l d k' as σ v σ') (hend : ∀ pc L st, m_end k r0.1 cc pc st → m_at p l e R s m args below meth c Q dC dI cA τ rn rx A nL nb lb ρ0 (pc) (L) (st) (r0.2))  {q : List Nat} {K : Nat → j_L → List Value → Sto → Option Rr} (hE : j_okE k own pc (.ladd) q = true) (hd0 : ∃ ln, decode cc pc = .ok ((.ladd), ln) ∧ (ln = j_il (.ladd) ∨ j_isw (.ladd) = true)) (h : j_stp call (.ladd) q pc L st σ K = some r0) (hK : ∀ pc' L' st' σ', K pc' L' st' σ' = some r0 → m_go p l e R s m args below meth c Q dC dI cA τ rn rx A nL nb lb ρ0 r0 (pc') (L') (st') (σ')) : m_go p l e R s m args below meth c Q dC dI cA τ rn rx A nL nb lb ρ0 r0 (pc) (L) (st) (σ) := by
    have hd1 : decode cc pc = .ok ((.ladd), j_il (.ladd)) := by obtain ⟨ln, h1, h2 | h2⟩ := hd0 <;> first | (rw [h1, h2]) | cases h2
    unfold j_stp at h
    unfold j_okE at hE
    dsimp only at h hE
    split at h
    · obtain ⟨a1, a2, a3⟩ := hK _ _ _ _ h
      exact ⟨m_ladd hS hd1 a1, a2, a3⟩
    · cases h
set_option maxHeartbeats 4000000 in
theorem m_s_lmul (hS : m_St p R s m args c dC dI cA τ rn rx A nL own cc) (hnm : (mN k).name = "<init>" → meth.name = "<init>") (hbn : s_n r0.2 ≤ j_b) (hRc : s_n r0.2 ≤ R.cells + nb) (hRs : s_l r0.2 ≤ R.slots + lb) (hfr : d + 1 ≤ R.frames) (hlo : 40 * d + 40 ≤ R.locals) (hcall : ∀ k' as σ v σ', k' < 137 → call k' as σ = some (v, σ') → m_Ct l d k' as σ v σ') (hend : ∀ pc L st, m_end k r0.1 cc pc st → m_at p l e R s m args below meth c Q dC dI cA τ rn rx A nL nb lb ρ0 (pc) (L) (st) (r0.2))  {q : List Nat} {K : Nat → j_L → List Value → Sto → Option Rr} (hE : j_okE k own pc (.lmul) q = true) (hd0 : ∃ ln, decode cc pc = .ok ((.lmul), ln) ∧ (ln = j_il (.lmul) ∨ j_isw (.lmul) = true)) (h : j_stp call (.lmul) q pc L st σ K = some r0) (hK : ∀ pc' L' st' σ', K pc' L' st' σ' = some r0 → m_go p l e R s m args below meth c Q dC dI cA τ rn rx A nL nb lb ρ0 r0 (pc') (L') (st') (σ')) : m_go p l e R s m args below meth c Q dC dI cA τ rn rx A nL nb lb ρ0 r0 (pc) (L) (st) (σ) := by
    have hd1 : decode cc pc = .ok ((.lmul), j_il (.lmul)) := by obtain ⟨ln, h1, h2 | h2⟩ := hd0 <;> first | (rw [h1, h2]) | cases h2
    unfold j_stp at h
    unfold j_okE at hE
    dsimp only at h hE
    split at h
    · obtain ⟨a1, a2, a3⟩ := hK _ _ _ _ h
      exact ⟨m_lmul hS hd1 a1, a2, a3⟩
    · cases h
set_option maxHeartbeats 4000000 in
theorem m_s_lcmp (hS : m_St p R s m args c dC dI cA τ rn rx A nL own cc) (hnm : (mN k).name = "<init>" → meth.name = "<init>") (hbn : s_n r0.2 ≤ j_b) (hRc : s_n r0.2 ≤ R.cells + nb) (hRs : s_l r0.2 ≤ R.slots + lb) (hfr : d + 1 ≤ R.frames) (hlo : 40 * d + 40 ≤ R.locals) (hcall : ∀ k' as σ v σ', k' < 137 → call k' as σ = some (v, σ') → m_Ct l d k' as σ v σ') (hend : ∀ pc L st, m_end k r0.1 cc pc st → m_at p l e R s m args below meth c Q dC dI cA τ rn rx A nL nb lb ρ0 (pc) (L) (st) (r0.2))  {q : List Nat} {K : Nat → j_L → List Value → Sto → Option Rr} (hE : j_okE k own pc (.lcmp) q = true) (hd0 : ∃ ln, decode cc pc = .ok ((.lcmp), ln) ∧ (ln = j_il (.lcmp) ∨ j_isw (.lcmp) = true)) (h : j_stp call (.lcmp) q pc L st σ K = some r0) (hK : ∀ pc' L' st' σ', K pc' L' st' σ' = some r0 → m_go p l e R s m args below meth c Q dC dI cA τ rn rx A nL nb lb ρ0 r0 (pc') (L') (st') (σ')) : m_go p l e R s m args below meth c Q dC dI cA τ rn rx A nL nb lb ρ0 r0 (pc) (L) (st) (σ) := by
    have hd1 : decode cc pc = .ok ((.lcmp), j_il (.lcmp)) := by obtain ⟨ln, h1, h2 | h2⟩ := hd0 <;> first | (rw [h1, h2]) | cases h2
    unfold j_stp at h
    unfold j_okE at hE
    dsimp only at h hE
    split at h
    · obtain ⟨a1, a2, a3⟩ := hK _ _ _ _ h
      exact ⟨m_lcmp hS hd1 a1, a2, a3⟩
    · cases h
set_option maxHeartbeats 4000000 in
theorem m_s_i2l (hS : m_St p R s m args c dC dI cA τ rn rx A nL own cc) (hnm : (mN k).name = "<init>" → meth.name = "<init>") (hbn : s_n r0.2 ≤ j_b) (hRc : s_n r0.2 ≤ R.cells + nb) (hRs : s_l r0.2 ≤ R.slots + lb) (hfr : d + 1 ≤ R.frames) (hlo : 40 * d + 40 ≤ R.locals) (hcall : ∀ k' as σ v σ', k' < 137 → call k' as σ = some (v, σ') → m_Ct l d k' as σ v σ') (hend : ∀ pc L st, m_end k r0.1 cc pc st → m_at p l e R s m args below meth c Q dC dI cA τ rn rx A nL nb lb ρ0 (pc) (L) (st) (r0.2))  {q : List Nat} {K : Nat → j_L → List Value → Sto → Option Rr} (hE : j_okE k own pc (.i2l) q = true) (hd0 : ∃ ln, decode cc pc = .ok ((.i2l), ln) ∧ (ln = j_il (.i2l) ∨ j_isw (.i2l) = true)) (h : j_stp call (.i2l) q pc L st σ K = some r0) (hK : ∀ pc' L' st' σ', K pc' L' st' σ' = some r0 → m_go p l e R s m args below meth c Q dC dI cA τ rn rx A nL nb lb ρ0 r0 (pc') (L') (st') (σ')) : m_go p l e R s m args below meth c Q dC dI cA τ rn rx A nL nb lb ρ0 r0 (pc) (L) (st) (σ) := by
    have hd1 : decode cc pc = .ok ((.i2l), j_il (.i2l)) := by obtain ⟨ln, h1, h2 | h2⟩ := hd0 <;> first | (rw [h1, h2]) | cases h2
    unfold j_stp at h
    unfold j_okE at hE
    dsimp only at h hE
    split at h
    · obtain ⟨a1, a2, a3⟩ := hK _ _ _ _ h
      exact ⟨m_i2l hS hd1 a1, a2, a3⟩
    · cases h
set_option maxHeartbeats 4000000 in
theorem m_s_l2i (hS : m_St p R s m args c dC dI cA τ rn rx A nL own cc) (hnm : (mN k).name = "<init>" → meth.name = "<init>") (hbn : s_n r0.2 ≤ j_b) (hRc : s_n r0.2 ≤ R.cells + nb) (hRs : s_l r0.2 ≤ R.slots + lb) (hfr : d + 1 ≤ R.frames) (hlo : 40 * d + 40 ≤ R.locals) (hcall : ∀ k' as σ v σ', k' < 137 → call k' as σ = some (v, σ') → m_Ct l d k' as σ v σ') (hend : ∀ pc L st, m_end k r0.1 cc pc st → m_at p l e R s m args below meth c Q dC dI cA τ rn rx A nL nb lb ρ0 (pc) (L) (st) (r0.2))  {q : List Nat} {K : Nat → j_L → List Value → Sto → Option Rr} (hE : j_okE k own pc (.l2i) q = true) (hd0 : ∃ ln, decode cc pc = .ok ((.l2i), ln) ∧ (ln = j_il (.l2i) ∨ j_isw (.l2i) = true)) (h : j_stp call (.l2i) q pc L st σ K = some r0) (hK : ∀ pc' L' st' σ', K pc' L' st' σ' = some r0 → m_go p l e R s m args below meth c Q dC dI cA τ rn rx A nL nb lb ρ0 r0 (pc') (L') (st') (σ')) : m_go p l e R s m args below meth c Q dC dI cA τ rn rx A nL nb lb ρ0 r0 (pc) (L) (st) (σ) := by
    have hd1 : decode cc pc = .ok ((.l2i), j_il (.l2i)) := by obtain ⟨ln, h1, h2 | h2⟩ := hd0 <;> first | (rw [h1, h2]) | cases h2
    unfold j_stp at h
    unfold j_okE at hE
    dsimp only at h hE
    split at h
    · obtain ⟨a1, a2, a3⟩ := hK _ _ _ _ h
      exact ⟨m_l2i hS hd1 a1, a2, a3⟩
    · cases h
set_option maxHeartbeats 4000000 in
theorem m_s_i2b (hS : m_St p R s m args c dC dI cA τ rn rx A nL own cc) (hnm : (mN k).name = "<init>" → meth.name = "<init>") (hbn : s_n r0.2 ≤ j_b) (hRc : s_n r0.2 ≤ R.cells + nb) (hRs : s_l r0.2 ≤ R.slots + lb) (hfr : d + 1 ≤ R.frames) (hlo : 40 * d + 40 ≤ R.locals) (hcall : ∀ k' as σ v σ', k' < 137 → call k' as σ = some (v, σ') → m_Ct l d k' as σ v σ') (hend : ∀ pc L st, m_end k r0.1 cc pc st → m_at p l e R s m args below meth c Q dC dI cA τ rn rx A nL nb lb ρ0 (pc) (L) (st) (r0.2))  {q : List Nat} {K : Nat → j_L → List Value → Sto → Option Rr} (hE : j_okE k own pc (.i2b) q = true) (hd0 : ∃ ln, decode cc pc = .ok ((.i2b), ln) ∧ (ln = j_il (.i2b) ∨ j_isw (.i2b) = true)) (h : j_stp call (.i2b) q pc L st σ K = some r0) (hK : ∀ pc' L' st' σ', K pc' L' st' σ' = some r0 → m_go p l e R s m args below meth c Q dC dI cA τ rn rx A nL nb lb ρ0 r0 (pc') (L') (st') (σ')) : m_go p l e R s m args below meth c Q dC dI cA τ rn rx A nL nb lb ρ0 r0 (pc) (L) (st) (σ) := by
    have hd1 : decode cc pc = .ok ((.i2b), j_il (.i2b)) := by obtain ⟨ln, h1, h2 | h2⟩ := hd0 <;> first | (rw [h1, h2]) | cases h2
    unfold j_stp at h
    unfold j_okE at hE
    dsimp only at h hE
    split at h
    · obtain ⟨a1, a2, a3⟩ := hK _ _ _ _ h
      exact ⟨m_i2b hS hd1 a1, a2, a3⟩
    · cases h
set_option maxHeartbeats 4000000 in
theorem m_s_dup2 (hS : m_St p R s m args c dC dI cA τ rn rx A nL own cc) (hnm : (mN k).name = "<init>" → meth.name = "<init>") (hbn : s_n r0.2 ≤ j_b) (hRc : s_n r0.2 ≤ R.cells + nb) (hRs : s_l r0.2 ≤ R.slots + lb) (hfr : d + 1 ≤ R.frames) (hlo : 40 * d + 40 ≤ R.locals) (hcall : ∀ k' as σ v σ', k' < 137 → call k' as σ = some (v, σ') → m_Ct l d k' as σ v σ') (hend : ∀ pc L st, m_end k r0.1 cc pc st → m_at p l e R s m args below meth c Q dC dI cA τ rn rx A nL nb lb ρ0 (pc) (L) (st) (r0.2))  {q : List Nat} {K : Nat → j_L → List Value → Sto → Option Rr} (hE : j_okE k own pc (.dup2) q = true) (hd0 : ∃ ln, decode cc pc = .ok ((.dup2), ln) ∧ (ln = j_il (.dup2) ∨ j_isw (.dup2) = true)) (h : j_stp call (.dup2) q pc L st σ K = some r0) (hK : ∀ pc' L' st' σ', K pc' L' st' σ' = some r0 → m_go p l e R s m args below meth c Q dC dI cA τ rn rx A nL nb lb ρ0 r0 (pc') (L') (st') (σ')) : m_go p l e R s m args below meth c Q dC dI cA τ rn rx A nL nb lb ρ0 r0 (pc) (L) (st) (σ) := by
    have hd1 : decode cc pc = .ok ((.dup2), j_il (.dup2)) := by obtain ⟨ln, h1, h2 | h2⟩ := hd0 <;> first | (rw [h1, h2]) | cases h2
    unfold j_stp at h
    unfold j_okE at hE
    dsimp only at h hE
    split at h
    · obtain ⟨a1, a2, a3⟩ := hK _ _ _ _ h
      exact ⟨m_dup2 hS hd1 a1, a2, a3⟩
    · cases h
set_option maxHeartbeats 4000000 in
theorem m_s_pop (hS : m_St p R s m args c dC dI cA τ rn rx A nL own cc) (hnm : (mN k).name = "<init>" → meth.name = "<init>") (hbn : s_n r0.2 ≤ j_b) (hRc : s_n r0.2 ≤ R.cells + nb) (hRs : s_l r0.2 ≤ R.slots + lb) (hfr : d + 1 ≤ R.frames) (hlo : 40 * d + 40 ≤ R.locals) (hcall : ∀ k' as σ v σ', k' < 137 → call k' as σ = some (v, σ') → m_Ct l d k' as σ v σ') (hend : ∀ pc L st, m_end k r0.1 cc pc st → m_at p l e R s m args below meth c Q dC dI cA τ rn rx A nL nb lb ρ0 (pc) (L) (st) (r0.2))  {q : List Nat} {K : Nat → j_L → List Value → Sto → Option Rr} (hE : j_okE k own pc (.pop) q = true) (hd0 : ∃ ln, decode cc pc = .ok ((.pop), ln) ∧ (ln = j_il (.pop) ∨ j_isw (.pop) = true)) (h : j_stp call (.pop) q pc L st σ K = some r0) (hK : ∀ pc' L' st' σ', K pc' L' st' σ' = some r0 → m_go p l e R s m args below meth c Q dC dI cA τ rn rx A nL nb lb ρ0 r0 (pc') (L') (st') (σ')) : m_go p l e R s m args below meth c Q dC dI cA τ rn rx A nL nb lb ρ0 r0 (pc) (L) (st) (σ) := by
    have hd1 : decode cc pc = .ok ((.pop), j_il (.pop)) := by obtain ⟨ln, h1, h2 | h2⟩ := hd0 <;> first | (rw [h1, h2]) | cases h2
    unfold j_stp at h
    unfold j_okE at hE
    dsimp only at h hE
    split at h
    · obtain ⟨a1, a2, a3⟩ := hK _ _ _ _ h
      exact ⟨m_pop hS hd1 a1, a2, a3⟩
    · cases h
set_option maxHeartbeats 4000000 in
theorem m_s_idiv (hS : m_St p R s m args c dC dI cA τ rn rx A nL own cc) (hnm : (mN k).name = "<init>" → meth.name = "<init>") (hbn : s_n r0.2 ≤ j_b) (hRc : s_n r0.2 ≤ R.cells + nb) (hRs : s_l r0.2 ≤ R.slots + lb) (hfr : d + 1 ≤ R.frames) (hlo : 40 * d + 40 ≤ R.locals) (hcall : ∀ k' as σ v σ', k' < 137 → call k' as σ = some (v, σ') → m_Ct l d k' as σ v σ') (hend : ∀ pc L st, m_end k r0.1 cc pc st → m_at p l e R s m args below meth c Q dC dI cA τ rn rx A nL nb lb ρ0 (pc) (L) (st) (r0.2))  {q : List Nat} {K : Nat → j_L → List Value → Sto → Option Rr} (hE : j_okE k own pc (.idiv) q = true) (hd0 : ∃ ln, decode cc pc = .ok ((.idiv), ln) ∧ (ln = j_il (.idiv) ∨ j_isw (.idiv) = true)) (h : j_stp call (.idiv) q pc L st σ K = some r0) (hK : ∀ pc' L' st' σ', K pc' L' st' σ' = some r0 → m_go p l e R s m args below meth c Q dC dI cA τ rn rx A nL nb lb ρ0 r0 (pc') (L') (st') (σ')) : m_go p l e R s m args below meth c Q dC dI cA τ rn rx A nL nb lb ρ0 r0 (pc) (L) (st) (σ) := by
    have hd1 : decode cc pc = .ok ((.idiv), j_il (.idiv)) := by obtain ⟨ln, h1, h2 | h2⟩ := hd0 <;> first | (rw [h1, h2]) | cases h2
    unfold j_stp at h
    unfold j_okE at hE
    dsimp only at h hE
    split at h
    · split at h
      next => cases h
      next hy =>
        obtain ⟨a1, a2, a3⟩ := hK _ _ _ _ h
        exact ⟨m_idiv hS hy hd1 a1, a2, a3⟩
    · cases h
set_option maxHeartbeats 4000000 in
theorem m_s_irem (hS : m_St p R s m args c dC dI cA τ rn rx A nL own cc) (hnm : (mN k).name = "<init>" → meth.name = "<init>") (hbn : s_n r0.2 ≤ j_b) (hRc : s_n r0.2 ≤ R.cells + nb) (hRs : s_l r0.2 ≤ R.slots + lb) (hfr : d + 1 ≤ R.frames) (hlo : 40 * d + 40 ≤ R.locals) (hcall : ∀ k' as σ v σ', k' < 137 → call k' as σ = some (v, σ') → m_Ct l d k' as σ v σ') (hend : ∀ pc L st, m_end k r0.1 cc pc st → m_at p l e R s m args below meth c Q dC dI cA τ rn rx A nL nb lb ρ0 (pc) (L) (st) (r0.2))  {q : List Nat} {K : Nat → j_L → List Value → Sto → Option Rr} (hE : j_okE k own pc (.irem) q = true) (hd0 : ∃ ln, decode cc pc = .ok ((.irem), ln) ∧ (ln = j_il (.irem) ∨ j_isw (.irem) = true)) (h : j_stp call (.irem) q pc L st σ K = some r0) (hK : ∀ pc' L' st' σ', K pc' L' st' σ' = some r0 → m_go p l e R s m args below meth c Q dC dI cA τ rn rx A nL nb lb ρ0 r0 (pc') (L') (st') (σ')) : m_go p l e R s m args below meth c Q dC dI cA τ rn rx A nL nb lb ρ0 r0 (pc) (L) (st) (σ) := by
    have hd1 : decode cc pc = .ok ((.irem), j_il (.irem)) := by obtain ⟨ln, h1, h2 | h2⟩ := hd0 <;> first | (rw [h1, h2]) | cases h2
    unfold j_stp at h
    unfold j_okE at hE
    dsimp only at h hE
    split at h
    · split at h
      next => cases h
      next hy =>
        obtain ⟨a1, a2, a3⟩ := hK _ _ _ _ h
        exact ⟨m_irem hS hy hd1 a1, a2, a3⟩
    · cases h
set_option maxHeartbeats 4000000 in
theorem m_s_ldiv (hS : m_St p R s m args c dC dI cA τ rn rx A nL own cc) (hnm : (mN k).name = "<init>" → meth.name = "<init>") (hbn : s_n r0.2 ≤ j_b) (hRc : s_n r0.2 ≤ R.cells + nb) (hRs : s_l r0.2 ≤ R.slots + lb) (hfr : d + 1 ≤ R.frames) (hlo : 40 * d + 40 ≤ R.locals) (hcall : ∀ k' as σ v σ', k' < 137 → call k' as σ = some (v, σ') → m_Ct l d k' as σ v σ') (hend : ∀ pc L st, m_end k r0.1 cc pc st → m_at p l e R s m args below meth c Q dC dI cA τ rn rx A nL nb lb ρ0 (pc) (L) (st) (r0.2))  {q : List Nat} {K : Nat → j_L → List Value → Sto → Option Rr} (hE : j_okE k own pc (.ldiv) q = true) (hd0 : ∃ ln, decode cc pc = .ok ((.ldiv), ln) ∧ (ln = j_il (.ldiv) ∨ j_isw (.ldiv) = true)) (h : j_stp call (.ldiv) q pc L st σ K = some r0) (hK : ∀ pc' L' st' σ', K pc' L' st' σ' = some r0 → m_go p l e R s m args below meth c Q dC dI cA τ rn rx A nL nb lb ρ0 r0 (pc') (L') (st') (σ')) : m_go p l e R s m args below meth c Q dC dI cA τ rn rx A nL nb lb ρ0 r0 (pc) (L) (st) (σ) := by
    have hd1 : decode cc pc = .ok ((.ldiv), j_il (.ldiv)) := by obtain ⟨ln, h1, h2 | h2⟩ := hd0 <;> first | (rw [h1, h2]) | cases h2
    unfold j_stp at h
    unfold j_okE at hE
    dsimp only at h hE
    split at h
    · split at h
      next => cases h
      next hy =>
        obtain ⟨a1, a2, a3⟩ := hK _ _ _ _ h
        exact ⟨m_ldiv hS hy hd1 a1, a2, a3⟩
    · cases h
set_option maxHeartbeats 4000000 in
theorem m_s_lrem (hS : m_St p R s m args c dC dI cA τ rn rx A nL own cc) (hnm : (mN k).name = "<init>" → meth.name = "<init>") (hbn : s_n r0.2 ≤ j_b) (hRc : s_n r0.2 ≤ R.cells + nb) (hRs : s_l r0.2 ≤ R.slots + lb) (hfr : d + 1 ≤ R.frames) (hlo : 40 * d + 40 ≤ R.locals) (hcall : ∀ k' as σ v σ', k' < 137 → call k' as σ = some (v, σ') → m_Ct l d k' as σ v σ') (hend : ∀ pc L st, m_end k r0.1 cc pc st → m_at p l e R s m args below meth c Q dC dI cA τ rn rx A nL nb lb ρ0 (pc) (L) (st) (r0.2))  {q : List Nat} {K : Nat → j_L → List Value → Sto → Option Rr} (hE : j_okE k own pc (.lrem) q = true) (hd0 : ∃ ln, decode cc pc = .ok ((.lrem), ln) ∧ (ln = j_il (.lrem) ∨ j_isw (.lrem) = true)) (h : j_stp call (.lrem) q pc L st σ K = some r0) (hK : ∀ pc' L' st' σ', K pc' L' st' σ' = some r0 → m_go p l e R s m args below meth c Q dC dI cA τ rn rx A nL nb lb ρ0 r0 (pc') (L') (st') (σ')) : m_go p l e R s m args below meth c Q dC dI cA τ rn rx A nL nb lb ρ0 r0 (pc) (L) (st) (σ) := by
    have hd1 : decode cc pc = .ok ((.lrem), j_il (.lrem)) := by obtain ⟨ln, h1, h2 | h2⟩ := hd0 <;> first | (rw [h1, h2]) | cases h2
    unfold j_stp at h
    unfold j_okE at hE
    dsimp only at h hE
    split at h
    · split at h
      next => cases h
      next hy =>
        obtain ⟨a1, a2, a3⟩ := hK _ _ _ _ h
        exact ⟨m_lrem hS hy hd1 a1, a2, a3⟩
    · cases h
set_option maxHeartbeats 4000000 in
theorem m_s_dup (hS : m_St p R s m args c dC dI cA τ rn rx A nL own cc) (hnm : (mN k).name = "<init>" → meth.name = "<init>") (hbn : s_n r0.2 ≤ j_b) (hRc : s_n r0.2 ≤ R.cells + nb) (hRs : s_l r0.2 ≤ R.slots + lb) (hfr : d + 1 ≤ R.frames) (hlo : 40 * d + 40 ≤ R.locals) (hcall : ∀ k' as σ v σ', k' < 137 → call k' as σ = some (v, σ') → m_Ct l d k' as σ v σ') (hend : ∀ pc L st, m_end k r0.1 cc pc st → m_at p l e R s m args below meth c Q dC dI cA τ rn rx A nL nb lb ρ0 (pc) (L) (st) (r0.2))  {q : List Nat} {K : Nat → j_L → List Value → Sto → Option Rr} (hE : j_okE k own pc (.dup) q = true) (hd0 : ∃ ln, decode cc pc = .ok ((.dup), ln) ∧ (ln = j_il (.dup) ∨ j_isw (.dup) = true)) (h : j_stp call (.dup) q pc L st σ K = some r0) (hK : ∀ pc' L' st' σ', K pc' L' st' σ' = some r0 → m_go p l e R s m args below meth c Q dC dI cA τ rn rx A nL nb lb ρ0 r0 (pc') (L') (st') (σ')) : m_go p l e R s m args below meth c Q dC dI cA τ rn rx A nL nb lb ρ0 r0 (pc) (L) (st) (σ) := by
    have hd1 : decode cc pc = .ok ((.dup), j_il (.dup)) := by obtain ⟨ln, h1, h2 | h2⟩ := hd0 <;> first | (rw [h1, h2]) | cases h2
    unfold j_stp at h
    unfold j_okE at hE
    dsimp only at h hE
    split at h
    · obtain ⟨a1, a2, a3⟩ := hK _ _ _ _ h
      exact ⟨m_dupI hS hd1 a1, a2, a3⟩
    · obtain ⟨a1, a2, a3⟩ := hK _ _ _ _ h
      exact ⟨m_dupA hS hd1 a1, a2, a3⟩
    · cases h
set_option maxHeartbeats 4000000 in
theorem m_s_ifCond (hS : m_St p R s m args c dC dI cA τ rn rx A nL own cc) (hnm : (mN k).name = "<init>" → meth.name = "<init>") (hbn : s_n r0.2 ≤ j_b) (hRc : s_n r0.2 ≤ R.cells + nb) (hRs : s_l r0.2 ≤ R.slots + lb) (hfr : d + 1 ≤ R.frames) (hlo : 40 * d + 40 ≤ R.locals) (hcall : ∀ k' as σ v σ', k' < 137 → call k' as σ = some (v, σ') → m_Ct l d k' as σ v σ') (hend : ∀ pc L st, m_end k r0.1 cc pc st → m_at p l e R s m args below meth c Q dC dI cA τ rn rx A nL nb lb ρ0 (pc) (L) (st) (r0.2)) (cn : ClassFile.Cond) (off : Int) {q : List Nat} {K : Nat → j_L → List Value → Sto → Option Rr} (hE : j_okE k own pc (.ifCond cn off) q = true) (hd0 : ∃ ln, decode cc pc = .ok ((.ifCond cn off), ln) ∧ (ln = j_il (.ifCond cn off) ∨ j_isw (.ifCond cn off) = true)) (h : j_stp call (.ifCond cn off) q pc L st σ K = some r0) (hK : ∀ pc' L' st' σ', K pc' L' st' σ' = some r0 → m_go p l e R s m args below meth c Q dC dI cA τ rn rx A nL nb lb ρ0 r0 (pc') (L') (st') (σ')) : m_go p l e R s m args below meth c Q dC dI cA τ rn rx A nL nb lb ρ0 r0 (pc) (L) (st) (σ) := by
    have hd1 : decode cc pc = .ok ((.ifCond cn off), j_il (.ifCond cn off)) := by obtain ⟨ln, h1, h2 | h2⟩ := hd0 <;> first | (rw [h1, h2]) | cases h2
    unfold j_stp at h
    unfold j_okE at hE
    dsimp only at h hE
    split at h
    · have ht := of_decide_eq_true hE
      rcases m_tst h with ⟨hp, h⟩ | ⟨hp, h⟩
      · obtain ⟨a1, a2, a3⟩ := hK _ _ _ _ h
        exact ⟨m_ifc hS hd1 ht (fun _ => a1) (fun z => absurd hp z), a2, a3⟩
      · obtain ⟨a1, a2, a3⟩ := hK _ _ _ _ h
        exact ⟨m_ifc hS hd1 ht (fun z => absurd z hp) (fun _ => a1), a2, a3⟩
    · cases h
set_option maxHeartbeats 4000000 in
theorem m_s_if_icmp (hS : m_St p R s m args c dC dI cA τ rn rx A nL own cc) (hnm : (mN k).name = "<init>" → meth.name = "<init>") (hbn : s_n r0.2 ≤ j_b) (hRc : s_n r0.2 ≤ R.cells + nb) (hRs : s_l r0.2 ≤ R.slots + lb) (hfr : d + 1 ≤ R.frames) (hlo : 40 * d + 40 ≤ R.locals) (hcall : ∀ k' as σ v σ', k' < 137 → call k' as σ = some (v, σ') → m_Ct l d k' as σ v σ') (hend : ∀ pc L st, m_end k r0.1 cc pc st → m_at p l e R s m args below meth c Q dC dI cA τ rn rx A nL nb lb ρ0 (pc) (L) (st) (r0.2)) (cn : ClassFile.Cond) (off : Int) {q : List Nat} {K : Nat → j_L → List Value → Sto → Option Rr} (hE : j_okE k own pc (.if_icmp cn off) q = true) (hd0 : ∃ ln, decode cc pc = .ok ((.if_icmp cn off), ln) ∧ (ln = j_il (.if_icmp cn off) ∨ j_isw (.if_icmp cn off) = true)) (h : j_stp call (.if_icmp cn off) q pc L st σ K = some r0) (hK : ∀ pc' L' st' σ', K pc' L' st' σ' = some r0 → m_go p l e R s m args below meth c Q dC dI cA τ rn rx A nL nb lb ρ0 r0 (pc') (L') (st') (σ')) : m_go p l e R s m args below meth c Q dC dI cA τ rn rx A nL nb lb ρ0 r0 (pc) (L) (st) (σ) := by
    have hd1 : decode cc pc = .ok ((.if_icmp cn off), j_il (.if_icmp cn off)) := by obtain ⟨ln, h1, h2 | h2⟩ := hd0 <;> first | (rw [h1, h2]) | cases h2
    unfold j_stp at h
    unfold j_okE at hE
    dsimp only at h hE
    split at h
    · have ht := of_decide_eq_true hE
      rcases m_tst h with ⟨hp, h⟩ | ⟨hp, h⟩
      · obtain ⟨a1, a2, a3⟩ := hK _ _ _ _ h
        exact ⟨m_icmp hS hd1 ht (fun _ => a1) (fun z => absurd hp z), a2, a3⟩
      · obtain ⟨a1, a2, a3⟩ := hK _ _ _ _ h
        exact ⟨m_icmp hS hd1 ht (fun z => absurd z hp) (fun _ => a1), a2, a3⟩
    · cases h
set_option maxHeartbeats 4000000 in
theorem m_s_goto (hS : m_St p R s m args c dC dI cA τ rn rx A nL own cc) (hnm : (mN k).name = "<init>" → meth.name = "<init>") (hbn : s_n r0.2 ≤ j_b) (hRc : s_n r0.2 ≤ R.cells + nb) (hRs : s_l r0.2 ≤ R.slots + lb) (hfr : d + 1 ≤ R.frames) (hlo : 40 * d + 40 ≤ R.locals) (hcall : ∀ k' as σ v σ', k' < 137 → call k' as σ = some (v, σ') → m_Ct l d k' as σ v σ') (hend : ∀ pc L st, m_end k r0.1 cc pc st → m_at p l e R s m args below meth c Q dC dI cA τ rn rx A nL nb lb ρ0 (pc) (L) (st) (r0.2)) (off : Int) {q : List Nat} {K : Nat → j_L → List Value → Sto → Option Rr} (hE : j_okE k own pc (.goto off) q = true) (hd0 : ∃ ln, decode cc pc = .ok ((.goto off), ln) ∧ (ln = j_il (.goto off) ∨ j_isw (.goto off) = true)) (h : j_stp call (.goto off) q pc L st σ K = some r0) (hK : ∀ pc' L' st' σ', K pc' L' st' σ' = some r0 → m_go p l e R s m args below meth c Q dC dI cA τ rn rx A nL nb lb ρ0 r0 (pc') (L') (st') (σ')) : m_go p l e R s m args below meth c Q dC dI cA τ rn rx A nL nb lb ρ0 r0 (pc) (L) (st) (σ) := by
    have hd1 : decode cc pc = .ok ((.goto off), j_il (.goto off)) := by obtain ⟨ln, h1, h2 | h2⟩ := hd0 <;> first | (rw [h1, h2]) | cases h2
    unfold j_stp at h
    unfold j_okE at hE
    dsimp only at h hE
    split at h
    · obtain ⟨a1, a2, a3⟩ := hK _ _ _ _ h
      exact ⟨m_goto hS hd1 (of_decide_eq_true hE) a1, a2, a3⟩
    · cases h
set_option maxHeartbeats 4000000 in
theorem m_s_tableswitch (hS : m_St p R s m args c dC dI cA τ rn rx A nL own cc) (hnm : (mN k).name = "<init>" → meth.name = "<init>") (hbn : s_n r0.2 ≤ j_b) (hRc : s_n r0.2 ≤ R.cells + nb) (hRs : s_l r0.2 ≤ R.slots + lb) (hfr : d + 1 ≤ R.frames) (hlo : 40 * d + 40 ≤ R.locals) (hcall : ∀ k' as σ v σ', k' < 137 → call k' as σ = some (v, σ') → m_Ct l d k' as σ v σ') (hend : ∀ pc L st, m_end k r0.1 cc pc st → m_at p l e R s m args below meth c Q dC dI cA τ rn rx A nL nb lb ρ0 (pc) (L) (st) (r0.2)) (d0 lo hi : Int) (offs : Array Int) {q : List Nat} {K : Nat → j_L → List Value → Sto → Option Rr} (hE : j_okE k own pc (.tableswitch d0 lo hi offs) q = true) (hd0 : ∃ ln, decode cc pc = .ok ((.tableswitch d0 lo hi offs), ln) ∧ (ln = j_il (.tableswitch d0 lo hi offs) ∨ j_isw (.tableswitch d0 lo hi offs) = true)) (h : j_stp call (.tableswitch d0 lo hi offs) q pc L st σ K = some r0) (hK : ∀ pc' L' st' σ', K pc' L' st' σ' = some r0 → m_go p l e R s m args below meth c Q dC dI cA τ rn rx A nL nb lb ρ0 r0 (pc') (L') (st') (σ')) : m_go p l e R s m args below meth c Q dC dI cA τ rn rx A nL nb lb ρ0 r0 (pc) (L) (st) (σ) := by
    have hd1 : True := trivial
    unfold j_stp at h
    unfold j_okE at hE
    dsimp only at h hE
    split at h
    · rename_i t ts x st'
      simp only [Bool.and_eq_true, decide_eq_true_eq] at hE
      obtain ⟨⟨⟨⟨⟨e1, e2⟩, e3⟩, e4⟩, e5⟩, e6⟩ := hE
      obtain ⟨n, hdg, -⟩ := hd0
      rcases m_tsw ts lo e2 (by omega) h with ⟨g, hx⟩ | ⟨i, t', hi, hx, g⟩
      · obtain ⟨a1, a2, a3⟩ := hK _ _ _ _ g
        refine ⟨?_, a2, a3⟩
        intro ρ H locs cells slots ls hI hc hs hL hw
        exact lv_tableOut hS.1 hS.2.1 hdg (by omega) e1 (a1 ρ H locs cells slots ls hI hc hs hL (m_wt hw))
      · obtain ⟨a1, a2, a3⟩ := hK _ _ _ _ g
        refine ⟨?_, a2, a3⟩
        have hil : i < ts.length := (List.getElem?_eq_some_iff.mp hi).1
        have ho : offs[(x.toInt - lo).toNat]? = some ((t' : Int) - (pc : Int)) := by
          rw [show (x.toInt - lo).toNat = i by omega, ← Array.getElem?_toList, e6, List.getElem?_map, hi]
          rfl
        intro ρ H locs cells slots ls hI hc hs hL hw
        exact lv_tableIn hS.1 hS.2.1 hdg (by omega) (by omega) ho (by omega) (a1 ρ H locs cells slots ls hI hc hs hL (m_wt hw))
    · cases h
set_option maxHeartbeats 4000000 in
theorem m_s_lookupswitch (hS : m_St p R s m args c dC dI cA τ rn rx A nL own cc) (hnm : (mN k).name = "<init>" → meth.name = "<init>") (hbn : s_n r0.2 ≤ j_b) (hRc : s_n r0.2 ≤ R.cells + nb) (hRs : s_l r0.2 ≤ R.slots + lb) (hfr : d + 1 ≤ R.frames) (hlo : 40 * d + 40 ≤ R.locals) (hcall : ∀ k' as σ v σ', k' < 137 → call k' as σ = some (v, σ') → m_Ct l d k' as σ v σ') (hend : ∀ pc L st, m_end k r0.1 cc pc st → m_at p l e R s m args below meth c Q dC dI cA τ rn rx A nL nb lb ρ0 (pc) (L) (st) (r0.2)) (d0 : Int) (ps : Array (Int × Int)) {q : List Nat} {K : Nat → j_L → List Value → Sto → Option Rr} (hE : j_okE k own pc (.lookupswitch d0 ps) q = true) (hd0 : ∃ ln, decode cc pc = .ok ((.lookupswitch d0 ps), ln) ∧ (ln = j_il (.lookupswitch d0 ps) ∨ j_isw (.lookupswitch d0 ps) = true)) (h : j_stp call (.lookupswitch d0 ps) q pc L st σ K = some r0) (hK : ∀ pc' L' st' σ', K pc' L' st' σ' = some r0 → m_go p l e R s m args below meth c Q dC dI cA τ rn rx A nL nb lb ρ0 r0 (pc') (L') (st') (σ')) : m_go p l e R s m args below meth c Q dC dI cA τ rn rx A nL nb lb ρ0 r0 (pc) (L) (st) (σ) := by
    have hd1 : True := trivial
    unfold j_stp at h
    unfold j_okE at hE
    dsimp only at h hE
    split at h
    · rename_i t ts x st' _
      split at hE
      · rename_i t a b he
        cases he
        simp only [Bool.and_eq_true, decide_eq_true_eq] at hE
        obtain ⟨e1, e6⟩ := hE
        obtain ⟨n, hdg, -⟩ := hd0
        rw [e6] at h
        unfold j_lps j_sw j_lps j_sw j_lps j_sw at h
        have k0 : (j_k 0).toInt = 0 := m_kT (by omega) (by omega)
        have k1 : (j_k 1).toInt = 1 := m_kT (by omega) (by omega)
        have hpp : (ps.toList.zip (ps.toList.drop 1)).all (fun (a, next) => a.1 < next.1) = true := by rw [e6]; rfl
        split at h
        next hx =>
          obtain ⟨a1, a2, a3⟩ := hK _ _ _ _ h
          refine ⟨?_, a2, a3⟩
          intro ρ H locs cells slots ls hI hc hs hL hw
          refine lv_lookup hS.1 hS.2.1 hdg hpp (off := (a : Int) - (pc : Int)) ?_ (by omega) (a1 ρ H locs cells slots ls hI hc hs hL (m_wt hw))
          rw [e6, hx, k0]
          rfl
        next hx =>
          split at h
          next hx1 =>
            obtain ⟨a1, a2, a3⟩ := hK _ _ _ _ h
            refine ⟨?_, a2, a3⟩
            intro ρ H locs cells slots ls hI hc hs hL hw
            refine lv_lookup hS.1 hS.2.1 hdg hpp (off := (b : Int) - (pc : Int)) ?_ (by omega) (a1 ρ H locs cells slots ls hI hc hs hL (m_wt hw))
            rw [e6, hx1, k1]
            rfl
          next hx1 =>
            obtain ⟨a1, a2, a3⟩ := hK _ _ _ _ h
            refine ⟨?_, a2, a3⟩
            intro ρ H locs cells slots ls hI hc hs hL hw
            refine lv_lookup hS.1 hS.2.1 hdg hpp (off := d0) ?_ e1 (a1 ρ H locs cells slots ls hI hc hs hL (m_wt hw))
            rw [e6, lv_osw hx k0, lv_osw hx1 k1]
            rfl
      · cases hE
    · cases h
set_option maxHeartbeats 4000000 in
theorem m_s_getfield (hS : m_St p R s m args c dC dI cA τ rn rx A nL own cc) (hnm : (mN k).name = "<init>" → meth.name = "<init>") (hbn : s_n r0.2 ≤ j_b) (hRc : s_n r0.2 ≤ R.cells + nb) (hRs : s_l r0.2 ≤ R.slots + lb) (hfr : d + 1 ≤ R.frames) (hlo : 40 * d + 40 ≤ R.locals) (hcall : ∀ k' as σ v σ', k' < 137 → call k' as σ = some (v, σ') → m_Ct l d k' as σ v σ') (hend : ∀ pc L st, m_end k r0.1 cc pc st → m_at p l e R s m args below meth c Q dC dI cA τ rn rx A nL nb lb ρ0 (pc) (L) (st) (r0.2)) (idx : Nat) {q : List Nat} {K : Nat → j_L → List Value → Sto → Option Rr} (hE : j_okE k own pc (.getfield idx) q = true) (hd0 : ∃ ln, decode cc pc = .ok ((.getfield idx), ln) ∧ (ln = j_il (.getfield idx) ∨ j_isw (.getfield idx) = true)) (h : j_stp call (.getfield idx) q pc L st σ K = some r0) (hK : ∀ pc' L' st' σ', K pc' L' st' σ' = some r0 → m_go p l e R s m args below meth c Q dC dI cA τ rn rx A nL nb lb ρ0 r0 (pc') (L') (st') (σ')) : m_go p l e R s m args below meth c Q dC dI cA τ rn rx A nL nb lb ρ0 r0 (pc) (L) (st) (σ) := by
    have hd1 : decode cc pc = .ok ((.getfield idx), j_il (.getfield idx)) := by obtain ⟨ln, h1, h2 | h2⟩ := hd0 <;> first | (rw [h1, h2]) | cases h2
    unfold j_stp at h
    unfold j_okE at hE
    dsimp only at h hE
    split at h
    · rename_i ci f kd l0 r st' _
      simp only [Bool.and_eq_true, decide_eq_true_eq] at hE
      obtain ⟨⟨⟨e1, e2⟩, e3⟩, e4⟩ := hE
      have hl := m_fl e4
      split at h
      next hkd =>
        unfold j_oc at h
        split at h
        next hr =>
          obtain ⟨a1, a2, a3⟩ := hK _ _ _ _ h
          exact ⟨m_getJ hS e1 e2 hl (j_us e1) (m_kd1 (hkd ▸ e3)) hr hd1 a1, a2, a3⟩
        next => cases h
      next hkd =>
        split at h
        next hkd2 =>
          unfold j_gP at h
          split at h
          next hr =>
            split at h
            next q hq =>
              obtain ⟨a1, a2, a3⟩ := hK _ _ _ _ h
              exact ⟨m_getP hS e1 e2 hl (j_us e1) (m_kd2 (hkd2 ▸ e3)) hr hq hd1 a1, a2, a3⟩
            next => cases h
          next => cases h
        next hkd2 =>
          unfold j_oc at h
          split at h
          next hr =>
            obtain ⟨a1, a2, a3⟩ := hK _ _ _ _ h
            exact ⟨m_getI hS e1 e2 hl (j_us e1) (m_kdx e3 hkd hkd2 (j_kd9 e1 e2)) hr hd1 a1, a2, a3⟩
          next => cases h
    · cases h
set_option maxHeartbeats 4000000 in
theorem m_s_putfield (hS : m_St p R s m args c dC dI cA τ rn rx A nL own cc) (hnm : (mN k).name = "<init>" → meth.name = "<init>") (hbn : s_n r0.2 ≤ j_b) (hRc : s_n r0.2 ≤ R.cells + nb) (hRs : s_l r0.2 ≤ R.slots + lb) (hfr : d + 1 ≤ R.frames) (hlo : 40 * d + 40 ≤ R.locals) (hcall : ∀ k' as σ v σ', k' < 137 → call k' as σ = some (v, σ') → m_Ct l d k' as σ v σ') (hend : ∀ pc L st, m_end k r0.1 cc pc st → m_at p l e R s m args below meth c Q dC dI cA τ rn rx A nL nb lb ρ0 (pc) (L) (st) (r0.2)) (idx : Nat) {q : List Nat} {K : Nat → j_L → List Value → Sto → Option Rr} (hE : j_okE k own pc (.putfield idx) q = true) (hd0 : ∃ ln, decode cc pc = .ok ((.putfield idx), ln) ∧ (ln = j_il (.putfield idx) ∨ j_isw (.putfield idx) = true)) (h : j_stp call (.putfield idx) q pc L st σ K = some r0) (hK : ∀ pc' L' st' σ', K pc' L' st' σ' = some r0 → m_go p l e R s m args below meth c Q dC dI cA τ rn rx A nL nb lb ρ0 r0 (pc') (L') (st') (σ')) : m_go p l e R s m args below meth c Q dC dI cA τ rn rx A nL nb lb ρ0 r0 (pc) (L) (st) (σ) := by
    have hd1 : decode cc pc = .ok ((.putfield idx), j_il (.putfield idx)) := by obtain ⟨ln, h1, h2 | h2⟩ := hd0 <;> first | (rw [h1, h2]) | cases h2
    unfold j_stp at h
    unfold j_okE at hE
    dsimp only at h hE
    split at h
    · rename_i ci f kd l0 v r st' _
      simp only [Bool.and_eq_true, Bool.or_eq_true, decide_eq_true_eq] at hE
      obtain ⟨⟨⟨⟨e1, e2⟩, e3⟩, e4⟩, e5⟩ := hE
      have hl := m_fl e4
      split at h
      next hkd =>
        split at h
        next hrb =>
          unfold j_oc at h
          split at h
          next hr =>
            obtain ⟨a1, a2, a3⟩ := hK _ _ _ _ h
            exact ⟨m_putI hS e1 e2 hl (j_us e1) (by
              rcases hkd with z | ⟨z, z2⟩
              · subst z; exact Or.inl (m_kd0 e3)
              · subst z; exact Or.inr ⟨m_kd3 e3, z2⟩) (e5.imp id (fun z => ⟨hnm z.1, z.2⟩)) hr hrb hd1 a1, a2, a3⟩
          next => cases h
        next => cases h
      next => cases h
    · rename_i ci f kd l0 v r st' _
      simp only [Bool.and_eq_true, Bool.or_eq_true, decide_eq_true_eq] at hE
      obtain ⟨⟨⟨⟨e1, e2⟩, e3⟩, e4⟩, e5⟩ := hE
      have hl := m_fl e4
      split at h
      next hkd =>
        split at h
        next hrb =>
          unfold j_oc at h
          split at h
          next hr =>
            obtain ⟨a1, a2, a3⟩ := hK _ _ _ _ h
            exact ⟨m_putJ hS e1 e2 hl (j_us e1) (m_kd1 (hkd ▸ e3)) (e5.imp id (fun z => ⟨hnm z.1, z.2⟩)) hr hrb hd1 a1, a2, a3⟩
          next => cases h
        next => cases h
      next => cases h
    · rename_i ci f kd l0 v r st' _
      simp only [Bool.and_eq_true, Bool.or_eq_true, decide_eq_true_eq] at hE
      obtain ⟨⟨⟨⟨e1, e2⟩, e3⟩, e4⟩, e5⟩ := hE
      have hl := m_fl e4
      split at h
      next hkd =>
        split at h
        next hrb =>
          unfold j_oc at h
          split at h
          next hr =>
            obtain ⟨a1, a2, a3⟩ := hK _ _ _ _ h
            exact ⟨m_putP hS e1 e2 hl (j_us e1) (m_kd2 (hkd ▸ e3)) (e5.imp id (fun z => ⟨hnm z.1, z.2⟩)) hr hrb hd1 a1, a2, a3⟩
          next => cases h
        next => cases h
      next => cases h
    · cases h
set_option maxHeartbeats 4000000 in
theorem m_s_getstatic (hS : m_St p R s m args c dC dI cA τ rn rx A nL own cc) (hnm : (mN k).name = "<init>" → meth.name = "<init>") (hbn : s_n r0.2 ≤ j_b) (hRc : s_n r0.2 ≤ R.cells + nb) (hRs : s_l r0.2 ≤ R.slots + lb) (hfr : d + 1 ≤ R.frames) (hlo : 40 * d + 40 ≤ R.locals) (hcall : ∀ k' as σ v σ', k' < 137 → call k' as σ = some (v, σ') → m_Ct l d k' as σ v σ') (hend : ∀ pc L st, m_end k r0.1 cc pc st → m_at p l e R s m args below meth c Q dC dI cA τ rn rx A nL nb lb ρ0 (pc) (L) (st) (r0.2)) (idx : Nat) {q : List Nat} {K : Nat → j_L → List Value → Sto → Option Rr} (hE : j_okE k own pc (.getstatic idx) q = true) (hd0 : ∃ ln, decode cc pc = .ok ((.getstatic idx), ln) ∧ (ln = j_il (.getstatic idx) ∨ j_isw (.getstatic idx) = true)) (h : j_stp call (.getstatic idx) q pc L st σ K = some r0) (hK : ∀ pc' L' st' σ', K pc' L' st' σ' = some r0 → m_go p l e R s m args below meth c Q dC dI cA τ rn rx A nL nb lb ρ0 r0 (pc') (L') (st') (σ')) : m_go p l e R s m args below meth c Q dC dI cA τ rn rx A nL nb lb ρ0 r0 (pc) (L) (st) (σ) := by
    have hd1 : decode cc pc = .ok ((.getstatic idx), j_il (.getstatic idx)) := by obtain ⟨ln, h1, h2 | h2⟩ := hd0 <;> first | (rw [h1, h2]) | cases h2
    unfold j_stp at h
    unfold j_okE at hE
    dsimp only at h hE
    split at h
    · simp only [Bool.and_eq_true, decide_eq_true_eq] at hE
      obtain ⟨a1, a2, a3⟩ := hK _ _ _ _ h
      exact ⟨m_gets hS hE.1 (m_has hE.2) hd1 a1, a2, a3⟩
    · cases h
set_option maxHeartbeats 4000000 in
theorem m_s_iaload (hS : m_St p R s m args c dC dI cA τ rn rx A nL own cc) (hnm : (mN k).name = "<init>" → meth.name = "<init>") (hbn : s_n r0.2 ≤ j_b) (hRc : s_n r0.2 ≤ R.cells + nb) (hRs : s_l r0.2 ≤ R.slots + lb) (hfr : d + 1 ≤ R.frames) (hlo : 40 * d + 40 ≤ R.locals) (hcall : ∀ k' as σ v σ', k' < 137 → call k' as σ = some (v, σ') → m_Ct l d k' as σ v σ') (hend : ∀ pc L st, m_end k r0.1 cc pc st → m_at p l e R s m args below meth c Q dC dI cA τ rn rx A nL nb lb ρ0 (pc) (L) (st) (r0.2))  {q : List Nat} {K : Nat → j_L → List Value → Sto → Option Rr} (hE : j_okE k own pc (.iaload) q = true) (hd0 : ∃ ln, decode cc pc = .ok ((.iaload), ln) ∧ (ln = j_il (.iaload) ∨ j_isw (.iaload) = true)) (h : j_stp call (.iaload) q pc L st σ K = some r0) (hK : ∀ pc' L' st' σ', K pc' L' st' σ' = some r0 → m_go p l e R s m args below meth c Q dC dI cA τ rn rx A nL nb lb ρ0 r0 (pc') (L') (st') (σ')) : m_go p l e R s m args below meth c Q dC dI cA τ rn rx A nL nb lb ρ0 r0 (pc) (L) (st) (σ) := by
    have hd1 : decode cc pc = .ok ((.iaload), j_il (.iaload)) := by obtain ⟨ln, h1, h2 | h2⟩ := hd0 <;> first | (rw [h1, h2]) | cases h2
    unfold j_stp at h
    unfold j_okE at hE
    dsimp only at h hE
    split at h
    · unfold j_ia at h
      split at h
      · rename_i n hr
        split at h
        next hi =>
          obtain ⟨a1, a2, a3⟩ := hK _ _ _ _ h
          exact ⟨m_iald hS hr hi hd1 a1, a2, a3⟩
        next => cases h
      · cases h
    · cases h
set_option maxHeartbeats 4000000 in
theorem m_s_baload (hS : m_St p R s m args c dC dI cA τ rn rx A nL own cc) (hnm : (mN k).name = "<init>" → meth.name = "<init>") (hbn : s_n r0.2 ≤ j_b) (hRc : s_n r0.2 ≤ R.cells + nb) (hRs : s_l r0.2 ≤ R.slots + lb) (hfr : d + 1 ≤ R.frames) (hlo : 40 * d + 40 ≤ R.locals) (hcall : ∀ k' as σ v σ', k' < 137 → call k' as σ = some (v, σ') → m_Ct l d k' as σ v σ') (hend : ∀ pc L st, m_end k r0.1 cc pc st → m_at p l e R s m args below meth c Q dC dI cA τ rn rx A nL nb lb ρ0 (pc) (L) (st) (r0.2))  {q : List Nat} {K : Nat → j_L → List Value → Sto → Option Rr} (hE : j_okE k own pc (.baload) q = true) (hd0 : ∃ ln, decode cc pc = .ok ((.baload), ln) ∧ (ln = j_il (.baload) ∨ j_isw (.baload) = true)) (h : j_stp call (.baload) q pc L st σ K = some r0) (hK : ∀ pc' L' st' σ', K pc' L' st' σ' = some r0 → m_go p l e R s m args below meth c Q dC dI cA τ rn rx A nL nb lb ρ0 r0 (pc') (L') (st') (σ')) : m_go p l e R s m args below meth c Q dC dI cA τ rn rx A nL nb lb ρ0 r0 (pc) (L) (st) (σ) := by
    have hd1 : decode cc pc = .ok ((.baload), j_il (.baload)) := by obtain ⟨ln, h1, h2 | h2⟩ := hd0 <;> first | (rw [h1, h2]) | cases h2
    unfold j_stp at h
    unfold j_okE at hE
    dsimp only at h hE
    cases hE
set_option maxHeartbeats 4000000 in
theorem m_s_laload (hS : m_St p R s m args c dC dI cA τ rn rx A nL own cc) (hnm : (mN k).name = "<init>" → meth.name = "<init>") (hbn : s_n r0.2 ≤ j_b) (hRc : s_n r0.2 ≤ R.cells + nb) (hRs : s_l r0.2 ≤ R.slots + lb) (hfr : d + 1 ≤ R.frames) (hlo : 40 * d + 40 ≤ R.locals) (hcall : ∀ k' as σ v σ', k' < 137 → call k' as σ = some (v, σ') → m_Ct l d k' as σ v σ') (hend : ∀ pc L st, m_end k r0.1 cc pc st → m_at p l e R s m args below meth c Q dC dI cA τ rn rx A nL nb lb ρ0 (pc) (L) (st) (r0.2))  {q : List Nat} {K : Nat → j_L → List Value → Sto → Option Rr} (hE : j_okE k own pc (.laload) q = true) (hd0 : ∃ ln, decode cc pc = .ok ((.laload), ln) ∧ (ln = j_il (.laload) ∨ j_isw (.laload) = true)) (h : j_stp call (.laload) q pc L st σ K = some r0) (hK : ∀ pc' L' st' σ', K pc' L' st' σ' = some r0 → m_go p l e R s m args below meth c Q dC dI cA τ rn rx A nL nb lb ρ0 r0 (pc') (L') (st') (σ')) : m_go p l e R s m args below meth c Q dC dI cA τ rn rx A nL nb lb ρ0 r0 (pc) (L) (st) (σ) := by
    have hd1 : decode cc pc = .ok ((.laload), j_il (.laload)) := by obtain ⟨ln, h1, h2 | h2⟩ := hd0 <;> first | (rw [h1, h2]) | cases h2
    unfold j_stp at h
    unfold j_okE at hE
    dsimp only at h hE
    split at h
    · unfold j_la at h
      split at h
      · rename_i n hr
        split at h
        next hi =>
          obtain ⟨a1, a2, a3⟩ := hK _ _ _ _ h
          exact ⟨m_lald hS hr hi hd1 a1, a2, a3⟩
        next => cases h
      · cases h
    · cases h
set_option maxHeartbeats 4000000 in
theorem m_s_aaload (hS : m_St p R s m args c dC dI cA τ rn rx A nL own cc) (hnm : (mN k).name = "<init>" → meth.name = "<init>") (hbn : s_n r0.2 ≤ j_b) (hRc : s_n r0.2 ≤ R.cells + nb) (hRs : s_l r0.2 ≤ R.slots + lb) (hfr : d + 1 ≤ R.frames) (hlo : 40 * d + 40 ≤ R.locals) (hcall : ∀ k' as σ v σ', k' < 137 → call k' as σ = some (v, σ') → m_Ct l d k' as σ v σ') (hend : ∀ pc L st, m_end k r0.1 cc pc st → m_at p l e R s m args below meth c Q dC dI cA τ rn rx A nL nb lb ρ0 (pc) (L) (st) (r0.2))  {q : List Nat} {K : Nat → j_L → List Value → Sto → Option Rr} (hE : j_okE k own pc (.aaload) q = true) (hd0 : ∃ ln, decode cc pc = .ok ((.aaload), ln) ∧ (ln = j_il (.aaload) ∨ j_isw (.aaload) = true)) (h : j_stp call (.aaload) q pc L st σ K = some r0) (hK : ∀ pc' L' st' σ', K pc' L' st' σ' = some r0 → m_go p l e R s m args below meth c Q dC dI cA τ rn rx A nL nb lb ρ0 r0 (pc') (L') (st') (σ')) : m_go p l e R s m args below meth c Q dC dI cA τ rn rx A nL nb lb ρ0 r0 (pc) (L) (st) (σ) := by
    have hd1 : decode cc pc = .ok ((.aaload), j_il (.aaload)) := by obtain ⟨ln, h1, h2 | h2⟩ := hd0 <;> first | (rw [h1, h2]) | cases h2
    unfold j_stp at h
    unfold j_okE at hE
    dsimp only at h hE
    split at h
    · unfold j_qa at h
      split at h
      · rename_i C n hr
        split at h
        next hi =>
          split at h
          next q hq =>
            obtain ⟨a1, a2, a3⟩ := hK _ _ _ _ h
            obtain ⟨hC, hi⟩ := hi
            subst hC
            exact ⟨m_aald (t0 := 4) hS hr rfl (Or.inl ⟨_, rfl⟩) hi hq hd1 a1, a2, a3⟩
          next => cases h
        next => cases h
      · rename_i n hr
        split at h
        next hi =>
          split at h
          next q hq =>
            obtain ⟨a1, a2, a3⟩ := hK _ _ _ _ h
            exact ⟨m_aald (t0 := 5) hS hr rfl (Or.inr ⟨_, rfl⟩) hi hq hd1 a1, a2, a3⟩
          next => cases h
        next => cases h
      · cases h
    · cases h
set_option maxHeartbeats 4000000 in
theorem m_s_iastore (hS : m_St p R s m args c dC dI cA τ rn rx A nL own cc) (hnm : (mN k).name = "<init>" → meth.name = "<init>") (hbn : s_n r0.2 ≤ j_b) (hRc : s_n r0.2 ≤ R.cells + nb) (hRs : s_l r0.2 ≤ R.slots + lb) (hfr : d + 1 ≤ R.frames) (hlo : 40 * d + 40 ≤ R.locals) (hcall : ∀ k' as σ v σ', k' < 137 → call k' as σ = some (v, σ') → m_Ct l d k' as σ v σ') (hend : ∀ pc L st, m_end k r0.1 cc pc st → m_at p l e R s m args below meth c Q dC dI cA τ rn rx A nL nb lb ρ0 (pc) (L) (st) (r0.2))  {q : List Nat} {K : Nat → j_L → List Value → Sto → Option Rr} (hE : j_okE k own pc (.iastore) q = true) (hd0 : ∃ ln, decode cc pc = .ok ((.iastore), ln) ∧ (ln = j_il (.iastore) ∨ j_isw (.iastore) = true)) (h : j_stp call (.iastore) q pc L st σ K = some r0) (hK : ∀ pc' L' st' σ', K pc' L' st' σ' = some r0 → m_go p l e R s m args below meth c Q dC dI cA τ rn rx A nL nb lb ρ0 r0 (pc') (L') (st') (σ')) : m_go p l e R s m args below meth c Q dC dI cA τ rn rx A nL nb lb ρ0 r0 (pc) (L) (st) (σ) := by
    have hd1 : decode cc pc = .ok ((.iastore), j_il (.iastore)) := by obtain ⟨ln, h1, h2 | h2⟩ := hd0 <;> first | (rw [h1, h2]) | cases h2
    unfold j_stp at h
    unfold j_okE at hE
    dsimp only at h hE
    split at h
    · unfold j_is at h
      split at h
      · rename_i n hr
        split at h
        next hi =>
          obtain ⟨a1, a2, a3⟩ := hK _ _ _ _ h
          exact ⟨m_iast hS hr hi.1 hi.2 hd1 a1, a2, a3⟩
        next => cases h
      · cases h
    · cases h
set_option maxHeartbeats 4000000 in
theorem m_s_bastore (hS : m_St p R s m args c dC dI cA τ rn rx A nL own cc) (hnm : (mN k).name = "<init>" → meth.name = "<init>") (hbn : s_n r0.2 ≤ j_b) (hRc : s_n r0.2 ≤ R.cells + nb) (hRs : s_l r0.2 ≤ R.slots + lb) (hfr : d + 1 ≤ R.frames) (hlo : 40 * d + 40 ≤ R.locals) (hcall : ∀ k' as σ v σ', k' < 137 → call k' as σ = some (v, σ') → m_Ct l d k' as σ v σ') (hend : ∀ pc L st, m_end k r0.1 cc pc st → m_at p l e R s m args below meth c Q dC dI cA τ rn rx A nL nb lb ρ0 (pc) (L) (st) (r0.2))  {q : List Nat} {K : Nat → j_L → List Value → Sto → Option Rr} (hE : j_okE k own pc (.bastore) q = true) (hd0 : ∃ ln, decode cc pc = .ok ((.bastore), ln) ∧ (ln = j_il (.bastore) ∨ j_isw (.bastore) = true)) (h : j_stp call (.bastore) q pc L st σ K = some r0) (hK : ∀ pc' L' st' σ', K pc' L' st' σ' = some r0 → m_go p l e R s m args below meth c Q dC dI cA τ rn rx A nL nb lb ρ0 r0 (pc') (L') (st') (σ')) : m_go p l e R s m args below meth c Q dC dI cA τ rn rx A nL nb lb ρ0 r0 (pc) (L) (st) (σ) := by
    have hd1 : decode cc pc = .ok ((.bastore), j_il (.bastore)) := by obtain ⟨ln, h1, h2 | h2⟩ := hd0 <;> first | (rw [h1, h2]) | cases h2
    unfold j_stp at h
    unfold j_okE at hE
    dsimp only at h hE
    cases hE
set_option maxHeartbeats 4000000 in
theorem m_s_lastore (hS : m_St p R s m args c dC dI cA τ rn rx A nL own cc) (hnm : (mN k).name = "<init>" → meth.name = "<init>") (hbn : s_n r0.2 ≤ j_b) (hRc : s_n r0.2 ≤ R.cells + nb) (hRs : s_l r0.2 ≤ R.slots + lb) (hfr : d + 1 ≤ R.frames) (hlo : 40 * d + 40 ≤ R.locals) (hcall : ∀ k' as σ v σ', k' < 137 → call k' as σ = some (v, σ') → m_Ct l d k' as σ v σ') (hend : ∀ pc L st, m_end k r0.1 cc pc st → m_at p l e R s m args below meth c Q dC dI cA τ rn rx A nL nb lb ρ0 (pc) (L) (st) (r0.2))  {q : List Nat} {K : Nat → j_L → List Value → Sto → Option Rr} (hE : j_okE k own pc (.lastore) q = true) (hd0 : ∃ ln, decode cc pc = .ok ((.lastore), ln) ∧ (ln = j_il (.lastore) ∨ j_isw (.lastore) = true)) (h : j_stp call (.lastore) q pc L st σ K = some r0) (hK : ∀ pc' L' st' σ', K pc' L' st' σ' = some r0 → m_go p l e R s m args below meth c Q dC dI cA τ rn rx A nL nb lb ρ0 r0 (pc') (L') (st') (σ')) : m_go p l e R s m args below meth c Q dC dI cA τ rn rx A nL nb lb ρ0 r0 (pc) (L) (st) (σ) := by
    have hd1 : decode cc pc = .ok ((.lastore), j_il (.lastore)) := by obtain ⟨ln, h1, h2 | h2⟩ := hd0 <;> first | (rw [h1, h2]) | cases h2
    unfold j_stp at h
    unfold j_okE at hE
    dsimp only at h hE
    split at h
    · split at h
      next hrb =>
        unfold j_la at h
        split at h
        · rename_i n hr
          split at h
          next hi =>
            obtain ⟨a1, a2, a3⟩ := hK _ _ _ _ h
            exact ⟨m_last hS hr hrb hi hd1 a1, a2, a3⟩
          next => cases h
        · cases h
      next => cases h
    · cases h
set_option maxHeartbeats 4000000 in
theorem m_s_aastore (hS : m_St p R s m args c dC dI cA τ rn rx A nL own cc) (hnm : (mN k).name = "<init>" → meth.name = "<init>") (hbn : s_n r0.2 ≤ j_b) (hRc : s_n r0.2 ≤ R.cells + nb) (hRs : s_l r0.2 ≤ R.slots + lb) (hfr : d + 1 ≤ R.frames) (hlo : 40 * d + 40 ≤ R.locals) (hcall : ∀ k' as σ v σ', k' < 137 → call k' as σ = some (v, σ') → m_Ct l d k' as σ v σ') (hend : ∀ pc L st, m_end k r0.1 cc pc st → m_at p l e R s m args below meth c Q dC dI cA τ rn rx A nL nb lb ρ0 (pc) (L) (st) (r0.2))  {q : List Nat} {K : Nat → j_L → List Value → Sto → Option Rr} (hE : j_okE k own pc (.aastore) q = true) (hd0 : ∃ ln, decode cc pc = .ok ((.aastore), ln) ∧ (ln = j_il (.aastore) ∨ j_isw (.aastore) = true)) (h : j_stp call (.aastore) q pc L st σ K = some r0) (hK : ∀ pc' L' st' σ', K pc' L' st' σ' = some r0 → m_go p l e R s m args below meth c Q dC dI cA τ rn rx A nL nb lb ρ0 r0 (pc') (L') (st') (σ')) : m_go p l e R s m args below meth c Q dC dI cA τ rn rx A nL nb lb ρ0 r0 (pc) (L) (st) (σ) := by
    have hd1 : decode cc pc = .ok ((.aastore), j_il (.aastore)) := by obtain ⟨ln, h1, h2 | h2⟩ := hd0 <;> first | (rw [h1, h2]) | cases h2
    unfold j_stp at h
    unfold j_okE at hE
    dsimp only at h hE
    split at h
    · unfold j_qs at h
      split at h
      · rename_i C n hr
        split at h
        next hi =>
          obtain ⟨a1, a2, a3⟩ := hK _ _ _ _ h
          obtain ⟨hrb, hi, hvb, hC, hv⟩ := hi
          subst hC
          exact ⟨m_astq hS hr hrb hv hvb hi hd1 a1, a2, a3⟩
        next => cases h
      · cases h
    · cases h
set_option maxHeartbeats 4000000 in
theorem m_s_arraylength (hS : m_St p R s m args c dC dI cA τ rn rx A nL own cc) (hnm : (mN k).name = "<init>" → meth.name = "<init>") (hbn : s_n r0.2 ≤ j_b) (hRc : s_n r0.2 ≤ R.cells + nb) (hRs : s_l r0.2 ≤ R.slots + lb) (hfr : d + 1 ≤ R.frames) (hlo : 40 * d + 40 ≤ R.locals) (hcall : ∀ k' as σ v σ', k' < 137 → call k' as σ = some (v, σ') → m_Ct l d k' as σ v σ') (hend : ∀ pc L st, m_end k r0.1 cc pc st → m_at p l e R s m args below meth c Q dC dI cA τ rn rx A nL nb lb ρ0 (pc) (L) (st) (r0.2))  {q : List Nat} {K : Nat → j_L → List Value → Sto → Option Rr} (hE : j_okE k own pc (.arraylength) q = true) (hd0 : ∃ ln, decode cc pc = .ok ((.arraylength), ln) ∧ (ln = j_il (.arraylength) ∨ j_isw (.arraylength) = true)) (h : j_stp call (.arraylength) q pc L st σ K = some r0) (hK : ∀ pc' L' st' σ', K pc' L' st' σ' = some r0 → m_go p l e R s m args below meth c Q dC dI cA τ rn rx A nL nb lb ρ0 r0 (pc') (L') (st') (σ')) : m_go p l e R s m args below meth c Q dC dI cA τ rn rx A nL nb lb ρ0 r0 (pc) (L) (st) (σ) := by
    have hd1 : decode cc pc = .ok ((.arraylength), j_il (.arraylength)) := by obtain ⟨ln, h1, h2 | h2⟩ := hd0 <;> first | (rw [h1, h2]) | cases h2
    unfold j_stp at h
    unfold j_okE at hE
    dsimp only at h hE
    split at h
    · unfold j_len at h
      split at h
      · rename_i n hr
        obtain ⟨a1, a2, a3⟩ := hK _ _ _ _ h
        exact ⟨m_alen (t0 := 0) hS hr rfl hd1 a1, a2, a3⟩
      · rename_i C n hr
        split at h
        next hC =>
          obtain ⟨a1, a2, a3⟩ := hK _ _ _ _ h
          subst hC
          exact ⟨m_alen (t0 := 4) hS hr rfl hd1 a1, a2, a3⟩
        next => cases h
      · rename_i n hr
        obtain ⟨a1, a2, a3⟩ := hK _ _ _ _ h
        exact ⟨m_alen (t0 := 5) hS hr rfl hd1 a1, a2, a3⟩
      · cases h
    · cases h
set_option maxHeartbeats 4000000 in
theorem m_s_new (hS : m_St p R s m args c dC dI cA τ rn rx A nL own cc) (hnm : (mN k).name = "<init>" → meth.name = "<init>") (hbn : s_n r0.2 ≤ j_b) (hRc : s_n r0.2 ≤ R.cells + nb) (hRs : s_l r0.2 ≤ R.slots + lb) (hfr : d + 1 ≤ R.frames) (hlo : 40 * d + 40 ≤ R.locals) (hcall : ∀ k' as σ v σ', k' < 137 → call k' as σ = some (v, σ') → m_Ct l d k' as σ v σ') (hend : ∀ pc L st, m_end k r0.1 cc pc st → m_at p l e R s m args below meth c Q dC dI cA τ rn rx A nL nb lb ρ0 (pc) (L) (st) (r0.2)) (idx : Nat) {q : List Nat} {K : Nat → j_L → List Value → Sto → Option Rr} (hE : j_okE k own pc (.new idx) q = true) (hd0 : ∃ ln, decode cc pc = .ok ((.new idx), ln) ∧ (ln = j_il (.new idx) ∨ j_isw (.new idx) = true)) (h : j_stp call (.new idx) q pc L st σ K = some r0) (hK : ∀ pc' L' st' σ', K pc' L' st' σ' = some r0 → m_go p l e R s m args below meth c Q dC dI cA τ rn rx A nL nb lb ρ0 r0 (pc') (L') (st') (σ')) : m_go p l e R s m args below meth c Q dC dI cA τ rn rx A nL nb lb ρ0 r0 (pc) (L) (st) (σ) := by
    have hd1 : decode cc pc = .ok ((.new idx), j_il (.new idx)) := by obtain ⟨ln, h1, h2 | h2⟩ := hd0 <;> first | (rw [h1, h2]) | cases h2
    unfold j_stp at h
    unfold j_okE at hE
    dsimp only at h hE
    split at h
    · rename_i ci n pw
      simp only [Bool.and_eq_true, decide_eq_true_eq] at hE
      obtain ⟨⟨e1, e2⟩, e3⟩ := hE
      obtain ⟨a1, a2, a3⟩ := hK _ _ _ _ h
      have a2' : s_n σ + 1 ≤ s_n r0.2 := a2
      have a3' : s_l σ + n ≤ s_l r0.2 := a3
      exact ⟨m_new hS e1 e2 (m_has e3) (j_cat_ok e1).1 (j_cat_ok e1).2 (j_us e1) (j_dv e1) (by omega) (by omega) (by omega) hd1 a1, by omega, by omega⟩
    · cases h
set_option maxHeartbeats 4000000 in
theorem m_s_newarray (hS : m_St p R s m args c dC dI cA τ rn rx A nL own cc) (hnm : (mN k).name = "<init>" → meth.name = "<init>") (hbn : s_n r0.2 ≤ j_b) (hRc : s_n r0.2 ≤ R.cells + nb) (hRs : s_l r0.2 ≤ R.slots + lb) (hfr : d + 1 ≤ R.frames) (hlo : 40 * d + 40 ≤ R.locals) (hcall : ∀ k' as σ v σ', k' < 137 → call k' as σ = some (v, σ') → m_Ct l d k' as σ v σ') (hend : ∀ pc L st, m_end k r0.1 cc pc st → m_at p l e R s m args below meth c Q dC dI cA τ rn rx A nL nb lb ρ0 (pc) (L) (st) (r0.2)) (ty : ArrayType) {q : List Nat} {K : Nat → j_L → List Value → Sto → Option Rr} (hE : j_okE k own pc (.newarray ty) q = true) (hd0 : ∃ ln, decode cc pc = .ok ((.newarray ty), ln) ∧ (ln = j_il (.newarray ty) ∨ j_isw (.newarray ty) = true)) (h : j_stp call (.newarray ty) q pc L st σ K = some r0) (hK : ∀ pc' L' st' σ', K pc' L' st' σ' = some r0 → m_go p l e R s m args below meth c Q dC dI cA τ rn rx A nL nb lb ρ0 r0 (pc') (L') (st') (σ')) : m_go p l e R s m args below meth c Q dC dI cA τ rn rx A nL nb lb ρ0 r0 (pc) (L) (st) (σ) := by
    have hd1 : decode cc pc = .ok ((.newarray ty), j_il (.newarray ty)) := by obtain ⟨ln, h1, h2 | h2⟩ := hd0 <;> first | (rw [h1, h2]) | cases h2
    unfold j_stp at h
    unfold j_okE at hE
    dsimp only at h hE
    split at h
    · split at h
      next => cases h
      next hn =>
        obtain ⟨a1, a2, a3⟩ := hK _ _ _ _ h
        have hn1 := fun z => hn (Or.inl z)
        have hn2 := Nat.not_lt.mp (fun z => hn (Or.inr z))
        have a2' : s_n σ + 1 ≤ s_n r0.2 := a2
        rename_i n st'
        have a3' : s_l σ + n.toNatClampNeg ≤ s_l r0.2 := a3
        refine ⟨?_, by omega, by omega⟩
        generalize hty : newarray.typeOf ty = tt at hE a1
        cases tt <;> first | cases hE | skip
        · exact m_newa (t0 := 0) hS hty rfl j_ca_int (fun cX N σ' r ρ' g1 g2 g3 => by unfold m_ar; dsimp only; rw [g2]; rfl) (fun cX => Iff.rfl) (by decide) hn1 hn2 (by omega) (by omega) (by omega) hd1 a1
        · exact m_newa (t0 := 3) hS hty rfl j_ca_long (fun cX N σ' r ρ' g1 g2 g3 => by unfold m_ar; dsimp only; rw [g3]; rfl) (fun cX => Iff.rfl) (by decide) hn1 hn2 (by omega) (by omega) (by omega) hd1 a1
    · cases h
set_option maxHeartbeats 4000000 in
theorem m_s_anewarray (hS : m_St p R s m args c dC dI cA τ rn rx A nL own cc) (hnm : (mN k).name = "<init>" → meth.name = "<init>") (hbn : s_n r0.2 ≤ j_b) (hRc : s_n r0.2 ≤ R.cells + nb) (hRs : s_l r0.2 ≤ R.slots + lb) (hfr : d + 1 ≤ R.frames) (hlo : 40 * d + 40 ≤ R.locals) (hcall : ∀ k' as σ v σ', k' < 137 → call k' as σ = some (v, σ') → m_Ct l d k' as σ v σ') (hend : ∀ pc L st, m_end k r0.1 cc pc st → m_at p l e R s m args below meth c Q dC dI cA τ rn rx A nL nb lb ρ0 (pc) (L) (st) (r0.2)) (idx : Nat) {q : List Nat} {K : Nat → j_L → List Value → Sto → Option Rr} (hE : j_okE k own pc (.anewarray idx) q = true) (hd0 : ∃ ln, decode cc pc = .ok ((.anewarray idx), ln) ∧ (ln = j_il (.anewarray idx) ∨ j_isw (.anewarray idx) = true)) (h : j_stp call (.anewarray idx) q pc L st σ K = some r0) (hK : ∀ pc' L' st' σ', K pc' L' st' σ' = some r0 → m_go p l e R s m args below meth c Q dC dI cA τ rn rx A nL nb lb ρ0 r0 (pc') (L') (st') (σ')) : m_go p l e R s m args below meth c Q dC dI cA τ rn rx A nL nb lb ρ0 r0 (pc) (L) (st) (σ) := by
    have hd1 : decode cc pc = .ok ((.anewarray idx), j_il (.anewarray idx)) := by obtain ⟨ln, h1, h2 | h2⟩ := hd0 <;> first | (rw [h1, h2]) | cases h2
    unfold j_stp at h
    unfold j_okE at hE
    dsimp only at h hE
    split at hE
    · split at h
      · split at h
        next => cases h
        next hn =>
          obtain ⟨a1, a2, a3⟩ := hK _ _ _ _ h
          have hn1 := fun z => hn (Or.inl z)
          have hn2 := Nat.not_lt.mp (fun z => hn (Or.inr z))
          have a2' : s_n σ + 1 ≤ s_n r0.2 := a2
          rename_i n st'
          have a3' : s_l σ + n.toNatClampNeg ≤ s_l r0.2 := a3
          exact ⟨m_newq hS (m_has hE) j_ao_obj hn1 hn2 (by omega) (by omega) (by omega) hd1 a1, by omega, by omega⟩
      · cases h
    · cases hE
set_option maxHeartbeats 4000000 in
theorem m_s_multianewarray (hS : m_St p R s m args c dC dI cA τ rn rx A nL own cc) (hnm : (mN k).name = "<init>" → meth.name = "<init>") (hbn : s_n r0.2 ≤ j_b) (hRc : s_n r0.2 ≤ R.cells + nb) (hRs : s_l r0.2 ≤ R.slots + lb) (hfr : d + 1 ≤ R.frames) (hlo : 40 * d + 40 ≤ R.locals) (hcall : ∀ k' as σ v σ', k' < 137 → call k' as σ = some (v, σ') → m_Ct l d k' as σ v σ') (hend : ∀ pc L st, m_end k r0.1 cc pc st → m_at p l e R s m args below meth c Q dC dI cA τ rn rx A nL nb lb ρ0 (pc) (L) (st) (r0.2)) (idx d0 : Nat) {q : List Nat} {K : Nat → j_L → List Value → Sto → Option Rr} (hE : j_okE k own pc (.multianewarray idx d0) q = true) (hd0 : ∃ ln, decode cc pc = .ok ((.multianewarray idx d0), ln) ∧ (ln = j_il (.multianewarray idx d0) ∨ j_isw (.multianewarray idx d0) = true)) (h : j_stp call (.multianewarray idx d0) q pc L st σ K = some r0) (hK : ∀ pc' L' st' σ', K pc' L' st' σ' = some r0 → m_go p l e R s m args below meth c Q dC dI cA τ rn rx A nL nb lb ρ0 r0 (pc') (L') (st') (σ')) : m_go p l e R s m args below meth c Q dC dI cA τ rn rx A nL nb lb ρ0 r0 (pc) (L) (st) (σ) := by
    have hd1 : decode cc pc = .ok ((.multianewarray idx d0), j_il (.multianewarray idx d0)) := by obtain ⟨ln, h1, h2 | h2⟩ := hd0 <;> first | (rw [h1, h2]) | cases h2
    unfold j_stp at h
    unfold j_okE at hE
    dsimp only at h hE
    split at hE
    · simp only [Bool.and_eq_true, decide_eq_true_eq] at hE
      obtain ⟨rfl, e2⟩ := hE
      split at h
      · split at h
        next => cases h
        next hn =>
          obtain ⟨a1, a2, a3⟩ := hK _ _ _ _ h
          rename_i k1 n1 st'
          have a2' : s_n σ + 1 + n1.toNatClampNeg ≤ s_n r0.2 := a2
          have a3' : s_l σ + n1.toNatClampNeg + n1.toNatClampNeg * k1.toNatClampNeg ≤ s_l r0.2 := a3
          exact ⟨m_mnew hS (m_has e2) j_ao_arr j_ca_int (fun z => hn (Or.inl z)) (fun z => hn (Or.inr (Or.inl z))) (Nat.not_lt.mp fun z => hn (Or.inr (Or.inr (Or.inl z)))) (Nat.not_lt.mp fun z => hn (Or.inr (Or.inr (Or.inr z)))) (by omega) (by omega) (by omega) hd1 a1, by omega, by omega⟩
      · cases h
    · cases hE
set_option maxHeartbeats 4000000 in
theorem m_s_invokevirtual (hS : m_St p R s m args c dC dI cA τ rn rx A nL own cc) (hnm : (mN k).name = "<init>" → meth.name = "<init>") (hbn : s_n r0.2 ≤ j_b) (hRc : s_n r0.2 ≤ R.cells + nb) (hRs : s_l r0.2 ≤ R.slots + lb) (hfr : d + 1 ≤ R.frames) (hlo : 40 * d + 40 ≤ R.locals) (hcall : ∀ k' as σ v σ', k' < 137 → call k' as σ = some (v, σ') → m_Ct l d k' as σ v σ') (hend : ∀ pc L st, m_end k r0.1 cc pc st → m_at p l e R s m args below meth c Q dC dI cA τ rn rx A nL nb lb ρ0 (pc) (L) (st) (r0.2)) (idx : Nat) {q : List Nat} {K : Nat → j_L → List Value → Sto → Option Rr} (hE : j_okE k own pc (.invokevirtual idx) q = true) (hd0 : ∃ ln, decode cc pc = .ok ((.invokevirtual idx), ln) ∧ (ln = j_il (.invokevirtual idx) ∨ j_isw (.invokevirtual idx) = true)) (h : j_stp call (.invokevirtual idx) q pc L st σ K = some r0) (hK : ∀ pc' L' st' σ', K pc' L' st' σ' = some r0 → m_go p l e R s m args below meth c Q dC dI cA τ rn rx A nL nb lb ρ0 r0 (pc') (L') (st') (σ')) : m_go p l e R s m args below meth c Q dC dI cA τ rn rx A nL nb lb ρ0 r0 (pc) (L) (st) (σ) := by
    have hd1 : decode cc pc = .ok ((.invokevirtual idx), j_il (.invokevirtual idx)) := by obtain ⟨ln, h1, h2 | h2⟩ := hd0 <;> first | (rw [h1, h2]) | cases h2
    unfold j_stp at h
    unfold j_okE at hE
    dsimp only at h hE
    split at h
    · rename_i m0 na rt ci l0
      simp only [Bool.and_eq_true, decide_eq_true_eq] at hE
      obtain ⟨⟨⟨⟨⟨e1, e2⟩, e3⟩, e4⟩, e5⟩, e6⟩ := hE
      obtain ⟨pw, aw, bw, e7⟩ := m_lk e6
      unfold j_lkB at e7
      simp only [Bool.and_eq_true] at e7
      split at h
      · rename_i r st' hst
        split at h
        next hcc =>
          unfold j_oc at h
          split at h
          next hr =>
            obtain ⟨v, σ', hcl, hgo⟩ := m_clo h
            obtain ⟨a1, a2, a3⟩ := hK _ _ _ _ hgo
            have hct := hcall _ _ _ _ _ e1 hcl
            have e9 := m_drop hst
            rw [e9]
            refine ⟨m_call0 (ta := st.take na) hS e1 e4 (by rw [List.length_take]; omega) hcc.2 hfr hlo (Nat.le_trans a2 hbn) (Nat.le_trans a2 hRc) (Nat.le_trans a3 hRs) e2 e3 hr (m_has e7.1.1) (m_has e7.1.2) (m_has e7.2) hct hd1 a1, Nat.le_trans hct.1 a2, Nat.le_trans hct.2.1 a3⟩
          next => cases h
        next => cases h
      · cases h
    · cases h
set_option maxHeartbeats 4000000 in
theorem m_s_invokestatic (hS : m_St p R s m args c dC dI cA τ rn rx A nL own cc) (hnm : (mN k).name = "<init>" → meth.name = "<init>") (hbn : s_n r0.2 ≤ j_b) (hRc : s_n r0.2 ≤ R.cells + nb) (hRs : s_l r0.2 ≤ R.slots + lb) (hfr : d + 1 ≤ R.frames) (hlo : 40 * d + 40 ≤ R.locals) (hcall : ∀ k' as σ v σ', k' < 137 → call k' as σ = some (v, σ') → m_Ct l d k' as σ v σ') (hend : ∀ pc L st, m_end k r0.1 cc pc st → m_at p l e R s m args below meth c Q dC dI cA τ rn rx A nL nb lb ρ0 (pc) (L) (st) (r0.2)) (idx : Nat) {q : List Nat} {K : Nat → j_L → List Value → Sto → Option Rr} (hE : j_okE k own pc (.invokestatic idx) q = true) (hd0 : ∃ ln, decode cc pc = .ok ((.invokestatic idx), ln) ∧ (ln = j_il (.invokestatic idx) ∨ j_isw (.invokestatic idx) = true)) (h : j_stp call (.invokestatic idx) q pc L st σ K = some r0) (hK : ∀ pc' L' st' σ', K pc' L' st' σ' = some r0 → m_go p l e R s m args below meth c Q dC dI cA τ rn rx A nL nb lb ρ0 r0 (pc') (L') (st') (σ')) : m_go p l e R s m args below meth c Q dC dI cA τ rn rx A nL nb lb ρ0 r0 (pc) (L) (st) (σ) := by
    have hd1 : decode cc pc = .ok ((.invokestatic idx), j_il (.invokestatic idx)) := by obtain ⟨ln, h1, h2 | h2⟩ := hd0 <;> first | (rw [h1, h2]) | cases h2
    unfold j_stp at h
    unfold j_okE at hE
    dsimp only at h hE
    split at h
    · rename_i m0 na rt l0
      simp only [Bool.and_eq_true, Bool.or_eq_true, decide_eq_true_eq] at hE
      obtain ⟨⟨⟨e1, e4⟩, e5⟩, e6⟩ := hE
      split at h
      next hcc =>
        obtain ⟨v, σ', hcl, hgo⟩ := m_clo h
        obtain ⟨a1, a2, a3⟩ := hK _ _ _ _ hgo
        have hct := hcall _ _ _ _ _ e1 hcl
        have e9 : st = st.take na ++ st.drop na := (List.take_append_drop na st).symm
        rcases e6 with e6 | e6
        · obtain ⟨pw, aw, bw, e7⟩ := m_lk e6
          unfold j_lkB at e7
          simp only [Bool.and_eq_true] at e7
          rw [e9]
          exact ⟨m_call1 (ta := st.take na) hS e1 e4 (by rw [List.length_take]; omega) hcc.2 hfr hlo (Nat.le_trans a2 hbn) (Nat.le_trans a2 hRc) (Nat.le_trans a3 hRs) (m_has e7.1) (m_has e7.2) hct hd1 a1, Nat.le_trans hct.1 a2, Nat.le_trans hct.2.1 a3⟩
        · obtain ⟨pw, aw, bw, e7⟩ := m_lk e6
          unfold j_lkB at e7
          simp only [Bool.and_eq_true] at e7
          rw [e9]
          exact ⟨m_call4 (ta := st.take na) hS e1 e4 (by rw [List.length_take]; omega) hcc.2 hfr hlo (Nat.le_trans a2 hbn) (Nat.le_trans a2 hRc) (Nat.le_trans a3 hRs) (m_hasN e7.1) (m_has e7.2) hct hd1 a1, Nat.le_trans hct.1 a2, Nat.le_trans hct.2.1 a3⟩
      next => cases h
    · rename_i l0
      obtain ⟨pw, aw, bw, e7⟩ := m_lk hE
      unfold j_lkB at e7
      split at h
      · split at h
        next hcc =>
          unfold j_ac at h
          split at h
          · rename_i n0 n1 hr hd
            split at h
            next hz =>
              obtain ⟨a1, a2, a3⟩ := hK _ _ _ _ h
              exact ⟨m_copy hS (m_has e7) j_w_nat j_w_sta j_w_ini hr hd hz.1 hz.2.1 hz.2.2.1 hz.2.2.2.1 hz.2.2.2.2.1 hz.2.2.2.2.2.1 hz.2.2.2.2.2.2 hcc hd1 a1, a2, a3⟩
            next => cases h
          · cases h
        next => cases h
      · cases h
    · rename_i l0 _ 
      obtain ⟨pw, aw, bw, e7⟩ := m_lk hE
      unfold j_lkB at e7
      split at h
      · split at h
        next hcc =>
          obtain ⟨a1, a2, a3⟩ := hK _ _ _ _ h
          exact ⟨m_abs hS (m_has e7) j_w_abs.1 j_w_abs.2.1 j_w_abs.2.2 hcc (Nat.le_trans a2 hRc) (Nat.le_trans a3 hRs) hd1 a1, a2, a3⟩
        next => cases h
      · cases h
    · cases hE
    · cases h
set_option maxHeartbeats 4000000 in
theorem m_s_invokespecial (hS : m_St p R s m args c dC dI cA τ rn rx A nL own cc) (hnm : (mN k).name = "<init>" → meth.name = "<init>") (hbn : s_n r0.2 ≤ j_b) (hRc : s_n r0.2 ≤ R.cells + nb) (hRs : s_l r0.2 ≤ R.slots + lb) (hfr : d + 1 ≤ R.frames) (hlo : 40 * d + 40 ≤ R.locals) (hcall : ∀ k' as σ v σ', k' < 137 → call k' as σ = some (v, σ') → m_Ct l d k' as σ v σ') (hend : ∀ pc L st, m_end k r0.1 cc pc st → m_at p l e R s m args below meth c Q dC dI cA τ rn rx A nL nb lb ρ0 (pc) (L) (st) (r0.2)) (idx : Nat) {q : List Nat} {K : Nat → j_L → List Value → Sto → Option Rr} (hE : j_okE k own pc (.invokespecial idx) q = true) (hd0 : ∃ ln, decode cc pc = .ok ((.invokespecial idx), ln) ∧ (ln = j_il (.invokespecial idx) ∨ j_isw (.invokespecial idx) = true)) (h : j_stp call (.invokespecial idx) q pc L st σ K = some r0) (hK : ∀ pc' L' st' σ', K pc' L' st' σ' = some r0 → m_go p l e R s m args below meth c Q dC dI cA τ rn rx A nL nb lb ρ0 r0 (pc') (L') (st') (σ')) : m_go p l e R s m args below meth c Q dC dI cA τ rn rx A nL nb lb ρ0 r0 (pc) (L) (st) (σ) := by
    have hd1 : decode cc pc = .ok ((.invokespecial idx), j_il (.invokespecial idx)) := by obtain ⟨ln, h1, h2 | h2⟩ := hd0 <;> first | (rw [h1, h2]) | cases h2
    unfold j_stp at h
    unfold j_okE at hE
    dsimp only at h hE
    split at h
    · rename_i m0 na rt l0
      simp only [Bool.and_eq_true, Bool.or_eq_true, decide_eq_true_eq] at hE
      obtain ⟨⟨⟨⟨e1, e4⟩, e5⟩, e8⟩, e6⟩ := hE
      split at h
      · rename_i r st' hst
        split at h
        next hcc =>
          obtain ⟨v, σ', hcl, hgo⟩ := m_clo h
          obtain ⟨a1, a2, a3⟩ := hK _ _ _ _ hgo
          have hct := hcall _ _ _ _ _ e1 hcl
          have e9 := m_drop hst
          rw [e9]
          rcases e6 with e6 | e6
          · obtain ⟨pw, aw, bw, e7⟩ := m_lk e6
            unfold j_lkB at e7
            simp only [Bool.and_eq_true, decide_eq_true_eq] at e7
            exact ⟨m_call2 (ta := st.take na) hS e1 e4 (by rw [List.length_take]; omega) hcc.2 hfr hlo (Nat.le_trans a2 hbn) (Nat.le_trans a2 hRc) (Nat.le_trans a3 hRs) (m_has e7.1.1) (m_has e7.1.2) e7.2 e8 hct hd1 a1, Nat.le_trans hct.1 a2, Nat.le_trans hct.2.1 a3⟩
          · obtain ⟨pw, aw, bw, e7⟩ := m_lk e6
            unfold j_lkB at e7
            simp only [Bool.and_eq_true, decide_eq_true_eq] at e7
            exact ⟨m_call3 (ta := st.take na) hS e1 e4 (by rw [List.length_take]; omega) hcc.2 hfr hlo (Nat.le_trans a2 hbn) (Nat.le_trans a2 hRc) (Nat.le_trans a3 hRs) (m_hasN e7.1.1) (m_has e7.1.2) e7.2 e8 hct hd1 a1, Nat.le_trans hct.1 a2, Nat.le_trans hct.2.1 a3⟩
        next => cases h
      · cases h
    · rename_i l0
      obtain ⟨pw, aw, bw, e7⟩ := m_lk hE
      unfold j_lkB at e7
      split at h
      · split at h
        next hcc =>
          obtain ⟨a1, a2, a3⟩ := hK _ _ _ _ h
          exact ⟨m_objInit hS (m_has e7) j_w_oi j_w_oc hcc hd1 a1, a2, a3⟩
        next => cases h
      · cases h
    · cases h
set_option maxHeartbeats 4000000 in
theorem m_s_return_ (hS : m_St p R s m args c dC dI cA τ rn rx A nL own cc) (hnm : (mN k).name = "<init>" → meth.name = "<init>") (hbn : s_n r0.2 ≤ j_b) (hRc : s_n r0.2 ≤ R.cells + nb) (hRs : s_l r0.2 ≤ R.slots + lb) (hfr : d + 1 ≤ R.frames) (hlo : 40 * d + 40 ≤ R.locals) (hcall : ∀ k' as σ v σ', k' < 137 → call k' as σ = some (v, σ') → m_Ct l d k' as σ v σ') (hend : ∀ pc L st, m_end k r0.1 cc pc st → m_at p l e R s m args below meth c Q dC dI cA τ rn rx A nL nb lb ρ0 (pc) (L) (st) (r0.2))  {q : List Nat} {K : Nat → j_L → List Value → Sto → Option Rr} (hE : j_okE k own pc (.return_) q = true) (hd0 : ∃ ln, decode cc pc = .ok ((.return_), ln) ∧ (ln = j_il (.return_) ∨ j_isw (.return_) = true)) (h : j_stp call (.return_) q pc L st σ K = some r0) (hK : ∀ pc' L' st' σ', K pc' L' st' σ' = some r0 → m_go p l e R s m args below meth c Q dC dI cA τ rn rx A nL nb lb ρ0 r0 (pc') (L') (st') (σ')) : m_go p l e R s m args below meth c Q dC dI cA τ rn rx A nL nb lb ρ0 r0 (pc) (L) (st) (σ) := by
    have hd1 : decode cc pc = .ok ((.return_), j_il (.return_)) := by obtain ⟨ln, h1, h2 | h2⟩ := hd0 <;> first | (rw [h1, h2]) | cases h2
    unfold j_stp at h
    unfold j_okE at hE
    dsimp only at h hE
    split at h
    · cases h
      exact ⟨hend _ _ _ (Or.inl ⟨hd1, of_decide_eq_true hE, rfl, rfl⟩), Nat.le_refl _, Nat.le_refl _⟩
    · cases h
set_option maxHeartbeats 4000000 in
theorem m_s_ireturn (hS : m_St p R s m args c dC dI cA τ rn rx A nL own cc) (hnm : (mN k).name = "<init>" → meth.name = "<init>") (hbn : s_n r0.2 ≤ j_b) (hRc : s_n r0.2 ≤ R.cells + nb) (hRs : s_l r0.2 ≤ R.slots + lb) (hfr : d + 1 ≤ R.frames) (hlo : 40 * d + 40 ≤ R.locals) (hcall : ∀ k' as σ v σ', k' < 137 → call k' as σ = some (v, σ') → m_Ct l d k' as σ v σ') (hend : ∀ pc L st, m_end k r0.1 cc pc st → m_at p l e R s m args below meth c Q dC dI cA τ rn rx A nL nb lb ρ0 (pc) (L) (st) (r0.2))  {q : List Nat} {K : Nat → j_L → List Value → Sto → Option Rr} (hE : j_okE k own pc (.ireturn) q = true) (hd0 : ∃ ln, decode cc pc = .ok ((.ireturn), ln) ∧ (ln = j_il (.ireturn) ∨ j_isw (.ireturn) = true)) (h : j_stp call (.ireturn) q pc L st σ K = some r0) (hK : ∀ pc' L' st' σ', K pc' L' st' σ' = some r0 → m_go p l e R s m args below meth c Q dC dI cA τ rn rx A nL nb lb ρ0 r0 (pc') (L') (st') (σ')) : m_go p l e R s m args below meth c Q dC dI cA τ rn rx A nL nb lb ρ0 r0 (pc) (L) (st) (σ) := by
    have hd1 : decode cc pc = .ok ((.ireturn), j_il (.ireturn)) := by obtain ⟨ln, h1, h2 | h2⟩ := hd0 <;> first | (rw [h1, h2]) | cases h2
    unfold j_stp at h
    unfold j_okE at hE
    dsimp only at h hE
    split at h
    · cases h
      exact ⟨hend _ _ _ (Or.inr (Or.inl ⟨hd1, _, rfl, rfl, Or.inl (of_decide_eq_true hE)⟩)), Nat.le_refl _, Nat.le_refl _⟩
    · split at h
      next hz =>
        cases h
        split at hE
        · exact ⟨hend _ _ _ (Or.inr (Or.inl ⟨hd1, _, rfl, rfl, Or.inl (of_decide_eq_true hE)⟩)), Nat.le_refl _, Nat.le_refl _⟩
        · exact ⟨hend _ _ _ (Or.inr (Or.inl ⟨hd1, _, rfl, rfl, Or.inr ⟨of_decide_eq_true hE, hz⟩⟩)), Nat.le_refl _, Nat.le_refl _⟩
        · cases hE
      next => cases h
    · cases h
set_option maxHeartbeats 4000000 in
theorem m_s_lreturn (hS : m_St p R s m args c dC dI cA τ rn rx A nL own cc) (hnm : (mN k).name = "<init>" → meth.name = "<init>") (hbn : s_n r0.2 ≤ j_b) (hRc : s_n r0.2 ≤ R.cells + nb) (hRs : s_l r0.2 ≤ R.slots + lb) (hfr : d + 1 ≤ R.frames) (hlo : 40 * d + 40 ≤ R.locals) (hcall : ∀ k' as σ v σ', k' < 137 → call k' as σ = some (v, σ') → m_Ct l d k' as σ v σ') (hend : ∀ pc L st, m_end k r0.1 cc pc st → m_at p l e R s m args below meth c Q dC dI cA τ rn rx A nL nb lb ρ0 (pc) (L) (st) (r0.2))  {q : List Nat} {K : Nat → j_L → List Value → Sto → Option Rr} (hE : j_okE k own pc (.lreturn) q = true) (hd0 : ∃ ln, decode cc pc = .ok ((.lreturn), ln) ∧ (ln = j_il (.lreturn) ∨ j_isw (.lreturn) = true)) (h : j_stp call (.lreturn) q pc L st σ K = some r0) (hK : ∀ pc' L' st' σ', K pc' L' st' σ' = some r0 → m_go p l e R s m args below meth c Q dC dI cA τ rn rx A nL nb lb ρ0 r0 (pc') (L') (st') (σ')) : m_go p l e R s m args below meth c Q dC dI cA τ rn rx A nL nb lb ρ0 r0 (pc) (L) (st) (σ) := by
    have hd1 : decode cc pc = .ok ((.lreturn), j_il (.lreturn)) := by obtain ⟨ln, h1, h2 | h2⟩ := hd0 <;> first | (rw [h1, h2]) | cases h2
    unfold j_stp at h
    unfold j_okE at hE
    dsimp only at h hE
    split at h
    · cases h
      exact ⟨hend _ _ _ (Or.inr (Or.inr ⟨hd1, _, rfl, rfl, of_decide_eq_true hE⟩)), Nat.le_refl _, Nat.le_refl _⟩
    · cases h
set_option maxHeartbeats 4000000 in
theorem m_step (hS : m_St p R s m args c dC dI cA τ rn rx A nL own cc) (hnm : (mN k).name = "<init>" → meth.name = "<init>") (hbn : s_n r0.2 ≤ j_b) (hRc : s_n r0.2 ≤ R.cells + nb) (hRs : s_l r0.2 ≤ R.slots + lb) (hfr : d + 1 ≤ R.frames) (hlo : 40 * d + 40 ≤ R.locals) (hcall : ∀ k' as σ v σ', k' < 137 → call k' as σ = some (v, σ') → m_Ct l d k' as σ v σ') (hend : ∀ pc L st, m_end k r0.1 cc pc st → m_at p l e R s m args below meth c Q dC dI cA τ rn rx A nL nb lb ρ0 (pc) (L) (st) (r0.2)) {i : Instr} {q : List Nat} {K : Nat → j_L → List Value → Sto → Option Rr} (hE : j_okE k own pc i q = true) (hd0 : ∃ n, decode cc pc = .ok (i, n) ∧ (n = j_il i ∨ j_isw i = true)) (h : j_stp call i q pc L st σ K = some r0) (hK : ∀ pc' L' st' σ', K pc' L' st' σ' = some r0 → m_go p l e R s m args below meth c Q dC dI cA τ rn rx A nL nb lb ρ0 r0 (pc') (L') (st') (σ')) : m_go p l e R s m args below meth c Q dC dI cA τ rn rx A nL nb lb ρ0 r0 (pc) (L) (st) (σ) := by
  cases i
  case iconst a0 => exact m_s_iconst hS hnm hbn hRc hRs hfr hlo hcall hend a0 hE hd0 h hK
  case bipush a0 => exact m_s_bipush hS hnm hbn hRc hRs hfr hlo hcall hend a0 hE hd0 h hK
  case sipush a0 => exact m_s_sipush hS hnm hbn hRc hRs hfr hlo hcall hend a0 hE hd0 h hK
  case lconst a0 => exact m_s_lconst hS hnm hbn hRc hRs hfr hlo hcall hend a0 hE hd0 h hK
  case ldc a0 => exact m_s_ldc hS hnm hbn hRc hRs hfr hlo hcall hend a0 hE hd0 h hK
  case ldc_w a0 => exact m_s_ldc_w hS hnm hbn hRc hRs hfr hlo hcall hend a0 hE hd0 h hK
  case ldc2_w a0 => exact m_s_ldc2_w hS hnm hbn hRc hRs hfr hlo hcall hend a0 hE hd0 h hK
  case iload a0 => exact m_s_iload hS hnm hbn hRc hRs hfr hlo hcall hend a0 hE hd0 h hK
  case lload a0 => exact m_s_lload hS hnm hbn hRc hRs hfr hlo hcall hend a0 hE hd0 h hK
  case aload a0 => exact m_s_aload hS hnm hbn hRc hRs hfr hlo hcall hend a0 hE hd0 h hK
  case iload_n a0 => exact m_s_iload_n hS hnm hbn hRc hRs hfr hlo hcall hend a0 hE hd0 h hK
  case lload_n a0 => exact m_s_lload_n hS hnm hbn hRc hRs hfr hlo hcall hend a0 hE hd0 h hK
  case aload_n a0 => exact m_s_aload_n hS hnm hbn hRc hRs hfr hlo hcall hend a0 hE hd0 h hK
  case istore a0 => exact m_s_istore hS hnm hbn hRc hRs hfr hlo hcall hend a0 hE hd0 h hK
  case lstore a0 => exact m_s_lstore hS hnm hbn hRc hRs hfr hlo hcall hend a0 hE hd0 h hK
  case astore a0 => exact m_s_astore hS hnm hbn hRc hRs hfr hlo hcall hend a0 hE hd0 h hK
  case istore_n a0 => exact m_s_istore_n hS hnm hbn hRc hRs hfr hlo hcall hend a0 hE hd0 h hK
  case lstore_n a0 => exact m_s_lstore_n hS hnm hbn hRc hRs hfr hlo hcall hend a0 hE hd0 h hK
  case astore_n a0 => exact m_s_astore_n hS hnm hbn hRc hRs hfr hlo hcall hend a0 hE hd0 h hK
  case iinc a0 a1 => exact m_s_iinc hS hnm hbn hRc hRs hfr hlo hcall hend a0 a1 hE hd0 h hK
  case iadd => exact m_s_iadd hS hnm hbn hRc hRs hfr hlo hcall hend hE hd0 h hK
  case isub => exact m_s_isub hS hnm hbn hRc hRs hfr hlo hcall hend hE hd0 h hK
  case imul => exact m_s_imul hS hnm hbn hRc hRs hfr hlo hcall hend hE hd0 h hK
  case iand => exact m_s_iand hS hnm hbn hRc hRs hfr hlo hcall hend hE hd0 h hK
  case ior => exact m_s_ior hS hnm hbn hRc hRs hfr hlo hcall hend hE hd0 h hK
  case ixor => exact m_s_ixor hS hnm hbn hRc hRs hfr hlo hcall hend hE hd0 h hK
  case ishl => exact m_s_ishl hS hnm hbn hRc hRs hfr hlo hcall hend hE hd0 h hK
  case ishr => exact m_s_ishr hS hnm hbn hRc hRs hfr hlo hcall hend hE hd0 h hK
  case iushr => exact m_s_iushr hS hnm hbn hRc hRs hfr hlo hcall hend hE hd0 h hK
  case ineg => exact m_s_ineg hS hnm hbn hRc hRs hfr hlo hcall hend hE hd0 h hK
  case ladd => exact m_s_ladd hS hnm hbn hRc hRs hfr hlo hcall hend hE hd0 h hK
  case lmul => exact m_s_lmul hS hnm hbn hRc hRs hfr hlo hcall hend hE hd0 h hK
  case lcmp => exact m_s_lcmp hS hnm hbn hRc hRs hfr hlo hcall hend hE hd0 h hK
  case i2l => exact m_s_i2l hS hnm hbn hRc hRs hfr hlo hcall hend hE hd0 h hK
  case l2i => exact m_s_l2i hS hnm hbn hRc hRs hfr hlo hcall hend hE hd0 h hK
  case i2b => exact m_s_i2b hS hnm hbn hRc hRs hfr hlo hcall hend hE hd0 h hK
  case dup2 => exact m_s_dup2 hS hnm hbn hRc hRs hfr hlo hcall hend hE hd0 h hK
  case pop => exact m_s_pop hS hnm hbn hRc hRs hfr hlo hcall hend hE hd0 h hK
  case idiv => exact m_s_idiv hS hnm hbn hRc hRs hfr hlo hcall hend hE hd0 h hK
  case irem => exact m_s_irem hS hnm hbn hRc hRs hfr hlo hcall hend hE hd0 h hK
  case ldiv => exact m_s_ldiv hS hnm hbn hRc hRs hfr hlo hcall hend hE hd0 h hK
  case lrem => exact m_s_lrem hS hnm hbn hRc hRs hfr hlo hcall hend hE hd0 h hK
  case dup => exact m_s_dup hS hnm hbn hRc hRs hfr hlo hcall hend hE hd0 h hK
  case ifCond a0 a1 => exact m_s_ifCond hS hnm hbn hRc hRs hfr hlo hcall hend a0 a1 hE hd0 h hK
  case if_icmp a0 a1 => exact m_s_if_icmp hS hnm hbn hRc hRs hfr hlo hcall hend a0 a1 hE hd0 h hK
  case goto a0 => exact m_s_goto hS hnm hbn hRc hRs hfr hlo hcall hend a0 hE hd0 h hK
  case tableswitch a0 a1 a2 a3 => exact m_s_tableswitch hS hnm hbn hRc hRs hfr hlo hcall hend a0 a1 a2 a3 hE hd0 h hK
  case lookupswitch a0 a1 => exact m_s_lookupswitch hS hnm hbn hRc hRs hfr hlo hcall hend a0 a1 hE hd0 h hK
  case getfield a0 => exact m_s_getfield hS hnm hbn hRc hRs hfr hlo hcall hend a0 hE hd0 h hK
  case putfield a0 => exact m_s_putfield hS hnm hbn hRc hRs hfr hlo hcall hend a0 hE hd0 h hK
  case getstatic a0 => exact m_s_getstatic hS hnm hbn hRc hRs hfr hlo hcall hend a0 hE hd0 h hK
  case iaload => exact m_s_iaload hS hnm hbn hRc hRs hfr hlo hcall hend hE hd0 h hK
  case baload => exact m_s_baload hS hnm hbn hRc hRs hfr hlo hcall hend hE hd0 h hK
  case laload => exact m_s_laload hS hnm hbn hRc hRs hfr hlo hcall hend hE hd0 h hK
  case aaload => exact m_s_aaload hS hnm hbn hRc hRs hfr hlo hcall hend hE hd0 h hK
  case iastore => exact m_s_iastore hS hnm hbn hRc hRs hfr hlo hcall hend hE hd0 h hK
  case bastore => exact m_s_bastore hS hnm hbn hRc hRs hfr hlo hcall hend hE hd0 h hK
  case lastore => exact m_s_lastore hS hnm hbn hRc hRs hfr hlo hcall hend hE hd0 h hK
  case aastore => exact m_s_aastore hS hnm hbn hRc hRs hfr hlo hcall hend hE hd0 h hK
  case arraylength => exact m_s_arraylength hS hnm hbn hRc hRs hfr hlo hcall hend hE hd0 h hK
  case new a0 => exact m_s_new hS hnm hbn hRc hRs hfr hlo hcall hend a0 hE hd0 h hK
  case newarray a0 => exact m_s_newarray hS hnm hbn hRc hRs hfr hlo hcall hend a0 hE hd0 h hK
  case anewarray a0 => exact m_s_anewarray hS hnm hbn hRc hRs hfr hlo hcall hend a0 hE hd0 h hK
  case multianewarray a0 a1 => exact m_s_multianewarray hS hnm hbn hRc hRs hfr hlo hcall hend a0 a1 hE hd0 h hK
  case invokevirtual a0 => exact m_s_invokevirtual hS hnm hbn hRc hRs hfr hlo hcall hend a0 hE hd0 h hK
  case invokestatic a0 => exact m_s_invokestatic hS hnm hbn hRc hRs hfr hlo hcall hend a0 hE hd0 h hK
  case invokespecial a0 => exact m_s_invokespecial hS hnm hbn hRc hRs hfr hlo hcall hend a0 hE hd0 h hK
  case return_ => exact m_s_return_ hS hnm hbn hRc hRs hfr hlo hcall hend hE hd0 h hK
  case ireturn => exact m_s_ireturn hS hnm hbn hRc hRs hfr hlo hcall hend hE hd0 h hK
  case lreturn => exact m_s_lreturn hS hnm hbn hRc hRs hfr hlo hcall hend hE hd0 h hK
  all_goals cases (show (none : Option Rr) = some r0 from h)
theorem m_look {cd : List (Nat × Instr × List Nat)} {pc : Nat} {x : Instr × List Nat} (h : j_look cd pc = some x) : (pc, x) ∈ cd := by
  induction cd with
  | nil => cases h
  | cons a cd ih =>
    obtain ⟨q, y⟩ := a
    unfold j_look at h
    cases hb : Nat.beq q pc with
    | true =>
      rw [hb] at h
      have e := Nat.eq_of_beq_eq_true hb
      subst e
      cases h
      exact List.mem_cons_self
    | false =>
      rw [hb] at h
      exact List.mem_cons_of_mem _ (ih h)
theorem m_seg (hS : m_St p R s m args c dC dI cA τ rn rx A nL own cc) (hnm : (mN k).name = "<init>" → meth.name = "<init>") (hbn : s_n r0.2 ≤ j_b) (hRc : s_n r0.2 ≤ R.cells + nb) (hRs : s_l r0.2 ≤ R.slots + lb) (hfr : d + 1 ≤ R.frames) (hlo : 40 * d + 40 ≤ R.locals) (hcall : ∀ k' as σ v σ', k' < 137 → call k' as σ = some (v, σ') → m_Ct l d k' as σ v σ') (hend : ∀ pc L st, m_end k r0.1 cc pc st → m_at p l e R s m args below meth c Q dC dI cA τ rn rx A nL nb lb ρ0 (pc) (L) (st) (r0.2)) {hd : List (Nat × Nat)} {again : Nat → j_L → List Value → Sto → Option Rr} (hchk : j_chk k own = true) (hcb : cc = mB k) (hag : ∀ pc L st σ, again pc L st σ = some r0 → m_go p l e R s m args below meth c Q dC dI cA τ rn rx A nL nb lb ρ0 r0 (pc) (L) (st) (σ)) : ∀ (n pc : Nat) (L : j_L) (st : List Value) (σ : Sto), j_seg (j_code k) hd call again n pc L st σ = some r0 → m_go p l e R s m args below meth c Q dC dI cA τ rn rx A nL nb lb ρ0 r0 (pc) (L) (st) (σ) := by
  intro n
  induction n with
  | zero => intro pc L st σ h; cases h
  | succ n ih =>
    intro pc L st σ h
    unfold j_seg at h
    split at h
    · cases h
    · rename_i i q hl
      have h1 := List.all_eq_true.mp hchk _ (m_look hl)
      simp only [Bool.and_eq_true] at h1
      obtain ⟨h1, h2⟩ := h1
      refine m_step hS hnm hbn hRc hRs hfr hlo hcall hend h2 ?_ h ?_
      · unfold j_dec at h1
        rw [← hcb] at h1
        split at h1
        · rename_i i' n' hdec
          simp only [Bool.and_eq_true, Bool.or_eq_true, decide_eq_true_eq] at h1
          exact ⟨n', by rw [hdec, h1.1], h1.2⟩
        · cases h1
      · intro pc' L' st' σ' h3
        split at h3
        · rename_i w hw
          obtain ⟨a1, a2, a3⟩ := hag _ _ _ _ h3
          exact ⟨fun ρ H locs cells slots ls hI hc hs hL hw => a1 ρ H locs cells slots ls hI hc hs (m_LR_cut w hL) hw, a2, a3⟩
        · exact ih _ _ _ _ h3
theorem m_exec (hS : m_St p R s m args c dC dI cA τ rn rx A nL own cc) (hnm : (mN k).name = "<init>" → meth.name = "<init>") (hbn : s_n r0.2 ≤ j_b) (hRc : s_n r0.2 ≤ R.cells + nb) (hRs : s_l r0.2 ≤ R.slots + lb) (hfr : d + 1 ≤ R.frames) (hlo : 40 * d + 40 ≤ R.locals) (hcall : ∀ k' as σ v σ', k' < 137 → call k' as σ = some (v, σ') → m_Ct l d k' as σ v σ') (hend : ∀ pc L st, m_end k r0.1 cc pc st → m_at p l e R s m args below meth c Q dC dI cA τ rn rx A nL nb lb ρ0 (pc) (L) (st) (r0.2)) {hd : List (Nat × Nat)} (hchk : j_chk k own = true) (hcb : cc = mB k) : ∀ (n pc : Nat) (L : j_L) (st : List Value) (σ : Sto), j_exec (j_code k) hd call n pc L st σ = some r0 → m_go p l e R s m args below meth c Q dC dI cA τ rn rx A nL nb lb ρ0 r0 (pc) (L) (st) (σ) := by
  intro n
  induction n with
  | zero => intro pc L st σ h; cases h
  | succ n ih =>
    intro pc L st σ h
    exact m_seg hS hnm hbn hRc hRs hfr hlo hcall hend hchk hcb ih 2000 pc L st σ h
end SIMSTP
