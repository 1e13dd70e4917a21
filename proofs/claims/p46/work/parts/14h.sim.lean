/-! ===== THE MACHINE FOLLOWS THE LITTLE MACHINE, part 8: whole runs ===== -/
/-- what is made stays -/
def m_up (σ : Sto) (r : Rr) : Prop := s_n σ ≤ s_n r.2 ∧ s_l σ ≤ s_l r.2
theorem m_up_step {call : Nat → List Value → Sto → Option Rr} (hcall : ∀ k as σ r, call k as σ = some r → m_up σ r) {i : Instr} {q : List Nat} {pc : Nat} {L : j_L} {st : List Value} {σ : Sto} {K : Nat → j_L → List Value → Sto → Option Rr} {r0 : Rr} (hK : ∀ pc L st τ, K pc L st τ = some r0 → m_up τ r0) (h : j_stp call i q pc L st σ K = some r0) : m_up σ r0 := by
  have hcl : ∀ m rt as st, ∀ K' : List Value → Sto → Option Rr, (∀ st τ, K' st τ = some r0 → m_up τ r0) → j_cl call m rt as σ st K' = some r0 → m_up σ r0 := by
    intro m rt as st K' hK' h
    obtain ⟨v, σ', h1, h2⟩ := m_clo h
    have a := hcall _ _ _ _ h1
    have b := hK' _ _ h2
    exact ⟨Nat.le_trans a.1 b.1, Nat.le_trans a.2 b.2⟩
  have hsw : ∀ x d ts, ∀ K' : Nat → Option Rr, (∀ t, K' t = some r0 → m_up σ r0) → j_sw x d K' ts = some r0 → m_up σ r0 := by
    intro x d ts
    induction ts with
    | nil => intro K' hK' h; exact hK' _ h
    | cons a ts ih =>
      intro K' hK' h
      unfold j_sw at h
      split at h
      · exact hK' _ h
      · exact ih K' hK' h
  have hal : ∀ (h9 : j_Sh) (n : Nat), m_up (s_al σ h9 n) r0 → m_up σ r0 := fun h9 n z => ⟨Nat.le_trans (Nat.le_succ _) z.1, Nat.le_trans (Nat.le_add_right _ _) z.2⟩
  have hmn : ∀ n k : Nat, m_up (s_mn σ n k) r0 → m_up σ r0 := fun n k z => ⟨Nat.le_trans (show s_n σ ≤ s_n σ + 1 + n by omega) z.1, Nat.le_trans (show s_l σ ≤ s_l σ + n + n * k by omega) z.2⟩
  unfold j_stp at h
  cases i <;> dsimp only at h
  all_goals first | (cases h; done) | skip
  all_goals try simp only [j_ldI, j_ldJ, j_ldA, j_oc, j_gP, j_ia, j_ba, j_la, j_qa, j_is, j_bs, j_qs, j_ac, j_len, j_tst] at h
  all_goals repeat' (split at h)
  all_goals first
    | (cases h; done)
    | exact hK _ _ _ _ h
    | (have z := hK _ _ _ _ h; exact z)
    | exact hal _ _ (hK _ _ _ _ h)
    | exact hmn _ _ (hK _ _ _ _ h)
    | exact hcl _ _ _ _ _ (fun _ _ z => hK _ _ _ _ z) h
    | exact hsw _ _ _ _ (fun _ z => hK _ _ _ _ z) h
    | (cases h; exact ⟨Nat.le_refl _, Nat.le_refl _⟩)
theorem m_up_seg {call : Nat → List Value → Sto → Option Rr} (hcall : ∀ k as σ r, call k as σ = some r → m_up σ r) {cd : List (Nat × Instr × List Nat)} {hd : List (Nat × Nat)} {again : Nat → j_L → List Value → Sto → Option Rr} {r0 : Rr} (hag : ∀ pc L st τ, again pc L st τ = some r0 → m_up τ r0) : ∀ (n pc : Nat) (L : j_L) (st : List Value) (σ : Sto), j_seg cd hd call again n pc L st σ = some r0 → m_up σ r0 := by
  intro n
  induction n with
  | zero => intro pc L st σ h; cases h
  | succ n ih =>
    intro pc L st σ h
    unfold j_seg at h
    split at h
    · cases h
    · refine m_up_step hcall ?_ h
      intro pc' L' st' τ h3
      split at h3
      · exact hag _ _ _ _ h3
      · exact ih _ _ _ _ h3
theorem m_up_exec {call : Nat → List Value → Sto → Option Rr} (hcall : ∀ k as σ r, call k as σ = some r → m_up σ r) {cd : List (Nat × Instr × List Nat)} {hd : List (Nat × Nat)} {r0 : Rr} : ∀ (n pc : Nat) (L : j_L) (st : List Value) (σ : Sto), j_exec cd hd call n pc L st σ = some r0 → m_up σ r0 := by
  intro n
  induction n with
  | zero => intro pc L st σ h; cases h
  | succ n ih => intro pc L st σ h; exact m_up_seg hcall ih 2000 pc L st σ h
theorem m_up_run : ∀ (d k : Nat) (as : List Value) (σ : Sto) (r : Rr), j_run d k as σ = some r → m_up σ r := by
  intro d
  induction d with
  | zero => intro k as σ r h; cases h
  | succ d ih =>
    intro k as σ r h
    unfold j_run at h
    split at h
    · exact m_up_exec ih j_NF 0 _ _ _ h
    · cases h
theorem m_own {k : Nat} (hk : k < 137) : ∃ own, j_CN own = (mN k).cls ∧ j_chk k own = true := by
  have key : ∀ k, k < 137 → j_CN (j_own.getD k 0) = (mN k).cls := by decide +kernel
  refine ⟨j_own.getD k 0, key k hk, ?_⟩
  exact j_chks k hk

