/-! ===== THE MACHINE FOLLOWS THE LITTLE MACHINE, part 9: every method by every run ===== -/
set_option maxHeartbeats 4000000 in
theorem m_run (l : Launch) : ∀ (d k : Nat) (as : List Value) (σ : Sto) (v : Option Value) (σ' : Sto), k < 137 → j_run d k as σ = some (v, σ') → m_Ct l d k as σ v σ' := by
  intro d
  induction d with
  | zero => intro k as σ v σ' _ h; cases h
  | succ d ih =>
    intro k as σ v σ' hk h
    have hup := m_up_run _ _ _ _ _ h
    have hu1 : s_n σ ≤ s_n σ' := hup.1
    have hu2 : s_l σ ≤ s_l σ' := hup.2
    refine ⟨hu1, hu2, fun rn rx hwf has hbn dC dI cA τ ρ sz => ?_⟩
    unfold j_run at h
    split at h
    next hlen =>
      obtain ⟨own, hown, hchk⟩ := m_own hk
      refine Met.ofW (cc := mB k) (maxL := mL k) (ret := mRt k) (m_mp hk).2.2.2.2.1 rfl ?_
      intro p e s m args below meth c s₁ B hml hv
      obtain ⟨rfl, hsz, hP, hK, hD0, hG⟩ := hv
      have hx := B.exec
      have hb := B.bytes
      have hr := B.returns
      have hts := atoms_spec (ws := m_wm k) B.pre
      have hown' : s.vm.findClass (j_CN own) = some m.cls := by rw [hown]; exact findClass_of_methodNamed B.named
      have hlocks := B.notSynchronized
      have hin : meth.name = (mN k).name := (name_of_methodNamed B.named B.method).1
      subst hsz
      have hD := hD0.self (sz := s.heap.size)
      have hA : ∀ q : Nat, s.heap.size ≤ q → va_A (m_ws cA ρ τ σ) s.heap.size q := fun q h => Or.inr h
      have hSt : m_St p (headSpec (m_wm k) (m_rm (d + 1) (s_n σ' - s_n σ) (s_l σ' - s_l σ))).room s m (as.map (m_v ρ τ)).toArray c dC dI cA τ rn rx (va_A (m_ws cA ρ τ σ) s.heap.size) (mL k) own (mB k) :=
        ⟨hx, hb, hown', fun w hw => hts w (List.mem_cons_of_mem _ hw), hK, hG, hA, hml, Nat.le_add_left 1 d, show 40 ≤ 40 * (d + 1) by omega⟩
      rw [lg_entry_eq]
      have hgo := m_exec (l := l) (below := below) (e := e) (k := k) (d := d) (call := j_run d) (r0 := (v, σ')) (nb := s_n σ) (lb := s_l σ) (ρ0 := ρ) (Q := MQ below (m_Qc dC dI cA τ rn rx ρ σ σ' (va_A (m_ws cA ρ τ σ) s.heap.size) v) (as.map (m_v ρ τ)).toArray s (s_n σ' - s_n σ) (s_l σ' - s_l σ) (va_A (m_ws cA ρ τ σ) s.heap.size)) hSt (fun z => hin.trans z) hbn
        (show s_n σ' ≤ (s_n σ' - s_n σ) + s_n σ by omega) (show s_l σ' ≤ (s_l σ' - s_l σ) + s_l σ by omega) (Nat.le_refl _) (show 40 * d + 40 ≤ 40 * (d + 1) by omega) ih ?_ hchk rfl j_NF 0 _ _ _ h
      · exact hgo.1 ρ s.heap [] 0 0 _ ⟨hP, hD, va_S.rf, hwf⟩ ⟨by omega, fun _ _ => rfl⟩ (by omega) (m_LR_ent has hlen) (fun v h => by cases h)
      · intro pc L st hE ρ' H locs cells slots ls hI hc hs hL hw
        have hc1 : cells + s_n σ = s_n σ' := hc.1
        have hs1 : slots + s_l σ = s_l σ' := hs
        have e1 : cells = s_n σ' - s_n σ := by omega
        have e2 : slots = s_l σ' - s_l σ := by omega
        subst e1
        subst e2
        have hfin : ∀ t : State, t.heap = H → s.WarmedH t.vm → m_B dC dI cA τ rn rx σ' (va_A (m_ws cA ρ τ σ) s.heap.size) ρ' t := fun t ht hW => ⟨by rw [ht]; exact hI.1, va_K.moved hW.alike hK, hI.2.1, hI.2.2.2⟩
        have hagr : m_agr σ ρ ρ' := hc.2
        rcases hE with ⟨hdg, hr0, hv0, rfl⟩ | ⟨hdg, x, hv0, rfl, hr0⟩ | ⟨hdg, x, hv0, rfl, hr0⟩
        · have hv0 : v = none := hv0
          subst hv0
          exact W.vret hx hb (hr.trans hr0) (fun t ht hW => ⟨⟨ρ', rfl, hagr, hfin t ht hW⟩, hI.2.2.1.F ht⟩) hI.2.2.1.2.2 hdg
        · have hv0 : v = some (.int x) := hv0
          subst hv0
          rcases hr0 with hr0 | ⟨hr0, hx0⟩
          · exact W.iret hx hb (hr.trans hr0) (fun t ht hW => ⟨⟨x, ρ', rfl, ⟨rfl, hagr⟩, hfin t ht hW⟩, hI.2.2.1.F ht⟩) hI.2.2.1.2.2 hdg
          · exact W.zret hx hb (hr.trans hr0) (by rcases hx0 with rfl | rfl <;> decide) (fun t ht hW => ⟨⟨x, ρ', rfl, ⟨rfl, hagr⟩, hfin t ht hW⟩, hI.2.2.1.F ht⟩) hI.2.2.1.2.2 hdg
        · have hv0 : v = some (.long x) := hv0
          subst hv0
          exact W.lret hx hb (hr.trans hr0) (fun t ht hW => ⟨⟨x, ρ', rfl, ⟨rfl, hagr⟩, hfin t ht hW⟩, hI.2.2.1.F ht⟩) hI.2.2.1.2.2 hdg
    next => cases h

