/-! ===== THE MACHINE FOLLOWS THE LITTLE MACHINE, part 6: calls ===== -/
def m_rm (d mc ms : Nat) : Room := { frames := d, cells := mc, slots := ms, locals := 40 * d }
def m_wm (k : Nat) : List Jvm.Cond := Jvm.Cond.code (mN k) (mB k) (mL k) (mRt k) :: j_ws
def m_agr (σ : Sto) (ρ u : Nat → Nat) : Prop := ∀ r, r < s_n σ → u r = ρ r
def m_B (dC : Nat → ClassId) (dI : Nat → Nat → Nat) (cA : FieldType → ClassId) (τ rn : Nat → Nat) (rx : Nat → Nat → Int32) (σ : Sto) (A1 : Nat → Prop) (u : Nat → Nat) (t : State) : Prop := va_P (dC, dI) j_cls (m_ws cA u τ σ) t.heap ∧ va_K (dC, dI) j_cls (m_tys cA) t ∧ va_D A1 (m_ws cA u τ σ) ∧ m_Wf rn rx σ
def m_Qc (dC : Nat → ClassId) (dI : Nat → Nat → Nat) (cA : FieldType → ClassId) (τ rn : Nat → Nat) (rx : Nat → Nat → Int32) (ρ : Nat → Nat) (σ σ' : Sto) (A1 : Nat → Prop) (v : Option Value) : Array Value → State → Outcome → State → Prop := match v with
  | none => va_Qv (m_agr σ ρ) (m_B dC dI cA τ rn rx σ' A1) A1
  | some (.int x) => va_Qi (fun r u => r = x ∧ m_agr σ ρ u) (m_B dC dI cA τ rn rx σ' A1) A1
  | some (.long x) => va_Ql (fun r u => r = x ∧ m_agr σ ρ u) (m_B dC dI cA τ rn rx σ' A1) A1
  | _ => fun _ _ _ _ => False
def m_Pb (dC : Nat → ClassId) (dI : Nat → Nat → Nat) (cA : FieldType → ClassId) (τ rn : Nat → Nat) (rx : Nat → Nat → Int32) (ρ : Nat → Nat) (σ : Sto) (sz : Nat) (U : State) : Prop := U.heap.size = sz ∧ va_P (dC, dI) j_cls (m_ws cA ρ τ σ) U.heap ∧ va_K (dC, dI) j_cls (m_tys cA) U ∧ va_D (fun _ => True) (m_ws cA ρ τ σ) ∧ m_G τ rn rx (va_A (m_ws cA ρ τ σ) sz) U U.heap
/-- the contract of a run of the little machine -/
def m_Ct (l : Launch) (d k : Nat) (as : List Value) (σ : Sto) (v : Option Value) (σ' : Sto) : Prop := s_n σ ≤ s_n σ' ∧ s_l σ ≤ s_l σ' ∧ ∀ (rn : Nat → Nat) (rx : Nat → Nat → Int32), m_Wf rn rx σ → (∀ v ∈ as, m_ok (s_n σ) v) → s_n σ' ≤ j_b → ∀ (dC : Nat → ClassId) (dI : Nat → Nat → Nat) (cA : FieldType → ClassId) (τ ρ : Nat → Nat) (sz : Nat),
  Met l (mN k) (m_wm k) (m_rm d (s_n σ' - s_n σ) (s_l σ' - s_l σ)) (va_Pc (as.map (m_v ρ τ)) (m_Pb dC dI cA τ rn rx ρ σ sz)) (m_Qc dC dI cA τ rn rx ρ σ σ' (va_A (m_ws cA ρ τ σ) sz) v) (s_n σ' - s_n σ) (s_l σ' - s_l σ) (va_A (m_ws cA ρ τ σ) sz)
theorem m_blind {dC : Nat → ClassId} {dI : Nat → Nat → Nat} {cA : FieldType → ClassId} {τ rn : Nat → Nat} {rx : Nat → Nat → Int32} {ρ : Nat → Nat} {σ : Sto} {sz : Nat} {as : List Value} : FrameBlind (va_Pc as (m_Pb dC dI cA τ rn rx ρ σ sz)) := fun a U g mk q => ⟨q.1, q.2.1, q.2.2.1, va_K.moved (u := U) (U := U.calling g mk a) (Vm.Alike.refl U.vm) q.2.2.2.1, q.2.2.2.2.1, m_G.same (u := U) (U := U.calling g mk a) rfl q.2.2.2.2.2⟩
theorem m_has {p : Nat} {w : Jvm.Cond} (h : j_has p w = true) : w ∈ j_ws := j_mem p h
theorem m_mp {k : Nat} (hk : k < 137) : Jvm.Cond.code (mN k) (mB k) (mL k) (mRt k) ∈ j_ws ∧ Jvm.Cond.initialized (mN k).cls ∈ j_ws ∧ (mN k).cls ≠ "java/lang/invoke/MethodHandle" ∧ (mN k).cls ≠ "java/lang/invoke/VarHandle" ∧ plainName (mN k).cls = true ∧ mL k ≤ 20 := by
  have h := List.all_eq_true.mp j_mps_ok k (List.mem_range.mpr hk)
  unfold j_mB1 at h
  simp only [Bool.and_eq_true, decide_eq_true_eq] at h
  obtain ⟨⟨⟨⟨h2, h3⟩, h4⟩, h5⟩, h6⟩ := h
  exact ⟨j_cds k hk, m_has h2, h3, h4, h5, h6⟩
theorem m_goodW {k : Nat} (hk : k < 137) : GoodIn j_ws (m_wm k) := fun w hw => by
  have : w ∈ j_ws := (List.mem_cons.mp hw).elim (fun e => e ▸ (m_mp hk).1) id
  exact ⟨this, good_of_word (j_ws_good w this)⟩
theorem m_goodX {k : Nat} (hk : k < 137) {ws : List Jvm.Cond} (h : ∀ w ∈ ws, w ∈ j_ws) : GoodIn j_ws (ws ++ m_wm k) := fun w hw => (List.mem_append.mp hw).elim (fun z => ⟨h w z, good_of_word (j_ws_good w (h w z))⟩) (m_goodW hk w)
section SIMCALL
variable {p : Program} {l : Launch} {e : Env} {R : Room} {s : State} {m : MethodId} {args : Array Value} {below : List Frame} {meth : Method} {c : Code} {Q : State → Prop} {dC : Nat → ClassId} {dI : Nat → Nat → Nat} {cA : FieldType → ClassId} {τ rn : Nat → Nat} {rx : Nat → Nat → Int32} {A : Nat → Prop} {nL nb lb own : Nat} {ρ0 : Nat → Nat} {cc : ByteArray} {pc : Nat} {L : j_L} {st : List Value} {σ : Sto}

theorem m_after (hS : m_St p R s m args c dC dI cA τ rn rx A nL own cc) {d k : Nat} {as st' stk : List Value} {v : Option Value} {σ' : Sto} {ρ : Nat → Nat} {H : Heap} {locs : List Loc} {cells slots : Nat} {ls : Array Slot} (hI : m_Inv dC dI cA τ rn rx A s ρ σ H locs) (hc : cells + nb = s_n σ ∧ ∀ r, r < nb → ρ r = ρ0 r) (hs : slots + lb = s_l σ) (hL : m_LR ρ τ nL (s_n σ) ls L) (hct : m_Ct l d k as σ v σ') (has : ∀ v ∈ as, m_ok (s_n σ) v) (hbn : s_n σ' ≤ j_b) (hst : ∀ v ∈ st', m_ok (s_n σ) v) (hrun : va_Run p l e R s m args below meth c H locs cells slots (s_n σ' - s_n σ) (s_l σ' - s_l σ) (F0 m pc ls stk) (st'.map (m_v ρ τ)) (m_Qc dC dI cA τ rn rx ρ σ σ' (va_A (m_ws cA ρ τ σ) H.size) v (as.map (m_v ρ τ)).toArray) (va_A (m_ws cA ρ τ σ) H.size)) (kk : m_at p l e R s m args below meth c Q dC dI cA τ rn rx A nL nb lb ρ0 (pc + 3) (L) (v.toList ++ st') (σ')) : W p l e R s m args below meth c H locs cells slots Q (F0 m pc ls stk) := by
  have hfree : ∀ q, va_A (m_ws cA ρ τ σ) H.size q → A q := fun q hq => hq.elim (fun ⟨k, e, h⟩ => hI.2.1.2 k (q, e) h) (fun h => hS.2.2.2.2.2.2.1 q (Nat.le_trans hI.2.2.1.1 h))
  obtain ⟨hn1, hn2, hrest⟩ := hct
  have fin : ∀ (u : Nat → Nat) (t : State) (H1 : Heap) (locs1 : List Loc) (z : List Value), (∀ x ∈ z, m_ok 0 x) → t.heap = H1 → s.vm.Alike t.vm → m_agr σ ρ u → m_B dC dI cA τ rn rx σ' (va_A (m_ws cA ρ τ σ) H.size) u t → va_S A s.heap H1 locs1 → v.toList = z → z.map (m_v u τ) = z → W p l e R s m args below meth c H1 locs1 (cells + (s_n σ' - s_n σ)) (slots + (s_l σ' - s_l σ)) Q (F0 m (pc + 3) ls (z ++ st'.map (m_v ρ τ))) := by
    intro u t H1 locs1 z hz ht hvm ha hB hS1 hv hz2
    have h9 := kk u H1 locs1 (cells + (s_n σ' - s_n σ)) (slots + (s_l σ' - s_l σ)) ls ⟨by rw [← ht]; exact hB.1, hB.2.2.1.weaken (fun _ q _ h => hfree q.1 h), hS1, hB.2.2.2⟩ ⟨by omega, fun r hr => (ha r (by omega)).trans (hc.2 r hr)⟩ (by omega) (m_LR_ext hL hn1 hI.2.2.2.2.1 ha) (fun x hx => by
      rcases List.mem_append.mp hx with h | h
      · rw [hv] at h
        exact m_ok_le (Nat.zero_le _) (hz x h)
      · exact m_ok_le hn1 (hst x h))
    rw [hv, List.map_append, hz2, List.map_congr_left (g := m_v ρ τ) (fun x hx => m_v_ext ha hI.2.2.2.2.1 (hst x hx))] at h9
    exact h9
  cases v with
  | none => exact va_callv (a := (as.map (m_v ρ τ)).toArray) hrun hI.2.2.1 (fun q _ h => hfree q h) hfree (fun u t H1 locs1 ht hvm ha hB _ _ hS1 => fin u t H1 locs1 [] (fun _ h => by cases h) ht hvm ha hB hS1 rfl rfl)
  | some x =>
    cases x with
    | int x => exact va_calli (a := (as.map (m_v ρ τ)).toArray) hrun hI.2.2.1 (fun q _ h => hfree q h) hfree (fun r u t H1 locs1 ht hvm ha hB _ _ hS1 => by
        obtain ⟨rfl, ha⟩ := ha
        exact fin u t H1 locs1 [.int r] (fun v h => by rw [List.mem_singleton.mp h]; trivial) ht hvm ha hB hS1 rfl rfl)
    | long x => exact va_calll (a := (as.map (m_v ρ τ)).toArray) hrun hI.2.2.1 (fun q _ h => hfree q h) hfree (fun r u t H1 locs1 ht hvm ha hB _ _ hS1 => by
        obtain ⟨rfl, ha⟩ := ha
        exact fin u t H1 locs1 [.long r] (fun v h => by rw [List.mem_singleton.mp h]; trivial) ht hvm ha hB hS1 rfl rfl)
    | _ =>
      intro T hT X
      obtain ⟨_, _, _, _, _, _, _, _, _, _, h, _⟩ := hrun T hT X
      exact h.elim
theorem m_pre (hS : m_St p R s m args c dC dI cA τ rn rx A nL own cc) {ρ : Nat → Nat} {H : Heap} {locs : List Loc} (hI : m_Inv dC dI cA τ rn rx A s ρ σ H locs) (av : List Value) : ∀ U : State, U.heap = H → s.WarmedH U.vm → va_Pc av (m_Pb dC dI cA τ rn rx ρ σ H.size) av.toArray U := fun U hU hW => by
  have hfree : ∀ q, va_A (m_ws cA ρ τ σ) H.size q → A q := fun q hq => hq.elim (fun ⟨k, e, h⟩ => hI.2.1.2 k (q, e) h) (fun h => hS.2.2.2.2.2.2.1 q (Nat.le_trans hI.2.2.1.1 h))
  refine ⟨rfl, by rw [hU], by rw [hU]; exact hI.1, va_K.moved hW.alike hS.2.2.2.2.1, hI.2.1.weaken (fun _ _ _ _ => trivial), ?_⟩
  rw [hU]
  exact m_G.warm hW (m_G.kept hS.2.2.2.2.2.1 hI.2.2.1.2.1 hfree)
theorem m_call0 (hS : m_St p R s m args c dC dI cA τ rn rx A nL own cc) {d k na idx : Nat} {v : Option Value} {σ' : Sto} {ta st' : List Value} (hk : k < 137) (hnp : j_np (mN k) = some na) (hna : ta.length = na) (hcat : (st'.map fun v => v.category).sum ≤ 8) (hfr : d + 1 ≤ R.frames) (hlo : 40 * d + 40 ≤ R.locals) (hbn : s_n σ' ≤ j_b) (hRc : s_n σ' ≤ R.cells + nb) (hRs : s_l σ' ≤ R.slots + lb) {r ci : Nat} (hci : ci < 8) (hcn : j_CN ci = (mN k).cls) (hr : σ.1 r = some (.inl ci))  (hl : Jvm.Cond.methodLink (j_CN own) idx (mN k) ∈ j_ws) (hl2 : Jvm.Cond.instanceMethod (mN k) ∈ j_ws) (hl3 : Jvm.Cond.selects (mN k).cls (mN k) (mN k) ∈ j_ws) (hct : m_Ct l d k (.ref r :: ta.reverse) σ v σ') (hdg : decode cc pc = .ok (.invokevirtual idx, 3)) (kk : m_at p l e R s m args below meth c Q dC dI cA τ rn rx A nL nb lb ρ0 (pc + 3) (L) (v.toList ++ st') (σ')) : m_at p l e R s m args below meth c Q dC dI cA τ rn rx A nL nb lb ρ0 (pc) (L) (ta ++ .ref r :: st') (σ) := by
  intro ρ H locs cells slots ls hI hc hs hL hw
  have hst : ∀ v ∈ st', m_ok (s_n σ) v := fun v hv => hw v (List.mem_append_right _ (List.mem_cons_of_mem _ hv))
  have has : ∀ v ∈ (.ref r :: ta.reverse), m_ok (s_n σ) v := fun v hv => (List.mem_cons.mp hv).elim (fun e => by rw [e]; exact hw _ (List.mem_append_right _ List.mem_cons_self)) (fun h => hw v (List.mem_append_left _ (List.mem_reverse.mp h)))
  have hrn := m_inr' hI.2.2.2 hr
  have hrb : r < j_b := Nat.lt_of_lt_of_le hrn hI.2.2.2.2.1
  have e1 : m_v ρ τ (.ref r) = .ref (ρ r) := by show Value.ref (m_ad ρ τ r) = _; rw [m_ad_lt hrb]
  have hcm : ((st'.map (m_v ρ τ)).map fun v => v.category) = st'.map fun v => v.category := by rw [List.map_map]; exact List.map_congr_left fun v _ => m_v_cat ρ τ v
  obtain ⟨g1, g2, g3, g4, g5, g6⟩ := m_mp hk
  have hdd : (mN k).cls ≠ "java/lang/invoke/MethodHandle" ∧ (mN k).cls ≠ "java/lang/invoke/VarHandle" ∧ (parseMethodDescriptor (mN k).desc).map (fun d => d.parameters.length) = some na := ⟨g3, g4, hnp⟩
  have hRR : (m_rm d (s_n σ' - s_n σ) (s_l σ' - s_l σ)).frames + 1 ≤ R.frames ∧ 8 + (mL k + 11) + (m_rm d (s_n σ' - s_n σ) (s_l σ' - s_l σ)).locals ≤ R.locals := ⟨hfr, by show 8 + (mL k + 11) + 40 * d ≤ _; omega⟩
  have hlen : ((ta.reverse.map (m_v ρ τ)).length) = na := by simp [hna]
  have hrm : 2 * (F0 m pc ls ((ta ++ .ref r :: st').map (m_v ρ τ))).monitorRoom + ((st'.map (m_v ρ τ)).map fun v => v.category).sum ≤ 8 := lv_room (by rw [hcm]; exact hcat)
  have hff : cells + (s_n σ' - s_n σ) ≤ R.cells ∧ slots + (s_l σ' - s_l σ) ≤ R.slots := by have := hct.1; have := hct.2.1; omega
  have hMet := hct.2.2 rn rx hI.2.2.2 has hbn dC dI cA τ ρ H.size
  have hmapst : (ta ++ .ref r :: st').map (m_v ρ τ) = (ta.reverse.map (m_v ρ τ)).reverse ++ .ref (ρ r) :: st'.map (m_v ρ τ) := by
    rw [List.map_append, List.map_reverse, List.reverse_reverse]
    rw [List.map_cons, e1]
  have e3 : (.ref r :: ta.reverse).map (m_v ρ τ) = .ref (ρ r) :: ta.reverse.map (m_v ρ τ) := by rw [List.map_cons, e1]
  have hpre := m_pre hS hI ((.ref r :: ta.reverse).map (m_v ρ τ))
  have hrec := va_recv hS.2.2.2.2.1 hI.1 (j_cls_get hci) ((m_ws_get hrn).trans (by rw [m_E_obj hr]))
  have hgd : GoodIn j_ws (wsV (j_CN own) idx (mN k).cls (mN k) (m_wm k)) := m_goodX hk (fun w hw => by
    rcases List.mem_cons.mp hw with rfl | hw
    · exact hl
    rcases List.mem_cons.mp hw with rfl | hw
    · exact hl2
    rcases List.mem_cons.mp hw with rfl | hw
    · exact hl3
    · rw [List.mem_singleton.mp hw]; exact g2)
  refine m_after hS hI hc hs hL hct has hbn hst ?_ kk
  rw [e3] at hMet hpre ⊢
  exact va_runV (C := (mN k).cls) (As := ta.reverse.map (m_v ρ τ)) (rest := st'.map (m_v ρ τ)) ⟨hS.1, hS.2.1, hS.2.2.2.2.2.2.2.1, hS.2.2.1, hS.2.2.2.1⟩ hMet (cwV na hS.2.2.2.1 hgd rfl rfl rfl ⟨rfl, hdd⟩ hRR) ⟨m_blind, by rw [← hcn]; exact hrec, hpre⟩ rfl hlen (m_LR_sz hL) hmapst hrm hdg hff
theorem m_call2 (hS : m_St p R s m args c dC dI cA τ rn rx A nL own cc) {d k na idx : Nat} {v : Option Value} {σ' : Sto} {ta st' : List Value} (hk : k < 137) (hnp : j_np (mN k) = some na) (hna : ta.length = na) (hcat : (st'.map fun v => v.category).sum ≤ 8) (hfr : d + 1 ≤ R.frames) (hlo : 40 * d + 40 ≤ R.locals) (hbn : s_n σ' ≤ j_b) (hRc : s_n σ' ≤ R.cells + nb) (hRs : s_l σ' ≤ R.slots + lb) {r : Nat}  (hl : Jvm.Cond.methodLink (j_CN own) idx (mN k) ∈ j_ws) (hl2 : Jvm.Cond.instanceMethod (mN k) ∈ j_ws) (hnm : (mN k).name = "<init>") (hret : mRt k = none) (hct : m_Ct l d k (.ref r :: ta.reverse) σ v σ') (hdg : decode cc pc = .ok (.invokespecial idx, 3)) (kk : m_at p l e R s m args below meth c Q dC dI cA τ rn rx A nL nb lb ρ0 (pc + 3) (L) (v.toList ++ st') (σ')) : m_at p l e R s m args below meth c Q dC dI cA τ rn rx A nL nb lb ρ0 (pc) (L) (ta ++ .ref r :: st') (σ) := by
  intro ρ H locs cells slots ls hI hc hs hL hw
  have hst : ∀ v ∈ st', m_ok (s_n σ) v := fun v hv => hw v (List.mem_append_right _ (List.mem_cons_of_mem _ hv))
  have has : ∀ v ∈ (.ref r :: ta.reverse), m_ok (s_n σ) v := fun v hv => (List.mem_cons.mp hv).elim (fun e => by rw [e]; exact hw _ (List.mem_append_right _ List.mem_cons_self)) (fun h => hw v (List.mem_append_left _ (List.mem_reverse.mp h)))
  have hcm : ((st'.map (m_v ρ τ)).map fun v => v.category) = st'.map fun v => v.category := by rw [List.map_map]; exact List.map_congr_left fun v _ => m_v_cat ρ τ v
  obtain ⟨g1, g2, g3, g4, g5, g6⟩ := m_mp hk
  have hdd : (mN k).cls ≠ "java/lang/invoke/MethodHandle" ∧ (mN k).cls ≠ "java/lang/invoke/VarHandle" ∧ (parseMethodDescriptor (mN k).desc).map (fun d => d.parameters.length) = some na := ⟨g3, g4, hnp⟩
  have hRR : (m_rm d (s_n σ' - s_n σ) (s_l σ' - s_l σ)).frames + 1 ≤ R.frames ∧ 8 + (mL k + 11) + (m_rm d (s_n σ' - s_n σ) (s_l σ' - s_l σ)).locals ≤ R.locals := ⟨hfr, by show 8 + (mL k + 11) + 40 * d ≤ _; omega⟩
  have hlen : ((ta.reverse.map (m_v ρ τ)).length) = na := by simp [hna]
  have hrm : 2 * (F0 m pc ls ((ta ++ .ref r :: st').map (m_v ρ τ))).monitorRoom + ((st'.map (m_v ρ τ)).map fun v => v.category).sum ≤ 8 := lv_room (by rw [hcm]; exact hcat)
  have hff : cells + (s_n σ' - s_n σ) ≤ R.cells ∧ slots + (s_l σ' - s_l σ) ≤ R.slots := by have := hct.1; have := hct.2.1; omega
  have hMet := hct.2.2 rn rx hI.2.2.2 has hbn dC dI cA τ ρ H.size
  have hmapst : (ta ++ .ref r :: st').map (m_v ρ τ) = (ta.reverse.map (m_v ρ τ)).reverse ++ .ref (m_ad ρ τ r) :: st'.map (m_v ρ τ) := by
    rw [List.map_append, List.map_reverse, List.reverse_reverse]
    try rfl
  have e3 : (.ref r :: ta.reverse).map (m_v ρ τ) = .ref (m_ad ρ τ r) :: ta.reverse.map (m_v ρ τ) := rfl
  have hpre := m_pre hS hI ((.ref r :: ta.reverse).map (m_v ρ τ))
  have hwm : m_wm k = Jvm.Cond.code (mN k) (mB k) (mL k) none :: j_ws := by unfold m_wm; rw [hret]
  refine m_after hS hI hc hs hL hct has hbn hst ?_ kk
  rw [e3] at hMet hpre ⊢
  exact va_runI (As := ta.reverse.map (m_v ρ τ)) (rest := st'.map (m_v ρ τ)) ⟨hS.1, hS.2.1, hS.2.2.2.2.2.2.2.1, hS.2.2.1, hS.2.2.2.1⟩ hMet (cwI na hS.2.2.2.1 (m_goodW hk) hwm rfl rfl (hS.2.2.2.1 _ g2) (hS.2.2.2.1 _ hl) (hS.2.2.2.1 _ hl2) hnm hdd hRR) ⟨m_blind, hpre⟩ rfl hlen (m_LR_sz hL) hmapst hrm hdg hff
theorem m_call3 (hS : m_St p R s m args c dC dI cA τ rn rx A nL own cc) {d k na idx : Nat} {v : Option Value} {σ' : Sto} {ta st' : List Value} (hk : k < 137) (hnp : j_np (mN k) = some na) (hna : ta.length = na) (hcat : (st'.map fun v => v.category).sum ≤ 8) (hfr : d + 1 ≤ R.frames) (hlo : 40 * d + 40 ≤ R.locals) (hbn : s_n σ' ≤ j_b) (hRc : s_n σ' ≤ R.cells + nb) (hRs : s_l σ' ≤ R.slots + lb) {r : Nat}  (hl : Jvm.Cond.methodLinkNest (j_CN own) idx (mN k) "LastStirred" ∈ lw_tbl) (hl2 : Jvm.Cond.instanceMethod (mN k) ∈ j_ws) (hnm : (mN k).name = "<init>") (hret : mRt k = none) (hct : m_Ct l d k (.ref r :: ta.reverse) σ v σ') (hdg : decode cc pc = .ok (.invokespecial idx, 3)) (kk : m_at p l e R s m args below meth c Q dC dI cA τ rn rx A nL nb lb ρ0 (pc + 3) (L) (v.toList ++ st') (σ')) : m_at p l e R s m args below meth c Q dC dI cA τ rn rx A nL nb lb ρ0 (pc) (L) (ta ++ .ref r :: st') (σ) := by
  intro ρ H locs cells slots ls hI hc hs hL hw
  have hst : ∀ v ∈ st', m_ok (s_n σ) v := fun v hv => hw v (List.mem_append_right _ (List.mem_cons_of_mem _ hv))
  have has : ∀ v ∈ (.ref r :: ta.reverse), m_ok (s_n σ) v := fun v hv => (List.mem_cons.mp hv).elim (fun e => by rw [e]; exact hw _ (List.mem_append_right _ List.mem_cons_self)) (fun h => hw v (List.mem_append_left _ (List.mem_reverse.mp h)))
  have hcm : ((st'.map (m_v ρ τ)).map fun v => v.category) = st'.map fun v => v.category := by rw [List.map_map]; exact List.map_congr_left fun v _ => m_v_cat ρ τ v
  obtain ⟨g1, g2, g3, g4, g5, g6⟩ := m_mp hk
  have hdd : (mN k).cls ≠ "java/lang/invoke/MethodHandle" ∧ (mN k).cls ≠ "java/lang/invoke/VarHandle" ∧ (parseMethodDescriptor (mN k).desc).map (fun d => d.parameters.length) = some na := ⟨g3, g4, hnp⟩
  have hRR : (m_rm d (s_n σ' - s_n σ) (s_l σ' - s_l σ)).frames + 1 ≤ R.frames ∧ 8 + (mL k + 11) + (m_rm d (s_n σ' - s_n σ) (s_l σ' - s_l σ)).locals ≤ R.locals := ⟨hfr, by show 8 + (mL k + 11) + 40 * d ≤ _; omega⟩
  have hlen : ((ta.reverse.map (m_v ρ τ)).length) = na := by simp [hna]
  have hrm : 2 * (F0 m pc ls ((ta ++ .ref r :: st').map (m_v ρ τ))).monitorRoom + ((st'.map (m_v ρ τ)).map fun v => v.category).sum ≤ 8 := lv_room (by rw [hcm]; exact hcat)
  have hff : cells + (s_n σ' - s_n σ) ≤ R.cells ∧ slots + (s_l σ' - s_l σ) ≤ R.slots := by have := hct.1; have := hct.2.1; omega
  have hMet := hct.2.2 rn rx hI.2.2.2 has hbn dC dI cA τ ρ H.size
  have hmapst : (ta ++ .ref r :: st').map (m_v ρ τ) = (ta.reverse.map (m_v ρ τ)).reverse ++ .ref (m_ad ρ τ r) :: st'.map (m_v ρ τ) := by
    rw [List.map_append, List.map_reverse, List.reverse_reverse]
    try rfl
  have e3 : (.ref r :: ta.reverse).map (m_v ρ τ) = .ref (m_ad ρ τ r) :: ta.reverse.map (m_v ρ τ) := rfl
  have hpre := m_pre hS hI ((.ref r :: ta.reverse).map (m_v ρ τ))
  have hwm : m_wm k = Jvm.Cond.code (mN k) (mB k) (mL k) none :: j_ws := by unfold m_wm; rw [hret]
  refine m_after hS hI hc hs hL hct has hbn hst ?_ kk
  rw [e3] at hMet hpre ⊢
  exact va_runIN (As := ta.reverse.map (m_v ρ τ)) (rest := st'.map (m_v ρ τ)) ⟨hS.1, hS.2.1, hS.2.2.2.2.2.2.2.1, hS.2.2.1, hS.2.2.2.1⟩ hMet ⟨va_cnB na hS.2.2.2.1 (m_goodW hk) hwm rfl rfl (hS.2.2.2.2.2.1.1.1 _ hl rfl) (hS.2.2.2.1 _ g2) hdd hRR, hnm, hS.2.2.2.1 _ hl2⟩ ⟨m_blind, hpre⟩ rfl hlen (m_LR_sz hL) hmapst hrm hdg hff
theorem m_call1 (hS : m_St p R s m args c dC dI cA τ rn rx A nL own cc) {d k na idx : Nat} {v : Option Value} {σ' : Sto} {ta st' : List Value} (hk : k < 137) (hnp : j_np (mN k) = some na) (hna : ta.length = na) (hcat : (st'.map fun v => v.category).sum ≤ 8) (hfr : d + 1 ≤ R.frames) (hlo : 40 * d + 40 ≤ R.locals) (hbn : s_n σ' ≤ j_b) (hRc : s_n σ' ≤ R.cells + nb) (hRs : s_l σ' ≤ R.slots + lb)  (hl : Jvm.Cond.methodLink (j_CN own) idx (mN k) ∈ j_ws) (hl2 : Jvm.Cond.static (mN k) ∈ j_ws) (hct : m_Ct l d k (ta.reverse) σ v σ') (hdg : decode cc pc = .ok (.invokestatic idx, 3)) (kk : m_at p l e R s m args below meth c Q dC dI cA τ rn rx A nL nb lb ρ0 (pc + 3) (L) (v.toList ++ st') (σ')) : m_at p l e R s m args below meth c Q dC dI cA τ rn rx A nL nb lb ρ0 (pc) (L) (ta ++ st') (σ) := by
  intro ρ H locs cells slots ls hI hc hs hL hw
  have hst : ∀ v ∈ st', m_ok (s_n σ) v := fun v hv => hw v (List.mem_append_right _ hv)
  have has : ∀ v ∈ (ta.reverse), m_ok (s_n σ) v := fun v hv => hw v (List.mem_append_left _ (List.mem_reverse.mp hv))
  have hcm : ((st'.map (m_v ρ τ)).map fun v => v.category) = st'.map fun v => v.category := by rw [List.map_map]; exact List.map_congr_left fun v _ => m_v_cat ρ τ v
  obtain ⟨g1, g2, g3, g4, g5, g6⟩ := m_mp hk
  have hdd : (mN k).cls ≠ "java/lang/invoke/MethodHandle" ∧ (mN k).cls ≠ "java/lang/invoke/VarHandle" ∧ (parseMethodDescriptor (mN k).desc).map (fun d => d.parameters.length) = some na := ⟨g3, g4, hnp⟩
  have hRR : (m_rm d (s_n σ' - s_n σ) (s_l σ' - s_l σ)).frames + 1 ≤ R.frames ∧ 8 + (mL k + 11) + (m_rm d (s_n σ' - s_n σ) (s_l σ' - s_l σ)).locals ≤ R.locals := ⟨hfr, by show 8 + (mL k + 11) + 40 * d ≤ _; omega⟩
  have hlen : ((ta.reverse.map (m_v ρ τ)).length) = na := by simp [hna]
  have hrm : 2 * (F0 m pc ls ((ta ++ st').map (m_v ρ τ))).monitorRoom + ((st'.map (m_v ρ τ)).map fun v => v.category).sum ≤ 8 := lv_room (by rw [hcm]; exact hcat)
  have hff : cells + (s_n σ' - s_n σ) ≤ R.cells ∧ slots + (s_l σ' - s_l σ) ≤ R.slots := by have := hct.1; have := hct.2.1; omega
  have hMet := hct.2.2 rn rx hI.2.2.2 has hbn dC dI cA τ ρ H.size
  have hmapst : (ta ++ st').map (m_v ρ τ) = (ta.reverse.map (m_v ρ τ)).reverse ++ st'.map (m_v ρ τ) := by
    rw [List.map_append, List.map_reverse, List.reverse_reverse]
  have hpre := m_pre hS hI ((ta.reverse).map (m_v ρ τ))
  have hgd : GoodIn j_ws (va_wsS (j_CN own) idx (mN k) (m_wm k)) := m_goodX hk (fun w hw => by
    rcases List.mem_cons.mp hw with rfl | hw
    · exact hl
    rcases List.mem_cons.mp hw with rfl | hw
    · exact hl2
    · rw [List.mem_singleton.mp hw]; exact g2)
  refine m_after hS hI hc hs hL hct has hbn hst ?_ kk
  exact va_runS (As := ta.reverse.map (m_v ρ τ)) (rest := st'.map (m_v ρ τ)) ⟨hS.1, hS.2.1, hS.2.2.2.2.2.2.2.1, hS.2.2.1, hS.2.2.2.1⟩ hMet (va_cwS na hS.2.2.2.1 hgd rfl rfl rfl hdd hRR) ⟨m_blind, hpre⟩ rfl hlen (m_LR_sz hL) hmapst hrm hdg hff
theorem m_call4 (hS : m_St p R s m args c dC dI cA τ rn rx A nL own cc) {d k na idx : Nat} {v : Option Value} {σ' : Sto} {ta st' : List Value} (hk : k < 137) (hnp : j_np (mN k) = some na) (hna : ta.length = na) (hcat : (st'.map fun v => v.category).sum ≤ 8) (hfr : d + 1 ≤ R.frames) (hlo : 40 * d + 40 ≤ R.locals) (hbn : s_n σ' ≤ j_b) (hRc : s_n σ' ≤ R.cells + nb) (hRs : s_l σ' ≤ R.slots + lb)  (hl : Jvm.Cond.methodLinkNest (j_CN own) idx (mN k) "LastStirred" ∈ lw_tbl) (hl2 : Jvm.Cond.static (mN k) ∈ j_ws) (hct : m_Ct l d k (ta.reverse) σ v σ') (hdg : decode cc pc = .ok (.invokestatic idx, 3)) (kk : m_at p l e R s m args below meth c Q dC dI cA τ rn rx A nL nb lb ρ0 (pc + 3) (L) (v.toList ++ st') (σ')) : m_at p l e R s m args below meth c Q dC dI cA τ rn rx A nL nb lb ρ0 (pc) (L) (ta ++ st') (σ) := by
  intro ρ H locs cells slots ls hI hc hs hL hw
  have hst : ∀ v ∈ st', m_ok (s_n σ) v := fun v hv => hw v (List.mem_append_right _ hv)
  have has : ∀ v ∈ (ta.reverse), m_ok (s_n σ) v := fun v hv => hw v (List.mem_append_left _ (List.mem_reverse.mp hv))
  have hcm : ((st'.map (m_v ρ τ)).map fun v => v.category) = st'.map fun v => v.category := by rw [List.map_map]; exact List.map_congr_left fun v _ => m_v_cat ρ τ v
  obtain ⟨g1, g2, g3, g4, g5, g6⟩ := m_mp hk
  have hdd : (mN k).cls ≠ "java/lang/invoke/MethodHandle" ∧ (mN k).cls ≠ "java/lang/invoke/VarHandle" ∧ (parseMethodDescriptor (mN k).desc).map (fun d => d.parameters.length) = some na := ⟨g3, g4, hnp⟩
  have hRR : (m_rm d (s_n σ' - s_n σ) (s_l σ' - s_l σ)).frames + 1 ≤ R.frames ∧ 8 + (mL k + 11) + (m_rm d (s_n σ' - s_n σ) (s_l σ' - s_l σ)).locals ≤ R.locals := ⟨hfr, by show 8 + (mL k + 11) + 40 * d ≤ _; omega⟩
  have hlen : ((ta.reverse.map (m_v ρ τ)).length) = na := by simp [hna]
  have hrm : 2 * (F0 m pc ls ((ta ++ st').map (m_v ρ τ))).monitorRoom + ((st'.map (m_v ρ τ)).map fun v => v.category).sum ≤ 8 := lv_room (by rw [hcm]; exact hcat)
  have hff : cells + (s_n σ' - s_n σ) ≤ R.cells ∧ slots + (s_l σ' - s_l σ) ≤ R.slots := by have := hct.1; have := hct.2.1; omega
  have hMet := hct.2.2 rn rx hI.2.2.2 has hbn dC dI cA τ ρ H.size
  have hmapst : (ta ++ st').map (m_v ρ τ) = (ta.reverse.map (m_v ρ τ)).reverse ++ st'.map (m_v ρ τ) := by
    rw [List.map_append, List.map_reverse, List.reverse_reverse]
  have hpre := m_pre hS hI ((ta.reverse).map (m_v ρ τ))
  refine m_after hS hI hc hs hL hct has hbn hst ?_ kk
  exact va_runSN (As := ta.reverse.map (m_v ρ τ)) (rest := st'.map (m_v ρ τ)) ⟨hS.1, hS.2.1, hS.2.2.2.2.2.2.2.1, hS.2.2.1, hS.2.2.2.1⟩ hMet ⟨va_cnB na hS.2.2.2.1 (m_goodW hk) rfl rfl rfl (hS.2.2.2.2.2.1.1.1 _ hl rfl) (hS.2.2.2.1 _ g2) hdd hRR, hS.2.2.2.1 _ hl2, trivial⟩ ⟨m_blind, hpre⟩ rfl hlen (m_LR_sz hL) hmapst hrm hdg hff
end SIMCALL
