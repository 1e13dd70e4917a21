/-! ===== THE MACHINE FOLLOWS THE LITTLE MACHINE, part 3: arrays, new cells, switches ===== -/
section SIMOPS3
variable {p : Program} {l : Launch} {e : Env} {R : Room} {s : State} {m : MethodId} {args : Array Value} {below : List Frame} {meth : Method} {c : Code} {Q : State → Prop} {dC : Nat → ClassId} {dI : Nat → Nat → Nat} {cA : FieldType → ClassId} {τ rn : Nat → Nat} {rx : Nat → Nat → Int32} {A : Nat → Prop} {nL nb lb own : Nat} {ρ0 : Nat → Nat} {cc : ByteArray} {pc : Nat} {L : j_L} {st : List Value} {σ : Sto}

theorem m_iald (hS : m_St p R s m args c dC dI cA τ rn rx A nL own cc) {r n : Nat} {i : Int32} (hr : σ.1 r = some (.inr (.int, n))) (hi : j_in i n) (hdg : decode cc pc = .ok (.iaload, 1)) (kk : m_at p l e R s m args below meth c Q dC dI cA τ rn rx A nL nb lb ρ0 (pc + 1) (L) (.int (σ.2.2.1 r i.toNatClampNeg) :: st) (σ)) : m_at p l e R s m args below meth c Q dC dI cA τ rn rx A nL nb lb ρ0 (pc) (L) (.int i :: .ref r :: st) (σ) := by
  intro ρ H locs cells slots ls hI hc hs hL hw
  have h9 := kk ρ H locs cells slots ls hI hc hs hL (m_wi (m_wt (m_wt hw)))
  rcases m_inr2 hI.2.2.2 hr with hrn | ⟨k, hk, rfl⟩
  · have hrb : r < j_b := Nat.lt_of_lt_of_le hrn hI.2.2.2.2.1
    have e1 : m_v ρ τ (.ref r) = .ref (ρ r) := by show Value.ref (m_ad ρ τ r) = _; rw [m_ad_lt hrb]
    rw [List.map_cons, List.map_cons, e1]
    exact va_iald hS.1 hS.2.1 hS.2.2.2.2.1 hI.1 r 0 ((m_ws_get hrn).trans (by rw [m_E_arr hr]; rfl)) rfl (m_vin hi) hdg h9
  · obtain ⟨cell, g1, g2, g3, g4, -, g6, g7⟩ := hS.2.2.2.2.2.1.2 k hk
    obtain ⟨w1, w2⟩ := hI.2.2.2.2.2.1 k hk
    have e2 : rn k = n := by rw [w1] at hr; cases hr; rfl
    have g8 : H[τ k]? = some cell := (hI.2.2.1.2.1 (τ k) (Array.getElem?_eq_some_iff.mp g1).1 g7).trans g1
    have e1 : m_v ρ τ (.ref (j_b + k)) = .ref (τ k) := by show Value.ref (m_ad ρ τ _) = _; rw [m_ad_ro]
    rw [List.map_cons, List.map_cons, e1]
    rw [w2] at h9
    rw [e2] at g4 g6
    exact W.iald hS.1 hS.2.1 g8 g2 g3 (fun z => z.elim hi.1 (fun z => absurd hi.2 (by omega))) (g6 _ hi.2) rfl rfl hdg h9
theorem m_lald (hS : m_St p R s m args c dC dI cA τ rn rx A nL own cc) {r n : Nat} {i : Int32} (hr : σ.1 r = some (.inr (.long, n))) (hi : j_in i n) (hdg : decode cc pc = .ok (.laload, 1)) (kk : m_at p l e R s m args below meth c Q dC dI cA τ rn rx A nL nb lb ρ0 (pc + 1) (L) (.long (σ.2.2.2.1 r i.toNatClampNeg) :: st) (σ)) : m_at p l e R s m args below meth c Q dC dI cA τ rn rx A nL nb lb ρ0 (pc) (L) (.int i :: .ref r :: st) (σ) := by
  intro ρ H locs cells slots ls hI hc hs hL hw
  have h9 := kk ρ H locs cells slots ls hI hc hs hL (m_wj (m_wt (m_wt hw)))
  rcases m_inr2 hI.2.2.2 hr with hrn | ⟨k, hk, rfl⟩
  · have hrb : r < j_b := Nat.lt_of_lt_of_le hrn hI.2.2.2.2.1
    have e1 : m_v ρ τ (.ref r) = .ref (ρ r) := by show Value.ref (m_ad ρ τ r) = _; rw [m_ad_lt hrb]
    rw [List.map_cons, List.map_cons, e1]
    exact va_lald hS.1 hS.2.1 hS.2.2.2.2.1 hI.1 r 3 ((m_ws_get hrn).trans (by rw [m_E_arr hr]; rfl)) rfl (m_vin hi) hdg h9
  · rw [(hI.2.2.2.2.2.1 k hk).1] at hr
    cases hr
theorem m_aald (hS : m_St p R s m args c dC dI cA τ rn rx A nL own cc) {r n q t0 : Nat} {ty : FieldType} {i : Int32} (hr : σ.1 r = some (.inr (ty, n))) (ht : (m_tys cA)[t0]? = some (cA ty, ty)) (hty : (∃ C, ty = .object C) ∨ ∃ t, ty = .array t) (hi : j_in i n) (hq : σ.2.1 r i.toNatClampNeg = some q) (hdg : decode cc pc = .ok (.aaload, 1)) (kk : m_at p l e R s m args below meth c Q dC dI cA τ rn rx A nL nb lb ρ0 (pc + 1) (L) (.ref q :: st) (σ)) : m_at p l e R s m args below meth c Q dC dI cA τ rn rx A nL nb lb ρ0 (pc) (L) (.int i :: .ref r :: st) (σ) := by
  intro ρ H locs cells slots ls hI hc hs hL hw
  rcases m_inr2 hI.2.2.2 hr with hrn | ⟨k, hk, rfl⟩
  · have hrb : r < j_b := Nat.lt_of_lt_of_le hrn hI.2.2.2.2.1
    have e1 : m_v ρ τ (.ref r) = .ref (ρ r) := by show Value.ref (m_ad ρ τ r) = _; rw [m_ad_lt hrb]
    have h9 := kk ρ H locs cells slots ls hI hc hs hL (m_wr (hI.2.2.2.2.2.2 r _ q hrn hq) (m_wt (m_wt hw)))
    rw [List.map_cons, List.map_cons, e1]
    have hE : (m_ws cA ρ τ σ)[r]? = some (ρ r, .inl (cA ty, n, .inr (.inr (.inr (.inr fun k => m_rf ρ τ (σ.2.1 r k)))))) := (m_ws_get hrn).trans (by rw [m_E_arr hr]; rcases hty with ⟨C, rfl⟩ | ⟨t, rfl⟩ <;> rfl)
    exact W.aald (v := m_v ρ τ (.ref q)) (ty := ty) hS.1 hS.2.1 (hI.1 r _ hE) ((hS.2.2.2.2.1.2 t0 _ ht).1 n (fun j => va_rf (m_rf ρ τ (σ.2.1 r j)))) (by rcases hty with ⟨C, rfl⟩ | ⟨t, rfl⟩ <;> rfl) (fun q => by cases q) (by show ¬ (i < 0 ∨ (arrV _ _ _).slots.size ≤ _); rw [arrV_size]; exact m_vin hi) (by show (arrV _ _ _).slots[_]? = _; rw [arrV_read _ _ hi.2]; show some (va_rf (m_rf ρ τ (σ.2.1 r i.toNatClampNeg))) = _; rw [hq]; rfl) rfl rfl hdg h9
  · rw [(hI.2.2.2.2.2.1 k hk).1] at hr
    cases hr
    rcases hty with ⟨C, h⟩ | ⟨t, h⟩ <;> cases h
theorem m_iast (hS : m_St p R s m args c dC dI cA τ rn rx A nL own cc) {r n : Nat} {i : Int32} {x : Int32} (hr : σ.1 r = some (.inr (.int, n))) (hrb : r < j_b) (hi : j_in i n) (hdg : decode cc pc = .ok (.iastore, 1)) (kk : m_at p l e R s m args below meth c Q dC dI cA τ rn rx A nL nb lb ρ0 (pc + 1) (L) (st) (s_uI σ r i.toNatClampNeg x)) : m_at p l e R s m args below meth c Q dC dI cA τ rn rx A nL nb lb ρ0 (pc) (L) (.int x :: .int i :: .ref r :: st) (σ) := by
  intro ρ H locs cells slots ls hI hc hs hL hw
  have hrn := m_inr hI.2.2.2 hr hrb
  have e1 : m_v ρ τ (.ref r) = .ref (ρ r) := by show Value.ref (m_ad ρ τ r) = _; rw [m_ad_lt hrb]
  have hoo : ∀ q, q ≠ r → m_E cA ρ τ (s_uI σ r i.toNatClampNeg x) q = m_E cA ρ τ σ q := fun q hq => m_E_ext rfl (fun _ => rfl) (u2_row hq) rfl
  have hE : m_E cA ρ τ (s_uI σ r i.toNatClampNeg x) r = .inl (cA .int, n, .inl (upd (σ.2.2.1 r) i.toNatClampNeg x)) := by
    rw [m_E_arr (σ := s_uI σ r i.toNatClampNeg x) hr]
    show Sum.inl (cA .int, n, _) = _
    congr 3
    exact congrArg Sum.inl (u2_self _ _ _ _)
  have hset := m_ws_set (cA := cA) (ρ := ρ) (τ := τ) (σ := σ) (σ' := s_uI σ r i.toNatClampNeg x) (r := r) rfl hoo hE.symm
  rw [List.map_cons, List.map_cons, List.map_cons, e1]
  refine va_iast hS.1 hS.2.1 hS.2.2.2.2.1 hI.1 hI.2.1 hI.2.2.1 r 0 ((m_ws_get hrn).trans (by rw [m_E_arr hr]; rfl)) rfl (m_vin hi) hdg (fun H1 locs1 g1 g2 g3 => ?_)
  rw [hset] at g1 g2
  exact kk ρ H1 locs1 cells slots ls ⟨g1, g2, g3, m_Wf_uI hrb hI.2.2.2⟩ hc hs hL (m_wt (m_wt (m_wt hw)))
theorem m_last (hS : m_St p R s m args c dC dI cA τ rn rx A nL own cc) {r n : Nat} {i : Int32} {x : Int64} (hr : σ.1 r = some (.inr (.long, n))) (hrb : r < j_b) (hi : j_in i n) (hdg : decode cc pc = .ok (.lastore, 1)) (kk : m_at p l e R s m args below meth c Q dC dI cA τ rn rx A nL nb lb ρ0 (pc + 1) (L) (st) (s_uJ σ r i.toNatClampNeg x)) : m_at p l e R s m args below meth c Q dC dI cA τ rn rx A nL nb lb ρ0 (pc) (L) (.long x :: .int i :: .ref r :: st) (σ) := by
  intro ρ H locs cells slots ls hI hc hs hL hw
  have hrn := m_inr hI.2.2.2 hr hrb
  have e1 : m_v ρ τ (.ref r) = .ref (ρ r) := by show Value.ref (m_ad ρ τ r) = _; rw [m_ad_lt hrb]
  have hoo : ∀ q, q ≠ r → m_E cA ρ τ (s_uJ σ r i.toNatClampNeg x) q = m_E cA ρ τ σ q := fun q hq => m_E_ext rfl (fun _ => rfl) rfl (u2_row hq)
  have hE : m_E cA ρ τ (s_uJ σ r i.toNatClampNeg x) r = .inl (cA .long, n, .inr (.inl (vp_updL (σ.2.2.2.1 r) i.toNatClampNeg x))) := by
    rw [m_E_arr (σ := s_uJ σ r i.toNatClampNeg x) hr]
    show Sum.inl (cA .long, n, _) = _
    congr 3
    exact congrArg (fun z => Sum.inr (Sum.inl z)) (u2_self _ _ _ _)
  have hset := m_ws_set (cA := cA) (ρ := ρ) (τ := τ) (σ := σ) (σ' := s_uJ σ r i.toNatClampNeg x) (r := r) rfl hoo hE.symm
  rw [List.map_cons, List.map_cons, List.map_cons, e1]
  refine va_last hS.1 hS.2.1 hS.2.2.2.2.1 hI.1 hI.2.1 hI.2.2.1 r 3 ((m_ws_get hrn).trans (by rw [m_E_arr hr]; rfl)) rfl (m_vin hi) hdg (fun H1 locs1 g1 g2 g3 => ?_)
  rw [hset] at g1 g2
  exact kk ρ H1 locs1 cells slots ls ⟨g1, g2, g3, m_Wf_uJ hI.2.2.2⟩ hc hs hL (m_wt (m_wt (m_wt hw)))
theorem m_astq (hS : m_St p R s m args c dC dI cA τ rn rx A nL own cc) {r n v : Nat} {i : Int32} (hr : σ.1 r = some (.inr (.object RX0, n))) (hrb : r < j_b) (hv : σ.1 v = some (.inl 0)) (hvb : v < j_b) (hi : j_in i n) (hdg : decode cc pc = .ok (.aastore, 1)) (kk : m_at p l e R s m args below meth c Q dC dI cA τ rn rx A nL nb lb ρ0 (pc + 1) (L) (st) (s_uP σ r i.toNatClampNeg (some v))) : m_at p l e R s m args below meth c Q dC dI cA τ rn rx A nL nb lb ρ0 (pc) (L) (.ref v :: .int i :: .ref r :: st) (σ) := by
  intro ρ H locs cells slots ls hI hc hs hL hw
  have hrn := m_inr hI.2.2.2 hr hrb
  have hvn := m_inr hI.2.2.2 hv hvb
  have e1 : m_v ρ τ (.ref r) = .ref (ρ r) := by show Value.ref (m_ad ρ τ r) = _; rw [m_ad_lt hrb]
  have e2 : m_v ρ τ (.ref v) = .ref (ρ v) := by show Value.ref (m_ad ρ τ v) = _; rw [m_ad_lt hvb]
  have hoo : ∀ q, q ≠ r → m_E cA ρ τ (s_uP σ r i.toNatClampNeg (some v)) q = m_E cA ρ τ σ q := fun q hq => m_E_ext rfl (fun j => by show m_rf ρ τ (u2 _ _ _ _ q j) = _; rw [u2_row hq]) rfl rfl
  have hE : m_E cA ρ τ (s_uP σ r i.toNatClampNeg (some v)) r = .inl (cA (.object RX0), n, .inr (.inr (.inr (.inr (va_up (fun k => m_rf ρ τ (σ.2.1 r k)) i.toNatClampNeg (some (ρ v))))))) := by
    rw [m_E_arr (σ := s_uP σ r i.toNatClampNeg (some v)) hr]
    show Sum.inl (cA (.object RX0), n, Sum.inr (Sum.inr (Sum.inr (Sum.inr (fun k => m_rf ρ τ (u2 σ.2.1 r i.toNatClampNeg (some v) r k)))))) = _
    congr 7
    funext k
    rw [u2_self]
    unfold va_up u1
    split
    · show some (m_ad ρ τ v) = _; rw [m_ad_lt hvb]
    · rfl
  have hset := m_ws_set (cA := cA) (ρ := ρ) (τ := τ) (σ := σ) (σ' := s_uP σ r i.toNatClampNeg (some v)) (r := r) rfl hoo hE.symm
  rw [List.map_cons, List.map_cons, List.map_cons, e1, e2]
  refine va_astq (r := (RX0, TX0, 10)) hS.1 hS.2.1 hS.2.2.2.2.1 hI.1 hI.2.1 hI.2.2.1 r 4 v 0 ((m_ws_get hrn).trans (by rw [m_E_arr hr]; rfl)) rfl ((m_ws_get hvn).trans (by rw [m_E_obj hv])) rfl (m_vin hi) hdg (fun H1 locs1 g1 g2 g3 => ?_)
  rw [hset] at g1 g2
  exact kk ρ H1 locs1 cells slots ls ⟨g1, g2, g3, m_Wf_uP (Or.inl hvn) hI.2.2.2⟩ hc hs hL (m_wt (m_wt (m_wt hw)))
theorem m_alen (hS : m_St p R s m args c dC dI cA τ rn rx A nL own cc) {r n t0 : Nat} {ty : FieldType} (hr : σ.1 r = some (.inr (ty, n))) (ht : (m_tys cA)[t0]? = some (cA ty, ty)) (hdg : decode cc pc = .ok (.arraylength, 1)) (kk : m_at p l e R s m args below meth c Q dC dI cA τ rn rx A nL nb lb ρ0 (pc + 1) (L) (.int (Int32.ofNat n) :: st) (σ)) : m_at p l e R s m args below meth c Q dC dI cA τ rn rx A nL nb lb ρ0 (pc) (L) (.ref r :: st) (σ) := by
  intro ρ H locs cells slots ls hI hc hs hL hw
  have h9 := kk ρ H locs cells slots ls hI hc hs hL (m_wi (m_wt hw))
  rcases m_inr2 hI.2.2.2 hr with hrn | ⟨k, hk, rfl⟩
  · have hrb : r < j_b := Nat.lt_of_lt_of_le hrn hI.2.2.2.2.1
    have e1 : m_v ρ τ (.ref r) = .ref (ρ r) := by show Value.ref (m_ad ρ τ r) = _; rw [m_ad_lt hrb]
    rw [List.map_cons, e1]
    exact va_alen (x := (n, m_ar ρ τ σ r ty)) hS.1 hS.2.1 hS.2.2.2.2.1 hI.1 r t0 ((m_ws_get hrn).trans (by rw [m_E_arr hr])) ht rfl hdg h9
  · obtain ⟨cell, g1, g2, g3, g4, g5, g6, g7⟩ := hS.2.2.2.2.2.1.2 k hk
    obtain ⟨w1, w2⟩ := hI.2.2.2.2.2.1 k hk
    have e2 : rn k = n := by rw [w1] at hr; cases hr; rfl
    have g8 : H[τ k]? = some cell := (hI.2.2.1.2.1 (τ k) (Array.getElem?_eq_some_iff.mp g1).1 g7).trans g1
    have e1 : m_v ρ τ (.ref (j_b + k)) = .ref (τ k) := by show Value.ref (m_ad ρ τ _) = _; rw [m_ad_ro]
    rw [List.map_cons, e1]
    rw [e2] at g5
    exact W.alen (n := Int32.ofNat n) hS.1 hS.2.1 g8 g2 g5 rfl rfl hdg h9
theorem m_gets (hS : m_St p R s m args c dC dI cA τ rn rx A nL own cc) {k idx : Nat} (hk : k < 4) (hl : Jvm.Cond.fieldLink (j_CN own) idx (j_sC k) (j_sN k) "[I" ∈ j_ws) (hdg : decode cc pc = .ok (.getstatic idx, 3)) (kk : m_at p l e R s m args below meth c Q dC dI cA τ rn rx A nL nb lb ρ0 (pc + 3) (L) (.ref (j_b + k) :: st) (σ)) : m_at p l e R s m args below meth c Q dC dI cA τ rn rx A nL nb lb ρ0 (pc) (L) (st) (σ) := by
  intro ρ H locs cells slots ls hI hc hs hL hw
  have h9 := kk ρ H locs cells slots ls hI hc hs hL (m_wr (Or.inr (by omega)) hw)
  rw [List.map_cons, show m_v ρ τ (.ref (j_b + k)) = .ref (τ k) from by show Value.ref (m_ad ρ τ _) = _; rw [m_ad_ro]] at h9
  exact va_gets hS.1 hS.2.1 (hS.2.2.2.2.2.1.1.2 k hk) hI.2.2.1 hS.2.2.1 (hS.2.2.2.1 _ hl) (fun _ h => h) hdg h9
theorem m_abs (hS : m_St p R s m args c dC dI cA τ rn rx A nL own cc) {idx : Nat} {x : Int32} (hl : Jvm.Cond.methodLink (j_CN own) idx Lib.Math.abs.name ∈ j_ws) (hn2 : Jvm.Cond.static Lib.Math.abs.name ∈ j_ws) (hn3 : Jvm.Cond.initialized "java/lang/Math" ∈ j_ws) (hn4 : Jvm.Cond.code Lib.Math.abs.name Lib.Math.abs.code 1 (some .int) ∈ j_ws) (hcat : (st.map fun v => v.category).sum ≤ 8) (hRc : s_n σ ≤ R.cells + nb) (hRs : s_l σ ≤ R.slots + lb) (hdg : decode cc pc = .ok (.invokestatic idx, 3)) (kk : m_at p l e R s m args below meth c Q dC dI cA τ rn rx A nL nb lb ρ0 (pc + 3) (L) (.int (j_abs x) :: st) (σ)) : m_at p l e R s m args below meth c Q dC dI cA τ rn rx A nL nb lb ρ0 (pc) (L) (.int x :: st) (σ) := by
  intro ρ H locs cells slots ls hI hc hs hL hw
  have h9 := kk ρ H locs cells slots ls hI hc hs hL (m_wi (m_wt hw))
  have hcm : ((st.map (m_v ρ τ)).map fun v => v.category) = st.map fun v => v.category := by rw [List.map_map]; exact List.map_congr_left fun v _ => m_v_cat ρ τ v
  have hRl := hS.2.2.2.2.2.2.2.2.2
  exact va_mabs hS.1 hS.2.1 (hS.2.2.2.2.2.2.2.1.trans (m_LR_sz hL).symm) hS.2.2.1 (hS.2.2.2.1 _ hl) (hS.2.2.2.1 _ hn2) (hS.2.2.2.1 _ hn3) (hS.2.2.2.1 _ hn4) hS.2.2.2.2.2.2.2.2.1 (by rw [hcm]; omega) (by omega) (by omega) hdg h9
theorem m_copy (hS : m_St p R s m args c dC dI cA τ rn rx A nL own cc) {r d n0 n1 idx : Nat} {sp dp n : Int32} (hl : Jvm.Cond.methodLink (j_CN own) idx arraycopyName ∈ j_ws) (hn1 : Jvm.Cond.native arraycopyName ∈ j_ws) (hn2 : Jvm.Cond.static arraycopyName ∈ j_ws) (hn3 : Jvm.Cond.initialized "java/lang/System" ∈ j_ws) (hr : σ.1 r = some (.inr (.int, n0))) (hd : σ.1 d = some (.inr (.int, n1))) (hrb : r < j_b) (hdb : d < j_b) (h1 : ¬ sp < 0) (h2 : ¬ dp < 0) (h3 : ¬ n < 0) (h4 : sp.toNatClampNeg + n.toNatClampNeg ≤ n0) (h5 : dp.toNatClampNeg + n.toNatClampNeg ≤ n1) (hcat : (st.map fun v => v.category).sum ≤ 8) (hdg : decode cc pc = .ok (.invokestatic idx, 3)) (kk : m_at p l e R s m args below meth c Q dC dI cA τ rn rx A nL nb lb ρ0 (pc + 3) (L) (st) (s_rI σ d (va_cpy (σ.2.2.1 r) (σ.2.2.1 d) sp.toNatClampNeg dp.toNatClampNeg n.toNatClampNeg))) : m_at p l e R s m args below meth c Q dC dI cA τ rn rx A nL nb lb ρ0 (pc) (L) (.int n :: .int dp :: .ref d :: .int sp :: .ref r :: st) (σ) := by
  intro ρ H locs cells slots ls hI hc hs hL hw
  have hrn := m_inr hI.2.2.2 hr hrb
  have hdn := m_inr hI.2.2.2 hd hdb
  have e1 : m_v ρ τ (.ref r) = .ref (ρ r) := by show Value.ref (m_ad ρ τ r) = _; rw [m_ad_lt hrb]
  have e2 : m_v ρ τ (.ref d) = .ref (ρ d) := by show Value.ref (m_ad ρ τ d) = _; rw [m_ad_lt hdb]
  generalize hf : va_cpy (σ.2.2.1 r) (σ.2.2.1 d) sp.toNatClampNeg dp.toNatClampNeg n.toNatClampNeg = f at kk
  have hoo : ∀ q, q ≠ d → m_E cA ρ τ (s_rI σ d f) q = m_E cA ρ τ σ q := fun q hq => m_E_ext rfl (fun _ => rfl) (u1_ne hq) rfl
  have hE : m_E cA ρ τ (s_rI σ d f) d = .inl (cA .int, n1, .inl f) := by
    rw [m_E_arr (σ := s_rI σ d f) hd]
    show Sum.inl (cA .int, n1, Sum.inl (u1 σ.2.2.1 d f d)) = _
    rw [u1_same]
  have hset := m_ws_set (cA := cA) (ρ := ρ) (τ := τ) (σ := σ) (σ' := s_rI σ d f) (r := d) rfl hoo hE.symm
  have hcm : ((st.map (m_v ρ τ)).map fun v => v.category) = st.map fun v => v.category := by rw [List.map_map]; exact List.map_congr_left fun v _ => m_v_cat ρ τ v
  rw [List.map_cons, List.map_cons, List.map_cons, List.map_cons, List.map_cons, e1, e2]
  have hRl := hS.2.2.2.2.2.2.2.2.2
  refine va_copyi hS.1 hS.2.1 (hS.2.2.2.2.2.2.2.1.trans (m_LR_sz hL).symm) hS.2.2.1 (hS.2.2.2.1 _ hl) (hS.2.2.2.1 _ hn1) (hS.2.2.2.1 _ hn2) (hS.2.2.2.1 _ hn3) hS.2.2.2.2.1 hI.1 hI.2.1 hI.2.2.1 r d 0 0 ((m_ws_get hrn).trans (by rw [m_E_arr hr]; rfl)) ((m_ws_get hdn).trans (by rw [m_E_arr hd]; rfl)) rfl rfl rfl h1 h2 h3 h4 h5 (fun _ _ => rfl) hS.2.2.2.2.2.2.2.2.1 (by rw [hcm]; have : nativeFrameWords "java/lang/System" "arraycopy" 5 = 7 := (by decide); omega) hdg (fun H1 locs1 g1 g2 g3 => ?_)
  rw [hf, hset] at g1 g2
  exact kk ρ H1 locs1 cells slots ls ⟨g1, g2, g3, m_Wf_rI hdb hI.2.2.2⟩ hc hs hL (m_wt (m_wt (m_wt (m_wt (m_wt hw)))))
theorem m_objInit (hS : m_St p R s m args c dC dI cA τ rn rx A nL own cc) {r idx : Nat} (hl : Jvm.Cond.methodLink (j_CN own) idx Lib.objectInit ∈ j_ws) (hn1 : Jvm.Cond.instanceMethod Lib.objectInit ∈ j_ws) (hn2 : Jvm.Cond.code Lib.objectInit ⟨#[0xb1]⟩ 1 none ∈ j_ws) (hcat : (st.map fun v => v.category).sum ≤ 8) (hdg : decode cc pc = .ok (.invokespecial idx, 3)) (kk : m_at p l e R s m args below meth c Q dC dI cA τ rn rx A nL nb lb ρ0 (pc + 3) (L) (st) (σ)) : m_at p l e R s m args below meth c Q dC dI cA τ rn rx A nL nb lb ρ0 (pc) (L) (.ref r :: st) (σ) := by
  intro ρ H locs cells slots ls hI hc hs hL hw
  have hcm : ((st.map (m_v ρ τ)).map fun v => v.category) = st.map fun v => v.category := by rw [List.map_map]; exact List.map_congr_left fun v _ => m_v_cat ρ τ v
  have hRl := hS.2.2.2.2.2.2.2.2.2
  exact W.objInit hS.1 hS.2.1 hS.2.2.1 (hS.2.2.2.1 _ hl) (hS.2.2.2.1 _ hn1) (hS.2.2.2.1 _ hn2) rfl ((m_LR_sz hL).trans hS.2.2.2.2.2.2.2.1.symm) rfl hdg hS.2.2.2.2.2.2.2.2.1 (by show 2 * 0 + _ + 12 ≤ _; rw [hcm]; omega) (kk ρ H locs cells slots ls hI hc hs hL (m_wt hw))
theorem m_rf_ext {ρ ρ' τ : Nat → Nat} {n : Nat} (h : ∀ r, r < n → ρ' r = ρ r) (hb : n ≤ j_b) {o : Option Nat} (ho : ∀ q, o = some q → q < n ∨ j_b ≤ q) : m_rf ρ' τ o = m_rf ρ τ o := by
  cases o with
  | none => rfl
  | some q =>
    have := m_v_ext (τ := τ) h hb (v := .ref q) (ho q rfl)
    show some (m_ad ρ' τ q) = some (m_ad ρ τ q)
    exact congrArg some (Value.ref.inj this)
/-- new cells behind the old ones -/
theorem m_ws_push {cA : FieldType → ClassId} {ρ ρ' τ rn : Nat → Nat} {rx : Nat → Nat → Int32} {σ σ' : Sto} {k : Nat} {ws : va_W} (hw : m_Wf rn rx σ) (hn : s_n σ' = s_n σ + k) (hρ : ∀ r, r < s_n σ → ρ' r = ρ r) (h1 : ∀ r, r < s_n σ → σ'.1 r = σ.1 r) (h2 : ∀ r, r < s_n σ → σ'.2.1 r = σ.2.1 r) (h3 : ∀ r, r < s_n σ → σ'.2.2.1 r = σ.2.2.1 r) (h4 : ∀ r, r < s_n σ → σ'.2.2.2.1 r = σ.2.2.2.1 r) (hl : ws.length = k) (hws : ∀ i, i < k → ws[i]? = some (ρ' (s_n σ + i), m_E cA ρ' τ σ' (s_n σ + i))) : m_ws cA ρ τ σ ++ ws = m_ws cA ρ' τ σ' := by
  apply List.ext_getElem?
  intro i
  by_cases hi : i < s_n σ
  · rw [List.getElem?_append_left (by rw [m_ws_len]; exact hi), m_ws_get hi, m_ws_get (show i < s_n σ' by omega), hρ i hi, m_E_ext (σ := σ) (σ' := σ') (ρ := ρ) (ρ' := ρ') (τ := τ) (h1 i hi) (fun j => by rw [h2 i hi]; exact m_rf_ext hρ hw.2.1 (fun q hq => hw.2.2.2 i j q hi hq)) (h3 i hi) (h4 i hi)]
  · rw [List.getElem?_append_right (by rw [m_ws_len]; omega), m_ws_len]
    by_cases hj : i - s_n σ < k
    · rw [hws _ hj, m_ws_get (show i < s_n σ' by omega), show s_n σ + (i - s_n σ) = i by omega]
    · rw [List.getElem?_eq_none (by omega), List.getElem?_eq_none (by rw [m_ws_len]; omega)]
theorem m_al_old {σ : Sto} {h : j_Sh} {n r : Nat} (hr : r ≠ s_n σ) : (s_al σ h n).1 r = σ.1 r ∧ (s_al σ h n).2.1 r = σ.2.1 r ∧ (s_al σ h n).2.2.1 r = σ.2.2.1 r ∧ (s_al σ h n).2.2.2.1 r = σ.2.2.2.1 r := ⟨u1_ne hr, u1_ne hr, u1_ne hr, u1_ne hr⟩
theorem m_al_new {σ : Sto} {h : j_Sh} {n : Nat} : (s_al σ h n).1 (s_n σ) = some h ∧ (s_al σ h n).2.1 (s_n σ) = (fun _ => none) ∧ (s_al σ h n).2.2.1 (s_n σ) = (fun _ => 0) ∧ (s_al σ h n).2.2.2.1 (s_n σ) = (fun _ => 0) := ⟨u1_same _ _ _, u1_same _ _ _, u1_same _ _ _, u1_same _ _ _⟩
theorem m_Wf_al {rn : Nat → Nat} {rx : Nat → Nat → Int32} {σ : Sto} {h : j_Sh} {n : Nat} (hb : s_n σ + 1 ≤ j_b) (hw : m_Wf rn rx σ) : m_Wf rn rx (s_al σ h n) := by
  refine ⟨fun r hr => ?_, hb, fun k hk => ?_, fun r k q hr hq => ?_⟩
  · by_cases e : r = s_n σ
    · exact Or.inl (by show r < s_n σ + 1; omega)
    · rw [(m_al_old e).1] at hr
      exact (hw.1 r hr).imp (fun z => by show r < s_n σ + 1; omega) id
  · have e : j_b + k ≠ s_n σ := by omega
    rw [(m_al_old e).1, (m_al_old e).2.2.1]
    exact hw.2.2.1 k hk
  · by_cases e : r = s_n σ
    · subst e
      rw [m_al_new.2.1] at hq
      cases hq
    · rw [(m_al_old e).2.1] at hq
      have hr' : r < s_n σ + 1 := hr
      exact (hw.2.2.2 r k q (by omega) hq).imp (fun z => by show q < s_n σ + 1; omega) id
theorem m_al_ws {cA : FieldType → ClassId} {ρ τ rn : Nat → Nat} {rx : Nat → Nat → Int32} {σ : Sto} {h : j_Sh} {n q : Nat} {e : va_E} (hw : m_Wf rn rx σ) (he : e = m_E cA (u1 ρ (s_n σ) q) τ (s_al σ h n) (s_n σ)) : m_ws cA ρ τ σ ++ [(q, e)] = m_ws cA (u1 ρ (s_n σ) q) τ (s_al σ h n) := by
  refine m_ws_push (k := 1) hw rfl (fun r hr => u1_ne (Nat.ne_of_lt hr)) (fun r hr => (m_al_old (Nat.ne_of_lt hr)).1) (fun r hr => (m_al_old (Nat.ne_of_lt hr)).2.1) (fun r hr => (m_al_old (Nat.ne_of_lt hr)).2.2.1) (fun r hr => (m_al_old (Nat.ne_of_lt hr)).2.2.2) rfl (fun i hi => ?_)
  have : i = 0 := by omega
  subst this
  rw [Nat.add_zero, u1_same, ← he]
  rfl
theorem m_new (hS : m_St p R s m args c dC dI cA τ rn rx A nL own cc) {ci n idx : Nat} (hci : ci < 8) (hn : n = j_nf ci) (hcl : Jvm.Cond.classLink (j_CN own) idx (j_CN ci) ∈ j_ws) (hin : Jvm.Cond.instantiable (j_CN ci) (j_nf ci) ∈ j_ws) (hini : Jvm.Cond.initialized (j_CN ci) ∈ j_ws) (hu : ∀ w ∈ u_ws (j_CN ci) (j_T ci) (j_nf ci), w ∈ j_ws) (hz : ∀ j, j < j_nf ci → defaultValue (j_ty ci j) = (if j_ty ci j = .long then .long 0 else if refKind (j_ty ci j) then .null else .int 0)) (hb : s_n σ + 1 ≤ j_b) (hRc : s_n σ + 1 ≤ R.cells + nb) (hRs : s_l σ + n ≤ R.slots + lb) (hdg : decode cc pc = .ok (.new idx, 3)) (kk : m_at p l e R s m args below meth c Q dC dI cA τ rn rx A nL nb lb ρ0 (pc + 3) (L) (.ref (s_n σ) :: st) (s_al σ (.inl ci) n)) : m_at p l e R s m args below meth c Q dC dI cA τ rn rx A nL nb lb ρ0 (pc) (L) (st) (σ) := by
  intro ρ H locs cells slots ls hI hc hs hL hw
  subst hn
  have hal := fun (q : Nat) (H1 : Heap) (e9 : va_E) (he : e9 = m_E cA (u1 ρ (s_n σ) q) τ (s_al σ (.inl ci) (j_nf ci)) (s_n σ)) (g1 : va_P (dC, dI) j_cls (m_ws cA ρ τ σ ++ [(q, e9)]) H1) (g2 : va_D A (m_ws cA ρ τ σ ++ [(q, e9)])) (g3 : va_S A s.heap H1 locs) => by
    rw [m_al_ws hI.2.2.2 he] at g1 g2
    have hρ : ∀ r, r < s_n σ → u1 ρ (s_n σ) q r = ρ r := fun r hr => u1_ne (Nat.ne_of_lt hr)
    have h9 := kk (u1 ρ (s_n σ) q) H1 locs (cells + 1) (slots + j_nf ci) ls ⟨g1, g2, g3, m_Wf_al (Nat.le_trans hb (Nat.le_refl _)) hI.2.2.2⟩ ⟨by show cells + 1 + nb = s_n σ + 1; omega, fun r hr => (hρ r (by omega)).trans (hc.2 r hr)⟩ (by show slots + j_nf ci + lb = s_l σ + j_nf ci; omega) (m_LR_ext hL (Nat.le_succ _) hI.2.2.2.2.1 hρ) (m_wr (Or.inl (Nat.lt_succ_self _)) (fun v hv => m_ok_le (Nat.le_succ _) (hw v hv)))
    rw [List.map_cons, show m_v (u1 ρ (s_n σ) q) τ (.ref (s_n σ)) = .ref q from by show Value.ref (m_ad _ τ _) = _; rw [m_ad_lt (by omega), u1_same], List.map_congr_left (g := m_v ρ τ) (fun v hv => m_v_ext hρ hI.2.2.2.2.1 (hw v hv))] at h9
    exact h9
  refine va_new (ci := ci) (fs := m_fs (fun _ => 0) τ (s_al σ (.inl ci) (j_nf ci)) (s_n σ) ci) hS.1 hS.2.1 hS.2.2.2.1 hu (j_ty ci) (j_ty_ok hci) hS.2.2.1 (hS.2.2.2.1 _ hcl) (hS.2.2.2.1 _ hin) (hS.2.2.2.1 _ hini) hS.2.2.2.2.1 hI.1 hI.2.1 hI.2.2.1 hS.2.2.2.2.2.2.1 (j_cls_get hci) (fun j hj => ?_) (by omega) (by omega) hdg (fun q H1 g1 g2 g3 => hal q H1 _ ?_ g1 g2 g3)
  · unfold vp_V
    rw [List.getD_eq_getElem?_getD, m_fs_get hj, hz j hj]
    unfold m_f
    rw [m_al_new.2.1, m_al_new.2.2.1, m_al_new.2.2.2]
    cases j_ty ci j <;> rfl
  · rw [m_E_obj m_al_new.1]
    congr 2
    unfold m_fs
    refine List.map_congr_left fun k hk => ?_
    unfold m_f
    rw [m_al_new.2.1, m_al_new.2.2.1, m_al_new.2.2.2]
    cases j_ty ci k <;> rfl
theorem m_newa (hS : m_St p R s m args c dC dI cA τ rn rx A nL own cc) {aty : ArrayType} {ty : FieldType} {t0 : Nat} {n : Int32} (hty : newarray.typeOf aty = ty) (ht : (m_tys cA)[t0]? = some (cA ty, ty)) (harr : Jvm.Cond.arrayClass ty ∈ j_ws) (hz : ∀ (cX : ClassId) (N : Nat) (σ' : Sto) (r : Nat) (ρ' : Nat → Nat), σ'.2.1 r = (fun _ => none) → σ'.2.2.1 r = (fun _ => 0) → σ'.2.2.2.1 r = (fun _ => 0) → vp_cell cX (N, m_ar ρ' τ σ' r ty) = arrV cX N (fun _ => defaultValue ty)) (hra : ∀ cX, va_RA s cX ty ↔ s.vm.findClass ("[" ++ ty.toString) = some cX) (hcb : componentBytes ty ≤ 8) (hn : ¬ n < 0) (hn2 : n.toNatClampNeg ≤ 100000) (hb : s_n σ + 1 ≤ j_b) (hRc : s_n σ + 1 ≤ R.cells + nb) (hRs : s_l σ + n.toNatClampNeg ≤ R.slots + lb) (hdg : decode cc pc = .ok (.newarray aty, 2)) (kk : m_at p l e R s m args below meth c Q dC dI cA τ rn rx A nL nb lb ρ0 (pc + 2) (L) (.ref (s_n σ) :: st) (s_al σ (.inr (ty, n.toNatClampNeg)) n.toNatClampNeg)) : m_at p l e R s m args below meth c Q dC dI cA τ rn rx A nL nb lb ρ0 (pc) (L) (.int n :: st) (σ) := by
  intro ρ H locs cells slots ls hI hc hs hL hw
  subst hty
  have hal := fun (q : Nat) (H1 : Heap) (e9 : va_E) (he : e9 = m_E cA (u1 ρ (s_n σ) q) τ (s_al σ (.inr (newarray.typeOf aty, n.toNatClampNeg)) n.toNatClampNeg) (s_n σ)) (g1 : va_P (dC, dI) j_cls (m_ws cA ρ τ σ ++ [(q, e9)]) H1) (g2 : va_D A (m_ws cA ρ τ σ ++ [(q, e9)])) (g3 : va_S A s.heap H1 locs) => by
    rw [m_al_ws hI.2.2.2 he] at g1 g2
    have hρ : ∀ r, r < s_n σ → u1 ρ (s_n σ) q r = ρ r := fun r hr => u1_ne (Nat.ne_of_lt hr)
    have h9 := kk (u1 ρ (s_n σ) q) H1 locs (cells + 1) (slots + n.toNatClampNeg) ls ⟨g1, g2, g3, m_Wf_al (Nat.le_trans hb (Nat.le_refl _)) hI.2.2.2⟩ ⟨by show cells + 1 + nb = s_n σ + 1; omega, fun r hr => (hρ r (by omega)).trans (hc.2 r hr)⟩ (by show slots + n.toNatClampNeg + lb = s_l σ + n.toNatClampNeg; omega) (m_LR_ext hL (Nat.le_succ _) hI.2.2.2.2.1 hρ) (m_wr (Or.inl (Nat.lt_succ_self _)) (fun v hv => m_ok_le (Nat.le_succ _) (m_wt hw v hv)))
    rw [List.map_cons, show m_v (u1 ρ (s_n σ) q) τ (.ref (s_n σ)) = .ref q from by show Value.ref (m_ad _ τ _) = _; rw [m_ad_lt (by omega), u1_same], List.map_congr_left (g := m_v ρ τ) (fun v hv => m_v_ext hρ hI.2.2.2.2.1 (m_wt hw v hv))] at h9
    exact h9
  rw [List.map_cons]
  refine va_newa (a0 := (n.toNatClampNeg, m_ar ρ τ (s_al σ (.inr (newarray.typeOf aty, n.toNatClampNeg)) n.toNatClampNeg) (s_n σ) (newarray.typeOf aty))) hS.1 hS.2.1 (hS.2.2.2.1 _ harr) rfl hS.2.2.2.2.1 hI.1 hI.2.1 hI.2.2.1 hS.2.2.2.2.2.2.1 (fun cX => hz cX _ _ _ ρ m_al_new.2.1 m_al_new.2.2.1 m_al_new.2.2.2) hn rfl (Nat.le_trans (Nat.mul_le_mul hn2 hcb) (Nat.le_of_ble_eq_true rfl)) (by omega) (by omega) hdg (fun q cX H1 gk g1 g2 g3 => hal q H1 _ ?_ g1 g2 g3)
  have e1 := (hra _).mp (gk.2 (m_tys cA).length _ (by rw [List.getElem?_append_right (Nat.le_refl _), Nat.sub_self]; rfl)).2
  have e2 := (hra _).mp (hS.2.2.2.2.1.2 t0 _ ht).2
  have e3 : cX = cA (newarray.typeOf aty) := Option.some.inj (e1.symm.trans e2)
  rw [m_E_arr m_al_new.1, e3]
  congr 3
  unfold m_ar m_rf
  rw [m_al_new.2.1, m_al_new.2.2.1, m_al_new.2.2.2]
  cases newarray.typeOf aty <;> rfl
theorem m_newq (hS : m_St p R s m args c dC dI cA τ rn rx A nL own cc) {n : Int32} {idx : Nat} (hcl : Jvm.Cond.classLink (j_CN own) idx RX0 ∈ j_ws) (hov : Jvm.Cond.arrayOver (.object RX0) ∈ lw_tbl) (hn : ¬ n < 0) (hn2 : n.toNatClampNeg ≤ 100000) (hb : s_n σ + 1 ≤ j_b) (hRc : s_n σ + 1 ≤ R.cells + nb) (hRs : s_l σ + n.toNatClampNeg ≤ R.slots + lb) (hdg : decode cc pc = .ok (.anewarray idx, 3)) (kk : m_at p l e R s m args below meth c Q dC dI cA τ rn rx A nL nb lb ρ0 (pc + 3) (L) (.ref (s_n σ) :: st) (s_al σ (.inr (.object RX0, n.toNatClampNeg)) n.toNatClampNeg)) : m_at p l e R s m args below meth c Q dC dI cA τ rn rx A nL nb lb ρ0 (pc) (L) (.int n :: st) (σ) := by
  intro ρ H locs cells slots ls hI hc hs hL hw
  have hal := fun (q : Nat) (H1 : Heap) (e9 : va_E) (he : e9 = m_E cA (u1 ρ (s_n σ) q) τ (s_al σ (.inr (.object RX0, n.toNatClampNeg)) n.toNatClampNeg) (s_n σ)) (g1 : va_P (dC, dI) j_cls (m_ws cA ρ τ σ ++ [(q, e9)]) H1) (g2 : va_D A (m_ws cA ρ τ σ ++ [(q, e9)])) (g3 : va_S A s.heap H1 locs) => by
    rw [m_al_ws hI.2.2.2 he] at g1 g2
    have hρ : ∀ r, r < s_n σ → u1 ρ (s_n σ) q r = ρ r := fun r hr => u1_ne (Nat.ne_of_lt hr)
    have h9 := kk (u1 ρ (s_n σ) q) H1 locs (cells + 1) (slots + n.toNatClampNeg) ls ⟨g1, g2, g3, m_Wf_al (Nat.le_trans hb (Nat.le_refl _)) hI.2.2.2⟩ ⟨by show cells + 1 + nb = s_n σ + 1; omega, fun r hr => (hρ r (by omega)).trans (hc.2 r hr)⟩ (by show slots + n.toNatClampNeg + lb = s_l σ + n.toNatClampNeg; omega) (m_LR_ext hL (Nat.le_succ _) hI.2.2.2.2.1 hρ) (m_wr (Or.inl (Nat.lt_succ_self _)) (fun v hv => m_ok_le (Nat.le_succ _) (m_wt hw v hv)))
    rw [List.map_cons, show m_v (u1 ρ (s_n σ) q) τ (.ref (s_n σ)) = .ref q from by show Value.ref (m_ad _ τ _) = _; rw [m_ad_lt (by omega), u1_same], List.map_congr_left (g := m_v ρ τ) (fun v hv => m_v_ext hρ hI.2.2.2.2.1 (m_wt hw v hv))] at h9
    exact h9
  rw [List.map_cons]
  refine va_newq (C := RX0) hS.1 hS.2.1 hS.2.2.1 (hS.2.2.2.1 _ hcl) (hS.2.2.2.2.2.1.1.1 _ hov rfl) hS.2.2.2.2.1 hI.1 hI.2.1 hI.2.2.1 hS.2.2.2.2.2.2.1 hn rfl (by omega) (by omega) (by omega) hdg (fun q cX H1 gk g1 g2 g3 => hal q H1 _ ?_ g1 g2 g3)
  have e1 := (gk.2 (m_tys cA).length _ (by rw [List.getElem?_append_right (Nat.le_refl _), Nat.sub_self]; rfl)).2
  have e2 := (hS.2.2.2.2.1.2 4 _ rfl).2
  obtain ⟨_, _, -, -, -, f1⟩ := e1
  obtain ⟨_, _, -, -, -, f2⟩ := e2
  have e3 : cX = cA (.object RX0) := Option.some.inj (f1.symm.trans f2)
  rw [m_E_arr m_al_new.1, e3]
  congr 3
  unfold m_ar m_rf
  rw [m_al_new.2.1]
  rfl
theorem m_outer (c : ClassId) (N h0 : Nat) : ∀ i : Nat, Jvm.Free.Multi.outerC c N h0 i = arrV c N (fun j => va_rf (if j < i then some (h0 + 1 + j) else none))
  | 0 => by
    show ({ cls := c, slots := Array.replicate N .null, vm := .none } : Cell) = _
    rw [arrV_new]
    refine congrArg (arrV c N) (funext fun j => ?_)
    simp [va_rf]
  | i + 1 => by
    show (Jvm.Free.Multi.outerC c N h0 i).setSlot i (.ref (h0 + 1 + i)) = _
    rw [m_outer c N h0 i, arrV_store]
    refine congrArg (arrV c N) (funext fun j => ?_)
    by_cases e : j = i
    · subst e
      simp [updV, va_rf]
    · by_cases h : j < i
      · simp [updV, e, h, Nat.lt_succ_of_lt h]
      · simp [updV, e, h, show ¬ j < i + 1 by omega]
theorem m_mnew (hS : m_St p R s m args c dC dI cA τ rn rx A nL own cc) {n k : Int32} {idx : Nat} (hcl : Jvm.Cond.classLink (j_CN own) idx "[[I" ∈ j_ws) (hov : Jvm.Cond.arrayOver (.array .int) ∈ lw_tbl) (har : Jvm.Cond.arrayClass .int ∈ j_ws) (hn : ¬ n < 0) (hk : ¬ k < 0) (hn2 : n.toNatClampNeg ≤ 1000) (hk2 : k.toNatClampNeg ≤ 1000) (hb : s_n σ + 1 + n.toNatClampNeg ≤ j_b) (hRc : s_n σ + 1 + n.toNatClampNeg ≤ R.cells + nb) (hRs : s_l σ + n.toNatClampNeg + n.toNatClampNeg * k.toNatClampNeg ≤ R.slots + lb) (hdg : decode cc pc = .ok (.multianewarray idx 2, 4)) (kk : m_at p l e R s m args below meth c Q dC dI cA τ rn rx A nL nb lb ρ0 (pc + 4) (L) (.ref (s_n σ) :: st) (s_mn σ n.toNatClampNeg k.toNatClampNeg)) : m_at p l e R s m args below meth c Q dC dI cA τ rn rx A nL nb lb ρ0 (pc) (L) (.int k :: .int n :: st) (σ) := by
  intro ρ H locs cells slots ls hI hc hs hL hw
  generalize hN : n.toNatClampNeg = N at hn2 hb hRc hRs kk
  generalize hM : k.toNatClampNeg = M at hk2 hRs kk
  have hcA : s.vm.findClass (FieldType.array .int).toString = some (cA .int) := (hS.2.2.2.2.1.2 0 _ rfl).2
  intro T hT Xs
  have hb9 : s.heap.size ≤ H.size := hI.2.2.1.1
  have hRl := hS.2.2.2.2.2.2.2.2.2
  subst hN
  subst hM
  obtain ⟨vm₁, cX, comp, -, fA, fC, hO, -, X', step⟩ := Xs.multianewarray2F (ty := .int) hS.1 hS.2.2.1 (hS.2.2.2.1 _ hcl) (show (Jvm.Cond.arrayOver (.array .int)).before args s = true from hS.2.2.2.2.2.1.1.1 _ hov rfl) (hS.2.2.2.1 _ har) (g := F0 m pc ls (.int k :: .int n :: st.map (m_v ρ τ))) rfl (by rw [hS.2.1]; exact hdg) rfl hn hk (by omega) (Nat.le_trans (Nat.mul_le_mul hk2 (show componentBytes .int ≤ 8 by decide)) (Nat.le_of_ble_eq_true rfl)) (by omega) rfl rfl (by omega) (by omega)
  have ec : some (cA .int) = some comp := hcA.symm.trans fC
  cases ec
  have eX : cX = cA (.array .int) := Option.some.inj (fA.symm.trans (hS.2.2.2.2.1.2 5 _ rfl).2)
  subst eX
  generalize hF : Jvm.Free.Multi.fill (T.setVm vm₁) (cA (.array .int)) (cA .int) n.toNatClampNeg k.toNatClampNeg (defaultValue .int) n.toNatClampNeg = F at X' step
  have hTh : (T.setVm vm₁).heap = H := hT
  obtain ⟨f1, f2, -, -⟩ := Jvm.Free.Multi.fill_facts (T.setVm vm₁) (cA (.array .int)) (cA .int) n.toNatClampNeg k.toNatClampNeg (defaultValue .int) n.toNatClampNeg
  rw [hF, hTh] at f1 f2
  have hold : ∀ x : Nat, x < H.size → F.heap[x]? = H[x]? := fun x hx => by
    have := Jvm.Free.Multi.fill_old (T.setVm vm₁) (cA (.array .int)) (cA .int) n.toNatClampNeg k.toNatClampNeg (defaultValue .int) (a := x) (by rw [hTh]; exact hx) n.toNatClampNeg
    rw [hF, hTh] at this
    exact this
  have hrow : ∀ j : Nat, j < n.toNatClampNeg → F.heap[H.size + 1 + j]? = some (vp_cell (cA .int) (k.toNatClampNeg, .inl (fun _ => 0))) := fun j hj => by
    have := Jvm.Free.Multi.fill_inner (T.setVm vm₁) (cA (.array .int)) (cA .int) n.toNatClampNeg k.toNatClampNeg (defaultValue .int) n.toNatClampNeg j hj
    rw [hF, hTh] at this
    rw [this, vp_cell_i, ← arrV_new]
    rfl
  have hout : Jvm.Free.Multi.outerC (cA (.array .int)) n.toNatClampNeg H.size n.toNatClampNeg = vp_cell (cA (.array .int)) (n.toNatClampNeg, .inr (.inr (.inr (.inr (fun i => if i < n.toNatClampNeg then some (H.size + 1 + i) else none))))) := by
    rw [vp_cell_q]
    exact m_outer (cA (.array .int)) n.toNatClampNeg H.size n.toNatClampNeg
  rw [hout] at f2
  generalize hn9 : n.toNatClampNeg = N at *
  generalize hk9 : k.toNatClampNeg = M at *
  generalize hσ' : s_mn σ N M = σ' at kk
  obtain ⟨ρ', hρ'⟩ : ∃ z : Nat → Nat, z = fun r => if r < s_n σ then ρ r else H.size + (r - s_n σ) := ⟨_, rfl⟩
  have hρ : ∀ r, r < s_n σ → ρ' r = ρ r := fun r hr => by rw [hρ']; exact if_pos hr
  have hρ2 : ∀ i, ρ' (s_n σ + i) = H.size + i := fun i => by rw [hρ']; show (if s_n σ + i < s_n σ then _ else _) = _; rw [if_neg (by omega), Nat.add_sub_cancel_left]
  have s1 : ∀ r, r < s_n σ → σ'.1 r = σ.1 r := fun r hr => by rw [← hσ']; show (if r < s_n σ then _ else _) = _; rw [if_pos hr]
  have s1' : σ'.1 (s_n σ) = some (.inr (.array .int, N)) := by rw [← hσ']; show (if s_n σ < s_n σ then _ else if s_n σ = s_n σ then _ else _) = _; rw [if_neg (Nat.lt_irrefl _), if_pos rfl]
  have s1'' : ∀ i, i < N → σ'.1 (s_n σ + 1 + i) = some (.inr (.int, M)) := fun i hi => by rw [← hσ']; show (if s_n σ + 1 + i < s_n σ then _ else if s_n σ + 1 + i = s_n σ then _ else if s_n σ + 1 + i < s_n σ + 1 + N then _ else _) = _; rw [if_neg (by omega), if_neg (by omega), if_pos (by omega)]
  have s1x : ∀ r, s_n σ + 1 + N ≤ r → σ'.1 r = σ.1 r := fun r hr => by rw [← hσ']; show (if r < s_n σ then _ else if r = s_n σ then _ else if r < s_n σ + 1 + N then _ else _) = _; rw [if_neg (by omega), if_neg (by omega), if_neg (by omega)]
  have s2 : ∀ r, r < s_n σ → σ'.2.1 r = σ.2.1 r := fun r hr => by rw [← hσ']; funext i; show (if r = s_n σ then _ else if s_n σ < r ∧ r < s_n σ + 1 + N then _ else _) = _; rw [if_neg (by omega), if_neg (by omega)]
  have s2' : ∀ i, σ'.2.1 (s_n σ) i = if i < N then some (s_n σ + 1 + i) else none := fun i => by rw [← hσ']; show (if s_n σ = s_n σ then _ else _) = _; rw [if_pos rfl]
  have s2'' : ∀ r i, s_n σ < r → r < s_n σ + 1 + N → σ'.2.1 r i = none := fun r i h1 h2 => by rw [← hσ']; show (if r = s_n σ then _ else if s_n σ < r ∧ r < s_n σ + 1 + N then _ else _) = _; rw [if_neg (by omega), if_pos ⟨h1, h2⟩]
  have s3 : ∀ r, ¬ (s_n σ ≤ r ∧ r < s_n σ + 1 + N) → σ'.2.2.1 r = σ.2.2.1 r := fun r hr => by rw [← hσ']; funext i; exact if_neg hr
  have s3' : ∀ r, (s_n σ ≤ r ∧ r < s_n σ + 1 + N) → σ'.2.2.1 r = fun _ => 0 := fun r hr => by rw [← hσ']; funext i; exact if_pos hr
  have s4 : ∀ r, ¬ (s_n σ ≤ r ∧ r < s_n σ + 1 + N) → σ'.2.2.2.1 r = σ.2.2.2.1 r := fun r hr => by rw [← hσ']; funext i; exact if_neg hr
  have s5 : s_n σ' = s_n σ + 1 + N := by rw [← hσ']; rfl
  have s6 : s_l σ' = s_l σ + N + N * M := by rw [← hσ']; rfl
  have hro : ∀ i, i < 5 → ¬ (s_n σ ≤ j_b + i ∧ j_b + i < s_n σ + 1 + N) := fun i _ z => by omega
  have hwf : m_Wf rn rx σ' := by
    refine ⟨fun r hr => ?_, by rw [s5]; exact hb, fun i hi => ?_, fun r i q hr hq => ?_⟩
    · by_cases h1 : r < s_n σ'
      · exact Or.inl h1
      · rw [s1x r (by omega)] at hr
        exact (hI.2.2.2.1 r hr).elim (fun z => by omega) Or.inr
    · rw [s1x _ (by omega), s3 _ (hro i hi)]
      exact hI.2.2.2.2.2.1 i hi
    · rw [s5] at hr ⊢
      by_cases h1 : r < s_n σ
      · rw [s2 r h1] at hq
        exact (hI.2.2.2.2.2.2 r i q h1 hq).imp (fun z => by omega) id
      · by_cases h2 : r = s_n σ
        · subst h2
          rw [s2'] at hq
          split at hq
          · cases hq
            exact Or.inl (by omega)
          · cases hq
        · rw [s2'' r i (by omega) hr] at hq
          cases hq
  have hEo : m_E cA ρ' τ σ' (s_n σ) = .inl (cA (.array .int), N, .inr (.inr (.inr (.inr (fun i => if i < N then some (H.size + 1 + i) else none))))) := by
    rw [m_E_arr s1']
    show Sum.inl (cA (.array .int), N, Sum.inr (Sum.inr (Sum.inr (Sum.inr (fun i => m_rf ρ' τ (σ'.2.1 (s_n σ) i)))))) = _
    congr 7
    funext i
    rw [s2']
    split
    · show some (m_ad ρ' τ (s_n σ + 1 + i)) = _
      rw [m_ad_lt (by omega), Nat.add_assoc, hρ2, Nat.add_assoc]
    · rfl
  have hEr : ∀ i, i < N → m_E cA ρ' τ σ' (s_n σ + 1 + i) = .inl (cA .int, M, .inl (fun _ => 0)) := fun i hi => by
    rw [m_E_arr (s1'' i hi)]
    show Sum.inl (cA .int, M, Sum.inl (σ'.2.2.1 (s_n σ + 1 + i))) = _
    rw [s3' _ (by omega)]
  have hws : m_ws cA ρ τ σ ++ ((H.size, m_E cA ρ' τ σ' (s_n σ)) :: (List.range N).map (fun i => (H.size + 1 + i, m_E cA ρ' τ σ' (s_n σ + 1 + i)))) = m_ws cA ρ' τ σ' := by
    refine m_ws_push (k := 1 + N) hI.2.2.2 (by rw [s5]; omega) hρ s1 s2 (fun r hr => s3 r (by omega)) (fun r hr => s4 r (by omega)) (by simp; omega) (fun i hi => ?_)
    cases i with
    | zero => rw [hρ2 0]; rfl
    | succ i =>
      rw [List.getElem?_cons_succ, List.getElem?_map, List.getElem?_range (by omega), hρ2, Option.map_some, show s_n σ + (i + 1) = s_n σ + 1 + i by omega, show H.size + (i + 1) = H.size + 1 + i by omega]
  have hPn : va_P (dC, dI) j_cls (m_ws cA ρ' τ σ') F.heap := by
    rw [← hws]
    refine (hI.1.kept (fun k x hx => hold x.1 ((hI.1 k x hx).lt))).app (fun j x hx => ?_)
    cases j with
    | zero => cases hx; rw [hEo]; exact f2
    | succ j =>
      rw [List.getElem?_cons_succ, List.getElem?_map] at hx
      by_cases hj : j < N
      · rw [List.getElem?_range hj] at hx
        cases hx
        show va_at (dC, dI) j_cls (H.size + 1 + j, m_E cA ρ' τ σ' (s_n σ + 1 + j)) F.heap
        rw [hEr j hj]
        exact hrow j hj
      · rw [List.getElem?_eq_none (by rw [List.length_range]; omega)] at hx
        cases hx
  have hDn : va_D A (m_ws cA ρ' τ σ') := by
    refine ⟨fun i j x y hi hj hxy => ?_, fun i x hi => ?_⟩
    · obtain ⟨i1, rfl⟩ := m_ws_some hi
      obtain ⟨j1, rfl⟩ := m_ws_some hj
      have old : ∀ a, a < s_n σ → ρ a < H.size := fun a ha => (hI.1 a _ (m_ws_get ha)).lt
      have hxy' : ρ' i = ρ' j := hxy
      by_cases h1 : i < s_n σ <;> by_cases h2 : j < s_n σ
      · rw [hρ i h1, hρ j h2] at hxy'
        exact hI.2.1.1 i j _ _ (m_ws_get h1) (m_ws_get h2) hxy'
      · have e2 := hρ2 (j - s_n σ)
        rw [show s_n σ + (j - s_n σ) = j by omega] at e2
        have := old i h1
        rw [hρ i h1] at hxy'
        omega
      · have e2 := hρ2 (i - s_n σ)
        rw [show s_n σ + (i - s_n σ) = i by omega] at e2
        have := old j h2
        rw [hρ j h2] at hxy'
        omega
      · have e2 := hρ2 (i - s_n σ)
        rw [show s_n σ + (i - s_n σ) = i by omega] at e2
        have e3 := hρ2 (j - s_n σ)
        rw [show s_n σ + (j - s_n σ) = j by omega] at e3
        omega
    · obtain ⟨i1, rfl⟩ := m_ws_some hi
      show A (ρ' i)
      by_cases h1 : i < s_n σ
      · rw [hρ i h1]
        exact hI.2.1.2 i _ (m_ws_get h1)
      · have e2 := hρ2 (i - s_n σ)
        rw [show s_n σ + (i - s_n σ) = i by omega] at e2
        exact hS.2.2.2.2.2.2.1 _ (by omega)
  have hSn : va_S A s.heap F.heap locs := ⟨by rw [f1]; omega, fun x h1 h2 => (hold x (Nat.lt_of_lt_of_le h1 hI.2.2.1.1)).trans (hI.2.2.1.2.1 x h1 h2), hI.2.2.1.2.2⟩
  have hlt9 : s_n σ < s_n σ' := by omega
  have hcc9 : cells + 1 + N + nb = s_n σ' ∧ ∀ r, r < nb → ρ' r = ρ0 r := ⟨by omega, fun r hr => (hρ r (by omega)).trans (hc.2 r hr)⟩
  have hss9 : slots + N + N * M + lb = s_l σ' := by omega
  obtain ⟨t, a1, b1⟩ := kk ρ' F.heap locs (cells + 1 + N) (slots + N + N * M) ls ⟨hPn, hDn, hSn, hwf⟩ hcc9 hss9 (m_LR_ext hL (Nat.le_of_lt hlt9) hI.2.2.2.2.1 hρ) (m_wr (Or.inl hlt9) (fun v hv => m_ok_le (Nat.le_of_lt hlt9) (m_wt (m_wt hw) v hv))) F rfl X'
  refine ⟨t, step t ?_, b1⟩
  have e : T.heap.size = H.size := by rw [hT]
  rw [e]
  rw [List.map_cons, show m_v ρ' τ (.ref (s_n σ)) = .ref H.size from by show Value.ref (m_ad ρ' τ _) = _; rw [m_ad_lt (by omega)]; exact congrArg Value.ref (hρ2 0), List.map_congr_left (g := m_v ρ τ) (fun v hv => m_v_ext hρ hI.2.2.2.2.1 (m_wt (m_wt hw) v hv))] at a1
  exact a1
end SIMOPS3
