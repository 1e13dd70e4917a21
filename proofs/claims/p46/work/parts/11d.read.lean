/-! ===== a ground that is written out is read as it was meant ===== -/
def okG (w h n : Int) (gr kd ce : Fl) : Prop := (2 ≤ w ∧ w ≤ 6 ∧ 1 ≤ h ∧ h ≤ 5) ∧ (0 ≤ n ∧ n ≤ 4) ∧ (∀ c, 0 ≤ c → c < w * h → 0 ≤ gr c ∧ gr c ≤ 4) ∧ (∀ k, 0 ≤ k → k < n → (0 ≤ kd k ∧ kd k ≤ 5) ∧ 0 ≤ ce k ∧ ce k < w * h ∧ gr (ce k) ≠ 1 ∧ gr (ce k) ≠ 2) ∧ (∀ i j, 0 ≤ i → i < j → j < n → ce i ≠ ce j)
def okT (w h n : Int) (gr kd ce : Fl) (T : Int → Int) : Prop := (T 0 = 32 ∧ T 1 = 103 ∧ T 2 = 48 + w ∧ T 3 = 48 + h) ∧ (∀ c, 0 ≤ c → c < w * h → T (4 + c) = p_tbS (gr c)) ∧ (∀ k, 0 ≤ k → k < n → T (4 + w * h + 3 * k) = p_tbL (kd k) ∧ T (4 + w * h + 3 * k + 1) = 48 + ce k % w ∧ T (4 + w * h + 3 * k + 2) = 48 + ce k / w) ∧ (∀ i, 4 + w * h + 3 * n ≤ i → i < 80 → T i = 32)
theorem wh_30 {w h : Int} (h1 : 2 ≤ w ∧ w ≤ 6 ∧ 1 ≤ h ∧ h ≤ 5) : 2 ≤ w * h ∧ w * h ≤ 30 := by
  rcases (show w = 2 ∨ w = 3 ∨ w = 4 ∨ w = 5 ∨ w = 6 by omega) with rfl | rfl | rfl | rfl | rfl <;> omega
theorem skip_at {T : Int → Int} {s q : Int} (h : T q ≠ 32) : p_skip T s q = q := by
  unfold p_skip
  generalize (s - q).toNat = m
  cases m with
  | zero => rfl
  | succ m =>
    show (if q < s ∧ T q = 32 then p_sk T s m (q + 1) else q) = q
    rw [if_neg (fun z => h z.2)]
theorem sk_end {T : Int → Int} {s : Int} : ∀ (m : Nat) (q : Int), q + m = s → (∀ i, q ≤ i → i < s → T i = 32) → p_sk T s m q = s
  | 0, q, e, _ => by
    show q = s
    omega
  | m + 1, q, e, h => by
    show (if q < s ∧ T q = 32 then p_sk T s m (q + 1) else q) = s
    rw [if_pos ⟨by omega, h q (Int.le_refl q) (by omega)⟩]
    exact sk_end m (q + 1) (by omega) (fun i h1 h2 => h i (by omega) h2)
theorem skip_end {T : Int → Int} {s q : Int} (hq : q ≤ s) (h : ∀ i, q ≤ i → i < s → T i = 32) : p_skip T s q = s := sk_end _ q (by omega) h
theorem tbS_is {v : Int} (h1 : 0 ≤ v) (h2 : v ≤ 4) : p_sign (p_tbS v) = v ∧ p_tbS v ≠ 32 ∧ 0 ≤ p_tbS v ∧ p_tbS v < 128 := by
  rcases (show v = 0 ∨ v = 1 ∨ v = 2 ∨ v = 3 ∨ v = 4 by omega) with rfl | rfl | rfl | rfl | rfl <;> decide +kernel
theorem tbL_is {v : Int} (h1 : 0 ≤ v) (h2 : v ≤ 5) : p_lett (p_tbL v) = v ∧ p_tbL v ≠ 32 ∧ 0 ≤ p_tbL v ∧ p_tbL v < 128 := by
  rcases (show v = 0 ∨ v = 1 ∨ v = 2 ∨ v = 3 ∨ v = 4 ∨ v = 5 by omega) with rfl | rfl | rfl | rfl | rfl | rfl <;> decide +kernel
theorem sg_is {T : Int → Int} {s q : Int} (h : q < s) : p_sg T s q = T q := if_pos h
theorem fig_is {T : Int → Int} {s lo hi q v : Int} (hq : q < s) (e : T q = 48 + v) (h1 : lo ≤ v) (h2 : v ≤ hi) : p_fig T s lo hi q = v := by
  unfold p_fig
  rw [sg_is hq, e, if_pos (by omega)]
  omega
theorem rdC_is {T : Int → Int} {gr : Fl} : ∀ (m : Nat) (c q : Int) (g0 : Fl), q + m ≤ 80 → (∀ j, c ≤ j → j < c + m → T (q + (j - c)) = p_tbS (gr j) ∧ 0 ≤ gr j ∧ gr j ≤ 4) → ∃ g', p_rdC T 80 m c q g0 = (true, q + m, g') ∧ (∀ j, c ≤ j → j < c + m → g' j = gr j) ∧ (∀ j, j < c → g' j = g0 j)
  | 0, c, q, g0, _, _ => ⟨g0, by rw [show q + ((0 : Nat) : Int) = q by omega]; rfl, fun j h1 h2 => absurd h2 (by omega), fun _ _ => rfl⟩
  | m + 1, c, q, g0, hq, h => by
    have h0 := h c (Int.le_refl c) (by omega)
    rw [show q + (c - c) = q by omega] at h0
    have hs := tbS_is h0.2.1 h0.2.2
    have e1 : p_skip T 80 q = q := skip_at (by rw [h0.1]; exact hs.2.1)
    have e2 : p_sign (p_sg T 80 q) = gr c := by rw [sg_is (by omega), h0.1]; exact hs.1
    obtain ⟨g', r1, r2, r3⟩ := rdC_is m (c + 1) (q + 1) (f2 g0 c (gr c)) (by omega) (fun j j1 j2 => by
      have := h j (by omega) (by omega)
      rw [show q + 1 + (j - (c + 1)) = q + (j - c) by omega]
      exact this)
    refine ⟨g', ?_, fun j j1 j2 => ?_, fun j j1 => ?_⟩
    · show (if p_sign (p_sg T 80 (p_skip T 80 q)) = -9 then (false, p_skip T 80 q, g0) else p_rdC T 80 m (c + 1) (p_skip T 80 q + 1) (f2 g0 c (p_sign (p_sg T 80 (p_skip T 80 q))))) = _
      rw [e1, e2, if_neg (by omega), r1, show q + 1 + (m : Int) = q + ((m + 1 : Nat) : Int) by omega]
    · by_cases z : j = c
      · subst z
        rw [r3 j (by omega)]
        exact if_pos rfl
      · exact r2 j (by omega) (by omega)
    · rw [r3 j (by omega)]
      exact if_neg (by omega)
theorem rdB_is {w h n : Int} {gr kd ce : Fl} (hG : okG w h n gr kd ce) {T : Int → Int} : ∀ (m : Nat) (k q : Int) (kd0 f0 : Fl), 0 ≤ k → k ≤ n → n - k ≤ m → q + 3 * (n - k) ≤ 80 → (∀ j, k ≤ j → j < n → T (q + 3 * (j - k)) = p_tbL (kd j) ∧ T (q + 3 * (j - k) + 1) = 48 + ce j % w ∧ T (q + 3 * (j - k) + 2) = 48 + ce j / w) → (∀ i, q + 3 * (n - k) ≤ i → i < 80 → T i = 32) → (∀ j, 0 ≤ j → j < k → f0 (5 + j) = ce j) → ∃ kd' f', p_rdB T 80 w h gr m k q kd0 f0 = (true, 80, n, kd', f') ∧ (∀ j, 0 ≤ j → j < k → kd' j = kd0 j ∧ f' (5 + j) = f0 (5 + j) ∧ f' (9 + j) = f0 (9 + j)) ∧ (∀ j, k ≤ j → j < n → kd' j = kd j ∧ f' (5 + j) = ce j ∧ f' (9 + j) = 0) ∧ (∀ i, i ≤ 4 → f' i = f0 i)
  | 0, k, q, kd0, f0, k0, k1, km, hq, ht, hb, hf => by
    have e : k = n := by omega
    subst e
    have es : p_skip T 80 q = 80 := skip_end (by omega) (fun i i1 i2 => hb i (by omega) i2)
    refine ⟨kd0, f0, ?_, fun j _ _ => ⟨rfl, rfl, rfl⟩, fun j j1 j2 => absurd j2 (by omega), fun _ _ => rfl⟩
    show (decide (p_skip T 80 q = 80), p_skip T 80 q, k, kd0, f0) = _
    rw [es]
    rfl
  | m + 1, k, q, kd0, f0, k0, k1, km, hq, ht, hb, hf => by
    by_cases e : k = n
    · subst e
      have es : p_skip T 80 q = 80 := skip_end (by omega) (fun i i1 i2 => hb i (by omega) i2)
      refine ⟨kd0, f0, ?_, fun j _ _ => ⟨rfl, rfl, rfl⟩, fun j j1 j2 => absurd j2 (by omega), fun _ _ => rfl⟩
      show (if p_skip T 80 q = 80 then (true, p_skip T 80 q, k, kd0, f0) else _) = _
      rw [if_pos es, es]
    · obtain ⟨hw, hn, hg, hk, hd⟩ := hG
      have hG : okG w h n gr kd ce := ⟨hw, hn, hg, hk, hd⟩
      have n4 : n ≤ 4 := hn.2
      obtain ⟨t0, t1, t2⟩ := ht k (Int.le_refl k) (by omega)
      rw [show q + 3 * (k - k) = q by omega] at t0 t1 t2
      obtain ⟨⟨kd1, kd2⟩, c0, c1, g1, g2⟩ := hk k k0 (by omega)
      have hl := tbL_is kd1 kd2
      have es : p_skip T 80 q = q := skip_at (by rw [t0]; exact hl.2.1)
      have x0 : 0 ≤ ce k % w := Int.emod_nonneg _ (by omega)
      have x1 : ce k % w < w := Int.emod_lt_of_pos _ (by omega)
      have y0 : 0 ≤ ce k / w := Int.ediv_nonneg c0 (by omega)
      have y1 : ce k / w < h := Int.ediv_lt_of_lt_mul (by omega) (by rw [Int.mul_comm]; exact c1)
      have ec : ce k / w * w + ce k % w = ce k := by
        have := Int.emod_add_mul_ediv (ce k) w
        rw [Int.mul_comm] at this
        omega
      have f1 : p_lett (p_sg T 80 q) = kd k := by rw [sg_is (by omega), t0]; exact hl.1
      have f2' : p_fig T 80 0 (w - 1) (q + 1) = ce k % w := fig_is (by omega) t1 x0 (by omega)
      have f3 : p_fig T 80 0 (h - 1) (q + 2) = ce k / w := fig_is (by omega) t2 y0 (by omega)
      have hwho : p_who k f0 (ce k) (-9) = -9 := (who_none k0).mpr (fun j j0 j1 _ => by
        rw [hf j j0 j1]
        exact hd j k j0 j1 (by omega))
      have eB : p_rdB1 T 80 w h gr k f0 q = (true, q + 3, kd k, ce k) := by
        unfold p_rdB1
        rw [f1, f2', f3, ec, if_neg (by omega), if_neg (by omega), if_neg (by omega), if_pos ⟨⟨g1, g2⟩, hwho⟩]
      obtain ⟨kd', f', r1, r2, r3, r4⟩ := rdB_is hG m (k + 1) (q + 3) (f2 kd0 k (kd k)) (p_put1 f0 k (ce k)) (by omega) (by omega) (by omega) (by omega) (fun j j1 j2 => by
          rw [show q + 3 + 3 * (j - (k + 1)) = q + 3 * (j - k) by omega]
          exact ht j (by omega) j2) (fun i i1 i2 => hb i (by omega) i2) (fun j j0 j1 => by
          rw [put1_c k0 (by omega) j0 (by omega)]
          by_cases z : j = k
          · rw [if_pos z, z]
          · rw [if_neg z]
            exact hf j j0 (by omega))
      have p9 : ∀ j, 0 ≤ j → j < 4 → p_put1 f0 k (ce k) (9 + j) = if j = k then 0 else f0 (9 + j) := fun j j0 j4 => by
        unfold p_put1 p_set
        by_cases z : j = k
        · rw [if_pos (by omega), if_pos z]
        · rw [if_neg (by omega), if_neg (by omega), if_neg z]
      refine ⟨kd', f', ?_, fun j j0 j1 => ?_, fun j j1 j2 => ?_, fun i hi => ?_⟩
      · show (if p_skip T 80 q = 80 then (true, p_skip T 80 q, k, kd0, f0) else if (p_rdB1 T 80 w h gr k f0 (p_skip T 80 q)).1 = true then p_rdB T 80 w h gr m (k + 1) (p_rdB1 T 80 w h gr k f0 (p_skip T 80 q)).2.1 (f2 kd0 k (p_rdB1 T 80 w h gr k f0 (p_skip T 80 q)).2.2.1) (p_put1 f0 k (p_rdB1 T 80 w h gr k f0 (p_skip T 80 q)).2.2.2) else _) = _
        rw [es, eB, if_neg (by omega), if_pos rfl]
        exact r1
      · have := r2 j j0 (by omega)
        rw [this.1, this.2.1, this.2.2, put1_c k0 (by omega) j0 (by omega), p9 j j0 (by omega), if_neg (by omega), if_neg (by omega)]
        exact ⟨if_neg (by omega), rfl, rfl⟩
      · by_cases z : j = k
        · subst z
          have := r2 j k0 (by omega)
          rw [this.1, this.2.1, this.2.2, put1_c k0 (by omega) k0 (by omega), p9 j k0 (by omega), if_pos rfl, if_pos rfl]
          exact ⟨if_pos rfl, rfl, rfl⟩
        · exact r3 j (by omega) j2
      · rw [r4 i hi]
        exact put1_lo k0 hi
/-- the whole text -/
theorem read_is {w h n : Int} {gr kd ce : Fl} (hG : okG w h n gr kd ce) {T : Int → Int} (hT : okT w h n gr kd ce T) : p_faultV T 80 = -9 ∧ (p_rdG T 80).2.2 = (w, h) ∧ ∃ gr' kd' f', (p_rC T 80).2.2 = gr' ∧ (p_rB T 80).2.2 = (n, kd', f') ∧ (∀ c, 0 ≤ c → c < w * h → gr' c = gr c) ∧ (∀ k, 0 ≤ k → k < n → kd' k = kd k ∧ f' (5 + k) = ce k ∧ f' (9 + k) = 0) ∧ f' 0 = 0 := by
  obtain ⟨⟨T0, T1, T2, T3⟩, hTc, hTb, hTe⟩ := hT
  have hw := hG.1
  have hN := wh_30 hw
  have hn := hG.2.1
  have e0 : p_skip T 80 0 = 1 := by
    show (if (0 : Int) < 80 ∧ T 0 = 32 then p_sk T 80 79 (0 + 1) else 0) = 1
    rw [if_pos ⟨by decide, T0⟩]
    show (if (0 + 1 : Int) < 80 ∧ T (0 + 1) = 32 then p_sk T 80 78 (0 + 1 + 1) else 0 + 1) = 1
    rw [if_neg (fun z => by have := z.2; rw [show (0 + 1 : Int) = 1 by rfl, T1] at this; omega)]
    rfl
  have eG : p_rdG T 80 = (true, 4, w, h) := by
    unfold p_rdG
    rw [e0, sg_is (by decide), T1, fig_is (v := w) (by decide) (by rw [show (1 + 1 : Int) = 2 by rfl]; exact T2) (by omega) (by omega), fig_is (v := h) (by decide) (by rw [show (1 + 2 : Int) = 3 by rfl]; exact T3) (by omega) (by omega), if_pos rfl, if_neg (by omega), if_neg (by omega)]
    rfl
  obtain ⟨gr', c1, c2, -⟩ := rdC_is (T := T) (gr := gr) (w * h).toNat 0 4 (fun _ => 0) (by omega) (fun j j0 j1 => by
    rw [show 4 + (j - 0) = 4 + j by omega]
    exact ⟨hTc j j0 (by omega), hG.2.2.1 j j0 (by omega)⟩)
  have eC : p_rC T 80 = (true, 4 + w * h, gr') := by
    unfold p_rC
    rw [eG]
    dsimp only
    rw [c1, show (4 : Int) + ((w * h).toNat : Int) = 4 + w * h by omega]
  have hgr : ∀ c, 0 ≤ c → c < w * h → gr' c = gr c := fun c h0 h1 => c2 c h0 (by omega)
  have hG' : okG w h n gr' kd ce := ⟨hG.1, hG.2.1, fun c h0 h1 => by rw [hgr c h0 h1]; exact hG.2.2.1 c h0 h1, fun k k0 k1 => by
    have hk := hG.2.2.2.1 k k0 k1
    rw [hgr _ hk.2.1 hk.2.2.1]
    exact hk, hG.2.2.2.2⟩
  obtain ⟨kd', f', b1, -, b3, b4⟩ := rdB_is hG' (T := T) 4 0 (4 + w * h) (fun _ => 0) p_clr (Int.le_refl 0) hn.1 (by omega) (by omega) (fun j j0 j1 => by
    rw [show 4 + w * h + 3 * (j - 0) = 4 + w * h + 3 * j by omega]
    exact hTb j j0 j1) (fun i i1 i2 => hTe i (by omega) i2) (fun j j0 j1 => absurd j1 (by omega))
  have eB : p_rB T 80 = (true, 80, n, kd', f') := by
    unfold p_rB
    rw [eG, eC]
    exact b1
  refine ⟨?_, by rw [eG], gr', kd', f', by rw [eC], by rw [eB], hgr, b3, b4 0 (by decide)⟩
  unfold p_faultV
  rw [eG, eC, eB]
  rfl
theorem byte_fin : ∀ m, m < 128 → p_byte (nI m) = (m : Int) := by decide +kernel
theorem byte_is {v : Int} (h1 : 0 ≤ v) (h2 : v < 128) : p_byte (j_k v) = v := by
  obtain ⟨m, rfl⟩ : ∃ m : Nat, v = m := ⟨v.toNat, by omega⟩
  rw [← nI_k]
  exact byte_fin m (by omega)
