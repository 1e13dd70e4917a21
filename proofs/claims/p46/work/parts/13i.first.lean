/-! ===== the first state, and the law's whole run ===== -/
def A0 : Ast := (fun _ => -1, fun _ _ => 0, fun _ => -1, fun _ _ => 0, 0, 0, fun _ => 0, 0, fun _ => 0, fun i => if i = 0 then 0 else -9, fun _ => false, fun _ _ => 0, 0, 0, 1, 0, fun _ => 0)
section FIRST
variable {I : Nat → Nat → Int32}
theorem fI_ne {a r : Nat} (h : r ≠ a) : fI a I r = I r := by
  unfold fI
  rw [u2_row h, u2_row h, u2_row h, u2_row h]
/-- a cell that no constructor writes ints to -/
theorem e_I_0 {r : Nat} (h : r ≠ 9 ∧ r ≠ 16 ∧ r ≠ 22 ∧ r ≠ 31 ∧ r ≠ 36 ∧ r ≠ 40 ∧ r ≠ 44 ∧ r ≠ 48 ∧ r ≠ 55 ∧ r ≠ 59 ∧ r ≠ 63 ∧ r ≠ 67 ∧ r ≠ 74 ∧ r ≠ 78 ∧ r ≠ 82) : e_I I r = I r := by
  obtain ⟨a1, a2, a3, a4, a5, a6, a7, a8, a9, b1, b2, b3, b4, b5, b6⟩ := h
  unfold e_I
  simp (disch := assumption) only [fI_ne, u1_ne]
theorem e_I_9 : e_I I 9 = m1 6 := rfl
theorem e_I_16 : e_I I 16 = m1 4 := rfl
theorem e_I_31 : e_I I 31 = u1 (u1 (u1 (u1 (I 31) 4 (j_k (-9))) 5 (j_k (-9))) 6 (j_k (-9))) 7 (j_k (-9)) := rfl
theorem m1_at {n : Nat} {i : Int} (h1 : 0 ≤ i) (h2 : i < n) : m1 n i.toNat = j_k (-1) := if_pos (by omega)
theorem A0_okC : okC 0 0 0 0 (fun _ => 0) (fun _ => 0) := ⟨rfl, Or.inr ⟨rfl, rfl, rfl⟩, by decide, by decide, fun c h1 h2 => ⟨show (0 : Int) ≤ 0 by decide, show (0 : Int) ≤ 4 by decide⟩, fun c h1 h2 => ⟨show (0 : Int) ≤ 0 by decide, show (0 : Int) ≤ 5 by decide⟩⟩
theorem A0_okF : okF 0 0 10000 (fun i => if i = 0 then 0 else -9) := ⟨fun k h1 h2 => by omega, fun j k h1 h2 h3 => by omega, Or.inl ⟨rfl, rfl⟩, Or.inl ⟨rfl, rfl⟩, fun _ => rfl, by decide, by decide⟩
theorem A0_ok : okA A0 := ⟨A0_okC, A0_okF, fun k _ _ z => (Bool.false_ne_true z).elim, fun r _ _ => ⟨show (-1 : Int) ≤ -1 by decide, show (-1 : Int) ≤ 60 by decide⟩, fun r _ _ => ⟨show (-1 : Int) ≤ -1 by decide, show (-1 : Int) ≤ 80 by decide⟩, fun t i _ _ _ _ => ⟨show (-128 : Int) ≤ 0 by decide, show (0 : Int) ≤ 127 by decide⟩⟩
theorem iX0 (hI : ∀ r, r < 1000000 → I r = fun _ => 0) (hT : iT I) (hS : xS I) : iX (e_I I) e_J A0 := by
  have z : ∀ r k, r < 1000000 → (r ≠ 9 ∧ r ≠ 16 ∧ r ≠ 22 ∧ r ≠ 31 ∧ r ≠ 36 ∧ r ≠ 40 ∧ r ≠ 44 ∧ r ≠ 48 ∧ r ≠ 55 ∧ r ≠ 59 ∧ r ≠ 63 ∧ r ≠ 67 ∧ r ≠ 74 ∧ r ≠ 78 ∧ r ≠ 82) → e_I I r k = j_k 0 := fun r k h1 h2 => by rw [e_I_0 h2, hI r h1, kk0]
  have y : ∀ r, 1000000 ≤ r → e_I I r = I r := fun r h => e_I_0 (by omega)
  have z31 : ∀ k, I 31 k = j_k 0 := fun k => by rw [hI 31 (by decide), kk0]
  refine ⟨A0_ok, fun r r1 r2 => ⟨?_, fun i i1 i2 => ?_⟩, fun t t1 t2 => ⟨?_, fun i i1 i2 => ?_⟩, ?_, ?_, fun k k1 k2 => ⟨?_, fun q => (Bool.false_ne_true q).elim⟩, ⟨0, by decide, by decide, z 0 11 (by decide) (by decide)⟩, ?_, hT.cg (y _ (by decide)) (y _ (by decide)), hS.cg (y _ (by decide)) (y _ (by decide))⟩
  · rw [e_I_9]
    exact m1_at r1 r2
  · rw [z _ _ (by omega) (by omega)]
    exact kk0
  · rw [e_I_16]
    exact m1_at t1 t2
  · exact z _ _ (by omega) (by omega)
  · exact ⟨z _ _ (by decide) (by decide), z _ _ (by decide) (by decide), z _ _ (by decide) (by decide), fun c c1 c2 => absurd c2 (Int.not_lt.mpr c1), fun c c1 c2 => absurd c2 (Int.not_lt.mpr c1), fun c c1 c2 => absurd c2 (Int.not_lt.mpr c1)⟩
  · unfold iF
    rw [e_I_31]
    refine ⟨?_, ?_, ?_, ?_, ?_, ?_, fun k k1 k2 => absurd k2 (Int.not_lt.mpr k1), fun k k1 k2 => absurd k2 (Int.not_lt.mpr k1), fun k k1 k2 => absurd k2 (Int.not_lt.mpr k1), fun c c1 c2 => ?_⟩
    · rw [u1_ne (by decide), u1_ne (by decide), u1_ne (by decide), u1_ne (by decide), z31]
      rfl
    · rw [u1_ne (by decide), u1_ne (by decide), u1_ne (by decide), u1_same]
      rfl
    · rw [u1_ne (by decide), u1_ne (by decide), u1_same]
      rfl
    · rw [u1_ne (by decide), u1_same]
      rfl
    · rw [u1_same]
      rfl
    · rw [u1_ne (by decide), u1_ne (by decide), u1_ne (by decide), u1_ne (by decide), z31]
      rfl
    · rw [u1_ne (by decide), u1_ne (by decide), u1_ne (by decide), u1_ne (by decide), hI 31 (by decide)]
      constructor
      · intro q
        unfold bt at q
        simp at q
      · rintro ⟨k, k1, k2, -⟩
        exact absurd k2 (Int.not_lt.mpr k1)
  · rw [z 0 11 (by decide) (by decide), kk0]
    show (0 : BitVec 32).getLsbD k.toNat = false
    simp
  · exact ⟨z 0 13 (by decide) (by decide), rfl, rfl, z 0 12 (by decide) (by decide), fun q _ _ => z 86 _ (by decide) (by decide)⟩
end FIRST
theorem okG_cg {w h n : Int} {gr gr' kd ce : Fl} (hG : okG w h n gr kd ce) (e : ∀ c, 0 ≤ c → c < w * h → gr' c = gr c) : okG w h n gr' kd ce := ⟨hG.1, hG.2.1, fun c c0 c1 => by rw [e c c0 c1]; exact hG.2.2.1 c c0 c1, fun k k0 k1 => by
  have hk := hG.2.2.2.1 k k0 k1
  rw [e _ hk.2.1 hk.2.2.1]
  exact hk, hG.2.2.2.2⟩
/-- the law, run by the little machine, answers true -/
theorem law_all {L d : Nat} {I : Nat → Nat → Int32} (hL : L < 1000) (hI : ∀ r, r < 1000000 → I r = fun _ => 0) (hT : iT I) (hS : xS I) : ∃ p' I' J', j_exec k_137 h_137 (j_run (d + 12)) 999999 0 [some (.ref 1000004), none, none, none, none, none, none, none, none, none, none, none, none, none, none, none, none] [] (CT L 0 0 (fun _ _ => none) I (fun _ _ => 0)) = some (some (.int (j_k 1)), ST (L + 1000 + 1000) p' I' J') := by
  have h : nw 0 (fun _ _ => none) I (fun _ _ => (0 : Int64)) := ⟨fun _ _ _ => rfl, fun r _ b => hI r b, fun _ _ _ => rfl⟩
  have h87 : nw 87 e_P (e_I I) e_J := ⟨e_nw.1, fun r a b => by
    rw [e_I_0 (by omega)]
    exact hI r b, fun r a b => by
    unfold e_J
    rw [u2_row (by omega)]⟩
  have x0 := iX0 hI hT hS
  obtain ⟨I1, w, hh, n, gr, kd, ce, a1, hG, hI1, a4⟩ := nu_all (L := L) (p := 26) (d := d + 10) (I := e_I I) (J := e_J)
  have a1 : j_run (d + 12) 130 [.ref 1000004, .int (j_k 10), .int (j_k 4), .ref 87] (ST L 26 (e_I I) e_J) = some (none, ST L 26 I1 e_J) := a1
  have x1 : iX I1 e_J A0 := iX.hi x0 (fun r hr => a4 r (by omega)) rfl
  obtain ⟨p2, I2, J2, A, b1, b2, b3, b4⟩ := gd_all (L := L) (p := 26) (d := d + 5) hG hI1 x1
  have b1 : j_run (d + 12) 131 [.ref 0, .ref 87] (ST L 26 I1 e_J) = some (some (.int (j_k 1)), ST L p2 I2 J2) := b1
  obtain ⟨g1, g2, g3, g4, g5, g6, g7⟩ := b4
  subst g1
  subst g2
  subst g3
  have hG2 : okG (a_gw A) (a_gh A) (a_gn A) (a_gr A) kd ce := okG_cg hG g4
  have hI2 : gI I2 (a_gw A) (a_gh A) (a_gn A) (a_gr A) kd ce := by
    have q := hI1.cg (b3.1 87 (by decide))
    exact ⟨q.1, q.2.1, fun c c0 c1 => by rw [g4 c c0 c1]; exact q.2.2.1 c c0 c1, q.2.2.2⟩
  have hw30 := wh_30 hG2.1
  have hN : a_N A ≠ 0 := by
    show a_gw A * a_gh A ≠ 0
    omega
  have n4 := b2.1.1.2.2.2.1
  have n0 := b2.1.1.2.2.1
  have i40 := hI2.2.2.2.1
  obtain ⟨M, hM, hM2⟩ : ∃ M, M + 1 = 999999 ∧ 100000 < M := ⟨999998, rfl, by decide⟩
  obtain ⟨p3, I3, J3, u⟩ := lw_at (L := L + 1000 + 1000) (d := d) (kd := kd) (ce := ce) (by omega) hN (a_gn A).toNat M p2 0 (u1 (u1 I2 88 (fun _ => 0)) 89 (fun _ => 0)) (u1 (u1 J2 88 (fun _ => 0)) 89 (fun _ => 0)) (Int.le_refl 0) (by omega) (by omega) (iX.hi b2 (fun r hr => by rw [u1_ne (by omega), u1_ne (by omega)]) (by rw [u1_ne (by decide), u1_ne (by decide)])) hG2 (hI2.cg (by rw [u1_ne (by decide), u1_ne (by decide)])) (fun k k0 k1 hl => by
    rw [(g5 k k0 k1).1]
    exact (hG2.2.2.2.1 k k0 k1).2.2.2) g5 g6 (by rw [g7]; rfl) (by rw [g7]; rfl) (fun j j0 j1 => absurd j1 (by omega)) (fun j j0 j1 => by
    rw [u1_same]
    exact kk0.symm)
  refine ⟨p3, I3, J3, ?_⟩
  have E68 : ∀ Ks, j_c0 (j_run (d + 12)) 68 [.ref 0] (CT L 1 16 (fun _ _ => none) I (fun _ _ => 0)) Ks = Ks (CT L 87 1437 e_P (e_I I) e_J) := fun Ks => i_68 (L := L) (s := 16) (show 3 ≤ d + 12 by omega) h.up
  have E87 : s_al (CT L 87 1437 e_P (e_I I) e_J) (.inr (.int, 64)) 64 = ST L 26 (e_I I) e_J := by
    rw [ct_al h87 (by decide) rfl]
    exact CT_ST hL (e_PP e_nw)
  have E88 : s_al (ST L p2 I2 J2) (.inr (.int, 4)) 4 = ST (L + 1000) p2 (u1 I2 88 (fun _ => 0)) (u1 J2 88 (fun _ => 0)) := by
    rw [st_al (by omega), show 88 + L / 1000 = 88 by omega]
  have E89 : s_al (ST (L + 1000) p2 (u1 I2 88 (fun _ => 0)) (u1 J2 88 (fun _ => 0))) (.inr (.int, 4)) 4 = ST (L + 1000 + 1000) p2 (u1 (u1 I2 88 (fun _ => 0)) 89 (fun _ => 0)) (u1 (u1 J2 88 (fun _ => 0)) 89 (fun _ => 0)) := by
    rw [st_al (by omega), show 88 + (L + 1000) / 1000 = 89 by omega]
  have n64 : (j_k 64).toNatClampNeg = 64 := k_nat (by decide) (by decide)
  have n4' : (j_k 4).toNatClampNeg = 4 := k_nat (by decide) (by decide)
  have z64 : (j_k 64 < 0 ∨ 100000 < 64) = False := by
    have z := sz_n (n := 64) (by decide) (by decide)
    rw [n64] at z
    exact z
  have z4 : (j_k 4 < 0 ∨ 100000 < 4) = False := by
    have z := sz_n (n := 4) (by decide) (by decide)
    rw [n4'] at z
    exact z
  have nT : s_n (ST L p2 I2 J2) = 88 := by
    show 88 + L / 1000 = 88
    omega
  have nT2 : s_n (ST (L + 1000) p2 (u1 I2 88 (fun _ => 0)) (u1 J2 88 (fun _ => 0))) = 89 := by
    show 88 + (L + 1000) / 1000 = 89
    omega
  have y1 : (j_k 1 = 0) = False := k_z1
  have c40 : ∀ K, j_ia (ST L p2 I2 J2) 87 (j_k 40) K = K := fun K => c_ia_87 (by decide) (by decide)
  have v40 : s_I (ST L p2 I2 J2) 87 (j_k 40).toNatClampNeg = j_k (a_gn A) := by
    rw [k_nat (by decide) (by decide)]
    exact i40
  rw [← hM, x_exec, t_137_0]
  rw [ct_n, ct_al h (by decide) rfl]
  show j_c0 (j_run (d + 12)) 68 [.ref 0] (CT L 1 16 (fun _ _ => none) I (fun _ _ => 0)) _ = _
  rw [E68]
  rw [n64, if_neg (show ¬ (j_k 64 < 0 ∨ 100000 < 64) by rw [z64]; exact id)]
  show j_c0 (j_run (d + 12)) 130 [.ref 1000004, .int (j_k 10), .int (j_k 4), .ref 87] (s_al (CT L 87 1437 e_P (e_I I) e_J) (.inr (.int, 64)) 64) _ = _
  rw [E87, jc0 a1]
  show j_c1 (j_run (d + 12)) 131 [.ref 0, .ref 87] (ST L 26 I1 e_J) _ = _
  rw [jc1 b1, if_neg (show ¬ j_k 1 = 0 by rw [y1]; exact id)]
  show j_ia (ST L p2 I2 J2) 87 (j_k 40) _ = _
  rw [c40, n4', if_neg (show ¬ (j_k 4 < 0 ∨ 100000 < 4) by rw [z4]; exact id), if_neg (show ¬ (j_k 4 < 0 ∨ 100000 < 4) by rw [z4]; exact id)]
  show j_exec k_137 h_137 (j_run (d + 12)) M 49 [some (.ref 1000004), some (.ref 0), some (.ref 87), some (.int (s_I (ST L p2 I2 J2) 87 (j_k 40).toNatClampNeg)), some (.ref (s_n (ST L p2 I2 J2))), some (.ref (s_n (s_al (ST L p2 I2 J2) (.inr (.int, 4)) 4))), some (.int (j_k 0)), none, none, none, none, none, none, none, none, none, none] [] (s_al (s_al (ST L p2 I2 J2) (.inr (.int, 4)) 4) (.inr (.int, 4)) 4) = _
  rw [v40, nT, E88, E89, nT2]
  exact u
