/-! ===== the first state, and the law's whole run ===== -/
def A0 : Ast := (fun _ => -1, fun _ _ => 0, fun _ => -1, fun _ _ => 0, 0, 0, fun _ => 0, 0, fun _ => 0, fun i => if i = 0 then 0 else -9, fun _ => false, fun _ _ => 0, 0, 0, 1, 0, fun _ => 0)
section FIRST
variable {I : Nat → Nat → Int32}
theorem fI_ne {a r : Nat} (h : r ≠ a) : fI a I r = I r := by
  unfold fI
  rw [u2_row h, u2_row h, u2_row h, u2_row h]
/-- a cell that no constructor writes ints to -/
theorem e_I2_0 {r : Nat} (h : r ≠ 9 ∧ r ≠ 16 ∧ r ≠ 22 ∧ r ≠ 31 ∧ r ≠ 36 ∧ r ≠ 40 ∧ r ≠ 44 ∧ r ≠ 48 ∧ r ≠ 55 ∧ r ≠ 59 ∧ r ≠ 63 ∧ r ≠ 67 ∧ r ≠ 74 ∧ r ≠ 78 ∧ r ≠ 82 ∧ r ≠ 89 ∧ r ≠ 92 ∧ r ≠ 99) : e_I2 I r = I r := by
  obtain ⟨a1, a2, a3, a4, a5, a6, a7, a8, a9, b1, b2, b3, b4, b5, b6, b7, b8, b9⟩ := h
  unfold e_I2 e_I
  simp (disch := assumption) only [u2_row, fI_ne, u1_ne]
theorem e_I2_9 : e_I2 I 9 = m1 6 := rfl
theorem e_I2_16 : e_I2 I 16 = m1 4 := rfl
theorem e_I2_31 : e_I2 I 31 = u1 (u1 (u1 (u1 (I 31) 4 (j_k (-9))) 5 (j_k (-9))) 6 (j_k (-9))) 7 (j_k (-9)) := rfl
theorem e_I2_89 : e_I2 I 89 = u1 (u1 (u1 (u1 (u1 (u1 (I 89) 0 (j_k (-1))) 1 (j_k (-1))) 2 (j_k (-1))) 3 (j_k (-1))) 4 (j_k (-1))) 5 (j_k (-1)) := rfl
theorem e_I2_92 : e_I2 I 92 = u1 (u1 (u1 (u1 (I 92) 0 (j_k (-1))) 1 (j_k (-1))) 2 (j_k (-1))) 3 (j_k (-1)) := rfl
theorem e_I2_99 : e_I2 I 99 = u1 (u1 (u1 (u1 (I 99) 1 (j_k (-9))) 2 (j_k (-9))) 3 (j_k (-9))) 4 (j_k (-9)) := rfl
theorem m1_at {n : Nat} {i : Int} (h1 : 0 ≤ i) (h2 : i < n) : m1 n i.toNat = j_k (-1) := if_pos (by omega)
theorem A0_okC : okC 0 0 0 0 (fun _ => 0) (fun _ => 0) := ⟨rfl, Or.inr ⟨rfl, rfl, rfl⟩, by decide, by decide, fun c h1 h2 => ⟨show (0 : Int) ≤ 0 by decide, show (0 : Int) ≤ 4 by decide⟩, fun c h1 h2 => ⟨show (0 : Int) ≤ 0 by decide, show (0 : Int) ≤ 5 by decide⟩⟩
theorem A0_okF : okF 0 0 10000 (fun i => if i = 0 then 0 else -9) := ⟨fun k h1 h2 => by omega, fun j k h1 h2 h3 => by omega, Or.inl ⟨rfl, rfl⟩, Or.inl ⟨rfl, rfl⟩, fun _ => rfl, by decide, by decide⟩
theorem A0_ok : okA A0 := ⟨A0_okC, A0_okF, fun k _ _ z => (Bool.false_ne_true z).elim, fun r _ _ => ⟨show (-1 : Int) ≤ -1 by decide, show (-1 : Int) ≤ 60 by decide⟩, fun r _ _ => ⟨show (-1 : Int) ≤ -1 by decide, show (-1 : Int) ≤ 80 by decide⟩, fun t i _ _ _ _ => ⟨show (-128 : Int) ≤ 0 by decide, show (0 : Int) ≤ 127 by decide⟩⟩
theorem iX0 (hI : ∀ r, r < 1000000 → I r = fun _ => 0) (hT : iT I) (hS : xS I) : iX (e_I2 I) e_J A0 := by
  have z : ∀ r k, r < 1000000 → (r ≠ 9 ∧ r ≠ 16 ∧ r ≠ 22 ∧ r ≠ 31 ∧ r ≠ 36 ∧ r ≠ 40 ∧ r ≠ 44 ∧ r ≠ 48 ∧ r ≠ 55 ∧ r ≠ 59 ∧ r ≠ 63 ∧ r ≠ 67 ∧ r ≠ 74 ∧ r ≠ 78 ∧ r ≠ 82 ∧ r ≠ 89 ∧ r ≠ 92 ∧ r ≠ 99) → e_I2 I r k = j_k 0 := fun r k h1 h2 => by rw [e_I2_0 h2, hI r h1, kk0]
  have y : ∀ r, 1000000 ≤ r → e_I2 I r = I r := fun r h => e_I2_0 (by omega)
  have z31 : ∀ k, I 31 k = j_k 0 := fun k => by rw [hI 31 (by decide), kk0]
  refine ⟨A0_ok, fun r r1 r2 => ⟨?_, fun i i1 i2 => ?_⟩, fun t t1 t2 => ⟨?_, fun i i1 i2 => ?_⟩, ?_, ?_, fun k k1 k2 => ⟨?_, fun q => (Bool.false_ne_true q).elim⟩, ⟨0, by decide, by decide, z 0 11 (by decide) (by decide)⟩, ?_, hT.cg (y _ (by decide)) (y _ (by decide)), hS.cg (y _ (by decide)) (y _ (by decide))⟩
  · rw [e_I2_9]
    exact m1_at r1 r2
  · rw [z _ _ (by omega) (by omega)]
    exact kk0
  · rw [e_I2_16]
    exact m1_at t1 t2
  · exact z _ _ (by omega) (by omega)
  · exact ⟨z _ _ (by decide) (by decide), z _ _ (by decide) (by decide), z _ _ (by decide) (by decide), fun c c1 c2 => absurd c2 (Int.not_lt.mpr c1), fun c c1 c2 => absurd c2 (Int.not_lt.mpr c1), fun c c1 c2 => absurd c2 (Int.not_lt.mpr c1)⟩
  · unfold iF
    rw [e_I2_31]
    refine ⟨?_, ?_, ?_, ?_, ?_, ?_, fun k k1 k2 => absurd k2 (Int.not_lt.mpr k1), fun k k1 k2 => absurd k2 (Int.not_lt.mpr k1), fun k k1 k2 => absurd k2 (Int.not_lt.mpr k1), fun c c1 c2 => ?_⟩
    · rw [u1_ne (by decide), u1_ne (by decide), u1_ne (by decide), u1_ne (by decide), z31]
      rfl
    · rw [u1_ne (by decide), u1_ne (by decide), u1_ne (by decide), u1_same]
      rfl
    · rw [u1_ne (by decide), u1_ne (by decide), u1_same]
      rfl
    · rw [u1_ne (by decide), u1_same]
      rfl
    · rw [u1_same]
      rfl
    · rw [u1_ne (by decide), u1_ne (by decide), u1_ne (by decide), u1_ne (by decide), z31]
      rfl
    · rw [u1_ne (by decide), u1_ne (by decide), u1_ne (by decide), u1_ne (by decide), hI 31 (by decide)]
      constructor
      · intro q
        unfold bt at q
        simp at q
      · rintro ⟨k, k1, k2, -⟩
        exact absurd k2 (Int.not_lt.mpr k1)
  · rw [z 0 11 (by decide) (by decide), kk0]
    show (0 : BitVec 32).getLsbD k.toNat = false
    simp
  · exact ⟨z 0 13 (by decide) (by decide), rfl, rfl, z 0 12 (by decide) (by decide), fun q _ _ => z 86 _ (by decide) (by decide)⟩
theorem iM0 (hI : ∀ r, r < 1000000 → I r = fun _ => 0) : iM (e_I2 I) e_J A0 := by
  have z : ∀ r k, r < 1000000 → (r ≠ 9 ∧ r ≠ 16 ∧ r ≠ 22 ∧ r ≠ 31 ∧ r ≠ 36 ∧ r ≠ 40 ∧ r ≠ 44 ∧ r ≠ 48 ∧ r ≠ 55 ∧ r ≠ 59 ∧ r ≠ 63 ∧ r ≠ 67 ∧ r ≠ 74 ∧ r ≠ 78 ∧ r ≠ 82 ∧ r ≠ 89 ∧ r ≠ 92 ∧ r ≠ 99) → e_I2 I r k = j_k 0 := fun r k h1 h2 => by rw [e_I2_0 h2, hI r h1, kk0]
  have z99 : ∀ k, I 99 k = j_k 0 := fun k => by rw [hI 99 (by decide), kk0]
  refine ⟨A0_ok, fun r r1 r2 => ⟨?_, fun i i1 i2 => ?_⟩, fun t t1 t2 => ⟨?_, fun i i1 i2 => ?_⟩, ⟨A0_okC, z _ _ (by decide) (by decide), z _ _ (by decide) (by decide), z _ _ (by decide) (by decide), fun c c1 c2 => absurd c2 (Int.not_lt.mpr c1), fun c c1 c2 => absurd c2 (Int.not_lt.mpr c1)⟩, ⟨fun j j1 j2 => ?_, fun c c1 c2 => absurd c2 (Int.not_lt.mpr c1), fun c c1 c2 => absurd c2 (Int.not_lt.mpr c1)⟩, fun k k1 k2 => ⟨?_, fun q => (Bool.false_ne_true q).elim⟩, ?_⟩
  · rw [e_I2_89]
    have h : r = 0 ∨ r = 1 ∨ r = 2 ∨ r = 3 ∨ r = 4 ∨ r = 5 := by omega
    rcases h with rfl | rfl | rfl | rfl | rfl | rfl <;> rfl
  · rw [z _ _ (by decide) (by decide)]
    exact kk0
  · rw [e_I2_92]
    have h : t = 0 ∨ t = 1 ∨ t = 2 ∨ t = 3 := by omega
    rcases h with rfl | rfl | rfl | rfl <;> rfl
  · exact z _ _ (by decide) (by decide)
  · rw [e_I2_99]
    have h : j = 0 ∨ j = 1 ∨ j = 2 ∨ j = 3 ∨ j = 4 := by omega
    rcases h with rfl | rfl | rfl | rfl | rfl
    · exact z99 0
    · rfl
    · rfl
    · rfl
    · rfl
  · exact z _ _ (by decide) (by decide)
  · exact ⟨z 87 2 (by decide) (by decide), rfl, rfl, z 87 0 (by decide) (by decide), fun q _ _ => z 88 _ (by decide) (by decide)⟩
end FIRST
theorem law_start {L d : Nat} {I : Nat → Nat → Int32} (hI : ∀ r, r < 1000000 → I r = fun _ => 0) (again : Nat → j_L → List Value → Sto → Option Rr) : j_seg k_236 h_236 (j_run (d + 14)) again 2000 0 [some (.ref 1000004), none, none, none] [] (CT L 0 0 (fun _ _ => none) I (fun _ _ => 0)) = again 18 [some (.ref 1000004), some (.ref 0), some (.ref 87), some (.int (j_k 0))] [] (ST L 26 (e_I2 I) e_J) := by
  have h : nw 0 (fun _ _ => none) I (fun _ _ => (0 : Int64)) := ⟨fun _ _ _ => rfl, fun r _ b => hI r b, fun _ _ _ => rfl⟩
  have hP : e_P = PP 26 := e_PP e_nw
  have h87 : nw 87 e_P1 (e_I I) (u2 (fun _ _ => 0) 0 15 (Int64.ofNat 1)) := ⟨e_nw1.1, fun r a b => by
    unfold e_I
    simp (disch := omega) only [fI_ne, u1_ne]
    exact hI r b, fun r a b => by rw [u2_row (by omega)]⟩
  have e := (i_126 (L := L) (s := 1437 + 39) (d := d + 13) h87.up).trans ((congrArg (fun σ => j_exec k_126 h_126 (j_run (d + 13)) 999999 135 [some (.ref 87), some (.int (j_k 0))] [] σ) (CT_ST (L := L) (I := e_I I) (J := e_J) hP)).trans (i_126_z (L := L) (p := 26) (d := d + 12) (I := I) (J := e_J)))
  rw [t_236_0]
  simp (disch := first | omega | rfl | decide) only [ct_n, ct_al h (show 0 < 104 by decide) rfl, i_68 (show 3 ≤ d + 14 by omega) h.up, Nat.zero_add, Nat.reduceAdd]
  show j_c0 (j_run (d + 14)) 126 [.ref 87] (s_al (CT L 87 1437 e_P1 (e_I I) (u2 (fun _ _ => 0) 0 15 (Int64.ofNat 1))) (Sum.inl 7) 39) (fun τ4 => again 18 [some (.ref 1000004), some (.ref 0), some (.ref 87), some (.int (j_k 0))] [] τ4) = _
  rw [ct_al h87 (show 87 < 104 by decide) rfl]
  exact jc0 e
/-- the law, run by the little machine, answers true -/
theorem law_all {L d : Nat} {I : Nat → Nat → Int32} (hL : L ≤ 100000) (hI : ∀ r, r < 1000000 → I r = fun _ => 0) (hT : iT I) (hS : xS I) : ∃ p' I' J', j_exec k_236 h_236 (j_run (d + 14)) 999999 0 [some (.ref 1000004), none, none, none] [] (CT L 0 0 (fun _ _ => none) I (fun _ _ => 0)) = some (some (.int (j_k 1)), ST L p' I' J') := by
  obtain ⟨M, hM, hM2⟩ : ∃ M, M + 1 = 999999 ∧ 20000 < M := ⟨999998, rfl, by decide⟩
  rw [← hM, x_exec, law_start hI]
  exact law_loop hL 17000 M 26 0 (e_I2 I) e_J A0 (by decide) (by decide) (by omega) (by omega) (iX0 hI hT hS) (iM0 hI)
