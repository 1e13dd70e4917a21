/-! ===== the model: who went last ===== -/
section MODEL8
variable {L p d : Nat} {I : Nat → Nat → Int32} {J : Nat → Nat → Int64} {n : Int} {f : Fl}
theorem iM1.put {q j v : Int} (hf : iM1 I q n f) (q1 : 0 ≤ q) (n4 : n ≤ 4) (j1 : 0 ≤ j) (j2 : j < 13) : iM1 (u2 I 99 (13 * q + j).toNat (j_k v)) q n (p_set f j v) := by
  obtain ⟨h1, h2, h3⟩ := hf
  refine ⟨fun i i1 i2 => ?_, fun i i1 i2 => ?_, fun i i1 i2 => ?_⟩
  · show _ = j_k (if i = j then v else f i)
    by_cases x : i = j
    · subst x
      rw [u2_ss, if_pos rfl]
    · rw [u2_k (by omega), if_neg x]
      exact h1 i i1 i2
  · show _ = j_k (if 5 + i = j then v else f (5 + i))
    by_cases x : 5 + i = j
    · rw [x, u2_ss, if_pos rfl]
    · rw [u2_k (by omega), if_neg x]
      exact h2 i i1 i2
  · show _ = j_k (if 9 + i = j then v else f (9 + i))
    by_cases x : 9 + i = j
    · rw [x, u2_ss, if_pos rfl]
    · rw [u2_k (by omega), if_neg x]
      exact h3 i i1 i2
theorem frM.put {q j : Int} {v : Int32} (q1 : 0 ≤ q) (j1 : 0 ≤ j) (j2 : j < 5 + n ∨ 9 ≤ j) (j3 : j < 13) (n0 : 0 ≤ n) : frM n q I (u2 I 99 (13 * q + j).toNat v) := ⟨fun r a => by funext k; rw [u2_r a], fun i a b => by rw [u2_k (by omega)]⟩
end MODEL8
