-- counters of loops
def lu (N : Nat) (k : Int32) : Prop := ∃ j : Nat, j ≤ N ∧ k = nI j
theorem lu_0 (N : Nat) : lu N 0 := ⟨0, Nat.zero_le _, nI_0.symm⟩
theorem lu_step {N : Nat} {k : Int32} (hN : N < 2 ^ 31) (h : lu N k) (hc : ¬ nI N ≤ k) : lu N (k + 1) ∧ vp_in k N ∧ N - (k + 1).toNatClampNeg < N - k.toNatClampNeg := by
  obtain ⟨j, h1, rfl⟩ := h
  have hj : j < N := by
    rcases Nat.lt_or_ge j N with z | z
    · exact z
    · exact absurd (nI_le z (by omega)) hc
  rw [nI_1, nI_clamp (by omega), nI_clamp (by omega)]
  exact ⟨⟨j + 1, by omega, rfl⟩, vp_in_nI hj hN, by omega⟩
def ld (N : Nat) (k : Int32) : Prop := k = -1 ∨ ∃ j : Nat, j < N ∧ k = nI j
theorem ld_step {N : Nat} {k : Int32} (hN : N < 2 ^ 31) (h : ld N k) (hc : ¬ k < 0) : ld N (k + (-1)) ∧ vp_in k N ∧ (k + (-1) + 1).toNatClampNeg < (k + 1).toNatClampNeg := by
  rcases h with h | ⟨j, h1, rfl⟩
  · subst h; exact absurd (by decide) hc
  · cases j with
    | zero =>
      have e : nI 0 + (-1) = -1 := by decide
      rw [e]
      exact ⟨Or.inl rfl, vp_in_nI h1 hN, by decide⟩
    | succ j =>
      rw [pk_m1, nI_1, nI_1, nI_clamp (by omega), nI_clamp (by omega)]
      exact ⟨Or.inr ⟨j, by omega, rfl⟩, vp_in_nI h1 hN, by omega⟩
