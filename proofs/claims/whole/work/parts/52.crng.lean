-- the class's counters
def cok (cp md : Int32) : Prop := ∃ K n : Nat, cp = nI K ∧ md = nI n ∧ K + n ≤ 256
theorem cok_in {cp md : Int32} (h : cok cp md) (h2 : cp + md < 256) : vp_in md 256 := by
  obtain ⟨K, n, e1, e2, h3⟩ := h
  rw [e1, e2, nI_add] at h2
  rw [e2]
  refine vp_in_nI ?_ (by decide)
  rcases Nat.lt_or_ge n 256 with z | z
  · exact z
  · exact absurd h2 (show ¬ nI (K + n) < nI 256 from nI_nlt (by omega) (by omega))
def lsz (cap : Nat) (sz : Int32) : Prop := ∃ j : Nat, sz = nI j ∧ j ≤ cap ∧ cap ≤ 40000
def inl (cap : Nat) (sz i : Int32) : Prop := ∃ j k : Nat, i = nI k ∧ sz = nI j ∧ k < j ∧ j ≤ cap ∧ cap ≤ 40000
theorem inl_in {cap : Nat} {sz i : Int32} (h : inl cap sz i) : vp_in i cap := by
  obtain ⟨j, k, e1, e2, h1, h2, h3⟩ := h
  rw [e1]
  exact vp_in_nI (by omega) (by omega)
theorem inl_0 {cap : Nat} {sz i : Int32} (h : inl cap sz i) : ¬ i < 0 := by
  obtain ⟨j, k, e1, e2, h1, h2, h3⟩ := h
  rw [e1]
  exact nI_pos (by omega)
theorem inl_lt {cap : Nat} {sz i : Int32} (h : inl cap sz i) : i < sz := by
  obtain ⟨j, k, e1, e2, h1, h2, h3⟩ := h
  rw [e1, e2]
  exact nI_lt h1 (by omega)
