-- the list's side of the calls
theorem clear_L (mc : Int32) {n : Nat} (hn : n ≤ 40000) : ∀ (d k fuel : Nat) (g : Nat → Option Nat), k + d = n → d < fuel → (kl_clear_L27 mc (nI n) fuel (nI k) g).1 = mc + 1 ∧ (kl_clear_L27 mc (nI n) fuel (nI k) g).2.1 = 0 ∧ ∀ j, (kl_clear_L27 mc (nI n) fuel (nI k) g).2.2 j = if k ≤ j ∧ j < n then none else g j := by
  intro d
  induction d with
  | zero =>
    intro k fuel g hk hf
    obtain ⟨f, rfl⟩ : ∃ f, fuel = f + 1 := ⟨fuel - 1, by omega⟩
    rw [kl_clear_L27, if_pos (nI_le (show n ≤ k by omega) (by omega))]
    exact ⟨rfl, rfl, fun j => (if_neg (by omega)).symm⟩
  | succ d ih =>
    intro k fuel g hk hf
    obtain ⟨f, rfl⟩ : ∃ f, fuel = f + 1 := ⟨fuel - 1, by omega⟩
    rw [kl_clear_L27, if_neg (Int32.not_le.mpr (nI_lt (show k < n by omega) (by omega))), nI_clamp (by omega), nI_1]
    obtain ⟨a1, a2, a3⟩ := ih (k + 1) f (va_up g k none) (by omega) (by omega)
    refine ⟨a1, a2, fun j => (a3 j).trans ?_⟩
    by_cases c : j = k
    · subst c
      rw [if_neg (by omega), if_pos (by omega), va_up_self]
    · rw [va_up_ne _ _ c]
      by_cases c2 : k ≤ j ∧ j < n
      · rw [if_pos (by omega), if_pos c2]
      · rw [if_neg (by omega), if_neg c2]
theorem clear_i (mc : Int32) {n cap : Nat} (hn : n ≤ cap) (hc : cap ≤ 40000) (g : Nat → Option Nat) (h : ∀ j, n ≤ j → g j = none) : (kl_clear mc (nI n) g cap).1 = mc + 1 ∧ (kl_clear mc (nI n) g cap).2.1 = 0 ∧ ∀ j, (kl_clear mc (nI n) g cap).2.2 j = none := by
  obtain ⟨a1, a2, a3⟩ := clear_L mc (n := n) (by omega) n 0 (cap + 1) g (by omega) (by omega)
  refine ⟨a1, a2, fun j => (a3 j).trans ?_⟩
  by_cases c : 0 ≤ j ∧ j < n
  · rw [if_pos c]
  · rw [if_neg c]
    exact h j (by omega)
def arf (l : List T6) : Nat → T6 := fun j => l.getD j (0, 0, 0, 0, 0, 0)
theorem arf_at {l : List T6} {j : Nat} {t : T6} (h : l[j]? = some t) : arf l j = t := by
  unfold arf
  rw [List.getD_eq_getElem?_getD, h]
  rfl
theorem arf_map {LI : List IA} : ∀ (j : Nat) (a : IA), LI[j]? = some a → arf (LI.map t6i) j = t6i a := fun j a h => arf_at (by rw [List.getElem?_map, h]; rfl)
/-- the list as the calls want it -/
theorem hld_some {ar : List T6} {mc : Int32} {n ed cap : Nat} {cO : ClassId} {g : Nat → Option Nat} {as : Nat → Nat} {pl : va_W} (h : hld ar ((mc, n, some (ed, cO, cap, g)), as, pl)) :
    n = ar.length ∧ ar.length ≤ cap ∧ cap ≤ 366 ∧ lsz cap (nI n) ∧ (∀ j : Nat, j < (nI n).toNatClampNeg → ∃ a k : Nat, g j = some a ∧ pl[k]? = some (a, .inr (1, [.int (arf ar j).1, .int (arf ar j).2.1, .int (arf ar j).2.2.1, .int (arf ar j).2.2.2.1, .int (arf ar j).2.2.2.2.1, .int (arf ar j).2.2.2.2.2]))) := by
  obtain ⟨⟨h1, h2, h3, h4⟩, h5, h6⟩ := h
  have hn : n = ar.length := h5
  have hc := caps_le cap h2
  refine ⟨hn, by omega, hc.2, ⟨n, rfl, h1, by omega⟩, fun j hj => ?_⟩
  rw [nI_clamp (by omega)] at hj
  have e1 := List.getElem?_eq_getElem (l := ar) (i := j) (by omega)
  obtain ⟨k, hk⟩ := h6 j _ e1
  refine ⟨as j, k, h3 j hj, ?_⟩
  rw [arf_at e1]
  exact hk
theorem hld_none {ar : List T6} {mc : Int32} {n : Nat} {as : Nat → Nat} {pl : va_W} (h : hld ar ((mc, n, none), as, pl)) : n = 0 ∧ ar = [] := by
  obtain ⟨h1, h5, h6⟩ := h
  have h1 : n = 0 := h1
  have h5 : n = ar.length := h5
  exact ⟨h1, List.length_eq_zero_iff.mp (by omega)⟩
theorem hld_clear {ar : List T6} {mc mc' : Int32} {n ed cap : Nat} {cO : ClassId} {g g' : Nat → Option Nat} {as : Nat → Nat} {pl : va_W} (h : hld ar ((mc, n, some (ed, cO, cap, g)), as, pl)) (hg : ∀ j, g' j = none) : hld [] ((mc', 0, some (ed, cO, cap, g')), as, pl) :=
  ⟨⟨Nat.zero_le _, h.1.2.1, fun j hj => absurd hj (Nat.not_lt_zero _), fun j _ => hg j⟩, rfl, fun j t hj => absurd hj (by simp)⟩
-- the width
theorem kw_mw (w : Int32) : kw w = mw w ∧ wok (kw w) := by
  have t1 : (1 : Int32).toInt = 1 := by decide
  have t64 : (64 : Int32).toInt = 64 := by decide
  unfold kw mw
  by_cases c1 : 1 ≤ w
  · by_cases c2 : w ≤ 64
    · rw [if_pos c1, if_pos c2]
      have d1 := c1
      have d2 := c2
      rw [i32_le, t1] at d1
      rw [i32_le, t64] at d2
      have hw : w = nI w.toInt.toNat := by
        rw [i32_eq, nI_toInt (by omega)]
        omega
      have key : (if 1 < (if w < 64 then w else 64) then (if w < 64 then w else 64) else 1) = w := by
        by_cases c3 : w < 64
        · rw [if_pos c3]
          by_cases c4 : 1 < w
          · rw [if_pos c4]
          · rw [if_neg c4, i32_eq, t1]
            rw [i32_lt, t1] at c4
            omega
        · rw [if_neg c3, if_pos (by decide), i32_eq, t64]
          rw [i32_lt, t64] at c3
          omega
      rw [key]
      exact ⟨rfl, w.toInt.toNat, by omega, hw⟩
    · have c3 : ¬ w < 64 := fun z => c2 (by rw [i32_le]; rw [i32_lt] at z; omega)
      rw [if_pos c1, if_neg c2, if_neg c3, if_pos (by decide)]
      exact ⟨rfl, 64, Nat.le_refl _, rfl⟩
  · have d1 := c1
    rw [i32_le, t1] at d1
    have c3 : w < 64 := by rw [i32_lt, t64]; omega
    have c4 : ¬ 1 < w := by rw [i32_lt, t1]; omega
    rw [if_neg c1, if_pos c3, if_neg c4]
    exact ⟨rfl, 1, by omega, rfl⟩
