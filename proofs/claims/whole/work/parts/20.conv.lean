-- from Int64 and Int32 to Int
theorem mt_bd {a b A B : Int} (ha : -A ≤ a ∧ a ≤ A) (hb : -B ≤ b ∧ b ≤ B) : -(A * B) ≤ a * b ∧ a * b ≤ A * B := by
  have h1 := Int.mul_nonneg (show 0 ≤ A - a by omega) (show 0 ≤ B + b by omega)
  have h2 := Int.mul_nonneg (show 0 ≤ A + a by omega) (show 0 ≤ B - b by omega)
  have h3 := Int.mul_nonneg (show 0 ≤ A - a by omega) (show 0 ≤ B - b by omega)
  have h4 := Int.mul_nonneg (show 0 ≤ A + a by omega) (show 0 ≤ B + b by omega)
  have e1 : (A - a) * (B + b) + (A + a) * (B - b) = 2 * (A * B) - 2 * (a * b) := by grind
  have e2 : (A - a) * (B - b) + (A + a) * (B + b) = 2 * (A * B) + 2 * (a * b) := by grind
  omega
theorem iL_t {z : Int} (h : -9223372036854775808 ≤ z ∧ z < 9223372036854775808) : (Int64.ofInt z).toInt = z := Int64.toInt_ofInt_of_le (by omega) (by omega)
theorem iI_t {z : Int} (h : -2147483648 ≤ z ∧ z < 2147483648) : (Int32.ofInt z).toInt = z := Int32.toInt_ofInt_of_le (by omega) (by omega)
theorem iI_l {z : Int} (h : -2147483648 ≤ z ∧ z < 2147483648) : Int32.toInt64 (Int32.ofInt z) = Int64.ofInt z := by
  have h1 : Int32.minValue.toInt = -2147483648 := by decide
  have h2 : Int32.maxValue.toInt = 2147483647 := by decide
  exact Int32.toInt64_ofInt (by omega) (by omega)
theorem lc_c (a b : Int64) : (a.toInt < b.toInt ∧ lg_cmp a b = -1) ∨ (a.toInt = b.toInt ∧ lg_cmp a b = 0) ∨ (b.toInt < a.toInt ∧ lg_cmp a b = 1) := by
  unfold lg_cmp
  rcases Int.lt_trichotomy a.toInt b.toInt with h | h | h
  · refine Or.inl ⟨h, ?_⟩
    rw [if_neg (fun e => by have := Int64.lt_iff_toInt_lt.mp e; omega), if_neg (fun e => by rw [e] at h; omega)]
  · have e := Int64.toInt_inj.mp h
    subst e
    refine Or.inr (Or.inl ⟨rfl, ?_⟩)
    rw [if_neg (fun e => by have := Int64.lt_iff_toInt_lt.mp e; omega), if_pos rfl]
  · refine Or.inr (Or.inr ⟨h, ?_⟩)
    rw [if_pos (Int64.lt_iff_toInt_lt.mpr h)]
theorem lc_lt (a b : Int64) : lg_cmp a b < 0 ↔ a.toInt < b.toInt := by
  rcases lc_c a b with ⟨h, e⟩ | ⟨h, e⟩ | ⟨h, e⟩ <;> rw [e]
  · exact ⟨fun _ => h, fun _ => by decide⟩
  · exact ⟨fun k => absurd k (by decide), fun k => by omega⟩
  · exact ⟨fun k => absurd k (by decide), fun k => by omega⟩
theorem lc_eq (a b : Int64) : lg_cmp a b = 0 ↔ a.toInt = b.toInt := by
  rcases lc_c a b with ⟨h, e⟩ | ⟨h, e⟩ | ⟨h, e⟩ <;> rw [e]
  · exact ⟨fun k => absurd k (by decide), fun k => by omega⟩
  · exact ⟨fun _ => h, fun _ => by decide⟩
  · exact ⟨fun k => absurd k (by decide), fun k => by omega⟩
theorem lc_ge (a b : Int64) : 0 ≤ lg_cmp a b ↔ b.toInt ≤ a.toInt := by
  rcases lc_c a b with ⟨h, e⟩ | ⟨h, e⟩ | ⟨h, e⟩ <;> rw [e]
  · exact ⟨fun k => absurd k (by decide), fun k => by omega⟩
  · exact ⟨fun _ => by omega, fun _ => by decide⟩
  · exact ⟨fun _ => by omega, fun _ => by decide⟩
theorem lc_le (a b : Int64) : lg_cmp a b ≤ 0 ↔ a.toInt ≤ b.toInt := by
  rcases lc_c a b with ⟨h, e⟩ | ⟨h, e⟩ | ⟨h, e⟩ <;> rw [e]
  · exact ⟨fun _ => by omega, fun _ => by decide⟩
  · exact ⟨fun _ => by omega, fun _ => by decide⟩
  · exact ⟨fun k => absurd k (by decide), fun k => by omega⟩
theorem lc_gt (a b : Int64) : 0 < lg_cmp a b ↔ b.toInt < a.toInt := by
  rcases lc_c a b with ⟨h, e⟩ | ⟨h, e⟩ | ⟨h, e⟩ <;> rw [e]
  · exact ⟨fun k => absurd k (by decide), fun k => by omega⟩
  · exact ⟨fun k => absurd k (by decide), fun k => by omega⟩
  · exact ⟨fun _ => h, fun _ => by decide⟩
