-- the reference's side and line, over Int
def mt_sd (i p j q k r dn : Int) : Int := if p - 2 * q + r = 0 then mt_sg ((i - 2 * j + k) * p * p - 2 * (j - i) * (2 * (q - p)) * p + i * (2 * (q - p)) * (2 * (q - p))) else mt_so (2 * (p - 2 * q + r) * ((p - 2 * q + r) * i - (i - 2 * j + k) * p) - ((p - 2 * q + r) * (2 * (j - i)) - (i - 2 * j + k) * (2 * (q - p))) * (2 * (q - p))) (dn * ((p - 2 * q + r) * (2 * (j - i)) - (i - 2 * j + k) * (2 * (q - p)))) (2 * (q - p) * (2 * (q - p)) - 4 * (p - 2 * q + r) * p)
theorem mt_sd_S (i p j q k r dn : Int) : mt_sd i p j q k r dn = mt_S (j * r - k * q) (k * p - i * r) (i * q - j * p) p q r dn := by
  unfold mt_sd mt_S
  by_cases h : p - 2 * q + r = 0
  · rw [if_pos h, if_pos h]
    congr 1
    have e : (i - 2 * j + k) * p * p - 2 * (j - i) * (2 * (q - p)) * p + i * (2 * (q - p)) * (2 * (q - p)) = p * (k * p - i * r) + 2 * r * (i * q - j * p) + (i * p - 2 * i * q + 2 * p * j) * (p - 2 * q + r) := by grind
    rw [e, h, Int.mul_zero, Int.add_zero]
  · rw [if_neg h, if_neg h]
    congr 1 <;> grind
theorem mt_line (i p k r : Int) : (i * r - k * p = 0 ∧ i * k + p * r ≤ 0) ↔ mt_touch i p i p k r := by
  unfold mt_touch mt_tch
  have rzi : ∀ a b : Int, mt_rz a a b ↔ a * b ≤ 0 := by
    intro a b
    unfold mt_rz
    rcases mt_sg_c a with ⟨h1, e1⟩ | ⟨h1, e1⟩ | ⟨h1, e1⟩ <;> rcases mt_sg_c b with ⟨h2, e2⟩ | ⟨h2, e2⟩ | ⟨h2, e2⟩ <;> rw [e1, e2]
    · have := Int.mul_pos_of_neg_of_neg h1 h2; omega
    · subst h2; simp
    · have := Int.mul_neg_of_neg_of_pos h1 h2; omega
    · subst h1; simp
    · subst h1; simp
    · subst h1; simp
    · have := Int.mul_neg_of_pos_of_neg h1 h2; omega
    · subst h2; simp
    · have := Int.mul_pos h1 h2; omega
  have hs : i * r - k * p + (k * p - i * r) + (i * p - i * p) = 0 := by omega
  rw [rzi, rzi]
  constructor
  · rintro ⟨h1, h2⟩
    refine Or.inl ⟨hs, ⟨h1, by omega, by omega⟩, ?_⟩
    have e : (i * k) * (p * r) = (i * r) * (i * r) := by
      have : k * p = i * r := by omega
      have : (i * r) * (k * p) = (i * r) * (i * r) := by rw [this]
      grind
    have h3 := mt_sq (i * r)
    constructor
    · rcases Int.lt_or_le 0 (i * k) with h | h
      · have := Int.mul_neg_of_pos_of_neg h (show p * r < 0 by omega); omega
      · exact h
    · rcases Int.lt_or_le 0 (p * r) with h | h
      · have := Int.mul_neg_of_neg_of_pos (show i * k < 0 by omega) h; omega
      · exact h
  · rintro (⟨_, ⟨h1, _, _⟩, h2, h3⟩ | ⟨h, _⟩)
    · exact ⟨h1, by omega⟩
    · exact absurd hs h
/-- a line off the place: its crossing as the reference has it -/
theorem mt_line_turn {i p k r : Int} (ht : ¬ mt_touch i p i p k r) : mt_kb (i * r - k * p) (k * p - i * r) 0 i p k r = (if (0 ≤ p ↔ 0 ≤ r) then 0 else if 0 < mt_sg (i * r - k * p) * mt_sg (r - p) then (if 0 ≤ r then 1 else -1) else 0) ∧ (¬ (0 ≤ p ↔ 0 ≤ r) → mt_sg (i * r - k * p) * mt_sg (r - p) ≠ 0) := by
  have e : mt_kb (i * r - k * p) (k * p - i * r) 0 i p k r = mt_sh (mt_cs (k * p - i * r) i p k r) p r := by
    unfold mt_kb
    rw [if_neg]
    rintro ⟨h, _⟩
    omega
  rw [e]
  unfold mt_sh
  by_cases hpr : (0 ≤ p ↔ 0 ≤ r)
  · rw [if_pos hpr, if_pos hpr]
    exact ⟨rfl, fun h => absurd hpr h⟩
  · rw [if_neg hpr, if_neg hpr]
    have hv : k * p - i * r ≠ 0 := by
      intro hv
      apply ht
      unfold mt_touch mt_tch
      refine Or.inl ⟨by omega, ⟨by omega, hv, by omega⟩, ?_⟩
      by_cases hp : 0 ≤ p
      · exact mt_Z1 i p hp (by omega) (by omega) hv
      · obtain ⟨c1, c2⟩ := mt_Z1 (i := -i) (k := -k) (p := -p) (r := -r) (-i) (-p) (by omega) (by omega) (by omega) (by rw [Int.neg_mul_neg, Int.neg_mul_neg]; exact hv)
        exact ⟨mt_rz_neg c1, mt_rz_neg c2⟩
    unfold mt_cs
    rw [if_pos hv]
    have hc : i * r - k * p = -(k * p - i * r) := by omega
    rw [hc, mt_sg_neg]
    by_cases hr : 0 ≤ r
    · have hp : p < 0 := by omega
      rw [if_pos hr, mt_sg_p (show 0 < r - p by omega), if_pos hr]
      rcases mt_sg_c (k * p - i * r) with ⟨a, b⟩ | ⟨a, b⟩ | ⟨a, b⟩
      · rw [b]; exact ⟨by decide, fun _ => by decide⟩
      · exact absurd a hv
      · rw [b]; exact ⟨by decide, fun _ => by decide⟩
    · have hp : 0 ≤ p := by omega
      rw [if_neg hr, mt_sg_n (show r - p < 0 by omega), if_neg hr]
      rcases mt_sg_c (k * p - i * r) with ⟨a, b⟩ | ⟨a, b⟩ | ⟨a, b⟩
      · rw [b]; exact ⟨by decide, fun _ => by decide⟩
      · exact absurd a hv
      · rw [b]; exact ⟨by decide, fun _ => by decide⟩
