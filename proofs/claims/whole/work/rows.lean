section
-- the geometry of one arc, over Int: x-coordinates i j k, y-coordinates p q r, seen from the place
theorem mt_sq (x : Int) : 0 ≤ x * x := by
  rcases Int.le_total 0 x with h | h
  · exact Int.mul_nonneg h h
  · exact Int.mul_nonneg_of_nonpos_of_nonpos h h
theorem mt_sqp {x : Int} (h : x ≠ 0) : 0 < x * x := by
  rcases Int.lt_or_gt_of_ne h with h | h
  · exact Int.mul_pos_of_neg_of_neg h h
  · exact Int.mul_pos h h
def mt_sg (v : Int) : Int := if v < 0 then -1 else if 0 < v then 1 else 0
theorem mt_sg_p {v : Int} (h : 0 < v) : mt_sg v = 1 := by unfold mt_sg; rw [if_neg (by omega), if_pos h]
theorem mt_sg_n {v : Int} (h : v < 0) : mt_sg v = -1 := by unfold mt_sg; rw [if_pos h]
theorem mt_sg_0 : mt_sg 0 = 0 := by decide
theorem mt_sg_c (v : Int) : (v < 0 ∧ mt_sg v = -1) ∨ (v = 0 ∧ mt_sg v = 0) ∨ (0 < v ∧ mt_sg v = 1) := by
  rcases Int.lt_trichotomy v 0 with h | h | h
  · exact Or.inl ⟨h, mt_sg_n h⟩
  · subst h; exact Or.inr (Or.inl ⟨rfl, mt_sg_0⟩)
  · exact Or.inr (Or.inr ⟨h, mt_sg_p h⟩)
theorem mt_sg_neg (v : Int) : mt_sg (-v) = -mt_sg v := by
  rcases mt_sg_c v with ⟨h, e⟩ | ⟨h, e⟩ | ⟨h, e⟩
  · rw [e, mt_sg_p (by omega)]; rfl
  · subst h; rfl
  · rw [e, mt_sg_n (by omega)]
theorem mt_sg_2 (v : Int) : mt_sg (2 * v) = mt_sg v := by
  rcases mt_sg_c v with ⟨h, e⟩ | ⟨h, e⟩ | ⟨h, e⟩
  · rw [e, mt_sg_n (by omega)]
  · subst h; rfl
  · rw [e, mt_sg_p (by omega)]
/-- two numbers whose product is positive have one sign -/
theorem mt_sg_mul {x y : Int} (h : 0 < x * y) : mt_sg x = mt_sg y ∧ x ≠ 0 ∧ y ≠ 0 := by
  rcases Int.lt_trichotomy x 0 with hx | hx | hx
  · rcases Int.lt_or_le y 0 with hy | hy
    · exact ⟨by rw [mt_sg_n hx, mt_sg_n hy], by omega, by omega⟩
    · have := Int.mul_nonpos_of_nonpos_of_nonneg (Int.le_of_lt hx) hy; omega
  · subst hx; simp at h
  · rcases Int.lt_or_le 0 y with hy | hy
    · exact ⟨by rw [mt_sg_p hx, mt_sg_p hy], by omega, by omega⟩
    · have := Int.mul_nonpos_of_nonneg_of_nonpos (Int.le_of_lt hx) hy; omega
/-- the sign of g + e * sqrt d, as the reference decides it -/
def mt_so (g e d : Int) : Int :=
  if mt_sg g = (if d = 0 then 0 else mt_sg e) ∨ (if d = 0 then 0 else mt_sg e) = 0 then mt_sg g
  else if mt_sg g = 0 then (if d = 0 then 0 else mt_sg e)
  else if g * g = e * e * d then 0 else if e * e * d < g * g then mt_sg g else (if d = 0 then 0 else mt_sg e)
theorem mt_so_pos {g e d : Int} (hd : 0 ≤ d) (h : e * e * d < g * g) : mt_so g e d = mt_sg g ∧ g ≠ 0 := by
  have h1 : 0 ≤ e * e * d := Int.mul_nonneg (mt_sq e) hd
  have hg : g ≠ 0 := by
    intro hg
    subst hg
    omega
  refine ⟨?_, hg⟩
  have h3 : ¬ mt_sg g = 0 := by
    rcases mt_sg_c g with ⟨h, e⟩ | ⟨h, e⟩ | ⟨h, e⟩ <;> omega
  unfold mt_so
  generalize (if d = 0 then 0 else mt_sg e) = y
  by_cases c : mt_sg g = y ∨ y = 0
  · rw [if_pos c]
  · rw [if_neg c, if_neg h3, if_neg (by omega), if_pos h]
theorem mt_so_neg {g e d : Int} (h : g * g < e * e * d) : mt_so g e d = mt_sg e ∧ e ≠ 0 ∧ d ≠ 0 := by
  have h1 := mt_sq g
  have he : e ≠ 0 := by
    intro he
    subst he
    simp at h
    omega
  have hd : d ≠ 0 := by
    intro hd
    subst hd
    simp at h
    omega
  refine ⟨?_, he, hd⟩
  have h3 : ¬ mt_sg e = 0 := by
    rcases mt_sg_c e with ⟨h, e⟩ | ⟨h, e⟩ | ⟨h, e⟩ <;> omega
  unfold mt_so
  rw [if_neg hd]
  split
  · next h5 => rcases h5 with h5 | h5
               · exact h5
               · exact absurd h5 h3
  · split
    · rfl
    · rw [if_neg (by omega), if_neg (by omega)]
theorem mt_so_zero {g e d : Int} (h : mt_sg g = mt_sg e ∨ d = 0 ∨ e = 0) : mt_so g e d = mt_sg g := by
  unfold mt_so
  rw [if_pos]
  rcases h with h | h | h
  · by_cases hd : d = 0
    · rw [if_pos hd]; exact Or.inr rfl
    · rw [if_neg hd]; exact Or.inl h
  · rw [if_pos h]; exact Or.inr rfl
  · subst h; right; split
    · rfl
    · exact mt_sg_0
theorem mt_so_odd (g e d : Int) : mt_so (-g) (-e) d = -mt_so g e d := by
  unfold mt_so
  rw [mt_sg_neg, mt_sg_neg, Int.neg_mul_neg, Int.neg_mul_neg]
  rcases mt_sg_c g with ⟨_, e1⟩ | ⟨_, e1⟩ | ⟨_, e1⟩ <;> rcases mt_sg_c e with ⟨_, e2⟩ | ⟨_, e2⟩ | ⟨_, e2⟩ <;> rw [e1, e2] <;> by_cases hd : d = 0 <;> simp [hd] <;> (repeat' split) <;> simp_all
-- the numbers u v w, tied to p q r by u p + v q + w r = 0
theorem mt_id {u v w p q r : Int} (h0 : u * p + v * q + w * r = 0) :
    (2 * u * (p - q) + v * (p - r) + 2 * w * (q - r)) * (2 * u * (p - q) + v * (p - r) + 2 * w * (q - r)) - 4 * ((u + v + w) * (u + v + w) * (q * q - p * r)) = (p - 2 * q + r) * (p - 2 * q + r) * (v * v - 4 * (u * w)) := by
  have e : (2 * u * (p - q) + v * (p - r) + 2 * w * (q - r)) * (2 * u * (p - q) + v * (p - r) + 2 * w * (q - r)) - 4 * ((u + v + w) * (u + v + w) * (q * q - p * r)) = (p - 2 * q + r) * (p - 2 * q + r) * (v * v - 4 * (u * w)) + 4 * (p - 2 * q + r) * (u + v + w) * (u * p + v * q + w * r) := by grind
  rw [h0, Int.mul_zero, Int.add_zero] at e
  exact e
theorem mt_vG {u v w p q r : Int} (h0 : u * p + v * q + w * r = 0) :
    2 * (v * (2 * u * (p - q) + v * (p - r) + 2 * w * (q - r))) = p * ((v + 2 * u) * (v + 2 * u) + (v * v - 4 * (u * w))) + (-r) * ((v + 2 * w) * (v + 2 * w) + (v * v - 4 * (u * w))) := by
  have e : 2 * (v * (2 * u * (p - q) + v * (p - r) + 2 * w * (q - r))) = p * ((v + 2 * u) * (v + 2 * u) + (v * v - 4 * (u * w))) + (-r) * ((v + 2 * w) * (v + 2 * w) + (v * v - 4 * (u * w))) + 4 * (w - u) * (u * p + v * q + w * r) := by grind
  rw [h0, Int.mul_zero, Int.add_zero] at e
  exact e
theorem mt_A0 {u v w p q r : Int} (h0 : u * p + v * q + w * r = 0) (hp : 0 ≤ p) (hr : r ≤ 0) (hpr : r < p) (ha : 0 < (v + 2 * u) * (v + 2 * u) + (v * v - 4 * (u * w))) (hb : 0 < (v + 2 * w) * (v + 2 * w) + (v * v - 4 * (u * w))) :
    0 < v * (2 * u * (p - q) + v * (p - r) + 2 * w * (q - r)) := by
  have e := mt_vG h0
  have h1 := Int.mul_nonneg hp (Int.le_of_lt ha)
  have h2 := Int.mul_nonneg (show 0 ≤ -r by omega) (Int.le_of_lt hb)
  rcases Int.lt_or_le 0 p with h | h
  · have h3 := Int.mul_pos h ha
    omega
  · have h3 := Int.mul_pos (show 0 < -r by omega) hb
    omega
theorem mt_A1 {u v w p q r : Int} (h0 : u * p + v * q + w * r = 0) (hp : 0 ≤ p) (hr : r ≤ 0) (hpr : r < p) (hR : 4 * (u * w) < v * v) :
    0 < v * (2 * u * (p - q) + v * (p - r) + 2 * w * (q - r)) := by
  have h1 := mt_sq (v + 2 * u)
  have h2 := mt_sq (v + 2 * w)
  exact mt_A0 h0 hp hr hpr (by omega) (by omega)
theorem mt_A2 {u v w p q r : Int} (h0 : u * p + v * q + w * r = 0) (hp : 0 ≤ p) (hr : r ≤ 0) (hpr : r < p) (hR : v * v = 4 * (u * w)) (hs : u + v + w ≠ 0) (hv : v ≠ 0) :
    0 < v * (2 * u * (p - q) + v * (p - r) + 2 * w * (q - r)) := by
  have k1 : v + 2 * u ≠ 0 := by
    intro h
    have hv' : v = -(2 * u) := by omega
    have e : u * (u - w) = 0 := by rw [hv'] at hR; grind
    rcases Int.mul_eq_zero.mp e with h | h <;> omega
  have k2 : v + 2 * w ≠ 0 := by
    intro h
    have hv' : v = -(2 * w) := by omega
    have e : w * (w - u) = 0 := by rw [hv'] at hR; grind
    rcases Int.mul_eq_zero.mp e with h | h <;> omega
  have h1 := mt_sqp k1
  have h2 := mt_sqp k2
  exact mt_A0 h0 hp hr hpr (by omega) (by omega)
theorem mt_vs {u v w : Int} (hR : v * v = 4 * (u * w)) (hn : ¬ ((0 ≤ u ∧ 0 ≤ v ∧ 0 ≤ w) ∨ (u ≤ 0 ∧ v ≤ 0 ∧ w ≤ 0))) : (v < 0 ∧ 0 < u ∧ 0 < w) ∨ (0 < v ∧ u < 0 ∧ w < 0) := by
  have hv : v ≠ 0 := by
    intro h
    subst h
    have h5 : u * w = 0 := by omega
    rcases Int.mul_eq_zero.mp h5 with h | h <;> subst h <;> exact hn (by omega)
  have huw : 0 < u * w := by have := mt_sqp hv; omega
  rcases Int.lt_trichotomy u 0 with hu | hu | hu
  · have hw : w < 0 := by
      rcases Int.lt_or_le w 0 with h | h
      · exact h
      · have := Int.mul_nonpos_of_nonpos_of_nonneg (Int.le_of_lt hu) h; omega
    exact Or.inr ⟨by omega, hu, hw⟩
  · subst hu; simp at huw
  · have hw : 0 < w := by
      rcases Int.lt_or_le 0 w with h | h
      · exact h
      · have := Int.mul_nonpos_of_nonneg_of_nonpos (Int.le_of_lt hu) h; omega
    exact Or.inl ⟨by omega, hu, hw⟩
theorem mt_neg {u v w : Int} (hR : v * v < 4 * (u * w)) : (0 < u ∧ 0 < w ∧ 0 < u + v + w) ∨ (u < 0 ∧ w < 0 ∧ u + v + w < 0) := by
  have huw : 0 < u * w := by have := mt_sq v; omega
  have hq : (u + w) * (u + w) = (u - w) * (u - w) + 4 * (u * w) := by grind
  have hq2 := mt_sq (u - w)
  rcases Int.lt_trichotomy u 0 with hu | hu | hu
  · have hw : w < 0 := by
      rcases Int.lt_or_le w 0 with h | h
      · exact h
      · have := Int.mul_nonpos_of_nonpos_of_nonneg (Int.le_of_lt hu) h; omega
    refine Or.inr ⟨hu, hw, ?_⟩
    rcases Int.lt_or_le (u + v + w) 0 with h | h
    · exact h
    · have h7 := Int.mul_self_le_mul_self (show 0 ≤ -(u + w) by omega) (show -(u + w) ≤ v by omega)
      rw [Int.neg_mul_neg] at h7
      omega
  · subst hu; simp at huw
  · have hw : 0 < w := by
      rcases Int.lt_or_le 0 w with h | h
      · exact h
      · have := Int.mul_nonpos_of_nonneg_of_nonpos (Int.le_of_lt hu) h; omega
    refine Or.inl ⟨hu, hw, ?_⟩
    rcases Int.lt_or_le 0 (u + v + w) with h | h
    · exact h
    · have h7 := Int.mul_self_le_mul_self (show 0 ≤ u + w by omega) (show u + w ≤ -v by omega)
      rw [Int.neg_mul_neg] at h7
      omega
theorem mt_H {u v w p q r : Int} (h0 : u * p + v * q + w * r = 0) (ha : p - 2 * q + r = 0) :
    2 * ((p * v + 2 * r * w) * (u + v + w)) = (p - r) * (v * v - 4 * (u * w)) ∧ v * (p * v + 2 * r * w) * (p - r) = (p * v + 2 * r * w) * (p * v + 2 * r * w) - p * r * (v * v - 4 * (u * w)) := by
  have hp : p = 2 * q - r := by omega
  subst hp
  constructor
  · have e : 2 * (((2 * q - r) * v + 2 * r * w) * (u + v + w)) = ((2 * q - r) - r) * (v * v - 4 * (u * w)) + 2 * (v + 2 * w) * (u * (2 * q - r) + v * q + w * r) := by grind
    rw [h0, Int.mul_zero, Int.add_zero] at e
    exact e
  · have e : v * ((2 * q - r) * v + 2 * r * w) * ((2 * q - r) - r) = ((2 * q - r) * v + 2 * r * w) * ((2 * q - r) * v + 2 * r * w) - (2 * q - r) * r * (v * v - 4 * (u * w)) + (-4 * r * w) * (u * (2 * q - r) + v * q + w * r) := by grind
    rw [h0, Int.mul_zero, Int.add_zero] at e
    exact e
/-- the sign of the x at a crossing, in u v w p q r; dn is 1 or -1 -/
def mt_S (u v w p q r dn : Int) : Int := if p - 2 * q + r = 0 then mt_sg (p * v + 2 * r * w) else mt_so (2 * (2 * u * (p - q) + v * (p - r) + 2 * w * (q - r))) (dn * (2 * (u + v + w))) (4 * (q * q - p * r))
theorem mt_S_odd (u v w p q r dn : Int) : mt_S u v w (-p) (-q) (-r) (-dn) = -mt_S u v w p q r dn := by
  unfold mt_S
  by_cases h : p - 2 * q + r = 0
  · rw [if_pos h, if_pos (by omega), ← mt_sg_neg]
    congr 1
    grind
  · rw [if_neg h, if_neg (by omega), ← mt_so_odd]
    congr 1 <;> grind
/-- both ends on different sides: the one crossing -/
theorem mt_T1 {u v w p q r : Int} (h0 : u * p + v * q + w * r = 0) (hp : 0 ≤ p) (hr : r ≤ 0) (hpr : r < p) (hz : ¬ (u = 0 ∧ v = 0 ∧ w = 0)) (hn : u + v + w ≠ 0 → v * v = 4 * (u * w) → ¬ ((0 ≤ u ∧ 0 ≤ v ∧ 0 ≤ w) ∨ (u ≤ 0 ∧ v ≤ 0 ∧ w ≤ 0))) :
    (v * v < 4 * (u * w) → mt_S u v w p q r (-1) = -mt_sg (u + v + w)) ∧ (4 * (u * w) ≤ v * v → v ≠ 0 ∧ mt_S u v w p q r (-1) = mt_sg v) := by
  have hd : 0 ≤ q * q - p * r := by
    have h1 := mt_sq q
    have h2 := Int.mul_nonpos_of_nonneg_of_nonpos hp hr
    omega
  unfold mt_S
  by_cases ha : p - 2 * q + r = 0
  · rw [if_pos ha]
    obtain ⟨e1, e2⟩ := mt_H h0 ha
    have h3 := Int.mul_nonpos_of_nonneg_of_nonpos hp hr
    constructor
    · intro hR
      have h4 : (p - r) * (v * v - 4 * (u * w)) < 0 := Int.mul_neg_of_pos_of_neg (by omega) (by omega)
      have h5 : 0 < (p * v + 2 * r * w) * (-(u + v + w)) := by rw [Int.mul_neg]; omega
      rw [(mt_sg_mul h5).1, mt_sg_neg]
    · intro hR
      by_cases hR2 : v * v = 4 * (u * w)
      · -- R = 0
        have hR3 : v * v - 4 * (u * w) = 0 := by omega
        rw [hR3, Int.mul_zero] at e1
        rw [hR3, Int.mul_zero, Int.sub_zero] at e2
        by_cases hs : u + v + w = 0
        · have k1 : (u - w) * (u - w) = 0 := by
            have : v = -u - w := by omega
            subst this
            grind
          have k2 : u = w := by rcases Int.mul_eq_zero.mp k1 with h | h <;> omega
          have hv : v ≠ 0 := by omega
          refine ⟨hv, ?_⟩
          have k3 : 0 < (p * v + 2 * r * w) * v := by
            have e5 : 2 * ((p * v + 2 * r * w) * v) = 2 * ((p - r) * (v * v)) := by
              have : w = -v - u := by omega
              have : 2 * w = -v := by omega
              have e6 : 2 * r * w = -(r * v) := by grind
              rw [e6]
              grind
            have := Int.mul_pos (show 0 < p - r by omega) (mt_sqp hv)
            omega
          exact (mt_sg_mul k3).1
        · have hnt := hn hs hR2
          rcases mt_vs hR2 hnt with ⟨a1, a2, a3⟩ | ⟨a1, a2, a3⟩
          all_goals
            exfalso
            have k0 : p * v + 2 * r * w = 0 := by
              rcases Int.mul_eq_zero.mp (show (p * v + 2 * r * w) * (u + v + w) = 0 by omega) with h | h
              · exact h
              · exact absurd h hs
          · have b1 := Int.mul_nonpos_of_nonneg_of_nonpos hp (Int.le_of_lt a1)
            have b2 := Int.mul_nonpos_of_nonpos_of_nonneg hr (Int.le_of_lt a3)
            rw [Int.mul_assoc] at k0
            rcases Int.lt_or_le 0 p with h | h
            · have := Int.mul_neg_of_pos_of_neg h a1; omega
            · have := Int.mul_neg_of_neg_of_pos (show r < 0 by omega) a3; omega
          · have b1 := Int.mul_nonneg hp (Int.le_of_lt a1)
            have b2 := Int.mul_nonneg_of_nonpos_of_nonpos hr (Int.le_of_lt a3)
            rw [Int.mul_assoc] at k0
            rcases Int.lt_or_le 0 p with h | h
            · have := Int.mul_pos h a1; omega
            · have := Int.mul_pos_of_neg_of_neg (show r < 0 by omega) a3; omega
      · have h4 : 0 < (p - r) * (v * v - 4 * (u * w)) := Int.mul_pos (by omega) (by omega)
        have h5 : p * v + 2 * r * w ≠ 0 := by
          intro h
          rw [h, Int.zero_mul] at e1
          omega
        have h6 := mt_sqp h5
        have h7 : 0 ≤ -(p * r * (v * v - 4 * (u * w))) := by
          have := Int.mul_nonpos_of_nonpos_of_nonneg h3 (show 0 ≤ v * v - 4 * (u * w) by omega)
          omega
        have h8 : 0 < v * (p * v + 2 * r * w) * (p - r) := by omega
        have h9 := Int.pos_of_mul_pos_left h8 (show 0 < p - r by omega)
        have h10 := mt_sg_mul h9
        exact ⟨h10.2.1, h10.1.symm⟩
  · rw [if_neg ha]
    have hid := mt_id h0
    have ha2 := mt_sqp ha
    have hg : (2 * (2 * u * (p - q) + v * (p - r) + 2 * w * (q - r))) * (2 * (2 * u * (p - q) + v * (p - r) + 2 * w * (q - r))) - (-1 * (2 * (u + v + w))) * (-1 * (2 * (u + v + w))) * (4 * (q * q - p * r)) = 4 * ((p - 2 * q + r) * (p - 2 * q + r) * (v * v - 4 * (u * w))) := by
      rw [← hid]
      grind
    constructor
    · intro hR
      have h4 := Int.mul_neg_of_pos_of_neg ha2 (show v * v - 4 * (u * w) < 0 by omega)
      rw [(mt_so_neg (by omega)).1, ← mt_sg_neg, ← mt_sg_2 (-(u + v + w))]
      congr 1
      omega
    · intro hR
      by_cases hR2 : v * v = 4 * (u * w)
      · have hs : u + v + w ≠ 0 := by
          intro hs
          have k1 : (u - w) * (u - w) = 0 := by
            have : v = -u - w := by omega
            subst this
            grind
          have k2 : u = w := by rcases Int.mul_eq_zero.mp k1 with h | h <;> omega
          have hv : v = -(2 * u) := by omega
          subst k2
          rw [hv] at h0
          have k3 : u * (p - 2 * q + r) = 0 := by grind
          rcases Int.mul_eq_zero.mp k3 with h | h
          · exact hz (by omega)
          · exact ha h
        have hnt := hn hs hR2
        have hvs := mt_vs hR2 hnt
        have hv : v ≠ 0 := by omega
        have h5 := mt_sg_mul (mt_A2 h0 hp hr hpr hR2 hs hv)
        refine ⟨hv, ?_⟩
        rw [mt_so_zero, mt_sg_2, h5.1]
        left
        rw [mt_sg_2, ← h5.1]
        have hq : (u + w) * (u + w) = (u - w) * (u - w) + 4 * (u * w) := by grind
        have hq2 := mt_sq (u - w)
        rcases hvs with ⟨a1, a2, a3⟩ | ⟨a1, a2, a3⟩
        · rw [mt_sg_n a1, mt_sg_n]
          have : 0 < u + v + w := by
            rcases Int.lt_or_le 0 (u + v + w) with h | h
            · exact h
            · have h7 := Int.mul_self_lt_mul_self (show 0 ≤ u + w by omega) (show u + w < -v by omega)
              rw [Int.neg_mul_neg] at h7
              omega
          omega
        · rw [mt_sg_p a1, mt_sg_p]
          have : u + v + w < 0 := by
            rcases Int.lt_or_le (u + v + w) 0 with h | h
            · exact h
            · have h7 := Int.mul_self_lt_mul_self (show 0 ≤ -(u + w) by omega) (show -(u + w) < v by omega)
              rw [Int.neg_mul_neg] at h7
              omega
          omega
      · have h4 := Int.mul_pos ha2 (show 0 < v * v - 4 * (u * w) by omega)
        have h5 := mt_sg_mul (mt_A1 h0 hp hr hpr (by omega))
        refine ⟨h5.2.1, ?_⟩
        rw [(mt_so_pos (by omega) (by omega)).1, mt_sg_2, h5.1]
/-- both ends on one side, the bend so far on the other that the curve crosses twice -/
theorem mt_T2 {u v w p q r dn : Int} (h0 : u * p + v * q + w * r = 0) (hp : 0 ≤ p) (hr : 0 ≤ r) (hq : q < 0) (hqq : p * r < q * q) (hdn : dn = 1 ∨ dn = -1) (hz : ¬ (u = 0 ∧ v = 0 ∧ w = 0)) (hn : u + v + w ≠ 0 → v * v = 4 * (u * w) → ¬ ((0 ≤ u ∧ 0 ≤ v ∧ 0 ≤ w) ∨ (u ≤ 0 ∧ v ≤ 0 ∧ w ≤ 0))) :
    v * v ≠ 4 * (u * w) ∧ (v * v < 4 * (u * w) → mt_S u v w p q r dn = dn * mt_sg (u + v + w)) ∧ (4 * (u * w) < v * v → 2 * u * (p - q) + v * (p - r) + 2 * w * (q - r) ≠ 0 ∧ mt_S u v w p q r dn = mt_sg (2 * u * (p - q) + v * (p - r) + 2 * w * (q - r))) := by
  have ha : p - 2 * q + r ≠ 0 := by omega
  have hid := mt_id h0
  have ha2 := mt_sqp ha
  have hd2 : dn * dn = 1 := by rcases hdn with h | h <;> subst h <;> rfl
  have hg : (2 * (2 * u * (p - q) + v * (p - r) + 2 * w * (q - r))) * (2 * (2 * u * (p - q) + v * (p - r) + 2 * w * (q - r))) - (dn * (2 * (u + v + w))) * (dn * (2 * (u + v + w))) * (4 * (q * q - p * r)) = 4 * ((p - 2 * q + r) * (p - 2 * q + r) * (v * v - 4 * (u * w))) := by
    rw [← hid]
    have e : (dn * (2 * (u + v + w))) * (dn * (2 * (u + v + w))) * (4 * (q * q - p * r)) = (dn * dn) * ((2 * (u + v + w)) * (2 * (u + v + w)) * (4 * (q * q - p * r))) := by grind
    rw [e, hd2]
    grind
  unfold mt_S
  rw [if_neg ha]
  refine ⟨?_, ?_, ?_⟩
  · intro hR2
    by_cases hs : u + v + w = 0
    · have k1 : (u - w) * (u - w) = 0 := by
        have : v = -u - w := by omega
        subst this
        grind
      have k2 : u = w := by rcases Int.mul_eq_zero.mp k1 with h | h <;> omega
      have hv : v = -(2 * u) := by omega
      subst k2
      rw [hv] at h0
      have k3 : u * (p - 2 * q + r) = 0 := by grind
      rcases Int.mul_eq_zero.mp k3 with h | h
      · exact hz (by omega)
      · exact ha h
    · rcases mt_vs hR2 (hn hs hR2) with ⟨a1, a2, a3⟩ | ⟨a1, a2, a3⟩
      · have b1 := Int.mul_nonneg (Int.le_of_lt a2) hp
        have b2 := Int.mul_nonneg (Int.le_of_lt a3) hr
        have b3 := Int.mul_pos_of_neg_of_neg a1 hq
        omega
      · have b1 := Int.mul_nonpos_of_nonpos_of_nonneg (Int.le_of_lt a2) hp
        have b2 := Int.mul_nonpos_of_nonpos_of_nonneg (Int.le_of_lt a3) hr
        have b3 := Int.mul_neg_of_pos_of_neg a1 hq
        omega
  · intro hR
    have h4 := Int.mul_neg_of_pos_of_neg ha2 (show v * v - 4 * (u * w) < 0 by omega)
    rw [(mt_so_neg (by omega)).1]
    rcases hdn with h | h <;> subst h
    · rw [Int.one_mul, Int.one_mul, mt_sg_2]
    · rw [show (-1 : Int) * mt_sg (u + v + w) = -mt_sg (u + v + w) by omega, ← mt_sg_neg, ← mt_sg_2 (-(u + v + w))]
      congr 1
      omega
  · intro hR
    have h4 := Int.mul_pos ha2 (show 0 < v * v - 4 * (u * w) by omega)
    have h5 := mt_so_pos (g := 2 * (2 * u * (p - q) + v * (p - r) + 2 * w * (q - r))) (e := dn * (2 * (u + v + w))) (d := 4 * (q * q - p * r)) (by omega) (by omega)
    exact ⟨by omega, by rw [h5.1, mt_sg_2]⟩
end
section
-- one arc: the class's answer and the reference's, over Int
def mt_rz (p q r : Int) : Prop := p = 0 ∨ mt_sg r ≠ mt_sg p ∨ (mt_sg q = -mt_sg p ∧ p * r ≤ q * q)
def mt_zr (p q r : Int) : Prop := (p = 0 ∨ r = 0 ∨ ¬ (0 < p ↔ 0 < r)) ∨ ((if 0 < p then q < 0 else 0 < q) ∧ p * r ≤ q * q)
theorem mt_rz_zr (p q r : Int) : mt_rz p q r ↔ mt_zr p q r := by
  unfold mt_rz mt_zr
  rcases mt_sg_c p with ⟨h1, e1⟩ | ⟨h1, e1⟩ | ⟨h1, e1⟩ <;> rcases mt_sg_c q with ⟨h2, e2⟩ | ⟨h2, e2⟩ | ⟨h2, e2⟩ <;> rcases mt_sg_c r with ⟨h3, e3⟩ | ⟨h3, e3⟩ | ⟨h3, e3⟩ <;> rw [e1, e2, e3] <;> split <;> omega
def mt_tri (u v w : Int) : Prop := (0 ≤ u ∧ 0 ≤ v ∧ 0 ≤ w) ∨ (u ≤ 0 ∧ v ≤ 0 ∧ w ≤ 0)
def mt_tch (u v w i p j q k r : Int) : Prop := (u + v + w = 0 ∧ (u = 0 ∧ v = 0 ∧ w = 0) ∧ mt_rz i j k ∧ mt_rz p q r) ∨ (u + v + w ≠ 0 ∧ mt_tri u v w ∧ v * v = 4 * (u * w))
def mt_touch (i p j q k r : Int) : Prop := mt_tch (j * r - k * q) (k * p - i * r) (i * q - j * p) i p j q k r
def mt_rtch (u v w i p j q k r : Int) : Prop := (u + v + w = 0 ∧ (if i = j ∧ j = k ∧ p = q ∧ q = r then i = 0 ∧ p = 0 else (u = 0 ∧ v = 0 ∧ w = 0) ∧ (if i = j ∧ j = k then mt_zr p q r else mt_zr i j k))) ∨ (u + v + w ≠ 0 ∧ mt_tri u v w ∧ v * v = 4 * (u * w))
def mt_rtouch (i p j q k r : Int) : Prop := mt_rtch (j * r - k * q) (k * p - i * r) (i * q - j * p) i p j q k r
/-- on one line with the place, and not all of one x: what holds of the x holds of the y -/
theorem mt_par {i p j q k r : Int} (h1 : k * p = i * r) (h2 : i * q = j * p) (hw : ¬ (i = j ∧ j = k)) (h : mt_rz i j k) : mt_rz p q r := by
  unfold mt_rz at h ⊢
  by_cases hp : p = 0
  · exact Or.inl hp
  by_cases hr : mt_sg r = mt_sg p
  · right; right
    have hi : i ≠ 0 := by
      intro hi
      subst hi
      rw [Int.zero_mul] at h1 h2
      have a1 : k = 0 := by rcases Int.mul_eq_zero.mp h1 with h | h
                            · exact h
                            · exact absurd h hp
      have a2 : j = 0 := by rcases Int.mul_eq_zero.mp h2.symm with h | h
                            · exact h
                            · exact absurd h hp
      exact hw ⟨a2.symm, by rw [a1, a2]⟩
    have hii := mt_sqp hi
    have hpp := mt_sqp hp
    have hsk : mt_sg k = mt_sg i := by
      rcases Int.lt_or_gt_of_ne hp with hp' | hp'
      · have hr' : r < 0 := by rw [mt_sg_n hp'] at hr; rcases mt_sg_c r with ⟨a, b⟩ | ⟨a, b⟩ | ⟨a, b⟩ <;> omega
        rcases Int.lt_or_gt_of_ne hi with hi' | hi'
        · have := Int.mul_pos_of_neg_of_neg hi' hr'
          have : k < 0 := by
            rcases Int.lt_or_le k 0 with h | h
            · exact h
            · have := Int.mul_nonpos_of_nonneg_of_nonpos h (Int.le_of_lt hp'); omega
          rw [mt_sg_n this, mt_sg_n hi']
        · have := Int.mul_neg_of_pos_of_neg hi' hr'
          have : 0 < k := by
            rcases Int.lt_or_le 0 k with h | h
            · exact h
            · have := Int.mul_nonneg_of_nonpos_of_nonpos h (Int.le_of_lt hp'); omega
          rw [mt_sg_p this, mt_sg_p hi']
      · have hr' : 0 < r := by rw [mt_sg_p hp'] at hr; rcases mt_sg_c r with ⟨a, b⟩ | ⟨a, b⟩ | ⟨a, b⟩ <;> omega
        rcases Int.lt_or_gt_of_ne hi with hi' | hi'
        · have := Int.mul_neg_of_neg_of_pos hi' hr'
          have : k < 0 := by
            rcases Int.lt_or_le k 0 with h | h
            · exact h
            · have := Int.mul_nonneg h (Int.le_of_lt hp'); omega
          rw [mt_sg_n this, mt_sg_n hi']
        · have := Int.mul_pos hi' hr'
          have : 0 < k := by
            rcases Int.lt_or_le 0 k with h | h
            · exact h
            · have := Int.mul_nonpos_of_nonpos_of_nonneg h (Int.le_of_lt hp'); omega
          rw [mt_sg_p this, mt_sg_p hi']
    rcases h with h | h | ⟨h, h'⟩
    · exact absurd h hi
    · exact absurd hsk h
    · constructor
      · rcases Int.lt_or_gt_of_ne hp with hp' | hp' <;> rcases Int.lt_or_gt_of_ne hi with hi' | hi'
        · rw [mt_sg_n hi'] at h
          have hj : 0 < j := by rcases mt_sg_c j with ⟨a, b⟩ | ⟨a, b⟩ | ⟨a, b⟩ <;> omega
          have := Int.mul_neg_of_pos_of_neg hj hp'
          have : 0 < q := by
            rcases Int.lt_or_le 0 q with h | h
            · exact h
            · have := Int.mul_nonneg_of_nonpos_of_nonpos (Int.le_of_lt hi') h; omega
          rw [mt_sg_p this, mt_sg_n hp']; rfl
        · rw [mt_sg_p hi'] at h
          have hj : j < 0 := by rcases mt_sg_c j with ⟨a, b⟩ | ⟨a, b⟩ | ⟨a, b⟩ <;> omega
          have := Int.mul_pos_of_neg_of_neg hj hp'
          have : 0 < q := by
            rcases Int.lt_or_le 0 q with h | h
            · exact h
            · have := Int.mul_nonpos_of_nonneg_of_nonpos (Int.le_of_lt hi') h; omega
          rw [mt_sg_p this, mt_sg_n hp']; rfl
        · rw [mt_sg_n hi'] at h
          have hj : 0 < j := by rcases mt_sg_c j with ⟨a, b⟩ | ⟨a, b⟩ | ⟨a, b⟩ <;> omega
          have := Int.mul_pos hj hp'
          have : q < 0 := by
            rcases Int.lt_or_le q 0 with h | h
            · exact h
            · have := Int.mul_nonpos_of_nonpos_of_nonneg (Int.le_of_lt hi') h; omega
          rw [mt_sg_n this, mt_sg_p hp']
        · rw [mt_sg_p hi'] at h
          have hj : j < 0 := by rcases mt_sg_c j with ⟨a, b⟩ | ⟨a, b⟩ | ⟨a, b⟩ <;> omega
          have := Int.mul_neg_of_neg_of_pos hj hp'
          have : q < 0 := by
            rcases Int.lt_or_le q 0 with h | h
            · exact h
            · have := Int.mul_nonneg (Int.le_of_lt hi') h; omega
          rw [mt_sg_n this, mt_sg_p hp']
      · -- i i (q q - p r) = p p (j j - i k)
        have e : (i * i) * (q * q - p * r) = (p * p) * (j * j - i * k) := by
          have a1 : (i * q) * (i * q) = (j * p) * (j * p) := by rw [h2]
          have a2 : (i * r) * (p * i) = (k * p) * (p * i) := by rw [h1]
          grind
        have h5 : 0 ≤ (p * p) * (j * j - i * k) := Int.mul_nonneg (Int.le_of_lt hpp) (by omega)
        have h6 := Int.nonneg_of_mul_nonneg_right (a := i * i) (b := q * q - p * r) (by omega) hii
        omega
  · exact Or.inr (Or.inl hr)
theorem mt_touch_iff (i p j q k r : Int) : mt_rtouch i p j q k r ↔ mt_touch i p j q k r := by
  unfold mt_rtouch mt_touch mt_rtch mt_tch
  by_cases hz : j * r - k * q = 0 ∧ k * p - i * r = 0 ∧ i * q - j * p = 0
  · have hs : j * r - k * q + (k * p - i * r) + (i * q - j * p) = 0 := by omega
    have key : (if i = j ∧ j = k ∧ p = q ∧ q = r then i = 0 ∧ p = 0 else (if i = j ∧ j = k then mt_zr p q r else mt_zr i j k)) ↔ (mt_rz i j k ∧ mt_rz p q r) := by
      by_cases hw : i = j ∧ j = k
      · obtain ⟨rfl, rfl⟩ := hw
        by_cases hp : p = q ∧ q = r
        · obtain ⟨rfl, rfl⟩ := hp
          rw [if_pos ⟨rfl, rfl, rfl, rfl⟩]
          unfold mt_rz
          rcases mt_sg_c i with ⟨h1, e1⟩ | ⟨h1, e1⟩ | ⟨h1, e1⟩ <;> rcases mt_sg_c p with ⟨h2, e2⟩ | ⟨h2, e2⟩ | ⟨h2, e2⟩ <;> rw [e1, e2] <;> omega
        · rw [if_neg (fun h => hp ⟨h.2.2.1, h.2.2.2⟩), if_pos ⟨rfl, rfl⟩, ← mt_rz_zr]
          have hi : i = 0 := by
            rcases Int.lt_trichotomy i 0 with h | h | h
            · exfalso
              have a1 : i * (r - q) = 0 := by grind
              have a2 : i * (q - p) = 0 := by grind
              rcases Int.mul_eq_zero.mp a1 with b | b <;> rcases Int.mul_eq_zero.mp a2 with d | d <;> omega
            · exact h
            · exfalso
              have a1 : i * (r - q) = 0 := by grind
              have a2 : i * (q - p) = 0 := by grind
              rcases Int.mul_eq_zero.mp a1 with b | b <;> rcases Int.mul_eq_zero.mp a2 with d | d <;> omega
          exact ⟨fun h => ⟨Or.inl hi, h⟩, fun h => h.2⟩
      · rw [if_neg (fun h => hw ⟨h.1, h.2.1⟩), if_neg hw, ← mt_rz_zr]
        exact ⟨fun h => ⟨h, mt_par (by omega) (by omega) hw h⟩, fun h => h.1⟩
    constructor
    · rintro (⟨_, h⟩ | ⟨h, _⟩)
      · refine Or.inl ⟨hs, hz, ?_⟩
        apply key.mp
        by_cases c : i = j ∧ j = k ∧ p = q ∧ q = r
        · rw [if_pos c] at h ⊢; exact h
        · rw [if_neg c] at h ⊢; exact h.2
      · exact absurd hs h
    · rintro (⟨_, _, h⟩ | ⟨h, _⟩)
      · refine Or.inl ⟨hs, ?_⟩
        have h := key.mpr h
        by_cases c : i = j ∧ j = k ∧ p = q ∧ q = r
        · rw [if_pos c] at h ⊢; exact h
        · rw [if_neg c] at h ⊢; exact ⟨hz, h⟩
      · exact absurd hs h
  · constructor
    · rintro (⟨hs, h⟩ | h)
      · split at h
        · rename_i c
          obtain ⟨rfl, rfl, rfl, rfl⟩ := c
          exact absurd ⟨by omega, by omega, by omega⟩ hz
        · exact absurd h.1 hz
      · exact Or.inr h
    · rintro (⟨_, h, _⟩ | h)
      · exact absurd h hz
      · exact Or.inr h
/-- all on one line with the place, ends on different sides: the place is on it -/
theorem mt_Z1 {i p k r : Int} (j q : Int) (hp : 0 ≤ p) (hr : r ≤ 0) (hpr : r < p) (h1 : k * p - i * r = 0) : mt_rz i j k ∧ mt_rz p q r := by
  constructor
  · unfold mt_rz
    by_cases hi : i = 0
    · exact Or.inl hi
    · refine Or.inr (Or.inl ?_)
      intro h
      rcases Int.lt_or_gt_of_ne hi with hi' | hi'
      · rw [mt_sg_n hi'] at h
        have hk : k < 0 := by rcases mt_sg_c k with ⟨a, b⟩ | ⟨a, b⟩ | ⟨a, b⟩ <;> omega
        have a1 := Int.mul_nonpos_of_nonpos_of_nonneg (Int.le_of_lt hk) hp
        have a2 := Int.mul_nonneg_of_nonpos_of_nonpos (Int.le_of_lt hi') hr
        rcases Int.lt_or_le 0 p with h | h
        · have := Int.mul_neg_of_neg_of_pos hk h; omega
        · have := Int.mul_pos_of_neg_of_neg hi' (show r < 0 by omega); omega
      · rw [mt_sg_p hi'] at h
        have hk : 0 < k := by rcases mt_sg_c k with ⟨a, b⟩ | ⟨a, b⟩ | ⟨a, b⟩ <;> omega
        have a1 := Int.mul_nonneg (Int.le_of_lt hk) hp
        have a2 := Int.mul_nonpos_of_nonneg_of_nonpos (Int.le_of_lt hi') hr
        rcases Int.lt_or_le 0 p with h | h
        · have := Int.mul_pos hk h; omega
        · have := Int.mul_neg_of_pos_of_neg hi' (show r < 0 by omega); omega
  · unfold mt_rz
    by_cases h : p = 0
    · exact Or.inl h
    · refine Or.inr (Or.inl ?_)
      rw [mt_sg_p (show 0 < p by omega)]
      rcases mt_sg_c r with ⟨a, b⟩ | ⟨a, b⟩ | ⟨a, b⟩ <;> omega
theorem mt_Z2 {i p j q k r : Int} (hp : 0 ≤ p) (hr : 0 ≤ r) (hq : q < 0) (hqq : p * r < q * q) (h1 : j * r - k * q = 0) (h3 : i * q - j * p = 0) : mt_rz i j k ∧ mt_rz p q r := by
  constructor
  · unfold mt_rz
    by_cases hi : i = 0
    · exact Or.inl hi
    by_cases hk : mt_sg k = mt_sg i
    · refine Or.inr (Or.inr ⟨?_, ?_⟩)
      · rcases Int.lt_or_gt_of_ne hi with hi' | hi'
        · have := Int.mul_pos_of_neg_of_neg hi' hq
          have hj : 0 < j := by
            rcases Int.lt_or_le 0 j with h | h
            · exact h
            · have := Int.mul_nonpos_of_nonpos_of_nonneg h hp; omega
          rw [mt_sg_p hj, mt_sg_n hi']; rfl
        · have := Int.mul_neg_of_pos_of_neg hi' hq
          have hj : j < 0 := by
            rcases Int.lt_or_le j 0 with h | h
            · exact h
            · have := Int.mul_nonneg h hp; omega
          rw [mt_sg_n hj, mt_sg_p hi']
      · have hqp := mt_sqp (show q ≠ 0 by omega)
        have e : (q * q) * (j * j - i * k) = (j * j) * (q * q - p * r) := by
          have a1 : i * q = j * p := by omega
          have a2 : k * q = j * r := by omega
          have a3 : (i * q) * (k * q) = (j * p) * (j * r) := by rw [a1, a2]
          grind
        have h5 : 0 ≤ (j * j) * (q * q - p * r) := Int.mul_nonneg (mt_sq j) (by omega)
        have h6 := Int.nonneg_of_mul_nonneg_right (a := q * q) (b := j * j - i * k) (by omega) hqp
        omega
    · exact Or.inr (Or.inl hk)
  · unfold mt_rz
    by_cases h : p = 0
    · exact Or.inl h
    by_cases h' : r = 0
    · refine Or.inr (Or.inl ?_)
      rw [mt_sg_p (show 0 < p by omega), h', mt_sg_0]; omega
    · refine Or.inr (Or.inr ⟨?_, by omega⟩)
      rw [mt_sg_n hq, mt_sg_p (show 0 < p by omega)]
theorem mt_rz_neg {p q r : Int} (h : mt_rz (-p) (-q) (-r)) : mt_rz p q r := by
  unfold mt_rz at h ⊢
  rw [mt_sg_neg, mt_sg_neg, mt_sg_neg, Int.neg_mul_neg, Int.neg_mul_neg] at h
  rcases h with h | h | ⟨h, h'⟩
  · exact Or.inl (by omega)
  · exact Or.inr (Or.inl (by omega))
  · exact Or.inr (Or.inr ⟨by omega, h'⟩)
def mt_cs (v i p k r : Int) : Int := if v ≠ 0 then mt_sg v else if r ≠ p then mt_sg (r - p) else mt_sg (k - i)
def mt_sh (cs p r : Int) : Int := if (0 ≤ p ↔ 0 ≤ r) then 0 else if 0 ≤ r then (if cs < 0 then 1 else 0) else (if 0 < cs then -1 else 0)
/-- does the loop of arc and chord go round the place -/
def mt_lp (u v w i p k r : Int) : Prop := u + v + w ≠ 0 ∧ mt_tri u v w ∧ v * v < 4 * (u * w) ∧ mt_cs v i p k r = mt_sg (u + v + w)
def mt_cond (p q r : Int) : Prop := (if 0 ≤ p then q < 0 else 0 < q) ∧ p * r < q * q
theorem mt_pr {u v w p q r : Int} (h0 : u * p + v * q + w * r = 0) (hR : v * v < 4 * (u * w)) (hv : v ≠ 0) (hq : q ≠ 0) : p * r < q * q := by
  rcases Int.lt_or_le (p * r) (q * q) with h | h
  · exact h
  · exfalso
    have hqq := mt_sqp hq
    have hvv := mt_sqp hv
    have e1 : (v * v) * (q * q) = (u * p + w * r) * (u * p + w * r) := by
      have : v * q = -(u * p + w * r) := by omega
      have : (v * q) * (v * q) = (u * p + w * r) * (u * p + w * r) := by rw [this, Int.neg_mul_neg]
      grind
    have e2 : (u * p + w * r) * (u * p + w * r) = (u * p - w * r) * (u * p - w * r) + (4 * (u * w)) * (p * r) := by grind
    have h2 := mt_sq (u * p - w * r)
    have h3 : (v * v) * (q * q) ≤ (v * v) * (p * r) := Int.mul_le_mul_of_nonneg_left h (Int.le_of_lt hvv)
    have h4 : (v * v) * (p * r) < (4 * (u * w)) * (p * r) := Int.mul_lt_mul_of_pos_right hR (by omega)
    omega
/-- the loop goes round the place, the ends on one side: the curve crosses twice; s > 0 -/
theorem mt_L1 {u v w i p j q k r : Int} (eu : u = j * r - k * q) (ew : w = i * q - j * p) (h0 : u * p + v * q + w * r = 0) (hpr : 0 ≤ p ↔ 0 ≤ r) (hR : v * v < 4 * (u * w)) (hu : 0 < u) (hw : 0 < w) (hv : 0 ≤ v) (hc : mt_cs v i p k r = 1) : mt_cond p q r := by
  unfold mt_cond
  by_cases hp : 0 ≤ p
  · have hr : 0 ≤ r := hpr.mp hp
    rw [if_pos hp]
    have b1 := Int.mul_nonneg (Int.le_of_lt hu) hp
    have b2 := Int.mul_nonneg (Int.le_of_lt hw) hr
    by_cases hv0 : v = 0
    · subst hv0
      rw [Int.zero_mul] at h0
      have p0 : p = 0 := by
        rcases Int.mul_eq_zero.mp (show u * p = 0 by omega) with h | h <;> omega
      have r0 : r = 0 := by
        rcases Int.mul_eq_zero.mp (show w * r = 0 by omega) with h | h <;> omega
      subst p0 r0
      unfold mt_cs at hc
      rw [if_neg (by omega), if_neg (by omega)] at hc
      have hki : 0 < k - i := by rcases mt_sg_c (k - i) with ⟨a, b⟩ | ⟨a, b⟩ | ⟨a, b⟩ <;> omega
      rw [Int.mul_zero] at eu ew
      have hq : q < 0 := by
        rcases Int.lt_or_le q 0 with h | h
        · exact h
        · exfalso
          have hk : k < 0 := by
            rcases Int.lt_or_le k 0 with h' | h'
            · exact h'
            · have := Int.mul_nonneg h' h; omega
          have hi : 0 < i := by
            rcases Int.lt_or_le 0 i with h' | h'
            · exact h'
            · have := Int.mul_nonpos_of_nonpos_of_nonneg h' h; omega
          omega
      exact ⟨hq, by have := mt_sqp (show q ≠ 0 by omega); omega⟩
    · have hv' : 0 < v := by omega
      have hq : q < 0 := by
        rcases Int.lt_trichotomy q 0 with h | h | h
        · exact h
        · exfalso
          subst h
          rw [Int.mul_zero] at h0
          have p0 : p = 0 := by
            rcases Int.mul_eq_zero.mp (show u * p = 0 by omega) with h | h <;> omega
          have r0 : r = 0 := by
            rcases Int.mul_eq_zero.mp (show w * r = 0 by omega) with h | h <;> omega
          subst p0 r0
          simp at eu
          omega
        · have := Int.mul_pos hv' h; omega
      exact ⟨hq, mt_pr h0 hR hv0 (by omega)⟩
  · have hr : ¬ 0 ≤ r := fun h => hp (hpr.mpr h)
    rw [if_neg hp]
    have b1 := Int.mul_neg_of_pos_of_neg hu (show p < 0 by omega)
    have b2 := Int.mul_neg_of_pos_of_neg hw (show r < 0 by omega)
    have hv0 : v ≠ 0 := by
      intro h
      subst h
      rw [Int.zero_mul] at h0
      omega
    have hq : 0 < q := by
      rcases Int.lt_or_le 0 q with h | h
      · exact h
      · have := Int.mul_nonpos_of_nonneg_of_nonpos hv h; omega
    exact ⟨hq, mt_pr h0 hR hv0 (by omega)⟩
/-- the other way round: the curve crosses twice and s > 0: the loop goes round the place -/
theorem mt_L2 {u v w i p j q k r : Int} (eu : u = j * r - k * q) (ew : w = i * q - j * p) (h0 : u * p + v * q + w * r = 0) (hpr : 0 ≤ p ↔ 0 ≤ r) (hu : 0 < u) (hw : 0 < w) (hc : mt_cond p q r) : 0 ≤ v ∧ mt_cs v i p k r = 1 := by
  unfold mt_cond at hc
  by_cases hp : 0 ≤ p
  · have hr : 0 ≤ r := hpr.mp hp
    rw [if_pos hp] at hc
    have b1 := Int.mul_nonneg (Int.le_of_lt hu) hp
    have b2 := Int.mul_nonneg (Int.le_of_lt hw) hr
    have hv : 0 ≤ v := by
      rcases Int.lt_or_le v 0 with h | h
      · have := Int.mul_pos_of_neg_of_neg h hc.1; omega
      · exact h
    refine ⟨hv, ?_⟩
    unfold mt_cs
    by_cases hv0 : v = 0
    · subst hv0
      rw [Int.zero_mul] at h0
      have p0 : p = 0 := by
        rcases Int.mul_eq_zero.mp (show u * p = 0 by omega) with h | h <;> omega
      have r0 : r = 0 := by
        rcases Int.mul_eq_zero.mp (show w * r = 0 by omega) with h | h <;> omega
      subst p0 r0
      rw [if_neg (by omega), if_neg (by omega)]
      rw [Int.mul_zero] at eu ew
      have hk : 0 < k := by
        rcases Int.lt_or_le 0 k with h' | h'
        · exact h'
        · have := Int.mul_nonneg_of_nonpos_of_nonpos h' (Int.le_of_lt hc.1); omega
      have hi : i < 0 := by
        rcases Int.lt_or_le i 0 with h' | h'
        · exact h'
        · have := Int.mul_nonpos_of_nonneg_of_nonpos h' (Int.le_of_lt hc.1); omega
      exact mt_sg_p (by omega)
    · rw [if_pos hv0, mt_sg_p (by omega)]
  · have hr : ¬ 0 ≤ r := fun h => hp (hpr.mpr h)
    rw [if_neg hp] at hc
    have b1 := Int.mul_neg_of_pos_of_neg hu (show p < 0 by omega)
    have b2 := Int.mul_neg_of_pos_of_neg hw (show r < 0 by omega)
    have hv : 0 < v := by
      rcases Int.lt_or_le 0 v with h | h
      · exact h
      · have := Int.mul_nonpos_of_nonpos_of_nonneg h (Int.le_of_lt hc.1); omega
    unfold mt_cs
    rw [if_pos (by omega), mt_sg_p hv]
    exact ⟨by omega, rfl⟩
theorem mt_cs_neg (v i p k r : Int) (h : v ≠ 0 ∨ r = p) : mt_cs (-v) (-i) p (-k) r = -mt_cs v i p k r := by
  unfold mt_cs
  by_cases hv : v = 0
  · have hr : r = p := by omega
    rw [if_neg (by omega), if_neg (by omega), if_neg (by omega), if_neg (by omega), ← mt_sg_neg]
    congr 1; omega
  · rw [if_pos (by omega), if_pos hv, mt_sg_neg]
end
section
def mt_kb (u v w i p k r : Int) : Int := if u + v + w ≠ 0 ∧ ((0 ≤ u ∧ 0 ≤ v ∧ 0 ≤ w) ∨ (u ≤ 0 ∧ v ≤ 0 ∧ w ≤ 0)) ∧ v * v < 4 * (u * w) ∧ mt_cs v i p k r = mt_sg (u + v + w) then mt_sh (mt_cs v i p k r) p r + mt_sg (u + v + w) else mt_sh (mt_cs v i p k r) p r
def mt_rturn (u v w p q r : Int) : Int :=
  if 0 ≤ p then (if 0 ≤ r then (if q < 0 ∧ p * r < q * q then (if 0 < mt_S u v w p q r (-1) then -1 else 0) + (if 0 < mt_S u v w p q r 1 then 1 else 0) else 0) else (if 0 < mt_S u v w p q r (-1) then -1 else 0))
  else (if 0 ≤ r then (if 0 < mt_S u v w p q r 1 then 1 else 0) else (if 0 < q ∧ p * r < q * q then (if 0 < mt_S u v w p q r 1 then 1 else 0) + (if 0 < mt_S u v w p q r (-1) then -1 else 0) else 0))
def mt_rok (u v w p q r : Int) : Prop := (0 ≤ p → r < 0 → mt_S u v w p q r (-1) ≠ 0) ∧ (p < 0 → 0 ≤ r → mt_S u v w p q r 1 ≠ 0) ∧ (0 ≤ p → 0 ≤ r → q < 0 → p * r < q * q → mt_S u v w p q r (-1) ≠ 0 ∧ mt_S u v w p q r 1 ≠ 0) ∧ (p < 0 → r < 0 → 0 < q → p * r < q * q → mt_S u v w p q r 1 ≠ 0 ∧ mt_S u v w p q r (-1) ≠ 0)
theorem mt_kb_pos {u v w i p k r : Int} (h : v * v < 4 * (u * w)) (hu : 0 < u) (hw : 0 < w) (hs : 0 < u + v + w) : mt_kb u v w i p k r = if 0 ≤ v ∧ mt_cs v i p k r = 1 then mt_sh (mt_cs v i p k r) p r + 1 else mt_sh (mt_cs v i p k r) p r := by
  unfold mt_kb
  rw [mt_sg_p hs]
  by_cases c : 0 ≤ v ∧ mt_cs v i p k r = 1
  · rw [if_pos c, if_pos ⟨by omega, Or.inl ⟨by omega, c.1, by omega⟩, h, c.2⟩]
  · rw [if_neg c, if_neg]
    rintro ⟨_, a, _, b⟩
    exact c ⟨by omega, b⟩
theorem mt_kb_neg {u v w i p k r : Int} (h : v * v < 4 * (u * w)) (hu : u < 0) (hw : w < 0) (hs : u + v + w < 0) : mt_kb u v w i p k r = if v ≤ 0 ∧ mt_cs v i p k r = -1 then mt_sh (mt_cs v i p k r) p r + -1 else mt_sh (mt_cs v i p k r) p r := by
  unfold mt_kb
  rw [mt_sg_n hs]
  by_cases c : v ≤ 0 ∧ mt_cs v i p k r = -1
  · rw [if_pos c, if_pos ⟨by omega, Or.inr ⟨by omega, c.1, by omega⟩, h, c.2⟩]
  · rw [if_neg c, if_neg]
    rintro ⟨_, a, _, b⟩
    exact c ⟨by omega, b⟩
theorem mt_kb_out {u v w i p k r : Int} (h : ¬ v * v < 4 * (u * w)) : mt_kb u v w i p k r = mt_sh (mt_cs v i p k r) p r := by
  unfold mt_kb
  rw [if_neg]
  rintro ⟨_, _, a, _⟩
  exact h a
theorem mt_main {u v w i p j q k r : Int} (eu : u = j * r - k * q) (ev : v = k * p - i * r) (ew : w = i * q - j * p) (ht : ¬ mt_tch u v w i p j q k r) : mt_rok u v w p q r ∧ mt_rturn u v w p q r = mt_kb u v w i p k r := by
  have h0 : u * p + v * q + w * r = 0 := by subst eu ev ew; grind
  have h0' : u * (-p) + v * (-q) + w * (-r) = 0 := by grind
  have hn : u + v + w ≠ 0 → v * v = 4 * (u * w) → ¬ ((0 ≤ u ∧ 0 ≤ v ∧ 0 ≤ w) ∨ (u ≤ 0 ∧ v ≤ 0 ∧ w ≤ 0)) := fun a b c => ht (Or.inr ⟨a, c, b⟩)
  have hz : (mt_rz i j k ∧ mt_rz p q r) → ¬ (u = 0 ∧ v = 0 ∧ w = 0) := fun a b => ht (Or.inl ⟨by omega, b, a⟩)
  by_cases hp : 0 ≤ p
  · by_cases hr : 0 ≤ r
    · have hpr : 0 ≤ p ↔ 0 ≤ r := ⟨fun _ => hr, fun _ => hp⟩
      have hsh : ∀ c, mt_sh c p r = 0 := fun c => by unfold mt_sh; rw [if_pos hpr]
      by_cases hc : q < 0 ∧ p * r < q * q
      · have hz' : ¬ (u = 0 ∧ v = 0 ∧ w = 0) := fun a => hz (mt_Z2 hp hr hc.1 hc.2 (by omega) (by omega)) a
        have hcc : mt_cond p q r := by unfold mt_cond; rw [if_pos hp]; exact hc
        obtain ⟨t1, t2, t3⟩ := mt_T2 (dn := 1) h0 hp hr hc.1 hc.2 (Or.inl rfl) hz' hn
        obtain ⟨_, t5, t6⟩ := mt_T2 (dn := -1) h0 hp hr hc.1 hc.2 (Or.inr rfl) hz' hn
        have hT : mt_rturn u v w p q r = (if 0 < mt_S u v w p q r (-1) then -1 else 0) + (if 0 < mt_S u v w p q r 1 then 1 else 0) := by
          unfold mt_rturn; rw [if_pos hp, if_pos hr, if_pos hc]
        have hO : mt_S u v w p q r (-1) ≠ 0 → mt_S u v w p q r 1 ≠ 0 → mt_rok u v w p q r := fun a b =>
          ⟨fun _ h => absurd hr (by omega), fun h _ => absurd hp (by omega), fun _ _ _ _ => ⟨a, b⟩, fun h _ _ _ => absurd hp (by omega)⟩
        rcases Int.lt_or_gt_of_ne t1 with hR | hR
        · have e1 := t2 hR
          have e2 := t5 hR
          rcases mt_neg hR with ⟨a1, a2, a3⟩ | ⟨a1, a2, a3⟩
          · rw [mt_sg_p a3] at e1 e2
            obtain ⟨b1, b2⟩ := mt_L2 eu ew h0 hpr a1 a2 hcc
            rw [hT, mt_kb_pos hR a1 a2 a3, if_pos (show 0 ≤ v ∧ mt_cs v i p k r = 1 from ⟨b1, b2⟩), hsh, e1, e2]
            exact ⟨hO (by omega) (by omega), by decide⟩
          · rw [mt_sg_n a3] at e1 e2
            obtain ⟨b1, b2⟩ := mt_L2 (u := -u) (v := -v) (w := -w) (i := -i) (j := -j) (k := -k) (p := p) (q := q) (r := r) (by grind) (by grind) (by grind) hpr (by omega) (by omega) hcc
            have b3 : mt_cs v i p k r = -1 := by
              have : v ≠ 0 ∨ r = p := by
                by_cases hv0 : v = 0
                · right
                  subst hv0
                  rw [Int.zero_mul] at h0
                  have c1 := Int.mul_nonpos_of_nonpos_of_nonneg (Int.le_of_lt a1) hp
                  have c2 := Int.mul_nonpos_of_nonpos_of_nonneg (Int.le_of_lt a2) hr
                  have p0 : p = 0 := by
                    rcases Int.mul_eq_zero.mp (show u * p = 0 by omega) with h | h <;> omega
                  have r0 : r = 0 := by
                    rcases Int.mul_eq_zero.mp (show w * r = 0 by omega) with h | h <;> omega
                  omega
                · exact Or.inl hv0
              rw [mt_cs_neg v i p k r this] at b2
              omega
            rw [hT, mt_kb_neg hR a1 a2 a3, if_pos (show v ≤ 0 ∧ mt_cs v i p k r = -1 from ⟨by omega, b3⟩), hsh, e1, e2]
            exact ⟨hO (by omega) (by omega), by decide⟩
        · obtain ⟨g0, e1⟩ := t3 hR
          obtain ⟨_, e2⟩ := t6 hR
          rw [hT, mt_kb_out (by omega), hsh, e1, e2]
          rcases mt_sg_c (2 * u * (p - q) + v * (p - r) + 2 * w * (q - r)) with ⟨a, b⟩ | ⟨a, b⟩ | ⟨a, b⟩
          · rw [b]; exact ⟨hO (by omega) (by omega), by decide⟩
          · exact absurd a g0
          · rw [b]; exact ⟨hO (by omega) (by omega), by decide⟩
      · have hcc : ¬ mt_cond p q r := by unfold mt_cond; rw [if_pos hp]; exact hc
        have hT : mt_rturn u v w p q r = 0 := by unfold mt_rturn; rw [if_pos hp, if_pos hr, if_neg hc]
        refine ⟨⟨fun _ h => absurd hr (by omega), fun h _ => absurd hp (by omega), fun _ _ a b => absurd ⟨a, b⟩ hc, fun h _ _ _ => absurd hp (by omega)⟩, ?_⟩
        rw [hT]
        by_cases hR : v * v < 4 * (u * w)
        · rcases mt_neg hR with ⟨a1, a2, a3⟩ | ⟨a1, a2, a3⟩
          · rw [mt_kb_pos hR a1 a2 a3, if_neg, hsh]
            rintro ⟨b1, b2⟩
            exact hcc (mt_L1 eu ew h0 hpr hR a1 a2 b1 b2)
          · rw [mt_kb_neg hR a1 a2 a3, if_neg, hsh]
            rintro ⟨b1, b2⟩
            have : v ≠ 0 ∨ r = p := by
              by_cases hv0 : v = 0
              · right
                subst hv0
                rw [Int.zero_mul] at h0
                have c1 := Int.mul_nonpos_of_nonpos_of_nonneg (Int.le_of_lt a1) hp
                have c2 := Int.mul_nonpos_of_nonpos_of_nonneg (Int.le_of_lt a2) hr
                have p0 : p = 0 := by
                  rcases Int.mul_eq_zero.mp (show u * p = 0 by omega) with h | h <;> omega
                have r0 : r = 0 := by
                  rcases Int.mul_eq_zero.mp (show w * r = 0 by omega) with h | h <;> omega
                omega
              · exact Or.inl hv0
            exact hcc (mt_L1 (u := -u) (v := -v) (w := -w) (i := -i) (j := -j) (k := -k) (by grind) (by grind) (by grind) hpr (by rw [Int.neg_mul_neg, Int.neg_mul_neg]; exact hR) (by omega) (by omega) (by omega) (by rw [mt_cs_neg v i p k r this]; omega))
        · rw [mt_kb_out hR, hsh]
    · -- p ≥ 0 > r
      have hz' : ¬ (u = 0 ∧ v = 0 ∧ w = 0) := fun a => hz (mt_Z1 j q hp (by omega) (by omega) (by omega)) a
      obtain ⟨t1, t2⟩ := mt_T1 h0 hp (by omega) (by omega) hz' hn
      have hT : mt_rturn u v w p q r = (if 0 < mt_S u v w p q r (-1) then -1 else 0) := by
        unfold mt_rturn; rw [if_pos hp, if_neg hr]
      have hO : mt_S u v w p q r (-1) ≠ 0 → mt_rok u v w p q r := fun a =>
        ⟨fun _ _ => a, fun h _ => absurd hp (by omega), fun _ h => absurd h hr, fun h _ _ _ => absurd hp (by omega)⟩
      have hsh : ∀ c, mt_sh c p r = if 0 < c then -1 else 0 := fun c => by
        unfold mt_sh; rw [if_neg (fun h => hr (h.mp hp)), if_neg hr]
      rw [hT]
      by_cases hR : v * v < 4 * (u * w)
      · have e := t1 hR
        rcases mt_neg hR with ⟨a1, a2, a3⟩ | ⟨a1, a2, a3⟩
        · rw [mt_sg_p a3] at e
          rw [mt_kb_pos hR a1 a2 a3, hsh, e]
          refine ⟨hO (by omega), ?_⟩
          rcases mt_sg_c v with ⟨b1, b2⟩ | ⟨b1, b2⟩ | ⟨b1, b2⟩
          · have hcs : mt_cs v i p k r = -1 := by unfold mt_cs; rw [if_pos (show v ≠ 0 by omega), b2]
            rw [hcs]; (repeat' split) <;> omega
          · have hcs : mt_cs v i p k r = -1 := by unfold mt_cs; rw [if_neg (show ¬ v ≠ 0 by omega), if_pos (show r ≠ p by omega), mt_sg_n (by omega)]
            rw [hcs]; (repeat' split) <;> omega
          · have hcs : mt_cs v i p k r = 1 := by unfold mt_cs; rw [if_pos (show v ≠ 0 by omega), b2]
            rw [hcs]; (repeat' split) <;> omega
        · rw [mt_sg_n a3] at e
          rw [mt_kb_neg hR a1 a2 a3, hsh, e]
          refine ⟨hO (by omega), ?_⟩
          rcases mt_sg_c v with ⟨b1, b2⟩ | ⟨b1, b2⟩ | ⟨b1, b2⟩
          · have hcs : mt_cs v i p k r = -1 := by unfold mt_cs; rw [if_pos (show v ≠ 0 by omega), b2]
            rw [hcs]; (repeat' split) <;> omega
          · have hcs : mt_cs v i p k r = -1 := by unfold mt_cs; rw [if_neg (show ¬ v ≠ 0 by omega), if_pos (show r ≠ p by omega), mt_sg_n (by omega)]
            rw [hcs]; (repeat' split) <;> omega
          · have hcs : mt_cs v i p k r = 1 := by unfold mt_cs; rw [if_pos (show v ≠ 0 by omega), b2]
            rw [hcs]; (repeat' split) <;> omega
      · obtain ⟨hv, e⟩ := t2 (by omega)
        rw [mt_kb_out hR, hsh, e]
        unfold mt_cs
        rw [if_pos hv]
        refine ⟨hO ?_, rfl⟩
        rw [e]
        rcases mt_sg_c v with ⟨b1, b2⟩ | ⟨b1, b2⟩ | ⟨b1, b2⟩ <;> omega
  · by_cases hr : 0 ≤ r
    · -- p < 0 ≤ r
      have hz' : ¬ (u = 0 ∧ v = 0 ∧ w = 0) := fun a => hz (by
        obtain ⟨c1, c2⟩ := mt_Z1 (i := -i) (k := -k) (p := -p) (r := -r) (-j) (-q) (by omega) (by omega) (by omega) (by rw [Int.neg_mul_neg, Int.neg_mul_neg]; omega)
        exact ⟨mt_rz_neg c1, mt_rz_neg c2⟩) a
      obtain ⟨t1, t2⟩ := mt_T1 h0' (by omega) (by omega) (by omega) hz' hn
      have ho : mt_S u v w (-p) (-q) (-r) (-1) = -mt_S u v w p q r 1 := mt_S_odd u v w p q r 1
      rw [ho] at t1 t2
      have hT : mt_rturn u v w p q r = (if 0 < mt_S u v w p q r 1 then 1 else 0) := by
        unfold mt_rturn; rw [if_neg hp, if_pos hr]
      have hO : mt_S u v w p q r 1 ≠ 0 → mt_rok u v w p q r := fun a =>
        ⟨fun h _ => absurd h hp, fun _ _ => a, fun h => absurd h hp, fun _ h _ _ => absurd hr (by omega)⟩
      have hsh : ∀ c, mt_sh c p r = if c < 0 then 1 else 0 := fun c => by
        unfold mt_sh; rw [if_neg (fun h => hp (h.mpr hr)), if_pos hr]
      rw [hT]
      by_cases hR : v * v < 4 * (u * w)
      · have e := t1 hR
        rcases mt_neg hR with ⟨a1, a2, a3⟩ | ⟨a1, a2, a3⟩
        · rw [mt_sg_p a3] at e
          have e : mt_S u v w p q r 1 = 1 := by omega
          rw [mt_kb_pos hR a1 a2 a3, hsh, e]
          refine ⟨hO (by omega), ?_⟩
          rcases mt_sg_c v with ⟨b1, b2⟩ | ⟨b1, b2⟩ | ⟨b1, b2⟩
          · have hcs : mt_cs v i p k r = -1 := by unfold mt_cs; rw [if_pos (show v ≠ 0 by omega), b2]
            rw [hcs]; (repeat' split) <;> omega
          · have hcs : mt_cs v i p k r = 1 := by unfold mt_cs; rw [if_neg (show ¬ v ≠ 0 by omega), if_pos (show r ≠ p by omega), mt_sg_p (by omega)]
            rw [hcs]; (repeat' split) <;> omega
          · have hcs : mt_cs v i p k r = 1 := by unfold mt_cs; rw [if_pos (show v ≠ 0 by omega), b2]
            rw [hcs]; (repeat' split) <;> omega
        · rw [mt_sg_n a3] at e
          have e : mt_S u v w p q r 1 = -1 := by omega
          rw [mt_kb_neg hR a1 a2 a3, hsh, e]
          refine ⟨hO (by omega), ?_⟩
          rcases mt_sg_c v with ⟨b1, b2⟩ | ⟨b1, b2⟩ | ⟨b1, b2⟩
          · have hcs : mt_cs v i p k r = -1 := by unfold mt_cs; rw [if_pos (show v ≠ 0 by omega), b2]
            rw [hcs]; (repeat' split) <;> omega
          · have hcs : mt_cs v i p k r = 1 := by unfold mt_cs; rw [if_neg (show ¬ v ≠ 0 by omega), if_pos (show r ≠ p by omega), mt_sg_p (by omega)]
            rw [hcs]; (repeat' split) <;> omega
          · have hcs : mt_cs v i p k r = 1 := by unfold mt_cs; rw [if_pos (show v ≠ 0 by omega), b2]
            rw [hcs]; (repeat' split) <;> omega
      · obtain ⟨hv, e⟩ := t2 (by omega)
        have e : mt_S u v w p q r 1 = -mt_sg v := by omega
        rw [mt_kb_out hR, hsh, e]
        unfold mt_cs
        rw [if_pos hv]
        rcases mt_sg_c v with ⟨b1, b2⟩ | ⟨b1, b2⟩ | ⟨b1, b2⟩
        · rw [b2]; exact ⟨hO (by omega), by decide⟩
        · exact absurd b1 hv
        · rw [b2]; exact ⟨hO (by omega), by decide⟩
    · -- both < 0
      have hpr : 0 ≤ p ↔ 0 ≤ r := ⟨fun h => absurd h hp, fun h => absurd h hr⟩
      have hsh : ∀ c, mt_sh c p r = 0 := fun c => by unfold mt_sh; rw [if_pos hpr]
      have hvn : (0 < u ∧ 0 < w) ∨ (u < 0 ∧ w < 0) → v ≠ 0 := by
        rintro (⟨a1, a2⟩ | ⟨a1, a2⟩) hv0
        · subst hv0
          rw [Int.zero_mul] at h0
          have c1 := Int.mul_neg_of_pos_of_neg a1 (show p < 0 by omega)
          have c2 := Int.mul_neg_of_pos_of_neg a2 (show r < 0 by omega)
          omega
        · subst hv0
          rw [Int.zero_mul] at h0
          have c1 := Int.mul_pos_of_neg_of_neg a1 (show p < 0 by omega)
          have c2 := Int.mul_pos_of_neg_of_neg a2 (show r < 0 by omega)
          omega
      by_cases hc : 0 < q ∧ p * r < q * q
      · have hz' : ¬ (u = 0 ∧ v = 0 ∧ w = 0) := fun a => hz (by
          obtain ⟨c1, c2⟩ := mt_Z2 (i := -i) (j := -j) (k := -k) (p := -p) (q := -q) (r := -r) (by omega) (by omega) (by omega) (by rw [Int.neg_mul_neg, Int.neg_mul_neg]; exact hc.2) (by rw [Int.neg_mul_neg, Int.neg_mul_neg]; omega) (by rw [Int.neg_mul_neg, Int.neg_mul_neg]; omega)
          exact ⟨mt_rz_neg c1, mt_rz_neg c2⟩) a
        have hcc : mt_cond p q r := by unfold mt_cond; rw [if_neg hp]; exact hc
        have hqq : (-p) * (-r) < (-q) * (-q) := by rw [Int.neg_mul_neg, Int.neg_mul_neg]; exact hc.2
        obtain ⟨t1, t2, t3⟩ := mt_T2 (dn := 1) h0' (by omega) (by omega) (by omega) hqq (Or.inl rfl) hz' hn
        obtain ⟨_, t5, t6⟩ := mt_T2 (dn := -1) h0' (by omega) (by omega) (by omega) hqq (Or.inr rfl) hz' hn
        have o1 : mt_S u v w (-p) (-q) (-r) (-1) = -mt_S u v w p q r 1 := mt_S_odd u v w p q r 1
        have o2 : mt_S u v w (-p) (-q) (-r) 1 = -mt_S u v w p q r (-1) := by
          have := mt_S_odd u v w p q r (-1)
          rw [show -(-1 : Int) = 1 by decide] at this
          exact this
        rw [o2] at t2 t3
        rw [o1] at t5 t6
        have hT : mt_rturn u v w p q r = (if 0 < mt_S u v w p q r 1 then 1 else 0) + (if 0 < mt_S u v w p q r (-1) then -1 else 0) := by
          unfold mt_rturn; rw [if_neg hp, if_neg hr, if_pos hc]
        have hO : mt_S u v w p q r 1 ≠ 0 → mt_S u v w p q r (-1) ≠ 0 → mt_rok u v w p q r := fun a b =>
          ⟨fun h _ => absurd h hp, fun _ h => absurd h hr, fun h => absurd h hp, fun _ _ _ _ => ⟨a, b⟩⟩
        rcases Int.lt_or_gt_of_ne t1 with hR | hR
        · have e2 := t2 hR
          have e1 := t5 hR
          rcases mt_neg hR with ⟨a1, a2, a3⟩ | ⟨a1, a2, a3⟩
          · rw [mt_sg_p a3] at e1 e2
            have e1 : mt_S u v w p q r 1 = 1 := by omega
            have e2 : mt_S u v w p q r (-1) = -1 := by omega
            obtain ⟨b1, b2⟩ := mt_L2 eu ew h0 hpr a1 a2 hcc
            rw [hT, mt_kb_pos hR a1 a2 a3, if_pos (show 0 ≤ v ∧ mt_cs v i p k r = 1 from ⟨b1, b2⟩), hsh, e1, e2]
            exact ⟨hO (by omega) (by omega), by decide⟩
          · rw [mt_sg_n a3] at e1 e2
            have e1 : mt_S u v w p q r 1 = -1 := by omega
            have e2 : mt_S u v w p q r (-1) = 1 := by omega
            obtain ⟨b1, b2⟩ := mt_L2 (u := -u) (v := -v) (w := -w) (i := -i) (j := -j) (k := -k) (p := p) (q := q) (r := r) (by grind) (by grind) (by grind) hpr (by omega) (by omega) hcc
            have b3 : mt_cs v i p k r = -1 := by
              rw [mt_cs_neg v i p k r (Or.inl (hvn (Or.inr ⟨a1, a2⟩)))] at b2
              omega
            rw [hT, mt_kb_neg hR a1 a2 a3, if_pos (show v ≤ 0 ∧ mt_cs v i p k r = -1 from ⟨by omega, b3⟩), hsh, e1, e2]
            exact ⟨hO (by omega) (by omega), by decide⟩
        · obtain ⟨g0, e2⟩ := t3 hR
          obtain ⟨_, e1⟩ := t6 hR
          rw [hT, mt_kb_out (by omega), hsh]
          rcases mt_sg_c (2 * u * (-p - -q) + v * (-p - -r) + 2 * w * (-q - -r)) with ⟨a, b⟩ | ⟨a, b⟩ | ⟨a, b⟩
          · rw [b] at e1 e2
            have e1 : mt_S u v w p q r 1 = 1 := by omega
            have e2 : mt_S u v w p q r (-1) = 1 := by omega
            rw [e1, e2]
            exact ⟨hO (by omega) (by omega), by decide⟩
          · exact absurd a g0
          · rw [b] at e1 e2
            have e1 : mt_S u v w p q r 1 = -1 := by omega
            have e2 : mt_S u v w p q r (-1) = -1 := by omega
            rw [e1, e2]
            exact ⟨hO (by omega) (by omega), by decide⟩
      · have hcc : ¬ mt_cond p q r := by unfold mt_cond; rw [if_neg hp]; exact hc
        have hT : mt_rturn u v w p q r = 0 := by unfold mt_rturn; rw [if_neg hp, if_neg hr, if_neg hc]
        refine ⟨⟨fun h _ => absurd h hp, fun _ h => absurd h hr, fun h => absurd h hp, fun _ _ a b => absurd ⟨a, b⟩ hc⟩, ?_⟩
        rw [hT]
        by_cases hR : v * v < 4 * (u * w)
        · rcases mt_neg hR with ⟨a1, a2, a3⟩ | ⟨a1, a2, a3⟩
          · rw [mt_kb_pos hR a1 a2 a3, if_neg, hsh]
            rintro ⟨b1, b2⟩
            exact hcc (mt_L1 eu ew h0 hpr hR a1 a2 b1 b2)
          · rw [mt_kb_neg hR a1 a2 a3, if_neg, hsh]
            rintro ⟨b1, b2⟩
            exact hcc (mt_L1 (u := -u) (v := -v) (w := -w) (i := -i) (j := -j) (k := -k) (by grind) (by grind) (by grind) hpr (by rw [Int.neg_mul_neg, Int.neg_mul_neg]; exact hR) (by omega) (by omega) (by omega) (by rw [mt_cs_neg v i p k r (Or.inl (hvn (Or.inr ⟨a1, a2⟩)))]; omega))
        · rw [mt_kb_out hR, hsh]
/-- the class's early answers: the place is left and right of nothing -/
theorem mt_same {u v w i j k : Int} (h0 : u * i + v * j + w * k = 0) (h : mt_tri u v w) (hi : (0 < i ∧ 0 < j ∧ 0 < k) ∨ (i < 0 ∧ j < 0 ∧ k < 0)) : u = 0 ∧ v = 0 ∧ w = 0 := by
  rcases h with ⟨a1, a2, a3⟩ | ⟨a1, a2, a3⟩ <;> rcases hi with ⟨b1, b2, b3⟩ | ⟨b1, b2, b3⟩
  · have c1 := Int.mul_nonneg a1 (Int.le_of_lt b1)
    have c2 := Int.mul_nonneg a2 (Int.le_of_lt b2)
    have c3 := Int.mul_nonneg a3 (Int.le_of_lt b3)
    refine ⟨?_, ?_, ?_⟩
    · rcases Int.mul_eq_zero.mp (show u * i = 0 by omega) with h | h <;> omega
    · rcases Int.mul_eq_zero.mp (show v * j = 0 by omega) with h | h <;> omega
    · rcases Int.mul_eq_zero.mp (show w * k = 0 by omega) with h | h <;> omega
  · have c1 := Int.mul_nonpos_of_nonneg_of_nonpos a1 (Int.le_of_lt b1)
    have c2 := Int.mul_nonpos_of_nonneg_of_nonpos a2 (Int.le_of_lt b2)
    have c3 := Int.mul_nonpos_of_nonneg_of_nonpos a3 (Int.le_of_lt b3)
    refine ⟨?_, ?_, ?_⟩
    · rcases Int.mul_eq_zero.mp (show u * i = 0 by omega) with h | h <;> omega
    · rcases Int.mul_eq_zero.mp (show v * j = 0 by omega) with h | h <;> omega
    · rcases Int.mul_eq_zero.mp (show w * k = 0 by omega) with h | h <;> omega
  · have c1 := Int.mul_nonpos_of_nonpos_of_nonneg a1 (Int.le_of_lt b1)
    have c2 := Int.mul_nonpos_of_nonpos_of_nonneg a2 (Int.le_of_lt b2)
    have c3 := Int.mul_nonpos_of_nonpos_of_nonneg a3 (Int.le_of_lt b3)
    refine ⟨?_, ?_, ?_⟩
    · rcases Int.mul_eq_zero.mp (show u * i = 0 by omega) with h | h <;> omega
    · rcases Int.mul_eq_zero.mp (show v * j = 0 by omega) with h | h <;> omega
    · rcases Int.mul_eq_zero.mp (show w * k = 0 by omega) with h | h <;> omega
  · have c1 := Int.mul_nonneg_of_nonpos_of_nonpos a1 (Int.le_of_lt b1)
    have c2 := Int.mul_nonneg_of_nonpos_of_nonpos a2 (Int.le_of_lt b2)
    have c3 := Int.mul_nonneg_of_nonpos_of_nonpos a3 (Int.le_of_lt b3)
    refine ⟨?_, ?_, ?_⟩
    · rcases Int.mul_eq_zero.mp (show u * i = 0 by omega) with h | h <;> omega
    · rcases Int.mul_eq_zero.mp (show v * j = 0 by omega) with h | h <;> omega
    · rcases Int.mul_eq_zero.mp (show w * k = 0 by omega) with h | h <;> omega
theorem mt_rz_same {p q r : Int} (h : (0 < p ∧ 0 < q ∧ 0 < r) ∨ (p < 0 ∧ q < 0 ∧ r < 0)) : ¬ mt_rz p q r := by
  unfold mt_rz
  rcases h with ⟨b1, b2, b3⟩ | ⟨b1, b2, b3⟩
  · rw [mt_sg_p b1, mt_sg_p b2, mt_sg_p b3]; omega
  · rw [mt_sg_n b1, mt_sg_n b2, mt_sg_n b3]; omega
theorem mt_early {u v w i p j q k r : Int} (eu : u = j * r - k * q) (ev : v = k * p - i * r) (ew : w = i * q - j * p) (h : (0 < p ∧ 0 < q ∧ 0 < r) ∨ (p < 0 ∧ q < 0 ∧ r < 0) ∨ (i < 0 ∧ j < 0 ∧ k < 0)) : ¬ mt_tch u v w i p j q k r ∧ mt_kb u v w i p k r = 0 := by
  have h0 : u * p + v * q + w * r = 0 := by subst eu ev ew; grind
  have h1 : u * i + v * j + w * k = 0 := by subst eu ev ew; grind
  have hnz : u + v + w ≠ 0 → ¬ mt_tri u v w := by
    intro hs ht
    have hz : u = 0 ∧ v = 0 ∧ w = 0 := by
      rcases h with h | h | h
      · exact mt_same h0 ht (Or.inl h)
      · exact mt_same h0 ht (Or.inr h)
      · exact mt_same h1 ht (Or.inr h)
    omega
  constructor
  · rintro (⟨_, _, a, b⟩ | ⟨hs, ht, _⟩)
    · rcases h with h | h | h
      · exact mt_rz_same (Or.inl h) b
      · exact mt_rz_same (Or.inr h) b
      · exact mt_rz_same (Or.inr h) a
    · exact hnz hs ht
  · have e : mt_kb u v w i p k r = mt_sh (mt_cs v i p k r) p r := by
      unfold mt_kb
      rw [if_neg]
      rintro ⟨hs, ht, _⟩
      exact hnz hs ht
    rw [e]
    unfold mt_sh
    by_cases hp : 0 ≤ p <;> by_cases hr : 0 ≤ r
    · rw [if_pos ⟨fun _ => hr, fun _ => hp⟩]
    · rw [if_neg (fun h => hr (h.mp hp)), if_neg hr]
      rcases h with h | h | ⟨a1, a2, a3⟩
      · omega
      · omega
      · have c1 := Int.mul_nonpos_of_nonpos_of_nonneg (Int.le_of_lt a3) hp
        have c2 := Int.mul_pos_of_neg_of_neg a1 (show r < 0 by omega)
        have hcs : mt_cs v i p k r = -1 := by unfold mt_cs; rw [if_pos (show v ≠ 0 by omega), mt_sg_n (by omega)]
        rw [hcs, if_neg (by omega)]
    · rw [if_neg (fun h => hp (h.mpr hr)), if_pos hr]
      rcases h with h | h | ⟨a1, a2, a3⟩
      · omega
      · omega
      · have c1 := Int.mul_pos_of_neg_of_neg a3 (show p < 0 by omega)
        have c2 := Int.mul_nonpos_of_nonpos_of_nonneg (Int.le_of_lt a1) hr
        have hcs : mt_cs v i p k r = 1 := by unfold mt_cs; rw [if_pos (show v ≠ 0 by omega), mt_sg_p (by omega)]
        rw [hcs, if_neg (by omega)]
    · rw [if_pos ⟨fun h => absurd h hp, fun h => absurd h hr⟩]
end
section
-- the reference's side and line, over Int
def mt_sd (i p j q k r dn : Int) : Int := if p - 2 * q + r = 0 then mt_sg ((i - 2 * j + k) * p * p - 2 * (j - i) * (2 * (q - p)) * p + i * (2 * (q - p)) * (2 * (q - p))) else mt_so (2 * (p - 2 * q + r) * ((p - 2 * q + r) * i - (i - 2 * j + k) * p) - ((p - 2 * q + r) * (2 * (j - i)) - (i - 2 * j + k) * (2 * (q - p))) * (2 * (q - p))) (dn * ((p - 2 * q + r) * (2 * (j - i)) - (i - 2 * j + k) * (2 * (q - p)))) (2 * (q - p) * (2 * (q - p)) - 4 * (p - 2 * q + r) * p)
theorem mt_sd_S (i p j q k r dn : Int) : mt_sd i p j q k r dn = mt_S (j * r - k * q) (k * p - i * r) (i * q - j * p) p q r dn := by
  unfold mt_sd mt_S
  by_cases h : p - 2 * q + r = 0
  · rw [if_pos h, if_pos h]
    congr 1
    have e : (i - 2 * j + k) * p * p - 2 * (j - i) * (2 * (q - p)) * p + i * (2 * (q - p)) * (2 * (q - p)) = p * (k * p - i * r) + 2 * r * (i * q - j * p) + (i * p - 2 * i * q + 2 * p * j) * (p - 2 * q + r) := by grind
    rw [e, h, Int.mul_zero, Int.add_zero]
  · rw [if_neg h, if_neg h]
    congr 1 <;> grind
theorem mt_line (i p k r : Int) : (i * r - k * p = 0 ∧ i * k + p * r ≤ 0) ↔ mt_touch i p i p k r := by
  unfold mt_touch mt_tch
  have rzi : ∀ a b : Int, mt_rz a a b ↔ a * b ≤ 0 := by
    intro a b
    unfold mt_rz
    rcases mt_sg_c a with ⟨h1, e1⟩ | ⟨h1, e1⟩ | ⟨h1, e1⟩ <;> rcases mt_sg_c b with ⟨h2, e2⟩ | ⟨h2, e2⟩ | ⟨h2, e2⟩ <;> rw [e1, e2]
    · have := Int.mul_pos_of_neg_of_neg h1 h2; omega
    · subst h2; simp
    · have := Int.mul_neg_of_neg_of_pos h1 h2; omega
    · subst h1; simp
    · subst h1; simp
    · subst h1; simp
    · have := Int.mul_neg_of_pos_of_neg h1 h2; omega
    · subst h2; simp
    · have := Int.mul_pos h1 h2; omega
  have hs : i * r - k * p + (k * p - i * r) + (i * p - i * p) = 0 := by omega
  rw [rzi, rzi]
  constructor
  · rintro ⟨h1, h2⟩
    refine Or.inl ⟨hs, ⟨h1, by omega, by omega⟩, ?_⟩
    have e : (i * k) * (p * r) = (i * r) * (i * r) := by
      have : k * p = i * r := by omega
      have : (i * r) * (k * p) = (i * r) * (i * r) := by rw [this]
      grind
    have h3 := mt_sq (i * r)
    constructor
    · rcases Int.lt_or_le 0 (i * k) with h | h
      · have := Int.mul_neg_of_pos_of_neg h (show p * r < 0 by omega); omega
      · exact h
    · rcases Int.lt_or_le 0 (p * r) with h | h
      · have := Int.mul_neg_of_neg_of_pos (show i * k < 0 by omega) h; omega
      · exact h
  · rintro (⟨_, ⟨h1, _, _⟩, h2, h3⟩ | ⟨h, _⟩)
    · exact ⟨h1, by omega⟩
    · exact absurd hs h
/-- a line off the place: its crossing as the reference has it -/
theorem mt_line_turn {i p k r : Int} (ht : ¬ mt_touch i p i p k r) : mt_kb (i * r - k * p) (k * p - i * r) 0 i p k r = (if (0 ≤ p ↔ 0 ≤ r) then 0 else if 0 < mt_sg (i * r - k * p) * mt_sg (r - p) then (if 0 ≤ r then 1 else -1) else 0) ∧ (¬ (0 ≤ p ↔ 0 ≤ r) → mt_sg (i * r - k * p) * mt_sg (r - p) ≠ 0) := by
  have e : mt_kb (i * r - k * p) (k * p - i * r) 0 i p k r = mt_sh (mt_cs (k * p - i * r) i p k r) p r := by
    unfold mt_kb
    rw [if_neg]
    rintro ⟨h, _⟩
    omega
  rw [e]
  unfold mt_sh
  by_cases hpr : (0 ≤ p ↔ 0 ≤ r)
  · rw [if_pos hpr, if_pos hpr]
    exact ⟨rfl, fun h => absurd hpr h⟩
  · rw [if_neg hpr, if_neg hpr]
    have hv : k * p - i * r ≠ 0 := by
      intro hv
      apply ht
      unfold mt_touch mt_tch
      refine Or.inl ⟨by omega, ⟨by omega, hv, by omega⟩, ?_⟩
      by_cases hp : 0 ≤ p
      · exact mt_Z1 i p hp (by omega) (by omega) hv
      · obtain ⟨c1, c2⟩ := mt_Z1 (i := -i) (k := -k) (p := -p) (r := -r) (-i) (-p) (by omega) (by omega) (by omega) (by rw [Int.neg_mul_neg, Int.neg_mul_neg]; exact hv)
        exact ⟨mt_rz_neg c1, mt_rz_neg c2⟩
    unfold mt_cs
    rw [if_pos hv]
    have hc : i * r - k * p = -(k * p - i * r) := by omega
    rw [hc, mt_sg_neg]
    by_cases hr : 0 ≤ r
    · have hp : p < 0 := by omega
      rw [if_pos hr, mt_sg_p (show 0 < r - p by omega), if_pos hr]
      rcases mt_sg_c (k * p - i * r) with ⟨a, b⟩ | ⟨a, b⟩ | ⟨a, b⟩
      · rw [b]; exact ⟨by decide, fun _ => by decide⟩
      · exact absurd a hv
      · rw [b]; exact ⟨by decide, fun _ => by decide⟩
    · have hp : 0 ≤ p := by omega
      rw [if_neg hr, mt_sg_n (show r - p < 0 by omega), if_neg hr]
      rcases mt_sg_c (k * p - i * r) with ⟨a, b⟩ | ⟨a, b⟩ | ⟨a, b⟩
      · rw [b]; exact ⟨by decide, fun _ => by decide⟩
      · exact absurd a hv
      · rw [b]; exact ⟨by decide, fun _ => by decide⟩
end
section
-- from Int64 and Int32 to Int
theorem mt_bd {a b A B : Int} (ha : -A ≤ a ∧ a ≤ A) (hb : -B ≤ b ∧ b ≤ B) : -(A * B) ≤ a * b ∧ a * b ≤ A * B := by
  have h1 := Int.mul_nonneg (show 0 ≤ A - a by omega) (show 0 ≤ B + b by omega)
  have h2 := Int.mul_nonneg (show 0 ≤ A + a by omega) (show 0 ≤ B - b by omega)
  have h3 := Int.mul_nonneg (show 0 ≤ A - a by omega) (show 0 ≤ B - b by omega)
  have h4 := Int.mul_nonneg (show 0 ≤ A + a by omega) (show 0 ≤ B + b by omega)
  have e1 : (A - a) * (B + b) + (A + a) * (B - b) = 2 * (A * B) - 2 * (a * b) := by grind
  have e2 : (A - a) * (B - b) + (A + a) * (B + b) = 2 * (A * B) + 2 * (a * b) := by grind
  omega
theorem iL_t {z : Int} (h : -9223372036854775808 ≤ z ∧ z < 9223372036854775808) : (Int64.ofInt z).toInt = z := Int64.toInt_ofInt_of_le (by omega) (by omega)
theorem iI_t {z : Int} (h : -2147483648 ≤ z ∧ z < 2147483648) : (Int32.ofInt z).toInt = z := Int32.toInt_ofInt_of_le (by omega) (by omega)
theorem iI_l {z : Int} (h : -2147483648 ≤ z ∧ z < 2147483648) : Int32.toInt64 (Int32.ofInt z) = Int64.ofInt z := by
  have h1 : Int32.minValue.toInt = -2147483648 := by decide
  have h2 : Int32.maxValue.toInt = 2147483647 := by decide
  exact Int32.toInt64_ofInt (by omega) (by omega)
theorem lc_c (a b : Int64) : (a.toInt < b.toInt ∧ lg_cmp a b = -1) ∨ (a.toInt = b.toInt ∧ lg_cmp a b = 0) ∨ (b.toInt < a.toInt ∧ lg_cmp a b = 1) := by
  unfold lg_cmp
  rcases Int.lt_trichotomy a.toInt b.toInt with h | h | h
  · refine Or.inl ⟨h, ?_⟩
    rw [if_neg (fun e => by have := Int64.lt_iff_toInt_lt.mp e; omega), if_neg (fun e => by rw [e] at h; omega)]
  · have e := Int64.toInt_inj.mp h
    subst e
    refine Or.inr (Or.inl ⟨rfl, ?_⟩)
    rw [if_neg (fun e => by have := Int64.lt_iff_toInt_lt.mp e; omega), if_pos rfl]
  · refine Or.inr (Or.inr ⟨h, ?_⟩)
    rw [if_pos (Int64.lt_iff_toInt_lt.mpr h)]
theorem lc_lt (a b : Int64) : lg_cmp a b < 0 ↔ a.toInt < b.toInt := by
  rcases lc_c a b with ⟨h, e⟩ | ⟨h, e⟩ | ⟨h, e⟩ <;> rw [e]
  · exact ⟨fun _ => h, fun _ => by decide⟩
  · exact ⟨fun k => absurd k (by decide), fun k => by omega⟩
  · exact ⟨fun k => absurd k (by decide), fun k => by omega⟩
theorem lc_eq (a b : Int64) : lg_cmp a b = 0 ↔ a.toInt = b.toInt := by
  rcases lc_c a b with ⟨h, e⟩ | ⟨h, e⟩ | ⟨h, e⟩ <;> rw [e]
  · exact ⟨fun k => absurd k (by decide), fun k => by omega⟩
  · exact ⟨fun _ => h, fun _ => by decide⟩
  · exact ⟨fun k => absurd k (by decide), fun k => by omega⟩
theorem lc_ge (a b : Int64) : 0 ≤ lg_cmp a b ↔ b.toInt ≤ a.toInt := by
  rcases lc_c a b with ⟨h, e⟩ | ⟨h, e⟩ | ⟨h, e⟩ <;> rw [e]
  · exact ⟨fun k => absurd k (by decide), fun k => by omega⟩
  · exact ⟨fun _ => by omega, fun _ => by decide⟩
  · exact ⟨fun _ => by omega, fun _ => by decide⟩
theorem lc_le (a b : Int64) : lg_cmp a b ≤ 0 ↔ a.toInt ≤ b.toInt := by
  rcases lc_c a b with ⟨h, e⟩ | ⟨h, e⟩ | ⟨h, e⟩ <;> rw [e]
  · exact ⟨fun _ => by omega, fun _ => by decide⟩
  · exact ⟨fun _ => by omega, fun _ => by decide⟩
  · exact ⟨fun k => absurd k (by decide), fun k => by omega⟩
theorem lc_gt (a b : Int64) : 0 < lg_cmp a b ↔ b.toInt < a.toInt := by
  rcases lc_c a b with ⟨h, e⟩ | ⟨h, e⟩ | ⟨h, e⟩ <;> rw [e]
  · exact ⟨fun k => absurd k (by decide), fun k => by omega⟩
  · exact ⟨fun k => absurd k (by decide), fun k => by omega⟩
  · exact ⟨fun _ => h, fun _ => by decide⟩
end
section
-- sums and "some" over indices, turned round
def sm (f : Nat → Int) : Nat → Int
  | 0 => 0
  | k + 1 => sm f k + f k
theorem sm_congr {f g : Nat → Int} : ∀ n : Nat, (∀ k, k < n → f k = g k) → sm f n = sm g n
  | 0, _ => rfl
  | n + 1, h => by rw [sm, sm, sm_congr n (fun k hk => h k (by omega)), h n (by omega)]
theorem sm_split (f : Nat → Int) (a : Nat) : ∀ b : Nat, sm f (a + b) = sm f a + sm (fun k => f (a + k)) b
  | 0 => by simp [sm]
  | b + 1 => by rw [← Nat.add_assoc, sm, sm, sm_split f a b]; omega
theorem sm_rot (f : Nat → Int) {s n : Nat} (hs : s ≤ n) : sm (fun k => f ((s + k) % n)) n = sm f n := by
  rcases Nat.eq_zero_or_pos n with h | h
  · subst h; rfl
  have e : n = (n - s) + s := by omega
  have h1 : sm (fun k => f ((s + k) % n)) n = sm (fun k => f ((s + k) % n)) ((n - s) + s) := by rw [← e]
  rw [h1, sm_split]
  have h2 : sm (fun k => f ((s + k) % n)) (n - s) = sm (fun k => f (s + k)) (n - s) := sm_congr _ (fun k hk => by
    show f ((s + k) % n) = f (s + k)
    rw [Nat.mod_eq_of_lt (by omega)])
  have h3 : sm (fun k => (fun k => f ((s + k) % n)) (n - s + k)) s = sm f s := sm_congr _ (fun k hk => by
    show f ((s + (n - s + k)) % n) = f k
    rw [show s + (n - s + k) = n + k by omega, Nat.add_mod_left, Nat.mod_eq_of_lt (by omega)])
  rw [h2, h3]
  have h4 : sm f n = sm f (s + (n - s)) := by rw [show s + (n - s) = n by omega]
  rw [h4, sm_split]
  omega
theorem sm_add2 (f g : Nat → Int) : ∀ n : Nat, sm (fun k => f k + g k) n = sm f n + sm g n
  | 0 => rfl
  | n + 1 => by rw [sm, sm, sm, sm_add2 f g n]; omega
theorem ex_rot (f : Nat → Prop) {s n : Nat} (hs : s ≤ n) : (∃ k, k < n ∧ f ((s + k) % n)) ↔ ∃ k, k < n ∧ f k := by
  constructor
  · rintro ⟨k, hk, h⟩
    exact ⟨_, Nat.mod_lt _ (by omega), h⟩
  · rintro ⟨k, hk, h⟩
    by_cases c : s ≤ k
    · refine ⟨k - s, by omega, ?_⟩
      rw [show s + (k - s) = k by omega, Nat.mod_eq_of_lt hk]; exact h
    · refine ⟨n - s + k, by omega, ?_⟩
      rw [show s + (n - s + k) = n + k by omega, Nat.add_mod_left, Nat.mod_eq_of_lt hk]; exact h
end
