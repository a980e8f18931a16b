-- the geometry of one arc, over Int: x-coordinates i j k, y-coordinates p q r, seen from the place
theorem mt_sq (x : Int) : 0 ≤ x * x := by
  rcases Int.le_total 0 x with h | h
  · exact Int.mul_nonneg h h
  · exact Int.mul_nonneg_of_nonpos_of_nonpos h h
theorem mt_sqp {x : Int} (h : x ≠ 0) : 0 < x * x := by
  rcases Int.lt_or_gt_of_ne h with h | h
  · exact Int.mul_pos_of_neg_of_neg h h
  · exact Int.mul_pos h h
def mt_sg (v : Int) : Int := if v < 0 then -1 else if 0 < v then 1 else 0
theorem mt_sg_p {v : Int} (h : 0 < v) : mt_sg v = 1 := by unfold mt_sg; rw [if_neg (by omega), if_pos h]
theorem mt_sg_n {v : Int} (h : v < 0) : mt_sg v = -1 := by unfold mt_sg; rw [if_pos h]
theorem mt_sg_0 : mt_sg 0 = 0 := by decide
theorem mt_sg_c (v : Int) : (v < 0 ∧ mt_sg v = -1) ∨ (v = 0 ∧ mt_sg v = 0) ∨ (0 < v ∧ mt_sg v = 1) := by
  rcases Int.lt_trichotomy v 0 with h | h | h
  · exact Or.inl ⟨h, mt_sg_n h⟩
  · subst h; exact Or.inr (Or.inl ⟨rfl, mt_sg_0⟩)
  · exact Or.inr (Or.inr ⟨h, mt_sg_p h⟩)
theorem mt_sg_neg (v : Int) : mt_sg (-v) = -mt_sg v := by
  rcases mt_sg_c v with ⟨h, e⟩ | ⟨h, e⟩ | ⟨h, e⟩
  · rw [e, mt_sg_p (by omega)]; rfl
  · subst h; rfl
  · rw [e, mt_sg_n (by omega)]
theorem mt_sg_2 (v : Int) : mt_sg (2 * v) = mt_sg v := by
  rcases mt_sg_c v with ⟨h, e⟩ | ⟨h, e⟩ | ⟨h, e⟩
  · rw [e, mt_sg_n (by omega)]
  · subst h; rfl
  · rw [e, mt_sg_p (by omega)]
/-- two numbers whose product is positive have one sign -/
theorem mt_sg_mul {x y : Int} (h : 0 < x * y) : mt_sg x = mt_sg y ∧ x ≠ 0 ∧ y ≠ 0 := by
  rcases Int.lt_trichotomy x 0 with hx | hx | hx
  · rcases Int.lt_or_le y 0 with hy | hy
    · exact ⟨by rw [mt_sg_n hx, mt_sg_n hy], by omega, by omega⟩
    · have := Int.mul_nonpos_of_nonpos_of_nonneg (Int.le_of_lt hx) hy; omega
  · subst hx; simp at h
  · rcases Int.lt_or_le 0 y with hy | hy
    · exact ⟨by rw [mt_sg_p hx, mt_sg_p hy], by omega, by omega⟩
    · have := Int.mul_nonpos_of_nonneg_of_nonpos (Int.le_of_lt hx) hy; omega
/-- the sign of g + e * sqrt d, as the reference decides it -/
def mt_so (g e d : Int) : Int :=
  if mt_sg g = (if d = 0 then 0 else mt_sg e) ∨ (if d = 0 then 0 else mt_sg e) = 0 then mt_sg g
  else if mt_sg g = 0 then (if d = 0 then 0 else mt_sg e)
  else if g * g = e * e * d then 0 else if e * e * d < g * g then mt_sg g else (if d = 0 then 0 else mt_sg e)
theorem mt_so_pos {g e d : Int} (hd : 0 ≤ d) (h : e * e * d < g * g) : mt_so g e d = mt_sg g ∧ g ≠ 0 := by
  have h1 : 0 ≤ e * e * d := Int.mul_nonneg (mt_sq e) hd
  have hg : g ≠ 0 := by
    intro hg
    subst hg
    omega
  refine ⟨?_, hg⟩
  have h3 : ¬ mt_sg g = 0 := by
    rcases mt_sg_c g with ⟨h, e⟩ | ⟨h, e⟩ | ⟨h, e⟩ <;> omega
  unfold mt_so
  generalize (if d = 0 then 0 else mt_sg e) = y
  by_cases c : mt_sg g = y ∨ y = 0
  · rw [if_pos c]
  · rw [if_neg c, if_neg h3, if_neg (by omega), if_pos h]
theorem mt_so_neg {g e d : Int} (h : g * g < e * e * d) : mt_so g e d = mt_sg e ∧ e ≠ 0 ∧ d ≠ 0 := by
  have h1 := mt_sq g
  have he : e ≠ 0 := by
    intro he
    subst he
    simp at h
    omega
  have hd : d ≠ 0 := by
    intro hd
    subst hd
    simp at h
    omega
  refine ⟨?_, he, hd⟩
  have h3 : ¬ mt_sg e = 0 := by
    rcases mt_sg_c e with ⟨h, e⟩ | ⟨h, e⟩ | ⟨h, e⟩ <;> omega
  unfold mt_so
  rw [if_neg hd]
  split
  · next h5 => rcases h5 with h5 | h5
               · exact h5
               · exact absurd h5 h3
  · split
    · rfl
    · rw [if_neg (by omega), if_neg (by omega)]
theorem mt_so_zero {g e d : Int} (h : mt_sg g = mt_sg e ∨ d = 0 ∨ e = 0) : mt_so g e d = mt_sg g := by
  unfold mt_so
  rw [if_pos]
  rcases h with h | h | h
  · by_cases hd : d = 0
    · rw [if_pos hd]; exact Or.inr rfl
    · rw [if_neg hd]; exact Or.inl h
  · rw [if_pos h]; exact Or.inr rfl
  · subst h; right; split
    · rfl
    · exact mt_sg_0
theorem mt_so_odd (g e d : Int) : mt_so (-g) (-e) d = -mt_so g e d := by
  unfold mt_so
  rw [mt_sg_neg, mt_sg_neg, Int.neg_mul_neg, Int.neg_mul_neg]
  rcases mt_sg_c g with ⟨_, e1⟩ | ⟨_, e1⟩ | ⟨_, e1⟩ <;> rcases mt_sg_c e with ⟨_, e2⟩ | ⟨_, e2⟩ | ⟨_, e2⟩ <;> rw [e1, e2] <;> by_cases hd : d = 0 <;> simp [hd] <;> (repeat' split) <;> simp_all
-- the numbers u v w, tied to p q r by u p + v q + w r = 0
theorem mt_id {u v w p q r : Int} (h0 : u * p + v * q + w * r = 0) :
    (2 * u * (p - q) + v * (p - r) + 2 * w * (q - r)) * (2 * u * (p - q) + v * (p - r) + 2 * w * (q - r)) - 4 * ((u + v + w) * (u + v + w) * (q * q - p * r)) = (p - 2 * q + r) * (p - 2 * q + r) * (v * v - 4 * (u * w)) := by
  have e : (2 * u * (p - q) + v * (p - r) + 2 * w * (q - r)) * (2 * u * (p - q) + v * (p - r) + 2 * w * (q - r)) - 4 * ((u + v + w) * (u + v + w) * (q * q - p * r)) = (p - 2 * q + r) * (p - 2 * q + r) * (v * v - 4 * (u * w)) + 4 * (p - 2 * q + r) * (u + v + w) * (u * p + v * q + w * r) := by grind
  rw [h0, Int.mul_zero, Int.add_zero] at e
  exact e
theorem mt_vG {u v w p q r : Int} (h0 : u * p + v * q + w * r = 0) :
    2 * (v * (2 * u * (p - q) + v * (p - r) + 2 * w * (q - r))) = p * ((v + 2 * u) * (v + 2 * u) + (v * v - 4 * (u * w))) + (-r) * ((v + 2 * w) * (v + 2 * w) + (v * v - 4 * (u * w))) := by
  have e : 2 * (v * (2 * u * (p - q) + v * (p - r) + 2 * w * (q - r))) = p * ((v + 2 * u) * (v + 2 * u) + (v * v - 4 * (u * w))) + (-r) * ((v + 2 * w) * (v + 2 * w) + (v * v - 4 * (u * w))) + 4 * (w - u) * (u * p + v * q + w * r) := by grind
  rw [h0, Int.mul_zero, Int.add_zero] at e
  exact e
theorem mt_A0 {u v w p q r : Int} (h0 : u * p + v * q + w * r = 0) (hp : 0 ≤ p) (hr : r ≤ 0) (hpr : r < p) (ha : 0 < (v + 2 * u) * (v + 2 * u) + (v * v - 4 * (u * w))) (hb : 0 < (v + 2 * w) * (v + 2 * w) + (v * v - 4 * (u * w))) :
    0 < v * (2 * u * (p - q) + v * (p - r) + 2 * w * (q - r)) := by
  have e := mt_vG h0
  have h1 := Int.mul_nonneg hp (Int.le_of_lt ha)
  have h2 := Int.mul_nonneg (show 0 ≤ -r by omega) (Int.le_of_lt hb)
  rcases Int.lt_or_le 0 p with h | h
  · have h3 := Int.mul_pos h ha
    omega
  · have h3 := Int.mul_pos (show 0 < -r by omega) hb
    omega
theorem mt_A1 {u v w p q r : Int} (h0 : u * p + v * q + w * r = 0) (hp : 0 ≤ p) (hr : r ≤ 0) (hpr : r < p) (hR : 4 * (u * w) < v * v) :
    0 < v * (2 * u * (p - q) + v * (p - r) + 2 * w * (q - r)) := by
  have h1 := mt_sq (v + 2 * u)
  have h2 := mt_sq (v + 2 * w)
  exact mt_A0 h0 hp hr hpr (by omega) (by omega)
theorem mt_A2 {u v w p q r : Int} (h0 : u * p + v * q + w * r = 0) (hp : 0 ≤ p) (hr : r ≤ 0) (hpr : r < p) (hR : v * v = 4 * (u * w)) (hs : u + v + w ≠ 0) (hv : v ≠ 0) :
    0 < v * (2 * u * (p - q) + v * (p - r) + 2 * w * (q - r)) := by
  have k1 : v + 2 * u ≠ 0 := by
    intro h
    have hv' : v = -(2 * u) := by omega
    have e : u * (u - w) = 0 := by rw [hv'] at hR; grind
    rcases Int.mul_eq_zero.mp e with h | h <;> omega
  have k2 : v + 2 * w ≠ 0 := by
    intro h
    have hv' : v = -(2 * w) := by omega
    have e : w * (w - u) = 0 := by rw [hv'] at hR; grind
    rcases Int.mul_eq_zero.mp e with h | h <;> omega
  have h1 := mt_sqp k1
  have h2 := mt_sqp k2
  exact mt_A0 h0 hp hr hpr (by omega) (by omega)
theorem mt_vs {u v w : Int} (hR : v * v = 4 * (u * w)) (hn : ¬ ((0 ≤ u ∧ 0 ≤ v ∧ 0 ≤ w) ∨ (u ≤ 0 ∧ v ≤ 0 ∧ w ≤ 0))) : (v < 0 ∧ 0 < u ∧ 0 < w) ∨ (0 < v ∧ u < 0 ∧ w < 0) := by
  have hv : v ≠ 0 := by
    intro h
    subst h
    have h5 : u * w = 0 := by omega
    rcases Int.mul_eq_zero.mp h5 with h | h <;> subst h <;> exact hn (by omega)
  have huw : 0 < u * w := by have := mt_sqp hv; omega
  rcases Int.lt_trichotomy u 0 with hu | hu | hu
  · have hw : w < 0 := by
      rcases Int.lt_or_le w 0 with h | h
      · exact h
      · have := Int.mul_nonpos_of_nonpos_of_nonneg (Int.le_of_lt hu) h; omega
    exact Or.inr ⟨by omega, hu, hw⟩
  · subst hu; simp at huw
  · have hw : 0 < w := by
      rcases Int.lt_or_le 0 w with h | h
      · exact h
      · have := Int.mul_nonpos_of_nonneg_of_nonpos (Int.le_of_lt hu) h; omega
    exact Or.inl ⟨by omega, hu, hw⟩
theorem mt_neg {u v w : Int} (hR : v * v < 4 * (u * w)) : (0 < u ∧ 0 < w ∧ 0 < u + v + w) ∨ (u < 0 ∧ w < 0 ∧ u + v + w < 0) := by
  have huw : 0 < u * w := by have := mt_sq v; omega
  have hq : (u + w) * (u + w) = (u - w) * (u - w) + 4 * (u * w) := by grind
  have hq2 := mt_sq (u - w)
  rcases Int.lt_trichotomy u 0 with hu | hu | hu
  · have hw : w < 0 := by
      rcases Int.lt_or_le w 0 with h | h
      · exact h
      · have := Int.mul_nonpos_of_nonpos_of_nonneg (Int.le_of_lt hu) h; omega
    refine Or.inr ⟨hu, hw, ?_⟩
    rcases Int.lt_or_le (u + v + w) 0 with h | h
    · exact h
    · have h7 := Int.mul_self_le_mul_self (show 0 ≤ -(u + w) by omega) (show -(u + w) ≤ v by omega)
      rw [Int.neg_mul_neg] at h7
      omega
  · subst hu; simp at huw
  · have hw : 0 < w := by
      rcases Int.lt_or_le 0 w with h | h
      · exact h
      · have := Int.mul_nonpos_of_nonneg_of_nonpos (Int.le_of_lt hu) h; omega
    refine Or.inl ⟨hu, hw, ?_⟩
    rcases Int.lt_or_le 0 (u + v + w) with h | h
    · exact h
    · have h7 := Int.mul_self_le_mul_self (show 0 ≤ u + w by omega) (show u + w ≤ -v by omega)
      rw [Int.neg_mul_neg] at h7
      omega
theorem mt_H {u v w p q r : Int} (h0 : u * p + v * q + w * r = 0) (ha : p - 2 * q + r = 0) :
    2 * ((p * v + 2 * r * w) * (u + v + w)) = (p - r) * (v * v - 4 * (u * w)) ∧ v * (p * v + 2 * r * w) * (p - r) = (p * v + 2 * r * w) * (p * v + 2 * r * w) - p * r * (v * v - 4 * (u * w)) := by
  have hp : p = 2 * q - r := by omega
  subst hp
  constructor
  · have e : 2 * (((2 * q - r) * v + 2 * r * w) * (u + v + w)) = ((2 * q - r) - r) * (v * v - 4 * (u * w)) + 2 * (v + 2 * w) * (u * (2 * q - r) + v * q + w * r) := by grind
    rw [h0, Int.mul_zero, Int.add_zero] at e
    exact e
  · have e : v * ((2 * q - r) * v + 2 * r * w) * ((2 * q - r) - r) = ((2 * q - r) * v + 2 * r * w) * ((2 * q - r) * v + 2 * r * w) - (2 * q - r) * r * (v * v - 4 * (u * w)) + (-4 * r * w) * (u * (2 * q - r) + v * q + w * r) := by grind
    rw [h0, Int.mul_zero, Int.add_zero] at e
    exact e
/-- the sign of the x at a crossing, in u v w p q r; dn is 1 or -1 -/
def mt_S (u v w p q r dn : Int) : Int := if p - 2 * q + r = 0 then mt_sg (p * v + 2 * r * w) else mt_so (2 * (2 * u * (p - q) + v * (p - r) + 2 * w * (q - r))) (dn * (2 * (u + v + w))) (4 * (q * q - p * r))
theorem mt_S_odd (u v w p q r dn : Int) : mt_S u v w (-p) (-q) (-r) (-dn) = -mt_S u v w p q r dn := by
  unfold mt_S
  by_cases h : p - 2 * q + r = 0
  · rw [if_pos h, if_pos (by omega), ← mt_sg_neg]
    congr 1
    grind
  · rw [if_neg h, if_neg (by omega), ← mt_so_odd]
    congr 1 <;> grind
/-- both ends on different sides: the one crossing -/
theorem mt_T1 {u v w p q r : Int} (h0 : u * p + v * q + w * r = 0) (hp : 0 ≤ p) (hr : r ≤ 0) (hpr : r < p) (hz : ¬ (u = 0 ∧ v = 0 ∧ w = 0)) (hn : u + v + w ≠ 0 → v * v = 4 * (u * w) → ¬ ((0 ≤ u ∧ 0 ≤ v ∧ 0 ≤ w) ∨ (u ≤ 0 ∧ v ≤ 0 ∧ w ≤ 0))) :
    (v * v < 4 * (u * w) → mt_S u v w p q r (-1) = -mt_sg (u + v + w)) ∧ (4 * (u * w) ≤ v * v → v ≠ 0 ∧ mt_S u v w p q r (-1) = mt_sg v) := by
  have hd : 0 ≤ q * q - p * r := by
    have h1 := mt_sq q
    have h2 := Int.mul_nonpos_of_nonneg_of_nonpos hp hr
    omega
  unfold mt_S
  by_cases ha : p - 2 * q + r = 0
  · rw [if_pos ha]
    obtain ⟨e1, e2⟩ := mt_H h0 ha
    have h3 := Int.mul_nonpos_of_nonneg_of_nonpos hp hr
    constructor
    · intro hR
      have h4 : (p - r) * (v * v - 4 * (u * w)) < 0 := Int.mul_neg_of_pos_of_neg (by omega) (by omega)
      have h5 : 0 < (p * v + 2 * r * w) * (-(u + v + w)) := by rw [Int.mul_neg]; omega
      rw [(mt_sg_mul h5).1, mt_sg_neg]
    · intro hR
      by_cases hR2 : v * v = 4 * (u * w)
      · -- R = 0
        have hR3 : v * v - 4 * (u * w) = 0 := by omega
        rw [hR3, Int.mul_zero] at e1
        rw [hR3, Int.mul_zero, Int.sub_zero] at e2
        by_cases hs : u + v + w = 0
        · have k1 : (u - w) * (u - w) = 0 := by
            have : v = -u - w := by omega
            subst this
            grind
          have k2 : u = w := by rcases Int.mul_eq_zero.mp k1 with h | h <;> omega
          have hv : v ≠ 0 := by omega
          refine ⟨hv, ?_⟩
          have k3 : 0 < (p * v + 2 * r * w) * v := by
            have e5 : 2 * ((p * v + 2 * r * w) * v) = 2 * ((p - r) * (v * v)) := by
              have : w = -v - u := by omega
              have : 2 * w = -v := by omega
              have e6 : 2 * r * w = -(r * v) := by grind
              rw [e6]
              grind
            have := Int.mul_pos (show 0 < p - r by omega) (mt_sqp hv)
            omega
          exact (mt_sg_mul k3).1
        · have hnt := hn hs hR2
          rcases mt_vs hR2 hnt with ⟨a1, a2, a3⟩ | ⟨a1, a2, a3⟩
          all_goals
            exfalso
            have k0 : p * v + 2 * r * w = 0 := by
              rcases Int.mul_eq_zero.mp (show (p * v + 2 * r * w) * (u + v + w) = 0 by omega) with h | h
              · exact h
              · exact absurd h hs
          · have b1 := Int.mul_nonpos_of_nonneg_of_nonpos hp (Int.le_of_lt a1)
            have b2 := Int.mul_nonpos_of_nonpos_of_nonneg hr (Int.le_of_lt a3)
            rw [Int.mul_assoc] at k0
            rcases Int.lt_or_le 0 p with h | h
            · have := Int.mul_neg_of_pos_of_neg h a1; omega
            · have := Int.mul_neg_of_neg_of_pos (show r < 0 by omega) a3; omega
          · have b1 := Int.mul_nonneg hp (Int.le_of_lt a1)
            have b2 := Int.mul_nonneg_of_nonpos_of_nonpos hr (Int.le_of_lt a3)
            rw [Int.mul_assoc] at k0
            rcases Int.lt_or_le 0 p with h | h
            · have := Int.mul_pos h a1; omega
            · have := Int.mul_pos_of_neg_of_neg (show r < 0 by omega) a3; omega
      · have h4 : 0 < (p - r) * (v * v - 4 * (u * w)) := Int.mul_pos (by omega) (by omega)
        have h5 : p * v + 2 * r * w ≠ 0 := by
          intro h
          rw [h, Int.zero_mul] at e1
          omega
        have h6 := mt_sqp h5
        have h7 : 0 ≤ -(p * r * (v * v - 4 * (u * w))) := by
          have := Int.mul_nonpos_of_nonpos_of_nonneg h3 (show 0 ≤ v * v - 4 * (u * w) by omega)
          omega
        have h8 : 0 < v * (p * v + 2 * r * w) * (p - r) := by omega
        have h9 := Int.pos_of_mul_pos_left h8 (show 0 < p - r by omega)
        have h10 := mt_sg_mul h9
        exact ⟨h10.2.1, h10.1.symm⟩
  · rw [if_neg ha]
    have hid := mt_id h0
    have ha2 := mt_sqp ha
    have hg : (2 * (2 * u * (p - q) + v * (p - r) + 2 * w * (q - r))) * (2 * (2 * u * (p - q) + v * (p - r) + 2 * w * (q - r))) - (-1 * (2 * (u + v + w))) * (-1 * (2 * (u + v + w))) * (4 * (q * q - p * r)) = 4 * ((p - 2 * q + r) * (p - 2 * q + r) * (v * v - 4 * (u * w))) := by
      rw [← hid]
      grind
    constructor
    · intro hR
      have h4 := Int.mul_neg_of_pos_of_neg ha2 (show v * v - 4 * (u * w) < 0 by omega)
      rw [(mt_so_neg (by omega)).1, ← mt_sg_neg, ← mt_sg_2 (-(u + v + w))]
      congr 1
      omega
    · intro hR
      by_cases hR2 : v * v = 4 * (u * w)
      · have hs : u + v + w ≠ 0 := by
          intro hs
          have k1 : (u - w) * (u - w) = 0 := by
            have : v = -u - w := by omega
            subst this
            grind
          have k2 : u = w := by rcases Int.mul_eq_zero.mp k1 with h | h <;> omega
          have hv : v = -(2 * u) := by omega
          subst k2
          rw [hv] at h0
          have k3 : u * (p - 2 * q + r) = 0 := by grind
          rcases Int.mul_eq_zero.mp k3 with h | h
          · exact hz (by omega)
          · exact ha h
        have hnt := hn hs hR2
        have hvs := mt_vs hR2 hnt
        have hv : v ≠ 0 := by omega
        have h5 := mt_sg_mul (mt_A2 h0 hp hr hpr hR2 hs hv)
        refine ⟨hv, ?_⟩
        rw [mt_so_zero, mt_sg_2, h5.1]
        left
        rw [mt_sg_2, ← h5.1]
        have hq : (u + w) * (u + w) = (u - w) * (u - w) + 4 * (u * w) := by grind
        have hq2 := mt_sq (u - w)
        rcases hvs with ⟨a1, a2, a3⟩ | ⟨a1, a2, a3⟩
        · rw [mt_sg_n a1, mt_sg_n]
          have : 0 < u + v + w := by
            rcases Int.lt_or_le 0 (u + v + w) with h | h
            · exact h
            · have h7 := Int.mul_self_lt_mul_self (show 0 ≤ u + w by omega) (show u + w < -v by omega)
              rw [Int.neg_mul_neg] at h7
              omega
          omega
        · rw [mt_sg_p a1, mt_sg_p]
          have : u + v + w < 0 := by
            rcases Int.lt_or_le (u + v + w) 0 with h | h
            · exact h
            · have h7 := Int.mul_self_lt_mul_self (show 0 ≤ -(u + w) by omega) (show -(u + w) < v by omega)
              rw [Int.neg_mul_neg] at h7
              omega
          omega
      · have h4 := Int.mul_pos ha2 (show 0 < v * v - 4 * (u * w) by omega)
        have h5 := mt_sg_mul (mt_A1 h0 hp hr hpr (by omega))
        refine ⟨h5.2.1, ?_⟩
        rw [(mt_so_pos (by omega) (by omega)).1, mt_sg_2, h5.1]
/-- both ends on one side, the bend so far on the other that the curve crosses twice -/
theorem mt_T2 {u v w p q r dn : Int} (h0 : u * p + v * q + w * r = 0) (hp : 0 ≤ p) (hr : 0 ≤ r) (hq : q < 0) (hqq : p * r < q * q) (hdn : dn = 1 ∨ dn = -1) (hz : ¬ (u = 0 ∧ v = 0 ∧ w = 0)) (hn : u + v + w ≠ 0 → v * v = 4 * (u * w) → ¬ ((0 ≤ u ∧ 0 ≤ v ∧ 0 ≤ w) ∨ (u ≤ 0 ∧ v ≤ 0 ∧ w ≤ 0))) :
    v * v ≠ 4 * (u * w) ∧ (v * v < 4 * (u * w) → mt_S u v w p q r dn = dn * mt_sg (u + v + w)) ∧ (4 * (u * w) < v * v → 2 * u * (p - q) + v * (p - r) + 2 * w * (q - r) ≠ 0 ∧ mt_S u v w p q r dn = mt_sg (2 * u * (p - q) + v * (p - r) + 2 * w * (q - r))) := by
  have ha : p - 2 * q + r ≠ 0 := by omega
  have hid := mt_id h0
  have ha2 := mt_sqp ha
  have hd2 : dn * dn = 1 := by rcases hdn with h | h <;> subst h <;> rfl
  have hg : (2 * (2 * u * (p - q) + v * (p - r) + 2 * w * (q - r))) * (2 * (2 * u * (p - q) + v * (p - r) + 2 * w * (q - r))) - (dn * (2 * (u + v + w))) * (dn * (2 * (u + v + w))) * (4 * (q * q - p * r)) = 4 * ((p - 2 * q + r) * (p - 2 * q + r) * (v * v - 4 * (u * w))) := by
    rw [← hid]
    have e : (dn * (2 * (u + v + w))) * (dn * (2 * (u + v + w))) * (4 * (q * q - p * r)) = (dn * dn) * ((2 * (u + v + w)) * (2 * (u + v + w)) * (4 * (q * q - p * r))) := by grind
    rw [e, hd2]
    grind
  unfold mt_S
  rw [if_neg ha]
  refine ⟨?_, ?_, ?_⟩
  · intro hR2
    by_cases hs : u + v + w = 0
    · have k1 : (u - w) * (u - w) = 0 := by
        have : v = -u - w := by omega
        subst this
        grind
      have k2 : u = w := by rcases Int.mul_eq_zero.mp k1 with h | h <;> omega
      have hv : v = -(2 * u) := by omega
      subst k2
      rw [hv] at h0
      have k3 : u * (p - 2 * q + r) = 0 := by grind
      rcases Int.mul_eq_zero.mp k3 with h | h
      · exact hz (by omega)
      · exact ha h
    · rcases mt_vs hR2 (hn hs hR2) with ⟨a1, a2, a3⟩ | ⟨a1, a2, a3⟩
      · have b1 := Int.mul_nonneg (Int.le_of_lt a2) hp
        have b2 := Int.mul_nonneg (Int.le_of_lt a3) hr
        have b3 := Int.mul_pos_of_neg_of_neg a1 hq
        omega
      · have b1 := Int.mul_nonpos_of_nonpos_of_nonneg (Int.le_of_lt a2) hp
        have b2 := Int.mul_nonpos_of_nonpos_of_nonneg (Int.le_of_lt a3) hr
        have b3 := Int.mul_neg_of_pos_of_neg a1 hq
        omega
  · intro hR
    have h4 := Int.mul_neg_of_pos_of_neg ha2 (show v * v - 4 * (u * w) < 0 by omega)
    rw [(mt_so_neg (by omega)).1]
    rcases hdn with h | h <;> subst h
    · rw [Int.one_mul, Int.one_mul, mt_sg_2]
    · rw [show (-1 : Int) * mt_sg (u + v + w) = -mt_sg (u + v + w) by omega, ← mt_sg_neg, ← mt_sg_2 (-(u + v + w))]
      congr 1
      omega
  · intro hR
    have h4 := Int.mul_pos ha2 (show 0 < v * v - 4 * (u * w) by omega)
    have h5 := mt_so_pos (g := 2 * (2 * u * (p - q) + v * (p - r) + 2 * w * (q - r))) (e := dn * (2 * (u + v + w))) (d := 4 * (q * q - p * r)) (by omega) (by omega)
    exact ⟨by omega, by rw [h5.1, mt_sg_2]⟩
