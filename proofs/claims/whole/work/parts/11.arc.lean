-- one arc: the class's answer and the reference's, over Int
def mt_rz (p q r : Int) : Prop := p = 0 ∨ mt_sg r ≠ mt_sg p ∨ (mt_sg q = -mt_sg p ∧ p * r ≤ q * q)
def mt_zr (p q r : Int) : Prop := (p = 0 ∨ r = 0 ∨ ¬ (0 < p ↔ 0 < r)) ∨ ((if 0 < p then q < 0 else 0 < q) ∧ p * r ≤ q * q)
theorem mt_rz_zr (p q r : Int) : mt_rz p q r ↔ mt_zr p q r := by
  unfold mt_rz mt_zr
  rcases mt_sg_c p with ⟨h1, e1⟩ | ⟨h1, e1⟩ | ⟨h1, e1⟩ <;> rcases mt_sg_c q with ⟨h2, e2⟩ | ⟨h2, e2⟩ | ⟨h2, e2⟩ <;> rcases mt_sg_c r with ⟨h3, e3⟩ | ⟨h3, e3⟩ | ⟨h3, e3⟩ <;> rw [e1, e2, e3] <;> split <;> omega
def mt_tri (u v w : Int) : Prop := (0 ≤ u ∧ 0 ≤ v ∧ 0 ≤ w) ∨ (u ≤ 0 ∧ v ≤ 0 ∧ w ≤ 0)
def mt_tch (u v w i p j q k r : Int) : Prop := (u + v + w = 0 ∧ (u = 0 ∧ v = 0 ∧ w = 0) ∧ mt_rz i j k ∧ mt_rz p q r) ∨ (u + v + w ≠ 0 ∧ mt_tri u v w ∧ v * v = 4 * (u * w))
def mt_touch (i p j q k r : Int) : Prop := mt_tch (j * r - k * q) (k * p - i * r) (i * q - j * p) i p j q k r
def mt_rtch (u v w i p j q k r : Int) : Prop := (u + v + w = 0 ∧ (if i = j ∧ j = k ∧ p = q ∧ q = r then i = 0 ∧ p = 0 else (u = 0 ∧ v = 0 ∧ w = 0) ∧ (if i = j ∧ j = k then mt_zr p q r else mt_zr i j k))) ∨ (u + v + w ≠ 0 ∧ mt_tri u v w ∧ v * v = 4 * (u * w))
def mt_rtouch (i p j q k r : Int) : Prop := mt_rtch (j * r - k * q) (k * p - i * r) (i * q - j * p) i p j q k r
/-- on one line with the place, and not all of one x: what holds of the x holds of the y -/
theorem mt_par {i p j q k r : Int} (h1 : k * p = i * r) (h2 : i * q = j * p) (hw : ¬ (i = j ∧ j = k)) (h : mt_rz i j k) : mt_rz p q r := by
  unfold mt_rz at h ⊢
  by_cases hp : p = 0
  · exact Or.inl hp
  by_cases hr : mt_sg r = mt_sg p
  · right; right
    have hi : i ≠ 0 := by
      intro hi
      subst hi
      rw [Int.zero_mul] at h1 h2
      have a1 : k = 0 := by rcases Int.mul_eq_zero.mp h1 with h | h
                            · exact h
                            · exact absurd h hp
      have a2 : j = 0 := by rcases Int.mul_eq_zero.mp h2.symm with h | h
                            · exact h
                            · exact absurd h hp
      exact hw ⟨a2.symm, by rw [a1, a2]⟩
    have hii := mt_sqp hi
    have hpp := mt_sqp hp
    have hsk : mt_sg k = mt_sg i := by
      rcases Int.lt_or_gt_of_ne hp with hp' | hp'
      · have hr' : r < 0 := by rw [mt_sg_n hp'] at hr; rcases mt_sg_c r with ⟨a, b⟩ | ⟨a, b⟩ | ⟨a, b⟩ <;> omega
        rcases Int.lt_or_gt_of_ne hi with hi' | hi'
        · have := Int.mul_pos_of_neg_of_neg hi' hr'
          have : k < 0 := by
            rcases Int.lt_or_le k 0 with h | h
            · exact h
            · have := Int.mul_nonpos_of_nonneg_of_nonpos h (Int.le_of_lt hp'); omega
          rw [mt_sg_n this, mt_sg_n hi']
        · have := Int.mul_neg_of_pos_of_neg hi' hr'
          have : 0 < k := by
            rcases Int.lt_or_le 0 k with h | h
            · exact h
            · have := Int.mul_nonneg_of_nonpos_of_nonpos h (Int.le_of_lt hp'); omega
          rw [mt_sg_p this, mt_sg_p hi']
      · have hr' : 0 < r := by rw [mt_sg_p hp'] at hr; rcases mt_sg_c r with ⟨a, b⟩ | ⟨a, b⟩ | ⟨a, b⟩ <;> omega
        rcases Int.lt_or_gt_of_ne hi with hi' | hi'
        · have := Int.mul_neg_of_neg_of_pos hi' hr'
          have : k < 0 := by
            rcases Int.lt_or_le k 0 with h | h
            · exact h
            · have := Int.mul_nonneg h (Int.le_of_lt hp'); omega
          rw [mt_sg_n this, mt_sg_n hi']
        · have := Int.mul_pos hi' hr'
          have : 0 < k := by
            rcases Int.lt_or_le 0 k with h | h
            · exact h
            · have := Int.mul_nonpos_of_nonpos_of_nonneg h (Int.le_of_lt hp'); omega
          rw [mt_sg_p this, mt_sg_p hi']
    rcases h with h | h | ⟨h, h'⟩
    · exact absurd h hi
    · exact absurd hsk h
    · constructor
      · rcases Int.lt_or_gt_of_ne hp with hp' | hp' <;> rcases Int.lt_or_gt_of_ne hi with hi' | hi'
        · rw [mt_sg_n hi'] at h
          have hj : 0 < j := by rcases mt_sg_c j with ⟨a, b⟩ | ⟨a, b⟩ | ⟨a, b⟩ <;> omega
          have := Int.mul_neg_of_pos_of_neg hj hp'
          have : 0 < q := by
            rcases Int.lt_or_le 0 q with h | h
            · exact h
            · have := Int.mul_nonneg_of_nonpos_of_nonpos (Int.le_of_lt hi') h; omega
          rw [mt_sg_p this, mt_sg_n hp']; rfl
        · rw [mt_sg_p hi'] at h
          have hj : j < 0 := by rcases mt_sg_c j with ⟨a, b⟩ | ⟨a, b⟩ | ⟨a, b⟩ <;> omega
          have := Int.mul_pos_of_neg_of_neg hj hp'
          have : 0 < q := by
            rcases Int.lt_or_le 0 q with h | h
            · exact h
            · have := Int.mul_nonpos_of_nonneg_of_nonpos (Int.le_of_lt hi') h; omega
          rw [mt_sg_p this, mt_sg_n hp']; rfl
        · rw [mt_sg_n hi'] at h
          have hj : 0 < j := by rcases mt_sg_c j with ⟨a, b⟩ | ⟨a, b⟩ | ⟨a, b⟩ <;> omega
          have := Int.mul_pos hj hp'
          have : q < 0 := by
            rcases Int.lt_or_le q 0 with h | h
            · exact h
            · have := Int.mul_nonpos_of_nonpos_of_nonneg (Int.le_of_lt hi') h; omega
          rw [mt_sg_n this, mt_sg_p hp']
        · rw [mt_sg_p hi'] at h
          have hj : j < 0 := by rcases mt_sg_c j with ⟨a, b⟩ | ⟨a, b⟩ | ⟨a, b⟩ <;> omega
          have := Int.mul_neg_of_neg_of_pos hj hp'
          have : q < 0 := by
            rcases Int.lt_or_le q 0 with h | h
            · exact h
            · have := Int.mul_nonneg (Int.le_of_lt hi') h; omega
          rw [mt_sg_n this, mt_sg_p hp']
      · -- i i (q q - p r) = p p (j j - i k)
        have e : (i * i) * (q * q - p * r) = (p * p) * (j * j - i * k) := by
          have a1 : (i * q) * (i * q) = (j * p) * (j * p) := by rw [h2]
          have a2 : (i * r) * (p * i) = (k * p) * (p * i) := by rw [h1]
          grind
        have h5 : 0 ≤ (p * p) * (j * j - i * k) := Int.mul_nonneg (Int.le_of_lt hpp) (by omega)
        have h6 := Int.nonneg_of_mul_nonneg_right (a := i * i) (b := q * q - p * r) (by omega) hii
        omega
  · exact Or.inr (Or.inl hr)
theorem mt_touch_iff (i p j q k r : Int) : mt_rtouch i p j q k r ↔ mt_touch i p j q k r := by
  unfold mt_rtouch mt_touch mt_rtch mt_tch
  by_cases hz : j * r - k * q = 0 ∧ k * p - i * r = 0 ∧ i * q - j * p = 0
  · have hs : j * r - k * q + (k * p - i * r) + (i * q - j * p) = 0 := by omega
    have key : (if i = j ∧ j = k ∧ p = q ∧ q = r then i = 0 ∧ p = 0 else (if i = j ∧ j = k then mt_zr p q r else mt_zr i j k)) ↔ (mt_rz i j k ∧ mt_rz p q r) := by
      by_cases hw : i = j ∧ j = k
      · obtain ⟨rfl, rfl⟩ := hw
        by_cases hp : p = q ∧ q = r
        · obtain ⟨rfl, rfl⟩ := hp
          rw [if_pos ⟨rfl, rfl, rfl, rfl⟩]
          unfold mt_rz
          rcases mt_sg_c i with ⟨h1, e1⟩ | ⟨h1, e1⟩ | ⟨h1, e1⟩ <;> rcases mt_sg_c p with ⟨h2, e2⟩ | ⟨h2, e2⟩ | ⟨h2, e2⟩ <;> rw [e1, e2] <;> omega
        · rw [if_neg (fun h => hp ⟨h.2.2.1, h.2.2.2⟩), if_pos ⟨rfl, rfl⟩, ← mt_rz_zr]
          have hi : i = 0 := by
            rcases Int.lt_trichotomy i 0 with h | h | h
            · exfalso
              have a1 : i * (r - q) = 0 := by grind
              have a2 : i * (q - p) = 0 := by grind
              rcases Int.mul_eq_zero.mp a1 with b | b <;> rcases Int.mul_eq_zero.mp a2 with d | d <;> omega
            · exact h
            · exfalso
              have a1 : i * (r - q) = 0 := by grind
              have a2 : i * (q - p) = 0 := by grind
              rcases Int.mul_eq_zero.mp a1 with b | b <;> rcases Int.mul_eq_zero.mp a2 with d | d <;> omega
          exact ⟨fun h => ⟨Or.inl hi, h⟩, fun h => h.2⟩
      · rw [if_neg (fun h => hw ⟨h.1, h.2.1⟩), if_neg hw, ← mt_rz_zr]
        exact ⟨fun h => ⟨h, mt_par (by omega) (by omega) hw h⟩, fun h => h.1⟩
    constructor
    · rintro (⟨_, h⟩ | ⟨h, _⟩)
      · refine Or.inl ⟨hs, hz, ?_⟩
        apply key.mp
        by_cases c : i = j ∧ j = k ∧ p = q ∧ q = r
        · rw [if_pos c] at h ⊢; exact h
        · rw [if_neg c] at h ⊢; exact h.2
      · exact absurd hs h
    · rintro (⟨_, _, h⟩ | ⟨h, _⟩)
      · refine Or.inl ⟨hs, ?_⟩
        have h := key.mpr h
        by_cases c : i = j ∧ j = k ∧ p = q ∧ q = r
        · rw [if_pos c] at h ⊢; exact h
        · rw [if_neg c] at h ⊢; exact ⟨hz, h⟩
      · exact absurd hs h
  · constructor
    · rintro (⟨hs, h⟩ | h)
      · split at h
        · rename_i c
          obtain ⟨rfl, rfl, rfl, rfl⟩ := c
          exact absurd ⟨by omega, by omega, by omega⟩ hz
        · exact absurd h.1 hz
      · exact Or.inr h
    · rintro (⟨_, h, _⟩ | h)
      · exact absurd h hz
      · exact Or.inr h
/-- all on one line with the place, ends on different sides: the place is on it -/
theorem mt_Z1 {i p k r : Int} (j q : Int) (hp : 0 ≤ p) (hr : r ≤ 0) (hpr : r < p) (h1 : k * p - i * r = 0) : mt_rz i j k ∧ mt_rz p q r := by
  constructor
  · unfold mt_rz
    by_cases hi : i = 0
    · exact Or.inl hi
    · refine Or.inr (Or.inl ?_)
      intro h
      rcases Int.lt_or_gt_of_ne hi with hi' | hi'
      · rw [mt_sg_n hi'] at h
        have hk : k < 0 := by rcases mt_sg_c k with ⟨a, b⟩ | ⟨a, b⟩ | ⟨a, b⟩ <;> omega
        have a1 := Int.mul_nonpos_of_nonpos_of_nonneg (Int.le_of_lt hk) hp
        have a2 := Int.mul_nonneg_of_nonpos_of_nonpos (Int.le_of_lt hi') hr
        rcases Int.lt_or_le 0 p with h | h
        · have := Int.mul_neg_of_neg_of_pos hk h; omega
        · have := Int.mul_pos_of_neg_of_neg hi' (show r < 0 by omega); omega
      · rw [mt_sg_p hi'] at h
        have hk : 0 < k := by rcases mt_sg_c k with ⟨a, b⟩ | ⟨a, b⟩ | ⟨a, b⟩ <;> omega
        have a1 := Int.mul_nonneg (Int.le_of_lt hk) hp
        have a2 := Int.mul_nonpos_of_nonneg_of_nonpos (Int.le_of_lt hi') hr
        rcases Int.lt_or_le 0 p with h | h
        · have := Int.mul_pos hk h; omega
        · have := Int.mul_neg_of_pos_of_neg hi' (show r < 0 by omega); omega
  · unfold mt_rz
    by_cases h : p = 0
    · exact Or.inl h
    · refine Or.inr (Or.inl ?_)
      rw [mt_sg_p (show 0 < p by omega)]
      rcases mt_sg_c r with ⟨a, b⟩ | ⟨a, b⟩ | ⟨a, b⟩ <;> omega
theorem mt_Z2 {i p j q k r : Int} (hp : 0 ≤ p) (hr : 0 ≤ r) (hq : q < 0) (hqq : p * r < q * q) (h1 : j * r - k * q = 0) (h3 : i * q - j * p = 0) : mt_rz i j k ∧ mt_rz p q r := by
  constructor
  · unfold mt_rz
    by_cases hi : i = 0
    · exact Or.inl hi
    by_cases hk : mt_sg k = mt_sg i
    · refine Or.inr (Or.inr ⟨?_, ?_⟩)
      · rcases Int.lt_or_gt_of_ne hi with hi' | hi'
        · have := Int.mul_pos_of_neg_of_neg hi' hq
          have hj : 0 < j := by
            rcases Int.lt_or_le 0 j with h | h
            · exact h
            · have := Int.mul_nonpos_of_nonpos_of_nonneg h hp; omega
          rw [mt_sg_p hj, mt_sg_n hi']; rfl
        · have := Int.mul_neg_of_pos_of_neg hi' hq
          have hj : j < 0 := by
            rcases Int.lt_or_le j 0 with h | h
            · exact h
            · have := Int.mul_nonneg h hp; omega
          rw [mt_sg_n hj, mt_sg_p hi']
      · have hqp := mt_sqp (show q ≠ 0 by omega)
        have e : (q * q) * (j * j - i * k) = (j * j) * (q * q - p * r) := by
          have a1 : i * q = j * p := by omega
          have a2 : k * q = j * r := by omega
          have a3 : (i * q) * (k * q) = (j * p) * (j * r) := by rw [a1, a2]
          grind
        have h5 : 0 ≤ (j * j) * (q * q - p * r) := Int.mul_nonneg (mt_sq j) (by omega)
        have h6 := Int.nonneg_of_mul_nonneg_right (a := q * q) (b := j * j - i * k) (by omega) hqp
        omega
    · exact Or.inr (Or.inl hk)
  · unfold mt_rz
    by_cases h : p = 0
    · exact Or.inl h
    by_cases h' : r = 0
    · refine Or.inr (Or.inl ?_)
      rw [mt_sg_p (show 0 < p by omega), h', mt_sg_0]; omega
    · refine Or.inr (Or.inr ⟨?_, by omega⟩)
      rw [mt_sg_n hq, mt_sg_p (show 0 < p by omega)]
theorem mt_rz_neg {p q r : Int} (h : mt_rz (-p) (-q) (-r)) : mt_rz p q r := by
  unfold mt_rz at h ⊢
  rw [mt_sg_neg, mt_sg_neg, mt_sg_neg, Int.neg_mul_neg, Int.neg_mul_neg] at h
  rcases h with h | h | ⟨h, h'⟩
  · exact Or.inl (by omega)
  · exact Or.inr (Or.inl (by omega))
  · exact Or.inr (Or.inr ⟨by omega, h'⟩)
def mt_cs (v i p k r : Int) : Int := if v ≠ 0 then mt_sg v else if r ≠ p then mt_sg (r - p) else mt_sg (k - i)
def mt_sh (cs p r : Int) : Int := if (0 ≤ p ↔ 0 ≤ r) then 0 else if 0 ≤ r then (if cs < 0 then 1 else 0) else (if 0 < cs then -1 else 0)
/-- does the loop of arc and chord go round the place -/
def mt_lp (u v w i p k r : Int) : Prop := u + v + w ≠ 0 ∧ mt_tri u v w ∧ v * v < 4 * (u * w) ∧ mt_cs v i p k r = mt_sg (u + v + w)
def mt_cond (p q r : Int) : Prop := (if 0 ≤ p then q < 0 else 0 < q) ∧ p * r < q * q
theorem mt_pr {u v w p q r : Int} (h0 : u * p + v * q + w * r = 0) (hR : v * v < 4 * (u * w)) (hv : v ≠ 0) (hq : q ≠ 0) : p * r < q * q := by
  rcases Int.lt_or_le (p * r) (q * q) with h | h
  · exact h
  · exfalso
    have hqq := mt_sqp hq
    have hvv := mt_sqp hv
    have e1 : (v * v) * (q * q) = (u * p + w * r) * (u * p + w * r) := by
      have : v * q = -(u * p + w * r) := by omega
      have : (v * q) * (v * q) = (u * p + w * r) * (u * p + w * r) := by rw [this, Int.neg_mul_neg]
      grind
    have e2 : (u * p + w * r) * (u * p + w * r) = (u * p - w * r) * (u * p - w * r) + (4 * (u * w)) * (p * r) := by grind
    have h2 := mt_sq (u * p - w * r)
    have h3 : (v * v) * (q * q) ≤ (v * v) * (p * r) := Int.mul_le_mul_of_nonneg_left h (Int.le_of_lt hvv)
    have h4 : (v * v) * (p * r) < (4 * (u * w)) * (p * r) := Int.mul_lt_mul_of_pos_right hR (by omega)
    omega
/-- the loop goes round the place, the ends on one side: the curve crosses twice; s > 0 -/
theorem mt_L1 {u v w i p j q k r : Int} (eu : u = j * r - k * q) (ew : w = i * q - j * p) (h0 : u * p + v * q + w * r = 0) (hpr : 0 ≤ p ↔ 0 ≤ r) (hR : v * v < 4 * (u * w)) (hu : 0 < u) (hw : 0 < w) (hv : 0 ≤ v) (hc : mt_cs v i p k r = 1) : mt_cond p q r := by
  unfold mt_cond
  by_cases hp : 0 ≤ p
  · have hr : 0 ≤ r := hpr.mp hp
    rw [if_pos hp]
    have b1 := Int.mul_nonneg (Int.le_of_lt hu) hp
    have b2 := Int.mul_nonneg (Int.le_of_lt hw) hr
    by_cases hv0 : v = 0
    · subst hv0
      rw [Int.zero_mul] at h0
      have p0 : p = 0 := by
        rcases Int.mul_eq_zero.mp (show u * p = 0 by omega) with h | h <;> omega
      have r0 : r = 0 := by
        rcases Int.mul_eq_zero.mp (show w * r = 0 by omega) with h | h <;> omega
      subst p0 r0
      unfold mt_cs at hc
      rw [if_neg (by omega), if_neg (by omega)] at hc
      have hki : 0 < k - i := by rcases mt_sg_c (k - i) with ⟨a, b⟩ | ⟨a, b⟩ | ⟨a, b⟩ <;> omega
      rw [Int.mul_zero] at eu ew
      have hq : q < 0 := by
        rcases Int.lt_or_le q 0 with h | h
        · exact h
        · exfalso
          have hk : k < 0 := by
            rcases Int.lt_or_le k 0 with h' | h'
            · exact h'
            · have := Int.mul_nonneg h' h; omega
          have hi : 0 < i := by
            rcases Int.lt_or_le 0 i with h' | h'
            · exact h'
            · have := Int.mul_nonpos_of_nonpos_of_nonneg h' h; omega
          omega
      exact ⟨hq, by have := mt_sqp (show q ≠ 0 by omega); omega⟩
    · have hv' : 0 < v := by omega
      have hq : q < 0 := by
        rcases Int.lt_trichotomy q 0 with h | h | h
        · exact h
        · exfalso
          subst h
          rw [Int.mul_zero] at h0
          have p0 : p = 0 := by
            rcases Int.mul_eq_zero.mp (show u * p = 0 by omega) with h | h <;> omega
          have r0 : r = 0 := by
            rcases Int.mul_eq_zero.mp (show w * r = 0 by omega) with h | h <;> omega
          subst p0 r0
          simp at eu
          omega
        · have := Int.mul_pos hv' h; omega
      exact ⟨hq, mt_pr h0 hR hv0 (by omega)⟩
  · have hr : ¬ 0 ≤ r := fun h => hp (hpr.mpr h)
    rw [if_neg hp]
    have b1 := Int.mul_neg_of_pos_of_neg hu (show p < 0 by omega)
    have b2 := Int.mul_neg_of_pos_of_neg hw (show r < 0 by omega)
    have hv0 : v ≠ 0 := by
      intro h
      subst h
      rw [Int.zero_mul] at h0
      omega
    have hq : 0 < q := by
      rcases Int.lt_or_le 0 q with h | h
      · exact h
      · have := Int.mul_nonpos_of_nonneg_of_nonpos hv h; omega
    exact ⟨hq, mt_pr h0 hR hv0 (by omega)⟩
/-- the other way round: the curve crosses twice and s > 0: the loop goes round the place -/
theorem mt_L2 {u v w i p j q k r : Int} (eu : u = j * r - k * q) (ew : w = i * q - j * p) (h0 : u * p + v * q + w * r = 0) (hpr : 0 ≤ p ↔ 0 ≤ r) (hu : 0 < u) (hw : 0 < w) (hc : mt_cond p q r) : 0 ≤ v ∧ mt_cs v i p k r = 1 := by
  unfold mt_cond at hc
  by_cases hp : 0 ≤ p
  · have hr : 0 ≤ r := hpr.mp hp
    rw [if_pos hp] at hc
    have b1 := Int.mul_nonneg (Int.le_of_lt hu) hp
    have b2 := Int.mul_nonneg (Int.le_of_lt hw) hr
    have hv : 0 ≤ v := by
      rcases Int.lt_or_le v 0 with h | h
      · have := Int.mul_pos_of_neg_of_neg h hc.1; omega
      · exact h
    refine ⟨hv, ?_⟩
    unfold mt_cs
    by_cases hv0 : v = 0
    · subst hv0
      rw [Int.zero_mul] at h0
      have p0 : p = 0 := by
        rcases Int.mul_eq_zero.mp (show u * p = 0 by omega) with h | h <;> omega
      have r0 : r = 0 := by
        rcases Int.mul_eq_zero.mp (show w * r = 0 by omega) with h | h <;> omega
      subst p0 r0
      rw [if_neg (by omega), if_neg (by omega)]
      rw [Int.mul_zero] at eu ew
      have hk : 0 < k := by
        rcases Int.lt_or_le 0 k with h' | h'
        · exact h'
        · have := Int.mul_nonneg_of_nonpos_of_nonpos h' (Int.le_of_lt hc.1); omega
      have hi : i < 0 := by
        rcases Int.lt_or_le i 0 with h' | h'
        · exact h'
        · have := Int.mul_nonpos_of_nonneg_of_nonpos h' (Int.le_of_lt hc.1); omega
      exact mt_sg_p (by omega)
    · rw [if_pos hv0, mt_sg_p (by omega)]
  · have hr : ¬ 0 ≤ r := fun h => hp (hpr.mpr h)
    rw [if_neg hp] at hc
    have b1 := Int.mul_neg_of_pos_of_neg hu (show p < 0 by omega)
    have b2 := Int.mul_neg_of_pos_of_neg hw (show r < 0 by omega)
    have hv : 0 < v := by
      rcases Int.lt_or_le 0 v with h | h
      · exact h
      · have := Int.mul_nonpos_of_nonpos_of_nonneg h (Int.le_of_lt hc.1); omega
    unfold mt_cs
    rw [if_pos (by omega), mt_sg_p hv]
    exact ⟨by omega, rfl⟩
theorem mt_cs_neg (v i p k r : Int) (h : v ≠ 0 ∨ r = p) : mt_cs (-v) (-i) p (-k) r = -mt_cs v i p k r := by
  unfold mt_cs
  by_cases hv : v = 0
  · have hr : r = p := by omega
    rw [if_neg (by omega), if_neg (by omega), if_neg (by omega), if_neg (by omega), ← mt_sg_neg]
    congr 1; omega
  · rw [if_pos (by omega), if_pos hv, mt_sg_neg]
