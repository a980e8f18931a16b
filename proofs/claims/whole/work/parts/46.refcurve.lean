-- the reference's crossings, lines and curves, over Int
theorem km_zero_i {p q r : Int} (hp : -80000 ≤ p ∧ p ≤ 80000) (hq : -80000 ≤ q ∧ q ≤ 80000) (hr : -80000 ≤ r ∧ r ≤ 80000) : km_zero (Int64.ofInt p) (Int64.ofInt q) (Int64.ofInt r) = 0 ↔ ¬ mt_zr p q r := by
  have z0 : (0 : Int64).toInt = 0 := by decide
  have b1 := mt_bd hq hq
  have b2 := mt_bd hp hr
  have ep := lc_eq (Int64.ofInt p) 0
  have er := lc_eq (Int64.ofInt r) 0
  have lp := lc_le (Int64.ofInt p) 0
  have lr := lc_le (Int64.ofInt r) 0
  have lq := lc_le (Int64.ofInt q) 0
  have gq := lc_ge (Int64.ofInt q) 0
  have hlt := lc_lt (Int64.ofInt (q * q)) (Int64.ofInt (p * r))
  rw [iL_t (by omega), z0] at ep er lp lr lq gq
  rw [iL_t (by omega), iL_t (by omega)] at hlt
  unfold km_zero mt_zr
  by_cases c1 : p = 0
  · rw [if_pos (ep.mpr c1)]
    exact ⟨fun h => absurd h (by decide), fun h => absurd (Or.inl (Or.inl c1)) h⟩
  rw [if_neg (fun z => c1 (ep.mp z))]
  by_cases c2 : r = 0
  · rw [if_pos (er.mpr c2)]
    exact ⟨fun h => absurd h (by decide), fun h => absurd (Or.inl (Or.inr (Or.inl c2))) h⟩
  rw [if_neg (fun z => c2 (er.mp z))]
  by_cases c3 : p ≤ 0
  · rw [if_pos (lp.mpr c3), if_neg (show ¬ 0 < p by omega)]
    unfold km_zero_j24
    by_cases c4 : r ≤ 0
    · rw [if_pos (lr.mpr c4)]
      unfold km_zero_j36
      rw [if_pos rfl, if_pos (lp.mpr c3), ← Int64.ofInt_mul, ← Int64.ofInt_mul]
      by_cases c5 : q ≤ 0
      · rw [if_pos (lq.mpr c5)]
        exact ⟨fun _ => by omega, fun _ => rfl⟩
      · rw [if_neg (fun z => c5 (lq.mp z))]
        by_cases c6 : q * q < p * r
        · rw [if_pos (hlt.mpr c6)]
          exact ⟨fun _ => by omega, fun _ => rfl⟩
        · rw [if_neg (fun z => c6 (hlt.mp z))]
          exact ⟨fun h => absurd h (by decide), fun h => absurd (Or.inr ⟨by omega, by omega⟩) h⟩
    · rw [if_neg (fun z => c4 (lr.mp z))]
      unfold km_zero_j36
      rw [if_neg (by decide)]
      exact ⟨fun h => absurd h (by decide), fun h => absurd (Or.inl (Or.inr (Or.inr (by omega)))) h⟩
  · rw [if_neg (fun z => c3 (lp.mp z)), if_pos (show 0 < p by omega)]
    unfold km_zero_j24
    by_cases c4 : r ≤ 0
    · rw [if_pos (lr.mpr c4)]
      unfold km_zero_j36
      rw [if_neg (by decide)]
      exact ⟨fun h => absurd h (by decide), fun h => absurd (Or.inl (Or.inr (Or.inr (by omega)))) h⟩
    · rw [if_neg (fun z => c4 (lr.mp z))]
      unfold km_zero_j36
      rw [if_pos rfl, if_neg (fun z => c3 (lp.mp z)), ← Int64.ofInt_mul, ← Int64.ofInt_mul]
      by_cases c5 : 0 ≤ q
      · rw [if_pos (gq.mpr c5)]
        exact ⟨fun _ => by omega, fun _ => rfl⟩
      · rw [if_neg (fun z => c5 (gq.mp z))]
        by_cases c6 : q * q < p * r
        · rw [if_pos (hlt.mpr c6)]
          exact ⟨fun _ => by omega, fun _ => rfl⟩
        · rw [if_neg (fun z => c6 (hlt.mp z))]
          exact ⟨fun h => absurd h (by decide), fun h => absurd (Or.inr ⟨by omega, by omega⟩) h⟩
theorem km_thr_i {fi se : Nat → Int64} {u v w : Int} (hu : 0 ≤ u ∧ u ≤ 12800000000) (hv : 0 ≤ v ∧ v ≤ 12800000000) (hw : 0 ≤ w ∧ w ≤ 12800000000) : (km_thr fi se (Int64.ofInt u) (Int64.ofInt v) (Int64.ofInt w)).1 = if v * v = 4 * (u * w) then 1 else 0 := by
  have a1 := uN_i (z := u) (by omega)
  have a2 := uN_i (z := v) (by omega)
  have a3 := uN_i (z := w) (by omega)
  rw [lb_thr (by omega) (by omega) (by omega)]
  have e1 : ((uN (Int64.ofInt v) * uN (Int64.ofInt v) : Nat) : Int) = v * v := by rw [Int.natCast_mul, a2]
  have e2 : ((uN (Int64.ofInt w) * uN (Int64.ofInt u) : Nat) : Int) = u * w := by rw [Int.natCast_mul, a1, a3, Int.mul_comm]
  generalize uN (Int64.ofInt v) * uN (Int64.ofInt v) = x at *
  generalize uN (Int64.ofInt w) * uN (Int64.ofInt u) = y at *
  by_cases c : v * v = 4 * (u * w)
  · rw [if_pos c, if_pos (show x = 4 * y by omega)]
  · rw [if_neg c, if_neg (show ¬ x = 4 * y by omega)]
theorem km_cross_1 (tn a b c : Int32) : (km_cross 1 tn a b c).1 = 1 := by
  unfold km_cross km_cross_j9 km_cross_j43 km_cross_j47
  (repeat' split) <;> rfl
theorem km_cross_dn {tc tn : Int32} {S : Int} (hS : S = 1 ∨ S = -1) : km_cross tc tn 0 1 (Int32.ofInt S) = (tc, tn + Int32.ofInt (if 0 < S then 1 else 0)) := by
  unfold km_cross km_cross_j9 km_cross_j43 km_cross_j47
  rcases hS with h | h <;> subst h
  · rw [if_neg (by decide), if_neg (by decide), if_neg (by decide), if_pos rfl, if_pos (by decide)]; rfl
  · rw [if_neg (by decide), if_pos (by decide), if_neg (by decide)]
    have e : Int32.ofInt 0 = 0 := by decide
    rw [e, Int32.add_zero]
theorem km_cross_up {tc tn : Int32} {S : Int} (hS : S = 1 ∨ S = -1) : km_cross tc tn 1 0 (Int32.ofInt S) = (tc, tn + Int32.ofInt (if 0 < S then -1 else 0)) := by
  unfold km_cross km_cross_j9 km_cross_j43 km_cross_j47
  rcases hS with h | h <;> subst h
  · rw [if_neg (by decide), if_neg (by decide), if_pos rfl, if_neg (by decide), if_pos rfl, if_pos (by decide)]; rfl
  · rw [if_neg (by decide), if_pos (by decide), if_neg (by decide)]
    have e : Int32.ofInt 0 = 0 := by decide
    rw [e, Int32.add_zero]
theorem km_line37_i {tn t : Int32} {i p k r : Int} (hi : -80000 ≤ i ∧ i ≤ 80000) (hp : -80000 ≤ p ∧ p ≤ 80000) (hk : -80000 ≤ k ∧ k ≤ 80000) (hr : -80000 ≤ r ∧ r ≤ 80000) :
    km_line_j37 tn (Int64.ofInt i) (Int64.ofInt p) (Int64.ofInt k) (Int64.ofInt r) t = if (0 ≤ p ↔ 0 ≤ r) then (t, tn) else if 0 ≤ r then km_cross t tn 0 1 (Int32.ofInt (mt_sg (i * r - k * p) * mt_sg (r - p))) else km_cross t tn 1 0 (Int32.ofInt (mt_sg (i * r - k * p) * mt_sg (r - p))) := by
  have z0 : (0 : Int64).toInt = 0 := by decide
  have b1 := mt_bd hi hr
  have b2 := mt_bd hk hp
  have ep := lc_lt (Int64.ofInt p) 0
  have er := lc_lt (Int64.ofInt r) 0
  rw [iL_t (by omega), z0] at ep er
  have es : km_sign (Int64.ofInt i * Int64.ofInt r - Int64.ofInt k * Int64.ofInt p) * km_sign (Int64.ofInt r - Int64.ofInt p) = Int32.ofInt (mt_sg (i * r - k * p) * mt_sg (r - p)) := by
    rw [← Int64.ofInt_mul, ← Int64.ofInt_mul, ← Int64.ofInt_sub, ← Int64.ofInt_sub, km_sign_i (by omega), km_sign_i (by omega), ← Int32.ofInt_mul]
  unfold km_line_j37
  by_cases c1 : p < 0
  · rw [if_pos (ep.mpr c1)]
    unfold km_line_j48
    by_cases c2 : r < 0
    · rw [if_pos (er.mpr c2), if_pos (show (0 ≤ p ↔ 0 ≤ r) by omega)]
      unfold km_line_j60 km_line_j103
      rw [if_pos rfl]
    · rw [if_neg (fun z => c2 (er.mp z)), if_neg (show ¬ (0 ≤ p ↔ 0 ≤ r) by omega), if_pos (show 0 ≤ r by omega)]
      unfold km_line_j60
      rw [if_neg (by decide), if_pos (ep.mpr c1)]
      unfold km_line_j75
      rw [if_neg (fun z => c2 (er.mp z))]
      unfold km_line_j87 km_line_k103 km_line_j103
      rw [es]
  · rw [if_neg (fun z => c1 (ep.mp z))]
    unfold km_line_j48
    by_cases c2 : r < 0
    · rw [if_pos (er.mpr c2), if_neg (show ¬ (0 ≤ p ↔ 0 ≤ r) by omega), if_neg (show ¬ 0 ≤ r by omega)]
      unfold km_line_j60
      rw [if_neg (by decide), if_neg (fun z => c1 (ep.mp z))]
      unfold km_line_j75
      rw [if_pos (er.mpr c2)]
      unfold km_line_j87 km_line_k103 km_line_j103
      rw [es]
    · rw [if_neg (fun z => c2 (er.mp z)), if_pos (show (0 ≤ p ↔ 0 ≤ r) by omega)]
      unfold km_line_j60 km_line_j103
      rw [if_pos rfl]
theorem km_line_i {tc tn : Int32} {i p k r : Int} (hi : -80000 ≤ i ∧ i ≤ 80000) (hp : -80000 ≤ p ∧ p ≤ 80000) (hk : -80000 ≤ k ∧ k ≤ 80000) (hr : -80000 ≤ r ∧ r ≤ 80000) :
    (tc = 1 → (km_line tc tn (Int64.ofInt i) (Int64.ofInt p) (Int64.ofInt k) (Int64.ofInt r)).1 = 1) ∧ (mt_touch i p i p k r → (km_line tc tn (Int64.ofInt i) (Int64.ofInt p) (Int64.ofInt k) (Int64.ofInt r)).1 = 1) ∧
    (¬ mt_touch i p i p k r → km_line tc tn (Int64.ofInt i) (Int64.ofInt p) (Int64.ofInt k) (Int64.ofInt r) = (tc, tn + Int32.ofInt (mt_kb (i * r - k * p) (k * p - i * r) 0 i p k r))) := by
  have z0 : (0 : Int64).toInt = 0 := by decide
  have b1 := mt_bd hi hr
  have b2 := mt_bd hk hp
  have b3 := mt_bd hi hk
  have b4 := mt_bd hp hr
  have e1 := lc_eq (Int64.ofInt (i * r - k * p)) 0
  have e2 := lc_gt (Int64.ofInt (i * k + p * r)) 0
  rw [iL_t (by omega), z0] at e1 e2
  have hone : ∀ t : Int32, t = 1 → (km_line_j37 tn (Int64.ofInt i) (Int64.ofInt p) (Int64.ofInt k) (Int64.ofInt r) t).1 = 1 := by
    intro t ht
    subst ht
    rw [km_line37_i hi hp hk hr]
    split
    · rfl
    · split
      · exact km_cross_1 _ _ _ _
      · exact km_cross_1 _ _ _ _
  have hl := mt_line i p k r
  unfold km_line
  rw [← Int64.ofInt_mul, ← Int64.ofInt_mul, ← Int64.ofInt_mul, ← Int64.ofInt_mul, ← Int64.ofInt_sub, ← Int64.ofInt_add]
  by_cases hT : mt_touch i p i p k r
  · obtain ⟨t1, t2⟩ := hl.mpr hT
    rw [if_pos (e1.mpr t1), if_neg (fun z => by have := e2.mp z; omega)]
    exact ⟨fun _ => hone 1 rfl, fun _ => hone 1 rfl, fun h => absurd hT h⟩
  · have hk37 : (if (lg_cmp (Int64.ofInt (i * r - k * p)) 0) = 0 then (if 0 < (lg_cmp (Int64.ofInt (i * k + p * r)) 0) then (km_line_j37 tn (Int64.ofInt i) (Int64.ofInt p) (Int64.ofInt k) (Int64.ofInt r) tc) else (km_line_j37 tn (Int64.ofInt i) (Int64.ofInt p) (Int64.ofInt k) (Int64.ofInt r) 1)) else (km_line_j37 tn (Int64.ofInt i) (Int64.ofInt p) (Int64.ofInt k) (Int64.ofInt r) tc)) = km_line_j37 tn (Int64.ofInt i) (Int64.ofInt p) (Int64.ofInt k) (Int64.ofInt r) tc := by
      by_cases c1 : i * r - k * p = 0
      · rw [if_pos (e1.mpr c1), if_pos (e2.mpr (by
          rcases Int.lt_or_le 0 (i * k + p * r) with z | z
          · exact z
          · exact absurd (hl.mp ⟨c1, z⟩) hT))]
      · rw [if_neg (fun z => c1 (e1.mp z))]
    rw [hk37]
    refine ⟨fun h => hone tc h, fun h => absurd h hT, fun _ => ?_⟩
    obtain ⟨m1, m2⟩ := mt_line_turn hT
    rw [km_line37_i hi hp hk hr, m1]
    have e0 : Int32.ofInt 0 = 0 := by decide
    by_cases c : (0 ≤ p ↔ 0 ≤ r)
    · rw [if_pos c, if_pos c, e0, Int32.add_zero]
    · rw [if_neg c, if_neg c]
      have hS : mt_sg (i * r - k * p) * mt_sg (r - p) = 1 ∨ mt_sg (i * r - k * p) * mt_sg (r - p) = -1 := by
        have := m2 c
        rcases mt_sg_c (i * r - k * p) with ⟨_, x⟩ | ⟨_, x⟩ | ⟨_, x⟩ <;> rcases mt_sg_c (r - p) with ⟨_, y⟩ | ⟨_, y⟩ | ⟨_, y⟩ <;> rw [x, y] at this ⊢ <;> simp at this ⊢
      by_cases c2 : 0 ≤ r
      · rw [if_pos c2, if_pos c2, km_cross_dn hS]
      · rw [if_neg c2, if_neg c2, km_cross_up hS]
theorem sd_pm {S : Int} (h0 : S ≠ 0) (h : S = -1 ∨ S = 0 ∨ S = 1) : S = 1 ∨ S = -1 := by omega
theorem mt_S_pm (u v w p q r dn : Int) : mt_S u v w p q r dn = -1 ∨ mt_S u v w p q r dn = 0 ∨ mt_S u v w p q r dn = 1 := by
  have hs : ∀ x : Int, mt_sg x = -1 ∨ mt_sg x = 0 ∨ mt_sg x = 1 := fun x => by
    rcases mt_sg_c x with ⟨_, e⟩ | ⟨_, e⟩ | ⟨_, e⟩ <;> omega
  unfold mt_S mt_so
  generalize (2 * (2 * u * (p - q) + v * (p - r) + 2 * w * (q - r))) = g
  have hy : (if 4 * (q * q - p * r) = 0 then 0 else mt_sg (dn * (2 * (u + v + w)))) = -1 ∨ (if 4 * (q * q - p * r) = 0 then 0 else mt_sg (dn * (2 * (u + v + w)))) = 0 ∨ (if 4 * (q * q - p * r) = 0 then 0 else mt_sg (dn * (2 * (u + v + w)))) = 1 := by
    split
    · exact Or.inr (Or.inl rfl)
    · exact hs _
  generalize (if 4 * (q * q - p * r) = 0 then 0 else mt_sg (dn * (2 * (u + v + w)))) = y at hy ⊢
  split
  · exact hs _
  · split
    · exact hs _
    · split
      · exact hy
      · split
        · exact Or.inr (Or.inl rfl)
        · split
          · exact hs _
          · exact hy
/-- curve behind its touch tests: the crossings -/
theorem km_curve255_i {fi se : Nat → Int64} {tn : Int32} {i p j q k r : Int} (hi : -80000 ≤ i ∧ i ≤ 80000) (hp : -80000 ≤ p ∧ p ≤ 80000) (hj : -80000 ≤ j ∧ j ≤ 80000) (hq : -80000 ≤ q ∧ q ≤ 80000) (hk : -80000 ≤ k ∧ k ≤ 80000) (hr : -80000 ≤ r ∧ r ≤ 80000) (hok : mt_rok (j * r - k * q) (k * p - i * r) (i * q - j * p) p q r) :
    (km_curve_j255 tn (Int64.ofInt i) (Int64.ofInt p) (Int64.ofInt j) (Int64.ofInt q) (Int64.ofInt k) (Int64.ofInt r) fi se 0).1 = 0 ∧ (km_curve_j255 tn (Int64.ofInt i) (Int64.ofInt p) (Int64.ofInt j) (Int64.ofInt q) (Int64.ofInt k) (Int64.ofInt r) fi se 0).2.1 = tn + Int32.ofInt (mt_rturn (j * r - k * q) (k * p - i * r) (i * q - j * p) p q r) := by
  have z0 : (0 : Int64).toInt = 0 := by decide
  have b1 := mt_bd hq hq
  have b2 := mt_bd hp hr
  have ep := lc_lt (Int64.ofInt p) 0
  have er := lc_lt (Int64.ofInt r) 0
  have lq := lc_le (Int64.ofInt q) 0
  have gq := lc_ge (Int64.ofInt q) 0
  have hlt := lc_le (Int64.ofInt (q * q)) (Int64.ofInt (p * r))
  rw [iL_t (by omega), z0] at ep er lq gq
  rw [iL_t (by omega), iL_t (by omega)] at hlt
  have o1 : (1 : Int32) = Int32.ofInt 1 := by decide
  have om : (-1 : Int32) = Int32.ofInt (-1) := by decide
  have e0 : Int32.ofInt 0 = 0 := by decide
  have hqq := mt_sq q
  have sd1 : ∀ fi se : Nat → Int64, p * r ≤ q * q → (km_side fi se (Int64.ofInt i) (Int64.ofInt p) (Int64.ofInt j) (Int64.ofInt q) (Int64.ofInt k) (Int64.ofInt r) 1).1 = Int32.ofInt (mt_S (j * r - k * q) (k * p - i * r) (i * q - j * p) p q r 1) := fun fi se h => by
    rw [o1, km_side_i hi hp hj hq hk hr (Or.inl rfl) h, mt_sd_S]
  have sdm : ∀ fi se : Nat → Int64, p * r ≤ q * q → (km_side fi se (Int64.ofInt i) (Int64.ofInt p) (Int64.ofInt j) (Int64.ofInt q) (Int64.ofInt k) (Int64.ofInt r) (-1)).1 = Int32.ofInt (mt_S (j * r - k * q) (k * p - i * r) (i * q - j * p) p q r (-1)) := fun fi se h => by
    rw [om, km_side_i hi hp hj hq hk hr (Or.inr rfl) h, mt_sd_S]
  obtain ⟨k1, k2, k3, k4⟩ := hok
  have pm1 := mt_S_pm (j * r - k * q) (k * p - i * r) (i * q - j * p) p q r 1
  have pmm := mt_S_pm (j * r - k * q) (k * p - i * r) (i * q - j * p) p q r (-1)
  generalize gS1 : mt_S (j * r - k * q) (k * p - i * r) (i * q - j * p) p q r 1 = S1 at *
  generalize gSm : mt_S (j * r - k * q) (k * p - i * r) (i * q - j * p) p q r (-1) = Sm at *
  unfold km_curve_j255
  rw [if_pos rfl]
  by_cases c1 : p < 0
  · rw [if_pos (ep.mpr c1)]
    unfold km_curve_j274
    by_cases c2 : r < 0
    · rw [if_pos (er.mpr c2)]
      unfold km_curve_j288
      rw [if_pos rfl, if_pos rfl]
      by_cases c3 : q ≤ 0
      · have ht : mt_rturn (j * r - k * q) (k * p - i * r) (i * q - j * p) p q r = 0 := by
          unfold mt_rturn
          rw [if_neg (show ¬ 0 ≤ p by omega), if_neg (show ¬ 0 ≤ r by omega), if_neg (fun z => by omega)]
        rw [if_pos (lq.mpr c3), ht, e0, Int32.add_zero]
        exact ⟨rfl, rfl⟩
      · rw [if_neg (fun z => c3 (lq.mp z))]
        unfold km_curve_j354
        rw [← Int64.ofInt_mul, ← Int64.ofInt_mul]
        by_cases c4 : q * q ≤ p * r
        · have ht : mt_rturn (j * r - k * q) (k * p - i * r) (i * q - j * p) p q r = 0 := by
            unfold mt_rturn
            rw [if_neg (show ¬ 0 ≤ p by omega), if_neg (show ¬ 0 ≤ r by omega), if_neg (fun z => by omega)]
          rw [if_pos (hlt.mpr c4), ht, e0, Int32.add_zero]
          exact ⟨rfl, rfl⟩
        · rw [if_neg (fun z => c4 (hlt.mp z)), if_pos rfl]
          unfold km_curve_j380
          rw [if_pos rfl]
          unfold km_curve_j401 km_curve_k404 km_curve_k407
          rw [if_pos rfl]
          unfold km_curve_j418
          rw [if_pos rfl]
          unfold km_curve_j441 km_curve_k444 km_curve_k447 km_curve_j447
          rw [sd1 _ _ (by omega), sdm _ _ (by omega), km_cross_dn (sd_pm (k4 c1 c2 (by omega) (by omega)).1 pm1), km_cross_up (sd_pm (k4 c1 c2 (by omega) (by omega)).2 pmm)]
          refine ⟨rfl, ?_⟩
          show tn + _ + _ = tn + _
          unfold mt_rturn
          rw [if_neg (show ¬ 0 ≤ p by omega), if_neg (show ¬ 0 ≤ r by omega), if_pos (show 0 < q ∧ p * r < q * q by omega), Int32.add_assoc, ← Int32.ofInt_add]
          rw [gS1, gSm]
    · have hd : p * r ≤ q * q := by have := Int.mul_nonpos_of_nonpos_of_nonneg (Int.le_of_lt c1) (show 0 ≤ r by omega); omega
      rw [if_neg (fun z => c2 (er.mp z))]
      unfold km_curve_j288
      rw [if_neg (by decide), if_neg (by decide)]
      unfold km_curve_j323 km_curve_k326 km_curve_k329 km_curve_j447
      rw [sd1 _ _ hd, km_cross_dn (sd_pm (k2 c1 (by omega)) pm1)]
      refine ⟨rfl, ?_⟩
      unfold mt_rturn
      rw [if_neg (show ¬ 0 ≤ p by omega), if_pos (show 0 ≤ r by omega)]
      first | rw [gS1] | rw [gSm]
  · rw [if_neg (fun z => c1 (ep.mp z))]
    unfold km_curve_j274
    by_cases c2 : r < 0
    · have hd : p * r ≤ q * q := by have := Int.mul_nonpos_of_nonneg_of_nonpos (show 0 ≤ p by omega) (Int.le_of_lt c2); omega
      rw [if_pos (er.mpr c2)]
      unfold km_curve_j288
      rw [if_neg (by decide), if_pos rfl]
      unfold km_curve_j323 km_curve_k326 km_curve_k329 km_curve_j447
      rw [sdm _ _ hd, km_cross_up (sd_pm (k1 (by omega) c2) pmm)]
      refine ⟨rfl, ?_⟩
      unfold mt_rturn
      rw [if_pos (show 0 ≤ p by omega), if_neg (show ¬ 0 ≤ r by omega)]
      first | rw [gS1] | rw [gSm]
    · rw [if_neg (fun z => c2 (er.mp z))]
      unfold km_curve_j288
      rw [if_pos rfl, if_neg (by decide)]
      by_cases c3 : 0 ≤ q
      · have ht : mt_rturn (j * r - k * q) (k * p - i * r) (i * q - j * p) p q r = 0 := by
          unfold mt_rturn
          rw [if_pos (show 0 ≤ p by omega), if_pos (show 0 ≤ r by omega), if_neg (fun z => by omega)]
        rw [if_pos (gq.mpr c3), ht, e0, Int32.add_zero]
        exact ⟨rfl, rfl⟩
      · rw [if_neg (fun z => c3 (gq.mp z))]
        unfold km_curve_j354
        rw [← Int64.ofInt_mul, ← Int64.ofInt_mul]
        by_cases c4 : q * q ≤ p * r
        · have ht : mt_rturn (j * r - k * q) (k * p - i * r) (i * q - j * p) p q r = 0 := by
            unfold mt_rturn
            rw [if_pos (show 0 ≤ p by omega), if_pos (show 0 ≤ r by omega), if_neg (fun z => by omega)]
          rw [if_pos (hlt.mpr c4), ht, e0, Int32.add_zero]
          exact ⟨rfl, rfl⟩
        · rw [if_neg (fun z => c4 (hlt.mp z)), if_neg (by decide)]
          unfold km_curve_j380
          rw [if_neg (by decide)]
          unfold km_curve_j401 km_curve_k404 km_curve_k407
          rw [if_neg (by decide)]
          unfold km_curve_j418
          rw [if_neg (by decide)]
          unfold km_curve_j441 km_curve_k444 km_curve_k447 km_curve_j447
          rw [sd1 _ _ (by omega), sdm _ _ (by omega), km_cross_up (sd_pm (k3 (by omega) (by omega) (by omega) (by omega)).1 pmm), km_cross_dn (sd_pm (k3 (by omega) (by omega) (by omega) (by omega)).2 pm1)]
          refine ⟨rfl, ?_⟩
          show tn + _ + _ = tn + _
          unfold mt_rturn
          rw [if_pos (show 0 ≤ p by omega), if_pos (show 0 ≤ r by omega), if_pos (show q < 0 ∧ p * r < q * q by omega), Int32.add_assoc, ← Int32.ofInt_add]
          rw [gS1, gSm]
