-- the class's arc, from Int32 and Int64 to Int
theorem i32_lt (a b : Int32) : a < b ↔ a.toInt < b.toInt := Int32.lt_iff_toInt_lt
theorem i32_le (a b : Int32) : a ≤ b ↔ a.toInt ≤ b.toInt := Int32.le_iff_toInt_le
theorem i32_eq (a b : Int32) : a = b ↔ a.toInt = b.toInt := Int32.toInt_inj.symm
theorem jmin_t (x y : Int32) : (if y < x then y else x).toInt = min x.toInt y.toInt := by
  by_cases h : y < x
  · rw [if_pos h]; rw [i32_lt] at h; omega
  · rw [if_neg h]; rw [i32_lt] at h; omega
theorem jmax_t (x y : Int32) : (if x < y then y else x).toInt = max x.toInt y.toInt := by
  by_cases h : x < y
  · rw [if_pos h]; rw [i32_lt] at h; omega
  · rw [if_neg h]; rw [i32_lt] at h; omega
theorem ka_may_i (sx sy bx b2 ex ey b : Int32) : ka_may sx sy bx b2 ex ey b = 0 ↔ (b.toInt < min sy.toInt (min b2.toInt ey.toInt) ∨ max sy.toInt (max b2.toInt ey.toInt) < b.toInt) := by
  have e1 := jmin_t sy (if ey < b2 then ey else b2)
  rw [jmin_t b2 ey] at e1
  have e2 := jmax_t sy (if b2 < ey then ey else b2)
  rw [jmax_t b2 ey] at e2
  unfold ka_may
  rw [← e1, ← e2, ← i32_lt, ← i32_lt]
  generalize (if (if ey < b2 then ey else b2) < sy then (if ey < b2 then ey else b2) else sy) = mn
  generalize (if sy < (if b2 < ey then ey else b2) then (if b2 < ey then ey else b2) else sy) = mx
  by_cases h : b < mn
  · rw [if_pos h]; exact ⟨fun _ => Or.inl h, fun _ => rfl⟩
  · rw [if_neg h]
    by_cases h2 : mx < b
    · rw [if_pos h2]; exact ⟨fun _ => Or.inr h2, fun _ => rfl⟩
    · rw [if_neg h2]
      exact ⟨fun k => absurd k (by decide), fun k => by
        rcases k with k | k
        · exact absurd k h
        · exact absurd k h2⟩
theorem jl_sg {p : Int} (h : -9223372036854775808 ≤ p ∧ p < 9223372036854775808) : jl_cmp (Int64.ofInt p) 0 = Int32.ofInt (mt_sg p) := by
  have z0 : (0 : Int64).toInt = 0 := by decide
  unfold jl_cmp
  rcases lc_c (Int64.ofInt p) 0 with ⟨h1, e⟩ | ⟨h1, e⟩ | ⟨h1, e⟩ <;> rw [iL_t h, z0] at h1 <;> rw [e]
  · rw [mt_sg_n h1]; decide
  · rw [h1, mt_sg_0]; decide
  · rw [mt_sg_p h1]; decide
theorem jl_sg2 {p q : Int} (h : -4611686018427387904 ≤ p ∧ p < 4611686018427387904) (h' : -4611686018427387904 ≤ q ∧ q < 4611686018427387904) : jl_cmp (Int64.ofInt p) (Int64.ofInt q) = Int32.ofInt (mt_sg (p - q)) := by
  unfold jl_cmp
  rcases lc_c (Int64.ofInt p) (Int64.ofInt q) with ⟨h1, e⟩ | ⟨h1, e⟩ | ⟨h1, e⟩ <;> rw [iL_t (by omega), iL_t (by omega)] at h1 <;> rw [e]
  · rw [mt_sg_n (by omega)]; decide
  · rw [h1, Int.sub_self, mt_sg_0]; decide
  · rw [mt_sg_p (by omega)]; decide
theorem ji_sg {p q : Int} (h : -1073741824 ≤ p ∧ p < 1073741824) (h' : -1073741824 ≤ q ∧ q < 1073741824) : ji_cmp (Int32.ofInt p) (Int32.ofInt q) = Int32.ofInt (mt_sg (p - q)) := by
  unfold ji_cmp
  by_cases c : p < q
  · rw [mt_sg_n (by omega)]
    have hc : ¬ Int32.ofInt q ≤ Int32.ofInt p := by rw [i32_le, iI_t (by omega), iI_t (by omega)]; omega
    rw [if_neg hc]; decide
  · have hc : Int32.ofInt q ≤ Int32.ofInt p := by rw [i32_le, iI_t (by omega), iI_t (by omega)]; omega
    rw [if_pos hc]
    by_cases c2 : p = q
    · subst c2; rw [if_pos rfl, Int.sub_self, mt_sg_0]; decide
    · have hc2 : ¬ Int32.ofInt p = Int32.ofInt q := by rw [i32_eq, iI_t (by omega), iI_t (by omega)]; omega
      rw [if_neg hc2, mt_sg_p (by omega)]; decide
theorem ka_turn_i (a b c d : Int) : ka_turn (Int64.ofInt a) (Int64.ofInt b) (Int64.ofInt c) (Int64.ofInt d) = Int64.ofInt (a * d - b * c) := by
  unfold ka_turn
  rw [← Int64.ofInt_mul, ← Int64.ofInt_mul, ← Int64.ofInt_sub]
theorem sg_b (a : Int) : -1 ≤ mt_sg a ∧ mt_sg a ≤ 1 := by
  rcases mt_sg_c a with ⟨_, e⟩ | ⟨_, e⟩ | ⟨_, e⟩ <;> omega
theorem sgI (a b : Int) : Int32.ofInt (mt_sg a) = Int32.ofInt (mt_sg b) ↔ mt_sg a = mt_sg b := by
  have h1 := sg_b a
  have h2 := sg_b b
  rw [i32_eq, iI_t (by omega), iI_t (by omega)]
theorem sgIn (a b : Int) : Int32.ofInt (mt_sg a) = -Int32.ofInt (mt_sg b) ↔ mt_sg a = -mt_sg b := by
  have h1 := sg_b a
  have h2 := sg_b b
  rw [← Int32.ofInt_neg, i32_eq, iI_t (by omega), iI_t (by omega)]
theorem sgI0 (a : Int) : Int32.ofInt (mt_sg a) = 0 ↔ a = 0 := by
  have h1 := sg_b a
  have z : (0 : Int32).toInt = 0 := by decide
  rw [i32_eq, iI_t (by omega), z]
  rcases mt_sg_c a with ⟨_, e⟩ | ⟨_, e⟩ | ⟨_, e⟩ <;> omega
theorem ka_rz_i {p q r : Int} (hp : -80000 ≤ p ∧ p ≤ 80000) (hq : -80000 ≤ q ∧ q ≤ 80000) (hr : -80000 ≤ r ∧ r ≤ 80000) : ka_rz (Int64.ofInt p) (Int64.ofInt q) (Int64.ofInt r) = 0 ↔ ¬ mt_rz p q r := by
  have b1 := mt_bd hq hq
  have b2 := mt_bd hp hr
  unfold ka_rz mt_rz
  rw [jl_sg (p := p) (by omega), jl_sg (p := q) (by omega), jl_sg (p := r) (by omega), ← Int64.ofInt_mul, ← Int64.ofInt_mul]
  have hlt := lc_lt (Int64.ofInt (q * q)) (Int64.ofInt (p * r))
  rw [iL_t (by omega), iL_t (by omega)] at hlt
  by_cases c1 : p = 0
  · rw [if_pos ((sgI0 p).mpr c1)]
    exact ⟨fun h => absurd h (by decide), fun h => absurd (Or.inl c1) h⟩
  · rw [if_neg (fun z => c1 ((sgI0 p).mp z))]
    by_cases c2 : mt_sg r = mt_sg p
    · rw [if_pos ((sgI r p).mpr c2)]
      by_cases c3 : mt_sg q = -mt_sg p
      · rw [if_pos ((sgIn q p).mpr c3)]
        by_cases c4 : q * q < p * r
        · rw [if_pos (hlt.mpr c4)]
          refine ⟨fun _ => ?_, fun _ => rfl⟩
          rintro (h | h | h)
          · exact c1 h
          · exact h c2
          · omega
        · rw [if_neg (fun z => c4 (hlt.mp z))]
          exact ⟨fun h => absurd h (by decide), fun h => absurd (Or.inr (Or.inr ⟨c3, by omega⟩)) h⟩
      · rw [if_neg (fun z => c3 ((sgIn q p).mp z))]
        refine ⟨fun _ => ?_, fun _ => rfl⟩
        rintro (h | h | h)
        · exact c1 h
        · exact h c2
        · exact c3 h.1
    · rw [if_neg (fun z => c2 ((sgI r p).mp z))]
      exact ⟨fun h => absurd h (by decide), fun h => absurd (Or.inr (Or.inl c2)) h⟩
/-- a place and a coordinate, seen from it -/
theorem rel_i {z c : Int} (hz : -40000 ≤ z ∧ z ≤ 40000) (hc : -40000 ≤ c ∧ c ≤ 40000) : Int32.toInt64 (Int32.ofInt z - Int32.ofInt c) = Int64.ofInt (z - c) := by
  rw [← Int32.ofInt_sub, iI_l (by omega)]
theorem ka_side_i {sx sy bx b2 ex ey v x y : Int} (h1 : -40000 ≤ sx ∧ sx ≤ 40000) (h2 : -40000 ≤ sy ∧ sy ≤ 40000) (h5 : -40000 ≤ ex ∧ ex ≤ 40000) (h6 : -40000 ≤ ey ∧ ey ≤ 40000) (hv : -100000000000 ≤ v ∧ v ≤ 100000000000) :
    ka_side (Int32.ofInt sx) (Int32.ofInt sy) (Int32.ofInt bx) (Int32.ofInt b2) (Int32.ofInt ex) (Int32.ofInt ey) (Int64.ofInt v) = Int32.ofInt (mt_cs v (sx - x) (sy - y) (ex - x) (ey - y)) := by
  have z0 : (0 : Int64).toInt = 0 := by decide
  have e0 := lc_eq (Int64.ofInt v) 0
  have e1 := lc_ge (Int64.ofInt v) 0
  rw [iL_t (by omega), z0] at e0 e1
  unfold ka_side mt_cs
  have e2 : Int32.ofInt ey = Int32.ofInt sy ↔ ey = sy := by rw [i32_eq, iI_t (by omega), iI_t (by omega)]
  by_cases c : v = 0
  · rw [if_pos (e0.mpr c), if_neg (show ¬ v ≠ 0 from fun h => h c)]
    by_cases c2 : ey = sy
    · rw [if_pos (e2.mpr c2), if_neg (show ¬ ey - y ≠ sy - y from fun h => h (by omega)), ji_sg (by omega) (by omega)]
      congr 2; omega
    · rw [if_neg (fun z => c2 (e2.mp z)), if_pos (show ey - y ≠ sy - y by omega), ji_sg (by omega) (by omega)]
      congr 2; omega
  · rw [if_neg (fun z => c (e0.mp z)), if_pos (show v ≠ 0 from c)]
    by_cases c2 : 0 ≤ v
    · rw [if_pos (e1.mpr c2), mt_sg_p (by omega)]; decide
    · rw [if_neg (fun z => c2 (e1.mp z)), mt_sg_n (by omega)]; decide
theorem ka_share_i {sy ey cs y : Int} (h2 : -40000 ≤ sy ∧ sy ≤ 40000) (h6 : -40000 ≤ ey ∧ ey ≤ 40000) (hy : -40000 ≤ y ∧ y ≤ 40000) (hc : -1 ≤ cs ∧ cs ≤ 1) (sx bx b2 ex : Int32) :
    ka_share sx (Int32.ofInt sy) bx b2 ex (Int32.ofInt ey) (Int32.ofInt cs) (Int32.ofInt y) = Int32.ofInt (mt_sh cs (sy - y) (ey - y)) := by
  have z0 : (0 : Int32).toInt = 0 := by decide
  have l1 : Int32.ofInt sy < Int32.ofInt y ↔ sy < y := by rw [i32_lt, iI_t (by omega), iI_t (by omega)]
  have l2 : Int32.ofInt ey < Int32.ofInt y ↔ ey < y := by rw [i32_lt, iI_t (by omega), iI_t (by omega)]
  have l3 : Int32.ofInt cs ≤ 0 ↔ cs ≤ 0 := by rw [i32_le, iI_t (by omega), z0]
  have l4 : 0 ≤ Int32.ofInt cs ↔ 0 ≤ cs := by rw [i32_le, iI_t (by omega), z0]
  unfold ka_share mt_sh
  by_cases c1 : sy < y
  · rw [if_pos (l1.mpr c1)]
    unfold ka_share_j13
    by_cases c2 : ey < y
    · rw [if_pos (l2.mpr c2), if_pos (by omega)]
      unfold ka_share_j27
      rw [if_pos rfl]; decide
    · rw [if_neg (fun z => c2 (l2.mp z)), if_neg (by omega), if_pos (by omega)]
      unfold ka_share_j27
      rw [if_neg (by decide), if_neg (by decide)]
      by_cases c3 : 0 ≤ cs
      · rw [if_pos (l4.mpr c3), if_neg (by omega)]; decide
      · rw [if_neg (fun z => c3 (l4.mp z)), if_pos (by omega)]; decide
  · rw [if_neg (fun z => c1 (l1.mp z))]
    unfold ka_share_j13
    by_cases c2 : ey < y
    · rw [if_pos (l2.mpr c2), if_neg (by omega), if_neg (by omega)]
      unfold ka_share_j27
      rw [if_neg (by decide), if_pos rfl]
      by_cases c3 : cs ≤ 0
      · rw [if_pos (l3.mpr c3), if_neg (by omega)]; decide
      · rw [if_neg (fun z => c3 (l3.mp z)), if_pos (by omega)]; decide
    · rw [if_neg (fun z => c2 (l2.mp z)), if_pos (by omega)]
      unfold ka_share_j27
      rw [if_pos rfl]; decide
theorem jabs_i {v : Int} (hv : -100000000000 ≤ v ∧ v ≤ 100000000000) : (if 0 < Int64.ofInt v then Int64.ofInt v else -Int64.ofInt v) = lN v.natAbs := by
  have z0 : (0 : Int64).toInt = 0 := by decide
  have e : 0 < Int64.ofInt v ↔ 0 < v := by rw [Int64.lt_iff_toInt_lt, iL_t (by omega), z0]
  have k : lN v.natAbs = Int64.ofInt (v.natAbs : Int) := Int64.ofInt_eq_ofNat.symm
  rw [k]
  by_cases c : 0 < v
  · rw [if_pos (e.mpr c)]; congr 1; omega
  · rw [if_neg (fun z => c (e.mp z)), ← Int64.ofInt_neg]; congr 1; omega
theorem ka_high_i {a b : Nat} (ha : a < 1099511627776) (hb : b < 1099511627776) : ka_high (lN a) (lN b) = lN (a / 1048576 * b + a % 1048576 * b / 1048576) := by
  unfold ka_high
  have p20 : (2 : Nat) ^ 20 = 1048576 := by decide
  have m : (1048575 : Int64) = lN (1048576 - 1) := by decide +kernel
  have s : (((20 : Int32).toInt64 &&& 63).toBitVec.smod 64).toNat = 20 := by decide
  have h1 : a % 1048576 * b ≤ 1048575 * 1099511627775 := Nat.mul_le_mul (by omega) (by omega)
  have e1 : jv_lshr (lN a) 20 = lN (a / 1048576) := by
    have := pf_shr (a := a) (d := 20) s (by omega)
    rw [p20] at this
    exact this
  have e2 : lN a &&& 1048575 = lN (a % 1048576) := by rw [m]; exact g_mask (s := 20) p20 (by decide) (by omega)
  rw [e1, e2, lN_mul, lN_mul]
  generalize a % 1048576 * b = z at h1 ⊢
  have e3 : jv_lshr (lN z) 20 = lN (z / 1048576) := by
    have := pf_shr (a := z) (d := 20) s (by omega)
    rw [p20] at this
    exact this
  rw [e3, lN_add]
theorem ka_low_i {a b : Nat} (ha : a < 1099511627776) (hb : b < 1099511627776) : ka_low (lN a) (lN b) = lN (a % 1048576 * b % 1048576) := by
  unfold ka_low
  have p20 : (2 : Nat) ^ 20 = 1048576 := by decide
  have m : (1048575 : Int64) = lN (1048576 - 1) := by decide +kernel
  have h1 : a % 1048576 * b ≤ 1048575 * 1099511627775 := Nat.mul_le_mul (by omega) (by omega)
  have e2 : lN a &&& 1048575 = lN (a % 1048576) := by rw [m]; exact g_mask (s := 20) p20 (by decide) (by omega)
  rw [e2, lN_mul]
  generalize a % 1048576 * b = z at h1 ⊢
  rw [m]
  exact g_mask (s := 20) p20 (by decide) (by omega)
theorem hl_split (a b : Nat) : a * b = (a / 1048576 * b + a % 1048576 * b / 1048576) * 1048576 + a % 1048576 * b % 1048576 := by
  have e : a = a / 1048576 * 1048576 + a % 1048576 := by omega
  have e2 : a * b = a / 1048576 * b * 1048576 + a % 1048576 * b := by
    generalize hx : a / 1048576 = x at *
    generalize hy : a % 1048576 = y at *
    rw [e]
    grind
  rw [e2]
  generalize a / 1048576 * b = x
  generalize a % 1048576 * b = z
  have := Nat.div_add_mod z 1048576
  rw [Nat.add_mul, Nat.mul_comm (z / 1048576)]
  omega
theorem jl_lN {a b : Nat} (ha : a < 4611686018427387904) (hb : b < 4611686018427387904) : jl_cmp (lN a) (lN b) = Int32.ofInt (mt_sg ((a : Int) - b)) := by
  have e : ∀ n : Nat, lN n = Int64.ofInt (n : Int) := fun n => Int64.ofInt_eq_ofNat.symm
  rw [e a, e b, jl_sg2 (by omega) (by omega)]
theorem ka_cmp_i {a b c d : Nat} (ha : a < 1099511627776) (hb : b < 1099511627776) (hc : c < 1099511627776) (hd : d < 1099511627776) : ka_cmp (lN a) (lN b) (lN c) (lN d) = Int32.ofInt (mt_sg ((a * b : Nat) - (c * d : Nat) : Int)) := by
  unfold ka_cmp
  have b1 : a / 1048576 * b ≤ 1048575 * 1099511627775 := Nat.mul_le_mul (by omega) (by omega)
  have b2 : a % 1048576 * b ≤ 1048575 * 1099511627775 := Nat.mul_le_mul (by omega) (by omega)
  have b3 : c / 1048576 * d ≤ 1048575 * 1099511627775 := Nat.mul_le_mul (by omega) (by omega)
  have b4 : c % 1048576 * d ≤ 1048575 * 1099511627775 := Nat.mul_le_mul (by omega) (by omega)
  rw [ka_high_i ha hb, ka_high_i hc hd, ka_low_i ha hb, ka_low_i hc hd, jl_lN (by omega) (by omega), jl_lN (by omega) (by omega)]
  have s1 := hl_split a b
  have s2 := hl_split c d
  generalize a / 1048576 * b + a % 1048576 * b / 1048576 = h1 at *
  generalize hm1 : a % 1048576 * b % 1048576 = l1 at *
  generalize c / 1048576 * d + c % 1048576 * d / 1048576 = h2 at *
  generalize hm2 : c % 1048576 * d % 1048576 = l2 at *
  have q1 : l1 < 1048576 := by omega
  have q2 : l2 < 1048576 := by omega
  rw [s1, s2]
  rcases mt_sg_c ((h1 : Int) - h2) with ⟨k, e⟩ | ⟨k, e⟩ | ⟨k, e⟩
  · rw [e, if_neg (by decide), mt_sg_n (by omega)]
  · rw [e, if_pos (by decide)]
    congr 1
    rcases mt_sg_c ((l1 : Int) - l2) with ⟨k2, e2⟩ | ⟨k2, e2⟩ | ⟨k2, e2⟩
    · rw [e2, mt_sg_n (by omega)]
    · rw [e2, show ((h1 * 1048576 + l1 : Nat) : Int) - ((h2 * 1048576 + l2 : Nat) : Int) = 0 by omega, mt_sg_0]
    · rw [e2, mt_sg_p (by omega)]
  · rw [e, if_neg (by decide), mt_sg_p (by omega)]
