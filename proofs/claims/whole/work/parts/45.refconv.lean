-- the reference's signs, sides, lines, from Int64 to Int
theorem km_sign_i {z : Int} (h : -9223372036854775808 ≤ z ∧ z < 9223372036854775808) : km_sign (Int64.ofInt z) = Int32.ofInt (mt_sg z) := by
  have z0 : (0 : Int64).toInt = 0 := by decide
  unfold km_sign
  rcases lc_c (Int64.ofInt z) 0 with ⟨h1, e⟩ | ⟨h1, e⟩ | ⟨h1, e⟩ <;> rw [iL_t h, z0] at h1 <;> rw [e]
  · rw [mt_sg_n h1]; decide
  · rw [h1, mt_sg_0]; decide
  · rw [mt_sg_p h1]; decide
theorem uN_i {z : Int} (h : 0 ≤ z ∧ z < 9223372036854775808) : (uN (Int64.ofInt z) : Int) = z := by
  have h1 := uN_int (Int64.ofInt z)
  have h2 := uN_lt (Int64.ofInt z)
  rw [iL_t (by omega)] at h1
  by_cases c : 2 * uN (Int64.ofInt z) < 18446744073709551616
  · rw [if_pos c] at h1; omega
  · rw [if_neg c] at h1; omega
theorem eqI {a b : Int} (ha : -1 ≤ a ∧ a ≤ 1) (hb : -1 ≤ b ∧ b ≤ 1) : Int32.ofInt a = Int32.ofInt b ↔ a = b := by
  rw [i32_eq, iI_t (by omega), iI_t (by omega)]
theorem eqI0 {a : Int} (ha : -1 ≤ a ∧ a ≤ 1) : Int32.ofInt a = 0 ↔ a = 0 := eqI (b := 0) ha (by omega)
theorem km_cmp_i {fi se : Nat → Int64} {g e d : Int} (hg : 0 ≤ g ∧ g < 9223372036854775808) (he : 0 ≤ e ∧ e < 9223372036854775808) (hd : 0 ≤ d ∧ d < 9223372036854775808) : (km_cmp fi se (Int64.ofInt g) (Int64.ofInt e) (Int64.ofInt d)).1 = Int32.ofInt (mt_sg (g * g - e * e * d)) := by
  have a1 := uN_i hg
  have a2 := uN_i he
  have a3 := uN_i hd
  rw [lb_cmp (by omega) (by omega) (by omega)]
  have e1 : ((uN (Int64.ofInt g) * uN (Int64.ofInt g) : Nat) : Int) = g * g := by rw [Int.natCast_mul, a1]
  have e2 : ((uN (Int64.ofInt d) * (uN (Int64.ofInt e) * uN (Int64.ofInt e)) : Nat) : Int) = e * e * d := by rw [Int.natCast_mul, Int.natCast_mul, a2, a3, Int.mul_comm]
  unfold lb_c
  generalize uN (Int64.ofInt g) * uN (Int64.ofInt g) = x at *
  generalize uN (Int64.ofInt d) * (uN (Int64.ofInt e) * uN (Int64.ofInt e)) = y at *
  by_cases c1 : x < y
  · rw [if_pos c1, mt_sg_n (by omega)]; decide
  · rw [if_neg c1]
    by_cases c2 : x = y
    · rw [if_pos c2, show g * g - e * e * d = 0 by omega, mt_sg_0]; decide
    · rw [if_neg c2, mt_sg_p (by omega)]; decide
theorem km_so71_i {fi se : Nat → Int64} {g e d t : Int} (hg : -4611686018427387904 ≤ g ∧ g < 4611686018427387904) (he : -4611686018427387904 ≤ e ∧ e < 4611686018427387904) (hd : 0 ≤ d ∧ d < 4611686018427387904) {A B : Int} (hA : A = g ∨ A = -g) (hA0 : 0 ≤ A) (hB : B = e ∨ B = -e) (hB0 : 0 ≤ B) :
    (km_so_j71 fi se (Int64.ofInt g) (Int64.ofInt d) (Int32.ofInt t) (Int64.ofInt A) (Int64.ofInt B)).1 = Int32.ofInt (if g * g = e * e * d then 0 else if e * e * d < g * g then mt_sg g else t) := by
  have eA : A * A = g * g := by
    rcases hA with h | h <;> subst h
    · rfl
    · exact Int.neg_mul_neg _ _
  have eB : B * B = e * e := by
    rcases hB with h | h <;> subst h
    · rfl
    · exact Int.neg_mul_neg _ _
  have hc := km_cmp_i (fi := fi) (se := se) (g := A) (e := B) (d := d) (by omega) (by omega) (by omega)
  rw [eA, eB] at hc
  unfold km_so_j71 km_so_k76
  rw [hc]
  have z1 : (0 : Int32).toInt = 0 := by decide
  have hb := sg_b (g * g - e * e * d)
  by_cases c1 : g * g = e * e * d
  · rw [if_pos ((sgI0 _).mpr (by omega)), if_pos c1]; rfl
  · rw [if_neg (fun z => c1 (by have := (sgI0 _).mp z; omega)), if_neg c1]
    have hle : Int32.ofInt (mt_sg (g * g - e * e * d)) ≤ 0 ↔ ¬ e * e * d < g * g := by
      rw [i32_le, z1, iI_t (by omega)]
      rcases mt_sg_c (g * g - e * e * d) with ⟨a, b⟩ | ⟨a, b⟩ | ⟨a, b⟩ <;> omega
    by_cases c2 : e * e * d < g * g
    · rw [if_neg (fun z => hle.mp z c2), if_pos c2]
      exact km_sign_i (by omega)
    · rw [if_pos (hle.mpr c2), if_neg c2]
theorem km_so_i {fi se : Nat → Int64} {g e d : Int} (hg : -4611686018427387904 ≤ g ∧ g < 4611686018427387904) (he : -4611686018427387904 ≤ e ∧ e < 4611686018427387904) (hd : 0 ≤ d ∧ d < 4611686018427387904) : (km_so fi se (Int64.ofInt g) (Int64.ofInt e) (Int64.ofInt d)).1 = Int32.ofInt (mt_so g e d) := by
  have z0 : (0 : Int64).toInt = 0 := by decide
  have ed := lc_eq (Int64.ofInt d) 0
  have eg := lc_ge (Int64.ofInt g) 0
  have ee := lc_ge (Int64.ofInt e) 0
  rw [iL_t (by omega), z0] at ed eg ee
  have hsg := sg_b g
  have hse := sg_b e
  have hy : -1 ≤ (if d = 0 then 0 else mt_sg e) ∧ (if d = 0 then 0 else mt_sg e) ≤ 1 := by split <;> omega
  have h1 : km_so fi se (Int64.ofInt g) (Int64.ofInt e) (Int64.ofInt d) = km_so_j21 fi se (Int64.ofInt g) (Int64.ofInt e) (Int64.ofInt d) (Int32.ofInt (if d = 0 then 0 else mt_sg e)) := by
    unfold km_so
    by_cases c : d = 0
    · rw [if_pos (ed.mpr c), if_pos c]; rfl
    · rw [if_neg (fun z => c (ed.mp z)), if_neg c, km_sign_i (by omega)]
  rw [h1]
  unfold mt_so
  generalize (if d = 0 then 0 else mt_sg e) = y at hy ⊢
  unfold km_so_j21
  rw [km_sign_i (by omega)]
  have q1 := eqI hsg hy
  have q2 := eqI0 hy
  have q3 := eqI0 hsg
  by_cases c1 : mt_sg g = y
  · rw [if_pos (q1.mpr c1), if_pos (Or.inl c1)]
  · rw [if_neg (fun z => c1 (q1.mp z))]
    by_cases c2 : y = 0
    · rw [if_pos (q2.mpr c2), if_pos (Or.inr c2)]
    · rw [if_neg (fun z => c2 (q2.mp z)), if_neg (show ¬ (mt_sg g = y ∨ y = 0) by
        rintro (z | z)
        · exact c1 z
        · exact c2 z)]
      by_cases c3 : mt_sg g = 0
      · rw [if_pos (q3.mpr c3), if_pos c3]
      · rw [if_neg (fun z => c3 (q3.mp z)), if_neg c3]
        by_cases c4 : 0 ≤ g
        · rw [if_pos (eg.mpr c4)]
          unfold km_so_j59
          by_cases c5 : 0 ≤ e
          · rw [if_pos (ee.mpr c5)]
            exact km_so71_i hg he hd (Or.inl rfl) c4 (Or.inl rfl) c5
          · rw [if_neg (fun z => c5 (ee.mp z)), ← Int64.ofInt_neg]
            exact km_so71_i hg he hd (Or.inl rfl) c4 (Or.inr rfl) (by omega)
        · rw [if_neg (fun z => c4 (eg.mp z)), ← Int64.ofInt_neg]
          unfold km_so_j59
          by_cases c5 : 0 ≤ e
          · rw [if_pos (ee.mpr c5)]
            exact km_so71_i hg he hd (Or.inr rfl) (by omega) (Or.inl rfl) c5
          · rw [if_neg (fun z => c5 (ee.mp z)), ← Int64.ofInt_neg]
            exact km_so71_i hg he hd (Or.inr rfl) (by omega) (Or.inr rfl) (by omega)
/-- side(..): the sign at a crossing -/
theorem km_side_i {fi se : Nat → Int64} {i p j q k r dn : Int} (hi : -80000 ≤ i ∧ i ≤ 80000) (hp : -80000 ≤ p ∧ p ≤ 80000) (hj : -80000 ≤ j ∧ j ≤ 80000) (hq : -80000 ≤ q ∧ q ≤ 80000) (hk : -80000 ≤ k ∧ k ≤ 80000) (hr : -80000 ≤ r ∧ r ≤ 80000) (hdn : dn = 1 ∨ dn = -1) (hd : p * r ≤ q * q) :
    (km_side fi se (Int64.ofInt i) (Int64.ofInt p) (Int64.ofInt j) (Int64.ofInt q) (Int64.ofInt k) (Int64.ofInt r) (Int32.ofInt dn)).1 = Int32.ofInt (mt_sd i p j q k r dn) := by
  have z0 : (0 : Int64).toInt = 0 := by decide
  have t2 : (2 : Int64) = Int64.ofInt 2 := by decide
  have t4 : (4 : Int64) = Int64.ofInt 4 := by decide
  have hdl : Int32.toInt64 (Int32.ofInt dn) = Int64.ofInt dn := iI_l (by omega)
  unfold km_side km_side_k142 mt_sd
  rw [hdl, t2, t4]
  simp only [← Int64.ofInt_add, ← Int64.ofInt_sub, ← Int64.ofInt_mul]
  have ba := mt_bd (a := p - 2 * q + r) (b := i) (A := 320000) (B := 80000) (by omega) (by omega)
  have b2 := mt_bd (a := i - 2 * j + k) (b := p) (A := 320000) (B := 80000) (by omega) (by omega)
  have b3 := mt_bd (a := p - 2 * q + r) (b := 2 * (j - i)) (A := 320000) (B := 320000) (by omega) (by omega)
  have b4 := mt_bd (a := i - 2 * j + k) (b := 2 * (q - p)) (A := 320000) (B := 320000) (by omega) (by omega)
  have e0 := lc_eq (Int64.ofInt (p - 2 * q + r)) 0
  rw [iL_t (by omega), z0] at e0
  by_cases c : p - 2 * q + r = 0
  · rw [if_pos (e0.mpr c), if_pos c]
    have c1 := mt_bd (a := (i - 2 * j + k) * p) (b := p) (A := 25600000000) (B := 80000) (by omega) (by omega)
    have c2 := mt_bd (a := 2 * (j - i)) (b := 2 * (q - p)) (A := 320000) (B := 320000) (by omega) (by omega)
    have c3 := mt_bd (a := 2 * (j - i) * (2 * (q - p))) (b := p) (A := 102400000000) (B := 80000) (by omega) (by omega)
    have c4 := mt_bd (a := i) (b := 2 * (q - p)) (A := 80000) (B := 320000) (by omega) (by omega)
    have c5 := mt_bd (a := i * (2 * (q - p))) (b := 2 * (q - p)) (A := 25600000000) (B := 320000) (by omega) (by omega)
    exact km_sign_i (by omega)
  · rw [if_neg (fun z => c (e0.mp z)), if_neg c]
    have c1 := mt_bd (a := 2 * (p - 2 * q + r)) (b := (p - 2 * q + r) * i - (i - 2 * j + k) * p) (A := 640000) (B := 51200000000) (by omega) (by omega)
    have c2 := mt_bd (a := (p - 2 * q + r) * (2 * (j - i)) - (i - 2 * j + k) * (2 * (q - p))) (b := 2 * (q - p)) (A := 204800000000) (B := 320000) (by omega) (by omega)
    have c3 := mt_bd (a := dn) (b := (p - 2 * q + r) * (2 * (j - i)) - (i - 2 * j + k) * (2 * (q - p))) (A := 1) (B := 204800000000) (by omega) (by omega)
    have c4 := mt_bd (a := 2 * (q - p)) (b := 2 * (q - p)) (A := 320000) (B := 320000) (by omega) (by omega)
    have c5 := mt_bd (a := 4 * (p - 2 * q + r)) (b := p) (A := 1280000) (B := 80000) (by omega) (by omega)
    have ed : 2 * (q - p) * (2 * (q - p)) - 4 * (p - 2 * q + r) * p = 4 * (q * q - p * r) := by grind
    exact km_so_i (by omega) (by omega) (by omega)
