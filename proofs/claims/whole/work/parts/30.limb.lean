-- the reference's long multiplication: six limbs of 32 bits
def lb_s (g : Nat → Int64) : Nat → Nat
  | 0 => 0
  | k + 1 => lb_s g k + uN (g k) * 4294967296 ^ k
theorem lb_s_congr {g h : Nat → Int64} : ∀ k : Nat, (∀ j, j < k → g j = h j) → lb_s g k = lb_s h k
  | 0, _ => rfl
  | k + 1, e => by rw [lb_s, lb_s, lb_s_congr k (fun j hj => e j (by omega)), e k (by omega)]
abbrev lb_sum (g0 v bf cy : Int64) : Int64 := (((g0 * (v &&& 4294967295)) &&& 4294967295) + ((bf * (jv_lushr v 32)) &&& 4294967295)) + (cy &&& 4294967295)
abbrev lb_next (g0 v bf cy : Int64) : Int64 := (((jv_lushr (g0 * (v &&& 4294967295)) 32) + (jv_lushr (bf * (jv_lushr v 32)) 32)) + (jv_lushr cy 32)) + (jv_lushr (lb_sum g0 v bf cy) 32)
theorem lb_step {g0 v bf cy : Int64} (h0 : uN g0 < 4294967296) (hb : uN bf < 4294967296) :
    uN (lb_sum g0 v bf cy &&& 4294967295) < 4294967296 ∧ uN (lb_sum g0 v bf cy &&& 4294967295) + uN (lb_next g0 v bf cy) * 4294967296 = uN g0 * (uN v % 4294967296) + uN bf * (uN v / 4294967296) + uN cy := by
  have hv := uN_lt v
  have hc := uN_lt cy
  have b1 : uN g0 * (uN v % 4294967296) ≤ 4294967295 * 4294967295 := Nat.mul_le_mul (by omega) (by omega)
  have b2 : uN bf * (uN v / 4294967296) ≤ 4294967295 * 4294967295 := Nat.mul_le_mul (by omega) (by omega)
  have e1 : uN (g0 * (v &&& 4294967295)) = uN g0 * (uN v % 4294967296) := by
    rw [uN_mul, uN_lo, Nat.mod_eq_of_lt (by omega)]
  have e2 : uN (bf * (jv_lushr v 32)) = uN bf * (uN v / 4294967296) := by
    rw [uN_mul, uN_s32, Nat.mod_eq_of_lt (by omega)]
  have es : uN (lb_sum g0 v bf cy) = uN g0 * (uN v % 4294967296) % 4294967296 + uN bf * (uN v / 4294967296) % 4294967296 + uN cy % 4294967296 := by
    rw [uN_add, uN_add, uN_lo, uN_lo, uN_lo, e1, e2]
    omega
  have en : uN (lb_next g0 v bf cy) = uN g0 * (uN v % 4294967296) / 4294967296 + uN bf * (uN v / 4294967296) / 4294967296 + uN cy / 4294967296 + uN (lb_sum g0 v bf cy) / 4294967296 := by
    rw [uN_add, uN_add, uN_add, uN_s32, uN_s32, uN_s32, uN_s32, e1, e2]
    rw [es]
    omega
  rw [uN_lo, en, es]
  generalize uN g0 * (uN v % 4294967296) = x at *
  generalize uN bf * (uN v / 4294967296) = y at *
  omega
theorem lb_loop (v : Int64) (G : Nat → Int64) (hG : ∀ j, j < 6 → uN (G j) < 4294967296) : ∀ (d k n : Nat) (g : Nat → Int64) (cy bf : Int64), k + d = 6 → d < n → (∀ j, k ≤ j → g j = G j) → (∀ j, j < k → uN (g j) < 4294967296) → uN bf < 4294967296 →
    lb_s g k + (uN cy + uN bf * (uN v / 4294967296)) * 4294967296 ^ k = uN v * lb_s G k →
    ∃ t : Nat, (∀ j, j < 6 → uN (km_times_L21 v n (nI k) g cy bf j) < 4294967296) ∧ lb_s (km_times_L21 v n (nI k) g cy bf) 6 + t * 4294967296 ^ 6 = uN v * lb_s G 6 := by
  intro d
  induction d with
  | zero =>
    intro k n g cy bf hk hn h1 h2 h3 h4
    have hk : k = 6 := by omega
    subst hk
    obtain ⟨n, rfl⟩ : ∃ n', n = n' + 1 := ⟨n - 1, by omega⟩
    have e : km_times_L21 v (n + 1) (nI 6) g cy bf = g := by
      rw [km_times_L21, if_pos (by decide)]
    rw [e]
    exact ⟨_, h2, h4⟩
  | succ d ih =>
    intro k n g cy bf hk hn h1 h2 h3 h4
    obtain ⟨n, rfl⟩ : ∃ n', n = n' + 1 := ⟨n - 1, by omega⟩
    have hgk : g k = G k := h1 k (by omega)
    have hst := lb_step (g0 := g k) (v := v) (bf := bf) (cy := cy) (by rw [hgk]; exact hG k (by omega)) h3
    have e : km_times_L21 v (n + 1) (nI k) g cy bf = km_times_L21 v n (nI (k + 1)) (vp_updL g k (lb_sum (g k) v bf cy &&& 4294967295)) (lb_next (g k) v bf cy) (g k) := by
      rw [km_times_L21, if_neg (show ¬ (6 : Int32) ≤ nI k from nI_ge (a := k) (b := 6) (by omega) (by decide)), nI_clamp (by omega), nI_1]
    rw [e]
    refine ih (k + 1) n _ _ _ (by omega) (by omega) (fun j hj => by rw [pk_uLn (by omega)]; exact h1 j (by omega)) (fun j hj => ?_) (by rw [hgk]; exact hG k (by omega)) ?_
    · by_cases c : j = k
      · subst c; rw [pk_uLs]; exact hst.1
      · rw [pk_uLn c]; exact h2 j (by omega)
    · rw [lb_s, lb_s, pk_uLs, lb_s_congr (h := g) k (fun j hj => pk_uLn (by omega)), ← hgk]
      have e2 := hst.2
      have e3 : uN v = uN v % 4294967296 + uN v / 4294967296 * 4294967296 := by omega
      rw [Nat.mul_add, ← h4]
      generalize uN v % 4294967296 = lo at *
      generalize uN v / 4294967296 = hi at *
      rw [e3]
      generalize uN (g k) = x at *
      generalize uN (lb_sum (g k) v bf cy &&& 4294967295) = a at *
      generalize uN (lb_next (g k) v bf cy) = b at *
      generalize uN bf = y at *
      generalize uN cy = z at *
      rw [Nat.pow_succ]
      generalize 4294967296 ^ k = P at *
      have e4 : (a + b * 4294967296) * P = (x * lo + y * hi + z) * P := by rw [e2]
      have e5 : a * P + (b + x * hi) * (P * 4294967296) = (a + b * 4294967296) * P + x * hi * 4294967296 * P := by grind
      have e6 : (lo + hi * 4294967296) * (x * P) = x * lo * P + x * hi * 4294967296 * P := by grind
      have e7 : (x * lo + y * hi + z) * P = x * lo * P + (z + y * hi) * P := by grind
      omega
theorem lb_times {f : Nat → Int64} {v : Int64} (hf : ∀ j, j < 6 → uN (f j) < 4294967296) (hb : uN v * lb_s f 6 < 4294967296 ^ 6) : (∀ j, j < 6 → uN (km_times f v j) < 4294967296) ∧ lb_s (km_times f v) 6 = uN v * lb_s f 6 := by
  have u0 : uN 0 = 0 := by decide
  have h00 : lb_s f 0 + (uN 0 + uN 0 * (uN v / 4294967296)) * 4294967296 ^ 0 = uN v * lb_s f 0 := by simp [lb_s, u0]
  obtain ⟨t, h1, h2⟩ := lb_loop v f hf 6 0 7 f 0 0 (by decide) (by decide) (fun j _ => rfl) (fun j hj => absurd hj (Nat.not_lt_zero _)) (by decide) h00
  have h0 : nI 0 = 0 := nI_0
  rw [h0] at h1 h2
  have ht : t = 0 := by
    rcases Nat.eq_zero_or_pos t with h | h
    · exact h
    · have : 1 * 4294967296 ^ 6 ≤ t * 4294967296 ^ 6 := Nat.mul_le_mul_right _ h
      omega
  subst ht
  exact ⟨h1, by rw [Nat.zero_mul, Nat.add_zero] at h2; exact h2⟩
theorem lb_init (a b c0 : Int64) : ∀ (d k n : Nat) (g : Nat → Int64), k + d = 6 → d < n → (∀ j, j < k → g j = if j = 0 then 1 else 0) → ∃ g' : Nat → Int64, (∀ j, j < 6 → g' j = if j = 0 then 1 else 0) ∧ km_prod_L3 a b c0 n (nI k) g = km_times (km_times (km_times g' a) b) c0 := by
  intro d
  induction d with
  | zero =>
    intro k n g hk hn h
    have hk : k = 6 := by omega
    subst hk
    obtain ⟨n, rfl⟩ : ∃ n', n = n' + 1 := ⟨n - 1, by omega⟩
    exact ⟨g, h, by rw [km_prod_L3, if_pos (by decide)]⟩
  | succ d ih =>
    intro k n g hk hn h
    obtain ⟨n, rfl⟩ : ∃ n', n = n' + 1 := ⟨n - 1, by omega⟩
    obtain ⟨g', h1, h2⟩ := ih (k + 1) n (vp_updL g k (if k = 0 then 1 else 0)) (by omega) (by omega) (fun j hj => by
      by_cases c : j = k
      · subst c; rw [pk_uLs]
      · rw [pk_uLn c]; exact h j (by omega))
    refine ⟨g', h1, ?_⟩
    rw [← h2, km_prod_L3, if_neg (show ¬ (6 : Int32) ≤ nI k from nI_ge (a := k) (b := 6) (by omega) (by decide))]
    by_cases c : k = 0
    · subst c
      rw [if_pos (by decide), if_pos rfl]
      unfold km_prod_j23
      rw [nI_clamp (by decide), nI_1]
    · rw [if_neg (nI_ne0 (by omega) (by omega)), if_neg c]
      unfold km_prod_j23
      rw [nI_clamp (by omega), nI_1]
theorem lb_prod {f : Nat → Int64} {a b c0 : Int64} (h1 : uN a < 4294967296 ^ 6) (h2 : uN b * uN a < 4294967296 ^ 6) (h3 : uN c0 * (uN b * uN a) < 4294967296 ^ 6) : (∀ j, j < 6 → uN (km_prod f a b c0 j) < 4294967296) ∧ lb_s (km_prod f a b c0) 6 = uN c0 * (uN b * uN a) := by
  obtain ⟨g', e1, e2⟩ := lb_init a b c0 6 0 7 f (by decide) (by decide) (fun j hj => absurd hj (Nat.not_lt_zero _))
  have e : km_prod f a b c0 = km_times (km_times (km_times g' a) b) c0 := by rw [← e2]; rfl
  have u1 : uN 1 = 1 := by decide
  have u0 : uN 0 = 0 := by decide
  have s0 : lb_s g' 6 = 1 := by
    simp only [lb_s]
    rw [e1 0 (by decide), e1 1 (by decide), e1 2 (by decide), e1 3 (by decide), e1 4 (by decide), e1 5 (by decide)]
    simp [u1, u0]
  have l0 : ∀ j, j < 6 → uN (g' j) < 4294967296 := fun j hj => by
    rw [e1 j hj]
    split
    · rw [u1]; decide
    · rw [u0]; decide
  obtain ⟨a1, a2⟩ := lb_times (f := g') (v := a) l0 (by rw [s0]; omega)
  rw [s0, Nat.mul_one] at a2
  obtain ⟨b1, b2⟩ := lb_times (f := km_times g' a) (v := b) a1 (by rw [a2]; exact h2)
  rw [a2] at b2
  obtain ⟨c1, c2⟩ := lb_times (f := km_times (km_times g' a) b) (v := c0) b1 (by rw [b2]; exact h3)
  rw [b2] at c2
  rw [e]
  exact ⟨c1, c2⟩
theorem uN_ti {x : Int64} (h : uN x < 4294967296) : x.toInt = (uN x : Int) := by
  rw [uN_int, if_pos (by omega)]
theorem lb_lt {g : Nat → Int64} : ∀ k : Nat, (∀ j, j < k → uN (g j) < 4294967296) → lb_s g k < 4294967296 ^ k
  | 0, _ => by show 0 < 1; decide
  | k + 1, h => by
    have h1 := lb_lt k (fun j hj => h j (by omega))
    have h2 : (uN (g k) + 1) * 4294967296 ^ k ≤ 4294967296 * 4294967296 ^ k := Nat.mul_le_mul_right _ (h k (by omega))
    rw [lb_s, Nat.pow_succ, Nat.mul_comm (4294967296 ^ k)]
    rw [Nat.add_mul] at h2
    omega
/-- comparing limbs from the highest compares the numbers -/
theorem lb_lex {X Y : Nat → Int64} {k : Nat} (hX : ∀ j, j < k + 1 → uN (X j) < 4294967296) (hY : ∀ j, j < k + 1 → uN (Y j) < 4294967296) :
    (uN (X k) < uN (Y k) → lb_s X (k + 1) < lb_s Y (k + 1)) ∧ (uN (X k) = uN (Y k) → (lb_s X (k + 1) < lb_s Y (k + 1) ↔ lb_s X k < lb_s Y k) ∧ (lb_s X (k + 1) = lb_s Y (k + 1) ↔ lb_s X k = lb_s Y k)) := by
  have h1 := lb_lt k (fun j hj => hX j (by omega))
  have h2 := lb_lt k (fun j hj => hY j (by omega))
  rw [lb_s, lb_s]
  constructor
  · intro h
    have h3 : (uN (X k) + 1) * 4294967296 ^ k ≤ uN (Y k) * 4294967296 ^ k := Nat.mul_le_mul_right _ h
    rw [Nat.add_mul] at h3
    omega
  · intro h
    rw [h]
    constructor <;> omega
def lb_c (a b : Nat) : Int32 := if a < b then -1 else if a = b then 0 else 1
theorem lb_cmpL {fi se : Nat → Int64} {a b c0 : Int64} (hX : ∀ j, j < 6 → uN (km_prod fi a a 1 j) < 4294967296) (hY : ∀ j, j < 6 → uN (km_prod se b b c0 j) < 4294967296) :
    ∀ (k n : Nat), k < 6 → k + 1 < n → (km_cmp_L24 fi se a b c0 n (nI k)).1 = lb_c (lb_s (km_prod fi a a 1) (k + 1)) (lb_s (km_prod se b b c0) (k + 1)) := by
  intro k
  induction k with
  | zero =>
    intro n hk hn
    obtain ⟨n, rfl⟩ : ∃ n', n = n' + 2 := ⟨n - 2, by omega⟩
    have hlx := lb_lex (k := 0) (X := km_prod fi a a 1) (Y := km_prod se b b c0) (fun j hj => hX j (by omega)) (fun j hj => hY j (by omega))
    have hly := lb_lex (k := 0) (X := km_prod se b b c0) (Y := km_prod fi a a 1) (fun j hj => hY j (by omega)) (fun j hj => hX j (by omega))
    rw [km_cmp_L24, if_neg (by decide), nI_clamp (by decide)]
    have x1 := uN_ti (hX 0 (by decide))
    have y1 := uN_ti (hY 0 (by decide))
    unfold lb_c
    rcases lc_c (km_prod fi a a 1 0) (km_prod se b b c0 0) with ⟨h, e⟩ | ⟨h, e⟩ | ⟨h, e⟩
    · rw [e, if_neg (by decide), if_neg (by decide), if_pos (hlx.1 (by omega))]
    · rw [e, if_pos rfl]
      have e0 : nI 0 + (-1) = (-1) := by decide
      rw [e0, km_cmp_L24, if_pos (by decide)]
      have hq := hlx.2 (by omega)
      have z0 : lb_s (km_prod fi a a 1) 0 = lb_s (km_prod se b b c0) 0 := by rw [lb_s, lb_s]
      have n1 : ¬ lb_s (km_prod fi a a 1) (0 + 1) < lb_s (km_prod se b b c0) (0 + 1) := fun z => by
        have := hq.1.mp z
        omega
      rw [if_neg n1, if_pos (hq.2.mpr z0)]
    · rw [e, if_neg (by decide), if_pos (by decide)]
      have := hly.1 (by omega)
      rw [if_neg (by omega), if_neg (by omega)]
  | succ k ih =>
    intro n hk hn
    obtain ⟨n, rfl⟩ : ∃ n', n = n' + 1 := ⟨n - 1, by omega⟩
    have hlx := lb_lex (k := k + 1) (X := km_prod fi a a 1) (Y := km_prod se b b c0) (fun j hj => hX j (by omega)) (fun j hj => hY j (by omega))
    have hly := lb_lex (k := k + 1) (X := km_prod se b b c0) (Y := km_prod fi a a 1) (fun j hj => hY j (by omega)) (fun j hj => hX j (by omega))
    rw [km_cmp_L24, if_neg (nI_pos (by omega)), nI_clamp (by omega)]
    have x1 := uN_ti (hX (k + 1) (by omega))
    have y1 := uN_ti (hY (k + 1) (by omega))
    rcases lc_c (km_prod fi a a 1 (k + 1)) (km_prod se b b c0 (k + 1)) with ⟨h, e⟩ | ⟨h, e⟩ | ⟨h, e⟩
    · unfold lb_c
      rw [e, if_neg (by decide), if_neg (by decide), if_pos (hlx.1 (by omega))]
    · rw [e, if_pos rfl, pk_m1, ih n (by omega) (by omega)]
      have hq := hlx.2 (by omega)
      unfold lb_c
      by_cases c1 : lb_s (km_prod fi a a 1) (k + 1) < lb_s (km_prod se b b c0) (k + 1)
      · rw [if_pos c1, if_pos (hq.1.mpr c1)]
      · rw [if_neg c1, if_neg (fun z => c1 (hq.1.mp z))]
        by_cases c2 : lb_s (km_prod fi a a 1) (k + 1) = lb_s (km_prod se b b c0) (k + 1)
        · rw [if_pos c2, if_pos (hq.2.mpr c2)]
        · rw [if_neg c2, if_neg (fun z => c2 (hq.2.mp z))]
    · unfold lb_c
      rw [e, if_neg (by decide), if_pos (by decide)]
      have := hly.1 (by omega)
      rw [if_neg (by omega), if_neg (by omega)]
/-- compare(a, b, c): a a against b b c -/
theorem lb_cmp {fi se : Nat → Int64} {a b c0 : Int64} (ha : uN a < 9223372036854775808) (hb : uN b < 9223372036854775808) (hc : uN c0 < 9223372036854775808) : (km_cmp fi se a b c0).1 = lb_c (uN a * uN a) (uN c0 * (uN b * uN b)) := by
  have m1 : uN a * uN a < 9223372036854775808 * 9223372036854775808 := Nat.mul_lt_mul'' ha ha
  have m2 : uN b * uN b < 9223372036854775808 * 9223372036854775808 := Nat.mul_lt_mul'' hb hb
  have m3 : uN c0 * (uN b * uN b) < 9223372036854775808 * (9223372036854775808 * 9223372036854775808) := Nat.mul_lt_mul'' hc m2
  have u1 : uN 1 = 1 := by decide
  obtain ⟨x1, x2⟩ := lb_prod (f := fi) (a := a) (b := a) (c0 := 1) (by omega) (by omega) (by rw [u1]; omega)
  obtain ⟨y1, y2⟩ := lb_prod (f := se) (a := b) (b := b) (c0 := c0) (by omega) (by omega) (by omega)
  have h := lb_cmpL x1 y1 5 7 (by decide) (by decide)
  rw [x2, y2, u1, Nat.one_mul] at h
  exact h
theorem lb_inj {X Y : Nat → Int64} : ∀ k : Nat, (∀ j, j < k → uN (X j) < 4294967296) → (∀ j, j < k → uN (Y j) < 4294967296) → lb_s X k = lb_s Y k → ∀ j, j < k → uN (X j) = uN (Y j)
  | 0, _, _, _ => fun j hj => absurd hj (Nat.not_lt_zero _)
  | k + 1, hX, hY, h => by
    have hlx := lb_lex (k := k) hX hY
    have hly := lb_lex (k := k) hY hX
    have e : uN (X k) = uN (Y k) := by
      rcases Nat.lt_trichotomy (uN (X k)) (uN (Y k)) with c | c | c
      · have := hlx.1 c; omega
      · exact c
      · have := hly.1 c; omega
    have ih := lb_inj k (fun j hj => hX j (by omega)) (fun j hj => hY j (by omega)) ((hlx.2 e).2.mp h)
    intro j hj
    by_cases c : j = k
    · subst c; exact e
    · exact ih j (by omega)
theorem lb_thrL {fi se : Nat → Int64} {a b c0 : Int64} (hX : ∀ j, j < 6 → uN (km_prod fi b b 1 j) < 4294967296) (hY : ∀ j, j < 6 → uN (km_prod se a c0 4 j) < 4294967296) :
    ∀ (d k n : Nat), k + d = 6 → d < n → (∀ j, j < k → uN (km_prod fi b b 1 j) = uN (km_prod se a c0 4 j)) → (km_thr_L26 fi se a b c0 n (nI k)).1 = if lb_s (km_prod fi b b 1) 6 = lb_s (km_prod se a c0 4) 6 then 1 else 0 := by
  intro d
  induction d with
  | zero =>
    intro k n hk hn h
    have hk : k = 6 := by omega
    subst hk
    obtain ⟨n, rfl⟩ : ∃ n', n = n' + 1 := ⟨n - 1, by omega⟩
    rw [km_thr_L26, if_pos (by decide)]
    have e : lb_s (km_prod fi b b 1) 6 = lb_s (km_prod se a c0 4) 6 := by
      apply lb_s_congr
      intro j hj
      exact uN_inj (h j hj)
    rw [if_pos e]
  | succ d ih =>
    intro k n hk hn h
    obtain ⟨n, rfl⟩ : ∃ n', n = n' + 1 := ⟨n - 1, by omega⟩
    rw [km_thr_L26, if_neg (show ¬ (6 : Int32) ≤ nI k from nI_ge (a := k) (b := 6) (by omega) (by decide)), nI_clamp (by omega)]
    have x1 := uN_ti (hX k (by omega))
    have y1 := uN_ti (hY k (by omega))
    have e := lc_eq (km_prod fi b b 1 k) (km_prod se a c0 4 k)
    by_cases c : uN (km_prod fi b b 1 k) = uN (km_prod se a c0 4 k)
    · rw [if_pos (e.mpr (by omega)), nI_1]
      refine ih (k + 1) n (by omega) (by omega) (fun j hj => ?_)
      by_cases cj : j = k
      · subst cj; exact c
      · exact h j (by omega)
    · rw [if_neg (fun z => c (by have := e.mp z; omega)), if_neg]
      intro z
      exact c (lb_inj 6 hX hY z k (by omega))
/-- through(u, v, w): v v = 4 u w -/
theorem lb_thr {fi se : Nat → Int64} {a b c0 : Int64} (ha : uN a < 1152921504606846976) (hb : uN b < 9223372036854775808) (hc : uN c0 < 9223372036854775808) : (km_thr fi se a b c0).1 = if uN b * uN b = 4 * (uN c0 * uN a) then 1 else 0 := by
  have m1 : uN b * uN b < 9223372036854775808 * 9223372036854775808 := Nat.mul_lt_mul'' hb hb
  have m2 : uN c0 * uN a < 9223372036854775808 * 1152921504606846976 := Nat.mul_lt_mul'' hc ha
  have u1 : uN 1 = 1 := by decide
  have u4 : uN 4 = 4 := by decide
  obtain ⟨x1, x2⟩ := lb_prod (f := fi) (a := b) (b := b) (c0 := 1) (by omega) (by omega) (by rw [u1]; omega)
  obtain ⟨y1, y2⟩ := lb_prod (f := se) (a := a) (b := c0) (c0 := 4) (by omega) (by omega) (by rw [u4]; omega)
  have h := lb_thrL x1 y1 6 0 7 (by decide) (by decide) (fun j hj => absurd hj (Nat.not_lt_zero _))
  rw [x2, y2, u1, u4, Nat.one_mul] at h
  exact h
