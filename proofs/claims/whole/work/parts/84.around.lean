-- the reference's walk: whole
theorem j66_none {px py : Nat → Int64} {on : Nat → Int32} {tc tn : Int32} {fi se : Nat → Int64} {fr to : Int32} {x y : Int64} :
    km_around_j66 px py on tc tn fi se fr to x y to = km_around_L217 px py on fr to x y fr (to - fr) 301 0 ((px (Int32.toNatClampNeg (to - 1)) + px (Int32.toNatClampNeg fr)) / 2 - x) ((py (Int32.toNatClampNeg (to - 1)) + py (Int32.toNatClampNeg fr)) / 2 - y) tc tn fi se := by
  have h1 : ¬ (1 : Int32) = 0 := by decide
  unfold km_around_j66
  rw [if_pos rfl]
  unfold km_around_j77
  rw [if_neg h1]
  unfold km_around_j87
  rw [if_pos rfl]
  unfold km_around_j103
  rw [if_neg h1]
  unfold km_around_j145
  rw [if_neg h1]
  unfold km_around_j187
  rw [if_neg h1]
  unfold km_around_j199
  rw [if_neg h1]
  rfl
theorem j66_on {px py : Nat → Int64} {on : Nat → Int32} {tc tn : Int32} {fi se : Nat → Int64} {fr to st : Int32} {x y : Int64} (h : ¬ st = to) :
    km_around_j66 px py on tc tn fi se fr to x y st = km_around_L217 px py on fr to x y st (to - fr + 1) 301 1 (px (Int32.toNatClampNeg st) - x) (py (Int32.toNatClampNeg st) - y) tc tn fi se := by
  have e : ∀ t : Int32, km_around_j103 px py on tc tn fi se fr to x y 0 st t = km_around_L217 px py on fr to x y st (to - fr + 1) 301 1 (px (Int32.toNatClampNeg st) - x) (py (Int32.toNatClampNeg st) - y) tc tn fi se := by
    intro t
    unfold km_around_j103
    rw [if_pos rfl]
    unfold km_around_j145
    rw [if_pos rfl]
    unfold km_around_j187
    rw [if_pos rfl]
    unfold km_around_j199
    rw [if_pos rfl]
    rfl
  unfold km_around_j66
  rw [if_neg h]
  unfold km_around_j77
  rw [if_pos rfl]
  unfold km_around_j87
  split <;> exact e _
theorem ar_L44 {px py : Nat → Int64} {on : Nat → Int32} {tc tn : Int32} {fi se : Nat → Int64} {A B : Nat} {x y : Int64} (hB : B ≤ 256) :
    ∀ (d i fuel : Nat), A + i + d = B → d < fuel → (∀ j, j < i → on (A + j) = 0) → ∃ s, A + s ≤ B ∧ (∀ j, j < s → on (A + j) = 0) ∧ (A + s < B → ¬ on (A + s) = 0) ∧
      km_around_L44 px py on tc tn fi se (nI A) (nI B) x y fuel (nI (A + i)) = km_around_j66 px py on tc tn fi se (nI A) (nI B) x y (nI (A + s)) := by
  intro d
  induction d with
  | zero =>
    intro i fuel hi hf h0
    obtain ⟨f, rfl⟩ : ∃ f, fuel = f + 1 := ⟨fuel - 1, by omega⟩
    refine ⟨i, by omega, h0, fun z => absurd z (by omega), ?_⟩
    rw [km_around_L44, if_pos (nI_le (by omega) (by omega))]
  | succ d ih =>
    intro i fuel hi hf h0
    obtain ⟨f, rfl⟩ : ∃ f, fuel = f + 1 := ⟨fuel - 1, by omega⟩
    rw [km_around_L44, if_neg (Int32.not_le.mpr (nI_lt (show A + i < B by omega) (by omega))), nI_clamp (show A + i < 2 ^ 31 by omega)]
    by_cases c : on (A + i) = 0
    · obtain ⟨s, h1, h2, h3, h4⟩ := ih (i + 1) f (by omega) (by omega) (fun j hj => by
        by_cases e : j = i
        · subst e; exact c
        · exact h0 j (by omega))
      refine ⟨s, h1, h2, h3, ?_⟩
      rw [if_pos c, nI_1]
      exact h4
    · refine ⟨i, by omega, h0, fun _ => c, ?_⟩
      rw [if_neg c]
theorem sqn (i : Int) : 0 ≤ i * i := by
  rcases Int.le_total 0 i with h | h
  · exact Int.mul_nonneg h h
  · exact Int.mul_nonneg_of_nonpos_of_nonpos h h
theorem sq0 {i : Int} (h : i * i = 0) : i = 0 := (Int.mul_eq_zero.mp h).elim id id
theorem one_tch (i p : Int) : mt_touch i p i p i p ↔ i = 0 ∧ p = 0 := by
  rw [← mt_line]
  constructor
  · rintro ⟨_, h⟩
    have h1 : 0 ≤ i * i := sqn i
    have h2 : 0 ≤ p * p := sqn p
    exact ⟨sq0 (by omega), sq0 (by omega)⟩
  · rintro ⟨rfl, rfl⟩
    exact ⟨by decide, by decide⟩
theorem one_kb (u v w i p : Int) (h : u + v + w = 0) : mt_kb u v w i p i p = 0 := by
  unfold mt_kb
  rw [if_neg (fun z => z.1 h)]
  unfold mt_sh
  rw [if_pos Iff.rfl]
set_option maxHeartbeats 1000000 in
theorem km_around_i {px py : Nat → Int64} {on : Nat → Int32} {VX VY : Nat → Int} {A B : Nat} {x y : Int} (hAB : A < B) (hB : B ≤ 256) (hX : ∀ j, j < B → px j = Int64.ofInt (2 * VX j)) (hY : ∀ j, j < B → py j = Int64.ofInt (2 * VY j)) (bX : ∀ j, j < B → -20000 ≤ VX j ∧ VX j ≤ 20000) (bY : ∀ j, j < B → -20000 ≤ VY j ∧ VY j ≤ 20000) (hx : -40000 ≤ x ∧ x ≤ 40000) (hy : -40000 ≤ y ∧ y ≤ 40000)
    {tc tn : Int32} {T : Prop} {S : Int} (hm : mst T S tc tn) (fi se : Nat → Int64) (bs : Int32) :
    mst (T ∨ ltc x y ((List.range (B - A)).flatMap (kdI VX VY on A (B - A)))) (S + lsm x y ((List.range (B - A)).flatMap (kdI VX VY on A (B - A)))) (km_around px py on tc tn fi se bs (nI A) (nI B) (Int64.ofInt x) (Int64.ofInt y)).1 (km_around px py on tc tn fi se bs (nI A) (nI B) (Int64.ofInt x) (Int64.ofInt y)).2.1 := by
  have esub : nI B - nI A = nI (B - A) := pk_sub (by omega)
  by_cases h1 : B - A = 1
  · have bA := bX A hAB
    have bA' := bY A hAB
    have ek : (List.range (B - A)).flatMap (kdI VX VY on A (B - A)) = [(2 * VX A, 2 * VY A, 2 * VX A, 2 * VY A, 2 * VX A, 2 * VY A)] := by
      rw [h1]
      show kdI VX VY on A 1 0 ++ [] = _
      rw [List.append_nil]
      unfold kdI cvI lnI jt
      have e1 : ak 0 1 = 0 := rfl
      have e2 : bk 0 1 = 0 := rfl
      rw [e1, e2, Nat.add_zero]
      by_cases c : on A = 0
      · rw [if_pos c, if_pos c, if_pos c, ← Int.two_mul, ← Int.two_mul]
      · rw [if_neg c, if_neg c]
    rw [ek]
    have et : ltc x y [(2 * VX A, 2 * VY A, 2 * VX A, 2 * VY A, 2 * VX A, 2 * VY A)] ↔ (2 * VX A = x ∧ 2 * VY A = y) := by
      have h := one_tch (2 * VX A - x) (2 * VY A - y)
      constructor
      · rintro (z | z)
        · have := h.mp z; omega
        · exact False.elim z
      · intro z
        exact Or.inl (h.mpr (by omega))
    have es : lsm x y [(2 * VX A, 2 * VY A, 2 * VX A, 2 * VY A, 2 * VX A, 2 * VY A)] = 0 := by
      show itr x y _ + 0 = 0
      rw [Int.add_zero]
      exact one_kb _ _ _ _ _ (by dsimp only; omega)
    rw [es, Int.add_zero]
    unfold km_around
    rw [if_pos (show nI B - nI A = 1 by rw [esub, h1]; rfl), nI_clamp (by omega), hX A hAB, hY A hAB]
    have l1 := lc_eq (Int64.ofInt (2 * VX A)) (Int64.ofInt x)
    have l2 := lc_eq (Int64.ofInt (2 * VY A)) (Int64.ofInt y)
    rw [iL_t (by omega), iL_t (by omega)] at l1 l2
    by_cases c1 : 2 * VX A = x
    · rw [if_pos (l1.mpr c1)]
      by_cases c2 : 2 * VY A = y
      · rw [if_pos (l2.mpr c2)]
        exact ⟨fun _ => rfl, fun z => absurd (Or.inr (et.mpr ⟨c1, c2⟩)) z⟩
      · rw [if_neg (fun z => c2 (l2.mp z))]
        exact mst_iff hm ⟨Or.inl, fun z => z.elim id (fun w => absurd (et.mp w).2 c2)⟩ rfl
    · rw [if_neg (fun z => c1 (l1.mp z))]
      exact mst_iff hm ⟨Or.inl, fun z => z.elim id (fun w => absurd (et.mp w).1 c1)⟩ rfl
  · unfold km_around
    rw [if_neg (show ¬ nI B - nI A = 1 from fun z => h1 ((nI_eq (a := B - A) (b := 1) (by omega) (by omega)).mp (esub.symm.trans z)))]
    obtain ⟨s, s1, s2, s3, s4⟩ := ar_L44 (px := px) (py := py) (on := on) (tc := tc) (tn := tn) (fi := fi) (se := se) (A := A) (B := B) (x := Int64.ofInt x) (y := Int64.ofInt y) hB (B - A) 0 257 (by omega) (by omega) (fun j hj => absurd hj (Nat.not_lt_zero _))
    rw [Nat.add_zero] at s4
    rw [s4]
    by_cases c : A + s < B
    · rw [j66_on (fun z => absurd ((nI_eq (show A + s < 2 ^ 31 by omega) (show B < 2 ^ 31 by omega)).mp z) (by omega)), nI_clamp (by omega), hX _ c, hY _ c, sub_i, sub_i, esub, nI_1]
      have hon := s3 c
      have hi := ar_L217 (s := s) (steps := B - A + 1) hAB hB hX hY bX bY hx hy (by omega) (by omega) (B - A) 1 301 (Int64.ofInt (2 * VX (A + s) - x)) (Int64.ofInt (2 * VY (A + s) - y)) tc tn fi se T S (by omega) (by omega) (by omega) hm (fun _ => by
        have e1 : (s + 1) % (B - A) = ak s (B - A) := by rw [ak_mod (by omega), Nat.mod_eq_of_lt (by omega)]
        rw [e1, bk_ak (by omega)]
        refine ⟨?_, ?_, fun z => absurd z hon⟩
        · show _ = Int64.ofInt (jt VX on A (bk (ak s (B - A)) (B - A)) (ak s (B - A)) - x)
          rw [bk_ak (by omega), jt, if_neg hon]
        · show _ = Int64.ofInt (jt VY on A (bk (ak s (B - A)) (B - A)) (ak s (B - A)) - y)
          rw [bk_ak (by omega), jt, if_neg hon])
      rw [show B - A + 1 - 1 = B - A by omega] at hi
      exact mst_iff hi (by rw [seg_tch VX VY on A x y (show s + 1 ≤ B - A by omega)]) (by rw [seg_sum VX VY on A x y (show s + 1 ≤ B - A by omega)])
    · have hs : A + s = B := by omega
      rw [hs, j66_none, show nI B - 1 = nI (B - 1) from pk_sub (b := 1) (by omega), nI_clamp (by omega), nI_clamp (by omega), hX _ (by omega), hX _ hAB, hY _ (by omega), hY _ hAB, mid_i (bX _ (by omega)) (bX _ hAB), mid_i (bY _ (by omega)) (bY _ hAB), sub_i, sub_i, esub]
      have all0 : ∀ j, j < B - A → on (A + j) = 0 := fun j hj => s2 j (by omega)
      have eb : A + bk 0 (B - A) = B - 1 := by show A + (if 0 = 0 then B - A - 1 else 0 - 1) = B - 1; rw [if_pos rfl]; omega
      have hi := ar_L217 (s := 0) (steps := B - A) hAB hB hX hY bX bY hx hy (by omega) (by omega) (B - A) 0 301 (Int64.ofInt (VX (B - 1) + VX A - x)) (Int64.ofInt (VY (B - 1) + VY A - y)) tc tn fi se T S (by omega) (by omega) (by omega) hm (fun _ => by
        rw [show (0 + 0) % (B - A) = 0 from Nat.zero_mod _]
        have ez : on (A + bk 0 (B - A)) = 0 := all0 _ (bk_lt (by omega))
        refine ⟨?_, ?_, fun _ => all0 0 (by omega)⟩
        · show _ = Int64.ofInt (jt VX on A (bk 0 (B - A)) 0 - x)
          rw [jt, if_pos ez, eb, Nat.add_zero]
        · show _ = Int64.ofInt (jt VY on A (bk 0 (B - A)) 0 - y)
          rw [jt, if_pos ez, eb, Nat.add_zero])
      rw [Nat.sub_zero, Nat.add_zero] at hi
      exact mst_iff hi (by rw [seg_tch VX VY on A x y (show 0 + 0 ≤ B - A by omega)]) (by rw [seg_sum VX VY on A x y (show 0 + 0 ≤ B - A by omega)])
