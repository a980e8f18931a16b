-- all contours; the two windings and the two rows
def KC (e : Nat → Nat) (VX VY : Nat → Int) (on : Nat → Int32) (c : Nat) : List IA := (List.range (e (c + 1) - e c)).flatMap (kdI VX VY on (e c) (e (c + 1) - e c))
def AR (e : Nat → Nat) (VX VY : Nat → Int) (on : Nat → Int32) (C : Nat) : List IA := (List.range C).flatMap (KC e VX VY on)
/-- the reference's points and ends, in whole numbers -/
def MD (px py : Nat → Int64) (on en : Nat → Int32) (C P : Nat) (e : Nat → Nat) (VX VY : Nat → Int) : Prop := (P ≤ 256) ∧ (e 0 = 0) ∧ (e C ≤ P) ∧ (∀ c, c < C → e c < e (c + 1) ∧ en c = nI (e (c + 1))) ∧ (∀ j, j < P → px j = Int64.ofInt (2 * VX j)) ∧ (∀ j, j < P → py j = Int64.ofInt (2 * VY j)) ∧ (∀ j, j < P → -20000 ≤ VX j ∧ VX j ≤ 20000) ∧ (∀ j, j < P → -20000 ≤ VY j ∧ VY j ≤ 20000)
theorem MD.hP {px py : Nat → Int64} {on en : Nat → Int32} {C P : Nat} {e : Nat → Nat} {VX VY : Nat → Int} (M : MD px py on en C P e VX VY) : P ≤ 256 := M.1
theorem MD.h0 {px py : Nat → Int64} {on en : Nat → Int32} {C P : Nat} {e : Nat → Nat} {VX VY : Nat → Int} (M : MD px py on en C P e VX VY) : e 0 = 0 := M.2.1
theorem MD.hC {px py : Nat → Int64} {on en : Nat → Int32} {C P : Nat} {e : Nat → Nat} {VX VY : Nat → Int} (M : MD px py on en C P e VX VY) : e C ≤ P := M.2.2.1
theorem MD.hen {px py : Nat → Int64} {on en : Nat → Int32} {C P : Nat} {e : Nat → Nat} {VX VY : Nat → Int} (M : MD px py on en C P e VX VY) : ∀ c, c < C → e c < e (c + 1) ∧ en c = nI (e (c + 1)) := M.2.2.2.1
theorem MD.hX {px py : Nat → Int64} {on en : Nat → Int32} {C P : Nat} {e : Nat → Nat} {VX VY : Nat → Int} (M : MD px py on en C P e VX VY) : ∀ j, j < P → px j = Int64.ofInt (2 * VX j) := M.2.2.2.2.1
theorem MD.hY {px py : Nat → Int64} {on en : Nat → Int32} {C P : Nat} {e : Nat → Nat} {VX VY : Nat → Int} (M : MD px py on en C P e VX VY) : ∀ j, j < P → py j = Int64.ofInt (2 * VY j) := M.2.2.2.2.2.1
theorem MD.bX {px py : Nat → Int64} {on en : Nat → Int32} {C P : Nat} {e : Nat → Nat} {VX VY : Nat → Int} (M : MD px py on en C P e VX VY) : ∀ j, j < P → -20000 ≤ VX j ∧ VX j ≤ 20000 := M.2.2.2.2.2.2.1
theorem MD.bY {px py : Nat → Int64} {on en : Nat → Int32} {C P : Nat} {e : Nat → Nat} {VX VY : Nat → Int} (M : MD px py on en C P e VX VY) : ∀ j, j < P → -20000 ≤ VY j ∧ VY j ≤ 20000 := M.2.2.2.2.2.2.2
theorem MD.cle {px py : Nat → Int64} {on en : Nat → Int32} {C P : Nat} {e : Nat → Nat} {VX VY : Nat → Int} (M : MD px py on en C P e VX VY) {c : Nat} (hc : c ≤ C) : e c ≤ P := Nat.le_trans (mok_le (fun c hc => (M.hen c hc).1) hc) M.hC
theorem MD.C256 {px py : Nat → Int64} {on en : Nat → Int32} {C P : Nat} {e : Nat → Nat} {VX VY : Nat → Int} (M : MD px py on en C P e VX VY) : C ≤ 256 := Nat.le_trans (mok_C M.h0 (fun c hc => (M.hen c hc).1)) (Nat.le_trans M.hC M.hP)
theorem MD.mok {px py : Nat → Int64} {on en : Nat → Int32} {C P : Nat} {e : Nat → Nat} {VX VY : Nat → Int} (M : MD px py on en C P e VX VY) : mok (nI C) (nI P) en := ⟨C, P, e, rfl, rfl, M.hP, M.h0, M.hC, M.hen⟩
theorem go_L16 {px py : Nat → Int64} {on en : Nat → Int32} {C P : Nat} {e : Nat → Nat} {VX VY : Nat → Int} (M : MD px py on en C P e VX VY) {x y : Int} (hx : -40000 ≤ x ∧ x ≤ 40000) (hy : -40000 ≤ y ∧ y ≤ 40000) :
    ∀ (d c fuel : Nat) (tc tn : Int32) (f1 s1 : Nat → Int64) (T : Prop) (S : Int), c + d = C → d < fuel → mst T S tc tn →
      mst (T ∨ ltc x y (seg (KC e VX VY on) c d)) (S + lsm x y (seg (KC e VX VY on) c d)) (km_go_L16 px py on (nI C) en (Int64.ofInt x) (Int64.ofInt y) fuel (nI c) (nI (e c)) tc tn f1 s1).1 (km_go_L16 px py on (nI C) en (Int64.ofInt x) (Int64.ofInt y) fuel (nI c) (nI (e c)) tc tn f1 s1).2.1 := by
  intro d
  have hC := M.C256
  induction d with
  | zero =>
    intro c fuel tc tn f1 s1 T S hc hf hm
    obtain ⟨f, rfl⟩ : ∃ f, fuel = f + 1 := ⟨fuel - 1, by omega⟩
    rw [km_go_L16, if_pos (nI_le (show C ≤ c by omega) (by omega))]
    exact mst_iff hm ⟨Or.inl, fun z => z.elim id False.elim⟩ (Int.add_zero _).symm
  | succ d ih =>
    intro c fuel tc tn f1 s1 T S hc hf hm
    obtain ⟨f, rfl⟩ : ∃ f, fuel = f + 1 := ⟨fuel - 1, by omega⟩
    obtain ⟨h1, h2⟩ := M.hen c (by omega)
    have hle := M.cle (c := c + 1) (by omega)
    have hP := M.hP
    rw [km_go_L16, if_neg (Int32.not_le.mpr (nI_lt (show c < C by omega) (by omega))), nI_clamp (by omega), h2]
    unfold km_go_k41
    rw [nI_clamp (by omega), h2, nI_1]
    have ha := km_around_i (on := on) (A := e c) (B := e (c + 1)) h1 (by omega) (fun j hj => M.hX j (by omega)) (fun j hj => M.hY j (by omega)) (fun j hj => M.bX j (by omega)) (fun j hj => M.bY j (by omega)) hx hy hm f1 s1 0
    have hi := fun (g1 g2 : Nat → Int64) => ih (c + 1) f _ _ g1 g2 _ _ (by omega) (by omega) ha
    refine mst_iff (hi _ _) ?_ ?_
    · rw [seg, ltc_app, or_assoc]
      rfl
    · rw [seg, lsm_app, Int.add_assoc]
      rfl
theorem AR_sum (e : Nat → Nat) (VX VY : Nat → Int) (on : Nat → Int32) (C : Nat) (x y : Int) : lsm x y (seg (KC e VX VY on) 0 C) = lsm x y (AR e VX VY on C) := by
  rw [lsm_seg, AR, lsm_range]
  exact sm_congr C (fun k _ => by rw [Nat.zero_add])
theorem AR_tch (e : Nat → Nat) (VX VY : Nat → Int) (on : Nat → Int32) (C : Nat) (x y : Int) : ltc x y (seg (KC e VX VY on) 0 C) ↔ ltc x y (AR e VX VY on C) := by
  rw [ltc_seg, AR, ltc_range]
  constructor
  · rintro ⟨i, h1, h2⟩
    rw [Nat.zero_add] at h2
    exact ⟨i, h1, h2⟩
  · rintro ⟨i, h1, h2⟩
    exact ⟨i, h1, by rw [Nat.zero_add]; exact h2⟩
theorem go_i {px py : Nat → Int64} {on en : Nat → Int32} {C P : Nat} {e : Nat → Nat} {VX VY : Nat → Int} (M : MD px py on en C P e VX VY) {x y : Int} (hx : -40000 ≤ x ∧ x ≤ 40000) (hy : -40000 ≤ y ∧ y ≤ 40000) (fi se : Nat → Int64) :
    mst (ltc x y (AR e VX VY on C)) (lsm x y (AR e VX VY on C)) (km_go px py on (nI C) en fi se (Int64.ofInt x) (Int64.ofInt y)).1 (km_go px py on (nI C) en fi se (Int64.ofInt x) (Int64.ofInt y)).2.1 := by
  have h := go_L16 M hx hy C 0 257 0 0 fi se False 0 (by omega) (by have := M.C256; omega) ⟨fun z => False.elim z, fun _ => ⟨rfl, rfl⟩⟩
  rw [M.h0] at h
  refine mst_iff h ?_ ?_
  · rw [AR_tch]
    exact ⟨fun z => z.elim False.elim id, Or.inr⟩
  · rw [AR_sum, Int.zero_add]
theorem jtb_le {px py : Nat → Int64} {on en : Nat → Int32} {C P : Nat} {e : Nat → Nat} {VX VY : Nat → Int} (M : MD px py on en C P e VX VY) {A n k : Nat} (hk : k < n) (hA : A + n ≤ P) : ∀ a ∈ kdI VX VY on A n k, ib a := by
  intro a ha
  have hb := bk_lt hk
  have hc := ak_lt hk
  have x1 := M.bX (A + k) (by omega)
  have y1 := M.bY (A + k) (by omega)
  have x2 := M.bX (A + bk k n) (by omega)
  have y2 := M.bY (A + bk k n) (by omega)
  have x3 := M.bX (A + ak k n) (by omega)
  have y3 := M.bY (A + ak k n) (by omega)
  unfold kdI at ha
  split at ha
  · rw [List.mem_singleton] at ha
    subst ha
    exact ⟨jt_b x2 x1, jt_b y2 y1, (by show -40000 ≤ 2 * VX (A + k) ∧ 2 * VX (A + k) ≤ 40000; omega), (by show -40000 ≤ 2 * VY (A + k) ∧ 2 * VY (A + k) ≤ 40000; omega), jt_b x3 x1, jt_b y3 y1⟩
  · split at ha
    · exact absurd ha List.not_mem_nil
    · rw [List.mem_singleton] at ha
      subst ha
      have q1 : -40000 ≤ 2 * VX (A + k) ∧ 2 * VX (A + k) ≤ 40000 := by omega
      have q2 : -40000 ≤ 2 * VY (A + k) ∧ 2 * VY (A + k) ≤ 40000 := by omega
      have q3 : -40000 ≤ 2 * VX (A + ak k n) ∧ 2 * VX (A + ak k n) ≤ 40000 := by omega
      have q4 : -40000 ≤ 2 * VY (A + ak k n) ∧ 2 * VY (A + ak k n) ≤ 40000 := by omega
      exact ⟨q1, q2, q1, q2, q3, q4⟩
theorem AR_ib {px py : Nat → Int64} {on en : Nat → Int32} {C P : Nat} {e : Nat → Nat} {VX VY : Nat → Int} (M : MD px py on en C P e VX VY) : ∀ a ∈ AR e VX VY on C, ib a := by
  intro a ha
  obtain ⟨c, hc, ha⟩ := List.mem_flatMap.mp ha
  obtain ⟨k, hk, ha⟩ := List.mem_flatMap.mp ha
  rw [List.mem_range] at hc hk
  have h1 := (M.hen c hc).1
  have h2 := M.cle (c := c + 1) (by omega)
  exact jtb_le M hk (by omega) a ha
theorem far_in (x : Int32) : (ks_in x = 0 ∧ ¬ km_far x = 0) ∨ (¬ ks_in x = 0 ∧ km_far x = 0 ∧ -20000 ≤ x.toInt ∧ x.toInt ≤ 20000) := by
  have t1 : (-20000 : Int32).toInt = -20000 := by decide
  have t2 : (20000 : Int32).toInt = 20000 := by decide
  unfold ks_in km_far
  by_cases c1 : x < -20000
  · left
    rw [if_pos c1, if_pos c1]
    exact ⟨rfl, by decide⟩
  · by_cases c2 : 20000 < x
    · left
      rw [if_neg c1, if_pos c2, if_neg c1]
      refine ⟨rfl, ?_⟩
      rw [if_neg (Int32.not_le.mpr c2)]
      decide
    · right
      rw [if_neg c1, if_neg c2, if_neg c1]
      rw [i32_lt, t1] at c1
      rw [i32_lt, t2] at c2
      refine ⟨by decide, ?_, by omega, by omega⟩
      rw [if_pos (by rw [i32_le, t2]; omega)]
theorem two_i {x : Int32} : 2 * x = Int32.ofInt (2 * x.toInt) := by
  rw [Int32.ofInt_mul, Int32.ofInt_toInt]
  rfl
theorem two_l {x : Int32} : 2 * Int32.toInt64 x = Int64.ofInt (2 * x.toInt) := by
  have h : x.toInt64 = Int64.ofInt x.toInt := by
    have h1 := iI_l (z := x.toInt) ⟨Int32.le_toInt x, Int32.toInt_lt x⟩
    rw [Int32.ofInt_toInt] at h1
    exact h1
  rw [h, Int64.ofInt_mul]
  rfl
theorem wind_eq {px py : Nat → Int64} {on en : Nat → Int32} {C P : Nat} {e : Nat → Nat} {VX VY : Nat → Int} (M : MD px py on en C P e VX VY) {ar : Nat → T6} (har : ∀ (j : Nat) (a : IA), (AR e VX VY on C)[j]? = some a → ar j = t6i a) {cap : Nat} (hlen : (AR e VX VY on C).length ≤ cap) (hcap : cap ≤ 40000) (fi se : Nat → Int64) (tc tn x y : Int32) :
    ks_wind ar (nI (AR e VX VY on C).length) cap x y = (km_wind px py on (nI C) en fi se tc tn x y).1 := by
  unfold ks_wind km_wind
  rcases far_in x with ⟨a1, a2⟩ | ⟨a1, a2, a3, a4⟩
  · rw [if_pos a1, if_neg a2]
  · rw [if_neg a1, if_pos a2]
    rcases far_in y with ⟨b1, b2⟩ | ⟨b1, b2, b3, b4⟩
    · rw [if_pos b1, if_neg b2]
    · rw [if_neg b1, if_pos b2, two_l, two_l]
      have hg := go_i M (x := 2 * x.toInt) (y := 2 * y.toInt) (by omega) (by omega) fi se
      obtain ⟨w1, w2⟩ := ks_wind_L (AR_ib M) har (by omega) (x := x) (y := y) (xi := 2 * x.toInt) (yi := 2 * y.toInt) (by omega) (by omega) two_i two_i (AR e VX VY on C).length 0 (cap + 1) 0 (by omega) (by omega)
      rw [List.drop_zero] at w1 w2
      unfold km_wind_k34
      by_cases hT : ltc (2 * x.toInt) (2 * y.toInt) (AR e VX VY on C)
      · rw [if_neg (by rw [hg.1 hT]; decide)]
        exact w1 hT
      · obtain ⟨g1, g2⟩ := hg.2 hT
        rw [if_pos g1]
        refine (w2 hT).trans ?_
        rw [Int32.zero_add]
        exact g2.symm
theorem wind0_eq {px py : Nat → Int64} {on en : Nat → Int32} {C P : Nat} {e : Nat → Nat} {VX VY : Nat → Int} (M : MD px py on en C P e VX VY) (h0 : AR e VX VY on C = []) (fi se : Nat → Int64) (tc tn x y : Int32) :
    ks_wind0 x y = (km_wind px py on (nI C) en fi se tc tn x y).1 := by
  have h := wind_eq M (ar := fun _ => (0, 0, 0, 0, 0, 0)) (cap := 0) (fun j a hj => by rw [h0] at hj; exact absurd hj (by simp)) (by rw [h0]; exact Nat.le_refl _) (by omega) fi se tc tn x y
  rw [← h]
  unfold ks_wind0 ks_wind
  rw [h0]
  rfl
theorem row_L21 {px py : Nat → Int64} {on en : Nat → Int32} {C P : Nat} {e : Nat → Nat} {VX VY : Nat → Int} (M : MD px py on en C P e VX VY) {jj : Int32} (hj : -300 ≤ jj.toInt ∧ jj.toInt ≤ 300) {w : Nat} (hw : w ≤ 64) {F : Nat → Bool} (hF : ∀ i, i < w → (F i = true ↔ ltc (128 * (i : Int) + 64) (128 * jj.toInt + 64) (AR e VX VY on C) ∨ ¬ Int32.ofInt (lsm (128 * (i : Int) + 64) (128 * jj.toInt + 64) (AR e VX VY on C)) = 0)) :
    ∀ (d i fuel : Nat) (tc tn : Int32) (f1 s1 : Nat → Int64), i + d = w → d < fuel → (km_row_L21 (nI w) px py on (nI C) en jj fuel (nI i) (bm F i) tc tn f1 s1).1 = bm F w := by
  intro d
  have ey : 128 * Int32.toInt64 jj + 64 = Int64.ofInt (128 * jj.toInt + 64) := by
    have h1 := iI_l (z := jj.toInt) ⟨Int32.le_toInt jj, Int32.toInt_lt jj⟩
    rw [Int32.ofInt_toInt] at h1
    rw [h1, Int64.ofInt_add, Int64.ofInt_mul]
    rfl
  induction d with
  | zero =>
    intro i fuel tc tn f1 s1 hi hf
    obtain ⟨f, rfl⟩ : ∃ f, fuel = f + 1 := ⟨fuel - 1, by omega⟩
    have hi : i = w := hi
    subst hi
    rw [km_row_L21, if_pos (Int32.le_refl _)]
  | succ d ih =>
    intro i fuel tc tn f1 s1 hi hf
    obtain ⟨f, rfl⟩ : ∃ f, fuel = f + 1 := ⟨fuel - 1, by omega⟩
    have ex : 128 * Int32.toInt64 (nI i) + 64 = Int64.ofInt (128 * (i : Int) + 64) := by
      have h1 := iI_l (z := (i : Int)) (by omega)
      rw [show nI i = Int32.ofInt (i : Int) from rfl, h1, Int64.ofInt_add, Int64.ofInt_mul]
      rfl
    rw [km_row_L21, if_neg (Int32.not_le.mpr (nI_lt (show i < w by omega) (by omega))), ex, ey]
    have hg := go_i M (x := 128 * (i : Int) + 64) (y := 128 * jj.toInt + 64) (by omega) (by omega) f1 s1
    have hfi := hF i (by omega)
    unfold km_row_k55 km_row_j76
    by_cases hT : ltc (128 * (i : Int) + 64) (128 * jj.toInt + 64) (AR e VX VY on C)
    · rw [if_neg (by rw [hg.1 hT]; decide), nI_1]
      have e0 : bm F (i + 1) = bm F i ||| jv_lshl 1 (nI i) := by rw [bm, if_pos (hfi.mpr (Or.inl hT))]
      rw [← e0]
      exact ih (i + 1) f _ _ _ _ (by omega) (by omega)
    · obtain ⟨g1, g2⟩ := hg.2 hT
      rw [if_pos g1, g2]
      by_cases c : Int32.ofInt (lsm (128 * (i : Int) + 64) (128 * jj.toInt + 64) (AR e VX VY on C)) = 0
      · rw [if_pos c, nI_1]
        have e0 : bm F (i + 1) = bm F i := by rw [bm, if_neg (fun z => (hfi.mp z).elim hT (fun w => w c))]
        rw [← e0]
        exact ih (i + 1) f _ _ _ _ (by omega) (by omega)
      · rw [if_neg c, nI_1]
        have e0 : bm F (i + 1) = bm F i ||| jv_lshl 1 (nI i) := by rw [bm, if_pos (hfi.mpr (Or.inr c))]
        rw [← e0]
        exact ih (i + 1) f _ _ _ _ (by omega) (by omega)
theorem row_eq {px py : Nat → Int64} {on en : Nat → Int32} {C P : Nat} {e : Nat → Nat} {VX VY : Nat → Int} (M : MD px py on en C P e VX VY) {ar : Nat → T6} (har : ∀ (j : Nat) (a : IA), (AR e VX VY on C)[j]? = some a → ar j = t6i a) {cap : Nat} (hlen : (AR e VX VY on C).length ≤ cap) (hcap : cap ≤ 40000) {w : Nat} (hw : w ≤ 64) (rt : Nat → Int32) (fi se : Nat → Int64) (tc tn jj : Int32) :
    (ks_row (nI w) rt ar (nI (AR e VX VY on C).length) cap jj).1 = (km_row (nI w) px py on (nI C) en fi se tc tn jj).1 := by
  by_cases c1 : jj < -300
  · unfold ks_row km_row
    rw [if_pos c1, if_pos c1]
  · by_cases c2 : jj ≤ 300
    · have hj : -300 ≤ jj.toInt ∧ jj.toInt ≤ 300 := by
        have t1 : (-300 : Int32).toInt = -300 := by decide
        have t2 : (300 : Int32).toInt = 300 := by decide
        have c1' := c1
        have c2' := c2
        rw [i32_lt, t1] at c1'
        rw [i32_le, t2] at c2'
        omega
      have ej : 128 * jj + 64 = Int32.ofInt (128 * jj.toInt + 64) := by
        rw [i32_add, Int32.ofInt_mul, Int32.ofInt_toInt]
        rfl
      have hk := ks_row_i (tl := (AR e VX VY on C).map t6i) (ar := ar) (fun j a h => by
        rw [List.getElem?_map] at h
        obtain ⟨b, h1, h2⟩ := Option.map_eq_some_iff.mp h
        rw [← h2]
        exact har j b h1) (cap := cap) (by rw [List.length_map]; exact hlen) hcap hw c1 c2 rt
      rw [List.length_map] at hk
      rw [hk]
      unfold km_row
      rw [if_neg c1, if_pos c2]
      refine (row_L21 M hj hw (fun i hi => ?_) w 0 65 tc tn fi se (by omega) (by omega)).symm
      have hr := rF_i (AR_ib M) (yi := 128 * jj.toInt + 64) (by omega) (show i < 64 by omega)
      rw [ej, Bool.or_eq_true, hr.1]
      by_cases hT : ltc (128 * (i : Int) + 64) (128 * jj.toInt + 64) (AR e VX VY on C)
      · exact ⟨fun _ => Or.inl hT, fun _ => Or.inl hT⟩
      · rw [hr.2 hT, Bool.not_eq_true', decide_eq_false_iff_not]
    · unfold ks_row km_row
      rw [if_neg c1, if_neg c1, if_neg c2, if_neg c2]
