-- the class's row
theorem up_self {f : Nat → Int32} {k : Nat} {x : Int32} : upd f k x k = x := if_pos rfl
theorem up_ne {f : Nat → Int32} {k j : Nat} {x : Int32} (h : j ≠ k) : upd f k x j = f j := if_neg h
def pc_ (j : Nat) : Int32 := 128 * nI j + 64
def rf (t : T6) (y : Int32) (j : Nat) : Bool := decide (kt t (pc_ j) y = 1000)
def rg (t : T6) (y : Int32) (j : Nat) : Int32 := if kt t (pc_ j) y = 1000 then 0 else kt t (pc_ j) y
theorem art_L (t : T6) (y : Int32) {w : Nat} (hw : w ≤ 64) : ∀ (d i fuel : Nat) (rt : Nat → Int32), i + d = w → d < fuel →
    (ks_art_L5 (nI w) t.1 t.2.1 t.2.2.1 t.2.2.2.1 t.2.2.2.2.1 t.2.2.2.2.2 y fuel (nI i) (bm (rf t y) i) rt).1 = bm (rf t y) w ∧ ∀ j, j < w → (ks_art_L5 (nI w) t.1 t.2.1 t.2.2.1 t.2.2.2.1 t.2.2.2.2.1 t.2.2.2.2.2 y fuel (nI i) (bm (rf t y) i) rt).2 j = if i ≤ j then rt j + rg t y j else rt j := by
  intro d
  induction d with
  | zero =>
    intro i fuel rt hi hf
    obtain ⟨f, rfl⟩ : ∃ f, fuel = f + 1 := ⟨fuel - 1, by omega⟩
    have hi : i = w := hi
    subst hi
    rw [ks_art_L5, if_pos (Int32.le_refl _)]
    exact ⟨rfl, fun j hj => (if_neg (by omega)).symm⟩
  | succ d ih =>
    intro i fuel rt hi hf
    obtain ⟨f, rfl⟩ : ∃ f, fuel = f + 1 := ⟨fuel - 1, by omega⟩
    rw [ks_art_L5, if_neg (Int32.not_le.mpr (nI_lt (show i < w by omega) (by omega))), nI_clamp (by omega)]
    by_cases c : kt t (pc_ i) y = 1000
    · have e0 : bm (rf t y) (i + 1) = bm (rf t y) i ||| jv_lshl 1 (nI i) := by
        rw [bm, if_pos (show rf t y i = true from decide_eq_true c)]
      have e1 := ih (i + 1) f rt (by omega) (by omega)
      rw [e0, ← nI_1] at e1
      rw [if_pos (show ka_turns t.1 t.2.1 t.2.2.1 t.2.2.2.1 t.2.2.2.2.1 t.2.2.2.2.2 (128 * nI i + 64) y = 1000 from c)]
      unfold ks_art_j60
      refine ⟨e1.1, fun j hj => ?_⟩
      rw [e1.2 j hj]
      by_cases cj : j = i
      · subst cj
        rw [if_neg (by omega), if_pos (Nat.le_refl _), rg, if_pos c, Int32.add_zero]
      · by_cases ck : i ≤ j
        · rw [if_pos (by omega), if_pos ck]
        · rw [if_neg (by omega), if_neg ck]
    · have e0 : bm (rf t y) (i + 1) = bm (rf t y) i := by
        rw [bm, if_neg (show ¬ rf t y i = true from fun z => c (of_decide_eq_true z))]
      have e1 := ih (i + 1) f (upd rt i (rt i + kt t (pc_ i) y)) (by omega) (by omega)
      rw [e0, ← nI_1] at e1
      rw [if_neg (show ¬ ka_turns t.1 t.2.1 t.2.2.1 t.2.2.2.1 t.2.2.2.2.1 t.2.2.2.2.2 (128 * nI i + 64) y = 1000 from c)]
      unfold ks_art_j60
      refine ⟨e1.1, fun j hj => ?_⟩
      refine (e1.2 j hj).trans ?_
      by_cases cj : j = i
      · subst cj
        rw [if_neg (by omega), if_pos (Nat.le_refl _), rg, if_neg c]
        exact up_self
      · have hu : upd rt i (rt i + kt t (pc_ i) y) j = rt j := up_ne cj
        rw [hu]
        by_cases ck : i ≤ j
        · rw [if_pos (by omega), if_pos ck]
        · rw [if_neg (by omega), if_neg ck]
theorem art_i (t : T6) (y : Int32) {w : Nat} (hw : w ≤ 64) (rt : Nat → Int32) : (ks_art (nI w) rt t.1 t.2.1 t.2.2.1 t.2.2.2.1 t.2.2.2.2.1 t.2.2.2.2.2 y).1 = bm (rf t y) w ∧ ∀ j, j < w → (ks_art (nI w) rt t.1 t.2.1 t.2.2.1 t.2.2.2.1 t.2.2.2.2.1 t.2.2.2.2.2 y).2 j = rt j + rg t y j := by
  have h := art_L t y hw w 0 65 rt (by omega) (by omega)
  exact ⟨h.1, fun j hj => (h.2 j hj).trans (if_pos (Nat.zero_le _))⟩
theorem fill_L (v : Int32) : ∀ (d i fuel : Nat) (f : Nat → Int32), i + d = 64 → d < fuel → ∀ j, j < 64 → kj_fill_L5 v fuel (nI i) f j = if i ≤ j then v else f j := by
  intro d
  induction d with
  | zero =>
    intro i fuel f hi hf j hj
    obtain ⟨g, rfl⟩ : ∃ g, fuel = g + 1 := ⟨fuel - 1, by omega⟩
    have hi : i = 64 := hi
    subst hi
    rw [kj_fill_L5, if_pos (by decide), if_neg (by omega)]
  | succ d ih =>
    intro i fuel f hi hf j hj
    obtain ⟨g, rfl⟩ : ∃ g, fuel = g + 1 := ⟨fuel - 1, by omega⟩
    rw [kj_fill_L5, if_neg (show ¬ Int32.ofNat 64 ≤ nI i from Int32.not_le.mpr (show nI i < nI 64 from nI_lt (by omega) (by omega))), nI_1, nI_clamp (by omega), ih (i + 1) g _ (by omega) (by omega) j hj]
    by_cases cj : j = i
    · subst cj
      rw [if_neg (by omega), if_pos (Nat.le_refl _)]
      exact up_self
    · rw [up_ne cj]
      by_cases ck : i ≤ j
      · rw [if_pos (by omega), if_pos ck]
      · rw [if_neg (by omega), if_neg ck]
theorem fill_0 (f : Nat → Int32) {j : Nat} (hj : j < 64) : kj_fill f 0 j = 0 := (fill_L 0 64 0 65 f (by omega) (by omega) j hj).trans (if_pos (Nat.zero_le _))
theorem row_L92 (g : Nat → Int32) {w : Nat} (hw : w ≤ 64) (b : Int64) : ∀ (d i fuel : Nat), i + d = w → d < fuel → (ks_row_L92 (nI w) g fuel (nI i) (b ||| bm (fun j => !decide (g j = 0)) i)).1 = b ||| bm (fun j => !decide (g j = 0)) w := by
  intro d
  induction d with
  | zero =>
    intro i fuel hi hf
    obtain ⟨f, rfl⟩ : ∃ f, fuel = f + 1 := ⟨fuel - 1, by omega⟩
    have hi : i = w := hi
    subst hi
    rw [ks_row_L92, if_pos (Int32.le_refl _)]
  | succ d ih =>
    intro i fuel hi hf
    obtain ⟨f, rfl⟩ : ∃ f, fuel = f + 1 := ⟨fuel - 1, by omega⟩
    have e1 := ih (i + 1) f (by omega) (by omega)
    rw [ks_row_L92, if_neg (Int32.not_le.mpr (nI_lt (show i < w by omega) (by omega))), nI_clamp (by omega)]
    by_cases c : g i = 0
    · have e0 : bm (fun j => !decide (g j = 0)) (i + 1) = bm (fun j => !decide (g j = 0)) i := by
        rw [bm, decide_eq_true c]; rfl
      rw [if_pos c]
      unfold ks_row_j118
      rw [nI_1]
      rw [e0] at e1
      exact e1
    · have e0 : bm (fun j => !decide (g j = 0)) (i + 1) = bm (fun j => !decide (g j = 0)) i ||| jv_lshl 1 (nI i) := by
        rw [bm, decide_eq_false c]; rfl
      rw [if_neg c]
      unfold ks_row_j118
      rw [nI_1, Int64.or_assoc]
      rw [e0] at e1
      exact e1
def rF (y : Int32) (j : Nat) : List T6 → Bool
  | [] => false
  | t :: l => rf t y j || rF y j l
def rS (y : Int32) (j : Nat) : List T6 → Int32
  | [] => 0
  | t :: l => rg t y j + rS y j l
theorem kt_may {t : T6} {y : Int32} (h : ka_may t.1 t.2.1 t.2.2.1 t.2.2.2.1 t.2.2.2.2.1 t.2.2.2.2.2 y = 0) (x : Int32) : kt t x y = 0 := by
  show ka_turns _ _ _ _ _ _ x y = 0
  unfold ka_turns
  rw [if_pos h]
theorem row_L38 {tl : List T6} {ar : Nat → T6} (har : ∀ (j : Nat) (a : T6), tl[j]? = some a → ar j = a) (hlen : tl.length ≤ 40000) {w : Nat} (hw : w ≤ 64) (jj : Int32) : ∀ (d k fuel : Nat) (in1 : Int64) (rt : Nat → Int32), k + d = tl.length → d < fuel →
    (ks_row_L38 (nI w) ar (nI tl.length) jj fuel (nI k) in1 rt).1 = in1 ||| bm (fun j => rF (128 * jj + 64) j (tl.drop k) || !decide (rt j + rS (128 * jj + 64) j (tl.drop k) = 0)) w := by
  intro d
  induction d with
  | zero =>
    intro k fuel in1 rt hk hf
    obtain ⟨f, rfl⟩ : ∃ f, fuel = f + 1 := ⟨fuel - 1, by omega⟩
    have hk : k = tl.length := hk
    subst hk
    rw [List.drop_length, ks_row_L38, if_pos (show kl_size (nI tl.length) ≤ nI tl.length from Int32.le_refl _)]
    have e := row_L92 rt hw in1 w 0 65 (by omega) (by omega)
    rw [show in1 ||| bm (fun j => !decide (rt j = 0)) 0 = in1 from Int64.or_zero] at e
    refine e.trans ?_
    congr 1
    refine bm_congr w (fun i _ => ?_)
    show (!decide (rt i = 0)) = (false || !decide (rt i + 0 = 0))
    rw [Int32.add_zero, Bool.false_or]
  | succ d ih =>
    intro k fuel in1 rt hk hf
    obtain ⟨f, rfl⟩ : ∃ f, fuel = f + 1 := ⟨fuel - 1, by omega⟩
    obtain ⟨a, e1, e2⟩ := drop_at (show k < tl.length by omega)
    rw [e2, ks_row_L38, if_neg (show ¬ kl_size (nI tl.length) ≤ nI k from Int32.not_le.mpr (nI_lt (by omega) (by omega))), nI_clamp (by omega), har k a e1]
    by_cases c : ka_may a.1 a.2.1 a.2.2.1 a.2.2.2.1 a.2.2.2.2.1 a.2.2.2.2.2 (128 * jj + 64) = 0
    · rw [if_pos c]
      unfold ks_row_j83
      rw [nI_1, ih (k + 1) f in1 rt (by omega) (by omega)]
      congr 1
      refine bm_congr w (fun i _ => ?_)
      have h0 := kt_may c (pc_ i)
      have h1 : rf a (128 * jj + 64) i = false := by
        unfold rf
        rw [h0]
        decide
      have h2 : rg a (128 * jj + 64) i = 0 := by
        unfold rg
        rw [h0, if_neg (by decide)]
      show (rF _ i (tl.drop (k + 1)) || _) = ((rf a (128 * jj + 64) i || rF _ i (tl.drop (k + 1))) || !decide (rt i + (rg a (128 * jj + 64) i + rS _ i (tl.drop (k + 1))) = 0))
      rw [h1, h2, Bool.false_or, Int32.zero_add]
    · rw [if_neg c]
      obtain ⟨a1, a2⟩ := art_i a (128 * jj + 64) hw rt
      unfold ks_row_k81 ks_row_j83
      rw [nI_1, ih (k + 1) f _ _ (by omega) (by omega), a1, Int64.or_assoc, ← bm_or]
      congr 1
      refine bm_congr w (fun i hi => ?_)
      show (rf a (128 * jj + 64) i || (rF _ i (tl.drop (k + 1)) || !decide ((ks_art _ rt _ _ _ _ _ _ _).2 i + _ = 0))) = ((rf a (128 * jj + 64) i || rF _ i (tl.drop (k + 1))) || !decide (rt i + (rg a (128 * jj + 64) i + rS _ i (tl.drop (k + 1))) = 0))
      rw [a2 i hi, Int32.add_assoc, Bool.or_assoc]
theorem ks_row_i {tl : List T6} {ar : Nat → T6} (har : ∀ (j : Nat) (a : T6), tl[j]? = some a → ar j = a) {cap : Nat} (hlen : tl.length ≤ cap) (hcap : cap ≤ 40000) {w : Nat} (hw : w ≤ 64) {jj : Int32} (h1 : ¬ jj < -300) (h2 : jj ≤ 300) (rt : Nat → Int32) :
    (ks_row (nI w) rt ar (nI tl.length) cap jj).1 = bm (fun j => rF (128 * jj + 64) j tl || !decide (rS (128 * jj + 64) j tl = 0)) w := by
  unfold ks_row
  rw [if_neg h1, if_pos h2]
  have e := row_L38 har (by omega) hw jj tl.length 0 (cap + 1) 0 (kj_fill rt 0) (by omega) (by omega)
  refine e.trans ?_
  rw [List.drop_zero, Int64.zero_or]
  refine bm_congr w (fun i hi => ?_)
  show (_ || !decide (kj_fill rt 0 i + _ = 0)) = _
  rw [fill_0 rt (by omega), Int32.zero_add]
theorem pc_i {j : Nat} (hj : j < 64) : pc_ j = Int32.ofInt (128 * (j : Int) + 64) := by
  unfold pc_
  rw [i32_add, Int32.ofInt_mul, show nI j = Int32.ofInt (j : Int) from rfl]
  rfl
/-- over whole numbers -/
theorem rF_i {LI : List IA} (hLI : ∀ a ∈ LI, ib a) {yi : Int} (hy : -40000 ≤ yi ∧ yi ≤ 40000) {j : Nat} (hj : j < 64) : (rF (Int32.ofInt yi) j (LI.map t6i) = true ↔ ltc (128 * (j : Int) + 64) yi LI) ∧ (¬ ltc (128 * (j : Int) + 64) yi LI → rS (Int32.ofInt yi) j (LI.map t6i) = Int32.ofInt (lsm (128 * (j : Int) + 64) yi LI)) := by
  induction LI with
  | nil => exact ⟨⟨fun h => absurd h Bool.false_ne_true, fun h => False.elim h⟩, fun _ => rfl⟩
  | cons a l ih =>
    have ha := hLI a List.mem_cons_self
    obtain ⟨i1, i2⟩ := ih (fun b hb => hLI b (List.mem_cons_of_mem _ hb))
    have k0 := kt_iff ha (x := 128 * (j : Int) + 64) (y := yi) (by omega) hy
    have k2 := kt_i ha (x := 128 * (j : Int) + 64) (y := yi) (by omega) hy
    rw [← pc_i hj] at k0 k2
    constructor
    · show ((rf (t6i a) _ j || rF _ j (l.map t6i)) = true) ↔ _
      rw [Bool.or_eq_true, i1, ltc]
      unfold rf
      rw [decide_eq_true_eq, k0]
    · intro h
      rw [ltc, not_or] at h
      show rg (t6i a) _ j + rS _ j (l.map t6i) = _
      rw [i2 h.2, lsm, i32_add]
      unfold rg
      rw [if_neg (fun z => h.1 (k0.mp z)), k2.2 h.1]
