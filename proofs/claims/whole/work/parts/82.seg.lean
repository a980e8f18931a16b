-- contours: the arcs that the class makes at a point, and those that the reference takes at a point
def jt (V : Nat → Int) (on : Nat → Int32) (A nb bd : Nat) : Int := if on (A + nb) = 0 then V (A + nb) + V (A + bd) else 2 * V (A + nb)
def cvI (VX VY : Nat → Int) (on : Nat → Int32) (A n k : Nat) : IA := (jt VX on A (bk k n) k, jt VY on A (bk k n) k, 2 * VX (A + k), 2 * VY (A + k), jt VX on A (ak k n) k, jt VY on A (ak k n) k)
def lnI (VX VY : Nat → Int) (A n k : Nat) : IA := (2 * VX (A + k), 2 * VY (A + k), 2 * VX (A + k), 2 * VY (A + k), 2 * VX (A + ak k n), 2 * VY (A + ak k n))
def kdI (VX VY : Nat → Int) (on : Nat → Int32) (A n k : Nat) : List IA := if on (A + k) = 0 then [cvI VX VY on A n k] else if on (A + ak k n) = 0 then [] else [lnI VX VY A n k]
def dI_ (VX VY : Nat → Int) (on : Nat → Int32) (A n p : Nat) : List IA := if on (A + p) = 0 then [cvI VX VY on A n p] else if on (A + bk p n) = 0 then [] else [lnI VX VY A n (bk p n)]
theorem ak_bk {p n : Nat} (h : p < n) : ak (bk p n) n = p := by unfold ak bk; split <;> split <;> omega
theorem bk_ak {p n : Nat} (h : p < n) : bk (ak p n) n = p := by unfold ak bk; split <;> split <;> omega
theorem ak_mod {m n : Nat} (hn : 0 < n) : (m + 1) % n = ak (m % n) n := by
  unfold ak
  have h := Nat.mod_lt m hn
  rw [Nat.add_mod]
  by_cases c1 : n = 1
  · subst c1
    have : m % 1 = 0 := Nat.mod_one m
    rw [this]
    rfl
  · rw [Nat.mod_eq_of_lt (show 1 < n by omega)]
    by_cases c : m % n + 1 = n
    · rw [if_pos c, c, Nat.mod_self]
    · rw [if_neg c, Nat.mod_eq_of_lt (by omega)]
theorem bk_mod {k n : Nat} (h : k < n) : (n - 1 + k) % n = bk k n := by
  unfold bk
  by_cases c : k = 0
  · subst c
    rw [if_pos rfl, Nat.add_zero, Nat.mod_eq_of_lt (by omega)]
  · rw [if_neg c, show n - 1 + k = n + (k - 1) by omega, Nat.add_mod_left, Nat.mod_eq_of_lt (by omega)]
theorem lsm_range (x y : Int) (f : Nat → List IA) : ∀ n : Nat, lsm x y ((List.range n).flatMap f) = sm (fun k => lsm x y (f k)) n
  | 0 => rfl
  | n + 1 => by rw [List.range_succ, List.flatMap_append, List.flatMap_singleton, lsm_app, lsm_range x y f n, sm]
theorem ltc_range (x y : Int) (f : Nat → List IA) : ∀ n : Nat, ltc x y ((List.range n).flatMap f) ↔ ∃ k, k < n ∧ ltc x y (f k)
  | 0 => ⟨fun h => False.elim h, fun ⟨k, h, _⟩ => absurd h (Nat.not_lt_zero _)⟩
  | n + 1 => by
    rw [List.range_succ, List.flatMap_append, List.flatMap_singleton, ltc_app, ltc_range x y f n]
    constructor
    · rintro (⟨k, h1, h2⟩ | h)
      · exact ⟨k, by omega, h2⟩
      · exact ⟨n, by omega, h⟩
    · rintro ⟨k, h1, h2⟩
      by_cases c : k = n
      · subst c; exact Or.inr h2
      · exact Or.inl ⟨k, by omega, h2⟩
/-- the reference's arcs at the steps kk, .. -/
def seg (f : Nat → List IA) : Nat → Nat → List IA
  | _, 0 => []
  | kk, d + 1 => f kk ++ seg f (kk + 1) d
theorem lsm_seg (x y : Int) (f : Nat → List IA) : ∀ d kk : Nat, lsm x y (seg f kk d) = sm (fun i => lsm x y (f (kk + i))) d
  | 0, kk => rfl
  | d + 1, kk => by
    rw [seg, lsm_app, lsm_seg x y f d (kk + 1), show d + 1 = 1 + d by omega, sm_split, sm, sm]
    have e : sm (fun i => lsm x y (f (kk + 1 + i))) d = sm (fun k => lsm x y (f (kk + (1 + k)))) d := sm_congr d (fun k _ => by
      show lsm x y (f (kk + 1 + k)) = lsm x y (f (kk + (1 + k)))
      rw [Nat.add_assoc])
    rw [e, Nat.add_zero]
    omega
theorem ltc_seg (x y : Int) (f : Nat → List IA) : ∀ d kk : Nat, ltc x y (seg f kk d) ↔ ∃ i, i < d ∧ ltc x y (f (kk + i))
  | 0, kk => ⟨fun h => False.elim h, fun ⟨k, h, _⟩ => absurd h (Nat.not_lt_zero _)⟩
  | d + 1, kk => by
    rw [seg, ltc_app, ltc_seg x y f d (kk + 1)]
    constructor
    · rintro (h | ⟨i, h1, h2⟩)
      · exact ⟨0, by omega, h⟩
      · exact ⟨i + 1, by omega, by rw [show kk + (i + 1) = kk + 1 + i by omega]; exact h2⟩
    · rintro ⟨i, h1, h2⟩
      cases i with
      | zero => exact Or.inl h2
      | succ i => exact Or.inr ⟨i, by omega, by rw [show kk + 1 + i = kk + (i + 1) by omega]; exact h2⟩
section
variable (VX VY : Nat → Int) (on : Nat → Int32) (A : Nat) (x y : Int)
theorem kd_sum (n : Nat) : sm (fun p => lsm x y (dI_ VX VY on A n p)) n = sm (fun p => lsm x y (kdI VX VY on A n p)) n := by
  rcases Nat.eq_zero_or_pos n with hn | hn
  · subst hn; rfl
  have e1 : ∀ p, p < n → lsm x y (dI_ VX VY on A n p) = (if on (A + p) = 0 then itr x y (cvI VX VY on A n p) else 0) + (fun k => if on (A + k) = 0 then 0 else if on (A + ak k n) = 0 then 0 else itr x y (lnI VX VY A n k)) ((n - 1 + p) % n) := by
    intro p hp
    rw [bk_mod hp]
    show _ = _ + (if on (A + bk p n) = 0 then 0 else if on (A + ak (bk p n) n) = 0 then 0 else itr x y (lnI VX VY A n (bk p n)))
    rw [ak_bk hp]
    unfold dI_
    by_cases c : on (A + p) = 0
    · rw [if_pos c, if_pos c]
      by_cases c2 : on (A + bk p n) = 0
      · rw [if_pos c2]; rfl
      · rw [if_neg c2, if_pos c]; rfl
    · rw [if_neg c, if_neg c]
      by_cases c2 : on (A + bk p n) = 0
      · rw [if_pos c2, if_pos c2]; rfl
      · rw [if_neg c2, if_neg c2, if_neg c, lsm, lsm]; omega
  have e2 : ∀ p, p < n → lsm x y (kdI VX VY on A n p) = (if on (A + p) = 0 then itr x y (cvI VX VY on A n p) else 0) + (fun k => if on (A + k) = 0 then 0 else if on (A + ak k n) = 0 then 0 else itr x y (lnI VX VY A n k)) p := by
    intro p hp
    show _ = _ + (if on (A + p) = 0 then 0 else if on (A + ak p n) = 0 then 0 else itr x y (lnI VX VY A n p))
    unfold kdI
    by_cases c : on (A + p) = 0
    · rw [if_pos c, if_pos c, if_pos c]; rfl
    · rw [if_neg c, if_neg c, if_neg c]
      by_cases c2 : on (A + ak p n) = 0
      · rw [if_pos c2, if_pos c2]; rfl
      · rw [if_neg c2, if_neg c2, lsm, lsm]; omega
  rw [sm_congr n e1, sm_congr n e2, sm_add2, sm_add2, sm_rot (fun k => if on (A + k) = 0 then 0 else if on (A + ak k n) = 0 then 0 else itr x y (lnI VX VY A n k)) (show n - 1 ≤ n by omega)]
theorem kd_tch (n : Nat) : (∃ p, p < n ∧ ltc x y (dI_ VX VY on A n p)) ↔ ∃ p, p < n ∧ ltc x y (kdI VX VY on A n p) := by
  have e1 : ∀ p, p < n → (ltc x y (dI_ VX VY on A n p) ↔ (on (A + p) = 0 ∧ itc x y (cvI VX VY on A n p)) ∨ (¬ on (A + bk p n) = 0 ∧ ¬ on (A + ak (bk p n) n) = 0 ∧ itc x y (lnI VX VY A n (bk p n)))) := by
    intro p hp
    rw [ak_bk hp]
    unfold dI_
    by_cases c : on (A + p) = 0
    · rw [if_pos c]
      exact ⟨fun h => Or.inl ⟨c, h.elim id False.elim⟩, fun h => Or.inl (h.elim (fun z => z.2) (fun z => absurd c z.2.1))⟩
    · rw [if_neg c]
      by_cases c2 : on (A + bk p n) = 0
      · rw [if_pos c2]
        exact ⟨fun h => False.elim h, fun h => h.elim (fun z => absurd z.1 c) (fun z => absurd c2 z.1)⟩
      · rw [if_neg c2]
        exact ⟨fun h => Or.inr ⟨c2, c, h.elim id False.elim⟩, fun h => Or.inl (h.elim (fun z => absurd z.1 c) (fun z => z.2.2))⟩
  have e2 : ∀ p, p < n → (ltc x y (kdI VX VY on A n p) ↔ (on (A + p) = 0 ∧ itc x y (cvI VX VY on A n p)) ∨ (¬ on (A + p) = 0 ∧ ¬ on (A + ak p n) = 0 ∧ itc x y (lnI VX VY A n p))) := by
    intro p hp
    unfold kdI
    by_cases c : on (A + p) = 0
    · rw [if_pos c]
      exact ⟨fun h => Or.inl ⟨c, h.elim id False.elim⟩, fun h => Or.inl (h.elim (fun z => z.2) (fun z => absurd c z.1))⟩
    · rw [if_neg c]
      by_cases c2 : on (A + ak p n) = 0
      · rw [if_pos c2]
        exact ⟨fun h => False.elim h, fun h => h.elim (fun z => absurd z.1 c) (fun z => absurd c2 z.2.1)⟩
      · rw [if_neg c2]
        exact ⟨fun h => Or.inr ⟨c, c2, h.elim id False.elim⟩, fun h => Or.inl (h.elim (fun z => absurd z.1 c) (fun z => z.2.2))⟩
  constructor
  · rintro ⟨p, hp, h⟩
    rcases (e1 p hp).mp h with z | z
    · exact ⟨p, hp, (e2 p hp).mpr (Or.inl z)⟩
    · exact ⟨bk p n, bk_lt hp, (e2 _ (bk_lt hp)).mpr (Or.inr z)⟩
  · rintro ⟨p, hp, h⟩
    rcases (e2 p hp).mp h with z | z
    · exact ⟨p, hp, (e1 p hp).mpr (Or.inl z)⟩
    · refine ⟨ak p n, ak_lt hp, (e1 _ (ak_lt hp)).mpr (Or.inr ?_)⟩
      rw [bk_ak hp]
      exact z
/-- the reference's walk, from any start -/
theorem seg_sum {n s : Nat} (hs : s ≤ n) : lsm x y (seg (fun j => dI_ VX VY on A n (j % n)) s n) = lsm x y ((List.range n).flatMap (kdI VX VY on A n)) := by
  rw [lsm_seg, lsm_range, ← kd_sum]
  exact sm_rot (fun p => lsm x y (dI_ VX VY on A n p)) hs
theorem seg_tch {n s : Nat} (hs : s ≤ n) : ltc x y (seg (fun j => dI_ VX VY on A n (j % n)) s n) ↔ ltc x y ((List.range n).flatMap (kdI VX VY on A n)) := by
  rw [ltc_seg, ltc_range, ← kd_tch]
  exact ex_rot (fun p => ltc x y (dI_ VX VY on A n p)) hs
end
-- the reference's state: whether it touches, and the turns as long as it doesn't
def mst (T : Prop) (S : Int) (c n : Int32) : Prop := (T → c = 1) ∧ (¬ T → c = 0 ∧ n = Int32.ofInt S)
theorem mst_iff {T T' : Prop} {S S' : Int} {c n : Int32} (h : mst T S c n) (hT : T ↔ T') (hS : S = S') : mst T' S' c n := by
  subst hS
  exact ⟨fun t => h.1 (hT.mpr t), fun t => h.2 (fun z => t (hT.mp z))⟩
theorem mst_line {T : Prop} {S : Int} {c n : Int32} (h : mst T S c n) {x y sx sy ex ey : Int} (h1 : -80000 ≤ sx - x ∧ sx - x ≤ 80000) (h2 : -80000 ≤ sy - y ∧ sy - y ≤ 80000) (h3 : -80000 ≤ ex - x ∧ ex - x ≤ 80000) (h4 : -80000 ≤ ey - y ∧ ey - y ≤ 80000) :
    mst (T ∨ itc x y (sx, sy, sx, sy, ex, ey)) (S + itr x y (sx, sy, sx, sy, ex, ey)) (km_line c n (Int64.ofInt (sx - x)) (Int64.ofInt (sy - y)) (Int64.ofInt (ex - x)) (Int64.ofInt (ey - y))).1 (km_line c n (Int64.ofInt (sx - x)) (Int64.ofInt (sy - y)) (Int64.ofInt (ex - x)) (Int64.ofInt (ey - y))).2 := by
  obtain ⟨k1, k2, k3⟩ := km_line_i (tc := c) (tn := n) h1 h2 h3 h4
  constructor
  · rintro (t | t)
    · exact k1 (h.1 t)
    · exact k2 t
  · intro t
    rw [not_or] at t
    rw [k3 t.2]
    obtain ⟨e1, e2⟩ := h.2 t.1
    refine ⟨e1, ?_⟩
    show n + Int32.ofInt _ = Int32.ofInt (S + itr x y (sx, sy, sx, sy, ex, ey))
    rw [e2, i32_add]
    unfold itr
    dsimp only
    rw [Int.sub_self ((sx - x) * (sy - y))]
theorem mst_curve {T : Prop} {S : Int} {c n : Int32} (h : mst T S c n) {x y : Int} {a : IA} (fi se : Nat → Int64) (h1 : -80000 ≤ a.1 - x ∧ a.1 - x ≤ 80000) (h2 : -80000 ≤ a.2.1 - y ∧ a.2.1 - y ≤ 80000) (h3 : -80000 ≤ a.2.2.1 - x ∧ a.2.2.1 - x ≤ 80000) (h4 : -80000 ≤ a.2.2.2.1 - y ∧ a.2.2.2.1 - y ≤ 80000) (h5 : -80000 ≤ a.2.2.2.2.1 - x ∧ a.2.2.2.2.1 - x ≤ 80000) (h6 : -80000 ≤ a.2.2.2.2.2 - y ∧ a.2.2.2.2.2 - y ≤ 80000) :
    mst (T ∨ itc x y a) (S + itr x y a) (km_curve c n fi se (Int64.ofInt (a.1 - x)) (Int64.ofInt (a.2.1 - y)) (Int64.ofInt (a.2.2.1 - x)) (Int64.ofInt (a.2.2.2.1 - y)) (Int64.ofInt (a.2.2.2.2.1 - x)) (Int64.ofInt (a.2.2.2.2.2 - y))).1 (km_curve c n fi se (Int64.ofInt (a.1 - x)) (Int64.ofInt (a.2.1 - y)) (Int64.ofInt (a.2.2.1 - x)) (Int64.ofInt (a.2.2.2.1 - y)) (Int64.ofInt (a.2.2.2.2.1 - x)) (Int64.ofInt (a.2.2.2.2.2 - y))).2.1 := by
  obtain ⟨k1, k2, k3⟩ := km_curve_i (fi := fi) (se := se) (tc := c) (tn := n) h1 h2 h3 h4 h5 h6
  constructor
  · rintro (t | t)
    · exact k1 (h.1 t)
    · exact k2 t
  · intro t
    rw [not_or] at t
    obtain ⟨e1, e2⟩ := h.2 t.1
    obtain ⟨e3, e4⟩ := k3 t.2 e1
    refine ⟨e3, e4.trans ?_⟩
    rw [e2, i32_add]
    rfl
