-- the class's answers over arcs of whole numbers
abbrev IA : Type := Int × Int × Int × Int × Int × Int
def ib (a : IA) : Prop := (-40000 ≤ a.1 ∧ a.1 ≤ 40000) ∧ (-40000 ≤ a.2.1 ∧ a.2.1 ≤ 40000) ∧ (-40000 ≤ a.2.2.1 ∧ a.2.2.1 ≤ 40000) ∧ (-40000 ≤ a.2.2.2.1 ∧ a.2.2.2.1 ≤ 40000) ∧ (-40000 ≤ a.2.2.2.2.1 ∧ a.2.2.2.2.1 ≤ 40000) ∧ (-40000 ≤ a.2.2.2.2.2 ∧ a.2.2.2.2.2 ≤ 40000)
def t6i (a : IA) : T6 := (Int32.ofInt a.1, Int32.ofInt a.2.1, Int32.ofInt a.2.2.1, Int32.ofInt a.2.2.2.1, Int32.ofInt a.2.2.2.2.1, Int32.ofInt a.2.2.2.2.2)
def itc (x y : Int) (a : IA) : Prop := mt_touch (a.1 - x) (a.2.1 - y) (a.2.2.1 - x) (a.2.2.2.1 - y) (a.2.2.2.2.1 - x) (a.2.2.2.2.2 - y)
def itr (x y : Int) (a : IA) : Int := mt_kb ((a.2.2.1 - x) * (a.2.2.2.2.2 - y) - (a.2.2.2.2.1 - x) * (a.2.2.2.1 - y)) ((a.2.2.2.2.1 - x) * (a.2.1 - y) - (a.1 - x) * (a.2.2.2.2.2 - y)) ((a.1 - x) * (a.2.2.2.1 - y) - (a.2.2.1 - x) * (a.2.1 - y)) (a.1 - x) (a.2.1 - y) (a.2.2.2.2.1 - x) (a.2.2.2.2.2 - y)
abbrev kt (t : T6) (x y : Int32) : Int32 := ka_turns t.1 t.2.1 t.2.2.1 t.2.2.2.1 t.2.2.2.2.1 t.2.2.2.2.2 x y
def lsm (x y : Int) : List IA → Int
  | [] => 0
  | a :: l => itr x y a + lsm x y l
def ltc (x y : Int) : List IA → Prop
  | [] => False
  | a :: l => itc x y a ∨ ltc x y l
theorem lsm_app (x y : Int) : ∀ l m : List IA, lsm x y (l ++ m) = lsm x y l + lsm x y m
  | [], m => (Int.zero_add _).symm
  | a :: l, m => by rw [List.cons_append, lsm, lsm, lsm_app x y l m]; omega
theorem ltc_app (x y : Int) : ∀ l m : List IA, ltc x y (l ++ m) ↔ ltc x y l ∨ ltc x y m
  | [], m => ⟨Or.inr, fun h => h.elim False.elim id⟩
  | a :: l, m => by rw [List.cons_append, ltc, ltc, ltc_app x y l m, or_assoc]
theorem kb_b (u v w i p k r : Int) : -2 ≤ mt_kb u v w i p k r ∧ mt_kb u v w i p k r ≤ 2 := by
  have h1 := sh_b (mt_cs v i p k r) p r
  have h2 := sg_b (u + v + w)
  unfold mt_kb
  split <;> omega
theorem itr_b (x y : Int) (a : IA) : -2 ≤ itr x y a ∧ itr x y a ≤ 2 := kb_b _ _ _ _ _ _ _
theorem itr_ne (x y : Int) (a : IA) : Int32.ofInt (itr x y a) ≠ 1000 := fun h => by
  have h1 := itr_b x y a
  have h2 : (Int32.ofInt (itr x y a)).toInt = 1000 := by rw [h]; decide
  rw [iI_t (by omega)] at h2
  omega
theorem itr_0 (x y : Int) (a : IA) (h : Int32.ofInt (itr x y a) = 0) : itr x y a = 0 := by
  have h1 := itr_b x y a
  have h2 : (Int32.ofInt (itr x y a)).toInt = 0 := by rw [h]; decide
  rw [iI_t (by omega)] at h2
  omega
theorem kt_i {a : IA} (ha : ib a) {x y : Int} (hx : -40000 ≤ x ∧ x ≤ 40000) (hy : -40000 ≤ y ∧ y ≤ 40000) : (itc x y a → kt (t6i a) (Int32.ofInt x) (Int32.ofInt y) = 1000) ∧ (¬ itc x y a → kt (t6i a) (Int32.ofInt x) (Int32.ofInt y) = Int32.ofInt (itr x y a)) :=
  ka_turns_i ha.1 ha.2.1 ha.2.2.1 ha.2.2.2.1 ha.2.2.2.2.1 ha.2.2.2.2.2 hx hy
theorem kt_iff {a : IA} (ha : ib a) {x y : Int} (hx : -40000 ≤ x ∧ x ≤ 40000) (hy : -40000 ≤ y ∧ y ≤ 40000) : kt (t6i a) (Int32.ofInt x) (Int32.ofInt y) = 1000 ↔ itc x y a := by
  have h := kt_i ha hx hy
  constructor
  · intro e
    rcases Classical.em (itc x y a) with c | c
    · exact c
    · exact absurd ((h.2 c).symm.trans e) (itr_ne x y a)
  · exact h.1
theorem i32_add (a b : Int) : Int32.ofInt (a + b) = Int32.ofInt a + Int32.ofInt b := Int32.ofInt_add a b
theorem drop_at {α : Type} {l : List α} {k : Nat} (h : k < l.length) : ∃ a, l[k]? = some a ∧ l.drop k = a :: l.drop (k + 1) := ⟨l[k], List.getElem?_eq_getElem h, List.drop_eq_getElem_cons h⟩
theorem ks_wind_L {LI : List IA} (hLI : ∀ a ∈ LI, ib a) {ar : Nat → T6} (har : ∀ (j : Nat) (a : IA), LI[j]? = some a → ar j = t6i a) (hlen : LI.length ≤ 40000) {x y : Int32} {xi yi : Int} (hx : -40000 ≤ xi ∧ xi ≤ 40000) (hy : -40000 ≤ yi ∧ yi ≤ 40000) (eX : 2 * x = Int32.ofInt xi) (eY : 2 * y = Int32.ofInt yi) : ∀ (d k fuel : Nat) (tr : Int32), k + d = LI.length → d < fuel →
    (ltc xi yi (LI.drop k) → ks_wind_L23 ar (nI LI.length) x y fuel (nI k) tr = 1000) ∧ (¬ ltc xi yi (LI.drop k) → ks_wind_L23 ar (nI LI.length) x y fuel (nI k) tr = tr + Int32.ofInt (lsm xi yi (LI.drop k))) := by
  intro d
  induction d with
  | zero =>
    intro k fuel tr hk hf
    obtain ⟨f, rfl⟩ : ∃ f, fuel = f + 1 := ⟨fuel - 1, by omega⟩
    have hk : k = LI.length := hk
    subst hk
    rw [List.drop_length, ks_wind_L23, if_pos (show kl_size (nI LI.length) ≤ nI LI.length from Int32.le_refl _)]
    refine ⟨fun h => False.elim h, fun _ => ?_⟩
    show tr = tr + Int32.ofInt 0
    rw [show Int32.ofInt 0 = 0 by decide, Int32.add_zero]
  | succ d ih =>
    intro k fuel tr hk hf
    obtain ⟨f, rfl⟩ : ∃ f, fuel = f + 1 := ⟨fuel - 1, by omega⟩
    obtain ⟨a, e1, e2⟩ := drop_at (show k < LI.length by omega)
    have ha : ib a := hLI a (List.mem_of_getElem? e1)
    rw [e2, ks_wind_L23, if_neg (show ¬ kl_size (nI LI.length) ≤ nI k from Int32.not_le.mpr (nI_lt (by omega) (by omega))), nI_clamp (by omega), har k a e1, eX, eY, nI_1]
    obtain ⟨w1, w2⟩ := kt_i ha hx hy
    by_cases c : itc xi yi a
    · refine ⟨fun _ => if_pos (w1 c), fun h => absurd (Or.inl c) h⟩
    · have e3 := w2 c
      have e4 : ¬ kt (t6i a) (Int32.ofInt xi) (Int32.ofInt yi) = 1000 := fun z => c ((kt_iff ha hx hy).mp z)
      obtain ⟨i1, i2⟩ := ih (k + 1) f (tr + kt (t6i a) (Int32.ofInt xi) (Int32.ofInt yi)) (by omega) (by omega)
      constructor
      · intro h
        rw [if_neg e4]
        exact i1 (h.resolve_left c)
      · intro h
        rw [if_neg e4]
        refine (i2 (fun z => h (Or.inr z))).trans ?_
        rw [e3, lsm, i32_add, Int32.add_assoc]
-- pixels in a row
def bm (f : Nat → Bool) : Nat → Int64
  | 0 => 0
  | n + 1 => if f n then bm f n ||| jv_lshl 1 (nI n) else bm f n
theorem bm_congr {f g : Nat → Bool} : ∀ n : Nat, (∀ i, i < n → f i = g i) → bm f n = bm g n
  | 0, _ => rfl
  | n + 1, h => by rw [bm, bm, bm_congr n (fun i hi => h i (by omega)), h n (by omega)]
theorem bm_or (f g : Nat → Bool) : ∀ n : Nat, bm (fun i => f i || g i) n = bm f n ||| bm g n
  | 0 => (show (0 : Int64) = 0 ||| 0 by decide)
  | n + 1 => by
    rw [bm, bm, bm, bm_or f g n]
    generalize bm f n = a
    generalize bm g n = b
    generalize jv_lshl 1 (nI n) = s
    rcases hf : f n with _ | _ <;> rcases hg : g n with _ | _
    · rfl
    · exact Int64.or_assoc a b s
    · show a ||| b ||| s = a ||| s ||| b
      rw [Int64.or_assoc, Int64.or_comm b s, ← Int64.or_assoc]
    · show a ||| b ||| s = a ||| s ||| (b ||| s)
      rw [Int64.or_comm b s, ← Int64.or_assoc, Int64.or_assoc a s s, Int64.or_self, Int64.or_assoc, Int64.or_comm b s, ← Int64.or_assoc]
