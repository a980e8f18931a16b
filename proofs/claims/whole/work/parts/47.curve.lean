-- the reference's curve: its touch tests, and the whole
theorem km_curve100_i {fi se : Nat → Int64} {tc tn : Int32} {i p j q k r : Int} (hi : -80000 ≤ i ∧ i ≤ 80000) (hp : -80000 ≤ p ∧ p ≤ 80000) (hj : -80000 ≤ j ∧ j ≤ 80000) (hq : -80000 ≤ q ∧ q ≤ 80000) (hk : -80000 ≤ k ∧ k ≤ 80000) (hr : -80000 ≤ r ∧ r ≤ 80000) {ol : Prop} (t72 t100 : Int32) (hwd : t72 = 0 ↔ (i = j ∧ j = k)) (hol : t100 = 0 ↔ ¬ ol) :
    ((if i = j ∧ j = k ∧ p = q ∧ q = r then i = 0 ∧ p = 0 else ol ∧ (if i = j ∧ j = k then mt_zr p q r else mt_zr i j k)) → km_curve_j100 tc tn fi se (Int64.ofInt i) (Int64.ofInt p) (Int64.ofInt j) (Int64.ofInt q) (Int64.ofInt k) (Int64.ofInt r) t72 t100 = km_curve_j255 tn (Int64.ofInt i) (Int64.ofInt p) (Int64.ofInt j) (Int64.ofInt q) (Int64.ofInt k) (Int64.ofInt r) fi se 1) ∧
    (¬ (if i = j ∧ j = k ∧ p = q ∧ q = r then i = 0 ∧ p = 0 else ol ∧ (if i = j ∧ j = k then mt_zr p q r else mt_zr i j k)) → km_curve_j100 tc tn fi se (Int64.ofInt i) (Int64.ofInt p) (Int64.ofInt j) (Int64.ofInt q) (Int64.ofInt k) (Int64.ofInt r) t72 t100 = km_curve_j255 tn (Int64.ofInt i) (Int64.ofInt p) (Int64.ofInt j) (Int64.ofInt q) (Int64.ofInt k) (Int64.ofInt r) fi se tc) := by
  have z0 : (0 : Int64).toInt = 0 := by decide
  have epq := lc_eq (Int64.ofInt p) (Int64.ofInt q)
  have eqr := lc_eq (Int64.ofInt q) (Int64.ofInt r)
  have ei := lc_eq (Int64.ofInt i) 0
  have ep := lc_eq (Int64.ofInt p) 0
  rw [iL_t (by omega), iL_t (by omega)] at epq eqr
  rw [iL_t (by omega), z0] at ei ep
  have zx := km_zero_i hi hj hk
  have zy := km_zero_i hp hq hr
  have hend : ∀ t : Int32, km_curve_j182 tn fi se (Int64.ofInt i) (Int64.ofInt p) (Int64.ofInt j) (Int64.ofInt q) (Int64.ofInt k) (Int64.ofInt r) t = km_curve_j255 tn (Int64.ofInt i) (Int64.ofInt p) (Int64.ofInt j) (Int64.ofInt q) (Int64.ofInt k) (Int64.ofInt r) fi se t := fun t => rfl
  unfold km_curve_j100
  simp only [hend]
  by_cases c72 : t72 = 0
  · have hw := hwd.mp c72
    rw [if_pos c72, if_pos c72]
    have tail : ∀ hn : ¬ (i = j ∧ j = k ∧ p = q ∧ q = r),
        ((if i = j ∧ j = k ∧ p = q ∧ q = r then i = 0 ∧ p = 0 else ol ∧ (if i = j ∧ j = k then mt_zr p q r else mt_zr i j k)) → (if t100 = 0 then km_curve_j255 tn (Int64.ofInt i) (Int64.ofInt p) (Int64.ofInt j) (Int64.ofInt q) (Int64.ofInt k) (Int64.ofInt r) fi se tc else if km_zero (Int64.ofInt p) (Int64.ofInt q) (Int64.ofInt r) = 0 then km_curve_j255 tn (Int64.ofInt i) (Int64.ofInt p) (Int64.ofInt j) (Int64.ofInt q) (Int64.ofInt k) (Int64.ofInt r) fi se tc else km_curve_j255 tn (Int64.ofInt i) (Int64.ofInt p) (Int64.ofInt j) (Int64.ofInt q) (Int64.ofInt k) (Int64.ofInt r) fi se 1) = km_curve_j255 tn (Int64.ofInt i) (Int64.ofInt p) (Int64.ofInt j) (Int64.ofInt q) (Int64.ofInt k) (Int64.ofInt r) fi se 1) ∧
        (¬ (if i = j ∧ j = k ∧ p = q ∧ q = r then i = 0 ∧ p = 0 else ol ∧ (if i = j ∧ j = k then mt_zr p q r else mt_zr i j k)) → (if t100 = 0 then km_curve_j255 tn (Int64.ofInt i) (Int64.ofInt p) (Int64.ofInt j) (Int64.ofInt q) (Int64.ofInt k) (Int64.ofInt r) fi se tc else if km_zero (Int64.ofInt p) (Int64.ofInt q) (Int64.ofInt r) = 0 then km_curve_j255 tn (Int64.ofInt i) (Int64.ofInt p) (Int64.ofInt j) (Int64.ofInt q) (Int64.ofInt k) (Int64.ofInt r) fi se tc else km_curve_j255 tn (Int64.ofInt i) (Int64.ofInt p) (Int64.ofInt j) (Int64.ofInt q) (Int64.ofInt k) (Int64.ofInt r) fi se 1) = km_curve_j255 tn (Int64.ofInt i) (Int64.ofInt p) (Int64.ofInt j) (Int64.ofInt q) (Int64.ofInt k) (Int64.ofInt r) fi se tc) := by
      intro hn
      rw [if_neg hn, if_pos hw]
      by_cases c100 : t100 = 0
      · rw [if_pos c100]
        exact ⟨fun h => absurd h.1 (hol.mp c100), fun _ => rfl⟩
      · rw [if_neg c100]
        have ho : ol := by
          rcases Classical.em ol with z | z
          · exact z
          · exact absurd (hol.mpr z) c100
        by_cases cz : mt_zr p q r
        · rw [if_neg (fun z => zy.mp z cz)]
          exact ⟨fun _ => rfl, fun h => absurd ⟨ho, cz⟩ h⟩
        · rw [if_pos (zy.mpr cz)]
          exact ⟨fun h => absurd h.2 cz, fun _ => rfl⟩
    by_cases c1 : p = q
    · rw [if_pos (epq.mpr c1)]
      by_cases c2 : q = r
      · rw [if_pos (eqr.mpr c2)]
        rw [if_pos (show i = j ∧ j = k ∧ p = q ∧ q = r from ⟨hw.1, hw.2, c1, c2⟩)]
        by_cases c3 : i = 0
        · rw [if_pos (ei.mpr c3)]
          by_cases c4 : p = 0
          · rw [if_pos (ep.mpr c4)]
            exact ⟨fun _ => rfl, fun h => absurd ⟨c3, c4⟩ h⟩
          · rw [if_neg (fun z => c4 (ep.mp z))]
            exact ⟨fun h => absurd h.2 c4, fun _ => rfl⟩
        · rw [if_neg (fun z => c3 (ei.mp z))]
          exact ⟨fun h => absurd h.1 c3, fun _ => rfl⟩
      · rw [if_neg (fun z => c2 (eqr.mp z))]
        exact tail (fun h => c2 h.2.2.2)
    · rw [if_neg (fun z => c1 (epq.mp z))]
      exact tail (fun h => c1 h.2.2.1)
  · have hw : ¬ (i = j ∧ j = k) := fun z => c72 (hwd.mpr z)
    rw [if_neg c72, if_neg (show ¬ (i = j ∧ j = k ∧ p = q ∧ q = r) from fun z => hw ⟨z.1, z.2.1⟩), if_neg hw]
    by_cases c100 : t100 = 0
    · rw [if_pos c100]
      exact ⟨fun h => absurd h.1 (hol.mp c100), fun _ => rfl⟩
    · rw [if_neg c100, if_neg c72]
      have ho : ol := by
        rcases Classical.em ol with z | z
        · exact z
        · exact absurd (hol.mpr z) c100
      by_cases cz : mt_zr i j k
      · rw [if_neg (fun z => zx.mp z cz)]
        exact ⟨fun _ => rfl, fun h => absurd ⟨ho, cz⟩ h⟩
      · rw [if_pos (zx.mpr cz)]
        exact ⟨fun h => absurd h.2 cz, fun _ => rfl⟩
theorem km_curve_t {fi se : Nat → Int64} {tc tn : Int32} {i p j q k r : Int} (hi : -80000 ≤ i ∧ i ≤ 80000) (hp : -80000 ≤ p ∧ p ≤ 80000) (hj : -80000 ≤ j ∧ j ≤ 80000) (hq : -80000 ≤ q ∧ q ≤ 80000) (hk : -80000 ≤ k ∧ k ≤ 80000) (hr : -80000 ≤ r ∧ r ≤ 80000) :
    (mt_rtouch i p j q k r → ∃ fi' se' : Nat → Int64, km_curve tc tn fi se (Int64.ofInt i) (Int64.ofInt p) (Int64.ofInt j) (Int64.ofInt q) (Int64.ofInt k) (Int64.ofInt r) = km_curve_j255 tn (Int64.ofInt i) (Int64.ofInt p) (Int64.ofInt j) (Int64.ofInt q) (Int64.ofInt k) (Int64.ofInt r) fi' se' 1) ∧ (¬ mt_rtouch i p j q k r → ∃ fi' se' : Nat → Int64, km_curve tc tn fi se (Int64.ofInt i) (Int64.ofInt p) (Int64.ofInt j) (Int64.ofInt q) (Int64.ofInt k) (Int64.ofInt r) = km_curve_j255 tn (Int64.ofInt i) (Int64.ofInt p) (Int64.ofInt j) (Int64.ofInt q) (Int64.ofInt k) (Int64.ofInt r) fi' se' tc) := by
  have z0 : (0 : Int64).toInt = 0 := by decide
  have b1 := mt_bd hj hr
  have b2 := mt_bd hk hq
  have b3 := mt_bd hk hp
  have b4 := mt_bd hi hr
  have b5 := mt_bd hi hq
  have b6 := mt_bd hj hp
  unfold km_curve
  simp only [← Int64.ofInt_mul, ← Int64.ofInt_sub, ← Int64.ofInt_add]
  unfold mt_rtouch mt_rtch
  generalize hu : j * r - k * q = u at *
  generalize hv : k * p - i * r = v at *
  generalize hw : i * q - j * p = w at *
  have eu := lc_eq (Int64.ofInt u) 0
  have ev := lc_eq (Int64.ofInt v) 0
  have ew := lc_eq (Int64.ofInt w) 0
  have es := lc_eq (Int64.ofInt (u + v + w)) 0
  have eij := lc_eq (Int64.ofInt i) (Int64.ofInt j)
  have ejk := lc_eq (Int64.ofInt j) (Int64.ofInt k)
  rw [iL_t (by omega), z0] at eu ev ew es
  rw [iL_t (by omega), iL_t (by omega)] at eij ejk
  unfold km_curve_k45
  by_cases hs : u + v + w = 0
  · rw [if_pos (es.mpr hs)]
    have j72 : ∀ t72 : Int32, (t72 = 0 ↔ (i = j ∧ j = k)) →
        ((if i = j ∧ j = k ∧ p = q ∧ q = r then i = 0 ∧ p = 0 else (u = 0 ∧ v = 0 ∧ w = 0) ∧ (if i = j ∧ j = k then mt_zr p q r else mt_zr i j k)) → km_curve_j72 tc tn fi se (Int64.ofInt i) (Int64.ofInt p) (Int64.ofInt j) (Int64.ofInt q) (Int64.ofInt k) (Int64.ofInt r) (Int64.ofInt u) (Int64.ofInt v) (Int64.ofInt w) t72 = km_curve_j255 tn (Int64.ofInt i) (Int64.ofInt p) (Int64.ofInt j) (Int64.ofInt q) (Int64.ofInt k) (Int64.ofInt r) fi se 1) ∧
        (¬ (if i = j ∧ j = k ∧ p = q ∧ q = r then i = 0 ∧ p = 0 else (u = 0 ∧ v = 0 ∧ w = 0) ∧ (if i = j ∧ j = k then mt_zr p q r else mt_zr i j k)) → km_curve_j72 tc tn fi se (Int64.ofInt i) (Int64.ofInt p) (Int64.ofInt j) (Int64.ofInt q) (Int64.ofInt k) (Int64.ofInt r) (Int64.ofInt u) (Int64.ofInt v) (Int64.ofInt w) t72 = km_curve_j255 tn (Int64.ofInt i) (Int64.ofInt p) (Int64.ofInt j) (Int64.ofInt q) (Int64.ofInt k) (Int64.ofInt r) fi se tc) := by
      intro t72 hwd
      unfold km_curve_j72
      by_cases a1 : u = 0
      · rw [if_pos (eu.mpr a1)]
        by_cases a2 : v = 0
        · rw [if_pos (ev.mpr a2)]
          by_cases a3 : w = 0
          · rw [if_pos (ew.mpr a3)]
            exact km_curve100_i hi hp hj hq hk hr t72 1 hwd ⟨fun h => absurd h (by decide), fun h => absurd ⟨a1, a2, a3⟩ h⟩
          · rw [if_neg (fun z => a3 (ew.mp z))]
            exact km_curve100_i hi hp hj hq hk hr t72 0 hwd ⟨fun _ h => a3 h.2.2, fun _ => rfl⟩
        · rw [if_neg (fun z => a2 (ev.mp z))]
          exact km_curve100_i hi hp hj hq hk hr t72 0 hwd ⟨fun _ h => a2 h.2.1, fun _ => rfl⟩
      · rw [if_neg (fun z => a1 (eu.mp z))]
        exact km_curve100_i hi hp hj hq hk hr t72 0 hwd ⟨fun _ h => a1 h.1, fun _ => rfl⟩
    have key : ∀ t72 : Int32, (t72 = 0 ↔ (i = j ∧ j = k)) →
        ((u + v + w = 0 ∧ (if i = j ∧ j = k ∧ p = q ∧ q = r then i = 0 ∧ p = 0 else (u = 0 ∧ v = 0 ∧ w = 0) ∧ (if i = j ∧ j = k then mt_zr p q r else mt_zr i j k))) ∨ (u + v + w ≠ 0 ∧ mt_tri u v w ∧ v * v = 4 * (u * w)) → ∃ fi' se' : Nat → Int64, km_curve_j72 tc tn fi se (Int64.ofInt i) (Int64.ofInt p) (Int64.ofInt j) (Int64.ofInt q) (Int64.ofInt k) (Int64.ofInt r) (Int64.ofInt u) (Int64.ofInt v) (Int64.ofInt w) t72 = km_curve_j255 tn (Int64.ofInt i) (Int64.ofInt p) (Int64.ofInt j) (Int64.ofInt q) (Int64.ofInt k) (Int64.ofInt r) fi' se' 1) ∧
        (¬ ((u + v + w = 0 ∧ (if i = j ∧ j = k ∧ p = q ∧ q = r then i = 0 ∧ p = 0 else (u = 0 ∧ v = 0 ∧ w = 0) ∧ (if i = j ∧ j = k then mt_zr p q r else mt_zr i j k))) ∨ (u + v + w ≠ 0 ∧ mt_tri u v w ∧ v * v = 4 * (u * w))) → ∃ fi' se' : Nat → Int64, km_curve_j72 tc tn fi se (Int64.ofInt i) (Int64.ofInt p) (Int64.ofInt j) (Int64.ofInt q) (Int64.ofInt k) (Int64.ofInt r) (Int64.ofInt u) (Int64.ofInt v) (Int64.ofInt w) t72 = km_curve_j255 tn (Int64.ofInt i) (Int64.ofInt p) (Int64.ofInt j) (Int64.ofInt q) (Int64.ofInt k) (Int64.ofInt r) fi' se' tc) := by
      intro t72 hwd
      have h := j72 t72 hwd
      constructor
      · rintro (⟨_, z⟩ | ⟨z, _⟩)
        · exact ⟨fi, se, h.1 z⟩
        · exact absurd hs z
      · intro z
        exact ⟨fi, se, h.2 (fun y => z (Or.inl ⟨hs, y⟩))⟩
    by_cases a1 : i = j
    · rw [if_pos (eij.mpr a1)]
      by_cases a2 : j = k
      · rw [if_pos (ejk.mpr a2)]
        exact key 0 ⟨fun _ => ⟨a1, a2⟩, fun _ => rfl⟩
      · rw [if_neg (fun z => a2 (ejk.mp z))]
        exact key 1 ⟨fun h => absurd h (by decide), fun h => absurd h.2 a2⟩
    · rw [if_neg (fun z => a1 (eij.mp z))]
      exact key 1 ⟨fun h => absurd h (by decide), fun h => absurd h.1 a1⟩
  · have hsb := sg_b (u + v + w)
    rw [if_neg (fun z => hs (es.mp z)), km_sign_i (by omega), iI_l (by omega), ← Int64.ofInt_mul, ← Int64.ofInt_mul, ← Int64.ofInt_mul]
    have q1 := mt_bd (a := mt_sg (u + v + w)) (b := u) (A := 1) (B := 12800000000) (by omega) (by omega)
    have q2 := mt_bd (a := mt_sg (u + v + w)) (b := v) (A := 1) (B := 12800000000) (by omega) (by omega)
    have q3 := mt_bd (a := mt_sg (u + v + w)) (b := w) (A := 1) (B := 12800000000) (by omega) (by omega)
    have l1 := lc_lt (Int64.ofInt (mt_sg (u + v + w) * u)) 0
    have l2 := lc_lt (Int64.ofInt (mt_sg (u + v + w) * v)) 0
    have l3 := lc_lt (Int64.ofInt (mt_sg (u + v + w) * w)) 0
    rw [iL_t (by omega), z0] at l1 l2 l3
    have ht := tri_i hs
    have hno : ¬ mt_tri u v w → ¬ ((u + v + w = 0 ∧ (if i = j ∧ j = k ∧ p = q ∧ q = r then i = 0 ∧ p = 0 else (u = 0 ∧ v = 0 ∧ w = 0) ∧ (if i = j ∧ j = k then mt_zr p q r else mt_zr i j k))) ∨ (u + v + w ≠ 0 ∧ mt_tri u v w ∧ v * v = 4 * (u * w))) := by
      rintro h (⟨z, _⟩ | ⟨_, z, _⟩)
      · exact hs z
      · exact h z
    by_cases t1 : mt_sg (u + v + w) * u < 0
    · rw [if_pos (l1.mpr t1)]
      have hn := hno (fun z => (ht.mp z).1 t1)
      exact ⟨fun h => absurd h hn, fun _ => ⟨fi, se, rfl⟩⟩
    rw [if_neg (fun z => t1 (l1.mp z))]
    by_cases t2 : mt_sg (u + v + w) * v < 0
    · rw [if_pos (l2.mpr t2)]
      have hn := hno (fun z => (ht.mp z).2.1 t2)
      exact ⟨fun h => absurd h hn, fun _ => ⟨fi, se, rfl⟩⟩
    rw [if_neg (fun z => t2 (l2.mp z))]
    by_cases t3 : mt_sg (u + v + w) * w < 0
    · rw [if_pos (l3.mpr t3)]
      have hn := hno (fun z => (ht.mp z).2.2 t3)
      exact ⟨fun h => absurd h hn, fun _ => ⟨fi, se, rfl⟩⟩
    rw [if_neg (fun z => t3 (l3.mp z))]
    have hT : mt_tri u v w := ht.mpr ⟨t1, t2, t3⟩
    have hthr := km_thr_i (fi := fi) (se := se) (u := mt_sg (u + v + w) * u) (v := mt_sg (u + v + w) * v) (w := mt_sg (u + v + w) * w) (by omega) (by omega) (by omega)
    have heq : mt_sg (u + v + w) * v * (mt_sg (u + v + w) * v) = 4 * (mt_sg (u + v + w) * u * (mt_sg (u + v + w) * w)) ↔ v * v = 4 * (u * w) := by
      rcases mt_sg_c (u + v + w) with ⟨_, e⟩ | ⟨z, _⟩ | ⟨_, e⟩
      · rw [e, show -1 * v * (-1 * v) = v * v by grind, show -1 * u * (-1 * w) = u * w by grind]
      · exact absurd z hs
      · rw [e, Int.one_mul, Int.one_mul, Int.one_mul]
    unfold km_curve_k247
    generalize km_thr fi se (Int64.ofInt (mt_sg (u + v + w) * u)) (Int64.ofInt (mt_sg (u + v + w) * v)) (Int64.ofInt (mt_sg (u + v + w) * w)) = X at hthr ⊢
    rw [hthr]
    by_cases c : v * v = 4 * (u * w)
    · rw [if_pos (heq.mpr c), if_neg (show ¬ (1 : Int32) = 0 by decide)]
      exact ⟨fun _ => ⟨_, _, rfl⟩, fun h => absurd (Or.inr ⟨hs, hT, c⟩) h⟩
    · rw [if_neg (fun z => c (heq.mp z)), if_pos rfl]
      refine ⟨fun h => ?_, fun _ => ⟨_, _, rfl⟩⟩
      rcases h with ⟨z, _⟩ | ⟨_, _, z⟩
      · exact absurd z hs
      · exact absurd z c
theorem km_curve_i {fi se : Nat → Int64} {tc tn : Int32} {i p j q k r : Int} (hi : -80000 ≤ i ∧ i ≤ 80000) (hp : -80000 ≤ p ∧ p ≤ 80000) (hj : -80000 ≤ j ∧ j ≤ 80000) (hq : -80000 ≤ q ∧ q ≤ 80000) (hk : -80000 ≤ k ∧ k ≤ 80000) (hr : -80000 ≤ r ∧ r ≤ 80000) :
    (tc = 1 → (km_curve tc tn fi se (Int64.ofInt i) (Int64.ofInt p) (Int64.ofInt j) (Int64.ofInt q) (Int64.ofInt k) (Int64.ofInt r)).1 = 1) ∧ (mt_touch i p j q k r → (km_curve tc tn fi se (Int64.ofInt i) (Int64.ofInt p) (Int64.ofInt j) (Int64.ofInt q) (Int64.ofInt k) (Int64.ofInt r)).1 = 1) ∧
    (¬ mt_touch i p j q k r → tc = 0 → (km_curve tc tn fi se (Int64.ofInt i) (Int64.ofInt p) (Int64.ofInt j) (Int64.ofInt q) (Int64.ofInt k) (Int64.ofInt r)).1 = 0 ∧ (km_curve tc tn fi se (Int64.ofInt i) (Int64.ofInt p) (Int64.ofInt j) (Int64.ofInt q) (Int64.ofInt k) (Int64.ofInt r)).2.1 = tn + Int32.ofInt (mt_kb (j * r - k * q) (k * p - i * r) (i * q - j * p) i p k r)) := by
  have h1 : ∀ fi se : Nat → Int64, (km_curve_j255 tn (Int64.ofInt i) (Int64.ofInt p) (Int64.ofInt j) (Int64.ofInt q) (Int64.ofInt k) (Int64.ofInt r) fi se 1).1 = 1 := fun fi se => by
    unfold km_curve_j255
    rw [if_neg (by decide)]
  obtain ⟨t1, t2⟩ := km_curve_t (fi := fi) (se := se) (tc := tc) (tn := tn) hi hp hj hq hk hr
  have hiff := mt_touch_iff i p j q k r
  by_cases hT : mt_touch i p j q k r
  · obtain ⟨f', s', e⟩ := t1 (hiff.mpr hT)
    rw [e]
    exact ⟨fun _ => h1 _ _, fun _ => h1 _ _, fun h => absurd hT h⟩
  · obtain ⟨f', s', e⟩ := t2 (fun z => hT (hiff.mp z))
    rw [e]
    refine ⟨fun h => by rw [h]; exact h1 _ _, fun h => absurd h hT, fun _ h0 => ?_⟩
    obtain ⟨m1, m2⟩ := mt_main (i := i) (p := p) (j := j) (q := q) (k := k) (r := r) rfl rfl rfl hT
    rw [h0, ← m2]
    exact km_curve255_i hi hp hj hq hk hr m1
