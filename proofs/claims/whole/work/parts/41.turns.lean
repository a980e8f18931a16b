theorem cs_b (v i p k r : Int) : -1 ≤ mt_cs v i p k r ∧ mt_cs v i p k r ≤ 1 := by
  unfold mt_cs
  split
  · exact sg_b _
  · split
    · exact sg_b _
    · exact sg_b _
theorem sh_b (c p r : Int) : -1 ≤ mt_sh c p r ∧ mt_sh c p r ≤ 1 := by
  unfold mt_sh
  split
  · omega
  · split
    · split <;> omega
    · split <;> omega
theorem ka_on_i {sx sy bx b2 ex ey x y : Int} (h1 : -40000 ≤ sx ∧ sx ≤ 40000) (h2 : -40000 ≤ sy ∧ sy ≤ 40000) (h3 : -40000 ≤ bx ∧ bx ≤ 40000) (h4 : -40000 ≤ b2 ∧ b2 ≤ 40000) (h5 : -40000 ≤ ex ∧ ex ≤ 40000) (h6 : -40000 ≤ ey ∧ ey ≤ 40000) (hx : -40000 ≤ x ∧ x ≤ 40000) (hy : -40000 ≤ y ∧ y ≤ 40000) :
    ka_on (Int32.ofInt sx) (Int32.ofInt sy) (Int32.ofInt bx) (Int32.ofInt b2) (Int32.ofInt ex) (Int32.ofInt ey) (Int32.ofInt x) (Int32.ofInt y) = 0 ↔ ¬ (mt_rz (sx - x) (bx - x) (ex - x) ∧ mt_rz (sy - y) (b2 - y) (ey - y)) := by
  unfold ka_on
  rw [rel_i h1 hx, rel_i h3 hx, rel_i h5 hx, rel_i h2 hy, rel_i h4 hy, rel_i h6 hy]
  have k1 := ka_rz_i (p := sx - x) (q := bx - x) (r := ex - x) (by omega) (by omega) (by omega)
  have k2 := ka_rz_i (p := sy - y) (q := b2 - y) (r := ey - y) (by omega) (by omega) (by omega)
  by_cases c1 : mt_rz (sx - x) (bx - x) (ex - x)
  · rw [if_neg (fun z => k1.mp z c1)]
    by_cases c2 : mt_rz (sy - y) (b2 - y) (ey - y)
    · rw [if_neg (fun z => k2.mp z c2)]
      exact ⟨fun h => absurd h (by decide), fun h => absurd ⟨c1, c2⟩ h⟩
    · rw [if_pos (k2.mpr c2)]
      exact ⟨fun _ h => c2 h.2, fun _ => rfl⟩
  · rw [if_pos (k1.mpr c1)]
    exact ⟨fun _ h => c1 h.1, fun _ => rfl⟩
/-- the three sign tests of the class say: inside the closed triangle -/
theorem tri_i {u v w : Int} (hs : u + v + w ≠ 0) : mt_tri u v w ↔ ¬ mt_sg (u + v + w) * u < 0 ∧ ¬ mt_sg (u + v + w) * v < 0 ∧ ¬ mt_sg (u + v + w) * w < 0 := by
  unfold mt_tri
  rcases mt_sg_c (u + v + w) with ⟨h, e⟩ | ⟨h, e⟩ | ⟨h, e⟩ <;> rw [e]
  · omega
  · exact absurd h hs
  · omega
theorem abs_i {u v w : Int} (h : mt_tri u v w) : ((v.natAbs * v.natAbs : Nat) : Int) - ((4 * u.natAbs * w.natAbs : Nat) : Int) = v * v - 4 * (u * w) := by
  have e1 : ((v.natAbs * v.natAbs : Nat) : Int) = v * v := Int.natAbs_mul_self
  have e2 : ((4 * u.natAbs * w.natAbs : Nat) : Int) = 4 * (u * w) := by
    rcases h with ⟨a, b, c⟩ | ⟨a, b, c⟩
    · have k1 : (u.natAbs : Int) = u := by omega
      have k2 : (w.natAbs : Int) = w := by omega
      rw [Int.natCast_mul, Int.natCast_mul, k1, k2, Int.mul_assoc]
      rfl
    · have k1 : (u.natAbs : Int) = -u := by omega
      have k2 : (w.natAbs : Int) = -w := by omega
      rw [Int.natCast_mul, Int.natCast_mul, k1, k2, Int.mul_assoc, Int.neg_mul_neg]
      rfl
  rw [e1, e2]
theorem ka_k160_i {sx sy bx b2 ex ey x y u v w : Int} (h1 : -40000 ≤ sx ∧ sx ≤ 40000) (h2 : -40000 ≤ sy ∧ sy ≤ 40000) (h3 : -40000 ≤ bx ∧ bx ≤ 40000) (h4 : -40000 ≤ b2 ∧ b2 ≤ 40000) (h5 : -40000 ≤ ex ∧ ex ≤ 40000) (h6 : -40000 ≤ ey ∧ ey ≤ 40000) (hx : -40000 ≤ x ∧ x ≤ 40000) (hy : -40000 ≤ y ∧ y ≤ 40000)
    (hu : -12800000000 ≤ u ∧ u ≤ 12800000000) (hv : -12800000000 ≤ v ∧ v ≤ 12800000000) (hw : -12800000000 ≤ w ∧ w ≤ 12800000000) {cs sh : Int} (hcs : -1 ≤ cs ∧ cs ≤ 1) :
    (mt_tch u v w (sx - x) (sy - y) (bx - x) (b2 - y) (ex - x) (ey - y) → ka_turns_k160 (Int32.ofInt sx) (Int32.ofInt sy) (Int32.ofInt bx) (Int32.ofInt b2) (Int32.ofInt ex) (Int32.ofInt ey) (Int32.ofInt x) (Int32.ofInt y) (Int32.ofInt cs) (Int32.ofInt sh) (Int64.ofInt u) (Int64.ofInt v) (Int64.ofInt w) (Int32.ofInt (mt_sg (u + v + w))) = 1000) ∧
    (¬ mt_tch u v w (sx - x) (sy - y) (bx - x) (b2 - y) (ex - x) (ey - y) → ka_turns_k160 (Int32.ofInt sx) (Int32.ofInt sy) (Int32.ofInt bx) (Int32.ofInt b2) (Int32.ofInt ex) (Int32.ofInt ey) (Int32.ofInt x) (Int32.ofInt y) (Int32.ofInt cs) (Int32.ofInt sh) (Int64.ofInt u) (Int64.ofInt v) (Int64.ofInt w) (Int32.ofInt (mt_sg (u + v + w))) = Int32.ofInt (if u + v + w ≠ 0 ∧ ((0 ≤ u ∧ 0 ≤ v ∧ 0 ≤ w) ∨ (u ≤ 0 ∧ v ≤ 0 ∧ w ≤ 0)) ∧ v * v < 4 * (u * w) ∧ cs = mt_sg (u + v + w) then sh + mt_sg (u + v + w) else sh)) := by
  have z0 : (0 : Int64).toInt = 0 := by decide
  have z1 : (0 : Int32).toInt = 0 := by decide
  have hsb := sg_b (u + v + w)
  have eu := lc_eq (Int64.ofInt u) 0
  have ev := lc_eq (Int64.ofInt v) 0
  have ew := lc_eq (Int64.ofInt w) 0
  rw [iL_t (by omega), z0] at eu ev ew
  have hon := ka_on_i h1 h2 h3 h4 h5 h6 hx hy
  unfold ka_turns_k160 mt_tch
  by_cases hs : u + v + w = 0
  · rw [if_pos ((sgI0 _).mpr hs), if_neg (c := u + v + w ≠ 0 ∧ ((0 ≤ u ∧ 0 ≤ v ∧ 0 ≤ w) ∨ (u ≤ 0 ∧ v ≤ 0 ∧ w ≤ 0)) ∧ v * v < 4 * (u * w) ∧ cs = mt_sg (u + v + w)) (fun h => h.1 hs)]
    by_cases hz : u = 0 ∧ v = 0 ∧ w = 0
    · rw [if_pos (eu.mpr hz.1), if_pos (ev.mpr hz.2.1), if_pos (ew.mpr hz.2.2)]
      unfold ka_turns_j190
      rw [if_neg (by decide)]
      by_cases c : mt_rz (sx - x) (bx - x) (ex - x) ∧ mt_rz (sy - y) (b2 - y) (ey - y)
      · rw [if_neg (fun z => hon.mp z c)]
        exact ⟨fun _ => rfl, fun h => absurd (Or.inl ⟨hs, hz, c⟩) h⟩
      · rw [if_pos (hon.mpr c)]
        refine ⟨fun h => ?_, fun _ => rfl⟩
        rcases h with ⟨_, _, h⟩ | ⟨h, _⟩
        · exact absurd h c
        · exact absurd hs h
    · have key : (if (lg_cmp (Int64.ofInt u) 0) = 0 then (if (lg_cmp (Int64.ofInt v) 0) = 0 then (if (lg_cmp (Int64.ofInt w) 0) = 0 then (ka_turns_j190 (Int32.ofInt sx) (Int32.ofInt sy) (Int32.ofInt bx) (Int32.ofInt b2) (Int32.ofInt ex) (Int32.ofInt ey) (Int32.ofInt x) (Int32.ofInt y) (Int32.ofInt sh) 1) else (ka_turns_j190 (Int32.ofInt sx) (Int32.ofInt sy) (Int32.ofInt bx) (Int32.ofInt b2) (Int32.ofInt ex) (Int32.ofInt ey) (Int32.ofInt x) (Int32.ofInt y) (Int32.ofInt sh) 0)) else (ka_turns_j190 (Int32.ofInt sx) (Int32.ofInt sy) (Int32.ofInt bx) (Int32.ofInt b2) (Int32.ofInt ex) (Int32.ofInt ey) (Int32.ofInt x) (Int32.ofInt y) (Int32.ofInt sh) 0)) else (ka_turns_j190 (Int32.ofInt sx) (Int32.ofInt sy) (Int32.ofInt bx) (Int32.ofInt b2) (Int32.ofInt ex) (Int32.ofInt ey) (Int32.ofInt x) (Int32.ofInt y) (Int32.ofInt sh) 0)) = Int32.ofInt sh := by
        have k0 : ka_turns_j190 (Int32.ofInt sx) (Int32.ofInt sy) (Int32.ofInt bx) (Int32.ofInt b2) (Int32.ofInt ex) (Int32.ofInt ey) (Int32.ofInt x) (Int32.ofInt y) (Int32.ofInt sh) 0 = Int32.ofInt sh := by
          unfold ka_turns_j190; rw [if_pos rfl]
        by_cases a1 : u = 0
        · rw [if_pos (eu.mpr a1)]
          by_cases a2 : v = 0
          · rw [if_pos (ev.mpr a2), if_neg (fun z => hz ⟨a1, a2, ew.mp z⟩), k0]
          · rw [if_neg (fun z => a2 (ev.mp z)), k0]
        · rw [if_neg (fun z => a1 (eu.mp z)), k0]
      rw [key]
      refine ⟨fun h => ?_, fun _ => rfl⟩
      rcases h with ⟨_, h, _⟩ | ⟨h, _⟩
      · exact absurd h hz
      · exact absurd hs h
  · rw [if_neg (fun z => hs ((sgI0 _).mp z)), iI_l (by omega), ← Int64.ofInt_mul, ← Int64.ofInt_mul, ← Int64.ofInt_mul]
    have q1 := mt_bd (a := mt_sg (u + v + w)) (A := 1) (by omega) hu
    have q2 := mt_bd (a := mt_sg (u + v + w)) (A := 1) (by omega) hv
    have q3 := mt_bd (a := mt_sg (u + v + w)) (A := 1) (by omega) hw
    have l1 := lc_lt (Int64.ofInt (mt_sg (u + v + w) * u)) 0
    have l2 := lc_lt (Int64.ofInt (mt_sg (u + v + w) * v)) 0
    have l3 := lc_ge (Int64.ofInt (mt_sg (u + v + w) * w)) 0
    rw [iL_t (by omega), z0] at l1 l2 l3
    have ht := tri_i hs
    by_cases hT : mt_tri u v w
    · obtain ⟨t1, t2, t3⟩ := ht.mp hT
      rw [if_neg (fun z => t1 (l1.mp z)), if_neg (fun z => t2 (l2.mp z)), if_pos (l3.mpr (by omega)), jabs_i (by omega), jabs_i (by omega), jabs_i (by omega)]
      have f4 : (4 : Int64) = lN 4 := by decide +kernel
      rw [f4, lN_mul, ka_cmp_i (by omega) (by omega) (by omega) (by omega), abs_i hT]
      have s0 := sgI0 (v * v - 4 * (u * w))
      by_cases c : v * v = 4 * (u * w)
      · rw [if_pos (s0.mpr (by omega))]
        exact ⟨fun _ => rfl, fun h => absurd (Or.inr ⟨hs, hT, c⟩) h⟩
      · rw [if_neg (fun z => c (by have := s0.mp z; omega))]
        have hnt : ¬ ((u + v + w = 0 ∧ (u = 0 ∧ v = 0 ∧ w = 0) ∧ mt_rz (sx - x) (bx - x) (ex - x) ∧ mt_rz (sy - y) (b2 - y) (ey - y)) ∨ (u + v + w ≠ 0 ∧ mt_tri u v w ∧ v * v = 4 * (u * w))) := by
          rintro (⟨h, _⟩ | ⟨_, _, h⟩)
          · exact hs h
          · exact c h
        refine ⟨fun h => absurd h hnt, fun _ => ?_⟩
        have hge : 0 ≤ Int32.ofInt (mt_sg (v * v - 4 * (u * w))) ↔ ¬ v * v < 4 * (u * w) := by
          have := sg_b (v * v - 4 * (u * w))
          rw [i32_le, z1, iI_t (by omega)]
          rcases mt_sg_c (v * v - 4 * (u * w)) with ⟨a, b⟩ | ⟨a, b⟩ | ⟨a, b⟩ <;> omega
        by_cases c2 : v * v < 4 * (u * w)
        · rw [if_neg (fun z => hge.mp z c2)]
          have hcq : Int32.ofInt cs = Int32.ofInt (mt_sg (u + v + w)) ↔ cs = mt_sg (u + v + w) := by
            rw [i32_eq, iI_t (by omega), iI_t (by omega)]
          by_cases c3 : cs = mt_sg (u + v + w)
          · rw [if_pos (hcq.mpr c3), if_pos ⟨hs, hT, c2, c3⟩, Int32.ofInt_add]
          · rw [if_neg (fun z => c3 (hcq.mp z)), if_neg (fun z => c3 z.2.2.2)]
        · rw [if_pos (hge.mpr c2), if_neg (fun z => c2 z.2.2.1)]
    · have hnt : ¬ ((u + v + w = 0 ∧ (u = 0 ∧ v = 0 ∧ w = 0) ∧ mt_rz (sx - x) (bx - x) (ex - x) ∧ mt_rz (sy - y) (b2 - y) (ey - y)) ∨ (u + v + w ≠ 0 ∧ mt_tri u v w ∧ v * v = 4 * (u * w))) := by
        rintro (⟨h, _⟩ | ⟨_, h, _⟩)
        · exact hs h
        · exact hT h
      refine ⟨fun h => absurd h hnt, fun _ => ?_⟩
      rw [if_neg (c := u + v + w ≠ 0 ∧ ((0 ≤ u ∧ 0 ≤ v ∧ 0 ≤ w) ∨ (u ≤ 0 ∧ v ≤ 0 ∧ w ≤ 0)) ∧ v * v < 4 * (u * w) ∧ cs = mt_sg (u + v + w)) (fun z => hT z.2.1)]
      by_cases t1 : mt_sg (u + v + w) * u < 0
      · rw [if_pos (l1.mpr t1)]
      · rw [if_neg (fun z => t1 (l1.mp z))]
        by_cases t2 : mt_sg (u + v + w) * v < 0
        · rw [if_pos (l2.mpr t2)]
        · rw [if_neg (fun z => t2 (l2.mp z)), if_neg (fun z => hT (ht.mpr ⟨t1, t2, by have := l3.mp z; omega⟩))]
theorem ka_turns_i {sx sy bx b2 ex ey x y : Int} (h1 : -40000 ≤ sx ∧ sx ≤ 40000) (h2 : -40000 ≤ sy ∧ sy ≤ 40000) (h3 : -40000 ≤ bx ∧ bx ≤ 40000) (h4 : -40000 ≤ b2 ∧ b2 ≤ 40000) (h5 : -40000 ≤ ex ∧ ex ≤ 40000) (h6 : -40000 ≤ ey ∧ ey ≤ 40000) (hx : -40000 ≤ x ∧ x ≤ 40000) (hy : -40000 ≤ y ∧ y ≤ 40000) :
    (mt_touch (sx - x) (sy - y) (bx - x) (b2 - y) (ex - x) (ey - y) → ka_turns (Int32.ofInt sx) (Int32.ofInt sy) (Int32.ofInt bx) (Int32.ofInt b2) (Int32.ofInt ex) (Int32.ofInt ey) (Int32.ofInt x) (Int32.ofInt y) = 1000) ∧
    (¬ mt_touch (sx - x) (sy - y) (bx - x) (b2 - y) (ex - x) (ey - y) → ka_turns (Int32.ofInt sx) (Int32.ofInt sy) (Int32.ofInt bx) (Int32.ofInt b2) (Int32.ofInt ex) (Int32.ofInt ey) (Int32.ofInt x) (Int32.ofInt y) = Int32.ofInt (mt_kb ((bx - x) * (ey - y) - (ex - x) * (b2 - y)) ((ex - x) * (sy - y) - (sx - x) * (ey - y)) ((sx - x) * (b2 - y) - (bx - x) * (sy - y)) (sx - x) (sy - y) (ex - x) (ey - y))) := by
  have early := fun h => mt_early (i := sx - x) (p := sy - y) (j := bx - x) (q := b2 - y) (k := ex - x) (r := ey - y) rfl rfl rfl h
  unfold ka_turns
  have em := ka_may_i (Int32.ofInt sx) (Int32.ofInt sy) (Int32.ofInt bx) (Int32.ofInt b2) (Int32.ofInt ex) (Int32.ofInt ey) (Int32.ofInt y)
  rw [iI_t (by omega), iI_t (by omega), iI_t (by omega), iI_t (by omega)] at em
  by_cases c0 : ka_may (Int32.ofInt sx) (Int32.ofInt sy) (Int32.ofInt bx) (Int32.ofInt b2) (Int32.ofInt ex) (Int32.ofInt ey) (Int32.ofInt y) = 0
  · rw [if_pos c0]
    have hm := em.mp c0
    obtain ⟨k1, k2⟩ := early (by omega)
    rw [k2]
    exact ⟨fun t => absurd t k1, fun _ => by decide⟩
  · rw [if_neg c0]
    have e2 := jmax_t (Int32.ofInt sx) (if Int32.ofInt bx < Int32.ofInt ex then Int32.ofInt ex else Int32.ofInt bx)
    rw [jmax_t (Int32.ofInt bx) (Int32.ofInt ex), iI_t (by omega), iI_t (by omega), iI_t (by omega)] at e2
    generalize (if Int32.ofInt sx < (if Int32.ofInt bx < Int32.ofInt ex then Int32.ofInt ex else Int32.ofInt bx) then (if Int32.ofInt bx < Int32.ofInt ex then Int32.ofInt ex else Int32.ofInt bx) else Int32.ofInt sx) = mx at e2 ⊢
    have e3 : Int32.ofInt x ≤ mx ↔ x ≤ max sx (max bx ex) := by rw [i32_le, e2, iI_t (by omega)]
    by_cases c1 : Int32.ofInt x ≤ mx
    · rw [if_pos c1, rel_i h1 hx, rel_i h3 hx, rel_i h5 hx, rel_i h2 hy, rel_i h4 hy, rel_i h6 hy, ka_turn_i, ka_turn_i, ka_turn_i]
      have cu : (bx - x) * (ey - y) - (b2 - y) * (ex - x) = (bx - x) * (ey - y) - (ex - x) * (b2 - y) := by rw [Int.mul_comm (b2 - y)]
      have cv : (ex - x) * (sy - y) - (ey - y) * (sx - x) = (ex - x) * (sy - y) - (sx - x) * (ey - y) := by rw [Int.mul_comm (ey - y)]
      have cw : (sx - x) * (b2 - y) - (sy - y) * (bx - x) = (sx - x) * (b2 - y) - (bx - x) * (sy - y) := by rw [Int.mul_comm (sy - y)]
      rw [cu, cv, cw]
      have b1 := mt_bd (a := bx - x) (b := ey - y) (A := 80000) (B := 80000) (by omega) (by omega)
      have b2' := mt_bd (a := ex - x) (b := b2 - y) (A := 80000) (B := 80000) (by omega) (by omega)
      have b3 := mt_bd (a := ex - x) (b := sy - y) (A := 80000) (B := 80000) (by omega) (by omega)
      have b4 := mt_bd (a := sx - x) (b := ey - y) (A := 80000) (B := 80000) (by omega) (by omega)
      have b5 := mt_bd (a := sx - x) (b := b2 - y) (A := 80000) (B := 80000) (by omega) (by omega)
      have b6 := mt_bd (a := bx - x) (b := sy - y) (A := 80000) (B := 80000) (by omega) (by omega)
      have hcs := cs_b ((ex - x) * (sy - y) - (sx - x) * (ey - y)) (sx - x) (sy - y) (ex - x) (ey - y)
      rw [ka_side_i (x := x) (y := y) h1 h2 h5 h6 (by omega), ka_share_i h2 h6 hy hcs, ← Int64.ofInt_add, ← Int64.ofInt_add, jl_sg (by omega)]
      have := ka_k160_i (u := (bx - x) * (ey - y) - (ex - x) * (b2 - y)) (v := (ex - x) * (sy - y) - (sx - x) * (ey - y)) (w := (sx - x) * (b2 - y) - (bx - x) * (sy - y)) (sh := mt_sh (mt_cs ((ex - x) * (sy - y) - (sx - x) * (ey - y)) (sx - x) (sy - y) (ex - x) (ey - y)) (sy - y) (ey - y)) h1 h2 h3 h4 h5 h6 hx hy (by omega) (by omega) (by omega) hcs
      exact ⟨this.1, fun h => this.2 h⟩
    · rw [if_neg c1]
      have hm : ¬ x ≤ max sx (max bx ex) := fun z => c1 (e3.mpr z)
      obtain ⟨k1, k2⟩ := early (by omega)
      rw [k2]
      exact ⟨fun t => absurd t k1, fun _ => by decide⟩
