def mt_kb (u v w i p k r : Int) : Int := if u + v + w ≠ 0 ∧ ((0 ≤ u ∧ 0 ≤ v ∧ 0 ≤ w) ∨ (u ≤ 0 ∧ v ≤ 0 ∧ w ≤ 0)) ∧ v * v < 4 * (u * w) ∧ mt_cs v i p k r = mt_sg (u + v + w) then mt_sh (mt_cs v i p k r) p r + mt_sg (u + v + w) else mt_sh (mt_cs v i p k r) p r
def mt_rturn (u v w p q r : Int) : Int :=
  if 0 ≤ p then (if 0 ≤ r then (if q < 0 ∧ p * r < q * q then (if 0 < mt_S u v w p q r (-1) then -1 else 0) + (if 0 < mt_S u v w p q r 1 then 1 else 0) else 0) else (if 0 < mt_S u v w p q r (-1) then -1 else 0))
  else (if 0 ≤ r then (if 0 < mt_S u v w p q r 1 then 1 else 0) else (if 0 < q ∧ p * r < q * q then (if 0 < mt_S u v w p q r 1 then 1 else 0) + (if 0 < mt_S u v w p q r (-1) then -1 else 0) else 0))
def mt_rok (u v w p q r : Int) : Prop := (0 ≤ p → r < 0 → mt_S u v w p q r (-1) ≠ 0) ∧ (p < 0 → 0 ≤ r → mt_S u v w p q r 1 ≠ 0) ∧ (0 ≤ p → 0 ≤ r → q < 0 → p * r < q * q → mt_S u v w p q r (-1) ≠ 0 ∧ mt_S u v w p q r 1 ≠ 0) ∧ (p < 0 → r < 0 → 0 < q → p * r < q * q → mt_S u v w p q r 1 ≠ 0 ∧ mt_S u v w p q r (-1) ≠ 0)
theorem mt_kb_pos {u v w i p k r : Int} (h : v * v < 4 * (u * w)) (hu : 0 < u) (hw : 0 < w) (hs : 0 < u + v + w) : mt_kb u v w i p k r = if 0 ≤ v ∧ mt_cs v i p k r = 1 then mt_sh (mt_cs v i p k r) p r + 1 else mt_sh (mt_cs v i p k r) p r := by
  unfold mt_kb
  rw [mt_sg_p hs]
  by_cases c : 0 ≤ v ∧ mt_cs v i p k r = 1
  · rw [if_pos c, if_pos ⟨by omega, Or.inl ⟨by omega, c.1, by omega⟩, h, c.2⟩]
  · rw [if_neg c, if_neg]
    rintro ⟨_, a, _, b⟩
    exact c ⟨by omega, b⟩
theorem mt_kb_neg {u v w i p k r : Int} (h : v * v < 4 * (u * w)) (hu : u < 0) (hw : w < 0) (hs : u + v + w < 0) : mt_kb u v w i p k r = if v ≤ 0 ∧ mt_cs v i p k r = -1 then mt_sh (mt_cs v i p k r) p r + -1 else mt_sh (mt_cs v i p k r) p r := by
  unfold mt_kb
  rw [mt_sg_n hs]
  by_cases c : v ≤ 0 ∧ mt_cs v i p k r = -1
  · rw [if_pos c, if_pos ⟨by omega, Or.inr ⟨by omega, c.1, by omega⟩, h, c.2⟩]
  · rw [if_neg c, if_neg]
    rintro ⟨_, a, _, b⟩
    exact c ⟨by omega, b⟩
theorem mt_kb_out {u v w i p k r : Int} (h : ¬ v * v < 4 * (u * w)) : mt_kb u v w i p k r = mt_sh (mt_cs v i p k r) p r := by
  unfold mt_kb
  rw [if_neg]
  rintro ⟨_, _, a, _⟩
  exact h a
theorem mt_main {u v w i p j q k r : Int} (eu : u = j * r - k * q) (ev : v = k * p - i * r) (ew : w = i * q - j * p) (ht : ¬ mt_tch u v w i p j q k r) : mt_rok u v w p q r ∧ mt_rturn u v w p q r = mt_kb u v w i p k r := by
  have h0 : u * p + v * q + w * r = 0 := by subst eu ev ew; grind
  have h0' : u * (-p) + v * (-q) + w * (-r) = 0 := by grind
  have hn : u + v + w ≠ 0 → v * v = 4 * (u * w) → ¬ ((0 ≤ u ∧ 0 ≤ v ∧ 0 ≤ w) ∨ (u ≤ 0 ∧ v ≤ 0 ∧ w ≤ 0)) := fun a b c => ht (Or.inr ⟨a, c, b⟩)
  have hz : (mt_rz i j k ∧ mt_rz p q r) → ¬ (u = 0 ∧ v = 0 ∧ w = 0) := fun a b => ht (Or.inl ⟨by omega, b, a⟩)
  by_cases hp : 0 ≤ p
  · by_cases hr : 0 ≤ r
    · have hpr : 0 ≤ p ↔ 0 ≤ r := ⟨fun _ => hr, fun _ => hp⟩
      have hsh : ∀ c, mt_sh c p r = 0 := fun c => by unfold mt_sh; rw [if_pos hpr]
      by_cases hc : q < 0 ∧ p * r < q * q
      · have hz' : ¬ (u = 0 ∧ v = 0 ∧ w = 0) := fun a => hz (mt_Z2 hp hr hc.1 hc.2 (by omega) (by omega)) a
        have hcc : mt_cond p q r := by unfold mt_cond; rw [if_pos hp]; exact hc
        obtain ⟨t1, t2, t3⟩ := mt_T2 (dn := 1) h0 hp hr hc.1 hc.2 (Or.inl rfl) hz' hn
        obtain ⟨_, t5, t6⟩ := mt_T2 (dn := -1) h0 hp hr hc.1 hc.2 (Or.inr rfl) hz' hn
        have hT : mt_rturn u v w p q r = (if 0 < mt_S u v w p q r (-1) then -1 else 0) + (if 0 < mt_S u v w p q r 1 then 1 else 0) := by
          unfold mt_rturn; rw [if_pos hp, if_pos hr, if_pos hc]
        have hO : mt_S u v w p q r (-1) ≠ 0 → mt_S u v w p q r 1 ≠ 0 → mt_rok u v w p q r := fun a b =>
          ⟨fun _ h => absurd hr (by omega), fun h _ => absurd hp (by omega), fun _ _ _ _ => ⟨a, b⟩, fun h _ _ _ => absurd hp (by omega)⟩
        rcases Int.lt_or_gt_of_ne t1 with hR | hR
        · have e1 := t2 hR
          have e2 := t5 hR
          rcases mt_neg hR with ⟨a1, a2, a3⟩ | ⟨a1, a2, a3⟩
          · rw [mt_sg_p a3] at e1 e2
            obtain ⟨b1, b2⟩ := mt_L2 eu ew h0 hpr a1 a2 hcc
            rw [hT, mt_kb_pos hR a1 a2 a3, if_pos (show 0 ≤ v ∧ mt_cs v i p k r = 1 from ⟨b1, b2⟩), hsh, e1, e2]
            exact ⟨hO (by omega) (by omega), by decide⟩
          · rw [mt_sg_n a3] at e1 e2
            obtain ⟨b1, b2⟩ := mt_L2 (u := -u) (v := -v) (w := -w) (i := -i) (j := -j) (k := -k) (p := p) (q := q) (r := r) (by grind) (by grind) (by grind) hpr (by omega) (by omega) hcc
            have b3 : mt_cs v i p k r = -1 := by
              have : v ≠ 0 ∨ r = p := by
                by_cases hv0 : v = 0
                · right
                  subst hv0
                  rw [Int.zero_mul] at h0
                  have c1 := Int.mul_nonpos_of_nonpos_of_nonneg (Int.le_of_lt a1) hp
                  have c2 := Int.mul_nonpos_of_nonpos_of_nonneg (Int.le_of_lt a2) hr
                  have p0 : p = 0 := by
                    rcases Int.mul_eq_zero.mp (show u * p = 0 by omega) with h | h <;> omega
                  have r0 : r = 0 := by
                    rcases Int.mul_eq_zero.mp (show w * r = 0 by omega) with h | h <;> omega
                  omega
                · exact Or.inl hv0
              rw [mt_cs_neg v i p k r this] at b2
              omega
            rw [hT, mt_kb_neg hR a1 a2 a3, if_pos (show v ≤ 0 ∧ mt_cs v i p k r = -1 from ⟨by omega, b3⟩), hsh, e1, e2]
            exact ⟨hO (by omega) (by omega), by decide⟩
        · obtain ⟨g0, e1⟩ := t3 hR
          obtain ⟨_, e2⟩ := t6 hR
          rw [hT, mt_kb_out (by omega), hsh, e1, e2]
          rcases mt_sg_c (2 * u * (p - q) + v * (p - r) + 2 * w * (q - r)) with ⟨a, b⟩ | ⟨a, b⟩ | ⟨a, b⟩
          · rw [b]; exact ⟨hO (by omega) (by omega), by decide⟩
          · exact absurd a g0
          · rw [b]; exact ⟨hO (by omega) (by omega), by decide⟩
      · have hcc : ¬ mt_cond p q r := by unfold mt_cond; rw [if_pos hp]; exact hc
        have hT : mt_rturn u v w p q r = 0 := by unfold mt_rturn; rw [if_pos hp, if_pos hr, if_neg hc]
        refine ⟨⟨fun _ h => absurd hr (by omega), fun h _ => absurd hp (by omega), fun _ _ a b => absurd ⟨a, b⟩ hc, fun h _ _ _ => absurd hp (by omega)⟩, ?_⟩
        rw [hT]
        by_cases hR : v * v < 4 * (u * w)
        · rcases mt_neg hR with ⟨a1, a2, a3⟩ | ⟨a1, a2, a3⟩
          · rw [mt_kb_pos hR a1 a2 a3, if_neg, hsh]
            rintro ⟨b1, b2⟩
            exact hcc (mt_L1 eu ew h0 hpr hR a1 a2 b1 b2)
          · rw [mt_kb_neg hR a1 a2 a3, if_neg, hsh]
            rintro ⟨b1, b2⟩
            have : v ≠ 0 ∨ r = p := by
              by_cases hv0 : v = 0
              · right
                subst hv0
                rw [Int.zero_mul] at h0
                have c1 := Int.mul_nonpos_of_nonpos_of_nonneg (Int.le_of_lt a1) hp
                have c2 := Int.mul_nonpos_of_nonpos_of_nonneg (Int.le_of_lt a2) hr
                have p0 : p = 0 := by
                  rcases Int.mul_eq_zero.mp (show u * p = 0 by omega) with h | h <;> omega
                have r0 : r = 0 := by
                  rcases Int.mul_eq_zero.mp (show w * r = 0 by omega) with h | h <;> omega
                omega
              · exact Or.inl hv0
            exact hcc (mt_L1 (u := -u) (v := -v) (w := -w) (i := -i) (j := -j) (k := -k) (by grind) (by grind) (by grind) hpr (by rw [Int.neg_mul_neg, Int.neg_mul_neg]; exact hR) (by omega) (by omega) (by omega) (by rw [mt_cs_neg v i p k r this]; omega))
        · rw [mt_kb_out hR, hsh]
    · -- p ≥ 0 > r
      have hz' : ¬ (u = 0 ∧ v = 0 ∧ w = 0) := fun a => hz (mt_Z1 j q hp (by omega) (by omega) (by omega)) a
      obtain ⟨t1, t2⟩ := mt_T1 h0 hp (by omega) (by omega) hz' hn
      have hT : mt_rturn u v w p q r = (if 0 < mt_S u v w p q r (-1) then -1 else 0) := by
        unfold mt_rturn; rw [if_pos hp, if_neg hr]
      have hO : mt_S u v w p q r (-1) ≠ 0 → mt_rok u v w p q r := fun a =>
        ⟨fun _ _ => a, fun h _ => absurd hp (by omega), fun _ h => absurd h hr, fun h _ _ _ => absurd hp (by omega)⟩
      have hsh : ∀ c, mt_sh c p r = if 0 < c then -1 else 0 := fun c => by
        unfold mt_sh; rw [if_neg (fun h => hr (h.mp hp)), if_neg hr]
      rw [hT]
      by_cases hR : v * v < 4 * (u * w)
      · have e := t1 hR
        rcases mt_neg hR with ⟨a1, a2, a3⟩ | ⟨a1, a2, a3⟩
        · rw [mt_sg_p a3] at e
          rw [mt_kb_pos hR a1 a2 a3, hsh, e]
          refine ⟨hO (by omega), ?_⟩
          rcases mt_sg_c v with ⟨b1, b2⟩ | ⟨b1, b2⟩ | ⟨b1, b2⟩
          · have hcs : mt_cs v i p k r = -1 := by unfold mt_cs; rw [if_pos (show v ≠ 0 by omega), b2]
            rw [hcs]; (repeat' split) <;> omega
          · have hcs : mt_cs v i p k r = -1 := by unfold mt_cs; rw [if_neg (show ¬ v ≠ 0 by omega), if_pos (show r ≠ p by omega), mt_sg_n (by omega)]
            rw [hcs]; (repeat' split) <;> omega
          · have hcs : mt_cs v i p k r = 1 := by unfold mt_cs; rw [if_pos (show v ≠ 0 by omega), b2]
            rw [hcs]; (repeat' split) <;> omega
        · rw [mt_sg_n a3] at e
          rw [mt_kb_neg hR a1 a2 a3, hsh, e]
          refine ⟨hO (by omega), ?_⟩
          rcases mt_sg_c v with ⟨b1, b2⟩ | ⟨b1, b2⟩ | ⟨b1, b2⟩
          · have hcs : mt_cs v i p k r = -1 := by unfold mt_cs; rw [if_pos (show v ≠ 0 by omega), b2]
            rw [hcs]; (repeat' split) <;> omega
          · have hcs : mt_cs v i p k r = -1 := by unfold mt_cs; rw [if_neg (show ¬ v ≠ 0 by omega), if_pos (show r ≠ p by omega), mt_sg_n (by omega)]
            rw [hcs]; (repeat' split) <;> omega
          · have hcs : mt_cs v i p k r = 1 := by unfold mt_cs; rw [if_pos (show v ≠ 0 by omega), b2]
            rw [hcs]; (repeat' split) <;> omega
      · obtain ⟨hv, e⟩ := t2 (by omega)
        rw [mt_kb_out hR, hsh, e]
        unfold mt_cs
        rw [if_pos hv]
        refine ⟨hO ?_, rfl⟩
        rw [e]
        rcases mt_sg_c v with ⟨b1, b2⟩ | ⟨b1, b2⟩ | ⟨b1, b2⟩ <;> omega
  · by_cases hr : 0 ≤ r
    · -- p < 0 ≤ r
      have hz' : ¬ (u = 0 ∧ v = 0 ∧ w = 0) := fun a => hz (by
        obtain ⟨c1, c2⟩ := mt_Z1 (i := -i) (k := -k) (p := -p) (r := -r) (-j) (-q) (by omega) (by omega) (by omega) (by rw [Int.neg_mul_neg, Int.neg_mul_neg]; omega)
        exact ⟨mt_rz_neg c1, mt_rz_neg c2⟩) a
      obtain ⟨t1, t2⟩ := mt_T1 h0' (by omega) (by omega) (by omega) hz' hn
      have ho : mt_S u v w (-p) (-q) (-r) (-1) = -mt_S u v w p q r 1 := mt_S_odd u v w p q r 1
      rw [ho] at t1 t2
      have hT : mt_rturn u v w p q r = (if 0 < mt_S u v w p q r 1 then 1 else 0) := by
        unfold mt_rturn; rw [if_neg hp, if_pos hr]
      have hO : mt_S u v w p q r 1 ≠ 0 → mt_rok u v w p q r := fun a =>
        ⟨fun h _ => absurd h hp, fun _ _ => a, fun h => absurd h hp, fun _ h _ _ => absurd hr (by omega)⟩
      have hsh : ∀ c, mt_sh c p r = if c < 0 then 1 else 0 := fun c => by
        unfold mt_sh; rw [if_neg (fun h => hp (h.mpr hr)), if_pos hr]
      rw [hT]
      by_cases hR : v * v < 4 * (u * w)
      · have e := t1 hR
        rcases mt_neg hR with ⟨a1, a2, a3⟩ | ⟨a1, a2, a3⟩
        · rw [mt_sg_p a3] at e
          have e : mt_S u v w p q r 1 = 1 := by omega
          rw [mt_kb_pos hR a1 a2 a3, hsh, e]
          refine ⟨hO (by omega), ?_⟩
          rcases mt_sg_c v with ⟨b1, b2⟩ | ⟨b1, b2⟩ | ⟨b1, b2⟩
          · have hcs : mt_cs v i p k r = -1 := by unfold mt_cs; rw [if_pos (show v ≠ 0 by omega), b2]
            rw [hcs]; (repeat' split) <;> omega
          · have hcs : mt_cs v i p k r = 1 := by unfold mt_cs; rw [if_neg (show ¬ v ≠ 0 by omega), if_pos (show r ≠ p by omega), mt_sg_p (by omega)]
            rw [hcs]; (repeat' split) <;> omega
          · have hcs : mt_cs v i p k r = 1 := by unfold mt_cs; rw [if_pos (show v ≠ 0 by omega), b2]
            rw [hcs]; (repeat' split) <;> omega
        · rw [mt_sg_n a3] at e
          have e : mt_S u v w p q r 1 = -1 := by omega
          rw [mt_kb_neg hR a1 a2 a3, hsh, e]
          refine ⟨hO (by omega), ?_⟩
          rcases mt_sg_c v with ⟨b1, b2⟩ | ⟨b1, b2⟩ | ⟨b1, b2⟩
          · have hcs : mt_cs v i p k r = -1 := by unfold mt_cs; rw [if_pos (show v ≠ 0 by omega), b2]
            rw [hcs]; (repeat' split) <;> omega
          · have hcs : mt_cs v i p k r = 1 := by unfold mt_cs; rw [if_neg (show ¬ v ≠ 0 by omega), if_pos (show r ≠ p by omega), mt_sg_p (by omega)]
            rw [hcs]; (repeat' split) <;> omega
          · have hcs : mt_cs v i p k r = 1 := by unfold mt_cs; rw [if_pos (show v ≠ 0 by omega), b2]
            rw [hcs]; (repeat' split) <;> omega
      · obtain ⟨hv, e⟩ := t2 (by omega)
        have e : mt_S u v w p q r 1 = -mt_sg v := by omega
        rw [mt_kb_out hR, hsh, e]
        unfold mt_cs
        rw [if_pos hv]
        rcases mt_sg_c v with ⟨b1, b2⟩ | ⟨b1, b2⟩ | ⟨b1, b2⟩
        · rw [b2]; exact ⟨hO (by omega), by decide⟩
        · exact absurd b1 hv
        · rw [b2]; exact ⟨hO (by omega), by decide⟩
    · -- both < 0
      have hpr : 0 ≤ p ↔ 0 ≤ r := ⟨fun h => absurd h hp, fun h => absurd h hr⟩
      have hsh : ∀ c, mt_sh c p r = 0 := fun c => by unfold mt_sh; rw [if_pos hpr]
      have hvn : (0 < u ∧ 0 < w) ∨ (u < 0 ∧ w < 0) → v ≠ 0 := by
        rintro (⟨a1, a2⟩ | ⟨a1, a2⟩) hv0
        · subst hv0
          rw [Int.zero_mul] at h0
          have c1 := Int.mul_neg_of_pos_of_neg a1 (show p < 0 by omega)
          have c2 := Int.mul_neg_of_pos_of_neg a2 (show r < 0 by omega)
          omega
        · subst hv0
          rw [Int.zero_mul] at h0
          have c1 := Int.mul_pos_of_neg_of_neg a1 (show p < 0 by omega)
          have c2 := Int.mul_pos_of_neg_of_neg a2 (show r < 0 by omega)
          omega
      by_cases hc : 0 < q ∧ p * r < q * q
      · have hz' : ¬ (u = 0 ∧ v = 0 ∧ w = 0) := fun a => hz (by
          obtain ⟨c1, c2⟩ := mt_Z2 (i := -i) (j := -j) (k := -k) (p := -p) (q := -q) (r := -r) (by omega) (by omega) (by omega) (by rw [Int.neg_mul_neg, Int.neg_mul_neg]; exact hc.2) (by rw [Int.neg_mul_neg, Int.neg_mul_neg]; omega) (by rw [Int.neg_mul_neg, Int.neg_mul_neg]; omega)
          exact ⟨mt_rz_neg c1, mt_rz_neg c2⟩) a
        have hcc : mt_cond p q r := by unfold mt_cond; rw [if_neg hp]; exact hc
        have hqq : (-p) * (-r) < (-q) * (-q) := by rw [Int.neg_mul_neg, Int.neg_mul_neg]; exact hc.2
        obtain ⟨t1, t2, t3⟩ := mt_T2 (dn := 1) h0' (by omega) (by omega) (by omega) hqq (Or.inl rfl) hz' hn
        obtain ⟨_, t5, t6⟩ := mt_T2 (dn := -1) h0' (by omega) (by omega) (by omega) hqq (Or.inr rfl) hz' hn
        have o1 : mt_S u v w (-p) (-q) (-r) (-1) = -mt_S u v w p q r 1 := mt_S_odd u v w p q r 1
        have o2 : mt_S u v w (-p) (-q) (-r) 1 = -mt_S u v w p q r (-1) := by
          have := mt_S_odd u v w p q r (-1)
          rw [show -(-1 : Int) = 1 by decide] at this
          exact this
        rw [o2] at t2 t3
        rw [o1] at t5 t6
        have hT : mt_rturn u v w p q r = (if 0 < mt_S u v w p q r 1 then 1 else 0) + (if 0 < mt_S u v w p q r (-1) then -1 else 0) := by
          unfold mt_rturn; rw [if_neg hp, if_neg hr, if_pos hc]
        have hO : mt_S u v w p q r 1 ≠ 0 → mt_S u v w p q r (-1) ≠ 0 → mt_rok u v w p q r := fun a b =>
          ⟨fun h _ => absurd h hp, fun _ h => absurd h hr, fun h => absurd h hp, fun _ _ _ _ => ⟨a, b⟩⟩
        rcases Int.lt_or_gt_of_ne t1 with hR | hR
        · have e2 := t2 hR
          have e1 := t5 hR
          rcases mt_neg hR with ⟨a1, a2, a3⟩ | ⟨a1, a2, a3⟩
          · rw [mt_sg_p a3] at e1 e2
            have e1 : mt_S u v w p q r 1 = 1 := by omega
            have e2 : mt_S u v w p q r (-1) = -1 := by omega
            obtain ⟨b1, b2⟩ := mt_L2 eu ew h0 hpr a1 a2 hcc
            rw [hT, mt_kb_pos hR a1 a2 a3, if_pos (show 0 ≤ v ∧ mt_cs v i p k r = 1 from ⟨b1, b2⟩), hsh, e1, e2]
            exact ⟨hO (by omega) (by omega), by decide⟩
          · rw [mt_sg_n a3] at e1 e2
            have e1 : mt_S u v w p q r 1 = -1 := by omega
            have e2 : mt_S u v w p q r (-1) = 1 := by omega
            obtain ⟨b1, b2⟩ := mt_L2 (u := -u) (v := -v) (w := -w) (i := -i) (j := -j) (k := -k) (p := p) (q := q) (r := r) (by grind) (by grind) (by grind) hpr (by omega) (by omega) hcc
            have b3 : mt_cs v i p k r = -1 := by
              rw [mt_cs_neg v i p k r (Or.inl (hvn (Or.inr ⟨a1, a2⟩)))] at b2
              omega
            rw [hT, mt_kb_neg hR a1 a2 a3, if_pos (show v ≤ 0 ∧ mt_cs v i p k r = -1 from ⟨by omega, b3⟩), hsh, e1, e2]
            exact ⟨hO (by omega) (by omega), by decide⟩
        · obtain ⟨g0, e2⟩ := t3 hR
          obtain ⟨_, e1⟩ := t6 hR
          rw [hT, mt_kb_out (by omega), hsh]
          rcases mt_sg_c (2 * u * (-p - -q) + v * (-p - -r) + 2 * w * (-q - -r)) with ⟨a, b⟩ | ⟨a, b⟩ | ⟨a, b⟩
          · rw [b] at e1 e2
            have e1 : mt_S u v w p q r 1 = 1 := by omega
            have e2 : mt_S u v w p q r (-1) = 1 := by omega
            rw [e1, e2]
            exact ⟨hO (by omega) (by omega), by decide⟩
          · exact absurd a g0
          · rw [b] at e1 e2
            have e1 : mt_S u v w p q r 1 = -1 := by omega
            have e2 : mt_S u v w p q r (-1) = -1 := by omega
            rw [e1, e2]
            exact ⟨hO (by omega) (by omega), by decide⟩
      · have hcc : ¬ mt_cond p q r := by unfold mt_cond; rw [if_neg hp]; exact hc
        have hT : mt_rturn u v w p q r = 0 := by unfold mt_rturn; rw [if_neg hp, if_neg hr, if_neg hc]
        refine ⟨⟨fun h _ => absurd h hp, fun _ h => absurd h hr, fun h => absurd h hp, fun _ _ a b => absurd ⟨a, b⟩ hc⟩, ?_⟩
        rw [hT]
        by_cases hR : v * v < 4 * (u * w)
        · rcases mt_neg hR with ⟨a1, a2, a3⟩ | ⟨a1, a2, a3⟩
          · rw [mt_kb_pos hR a1 a2 a3, if_neg, hsh]
            rintro ⟨b1, b2⟩
            exact hcc (mt_L1 eu ew h0 hpr hR a1 a2 b1 b2)
          · rw [mt_kb_neg hR a1 a2 a3, if_neg, hsh]
            rintro ⟨b1, b2⟩
            exact hcc (mt_L1 (u := -u) (v := -v) (w := -w) (i := -i) (j := -j) (k := -k) (by grind) (by grind) (by grind) hpr (by rw [Int.neg_mul_neg, Int.neg_mul_neg]; exact hR) (by omega) (by omega) (by omega) (by rw [mt_cs_neg v i p k r (Or.inl (hvn (Or.inr ⟨a1, a2⟩)))]; omega))
        · rw [mt_kb_out hR, hsh]
/-- the class's early answers: the place is left and right of nothing -/
theorem mt_same {u v w i j k : Int} (h0 : u * i + v * j + w * k = 0) (h : mt_tri u v w) (hi : (0 < i ∧ 0 < j ∧ 0 < k) ∨ (i < 0 ∧ j < 0 ∧ k < 0)) : u = 0 ∧ v = 0 ∧ w = 0 := by
  rcases h with ⟨a1, a2, a3⟩ | ⟨a1, a2, a3⟩ <;> rcases hi with ⟨b1, b2, b3⟩ | ⟨b1, b2, b3⟩
  · have c1 := Int.mul_nonneg a1 (Int.le_of_lt b1)
    have c2 := Int.mul_nonneg a2 (Int.le_of_lt b2)
    have c3 := Int.mul_nonneg a3 (Int.le_of_lt b3)
    refine ⟨?_, ?_, ?_⟩
    · rcases Int.mul_eq_zero.mp (show u * i = 0 by omega) with h | h <;> omega
    · rcases Int.mul_eq_zero.mp (show v * j = 0 by omega) with h | h <;> omega
    · rcases Int.mul_eq_zero.mp (show w * k = 0 by omega) with h | h <;> omega
  · have c1 := Int.mul_nonpos_of_nonneg_of_nonpos a1 (Int.le_of_lt b1)
    have c2 := Int.mul_nonpos_of_nonneg_of_nonpos a2 (Int.le_of_lt b2)
    have c3 := Int.mul_nonpos_of_nonneg_of_nonpos a3 (Int.le_of_lt b3)
    refine ⟨?_, ?_, ?_⟩
    · rcases Int.mul_eq_zero.mp (show u * i = 0 by omega) with h | h <;> omega
    · rcases Int.mul_eq_zero.mp (show v * j = 0 by omega) with h | h <;> omega
    · rcases Int.mul_eq_zero.mp (show w * k = 0 by omega) with h | h <;> omega
  · have c1 := Int.mul_nonpos_of_nonpos_of_nonneg a1 (Int.le_of_lt b1)
    have c2 := Int.mul_nonpos_of_nonpos_of_nonneg a2 (Int.le_of_lt b2)
    have c3 := Int.mul_nonpos_of_nonpos_of_nonneg a3 (Int.le_of_lt b3)
    refine ⟨?_, ?_, ?_⟩
    · rcases Int.mul_eq_zero.mp (show u * i = 0 by omega) with h | h <;> omega
    · rcases Int.mul_eq_zero.mp (show v * j = 0 by omega) with h | h <;> omega
    · rcases Int.mul_eq_zero.mp (show w * k = 0 by omega) with h | h <;> omega
  · have c1 := Int.mul_nonneg_of_nonpos_of_nonpos a1 (Int.le_of_lt b1)
    have c2 := Int.mul_nonneg_of_nonpos_of_nonpos a2 (Int.le_of_lt b2)
    have c3 := Int.mul_nonneg_of_nonpos_of_nonpos a3 (Int.le_of_lt b3)
    refine ⟨?_, ?_, ?_⟩
    · rcases Int.mul_eq_zero.mp (show u * i = 0 by omega) with h | h <;> omega
    · rcases Int.mul_eq_zero.mp (show v * j = 0 by omega) with h | h <;> omega
    · rcases Int.mul_eq_zero.mp (show w * k = 0 by omega) with h | h <;> omega
theorem mt_rz_same {p q r : Int} (h : (0 < p ∧ 0 < q ∧ 0 < r) ∨ (p < 0 ∧ q < 0 ∧ r < 0)) : ¬ mt_rz p q r := by
  unfold mt_rz
  rcases h with ⟨b1, b2, b3⟩ | ⟨b1, b2, b3⟩
  · rw [mt_sg_p b1, mt_sg_p b2, mt_sg_p b3]; omega
  · rw [mt_sg_n b1, mt_sg_n b2, mt_sg_n b3]; omega
theorem mt_early {u v w i p j q k r : Int} (eu : u = j * r - k * q) (ev : v = k * p - i * r) (ew : w = i * q - j * p) (h : (0 < p ∧ 0 < q ∧ 0 < r) ∨ (p < 0 ∧ q < 0 ∧ r < 0) ∨ (i < 0 ∧ j < 0 ∧ k < 0)) : ¬ mt_tch u v w i p j q k r ∧ mt_kb u v w i p k r = 0 := by
  have h0 : u * p + v * q + w * r = 0 := by subst eu ev ew; grind
  have h1 : u * i + v * j + w * k = 0 := by subst eu ev ew; grind
  have hnz : u + v + w ≠ 0 → ¬ mt_tri u v w := by
    intro hs ht
    have hz : u = 0 ∧ v = 0 ∧ w = 0 := by
      rcases h with h | h | h
      · exact mt_same h0 ht (Or.inl h)
      · exact mt_same h0 ht (Or.inr h)
      · exact mt_same h1 ht (Or.inr h)
    omega
  constructor
  · rintro (⟨_, _, a, b⟩ | ⟨hs, ht, _⟩)
    · rcases h with h | h | h
      · exact mt_rz_same (Or.inl h) b
      · exact mt_rz_same (Or.inr h) b
      · exact mt_rz_same (Or.inr h) a
    · exact hnz hs ht
  · have e : mt_kb u v w i p k r = mt_sh (mt_cs v i p k r) p r := by
      unfold mt_kb
      rw [if_neg]
      rintro ⟨hs, ht, _⟩
      exact hnz hs ht
    rw [e]
    unfold mt_sh
    by_cases hp : 0 ≤ p <;> by_cases hr : 0 ≤ r
    · rw [if_pos ⟨fun _ => hr, fun _ => hp⟩]
    · rw [if_neg (fun h => hr (h.mp hp)), if_neg hr]
      rcases h with h | h | ⟨a1, a2, a3⟩
      · omega
      · omega
      · have c1 := Int.mul_nonpos_of_nonpos_of_nonneg (Int.le_of_lt a3) hp
        have c2 := Int.mul_pos_of_neg_of_neg a1 (show r < 0 by omega)
        have hcs : mt_cs v i p k r = -1 := by unfold mt_cs; rw [if_pos (show v ≠ 0 by omega), mt_sg_n (by omega)]
        rw [hcs, if_neg (by omega)]
    · rw [if_neg (fun h => hp (h.mpr hr)), if_pos hr]
      rcases h with h | h | ⟨a1, a2, a3⟩
      · omega
      · omega
      · have c1 := Int.mul_pos_of_neg_of_neg a3 (show p < 0 by omega)
        have c2 := Int.mul_nonpos_of_nonpos_of_nonneg (Int.le_of_lt a1) hr
        have hcs : mt_cs v i p k r = 1 := by unfold mt_cs; rw [if_pos (show v ≠ 0 by omega), mt_sg_p (by omega)]
        rw [hcs, if_neg (by omega)]
    · rw [if_pos ⟨fun h => absurd h hp, fun h => absurd h hr⟩]
