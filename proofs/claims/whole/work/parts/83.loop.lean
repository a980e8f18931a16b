-- the reference's walk round a contour
abbrev KL : Type := Int32 → Int64 → Int64 → Int32 → Int32 → (Nat → Int64) → (Nat → Int64) → Int32 × Int32 × (Nat → Int64) × (Nat → Int64)
theorem k238_on {px py : Nat → Int64} {on : Nat → Int32} {fr to : Int32} {x y : Int64} {t87 k : Int32} {ax ay : Int64} {c1 n1 : Int32} {f1 s1 : Nat → Int64} {kL : KL} {v : Int32} (h : ¬ on (Int32.toNatClampNeg v) = 0) :
    km_around_k238 px py on fr to x y t87 k ax ay c1 n1 f1 s1 kL v = kL (k + 1) (px (Int32.toNatClampNeg v) - x) (py (Int32.toNatClampNeg v) - y) (km_line c1 n1 ax ay (px (Int32.toNatClampNeg v) - x) (py (Int32.toNatClampNeg v) - y)).1 (km_line c1 n1 ax ay (px (Int32.toNatClampNeg v) - x) (py (Int32.toNatClampNeg v) - y)).2 f1 s1 := by
  unfold km_around_k238
  rw [if_neg h]
  rfl
theorem k238_off0 {px py : Nat → Int64} {on : Nat → Int32} {fr to : Int32} {x y : Int64} {t87 k : Int32} {ax ay : Int64} {c1 n1 : Int32} {f1 s1 : Nat → Int64} {kL : KL} {v q : Int32} (h : on (Int32.toNatClampNeg v) = 0) (hq : fr + ((((t87 - fr) + k) + 1) - (((t87 - fr) + k) + 1) / (to - fr) * (to - fr)) = q) (h2 : on (Int32.toNatClampNeg q) = 0) {C : Int32 × Int32 × (Nat → Int64) × (Nat → Int64)}
    (hC : km_curve c1 n1 f1 s1 ax ay (px (Int32.toNatClampNeg v) - x) (py (Int32.toNatClampNeg v) - y) ((px (Int32.toNatClampNeg v) + px (Int32.toNatClampNeg q)) / 2 - x) ((py (Int32.toNatClampNeg v) + py (Int32.toNatClampNeg q)) / 2 - y) = C) :
    km_around_k238 px py on fr to x y t87 k ax ay c1 n1 f1 s1 kL v = kL (k + 1) ((px (Int32.toNatClampNeg v) + px (Int32.toNatClampNeg q)) / 2 - x) ((py (Int32.toNatClampNeg v) + py (Int32.toNatClampNeg q)) / 2 - y) C.1 C.2.1 C.2.2.1 C.2.2.2 := by
  subst hC
  unfold km_around_k238
  rw [if_pos h, hq]
  unfold km_around_k322
  rw [if_pos h2]
  unfold km_around_j371
  rw [if_pos h2]
  unfold km_around_j413 km_around_k447
  rw [if_pos h2]
  rfl
theorem k238_off1 {px py : Nat → Int64} {on : Nat → Int32} {fr to : Int32} {x y : Int64} {t87 k : Int32} {ax ay : Int64} {c1 n1 : Int32} {f1 s1 : Nat → Int64} {kL : KL} {v q : Int32} (h : on (Int32.toNatClampNeg v) = 0) (hq : fr + ((((t87 - fr) + k) + 1) - (((t87 - fr) + k) + 1) / (to - fr) * (to - fr)) = q) (h2 : ¬ on (Int32.toNatClampNeg q) = 0) {C : Int32 × Int32 × (Nat → Int64) × (Nat → Int64)}
    (hC : km_curve c1 n1 f1 s1 ax ay (px (Int32.toNatClampNeg v) - x) (py (Int32.toNatClampNeg v) - y) (px (Int32.toNatClampNeg q) - x) (py (Int32.toNatClampNeg q) - y) = C) :
    km_around_k238 px py on fr to x y t87 k ax ay c1 n1 f1 s1 kL v = kL (k + 2) (px (Int32.toNatClampNeg q) - x) (py (Int32.toNatClampNeg q) - y) C.1 C.2.1 C.2.2.1 C.2.2.2 := by
  subst hC
  unfold km_around_k238
  rw [if_pos h, hq]
  unfold km_around_k322
  rw [if_neg h2]
  unfold km_around_j371
  rw [if_neg h2]
  unfold km_around_j413 km_around_k447
  rw [if_neg h2]
  rfl
theorem mid_i {a b : Int} (ha : -20000 ≤ a ∧ a ≤ 20000) (hb : -20000 ≤ b ∧ b ≤ 20000) : (Int64.ofInt (2 * a) + Int64.ofInt (2 * b)) / 2 = Int64.ofInt (a + b) := by
  rw [← Int64.ofInt_add, ← Int.mul_add, show (2 : Int64) = Int64.ofInt 2 by decide, ← Int64.ofInt_tdiv (by rw [show Int64.minValue.toInt = -9223372036854775808 by decide]; omega) (by rw [show Int64.maxValue.toInt = 9223372036854775807 by decide]; omega) (by decide) (by decide), Int.mul_tdiv_cancel_left _ (by decide)]
theorem sub_i (a x : Int) : Int64.ofInt a - Int64.ofInt x = Int64.ofInt (a - x) := (Int64.ofInt_sub a x).symm
theorem jt_b {V : Nat → Int} {on : Nat → Int32} {A nb bd : Nat} (h1 : -20000 ≤ V (A + nb) ∧ V (A + nb) ≤ 20000) (h2 : -20000 ≤ V (A + bd) ∧ V (A + bd) ≤ 20000) : -40000 ≤ jt V on A nb bd ∧ jt V on A nb bd ≤ 40000 := by
  unfold jt
  split <;> omega
theorem seg_skip {f : Nat → List IA} {m d : Nat} (h : f m = []) : seg f m d = seg f (m + 1) (d - 1) := by
  cases d with
  | zero => rfl
  | succ d => rw [seg, h, List.nil_append]; rfl
theorem seg_step {f : Nat → List IA} {m d : Nat} (h : 0 < d) : seg f m d = f m ++ seg f (m + 1) (d - 1) := by
  cases d with
  | zero => exact absurd h (Nat.lt_irrefl _)
  | succ d => rfl
/-- the place where the reference stands before the point p -/
def cur (V : Nat → Int) (on : Nat → Int32) (A n p : Nat) (x : Int) (a : Int64) : Prop := a = Int64.ofInt (jt V on A (bk p n) p - x)
set_option maxHeartbeats 1000000 in
theorem ar_L217 {px py : Nat → Int64} {on : Nat → Int32} {VX VY : Nat → Int} {A B s steps : Nat} {x y : Int} (hAB : A < B) (hB : B ≤ 256) (hX : ∀ j, j < B → px j = Int64.ofInt (2 * VX j)) (hY : ∀ j, j < B → py j = Int64.ofInt (2 * VY j)) (bX : ∀ j, j < B → -20000 ≤ VX j ∧ VX j ≤ 20000) (bY : ∀ j, j < B → -20000 ≤ VY j ∧ VY j ≤ 20000) (hx : -40000 ≤ x ∧ x ≤ 40000) (hy : -40000 ≤ y ∧ y ≤ 40000) (hs : s < B - A) (hst : steps ≤ 257) :
    ∀ (d kk fuel : Nat) (ax ay : Int64) (c1 n1 : Int32) (f1 s1 : Nat → Int64) (T : Prop) (S : Int), steps - kk ≤ d → kk ≤ steps + 1 → d < fuel → mst T S c1 n1 →
      (kk < steps → cur VX on A (B - A) ((s + kk) % (B - A)) x ax ∧ cur VY on A (B - A) ((s + kk) % (B - A)) y ay ∧ (on (A + bk ((s + kk) % (B - A)) (B - A)) = 0 → on (A + (s + kk) % (B - A)) = 0)) →
      mst (T ∨ ltc x y (seg (fun j => dI_ VX VY on A (B - A) (j % (B - A))) (s + kk) (steps - kk))) (S + lsm x y (seg (fun j => dI_ VX VY on A (B - A) (j % (B - A))) (s + kk) (steps - kk)))
        (km_around_L217 px py on (nI A) (nI B) (Int64.ofInt x) (Int64.ofInt y) (nI (A + s)) (nI steps) fuel (nI kk) ax ay c1 n1 f1 s1).1 (km_around_L217 px py on (nI A) (nI B) (Int64.ofInt x) (Int64.ofInt y) (nI (A + s)) (nI steps) fuel (nI kk) ax ay c1 n1 f1 s1).2.1 := by
  intro d
  induction d with
  | zero =>
    intro kk fuel ax ay c1 n1 f1 s1 T S hd hk2 hf hm _
    obtain ⟨f, rfl⟩ : ∃ f, fuel = f + 1 := ⟨fuel - 1, by omega⟩
    rw [km_around_L217, if_pos (nI_le (show steps ≤ kk by omega) (by omega)), show steps - kk = 0 by omega]
    exact mst_iff hm ⟨Or.inl, fun z => z.elim id False.elim⟩ (Int.add_zero _).symm
  | succ d ih =>
    intro kk fuel ax ay c1 n1 f1 s1 T S hd hk2 hf hm hc
    obtain ⟨f, rfl⟩ : ∃ f, fuel = f + 1 := ⟨fuel - 1, by omega⟩
    by_cases hk : steps ≤ kk
    · rw [km_around_L217, if_pos (nI_le hk (by omega)), show steps - kk = 0 by omega]
      exact mst_iff hm ⟨Or.inl, fun z => z.elim id False.elim⟩ (Int.add_zero _).symm
    · obtain ⟨q1, q2, q3⟩ := hc (by omega)
      have hidx := ar_idx (A := A) (B := B) (s := A + s) (kk := kk) (by omega) (by omega) hB (by omega)
      have hidq := ar_idx (A := A) (B := B) (s := A + s) (kk := kk + 1) (by omega) (by omega) hB (by omega)
      rw [Nat.add_sub_cancel_left] at hidx hidq
      rw [← nI_1 kk, ← Int32.add_assoc, ← Nat.add_assoc s kk 1, ak_mod (by omega)] at hidq
      have hpn : (s + kk) % (B - A) < B - A := Nat.mod_lt _ (by omega)
      rw [seg_step (by omega)]
      have e9 : s + kk + 1 = s + (kk + 1) := by omega
      have ek : ((s + (kk + 1)) % (B - A)) = ak ((s + kk) % (B - A)) (B - A) := by rw [← e9]; exact ak_mod (by omega)
      have ek2 : ((s + (kk + 2)) % (B - A)) = ak (ak ((s + kk) % (B - A)) (B - A)) (B - A) := by
        rw [show s + (kk + 2) = s + (kk + 1) + 1 by omega, ak_mod (by omega), ek]
      rw [km_around_L217, if_neg (Int32.not_le.mpr (nI_lt (show kk < steps by omega) (by omega))), hidx]
      generalize hp : (s + kk) % (B - A) = p at q1 q2 q3 hidx hidq hpn ek ek2 ⊢
      have hbn := bk_lt hpn
      have han := ak_lt hpn
      have cp : Int32.toNatClampNeg (nI (A + p)) = A + p := nI_clamp (by omega)
      have cq : Int32.toNatClampNeg (nI (A + ak p (B - A))) = A + ak p (B - A) := nI_clamp (by omega)
      have bp := bX (A + p) (by omega)
      have bp' := bY (A + p) (by omega)
      have bb := bX (A + bk p (B - A)) (by omega)
      have bb' := bY (A + bk p (B - A)) (by omega)
      have ba := bX (A + ak p (B - A)) (by omega)
      have ba' := bY (A + ak p (B - A)) (by omega)
      have j1 := jt_b (on := on) bb bp
      have j2 := jt_b (on := on) bb' bp'
      have j3 := jt_b (on := on) ba bp
      have j4 := jt_b (on := on) ba' bp'
      rw [e9]
      by_cases c0 : on (A + p) = 0
      · have ed : dI_ VX VY on A (B - A) p = [cvI VX VY on A (B - A) p] := if_pos c0
        have hmc := mst_curve hm (x := x) (y := y) (a := cvI VX VY on A (B - A) p) f1 s1 (show -80000 ≤ jt VX on A (bk p (B - A)) p - x ∧ jt VX on A (bk p (B - A)) p - x ≤ 80000 by omega) (show -80000 ≤ jt VY on A (bk p (B - A)) p - y ∧ jt VY on A (bk p (B - A)) p - y ≤ 80000 by omega) (show -80000 ≤ 2 * VX (A + p) - x ∧ 2 * VX (A + p) - x ≤ 80000 by omega) (show -80000 ≤ 2 * VY (A + p) - y ∧ 2 * VY (A + p) - y ≤ 80000 by omega) (show -80000 ≤ jt VX on A (ak p (B - A)) p - x ∧ jt VX on A (ak p (B - A)) p - x ≤ 80000 by omega) (show -80000 ≤ jt VY on A (ak p (B - A)) p - y ∧ jt VY on A (ak p (B - A)) p - y ≤ 80000 by omega)
        by_cases c1' : on (A + ak p (B - A)) = 0
        · have tx : (px (A + p) + px (A + ak p (B - A))) / 2 - Int64.ofInt x = Int64.ofInt (jt VX on A (ak p (B - A)) p - x) := by
            rw [hX _ (by omega), hX _ (by omega), mid_i bp ba, sub_i, jt, if_pos c1', Int.add_comm]
          have ty : (py (A + p) + py (A + ak p (B - A))) / 2 - Int64.ofInt y = Int64.ofInt (jt VY on A (ak p (B - A)) p - y) := by
            rw [hY _ (by omega), hY _ (by omega), mid_i bp' ba', sub_i, jt, if_pos c1', Int.add_comm]
          have hcv : km_curve c1 n1 f1 s1 ax ay (px (Int32.toNatClampNeg (nI (A + p))) - Int64.ofInt x) (py (Int32.toNatClampNeg (nI (A + p))) - Int64.ofInt y) ((px (Int32.toNatClampNeg (nI (A + p))) + px (Int32.toNatClampNeg (nI (A + ak p (B - A))))) / 2 - Int64.ofInt x) ((py (Int32.toNatClampNeg (nI (A + p))) + py (Int32.toNatClampNeg (nI (A + ak p (B - A))))) / 2 - Int64.ofInt y) = km_curve c1 n1 f1 s1 (Int64.ofInt ((cvI VX VY on A (B - A) p).1 - x)) (Int64.ofInt ((cvI VX VY on A (B - A) p).2.1 - y)) (Int64.ofInt ((cvI VX VY on A (B - A) p).2.2.1 - x)) (Int64.ofInt ((cvI VX VY on A (B - A) p).2.2.2.1 - y)) (Int64.ofInt ((cvI VX VY on A (B - A) p).2.2.2.2.1 - x)) (Int64.ofInt ((cvI VX VY on A (B - A) p).2.2.2.2.2 - y)) := by
            rw [cp, cq, tx, ty, hX _ (show A + p < B by omega), hY _ (show A + p < B by omega), sub_i, sub_i, q1, q2]
            rfl
          rw [k238_off0 (by rw [cp]; exact c0) hidq (by rw [cq]; exact c1') hcv, cp, cq, tx, ty, nI_1, ed]
          have hi := fun (g1 g2 : Nat → Int64) => ih (kk + 1) f (Int64.ofInt (jt VX on A (ak p (B - A)) p - x)) (Int64.ofInt (jt VY on A (ak p (B - A)) p - y)) _ _ g1 g2 _ _ (by omega) (by omega) (by omega) hmc (fun _ => by
            rw [ek, bk_ak hpn]
            refine ⟨?_, ?_, fun _ => c1'⟩
            · show _ = Int64.ofInt (jt VX on A (bk (ak p (B - A)) (B - A)) (ak p (B - A)) - x)
              rw [bk_ak hpn, jt, jt, if_pos c0, if_pos c1', Int.add_comm]
            · show _ = Int64.ofInt (jt VY on A (bk (ak p (B - A)) (B - A)) (ak p (B - A)) - y)
              rw [bk_ak hpn, jt, jt, if_pos c0, if_pos c1', Int.add_comm])
          refine mst_iff (hi _ _) ?_ ?_
          · rw [List.singleton_append, ltc, or_assoc, show steps - kk - 1 = steps - (kk + 1) by omega]
          · rw [List.singleton_append, lsm, Int.add_assoc, show steps - kk - 1 = steps - (kk + 1) by omega]
        · have tx : px (A + ak p (B - A)) - Int64.ofInt x = Int64.ofInt (jt VX on A (ak p (B - A)) p - x) := by
            rw [hX _ (by omega), sub_i, jt, if_neg c1']
          have ty : py (A + ak p (B - A)) - Int64.ofInt y = Int64.ofInt (jt VY on A (ak p (B - A)) p - y) := by
            rw [hY _ (by omega), sub_i, jt, if_neg c1']
          have hcv : km_curve c1 n1 f1 s1 ax ay (px (Int32.toNatClampNeg (nI (A + p))) - Int64.ofInt x) (py (Int32.toNatClampNeg (nI (A + p))) - Int64.ofInt y) (px (Int32.toNatClampNeg (nI (A + ak p (B - A)))) - Int64.ofInt x) (py (Int32.toNatClampNeg (nI (A + ak p (B - A)))) - Int64.ofInt y) = km_curve c1 n1 f1 s1 (Int64.ofInt ((cvI VX VY on A (B - A) p).1 - x)) (Int64.ofInt ((cvI VX VY on A (B - A) p).2.1 - y)) (Int64.ofInt ((cvI VX VY on A (B - A) p).2.2.1 - x)) (Int64.ofInt ((cvI VX VY on A (B - A) p).2.2.2.1 - y)) (Int64.ofInt ((cvI VX VY on A (B - A) p).2.2.2.2.1 - x)) (Int64.ofInt ((cvI VX VY on A (B - A) p).2.2.2.2.2 - y)) := by
            rw [cp, cq, tx, ty, hX _ (show A + p < B by omega), hY _ (show A + p < B by omega), sub_i, sub_i, q1, q2]
            rfl
          rw [k238_off1 (by rw [cp]; exact c0) hidq (by rw [cq]; exact c1') hcv, cq, tx, ty, show nI kk + 2 = nI (kk + 2) from nI_add kk 2, ed]
          have hi := fun (g1 g2 : Nat → Int64) => ih (kk + 2) f (Int64.ofInt (jt VX on A (ak p (B - A)) p - x)) (Int64.ofInt (jt VY on A (ak p (B - A)) p - y)) _ _ g1 g2 _ _ (by omega) (by omega) (by omega) hmc (fun _ => by
            rw [ek2, bk_ak han]
            refine ⟨?_, ?_, fun z => absurd z c1'⟩
            · show _ = Int64.ofInt (jt VX on A (bk (ak (ak p (B - A)) (B - A)) (B - A)) (ak (ak p (B - A)) (B - A)) - x)
              rw [bk_ak han, jt, jt, if_neg c1', if_neg c1']
            · show _ = Int64.ofInt (jt VY on A (bk (ak (ak p (B - A)) (B - A)) (B - A)) (ak (ak p (B - A)) (B - A)) - y)
              rw [bk_ak han, jt, jt, if_neg c1', if_neg c1'])
          have en : (fun j => dI_ VX VY on A (B - A) (j % (B - A))) (s + (kk + 1)) = [] := by
            show dI_ VX VY on A (B - A) ((s + (kk + 1)) % (B - A)) = []
            rw [ek, dI_, if_neg c1', bk_ak hpn, if_pos c0]
          rw [seg_skip (f := fun j => dI_ VX VY on A (B - A) (j % (B - A))) (m := s + (kk + 1)) en, show s + (kk + 1) + 1 = s + (kk + 2) by omega, show steps - kk - 1 - 1 = steps - (kk + 2) by omega]
          refine mst_iff (hi _ _) ?_ ?_
          · rw [List.singleton_append, ltc, or_assoc]
          · rw [List.singleton_append, lsm, Int.add_assoc]
      · have cb : ¬ on (A + bk p (B - A)) = 0 := fun z => c0 (q3 z)
        have ed : dI_ VX VY on A (B - A) p = [lnI VX VY A (B - A) (bk p (B - A))] := by rw [dI_, if_neg c0, if_neg cb]
        have el : lnI VX VY A (B - A) (bk p (B - A)) = (2 * VX (A + bk p (B - A)), 2 * VY (A + bk p (B - A)), 2 * VX (A + bk p (B - A)), 2 * VY (A + bk p (B - A)), 2 * VX (A + p), 2 * VY (A + p)) := by rw [lnI, ak_bk hpn]
        have hml := mst_line hm (x := x) (y := y) (sx := 2 * VX (A + bk p (B - A))) (sy := 2 * VY (A + bk p (B - A))) (ex := 2 * VX (A + p)) (ey := 2 * VY (A + p)) (by omega) (by omega) (by omega) (by omega)
        have tx : px (A + p) - Int64.ofInt x = Int64.ofInt (2 * VX (A + p) - x) := by rw [hX _ (by omega), sub_i]
        have ty : py (A + p) - Int64.ofInt y = Int64.ofInt (2 * VY (A + p) - y) := by rw [hY _ (by omega), sub_i]
        have ax' : ax = Int64.ofInt (2 * VX (A + bk p (B - A)) - x) := by rw [q1, jt, if_neg cb]
        have ay' : ay = Int64.ofInt (2 * VY (A + bk p (B - A)) - y) := by rw [q2, jt, if_neg cb]
        rw [k238_on (by rw [cp]; exact c0), cp, tx, ty, nI_1, ed, ax', ay', el]
        have hi := ih (kk + 1) f (Int64.ofInt (2 * VX (A + p) - x)) (Int64.ofInt (2 * VY (A + p) - y)) _ _ f1 s1 _ _ (by omega) (by omega) (by omega) hml (fun _ => by
          rw [ek, bk_ak hpn]
          refine ⟨?_, ?_, fun z => absurd z c0⟩
          · show _ = Int64.ofInt (jt VX on A (bk (ak p (B - A)) (B - A)) (ak p (B - A)) - x)
            rw [bk_ak hpn, jt, if_neg c0]
          · show _ = Int64.ofInt (jt VY on A (bk (ak p (B - A)) (B - A)) (ak p (B - A)) - y)
            rw [bk_ak hpn, jt, if_neg c0])
        refine mst_iff hi ?_ ?_
        · rw [List.singleton_append, ltc, or_assoc, show steps - kk - 1 = steps - (kk + 1) by omega]
        · rw [List.singleton_append, lsm, Int.add_assoc, show steps - kk - 1 = steps - (kk + 1) by omega]
