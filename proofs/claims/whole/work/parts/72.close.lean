theorem pot_next {as : Nat → Nat} {L : LSt} (h : lg as L) (hn : L.2.1 < 256) : potc L + lgc L ≤ 10 ∧ pots L + lgs L ≤ 1084 := by
  obtain ⟨mc, n, o⟩ := L
  cases o with
  | none => exact (show 0 + 1 ≤ 10 ∧ 0 + 10 ≤ 1084 by decide)
  | some x =>
    obtain ⟨ed, cO, cap, g⟩ := x
    have hp := pot_le h
    by_cases c : n = cap
    · have hn : n < 256 := hn
      obtain ⟨w1, w2, w3, w4⟩ := caps_next cap h.2.1 (by omega)
      have e1 : lgc (mc, n, some (ed, cO, cap, g)) = 1 := if_pos c
      have e2 : lgs (mc, n, some (ed, cO, cap, g)) = cap + cap / 2 := if_pos c
      rw [e1, e2]
      show gcnt cap + 1 ≤ 10 ∧ gsum cap + (cap + cap / 2) ≤ 1084
      rw [← w3, ← w4]
      have hq := pot_le (as := fun _ => 0) (L := (0, 0, some (0, cO, cap + cap / 2, fun _ => none))) ⟨Nat.zero_le _, w2, fun j hj => absurd hj (Nat.not_lt_zero _), fun _ _ => rfl⟩
      exact ⟨hq.2, hq.1⟩
    · have e1 : lgc (mc, n, some (ed, cO, cap, g)) = 0 := if_neg c
      have e2 : lgs (mc, n, some (ed, cO, cap, g)) = 0 := if_neg c
      rw [e1, e2]
      exact ⟨hp.2, hp.1⟩
theorem kd_len (X Y O : Nat → Int32) (n k : Nat) : (kd X Y O n k).length ≤ 1 := by
  unfold kd
  split
  · exact Nat.le_refl _
  · split
    · exact Nat.zero_le _
    · exact Nat.le_refl _
theorem cl_fitc {kl i g p : Nat} (hkl : kl ≤ 1) (hi : i < 256) (h : p + g ≤ 10) : i + p + kl * (1 + g) ≤ 266 := by
  rcases (show kl = 0 ∨ kl = 1 by omega) with rfl | rfl <;> omega
theorem cl_fits {kl i g p : Nat} (hkl : kl ≤ 1) (hi : i < 256) (h : p + g ≤ 1084) : 6 * i + p + kl * (6 + g) ≤ 2620 := by
  rcases (show kl = 0 ∨ kl = 1 by omega) with rfl | rfl <;> omega
theorem cl_nextc {kl i g p p' : Nat} (hkl : kl ≤ 1) (h : p' = p + kl * g) : i + p + kl * (1 + g) ≤ (i + 1) + p' := by
  rcases (show kl = 0 ∨ kl = 1 by omega) with rfl | rfl <;> omega
theorem cl_nexts {kl i g p p' : Nat} (hkl : kl ≤ 1) (h : p' = p + kl * g) : 6 * i + p + kl * (6 + g) ≤ 6 * (i + 1) + p' := by
  rcases (show kl = 0 ∨ kl = 1 by omega) with rfl | rfl <;> omega
theorem cl_range {ar : List T6} {X Y O : Nat → Int32} {n i : Nat} : ar ++ (List.range (i + 1)).flatMap (kd X Y O n) = (ar ++ (List.range i).flatMap (kd X Y O n)) ++ kd X Y O n i := by
  rw [List.range_succ, List.flatMap_append, List.flatMap_singleton, List.append_assoc]
set_option maxHeartbeats 4000000 in
set_option maxRecDepth 100000 in
theorem c_close1 (l : Launch) (dC : Nat → ClassId) (dI : Nat → Nat → Nat) (h0 qx qy qo qr ql t0 mi n : Nat) (wd cp cc : Int32) (cI cZ : ClassId) (X Y O : Nat → Int32) (u0 : AS) (ar : List T6) (h1 : 0 < n) (hn : ar.length + n ≤ 256) (hu0 : hld ar u0) : aa_i l y_S_close w_S_close { frames := 8, cells := 266, slots := 2620, locals := 186 } (dC, dI) ([(h0, .inr (0, [.int wd, .ref qx, .ref qy, .ref qo, .ref qr, .ref ql, .int (nI n), .int cp, .int cc])), (qx, .inl (cI, 256, .inl X)), (qy, .inl (cI, 256, .inl Y)), (qo, .inl (cZ, 256, .inl O))] ++ (lwd t0 ql u0.1 ++ u0.2.2)) ([(cI, .int), (cZ, .boolean)] ++ lty u0.1) [.ref h0] mi t0 266 2620 (fun (r : Int32) (u : AS) => r = cc + 1 ∧ hld (ar ++ (List.range n).flatMap (kd X Y O n)) u) (fun u : AS => [(h0, .inr (0, [.int wd, .ref qx, .ref qy, .ref qo, .ref qr, .ref ql, .int 0, .int (cp + nI n), .int (cc + 1)])), (qx, .inl (cI, 256, .inl X)), (qy, .inl (cI, 256, .inl Y)), (qo, .inl (cZ, 256, .inl O))] ++ (lwd t0 ql u.1 ++ u.2.2)) (fun u : AS => [(cI, .int), (cZ, .boolean)] ++ lty u.1) := by
  intro sz
  refine Met.ofW (cc := b_S_close) (maxL := 2) (ret := (some .int)) (by decide) rfl ?_
  intro p e s m args below meth c s₁ B hml hv
  obtain ⟨hargs, hsz, hP, hK, hD0, hxk, hxz⟩ := hv
  have hx := B.exec
  have hb := B.bytes
  have hr := B.returns
  have hts : ∀ w ∈ lw_w, w.before args s = true := fun w h => atoms_spec (ws := w_S_close) B.pre w (List.mem_cons_of_mem _ h)
  have hown : s.vm.findClass R_S = some m.cls := findClass_of_methodNamed B.named
  have hlocks := B.notSynchronized
  subst hsz
  have hD := hD0.self (sz := s.heap.size)
  generalize hR : (headSpec w_S_close { frames := 8, cells := 266, slots := 2620, locals := 186 }).room = R
  generalize hAe : va_A ([(h0, .inr (0, [.int wd, .ref qx, .ref qy, .ref qo, .ref qr, .ref ql, .int (nI n), .int cp, .int cc])), (qx, .inl (cI, 256, .inl X)), (qy, .inl (cI, 256, .inl Y)), (qo, .inl (cZ, 256, .inl O))] ++ (lwd t0 ql u0.1 ++ u0.2.2)) s.heap.size = A at hD hxz ⊢
  have hA : ∀ q : Nat, s.heap.size ≤ q → A q := fun q h => by rw [← hAe]; exact Or.inr h
  have hS : va_S A s.heap s.heap [] := va_S.rf
  have hl := lv_entry [.ref h0] (n := 2) (Nat.le_of_ble_eq_true rfl)
  have hent : entryFrame m args 2 = F0 m 0 (lg_sl [.ref h0] ++ List.replicate (2 - (lg_sl [.ref h0]).length) Slot.unset).toArray [] := by rw [hargs]; exact lg_entry_eq m [.ref h0] 2
  rw [hent]
  clear hent
  generalize (lg_sl [.ref h0] ++ List.replicate (2 - (lg_sl [.ref h0]).length) Slot.unset).toArray = ls at hl ⊢
  have hl : lv_has ls 2 [(0, .ref h0)] := hl
  have hP : va_P (dC, dI) cls9 ([(h0, .inr (0, [.int wd, .ref qx, .ref qy, .ref qo, .ref qr, .ref ql, .int (nI n), .int cp, .int cc])), (qx, .inl (cI, 256, .inl X)), (qy, .inl (cI, 256, .inl Y)), (qo, .inl (cZ, 256, .inl O))] ++ (lwd t0 ql u0.1 ++ u0.2.2)) s.heap := hP
  have hD : va_D A ([(h0, .inr (0, [.int wd, .ref qx, .ref qy, .ref qo, .ref qr, .ref ql, .int (nI n), .int cp, .int cc])), (qx, .inl (cI, 256, .inl X)), (qy, .inl (cI, 256, .inl Y)), (qo, .inl (cZ, 256, .inl O))] ++ (lwd t0 ql u0.1 ++ u0.2.2)) := hD
  generalize hQ : MQ below (va_Qi (fun (r : Int32) (u : AS) => r = cc + 1 ∧ hld (ar ++ (List.range n).flatMap (kd X Y O n)) u) (fun u t => va_P (dC, dI) cls9 ([(h0, .inr (0, [.int wd, .ref qx, .ref qy, .ref qo, .ref qr, .ref ql, .int 0, .int (cp + nI n), .int (cc + 1)])), (qx, .inl (cI, 256, .inl X)), (qy, .inl (cI, 256, .inl Y)), (qo, .inl (cZ, 256, .inl O))] ++ (lwd t0 ql u.1 ++ u.2.2)) t.heap ∧ va_K (dC, dI) cls9 ([(cI, .int), (cZ, .boolean)] ++ lty u.1) t ∧ va_D A ([(h0, .inr (0, [.int wd, .ref qx, .ref qy, .ref qo, .ref qr, .ref ql, .int 0, .int (cp + nI n), .int (cc + 1)])), (qx, .inl (cI, 256, .inl X)), (qy, .inl (cI, 256, .inl Y)), (qo, .inl (cZ, 256, .inl O))] ++ (lwd t0 ql u.1 ++ u.2.2))) A) args s 266 2620 A = Q
  replace hQ := hQ.symm
  refine lv_aload_n hx hb d_S_close_0 rfl (lv_at hl 0 rfl) ?_
  refine va_get (D := (dC, dI)) (ci := 0) (v := .int (nI n)) (C := R_S) (T := F_S) (N := 9) hx hb hts in_S hown hK hP 0 rfl rfl 6 (by decide) (hts _ tw_63) (fun _ h9 => h9) rfl d_S_close_1 ?_
  refine lv_if_ne (tgt := 10) hx hb d_S_close_4 rfl (fun h4 => ?_) (fun h4 => ?_)
  · refine lv_iconst (v := 0) hx hb d_S_close_10 (by decide) ?_
    refine lv_istore_n (lv' := [(1, .int 0), (0, .ref h0)]) hx hb d_S_close_11 rfl hl (by decide) rfl (fun ls hl => ?_)
    have LP : ∀ (d i : Nat) (u : AS), i + d = n → hld (ar ++ (List.range i).flatMap (kd X Y O n)) u → (ar ++ (List.range i).flatMap (kd X Y O n)).length ≤ ar.length + i → ∀ (ls : Array Slot) (H : Heap) (locs : List Loc), lv_has ls 2 [(1, .int (nI i)), (0, .ref h0)] → va_K (dC, dI) cls9 ([(cI, .int), (cZ, .boolean)] ++ lty u.1) s → va_P (dC, dI) cls9 ([(h0, .inr (0, [.int wd, .ref qx, .ref qy, .ref qo, .ref qr, .ref ql, .int (nI n), .int cp, .int cc])), (qx, .inl (cI, 256, .inl X)), (qy, .inl (cI, 256, .inl Y)), (qo, .inl (cZ, 256, .inl O))] ++ (lwd t0 ql u.1 ++ u.2.2)) H → va_D A ([(h0, .inr (0, [.int wd, .ref qx, .ref qy, .ref qo, .ref qr, .ref ql, .int (nI n), .int cp, .int cc])), (qx, .inl (cI, 256, .inl X)), (qy, .inl (cI, 256, .inl Y)), (qo, .inl (cZ, 256, .inl O))] ++ (lwd t0 ql u.1 ++ u.2.2)) → va_S A s.heap H locs → W p l e R s m args below meth c H locs (i + potc u.1) (6 * i + pots u.1) Q (F0 m 12 ls []) := by
      intro d
      induction d with
      | zero =>
        intro i u hi hu hlen ls H locs hl hK hP hD hS
        have hi : i = n := hi
        subst hi
        have hpl := pot_le hu.1
        refine lv_iload_n hx hb d_S_close_12 rfl (lv_at hl 0 rfl) ?_
        refine lv_aload_n hx hb d_S_close_13 rfl (lv_at hl 1 rfl) ?_
        refine va_get (D := (dC, dI)) (ci := 0) (v := .int (nI i)) (C := R_S) (T := F_S) (N := 9) hx hb hts in_S hown hK hP 0 rfl rfl 6 (by decide) (hts _ tw_63) (fun _ h9 => h9) rfl d_S_close_14 ?_
        refine lv_icmp_ge (tgt := 31) hx hb d_S_close_17 rfl (fun h17 => ?_) (fun h17 => ?_)
        · refine lv_aload_n hx hb d_S_close_31 rfl (lv_at hl 1 rfl) ?_
          refine lv_dup hx hb d_S_close_32 rfl ?_
          refine va_get (D := (dC, dI)) (ci := 0) (v := .int cp) (C := R_S) (T := F_S) (N := 9) hx hb hts in_S hown hK hP 0 rfl rfl 7 (by decide) (hts _ tw_64) (fun _ h9 => h9) rfl d_S_close_33 ?_
          refine lv_aload_n hx hb d_S_close_36 rfl (lv_at hl 1 rfl) ?_
          refine va_get (D := (dC, dI)) (ci := 0) (v := .int (nI i)) (C := R_S) (T := F_S) (N := 9) hx hb hts in_S hown hK hP 0 rfl rfl 6 (by decide) (hts _ tw_63) (fun _ h9 => h9) rfl d_S_close_37 ?_
          refine lv_iadd hx hb d_S_close_40 ?_
          refine va_put (D := (dC, dI)) (ci := 0) (v := .int (cp + (nI i))) (ty := .int) (C := R_S) (T := F_S) (N := 9) hx hb hts in_S tf_S tok_S n_S hown hK hP hD hS 0 rfl rfl 7 (by decide) (hts _ tw_64) (fun _ h9 => h9) rfl (by decide +kernel) (by rfl) (by rfl) (Nat.le_of_ble_eq_true rfl) d_S_close_41 (fun H locs hP hD hS => ?_)
          have hP : va_P (dC, dI) cls9 ([(h0, .inr (0, [.int wd, .ref qx, .ref qy, .ref qo, .ref qr, .ref ql, .int (nI i), .int (cp + (nI i)), .int cc])), (qx, .inl (cI, 256, .inl X)), (qy, .inl (cI, 256, .inl Y)), (qo, .inl (cZ, 256, .inl O))] ++ (lwd t0 ql u.1 ++ u.2.2)) H := hP
          have hD : va_D A ([(h0, .inr (0, [.int wd, .ref qx, .ref qy, .ref qo, .ref qr, .ref ql, .int (nI i), .int (cp + (nI i)), .int cc])), (qx, .inl (cI, 256, .inl X)), (qy, .inl (cI, 256, .inl Y)), (qo, .inl (cZ, 256, .inl O))] ++ (lwd t0 ql u.1 ++ u.2.2)) := hD
          refine lv_aload_n hx hb d_S_close_44 rfl (lv_at hl 1 rfl) ?_
          refine lv_iconst (v := 0) hx hb d_S_close_45 (by decide) ?_
          refine va_put (D := (dC, dI)) (ci := 0) (v := .int 0) (ty := .int) (C := R_S) (T := F_S) (N := 9) hx hb hts in_S tf_S tok_S n_S hown hK hP hD hS 0 rfl rfl 6 (by decide) (hts _ tw_63) (fun _ h9 => h9) rfl (by decide +kernel) (by rfl) (by rfl) (Nat.le_of_ble_eq_true rfl) d_S_close_46 (fun H locs hP hD hS => ?_)
          have hP : va_P (dC, dI) cls9 ([(h0, .inr (0, [.int wd, .ref qx, .ref qy, .ref qo, .ref qr, .ref ql, .int 0, .int (cp + (nI i)), .int cc])), (qx, .inl (cI, 256, .inl X)), (qy, .inl (cI, 256, .inl Y)), (qo, .inl (cZ, 256, .inl O))] ++ (lwd t0 ql u.1 ++ u.2.2)) H := hP
          have hD : va_D A ([(h0, .inr (0, [.int wd, .ref qx, .ref qy, .ref qo, .ref qr, .ref ql, .int 0, .int (cp + (nI i)), .int cc])), (qx, .inl (cI, 256, .inl X)), (qy, .inl (cI, 256, .inl Y)), (qo, .inl (cZ, 256, .inl O))] ++ (lwd t0 ql u.1 ++ u.2.2)) := hD
          refine lv_aload_n hx hb d_S_close_49 rfl (lv_at hl 1 rfl) ?_
          refine lv_dup hx hb d_S_close_50 rfl ?_
          refine va_get (D := (dC, dI)) (ci := 0) (v := .int cc) (C := R_S) (T := F_S) (N := 9) hx hb hts in_S hown hK hP 0 rfl rfl 8 (by decide) (hts _ tw_65) (fun _ h9 => h9) rfl d_S_close_51 ?_
          refine lv_iconst (v := 1) hx hb d_S_close_54 (by decide) ?_
          refine lv_iadd hx hb d_S_close_55 ?_
          refine va_put (D := (dC, dI)) (ci := 0) (v := .int (cc + 1)) (ty := .int) (C := R_S) (T := F_S) (N := 9) hx hb hts in_S tf_S tok_S n_S hown hK hP hD hS 0 rfl rfl 8 (by decide) (hts _ tw_65) (fun _ h9 => h9) rfl (by decide +kernel) (by rfl) (by rfl) (Nat.le_of_ble_eq_true rfl) d_S_close_56 (fun H locs hP hD hS => ?_)
          have hP : va_P (dC, dI) cls9 ([(h0, .inr (0, [.int wd, .ref qx, .ref qy, .ref qo, .ref qr, .ref ql, .int 0, .int (cp + (nI i)), .int (cc + 1)])), (qx, .inl (cI, 256, .inl X)), (qy, .inl (cI, 256, .inl Y)), (qo, .inl (cZ, 256, .inl O))] ++ (lwd t0 ql u.1 ++ u.2.2)) H := hP
          have hD : va_D A ([(h0, .inr (0, [.int wd, .ref qx, .ref qy, .ref qo, .ref qr, .ref ql, .int 0, .int (cp + (nI i)), .int (cc + 1)])), (qx, .inl (cI, 256, .inl X)), (qy, .inl (cI, 256, .inl Y)), (qo, .inl (cZ, 256, .inl O))] ++ (lwd t0 ql u.1 ++ u.2.2)) := hD
          refine lv_aload_n hx hb d_S_close_59 rfl (lv_at hl 1 rfl) ?_
          refine va_get (D := (dC, dI)) (ci := 0) (v := .int (cc + 1)) (C := R_S) (T := F_S) (N := 9) hx hb hts in_S hown hK hP 0 rfl rfl 8 (by decide) (hts _ tw_65) (fun _ h9 => h9) rfl d_S_close_60 ?_
          refine W.widen (k := 266) (n := 2620) (by first | exact Nat.le_refl _ | omega | (show (i + potc u.1) ≤ 266; omega)) (by first | exact Nat.le_refl _ | omega | (show (6 * i + pots u.1) ≤ 2620; omega)) ?_
          rw [hQ]
          exact W.iret (v := cc + 1) hx hb hr (fun t ht hW => ⟨⟨_, u, rfl, ⟨rfl, hu⟩, by rw [ht]; exact hP, va_K.moved hW.alike hK, hD⟩, hS.F ht⟩) hS.2.2 d_S_close_63
        · exact absurd (Int32.le_refl _) h17
      | succ d ih =>
        intro i u hi hu hlen ls H locs hl hK hP hD hS
        have hin : i < n := by omega
        have hpn := pot_next hu.1 (by rw [hu.2.1]; omega)
        have hkl := kd_len X Y O n i
        refine lv_iload_n hx hb d_S_close_12 rfl (lv_at hl 0 rfl) ?_
        refine lv_aload_n hx hb d_S_close_13 rfl (lv_at hl 1 rfl) ?_
        refine va_get (D := (dC, dI)) (ci := 0) (v := .int (nI n)) (C := R_S) (T := F_S) (N := 9) hx hb hts in_S hown hK hP 0 rfl rfl 6 (by decide) (hts _ tw_63) (fun _ h9 => h9) rfl d_S_close_14 ?_
        refine lv_icmp_ge (tgt := 31) hx hb d_S_close_17 rfl (fun h17 => ?_) (fun h17 => ?_)
        · exact absurd h17 (Int32.not_le.mpr (nI_lt hin (by omega)))
        · refine lv_aload_n hx hb d_S_close_20 rfl (lv_at hl 1 rfl) ?_
          refine lv_iload_n hx hb d_S_close_21 rfl (lv_at hl 0 rfl) ?_
          refine jw_v (X := []) (W0 := [(h0, .inr (0, [.int wd, .ref qx, .ref qy, .ref qo, .ref qr, .ref ql, .int (nI n), .int cp, .int cc])), (qx, .inl (cI, 256, .inl X)), (qy, .inl (cI, 256, .inl Y)), (qo, .inl (cZ, 256, .inl O))] ++ (lwd t0 ql u.1 ++ u.2.2)) (pw := (fun u : AS => [(h0, .inr (0, [.int wd, .ref qx, .ref qy, .ref qo, .ref qr, .ref ql, .int (nI n), .int cp, .int cc])), (qx, .inl (cI, 256, .inl X)), (qy, .inl (cI, 256, .inl Y)), (qo, .inl (cZ, 256, .inl O))] ++ (lwd t0 ql u.1 ++ u.2.2))) (pt := (fun u : AS => [(cI, .int), (cZ, .boolean)] ++ lty u.1)) (va_runV (g := F0 m 22 ls [.int (nI i), .ref h0]) (As := [.int (nI i)]) (rest := []) ⟨hx, hb, hml, hown, hts⟩ (c_addArc l dC dI h0 qx qy qo qr ql t0 mi i n wd cp cc cI cZ X Y O u.1 u.2.1 u.2.2 (ar ++ (List.range i).flatMap (kd X Y O n)) hin (by omega) hu (by omega) _) (cwV 1 hts (gi_V tw_96 tw_98 ts_0 tw_1 tw_99) rfl rfl rfl (by decide +kernel) ⟨(by rw [← hR]; exact Nat.le_of_ble_eq_true rfl), (by rw [← hR]; exact Nat.le_of_ble_eq_true rfl)⟩) ⟨az_blind, va_recv (ci := 0) (q := (R_S, F_S, 9)) hK hP rfl (q0 := 0) rfl, az_pre hP hK hD hxk hxz hS (la_free hD hS hA)⟩ rfl rfl hl.1 rfl (lv_room (Nat.le_of_ble_eq_true rfl)) d_S_close_22 ⟨by rw [← hR]; exact cl_fitc hkl (by omega) hpn.1, by rw [← hR]; exact cl_fits hkl (by omega) hpn.2⟩) hP hD hS hA (fun u9 H locs hG9 hK hP hD hS => ?_)
          have hP : va_P (dC, dI) cls9 ([(h0, .inr (0, [.int wd, .ref qx, .ref qy, .ref qo, .ref qr, .ref ql, .int (nI n), .int cp, .int cc])), (qx, .inl (cI, 256, .inl X)), (qy, .inl (cI, 256, .inl Y)), (qo, .inl (cZ, 256, .inl O))] ++ (lwd t0 ql u9.1 ++ u9.2.2)) H := hP
          have hD : va_D A ([(h0, .inr (0, [.int wd, .ref qx, .ref qy, .ref qo, .ref qr, .ref ql, .int (nI n), .int cp, .int cc])), (qx, .inl (cI, 256, .inl X)), (qy, .inl (cI, 256, .inl Y)), (qo, .inl (cZ, 256, .inl O))] ++ (lwd t0 ql u9.1 ++ u9.2.2)) := hD
          refine W.widen (k := (i + 1) + potc u9.1) (n := 6 * (i + 1) + pots u9.1) (cl_nextc hkl hG9.2.1) (cl_nexts hkl hG9.2.2) ?_
          refine lv_iinc (k := 0) (v := (nI i) + 1) (lv' := [(1, .int ((nI i) + 1)), (0, .ref h0)]) hx hb d_S_close_25 hl rfl rfl (by decide) rfl (fun ls hl => ?_)
          rw [nI_1] at hl
          refine lv_goto (tgt := 12) hx hb d_S_close_28 rfl ?_
          exact ih (i + 1) u9 (by omega) (by rw [cl_range]; exact hG9.1) (by rw [cl_range, List.length_append]; omega) ls _ _ hl hK hP hD hS
    refine W.widen (k := 0 + potc u0.1) (n := 6 * 0 + pots u0.1) (Nat.zero_le _) (Nat.zero_le _) ?_
    exact LP n 0 u0 (Nat.zero_add _) (by rw [List.range_zero, List.flatMap_nil, List.append_nil]; exact hu0) (by rw [List.range_zero, List.flatMap_nil, List.append_nil]; omega) ls _ _ hl hK hP hD hS
  · exact absurd h4 (by exact fun z => absurd ((nI_eq (show n < 2 ^ 31 by omega) (show 0 < 2 ^ 31 by omega)).mp z) (by omega))
set_option maxHeartbeats 4000000 in
set_option maxRecDepth 100000 in
theorem c_close0 (l : Launch) (dC : Nat → ClassId) (dI : Nat → Nat → Nat) (h0 qx qy qo qr ql : Nat) (wd cp cc : Int32)  : mc_i l y_S_close w_S_close { frames := 8, cells := 0, slots := 0, locals := 186 } (dC, dI) cls9 [(h0, .inr (0, [.int wd, .ref qx, .ref qy, .ref qo, .ref qr, .ref ql, .int 0, .int cp, .int cc]))] [(h0, .inr (0, [.int wd, .ref qx, .ref qy, .ref qo, .ref qr, .ref ql, .int 0, .int cp, .int cc]))] [] [.ref h0] (-2) := by
  intro sz
  refine Met.ofW (cc := b_S_close) (maxL := 2) (ret := (some .int)) (by decide) rfl ?_
  intro p e s m args below meth c s₁ B hml hv
  obtain ⟨hargs, hsz, hP, hK, hD0⟩ := hv
  have hx := B.exec
  have hb := B.bytes
  have hr := B.returns
  have hts : ∀ w ∈ lw_w, w.before args s = true := fun w h => atoms_spec (ws := w_S_close) B.pre w (List.mem_cons_of_mem _ h)
  have hown : s.vm.findClass R_S = some m.cls := findClass_of_methodNamed B.named
  have hlocks := B.notSynchronized
  subst hsz
  have hD := hD0.self (sz := s.heap.size)
  generalize hR : (headSpec w_S_close { frames := 8, cells := 0, slots := 0, locals := 186 }).room = R
  generalize hAe : va_A [(h0, .inr (0, [.int wd, .ref qx, .ref qy, .ref qo, .ref qr, .ref ql, .int 0, .int cp, .int cc]))] s.heap.size = A at hD ⊢
  have hA : ∀ q : Nat, s.heap.size ≤ q → A q := fun q h => by rw [← hAe]; exact Or.inr h
  have hS : va_S A s.heap s.heap [] := va_S.rf
  have hl := lv_entry [.ref h0] (n := 2) (Nat.le_of_ble_eq_true rfl)
  have hent : entryFrame m args 2 = F0 m 0 (lg_sl [.ref h0] ++ List.replicate (2 - (lg_sl [.ref h0]).length) Slot.unset).toArray [] := by rw [hargs]; exact lg_entry_eq m [.ref h0] 2
  rw [hent]
  clear hent
  generalize (lg_sl [.ref h0] ++ List.replicate (2 - (lg_sl [.ref h0]).length) Slot.unset).toArray = ls at hl ⊢
  have hl : lv_has ls 2 [(0, .ref h0)] := hl
  have hP : va_P (dC, dI) cls9 [(h0, .inr (0, [.int wd, .ref qx, .ref qy, .ref qo, .ref qr, .ref ql, .int 0, .int cp, .int cc]))] s.heap := hP
  have hD : va_D A [(h0, .inr (0, [.int wd, .ref qx, .ref qy, .ref qo, .ref qr, .ref ql, .int 0, .int cp, .int cc]))] := hD
  generalize hQ : MQ below (va_Qi (fun x (_ : Unit) => x = -2) (fun _ t => va_P (dC, dI) cls9 [(h0, .inr (0, [.int wd, .ref qx, .ref qy, .ref qo, .ref qr, .ref ql, .int 0, .int cp, .int cc]))] t.heap ∧ va_K (dC, dI) cls9 [] t ∧ va_D A [(h0, .inr (0, [.int wd, .ref qx, .ref qy, .ref qo, .ref qr, .ref ql, .int 0, .int cp, .int cc]))]) A) args s 0 0 A = Q
  replace hQ := hQ.symm
  refine lv_aload_n hx hb d_S_close_0 rfl (lv_at hl 0 rfl) ?_
  refine va_get (D := (dC, dI)) (ci := 0) (v := .int 0) (C := R_S) (T := F_S) (N := 9) hx hb hts in_S hown hK hP 0 rfl rfl 6 (by decide) (hts _ tw_63) (fun _ h9 => h9) rfl d_S_close_1 ?_
  refine lv_if_ne (tgt := 10) hx hb d_S_close_4 rfl (fun h4 => ?_) (fun h4 => ?_)
  · exact absurd h4 (by exact fun z => z rfl)
  · refine lv_bipush (v := (-2)) hx hb d_S_close_7 (by decide) ?_
    refine W.widen (k := 0) (n := 0) (by first | exact Nat.le_refl _ | omega | (show 0 ≤ 0; omega)) (by first | exact Nat.le_refl _ | omega | (show 0 ≤ 0; omega)) ?_
    rw [hQ]
    exact W.iret (v := -2) hx hb hr (fun t ht hW => ⟨⟨_, (), rfl, rfl, by rw [ht]; exact hP, va_K.moved hW.alike hK, hD⟩, hS.F ht⟩) hS.2.2 d_S_close_9
