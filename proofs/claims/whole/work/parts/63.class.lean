def ks_in (a : Int32) : Int32 := (if a < (-20000) then 0 else (if 20000 < a then 0 else 1))
set_option maxHeartbeats 4000000 in
set_option maxRecDepth 100000 in
theorem c_ks_in (l : Launch) (dC : Nat → ClassId) (dI : Nat → Nat → Nat) (a : Int32) : pq_i l y_S_inReach w_S_inReach { frames := 0, cells := 0, slots := 0, locals := 0 } [.int a] (ks_in a) := by
  intro sz
  refine Met.ofW (cc := b_S_inReach) (maxL := 1) (ret := (some .boolean)) (by decide) rfl ?_
  intro p e s m args below meth c s₁ B hml hv
  obtain ⟨hargs, hsz⟩ := hv
  have hx := B.exec
  have hb := B.bytes
  have hr := B.returns
  have hts : ∀ w ∈ lw_w, w.before args s = true := fun w h => atoms_spec (ws := w_S_inReach) B.pre w (List.mem_cons_of_mem _ h)
  have hown : s.vm.findClass R_S = some m.cls := findClass_of_methodNamed B.named
  have hlocks := B.notSynchronized
  subst hsz
  generalize hR : (headSpec w_S_inReach { frames := 0, cells := 0, slots := 0, locals := 0 }).room = R
  generalize hAe : (fun q : Nat => s.heap.size ≤ q) = A
  have hA : ∀ q : Nat, s.heap.size ≤ q → A q := fun q h => by rw [← hAe]; exact h
  have hS : va_S A s.heap s.heap [] := va_S.rf
  have hP : va_P (dC, dI) cls9 [] s.heap := fun k q h => by cases h
  generalize hRES : ks_in a = RES
  have hres := hRES
  replace hRES := hRES.symm
  have hl := lv_entry [.int a] (n := 1) (Nat.le_of_ble_eq_true rfl)
  have hent : entryFrame m args 1 = F0 m 0 (lg_sl [.int a] ++ List.replicate (1 - (lg_sl [.int a]).length) Slot.unset).toArray [] := by rw [hargs]; exact lg_entry_eq m [.int a] 1
  rw [hent]
  clear hent
  generalize (lg_sl [.int a] ++ List.replicate (1 - (lg_sl [.int a]).length) Slot.unset).toArray = ls at hl ⊢
  have hl : lv_has ls 1 [(0, .int a)] := hl
  unfold ks_in at hres
  generalize hQ : MQ below (va_Qi (fun x (_ : Unit) => x = RES) (fun _ _ => True) A) args s 0 0 A = Q
  replace hQ := hQ.symm
  refine lv_iload_n hx hb d_S_inReach_0 rfl (lv_at hl 0 rfl) ?_
  refine lv_sipush (v := (-20000)) hx hb d_S_inReach_1 (by decide) ?_
  refine lv_icmp_lt (tgt := 18) hx hb d_S_inReach_4 rfl (fun h4 => ?_) (fun h4 => ?_)
  · rw [if_pos h4] at hres
    refine lv_iconst (v := 0) hx hb d_S_inReach_18 (by decide) ?_
    rw [hQ]
    exact W.zret (v := 0) hx hb hr (by first | rfl | decide) (fun t ht hW => ⟨⟨_, (), rfl, hres, trivial⟩, hS.F ht⟩) hS.2.2 d_S_inReach_19
  · rw [if_neg h4] at hres
    refine lv_iload_n hx hb d_S_inReach_7 rfl (lv_at hl 0 rfl) ?_
    refine lv_sipush (v := 20000) hx hb d_S_inReach_8 (by decide) ?_
    refine lv_icmp_gt (tgt := 18) hx hb d_S_inReach_11 rfl (fun h11 => ?_) (fun h11 => ?_)
    · rw [if_pos h11] at hres
      refine lv_iconst (v := 0) hx hb d_S_inReach_18 (by decide) ?_
      rw [hQ]
      exact W.zret (v := 0) hx hb hr (by first | rfl | decide) (fun t ht hW => ⟨⟨_, (), rfl, hres, trivial⟩, hS.F ht⟩) hS.2.2 d_S_inReach_19
    · rw [if_neg h11] at hres
      refine lv_iconst (v := 1) hx hb d_S_inReach_14 (by decide) ?_
      refine lv_goto (tgt := 19) hx hb d_S_inReach_15 rfl ?_
      rw [hQ]
      exact W.zret (v := 1) hx hb hr (by first | rfl | decide) (fun t ht hW => ⟨⟨_, (), rfl, hres, trivial⟩, hS.F ht⟩) hS.2.2 d_S_inReach_19
def ks_point (X : Nat → Int32) (Y : Nat → Int32) (O : Nat → Int32) (md : Int32) (cp : Int32) (x : Int32) (y : Int32) (o : Int32) : Int32 × (Nat → Int32) × (Nat → Int32) × (Nat → Int32) × Int32 := (if (ks_in x) = 0 then ((-1), X, Y, O, md) else (if (ks_in y) = 0 then ((-1), X, Y, O, md) else (if (cp + md) < 256 then (md + 1, upd X (Int32.toNatClampNeg md) x, upd Y (Int32.toNatClampNeg md) y, upd O (Int32.toNatClampNeg md) (vp_nar .boolean o), md + 1) else ((-3), X, Y, O, md))))
set_option maxHeartbeats 4000000 in
set_option maxRecDepth 100000 in
theorem c_ks_point (l : Launch) (dC : Nat → ClassId) (dI : Nat → Nat → Nat) (h0 : Nat) (qx : Nat) (qy : Nat) (qo : Nat) (cI : ClassId) (cZ : ClassId) (wd : Int32) (qr : Nat) (ql : Nat) (cc : Int32) (X : Nat → Int32) (Y : Nat → Int32) (O : Nat → Int32) (md : Int32) (cp : Int32) (x : Int32) (y : Int32) (o : Int32) (hck : cok cp md) : mc_i l y_S_point w_S_point { frames := 1, cells := 0, slots := 0, locals := 20 } (dC, dI) cls9 [(h0, .inr (0, [.int wd, .ref qx, .ref qy, .ref qo, .ref qr, .ref ql, .int md, .int cp, .int cc])), (qx, .inl (cI, 256, .inl X)), (qy, .inl (cI, 256, .inl Y)), (qo, .inl (cZ, 256, .inl O))] [(h0, .inr (0, [.int wd, .ref qx, .ref qy, .ref qo, .ref qr, .ref ql, .int ((ks_point X Y O md cp x y o).2.2.2.2), .int cp, .int cc])), (qx, .inl (cI, 256, .inl ((ks_point X Y O md cp x y o).2.1))), (qy, .inl (cI, 256, .inl ((ks_point X Y O md cp x y o).2.2.1))), (qo, .inl (cZ, 256, .inl ((ks_point X Y O md cp x y o).2.2.2.1)))] [(cI, .int), (cZ, .boolean)] [.ref h0, .int x, .int y, .int o] ((ks_point X Y O md cp x y o).1) := by
  intro sz
  refine Met.ofW (cc := b_S_point) (maxL := 4) (ret := (some .int)) (by decide) rfl ?_
  intro p e s m args below meth c s₁ B hml hv
  obtain ⟨hargs, hsz, hP, hK, hD0⟩ := hv
  have hx := B.exec
  have hb := B.bytes
  have hr := B.returns
  have hts : ∀ w ∈ lw_w, w.before args s = true := fun w h => atoms_spec (ws := w_S_point) B.pre w (List.mem_cons_of_mem _ h)
  have hown : s.vm.findClass R_S = some m.cls := findClass_of_methodNamed B.named
  have hlocks := B.notSynchronized
  subst hsz
  have hD := hD0.self (sz := s.heap.size)
  generalize hR : (headSpec w_S_point { frames := 1, cells := 0, slots := 0, locals := 20 }).room = R
  generalize hAe : va_A [(h0, .inr (0, [.int wd, .ref qx, .ref qy, .ref qo, .ref qr, .ref ql, .int md, .int cp, .int cc])), (qx, .inl (cI, 256, .inl X)), (qy, .inl (cI, 256, .inl Y)), (qo, .inl (cZ, 256, .inl O))] s.heap.size = A at hD ⊢
  have hA : ∀ q : Nat, s.heap.size ≤ q → A q := fun q h => by rw [← hAe]; exact Or.inr h
  have hS : va_S A s.heap s.heap [] := va_S.rf
  generalize hRES : ks_point X Y O md cp x y o = RES
  have hres := hRES
  have hl := lv_entry [.ref h0, .int x, .int y, .int o] (n := 4) (Nat.le_of_ble_eq_true rfl)
  have hent : entryFrame m args 4 = F0 m 0 (lg_sl [.ref h0, .int x, .int y, .int o] ++ List.replicate (4 - (lg_sl [.ref h0, .int x, .int y, .int o]).length) Slot.unset).toArray [] := by rw [hargs]; exact lg_entry_eq m [.ref h0, .int x, .int y, .int o] 4
  rw [hent]
  clear hent
  generalize (lg_sl [.ref h0, .int x, .int y, .int o] ++ List.replicate (4 - (lg_sl [.ref h0, .int x, .int y, .int o]).length) Slot.unset).toArray = ls at hl ⊢
  have hl : lv_has ls 4 [(0, .ref h0), (1, .int x), (2, .int y), (3, .int o)] := hl
  have hP : va_P (dC, dI) cls9 [(h0, .inr (0, [.int wd, .ref qx, .ref qy, .ref qo, .ref qr, .ref ql, .int md, .int cp, .int cc])), (qx, .inl (cI, 256, .inl X)), (qy, .inl (cI, 256, .inl Y)), (qo, .inl (cZ, 256, .inl O))] s.heap := hP
  have hD : va_D A [(h0, .inr (0, [.int wd, .ref qx, .ref qy, .ref qo, .ref qr, .ref ql, .int md, .int cp, .int cc])), (qx, .inl (cI, 256, .inl X)), (qy, .inl (cI, 256, .inl Y)), (qo, .inl (cZ, 256, .inl O))] := hD
  clear hD0 hRES hAe
  unfold ks_point at hres
  generalize hQ : MQ below (va_Qi (fun x (_ : Unit) => x = RES.1) (fun _ t => va_P (dC, dI) cls9 [(h0, .inr (0, [.int wd, .ref qx, .ref qy, .ref qo, .ref qr, .ref ql, .int RES.2.2.2.2, .int cp, .int cc])), (qx, .inl (cI, 256, .inl RES.2.1)), (qy, .inl (cI, 256, .inl RES.2.2.1)), (qo, .inl (cZ, 256, .inl RES.2.2.2.1))] t.heap ∧ va_K (dC, dI) cls9 [(cI, .int), (cZ, .boolean)] t ∧ va_D A [(h0, .inr (0, [.int wd, .ref qx, .ref qy, .ref qo, .ref qr, .ref ql, .int RES.2.2.2.2, .int cp, .int cc])), (qx, .inl (cI, 256, .inl RES.2.1)), (qy, .inl (cI, 256, .inl RES.2.2.1)), (qo, .inl (cZ, 256, .inl RES.2.2.2.1))]) A) args s 0 0 A = Q
  replace hQ := hQ.symm
  refine lv_iload_n hx hb d_S_point_0 rfl (lv_at hl 1 rfl) ?_
  refine cq_Si (As := [.int x]) (rest := []) ⟨hx, hb, hml, hown, hts⟩ (c_ks_in l dC dI x) (va_cwS 1 hts (gi_S tw_89 tw_90 tw_1 tw_91) rfl rfl rfl (by decide +kernel) ⟨(by rw [← hR]; exact Nat.le_of_ble_eq_true rfl), (by rw [← hR]; exact Nat.le_of_ble_eq_true rfl)⟩) rfl rfl hl.1 (Nat.le_of_ble_eq_true rfl) d_S_point_1 ⟨Nat.zero_le _, Nat.zero_le _⟩ hP hS hA (fun H locs hP hS => ?_)
  refine lv_if_eq (tgt := 14) hx hb d_S_point_4 rfl (fun h4 => ?_) (fun h4 => ?_)
  · rw [if_pos h4] at hres
    refine lv_iconst (v := (-1)) hx hb d_S_point_14 (by decide) ?_
    rw [hQ]
    subst hres
    exact W.iret (v := (-1)) hx hb hr (fun t ht hW => ⟨⟨_, (), rfl, rfl, ⟨by rw [ht]; exact hP, va_K.moved hW.alike hK, hD⟩⟩, hS.F ht⟩) hS.2.2 d_S_point_15
  · rw [if_neg h4] at hres
    refine lv_iload_n hx hb d_S_point_7 rfl (lv_at hl 2 rfl) ?_
    refine cq_Si (As := [.int y]) (rest := []) ⟨hx, hb, hml, hown, hts⟩ (c_ks_in l dC dI y) (va_cwS 1 hts (gi_S tw_89 tw_90 tw_1 tw_91) rfl rfl rfl (by decide +kernel) ⟨(by rw [← hR]; exact Nat.le_of_ble_eq_true rfl), (by rw [← hR]; exact Nat.le_of_ble_eq_true rfl)⟩) rfl rfl hl.1 (Nat.le_of_ble_eq_true rfl) d_S_point_8 ⟨Nat.zero_le _, Nat.zero_le _⟩ hP hS hA (fun H locs hP hS => ?_)
    refine lv_if_ne (tgt := 16) hx hb d_S_point_11 rfl (fun h11 => ?_) (fun h11 => ?_)
    · rw [if_neg h11] at hres
      refine lv_aload_n hx hb d_S_point_16 rfl (lv_at hl 0 rfl) ?_
      refine va_get (D := (dC, dI)) (ci := 0) (v := .int cp) (C := R_S) (T := F_S) (N := 9) hx hb hts in_S hown hK hP 0 rfl rfl 7 (by decide) (hts _ tw_64) (fun _ h9 => h9) rfl d_S_point_17 ?_
      refine lv_aload_n hx hb d_S_point_20 rfl (lv_at hl 0 rfl) ?_
      refine va_get (D := (dC, dI)) (ci := 0) (v := .int md) (C := R_S) (T := F_S) (N := 9) hx hb hts in_S hown hK hP 0 rfl rfl 6 (by decide) (hts _ tw_63) (fun _ h9 => h9) rfl d_S_point_21 ?_
      refine lv_iadd hx hb d_S_point_24 ?_
      refine lv_sipush (v := 256) hx hb d_S_point_25 (by decide) ?_
      refine lv_icmp_lt (tgt := 34) hx hb d_S_point_28 rfl (fun h28 => ?_) (fun h28 => ?_)
      · rw [if_pos h28] at hres
        refine lv_aload_n hx hb d_S_point_34 rfl (lv_at hl 0 rfl) ?_
        refine va_get (D := (dC, dI)) (ci := 0) (v := .ref qx) (C := R_S) (T := F_S) (N := 9) hx hb hts in_S hown hK hP 0 rfl rfl 1 (by decide) (hts _ tw_58) (fun _ h9 => h9) rfl d_S_point_35 ?_
        refine lv_aload_n hx hb d_S_point_38 rfl (lv_at hl 0 rfl) ?_
        refine va_get (D := (dC, dI)) (ci := 0) (v := .int md) (C := R_S) (T := F_S) (N := 9) hx hb hts in_S hown hK hP 0 rfl rfl 6 (by decide) (hts _ tw_63) (fun _ h9 => h9) rfl d_S_point_39 ?_
        refine lv_iload_n hx hb d_S_point_42 rfl (lv_at hl 1 rfl) ?_
        refine va_iast hx hb hK hP hD hS 1 0 rfl rfl (by exact cok_in hck h28) d_S_point_43 (fun H locs hP hD hS => ?_)
        have hP : va_P (dC, dI) cls9 [(h0, .inr (0, [.int wd, .ref qx, .ref qy, .ref qo, .ref qr, .ref ql, .int md, .int cp, .int cc])), (qx, .inl (cI, 256, .inl (upd X (Int32.toNatClampNeg md) x))), (qy, .inl (cI, 256, .inl Y)), (qo, .inl (cZ, 256, .inl O))] H := hP
        have hD : va_D A [(h0, .inr (0, [.int wd, .ref qx, .ref qy, .ref qo, .ref qr, .ref ql, .int md, .int cp, .int cc])), (qx, .inl (cI, 256, .inl (upd X (Int32.toNatClampNeg md) x))), (qy, .inl (cI, 256, .inl Y)), (qo, .inl (cZ, 256, .inl O))] := hD
        refine lv_aload_n hx hb d_S_point_44 rfl (lv_at hl 0 rfl) ?_
        refine va_get (D := (dC, dI)) (ci := 0) (v := .ref qy) (C := R_S) (T := F_S) (N := 9) hx hb hts in_S hown hK hP 0 rfl rfl 2 (by decide) (hts _ tw_59) (fun _ h9 => h9) rfl d_S_point_45 ?_
        refine lv_aload_n hx hb d_S_point_48 rfl (lv_at hl 0 rfl) ?_
        refine va_get (D := (dC, dI)) (ci := 0) (v := .int md) (C := R_S) (T := F_S) (N := 9) hx hb hts in_S hown hK hP 0 rfl rfl 6 (by decide) (hts _ tw_63) (fun _ h9 => h9) rfl d_S_point_49 ?_
        refine lv_iload_n hx hb d_S_point_52 rfl (lv_at hl 2 rfl) ?_
        refine va_iast hx hb hK hP hD hS 2 0 rfl rfl (by exact cok_in hck h28) d_S_point_53 (fun H locs hP hD hS => ?_)
        have hP : va_P (dC, dI) cls9 [(h0, .inr (0, [.int wd, .ref qx, .ref qy, .ref qo, .ref qr, .ref ql, .int md, .int cp, .int cc])), (qx, .inl (cI, 256, .inl (upd X (Int32.toNatClampNeg md) x))), (qy, .inl (cI, 256, .inl (upd Y (Int32.toNatClampNeg md) y))), (qo, .inl (cZ, 256, .inl O))] H := hP
        have hD : va_D A [(h0, .inr (0, [.int wd, .ref qx, .ref qy, .ref qo, .ref qr, .ref ql, .int md, .int cp, .int cc])), (qx, .inl (cI, 256, .inl (upd X (Int32.toNatClampNeg md) x))), (qy, .inl (cI, 256, .inl (upd Y (Int32.toNatClampNeg md) y))), (qo, .inl (cZ, 256, .inl O))] := hD
        refine lv_aload_n hx hb d_S_point_54 rfl (lv_at hl 0 rfl) ?_
        refine va_get (D := (dC, dI)) (ci := 0) (v := .ref qo) (C := R_S) (T := F_S) (N := 9) hx hb hts in_S hown hK hP 0 rfl rfl 3 (by decide) (hts _ tw_60) (fun _ h9 => h9) rfl d_S_point_55 ?_
        refine lv_aload_n hx hb d_S_point_58 rfl (lv_at hl 0 rfl) ?_
        refine va_get (D := (dC, dI)) (ci := 0) (v := .int md) (C := R_S) (T := F_S) (N := 9) hx hb hts in_S hown hK hP 0 rfl rfl 6 (by decide) (hts _ tw_63) (fun _ h9 => h9) rfl d_S_point_59 ?_
        refine lv_iload_n hx hb d_S_point_62 rfl (lv_at hl 3 rfl) ?_
        refine va_zast hx hb hK hP hD hS 3 1 rfl rfl (by exact cok_in hck h28) d_S_point_63 (fun H locs hP hD hS => ?_)
        have hP : va_P (dC, dI) cls9 [(h0, .inr (0, [.int wd, .ref qx, .ref qy, .ref qo, .ref qr, .ref ql, .int md, .int cp, .int cc])), (qx, .inl (cI, 256, .inl (upd X (Int32.toNatClampNeg md) x))), (qy, .inl (cI, 256, .inl (upd Y (Int32.toNatClampNeg md) y))), (qo, .inl (cZ, 256, .inl (upd O (Int32.toNatClampNeg md) (vp_nar .boolean o))))] H := hP
        have hD : va_D A [(h0, .inr (0, [.int wd, .ref qx, .ref qy, .ref qo, .ref qr, .ref ql, .int md, .int cp, .int cc])), (qx, .inl (cI, 256, .inl (upd X (Int32.toNatClampNeg md) x))), (qy, .inl (cI, 256, .inl (upd Y (Int32.toNatClampNeg md) y))), (qo, .inl (cZ, 256, .inl (upd O (Int32.toNatClampNeg md) (vp_nar .boolean o))))] := hD
        refine lv_aload_n hx hb d_S_point_64 rfl (lv_at hl 0 rfl) ?_
        refine lv_dup hx hb d_S_point_65 rfl ?_
        refine va_get (D := (dC, dI)) (ci := 0) (v := .int md) (C := R_S) (T := F_S) (N := 9) hx hb hts in_S hown hK hP 0 rfl rfl 6 (by decide) (hts _ tw_63) (fun _ h9 => h9) rfl d_S_point_66 ?_
        refine lv_iconst (v := 1) hx hb d_S_point_69 (by decide) ?_
        refine lv_iadd hx hb d_S_point_70 ?_
        refine va_put (D := (dC, dI)) (ci := 0) (v := .int (md + 1)) (ty := .int) (C := R_S) (T := F_S) (N := 9) hx hb hts in_S tf_S tok_S n_S hown hK hP hD hS 0 rfl rfl 6 (by decide) (hts _ tw_63) (fun _ h9 => h9) rfl (by decide +kernel) (by rfl) (by rfl) (Nat.le_of_ble_eq_true rfl) d_S_point_71 (fun H locs hP hD hS => ?_)
        have hP : va_P (dC, dI) cls9 [(h0, .inr (0, [.int wd, .ref qx, .ref qy, .ref qo, .ref qr, .ref ql, .int (md + 1), .int cp, .int cc])), (qx, .inl (cI, 256, .inl (upd X (Int32.toNatClampNeg md) x))), (qy, .inl (cI, 256, .inl (upd Y (Int32.toNatClampNeg md) y))), (qo, .inl (cZ, 256, .inl (upd O (Int32.toNatClampNeg md) (vp_nar .boolean o))))] H := hP
        have hD : va_D A [(h0, .inr (0, [.int wd, .ref qx, .ref qy, .ref qo, .ref qr, .ref ql, .int (md + 1), .int cp, .int cc])), (qx, .inl (cI, 256, .inl (upd X (Int32.toNatClampNeg md) x))), (qy, .inl (cI, 256, .inl (upd Y (Int32.toNatClampNeg md) y))), (qo, .inl (cZ, 256, .inl (upd O (Int32.toNatClampNeg md) (vp_nar .boolean o))))] := hD
        refine lv_aload_n hx hb d_S_point_74 rfl (lv_at hl 0 rfl) ?_
        refine va_get (D := (dC, dI)) (ci := 0) (v := .int (md + 1)) (C := R_S) (T := F_S) (N := 9) hx hb hts in_S hown hK hP 0 rfl rfl 6 (by decide) (hts _ tw_63) (fun _ h9 => h9) rfl d_S_point_75 ?_
        rw [hQ]
        subst hres
        exact W.iret (v := md + 1) hx hb hr (fun t ht hW => ⟨⟨_, (), rfl, rfl, ⟨by rw [ht]; exact hP, va_K.moved hW.alike hK, hD⟩⟩, hS.F ht⟩) hS.2.2 d_S_point_78
      · rw [if_neg h28] at hres
        refine lv_bipush (v := (-3)) hx hb d_S_point_31 (by decide) ?_
        rw [hQ]
        subst hres
        exact W.iret (v := (-3)) hx hb hr (fun t ht hW => ⟨⟨_, (), rfl, rfl, ⟨by rw [ht]; exact hP, va_K.moved hW.alike hK, hD⟩⟩, hS.F ht⟩) hS.2.2 d_S_point_33
    · rw [if_pos h11] at hres
      refine lv_iconst (v := (-1)) hx hb d_S_point_14 (by decide) ?_
      rw [hQ]
      subst hres
      exact W.iret (v := (-1)) hx hb hr (fun t ht hW => ⟨⟨_, (), rfl, rfl, ⟨by rw [ht]; exact hP, va_K.moved hW.alike hK, hD⟩⟩, hS.F ht⟩) hS.2.2 d_S_point_15
def ks_count (wd : Int32) (md : Int32) (cp : Int32) (cc : Int32) (what : Int32) : Int32 := (if what = 0 then wd else (if what = 1 then cc else (if what = 2 then (cp + md) else (if what = 3 then md else (-1)))))
set_option maxHeartbeats 4000000 in
set_option maxRecDepth 100000 in
theorem c_ks_count (l : Launch) (dC : Nat → ClassId) (dI : Nat → Nat → Nat) (h0 : Nat) (qx : Nat) (qy : Nat) (qo : Nat) (qr : Nat) (ql : Nat) (wd : Int32) (md : Int32) (cp : Int32) (cc : Int32) (what : Int32)  : mc_i l y_S_count w_S_count { frames := 0, cells := 0, slots := 0, locals := 0 } (dC, dI) cls9 [(h0, .inr (0, [.int wd, .ref qx, .ref qy, .ref qo, .ref qr, .ref ql, .int md, .int cp, .int cc]))] [(h0, .inr (0, [.int wd, .ref qx, .ref qy, .ref qo, .ref qr, .ref ql, .int md, .int cp, .int cc]))] [] [.ref h0, .int what] (ks_count wd md cp cc what) := by
  intro sz
  refine Met.ofW (cc := b_S_count) (maxL := 2) (ret := (some .int)) (by decide) rfl ?_
  intro p e s m args below meth c s₁ B hml hv
  obtain ⟨hargs, hsz, hP, hK, hD0⟩ := hv
  have hx := B.exec
  have hb := B.bytes
  have hr := B.returns
  have hts : ∀ w ∈ lw_w, w.before args s = true := fun w h => atoms_spec (ws := w_S_count) B.pre w (List.mem_cons_of_mem _ h)
  have hown : s.vm.findClass R_S = some m.cls := findClass_of_methodNamed B.named
  have hlocks := B.notSynchronized
  subst hsz
  have hD := hD0.self (sz := s.heap.size)
  generalize hR : (headSpec w_S_count { frames := 0, cells := 0, slots := 0, locals := 0 }).room = R
  generalize hAe : va_A [(h0, .inr (0, [.int wd, .ref qx, .ref qy, .ref qo, .ref qr, .ref ql, .int md, .int cp, .int cc]))] s.heap.size = A at hD ⊢
  have hA : ∀ q : Nat, s.heap.size ≤ q → A q := fun q h => by rw [← hAe]; exact Or.inr h
  have hS : va_S A s.heap s.heap [] := va_S.rf
  generalize hRES : ks_count wd md cp cc what = RES
  have hres := hRES
  have hl := lv_entry [.ref h0, .int what] (n := 2) (Nat.le_of_ble_eq_true rfl)
  have hent : entryFrame m args 2 = F0 m 0 (lg_sl [.ref h0, .int what] ++ List.replicate (2 - (lg_sl [.ref h0, .int what]).length) Slot.unset).toArray [] := by rw [hargs]; exact lg_entry_eq m [.ref h0, .int what] 2
  rw [hent]
  clear hent
  generalize (lg_sl [.ref h0, .int what] ++ List.replicate (2 - (lg_sl [.ref h0, .int what]).length) Slot.unset).toArray = ls at hl ⊢
  have hl : lv_has ls 2 [(0, .ref h0), (1, .int what)] := hl
  have hP : va_P (dC, dI) cls9 [(h0, .inr (0, [.int wd, .ref qx, .ref qy, .ref qo, .ref qr, .ref ql, .int md, .int cp, .int cc]))] s.heap := hP
  have hD : va_D A [(h0, .inr (0, [.int wd, .ref qx, .ref qy, .ref qo, .ref qr, .ref ql, .int md, .int cp, .int cc]))] := hD
  clear hD0 hRES hAe
  unfold ks_count at hres
  generalize hQ : MQ below (va_Qi (fun x (_ : Unit) => x = RES) (fun _ t => va_P (dC, dI) cls9 [(h0, .inr (0, [.int wd, .ref qx, .ref qy, .ref qo, .ref qr, .ref ql, .int md, .int cp, .int cc]))] t.heap ∧ va_K (dC, dI) cls9 [] t ∧ va_D A [(h0, .inr (0, [.int wd, .ref qx, .ref qy, .ref qo, .ref qr, .ref ql, .int md, .int cp, .int cc]))]) A) args s 0 0 A = Q
  replace hQ := hQ.symm
  refine lv_iload_n hx hb d_S_count_0 rfl (lv_at hl 1 rfl) ?_
  by_cases hs1_0 : what = 0
  · rw [if_pos hs1_0] at hres
    refine lv_tableIn (off := 31) (tgt := 32) hx hb d_S_count_1 (by rw [hs1_0]; decide) (by rw [hs1_0]; decide) (by rw [hs1_0]; rfl) rfl ?_
    refine lv_aload_n hx hb d_S_count_32 rfl (lv_at hl 0 rfl) ?_
    refine va_get (D := (dC, dI)) (ci := 0) (v := .int wd) (C := R_S) (T := F_S) (N := 9) hx hb hts in_S hown hK hP 0 rfl rfl 0 (by decide) (hts _ tw_57) (fun _ h9 => h9) rfl d_S_count_33 ?_
    rw [hQ]
    subst hres
    exact W.iret (v := wd) hx hb hr (fun t ht hW => ⟨⟨_, (), rfl, rfl, ⟨by rw [ht]; exact hP, va_K.moved hW.alike hK, hD⟩⟩, hS.F ht⟩) hS.2.2 d_S_count_36
  · rw [if_neg hs1_0] at hres
    by_cases hs1_1 : what = 1
    · rw [if_pos hs1_1] at hres
      refine lv_tableIn (off := 36) (tgt := 37) hx hb d_S_count_1 (by rw [hs1_1]; decide) (by rw [hs1_1]; decide) (by rw [hs1_1]; rfl) rfl ?_
      refine lv_aload_n hx hb d_S_count_37 rfl (lv_at hl 0 rfl) ?_
      refine va_get (D := (dC, dI)) (ci := 0) (v := .int cc) (C := R_S) (T := F_S) (N := 9) hx hb hts in_S hown hK hP 0 rfl rfl 8 (by decide) (hts _ tw_65) (fun _ h9 => h9) rfl d_S_count_38 ?_
      rw [hQ]
      subst hres
      exact W.iret (v := cc) hx hb hr (fun t ht hW => ⟨⟨_, (), rfl, rfl, ⟨by rw [ht]; exact hP, va_K.moved hW.alike hK, hD⟩⟩, hS.F ht⟩) hS.2.2 d_S_count_41
    · rw [if_neg hs1_1] at hres
      by_cases hs1_2 : what = 2
      · rw [if_pos hs1_2] at hres
        refine lv_tableIn (off := 41) (tgt := 42) hx hb d_S_count_1 (by rw [hs1_2]; decide) (by rw [hs1_2]; decide) (by rw [hs1_2]; rfl) rfl ?_
        refine lv_aload_n hx hb d_S_count_42 rfl (lv_at hl 0 rfl) ?_
        refine va_get (D := (dC, dI)) (ci := 0) (v := .int cp) (C := R_S) (T := F_S) (N := 9) hx hb hts in_S hown hK hP 0 rfl rfl 7 (by decide) (hts _ tw_64) (fun _ h9 => h9) rfl d_S_count_43 ?_
        refine lv_aload_n hx hb d_S_count_46 rfl (lv_at hl 0 rfl) ?_
        refine va_get (D := (dC, dI)) (ci := 0) (v := .int md) (C := R_S) (T := F_S) (N := 9) hx hb hts in_S hown hK hP 0 rfl rfl 6 (by decide) (hts _ tw_63) (fun _ h9 => h9) rfl d_S_count_47 ?_
        refine lv_iadd hx hb d_S_count_50 ?_
        rw [hQ]
        subst hres
        exact W.iret (v := cp + md) hx hb hr (fun t ht hW => ⟨⟨_, (), rfl, rfl, ⟨by rw [ht]; exact hP, va_K.moved hW.alike hK, hD⟩⟩, hS.F ht⟩) hS.2.2 d_S_count_51
      · rw [if_neg hs1_2] at hres
        by_cases hs1_3 : what = 3
        · rw [if_pos hs1_3] at hres
          refine lv_tableIn (off := 51) (tgt := 52) hx hb d_S_count_1 (by rw [hs1_3]; decide) (by rw [hs1_3]; decide) (by rw [hs1_3]; rfl) rfl ?_
          refine lv_aload_n hx hb d_S_count_52 rfl (lv_at hl 0 rfl) ?_
          refine va_get (D := (dC, dI)) (ci := 0) (v := .int md) (C := R_S) (T := F_S) (N := 9) hx hb hts in_S hown hK hP 0 rfl rfl 6 (by decide) (hts _ tw_63) (fun _ h9 => h9) rfl d_S_count_53 ?_
          rw [hQ]
          subst hres
          exact W.iret (v := md) hx hb hr (fun t ht hW => ⟨⟨_, (), rfl, rfl, ⟨by rw [ht]; exact hP, va_K.moved hW.alike hK, hD⟩⟩, hS.F ht⟩) hS.2.2 d_S_count_56
        · rw [if_neg hs1_3] at hres
          refine lv_tableOut (tgt := 57) hx hb d_S_count_1 (by have a0 := lv_neT hs1_0 (show (0 : Int32).toInt = 0 by decide); have a1 := lv_neT hs1_1 (show (1 : Int32).toInt = 1 by decide); have a2 := lv_neT hs1_2 (show (2 : Int32).toInt = 2 by decide); have a3 := lv_neT hs1_3 (show (3 : Int32).toInt = 3 by decide); omega) rfl ?_
          refine lv_iconst (v := (-1)) hx hb d_S_count_57 (by decide) ?_
          rw [hQ]
          subst hres
          exact W.iret (v := (-1)) hx hb hr (fun t ht hW => ⟨⟨_, (), rfl, rfl, ⟨by rw [ht]; exact hP, va_K.moved hW.alike hK, hD⟩⟩, hS.F ht⟩) hS.2.2 d_S_count_58
def ks_joint (alf : Nat → Int32) (O : Nat → Int32) (nb : Int32) (bd : Int32) : Int32 := (if (O (Int32.toNatClampNeg nb)) = 0 then ((alf (Int32.toNatClampNeg nb)) + (alf (Int32.toNatClampNeg bd))) else (2 * (alf (Int32.toNatClampNeg nb))))
set_option maxHeartbeats 4000000 in
set_option maxRecDepth 100000 in
theorem c_ks_joint (l : Launch) (dC : Nat → ClassId) (dI : Nat → Nat → Nat) (h0 : Nat) (al : Nat) (qo : Nat) (cI : ClassId) (cZ : ClassId) (wd : Int32) (qx : Nat) (qy : Nat) (qr : Nat) (ql : Nat) (md : Int32) (cp : Int32) (cc : Int32) (alf : Nat → Int32) (O : Nat → Int32) (nb : Int32) (bd : Int32) (hnb : vp_in nb 256) (hbd : vp_in bd 256) : pr_i l y_S_joint w_S_joint { frames := 0, cells := 0, slots := 0, locals := 0 } (dC, dI) cls9 [(h0, .inr (0, [.int wd, .ref qx, .ref qy, .ref qo, .ref qr, .ref ql, .int md, .int cp, .int cc])), (al, .inl (cI, 256, .inl alf)), (qo, .inl (cZ, 256, .inl O))] [(cI, .int), (cZ, .boolean)] [.ref h0, .ref al, .int nb, .int bd] (ks_joint alf O nb bd) := by
  intro sz
  refine Met.ofW (cc := b_S_joint) (maxL := 4) (ret := (some .int)) (by decide) rfl ?_
  intro p e s m args below meth c s₁ B hml hv
  obtain ⟨hargs, hsz, hP, hK⟩ := hv
  have hx := B.exec
  have hb := B.bytes
  have hr := B.returns
  have hts : ∀ w ∈ lw_w, w.before args s = true := fun w h => atoms_spec (ws := w_S_joint) B.pre w (List.mem_cons_of_mem _ h)
  have hown : s.vm.findClass R_S = some m.cls := findClass_of_methodNamed B.named
  have hlocks := B.notSynchronized
  subst hsz
  generalize hR : (headSpec w_S_joint { frames := 0, cells := 0, slots := 0, locals := 0 }).room = R
  generalize hAe : (fun q : Nat => s.heap.size ≤ q) = A
  have hA : ∀ q : Nat, s.heap.size ≤ q → A q := fun q h => by rw [← hAe]; exact h
  have hS : va_S A s.heap s.heap [] := va_S.rf
  generalize hRES : ks_joint alf O nb bd = RES
  have hres := hRES
  have hl := lv_entry [.ref h0, .ref al, .int nb, .int bd] (n := 4) (Nat.le_of_ble_eq_true rfl)
  have hent : entryFrame m args 4 = F0 m 0 (lg_sl [.ref h0, .ref al, .int nb, .int bd] ++ List.replicate (4 - (lg_sl [.ref h0, .ref al, .int nb, .int bd]).length) Slot.unset).toArray [] := by rw [hargs]; exact lg_entry_eq m [.ref h0, .ref al, .int nb, .int bd] 4
  rw [hent]
  clear hent
  generalize (lg_sl [.ref h0, .ref al, .int nb, .int bd] ++ List.replicate (4 - (lg_sl [.ref h0, .ref al, .int nb, .int bd]).length) Slot.unset).toArray = ls at hl ⊢
  have hl : lv_has ls 4 [(0, .ref h0), (1, .ref al), (2, .int nb), (3, .int bd)] := hl
  have hP : va_P (dC, dI) cls9 [(h0, .inr (0, [.int wd, .ref qx, .ref qy, .ref qo, .ref qr, .ref ql, .int md, .int cp, .int cc])), (al, .inl (cI, 256, .inl alf)), (qo, .inl (cZ, 256, .inl O))] s.heap := hP
  unfold ks_joint at hres
  generalize hQ : MQ below (va_Qi (fun x (_ : Unit) => x = RES) (fun _ _ => True) A) args s 0 0 A = Q
  replace hQ := hQ.symm
  refine lv_aload_n hx hb d_S_joint_0 rfl (lv_at hl 0 rfl) ?_
  refine va_get (D := (dC, dI)) (ci := 0) (v := .ref qo) (C := R_S) (T := F_S) (N := 9) hx hb hts in_S hown hK hP 0 rfl rfl 3 (by decide) (hts _ tw_60) (fun _ h9 => h9) rfl d_S_joint_1 ?_
  refine lv_iload_n hx hb d_S_joint_4 rfl (lv_at hl 2 rfl) ?_
  refine va_zald hx hb hK hP 2 1 rfl rfl (by exact hnb) d_S_joint_5 ?_
  refine lv_if_eq (tgt := 17) hx hb d_S_joint_6 rfl (fun h6 => ?_) (fun h6 => ?_)
  · rw [if_pos h6] at hres
    refine lv_aload_n hx hb d_S_joint_17 rfl (lv_at hl 1 rfl) ?_
    refine lv_iload_n hx hb d_S_joint_18 rfl (lv_at hl 2 rfl) ?_
    refine va_iald hx hb hK hP 1 0 rfl rfl (by exact hnb) d_S_joint_19 ?_
    refine lv_aload_n hx hb d_S_joint_20 rfl (lv_at hl 1 rfl) ?_
    refine lv_iload_n hx hb d_S_joint_21 rfl (lv_at hl 3 rfl) ?_
    refine va_iald hx hb hK hP 1 0 rfl rfl (by exact hbd) d_S_joint_22 ?_
    refine lv_iadd hx hb d_S_joint_23 ?_
    rw [hQ]
    exact W.iret (v := (alf (Int32.toNatClampNeg nb)) + (alf (Int32.toNatClampNeg bd))) hx hb hr (fun t ht hW => ⟨⟨_, (), rfl, hres, trivial⟩, hS.F ht⟩) hS.2.2 d_S_joint_24
  · rw [if_neg h6] at hres
    refine lv_iconst (v := 2) hx hb d_S_joint_9 (by decide) ?_
    refine lv_aload_n hx hb d_S_joint_10 rfl (lv_at hl 1 rfl) ?_
    refine lv_iload_n hx hb d_S_joint_11 rfl (lv_at hl 2 rfl) ?_
    refine va_iald hx hb hK hP 1 0 rfl rfl (by exact hnb) d_S_joint_12 ?_
    refine lv_imul hx hb d_S_joint_13 ?_
    refine lv_goto (tgt := 24) hx hb d_S_joint_14 rfl ?_
    rw [hQ]
    exact W.iret (v := 2 * (alf (Int32.toNatClampNeg nb))) hx hb hr (fun t ht hW => ⟨⟨_, (), rfl, hres, trivial⟩, hS.F ht⟩) hS.2.2 d_S_joint_24
def kj_fill_L5 (v : Int32) : Nat → (Int32) → (Nat → Int32) → (Nat → Int32)
  | 0, _, _ => (fun _ => 0)
  | n+1, k, g => (if (Int32.ofNat 64) ≤ k then g else ((kj_fill_L5 v n) (k + 1) (upd g (Int32.toNatClampNeg k) v)))
def kj_fill (f : Nat → Int32) (v : Int32) : (Nat → Int32) := (kj_fill_L5 v 65 0 f)
set_option maxHeartbeats 4000000 in
set_option maxRecDepth 100000 in
theorem c_kj_fill (l : Launch) (dC : Nat → ClassId) (dI : Nat → Nat → Nat) (r : Nat) (cI : ClassId) (f : Nat → Int32) (v : Int32)  : mc_v l y_Y_fill w_Y_fill { frames := 0, cells := 0, slots := 0, locals := 0 } (dC, dI) cls9 [(r, .inl (cI, 64, .inl f))] [(r, .inl (cI, 64, .inl (kj_fill f v)))] [(cI, .int)] [.ref r, .int v] := by
  intro sz
  refine Met.ofW (cc := b_Y_fill) (maxL := 4) (ret := none) (by decide) rfl ?_
  intro p e s m args below meth c s₁ B hml hv
  obtain ⟨hargs, hsz, hP, hK, hD0⟩ := hv
  have hx := B.exec
  have hb := B.bytes
  have hr := B.returns
  have hts : ∀ w ∈ lw_w, w.before args s = true := fun w h => atoms_spec (ws := w_Y_fill) B.pre w (List.mem_cons_of_mem _ h)
  have hown : s.vm.findClass R_Y = some m.cls := findClass_of_methodNamed B.named
  have hlocks := B.notSynchronized
  subst hsz
  have hD := hD0.self (sz := s.heap.size)
  generalize hR : (headSpec w_Y_fill { frames := 0, cells := 0, slots := 0, locals := 0 }).room = R
  generalize hAe : va_A [(r, .inl (cI, 64, .inl f))] s.heap.size = A at hD ⊢
  have hA : ∀ q : Nat, s.heap.size ≤ q → A q := fun q h => by rw [← hAe]; exact Or.inr h
  have hS : va_S A s.heap s.heap [] := va_S.rf
  generalize hRES : kj_fill f v = RES
  have hres := hRES
  have hl := lv_entry [.ref r, .int v] (n := 4) (Nat.le_of_ble_eq_true rfl)
  have hent : entryFrame m args 4 = F0 m 0 (lg_sl [.ref r, .int v] ++ List.replicate (4 - (lg_sl [.ref r, .int v]).length) Slot.unset).toArray [] := by rw [hargs]; exact lg_entry_eq m [.ref r, .int v] 4
  rw [hent]
  clear hent
  generalize (lg_sl [.ref r, .int v] ++ List.replicate (4 - (lg_sl [.ref r, .int v]).length) Slot.unset).toArray = ls at hl ⊢
  have hl : lv_has ls 4 [(0, .ref r), (1, .int v)] := hl
  have hP : va_P (dC, dI) cls9 [(r, .inl (cI, 64, .inl f))] s.heap := hP
  have hD : va_D A [(r, .inl (cI, 64, .inl f))] := hD
  clear hD0 hRES hAe
  unfold kj_fill at hres
  generalize hQ : MQ below (va_Qv (fun (_ : Unit) => True) (fun _ t => va_P (dC, dI) cls9 [(r, .inl (cI, 64, .inl RES))] t.heap ∧ va_K (dC, dI) cls9 [(cI, .int)] t ∧ va_D A [(r, .inl (cI, 64, .inl RES))]) A) args s 0 0 A = Q
  replace hQ := hQ.symm
  refine lv_iconst (v := 0) hx hb d_Y_fill_0 (by decide) ?_
  refine lv_istore_n (lv' := [(2, .int 0), (0, .ref r), (1, .int v)]) hx hb d_Y_fill_1 rfl hl (by decide) rfl (fun ls hl => ?_)
  refine lv_aload_n hx hb d_Y_fill_2 rfl (lv_at hl 1 rfl) ?_
  refine va_alen (v := Int32.ofNat 64) hx hb hK hP 0 0 rfl rfl rfl d_Y_fill_3 ?_
  refine lv_istore_n (lv' := [(3, .int (Int32.ofNat 64)), (2, .int 0), (0, .ref r), (1, .int v)]) hx hb d_Y_fill_4 rfl hl (by decide) rfl (fun ls hl => ?_)
  have L5 : ∀ (n : Nat) (k : Int32) (g : Nat → Int32), (lu 64 k) → 64 - k.toNatClampNeg < n → kj_fill_L5 v n k g = RES → ∀ (ls : Array Slot) (H : Heap) (locs : List Loc), lv_has ls 4 [(3, .int (Int32.ofNat 64)), (2, .int k), (0, .ref r), (1, .int v)] → va_P (dC, dI) cls9 [(r, .inl (cI, 64, .inl g))] H → va_D A [(r, .inl (cI, 64, .inl g))] → va_S A s.heap H locs → W p l e R s m args below meth c H locs 0 0 Q (F0 m 5 ls []) := by
    intro n
    induction n with
    | zero => intro k g hinv hmu; exact absurd hmu (Nat.not_lt_zero _)
    | succ n ih =>
      intro k g hinv hmu hres ls H locs hl hP hD hS
      rw [kj_fill_L5] at hres
      refine lv_iload_n hx hb d_Y_fill_5 rfl (lv_at hl 1 rfl) ?_
      refine lv_iload_n hx hb d_Y_fill_6 rfl (lv_at hl 0 rfl) ?_
      refine lv_icmp_ge (tgt := 20) hx hb d_Y_fill_7 rfl (fun h7 => ?_) (fun h7 => ?_)
      · rw [if_pos h7] at hres
        rw [hQ]
        subst hres
        exact W.vret hx hb hr (fun t ht hW => ⟨⟨(), rfl, trivial, ⟨by rw [ht]; exact hP, va_K.moved hW.alike hK, hD⟩⟩, hS.F ht⟩) hS.2.2 d_Y_fill_20
      · rw [if_neg h7] at hres
        refine lv_aload_n hx hb d_Y_fill_10 rfl (lv_at hl 2 rfl) ?_
        refine lv_iload_n hx hb d_Y_fill_11 rfl (lv_at hl 1 rfl) ?_
        refine lv_iload_n hx hb d_Y_fill_12 rfl (lv_at hl 3 rfl) ?_
        refine va_iast hx hb hK hP hD hS 0 0 rfl rfl (by exact (lu_step (N := 64) (by decide) hinv h7).2.1) d_Y_fill_13 (fun H locs hP hD hS => ?_)
        have hP : va_P (dC, dI) cls9 [(r, .inl (cI, 64, .inl (upd g (Int32.toNatClampNeg k) v)))] H := hP
        have hD : va_D A [(r, .inl (cI, 64, .inl (upd g (Int32.toNatClampNeg k) v)))] := hD
        refine lv_iinc (k := 1) (v := k + 1) (lv' := [(2, .int (k + 1)), (3, .int (Int32.ofNat 64)), (0, .ref r), (1, .int v)]) hx hb d_Y_fill_14 hl rfl rfl (by decide) rfl (fun ls hl => ?_)
        refine lv_goto (tgt := 5) hx hb d_Y_fill_17 rfl ?_
        exact ih (k + 1) (upd g (Int32.toNatClampNeg k) v) (by exact (lu_step (N := 64) (by decide) hinv h7).1) (by have h9 := (lu_step (N := 64) (by decide) hinv h7).2.2; omega) hres ls _ _ (lv_sub hl [1, 0, 2, 3] rfl) hP hD hS
  exact L5 65 0 f (by exact lu_0 _) (by decide) hres ls _ _ (lv_sub hl [0, 1, 2, 3] rfl) hP hD hS
def kl_size (sz : Int32) : Int32 := sz
set_option maxHeartbeats 4000000 in
set_option maxRecDepth 100000 in
theorem c_kl_size (l : Launch) (dC : Nat → ClassId) (dI : Nat → Nat → Nat) (h0 : Nat) (mc : Int32) (ed : Nat) (sz : Int32)  : pr_i l y_T_size w_T_size { frames := 0, cells := 0, slots := 0, locals := 0 } (dC, dI) cls9 [(h0, .inr (3, [.int mc, .ref ed, .int sz]))] [] [.ref h0] (kl_size sz) := by
  intro sz
  refine Met.ofW (cc := b_T_size) (maxL := 1) (ret := (some .int)) (by decide) rfl ?_
  intro p e s m args below meth c s₁ B hml hv
  obtain ⟨hargs, hsz, hP, hK⟩ := hv
  have hx := B.exec
  have hb := B.bytes
  have hr := B.returns
  have hts : ∀ w ∈ lw_w, w.before args s = true := fun w h => atoms_spec (ws := w_T_size) B.pre w (List.mem_cons_of_mem _ h)
  have hown : s.vm.findClass R_T = some m.cls := findClass_of_methodNamed B.named
  have hlocks := B.notSynchronized
  subst hsz
  generalize hR : (headSpec w_T_size { frames := 0, cells := 0, slots := 0, locals := 0 }).room = R
  generalize hAe : (fun q : Nat => s.heap.size ≤ q) = A
  have hA : ∀ q : Nat, s.heap.size ≤ q → A q := fun q h => by rw [← hAe]; exact h
  have hS : va_S A s.heap s.heap [] := va_S.rf
  generalize hRES : kl_size sz = RES
  have hres := hRES
  have hl := lv_entry [.ref h0] (n := 1) (Nat.le_of_ble_eq_true rfl)
  have hent : entryFrame m args 1 = F0 m 0 (lg_sl [.ref h0] ++ List.replicate (1 - (lg_sl [.ref h0]).length) Slot.unset).toArray [] := by rw [hargs]; exact lg_entry_eq m [.ref h0] 1
  rw [hent]
  clear hent
  generalize (lg_sl [.ref h0] ++ List.replicate (1 - (lg_sl [.ref h0]).length) Slot.unset).toArray = ls at hl ⊢
  have hl : lv_has ls 1 [(0, .ref h0)] := hl
  have hP : va_P (dC, dI) cls9 [(h0, .inr (3, [.int mc, .ref ed, .int sz]))] s.heap := hP
  unfold kl_size at hres
  generalize hQ : MQ below (va_Qi (fun x (_ : Unit) => x = RES) (fun _ _ => True) A) args s 0 0 A = Q
  replace hQ := hQ.symm
  refine lv_aload_n hx hb d_T_size_0 rfl (lv_at hl 0 rfl) ?_
  refine va_get (D := (dC, dI)) (ci := 3) (v := .int sz) (C := R_T) (T := F_T) (N := 3) hx hb hts in_T hown hK hP 0 rfl rfl 2 (by decide) (hts _ tw_44) (fun _ h9 => h9) rfl d_T_size_1 ?_
  rw [hQ]
  exact W.iret (v := sz) hx hb hr (fun t ht hW => ⟨⟨_, (), rfl, hres, trivial⟩, hS.F ht⟩) hS.2.2 d_T_size_4
def kj_chk3 (a : Int32) (b : Int32) : Int32 := a
set_option maxHeartbeats 4000000 in
set_option maxRecDepth 100000 in
theorem c_kj_chk3 (l : Launch) (dC : Nat → ClassId) (dI : Nat → Nat → Nat) (a : Int32) (b : Int32) (hx0 : ¬ a < 0) (hx1 : a < b) : pr_i l y_Q_checkIndex w_Q_checkIndex { frames := 0, cells := 0, slots := 0, locals := 0 } (dC, dI) cls9 [] [] [.int a, .int b, .null] (kj_chk3 a b) := by
  intro sz
  refine Met.ofW (cc := b_Q_checkIndex) (maxL := 3) (ret := (some .int)) (by decide) rfl ?_
  intro p e s m args below meth c s₁ B hml hv
  obtain ⟨hargs, hsz, hP, hK⟩ := hv
  have hx := B.exec
  have hb := B.bytes
  have hr := B.returns
  have hts : ∀ w ∈ lw_w, w.before args s = true := fun w h => atoms_spec (ws := w_Q_checkIndex) B.pre w (List.mem_cons_of_mem _ h)
  have hown : s.vm.findClass R_Q = some m.cls := findClass_of_methodNamed B.named
  have hlocks := B.notSynchronized
  subst hsz
  generalize hR : (headSpec w_Q_checkIndex { frames := 0, cells := 0, slots := 0, locals := 0 }).room = R
  generalize hAe : (fun q : Nat => s.heap.size ≤ q) = A
  have hA : ∀ q : Nat, s.heap.size ≤ q → A q := fun q h => by rw [← hAe]; exact h
  have hS : va_S A s.heap s.heap [] := va_S.rf
  generalize hRES : kj_chk3 a b = RES
  have hres := hRES
  have hl := lv_entry [.int a, .int b, .null] (n := 3) (Nat.le_of_ble_eq_true rfl)
  have hent : entryFrame m args 3 = F0 m 0 (lg_sl [.int a, .int b, .null] ++ List.replicate (3 - (lg_sl [.int a, .int b, .null]).length) Slot.unset).toArray [] := by rw [hargs]; exact lg_entry_eq m [.int a, .int b, .null] 3
  rw [hent]
  clear hent
  generalize (lg_sl [.int a, .int b, .null] ++ List.replicate (3 - (lg_sl [.int a, .int b, .null]).length) Slot.unset).toArray = ls at hl ⊢
  have hl : lv_has ls 3 [(0, .int a), (1, .int b), (2, .null)] := hl
  have hP : va_P (dC, dI) cls9 [] s.heap := hP
  unfold kj_chk3 at hres
  generalize hQ : MQ below (va_Qi (fun x (_ : Unit) => x = RES) (fun _ _ => True) A) args s 0 0 A = Q
  replace hQ := hQ.symm
  refine lv_iload_n hx hb d_Q_checkIndex_0 rfl (lv_at hl 0 rfl) ?_
  refine lv_if_lt (tgt := 9) hx hb d_Q_checkIndex_1 rfl (fun h1 => ?_) (fun h1 => ?_)
  · exact absurd h1 (by exact hx0)
  · refine lv_iload_n hx hb d_Q_checkIndex_4 rfl (lv_at hl 0 rfl) ?_
    refine lv_iload_n hx hb d_Q_checkIndex_5 rfl (lv_at hl 1 rfl) ?_
    refine lv_icmp_lt (tgt := 16) hx hb d_Q_checkIndex_6 rfl (fun h6 => ?_) (fun h6 => ?_)
    · refine lv_iload_n hx hb d_Q_checkIndex_16 rfl (lv_at hl 0 rfl) ?_
      rw [hQ]
      exact W.iret (v := a) hx hb hr (fun t ht hW => ⟨⟨_, (), rfl, hres, trivial⟩, hS.F ht⟩) hS.2.2 d_Q_checkIndex_17
    · exact absurd h6 (by exact fun z => z hx1)
def kj_chk (a : Int32) (b : Int32) : Int32 := (kj_chk3 a b)
set_option maxHeartbeats 4000000 in
set_option maxRecDepth 100000 in
theorem c_kj_chk (l : Launch) (dC : Nat → ClassId) (dI : Nat → Nat → Nat) (a : Int32) (b : Int32) (hx0 : ¬ a < 0) (hx1 : a < b) : pr_i l y_O_checkIndex w_O_checkIndex { frames := 1, cells := 0, slots := 0, locals := 22 } (dC, dI) cls9 [] [] [.int a, .int b] (kj_chk a b) := by
  intro sz
  refine Met.ofW (cc := b_O_checkIndex) (maxL := 2) (ret := (some .int)) (by decide) rfl ?_
  intro p e s m args below meth c s₁ B hml hv
  obtain ⟨hargs, hsz, hP, hK⟩ := hv
  have hx := B.exec
  have hb := B.bytes
  have hr := B.returns
  have hts : ∀ w ∈ lw_w, w.before args s = true := fun w h => atoms_spec (ws := w_O_checkIndex) B.pre w (List.mem_cons_of_mem _ h)
  have hown : s.vm.findClass R_O = some m.cls := findClass_of_methodNamed B.named
  have hlocks := B.notSynchronized
  subst hsz
  generalize hR : (headSpec w_O_checkIndex { frames := 1, cells := 0, slots := 0, locals := 22 }).room = R
  generalize hAe : (fun q : Nat => s.heap.size ≤ q) = A
  have hA : ∀ q : Nat, s.heap.size ≤ q → A q := fun q h => by rw [← hAe]; exact h
  have hS : va_S A s.heap s.heap [] := va_S.rf
  generalize hRES : kj_chk a b = RES
  have hres := hRES
  have hl := lv_entry [.int a, .int b] (n := 2) (Nat.le_of_ble_eq_true rfl)
  have hent : entryFrame m args 2 = F0 m 0 (lg_sl [.int a, .int b] ++ List.replicate (2 - (lg_sl [.int a, .int b]).length) Slot.unset).toArray [] := by rw [hargs]; exact lg_entry_eq m [.int a, .int b] 2
  rw [hent]
  clear hent
  generalize (lg_sl [.int a, .int b] ++ List.replicate (2 - (lg_sl [.int a, .int b]).length) Slot.unset).toArray = ls at hl ⊢
  have hl : lv_has ls 2 [(0, .int a), (1, .int b)] := hl
  have hP : va_P (dC, dI) cls9 [] s.heap := hP
  unfold kj_chk at hres
  generalize hQ : MQ below (va_Qi (fun x (_ : Unit) => x = RES) (fun _ _ => True) A) args s 0 0 A = Q
  replace hQ := hQ.symm
  refine lv_iload_n hx hb d_O_checkIndex_0 rfl (lv_at hl 0 rfl) ?_
  refine lv_iload_n hx hb d_O_checkIndex_1 rfl (lv_at hl 1 rfl) ?_
  refine lv_null hx hb d_O_checkIndex_2 ?_
  refine cr_Si (As := [.int a, .int b, .null]) (rest := []) (w1 := []) (tys := []) ⟨hx, hb, hml, hown, hts⟩ (c_kj_chk3 l dC dI a b (by exact hx0) (by exact hx1)) (va_cwS 3 hts (gi_S tw_199 tw_200 tw_12 tw_201) rfl rfl rfl (by decide +kernel) ⟨(by rw [← hR]; exact Nat.le_of_ble_eq_true rfl), (by rw [← hR]; exact Nat.le_of_ble_eq_true rfl)⟩) (hP.sub [] rfl) (hK.sub [] rfl) rfl rfl hl.1 (Nat.le_of_ble_eq_true rfl) d_O_checkIndex_3 ⟨Nat.zero_le _, Nat.zero_le _⟩ hP hS hA (fun H locs hP hS => ?_)
  rw [hQ]
  exact W.iret (v := kj_chk3 a b) hx hb hr (fun t ht hW => ⟨⟨_, (), rfl, hres, trivial⟩, hS.F ht⟩) hS.2.2 d_O_checkIndex_6
def kl_ed (g : Nat → Option Nat) (i : Int32) : Option Nat := (g (Int32.toNatClampNeg i))
set_option maxHeartbeats 4000000 in
set_option maxRecDepth 100000 in
theorem c_kl_ed (l : Launch) (dC : Nat → ClassId) (dI : Nat → Nat → Nat) (h0 : Nat) (ed : Nat) (cO : ClassId) (mc : Int32) (sz : Int32) (cap : Nat) (g : Nat → Option Nat) (i : Int32) (hin : vp_in i cap) : pr_q l y_T_elementData w_T_elementData { frames := 0, cells := 0, slots := 0, locals := 0 } (dC, dI) cls9 [(h0, .inr (3, [.int mc, .ref ed, .int sz])), (ed, .inl (cO, cap, .inr (.inr (.inr (.inr g)))))] [(cO, (.object "java/lang/Object"))] [.ref h0, .int i] (kl_ed g i) := by
  intro sz
  refine Met.ofW (cc := b_T_elementData) (maxL := 2) (ret := (some (.object "java/lang/Object"))) (by decide) rfl ?_
  intro p e s m args below meth c s₁ B hml hv
  obtain ⟨hargs, hsz, hP, hK⟩ := hv
  have hx := B.exec
  have hb := B.bytes
  have hr := B.returns
  have hts : ∀ w ∈ lw_w, w.before args s = true := fun w h => atoms_spec (ws := w_T_elementData) B.pre w (List.mem_cons_of_mem _ h)
  have hown : s.vm.findClass R_T = some m.cls := findClass_of_methodNamed B.named
  have hlocks := B.notSynchronized
  subst hsz
  generalize hR : (headSpec w_T_elementData { frames := 0, cells := 0, slots := 0, locals := 0 }).room = R
  generalize hAe : (fun q : Nat => s.heap.size ≤ q) = A
  have hA : ∀ q : Nat, s.heap.size ≤ q → A q := fun q h => by rw [← hAe]; exact h
  have hS : va_S A s.heap s.heap [] := va_S.rf
  generalize hRES : kl_ed g i = RES
  have hres := hRES
  have hl := lv_entry [.ref h0, .int i] (n := 2) (Nat.le_of_ble_eq_true rfl)
  have hent : entryFrame m args 2 = F0 m 0 (lg_sl [.ref h0, .int i] ++ List.replicate (2 - (lg_sl [.ref h0, .int i]).length) Slot.unset).toArray [] := by rw [hargs]; exact lg_entry_eq m [.ref h0, .int i] 2
  rw [hent]
  clear hent
  generalize (lg_sl [.ref h0, .int i] ++ List.replicate (2 - (lg_sl [.ref h0, .int i]).length) Slot.unset).toArray = ls at hl ⊢
  have hl : lv_has ls 2 [(0, .ref h0), (1, .int i)] := hl
  have hP : va_P (dC, dI) cls9 [(h0, .inr (3, [.int mc, .ref ed, .int sz])), (ed, .inl (cO, cap, .inr (.inr (.inr (.inr g)))))] s.heap := hP
  unfold kl_ed at hres
  generalize hQ : MQ below (va_Qq (fun x (_ : Unit) => x = RES) (fun _ _ => True) A) args s 0 0 A = Q
  replace hQ := hQ.symm
  refine lv_aload_n hx hb d_T_elementData_0 rfl (lv_at hl 0 rfl) ?_
  refine va_get (D := (dC, dI)) (ci := 3) (v := .ref ed) (C := R_T) (T := F_T) (N := 3) hx hb hts in_T hown hK hP 0 rfl rfl 1 (by decide) (hts _ tw_43) (fun _ h9 => h9) rfl d_T_elementData_1 ?_
  refine lv_iload_n hx hb d_T_elementData_4 rfl (lv_at hl 1 rfl) ?_
  refine va_aldq hx hb hK hP 1 0 rfl rfl (by exact hin) d_T_elementData_5 ?_
  rw [hQ]
  exact W.aret (v := va_rf (g (Int32.toNatClampNeg i))) hx hb hr (Or.inl ⟨_, rfl⟩) (va_rf_or _) (fun t ht hW => ⟨⟨_, (), rfl, hres, trivial⟩, hS.F ht⟩) hS.2.2 d_T_elementData_6
def kl_get (g : Nat → Option Nat) (i : Int32) : Option Nat := (kl_ed g i)
set_option maxHeartbeats 4000000 in
set_option maxRecDepth 100000 in
theorem c_kl_get (l : Launch) (dC : Nat → ClassId) (dI : Nat → Nat → Nat) (h0 : Nat) (ed : Nat) (cO : ClassId) (mc : Int32) (sz : Int32) (cap : Nat) (g : Nat → Option Nat) (i : Int32) (hin : inl cap sz i) : pr_q l y_T_get w_T_get { frames := 2, cells := 0, slots := 0, locals := 43 } (dC, dI) cls9 [(h0, .inr (3, [.int mc, .ref ed, .int sz])), (ed, .inl (cO, cap, .inr (.inr (.inr (.inr g)))))] [(cO, (.object "java/lang/Object"))] [.ref h0, .int i] (kl_get g i) := by
  intro sz
  refine Met.ofW (cc := b_T_get) (maxL := 2) (ret := (some (.object "java/lang/Object"))) (by decide) rfl ?_
  intro p e s m args below meth c s₁ B hml hv
  obtain ⟨hargs, hsz, hP, hK⟩ := hv
  have hx := B.exec
  have hb := B.bytes
  have hr := B.returns
  have hts : ∀ w ∈ lw_w, w.before args s = true := fun w h => atoms_spec (ws := w_T_get) B.pre w (List.mem_cons_of_mem _ h)
  have hown : s.vm.findClass R_T = some m.cls := findClass_of_methodNamed B.named
  have hlocks := B.notSynchronized
  subst hsz
  generalize hR : (headSpec w_T_get { frames := 2, cells := 0, slots := 0, locals := 43 }).room = R
  generalize hAe : (fun q : Nat => s.heap.size ≤ q) = A
  have hA : ∀ q : Nat, s.heap.size ≤ q → A q := fun q h => by rw [← hAe]; exact h
  have hS : va_S A s.heap s.heap [] := va_S.rf
  generalize hRES : kl_get g i = RES
  have hres := hRES
  have hl := lv_entry [.ref h0, .int i] (n := 2) (Nat.le_of_ble_eq_true rfl)
  have hent : entryFrame m args 2 = F0 m 0 (lg_sl [.ref h0, .int i] ++ List.replicate (2 - (lg_sl [.ref h0, .int i]).length) Slot.unset).toArray [] := by rw [hargs]; exact lg_entry_eq m [.ref h0, .int i] 2
  rw [hent]
  clear hent
  generalize (lg_sl [.ref h0, .int i] ++ List.replicate (2 - (lg_sl [.ref h0, .int i]).length) Slot.unset).toArray = ls at hl ⊢
  have hl : lv_has ls 2 [(0, .ref h0), (1, .int i)] := hl
  have hP : va_P (dC, dI) cls9 [(h0, .inr (3, [.int mc, .ref ed, .int sz])), (ed, .inl (cO, cap, .inr (.inr (.inr (.inr g)))))] s.heap := hP
  unfold kl_get at hres
  generalize hQ : MQ below (va_Qq (fun x (_ : Unit) => x = RES) (fun _ _ => True) A) args s 0 0 A = Q
  replace hQ := hQ.symm
  refine lv_iload_n hx hb d_T_get_0 rfl (lv_at hl 1 rfl) ?_
  refine lv_aload_n hx hb d_T_get_1 rfl (lv_at hl 0 rfl) ?_
  refine va_get (D := (dC, dI)) (ci := 3) (v := .int sz) (C := R_T) (T := F_T) (N := 3) hx hb hts in_T hown hK hP 0 rfl rfl 2 (by decide) (hts _ tw_44) (fun _ h9 => h9) rfl d_T_get_2 ?_
  refine cr_Si (As := [.int i, .int sz]) (rest := []) (w1 := []) (tys := []) ⟨hx, hb, hml, hown, hts⟩ (c_kj_chk l dC dI i sz (by exact inl_0 hin) (by exact inl_lt hin)) (va_cwS 2 hts (gi_S tw_196 tw_197 tw_11 tw_198) rfl rfl rfl (by decide +kernel) ⟨(by rw [← hR]; exact Nat.le_of_ble_eq_true rfl), (by rw [← hR]; exact Nat.le_of_ble_eq_true rfl)⟩) (hP.sub [] rfl) (hK.sub [] rfl) rfl rfl hl.1 (Nat.le_of_ble_eq_true rfl) d_T_get_5 ⟨Nat.zero_le _, Nat.zero_le _⟩ hP hS hA (fun H locs hP hS => ?_)
  refine lv_pop hx hb d_T_get_8 rfl ?_
  refine lv_aload_n hx hb d_T_get_9 rfl (lv_at hl 0 rfl) ?_
  refine lv_iload_n hx hb d_T_get_10 rfl (lv_at hl 1 rfl) ?_
  refine cq_Vq (C := R_T) (T := F_T) (N := 3) (ci := 3) (As := [.int i]) (rest := []) (w1 := [(h0, .inr (3, [.int mc, .ref ed, .int sz])), (ed, .inl (cO, cap, .inr (.inr (.inr (.inr g)))))]) (tys := [(cO, (.object "java/lang/Object"))]) ⟨hx, hb, hml, hown, hts⟩ (c_kl_ed l dC dI h0 ed cO mc sz cap g i (by exact inl_in hin)) (cwV 1 hts (gi_V tw_202 tw_203 tw_204 tw_5 tw_205) rfl rfl rfl (by decide +kernel) ⟨(by rw [← hR]; exact Nat.le_of_ble_eq_true rfl), (by rw [← hR]; exact Nat.le_of_ble_eq_true rfl)⟩) hK (hP.sub [0, 1] rfl) (hK.sub [0] rfl) 0 rfl rfl rfl rfl hl.1 (Nat.le_of_ble_eq_true rfl) d_T_get_11 ⟨Nat.zero_le _, Nat.zero_le _⟩ hP hS hA (fun H locs hP hS => ?_)
  rw [hQ]
  exact W.aret (v := va_rf (kl_ed g i)) hx hb hr (Or.inl ⟨_, rfl⟩) (va_rf_or _) (fun t ht hW => ⟨⟨_, (), rfl, hres, trivial⟩, hS.F ht⟩) hS.2.2 d_T_get_14
def kl_clear_L27 (mc : Int32) (sz : Int32) : Nat → (Int32) → (Nat → Option Nat) → Int32 × Int32 × (Nat → Option Nat)
  | 0, _, _ => (0, 0, fun _ => none)
  | n+1, k, g1 => (if sz ≤ k then (mc + 1, 0, g1) else ((kl_clear_L27 mc sz n) (k + 1) (va_up g1 (Int32.toNatClampNeg k) none)))
def kl_clear (mc : Int32) (sz : Int32) (g : Nat → Option Nat) (cap : Nat) : Int32 × Int32 × (Nat → Option Nat) := (kl_clear_L27 mc sz (cap + 1) 0 g)
set_option maxHeartbeats 4000000 in
set_option maxRecDepth 100000 in
theorem c_kl_clear (l : Launch) (dC : Nat → ClassId) (dI : Nat → Nat → Nat) (h0 : Nat) (ed : Nat) (cO : ClassId) (mc : Int32) (sz : Int32) (g : Nat → Option Nat) (cap : Nat) (hsz9 : lsz cap sz) : mc_v l y_T_clear w_T_clear { frames := 0, cells := 0, slots := 0, locals := 0 } (dC, dI) cls9 [(h0, .inr (3, [.int mc, .ref ed, .int sz])), (ed, .inl (cO, cap, .inr (.inr (.inr (.inr g)))))] [(h0, .inr (3, [.int ((kl_clear mc sz g cap).1), .ref ed, .int ((kl_clear mc sz g cap).2.1)])), (ed, .inl (cO, cap, .inr (.inr (.inr (.inr ((kl_clear mc sz g cap).2.2))))))] [(cO, (.object "java/lang/Object"))] [.ref h0] := by
  intro sz
  refine Met.ofW (cc := b_T_clear) (maxL := 4) (ret := none) (by decide) rfl ?_
  intro p e s m args below meth c s₁ B hml hv
  obtain ⟨hargs, hsz, hP, hK, hD0⟩ := hv
  have hx := B.exec
  have hb := B.bytes
  have hr := B.returns
  have hts : ∀ w ∈ lw_w, w.before args s = true := fun w h => atoms_spec (ws := w_T_clear) B.pre w (List.mem_cons_of_mem _ h)
  have hown : s.vm.findClass R_T = some m.cls := findClass_of_methodNamed B.named
  have hlocks := B.notSynchronized
  subst hsz
  have hD := hD0.self (sz := s.heap.size)
  generalize hR : (headSpec w_T_clear { frames := 0, cells := 0, slots := 0, locals := 0 }).room = R
  generalize hAe : va_A [(h0, .inr (3, [.int mc, .ref ed, .int sz])), (ed, .inl (cO, cap, .inr (.inr (.inr (.inr g)))))] s.heap.size = A at hD ⊢
  have hA : ∀ q : Nat, s.heap.size ≤ q → A q := fun q h => by rw [← hAe]; exact Or.inr h
  have hS : va_S A s.heap s.heap [] := va_S.rf
  generalize hRES : kl_clear mc sz g cap = RES
  have hres := hRES
  have hl := lv_entry [.ref h0] (n := 4) (Nat.le_of_ble_eq_true rfl)
  have hent : entryFrame m args 4 = F0 m 0 (lg_sl [.ref h0] ++ List.replicate (4 - (lg_sl [.ref h0]).length) Slot.unset).toArray [] := by rw [hargs]; exact lg_entry_eq m [.ref h0] 4
  rw [hent]
  clear hent
  generalize (lg_sl [.ref h0] ++ List.replicate (4 - (lg_sl [.ref h0]).length) Slot.unset).toArray = ls at hl ⊢
  have hl : lv_has ls 4 [(0, .ref h0)] := hl
  have hP : va_P (dC, dI) cls9 [(h0, .inr (3, [.int mc, .ref ed, .int sz])), (ed, .inl (cO, cap, .inr (.inr (.inr (.inr g)))))] s.heap := hP
  have hD : va_D A [(h0, .inr (3, [.int mc, .ref ed, .int sz])), (ed, .inl (cO, cap, .inr (.inr (.inr (.inr g)))))] := hD
  clear hD0 hRES hAe
  unfold kl_clear at hres
  generalize hQ : MQ below (va_Qv (fun (_ : Unit) => True) (fun _ t => va_P (dC, dI) cls9 [(h0, .inr (3, [.int RES.1, .ref ed, .int RES.2.1])), (ed, .inl (cO, cap, .inr (.inr (.inr (.inr RES.2.2)))))] t.heap ∧ va_K (dC, dI) cls9 [(cO, (.object "java/lang/Object"))] t ∧ va_D A [(h0, .inr (3, [.int RES.1, .ref ed, .int RES.2.1])), (ed, .inl (cO, cap, .inr (.inr (.inr (.inr RES.2.2)))))]) A) args s 0 0 A = Q
  replace hQ := hQ.symm
  refine lv_aload_n hx hb d_T_clear_0 rfl (lv_at hl 0 rfl) ?_
  refine lv_dup hx hb d_T_clear_1 rfl ?_
  refine va_get (D := (dC, dI)) (ci := 3) (v := .int mc) (C := R_T) (T := F_T) (N := 3) hx hb hts in_T hown hK hP 0 rfl rfl 0 (by decide) (hts _ tw_46) (fun x9 h9 => u_same (hts _ tw_47) x9 h9) rfl d_T_clear_2 ?_
  refine lv_iconst (v := 1) hx hb d_T_clear_5 (by decide) ?_
  refine lv_iadd hx hb d_T_clear_6 ?_
  refine va_put (D := (dC, dI)) (ci := 3) (v := .int (mc + 1)) (ty := .int) (C := R_T) (T := F_T) (N := 3) hx hb hts in_T tf_T tok_T n_T hown hK hP hD hS 0 rfl rfl 0 (by decide) (hts _ tw_46) (fun x9 h9 => u_same (hts _ tw_47) x9 h9) rfl (by decide +kernel) (by rfl) (by rfl) (Nat.le_of_ble_eq_true rfl) d_T_clear_7 (fun H locs hP hD hS => ?_)
  have hP : va_P (dC, dI) cls9 [(h0, .inr (3, [.int (mc + 1), .ref ed, .int sz])), (ed, .inl (cO, cap, .inr (.inr (.inr (.inr g)))))] H := hP
  have hD : va_D A [(h0, .inr (3, [.int (mc + 1), .ref ed, .int sz])), (ed, .inl (cO, cap, .inr (.inr (.inr (.inr g)))))] := hD
  refine lv_aload_n hx hb d_T_clear_10 rfl (lv_at hl 0 rfl) ?_
  refine va_get (D := (dC, dI)) (ci := 3) (v := .ref ed) (C := R_T) (T := F_T) (N := 3) hx hb hts in_T hown hK hP 0 rfl rfl 1 (by decide) (hts _ tw_43) (fun _ h9 => h9) rfl d_T_clear_11 ?_
  refine lv_astore_n (lv' := [(1, .ref ed), (0, .ref h0)]) hx hb d_T_clear_14 rfl hl (by decide) rfl (fun ls hl => ?_)
  refine lv_aload_n hx hb d_T_clear_15 rfl (lv_at hl 1 rfl) ?_
  refine va_get (D := (dC, dI)) (ci := 3) (v := .int sz) (C := R_T) (T := F_T) (N := 3) hx hb hts in_T hown hK hP 0 rfl rfl 2 (by decide) (hts _ tw_44) (fun _ h9 => h9) rfl d_T_clear_16 ?_
  refine lv_istore_n (lv' := [(2, .int sz), (1, .ref ed), (0, .ref h0)]) hx hb d_T_clear_19 rfl hl (by decide) rfl (fun ls hl => ?_)
  refine lv_aload_n hx hb d_T_clear_20 rfl (lv_at hl 2 rfl) ?_
  refine lv_iconst (v := 0) hx hb d_T_clear_21 (by decide) ?_
  refine lv_dup_x1 hx hb d_T_clear_22 rfl rfl ?_
  refine va_put (D := (dC, dI)) (ci := 3) (v := .int 0) (ty := .int) (C := R_T) (T := F_T) (N := 3) hx hb hts in_T tf_T tok_T n_T hown hK hP hD hS 0 rfl rfl 2 (by decide) (hts _ tw_44) (fun _ h9 => h9) rfl (by decide +kernel) (by rfl) (by rfl) (Nat.le_of_ble_eq_true rfl) d_T_clear_23 (fun H locs hP hD hS => ?_)
  have hP : va_P (dC, dI) cls9 [(h0, .inr (3, [.int (mc + 1), .ref ed, .int 0])), (ed, .inl (cO, cap, .inr (.inr (.inr (.inr g)))))] H := hP
  have hD : va_D A [(h0, .inr (3, [.int (mc + 1), .ref ed, .int 0])), (ed, .inl (cO, cap, .inr (.inr (.inr (.inr g)))))] := hD
  refine lv_istore_n (lv' := [(3, .int 0), (2, .int sz), (1, .ref ed), (0, .ref h0)]) hx hb d_T_clear_26 rfl hl (by decide) rfl (fun ls hl => ?_)
  have L27 : ∀ (n : Nat) (k : Int32) (g1 : Nat → Option Nat), (∃ j : Nat, j ≤ cap ∧ k = nI j) → cap - k.toNatClampNeg < n → kl_clear_L27 mc sz n k g1 = RES → ∀ (ls : Array Slot) (H : Heap) (locs : List Loc), lv_has ls 4 [(3, .int k), (2, .int sz), (1, .ref ed)] → va_P (dC, dI) cls9 [(h0, .inr (3, [.int (mc + 1), .ref ed, .int 0])), (ed, .inl (cO, cap, .inr (.inr (.inr (.inr g1)))))] H → va_D A [(h0, .inr (3, [.int (mc + 1), .ref ed, .int 0])), (ed, .inl (cO, cap, .inr (.inr (.inr (.inr g1)))))] → va_S A s.heap H locs → W p l e R s m args below meth c H locs 0 0 Q (F0 m 27 ls []) := by
    intro n
    induction n with
    | zero => intro k g1 hinv hmu; exact absurd hmu (Nat.not_lt_zero _)
    | succ n ih =>
      intro k g1 hinv hmu hres ls H locs hl hP hD hS
      rw [kl_clear_L27] at hres
      refine lv_iload_n hx hb d_T_clear_27 rfl (lv_at hl 0 rfl) ?_
      refine lv_iload_n hx hb d_T_clear_28 rfl (lv_at hl 1 rfl) ?_
      refine lv_icmp_ge (tgt := 42) hx hb d_T_clear_29 rfl (fun h29 => ?_) (fun h29 => ?_)
      · rw [if_pos h29] at hres
        rw [hQ]
        subst hres
        exact W.vret hx hb hr (fun t ht hW => ⟨⟨(), rfl, trivial, ⟨by rw [ht]; exact hP, va_K.moved hW.alike hK, hD⟩⟩, hS.F ht⟩) hS.2.2 d_T_clear_42
      · rw [if_neg h29] at hres
        refine lv_aload_n hx hb d_T_clear_32 rfl (lv_at hl 2 rfl) ?_
        refine lv_iload_n hx hb d_T_clear_33 rfl (lv_at hl 0 rfl) ?_
        refine lv_null hx hb d_T_clear_34 ?_
        refine va_astqN hx hb hK hP hD hS 1 0 rfl rfl (by obtain ⟨j, g1, g2⟩ := hinv; obtain ⟨z9, y1, y2, y3⟩ := hsz9; have g3 : j < z9 := nI_nle_lt (by omega) (by rw [y1, g2] at h29; exact h29); rw [g2]; exact vp_in_nI (by omega) (by omega)) d_T_clear_35 (fun H locs hP hD hS => ?_)
        have hP : va_P (dC, dI) cls9 [(h0, .inr (3, [.int (mc + 1), .ref ed, .int 0])), (ed, .inl (cO, cap, .inr (.inr (.inr (.inr (va_up g1 (Int32.toNatClampNeg k) none))))))] H := hP
        have hD : va_D A [(h0, .inr (3, [.int (mc + 1), .ref ed, .int 0])), (ed, .inl (cO, cap, .inr (.inr (.inr (.inr (va_up g1 (Int32.toNatClampNeg k) none))))))] := hD
        refine lv_iinc (k := 0) (v := k + 1) (lv' := [(3, .int (k + 1)), (2, .int sz), (1, .ref ed)]) hx hb d_T_clear_36 hl rfl rfl (by decide) rfl (fun ls hl => ?_)
        refine lv_goto (tgt := 27) hx hb d_T_clear_39 rfl ?_
        exact ih (k + 1) (va_up g1 (Int32.toNatClampNeg k) none) (by obtain ⟨j, g1, g2⟩ := hinv; obtain ⟨z9, y1, y2, y3⟩ := hsz9; have g3 : j < z9 := nI_nle_lt (by omega) (by rw [y1, g2] at h29; exact h29); exact ⟨j + 1, by omega, by rw [g2, nI_1]⟩) (by obtain ⟨j, g1, g2⟩ := hinv; obtain ⟨z9, y1, y2, y3⟩ := hsz9; have g3 : j < z9 := nI_nle_lt (by omega) (by rw [y1, g2] at h29; exact h29); rw [g2, nI_clamp (by omega)] at hmu; rw [g2, nI_1, nI_clamp (by omega)]; omega) hres ls _ _ (lv_sub hl [0, 1, 2] rfl) hP hD hS
  exact L27 (cap + 1) 0 g (by exact ⟨0, Nat.zero_le _, rfl⟩) (by omega) hres ls _ _ (lv_sub hl [0, 1, 2] rfl) hP hD hS
