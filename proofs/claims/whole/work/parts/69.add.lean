set_option maxHeartbeats 4000000 in
set_option maxRecDepth 100000 in
theorem c_addR2 (l : Launch) (dC : Nat → ClassId) (dI : Nat → Nat → Nat) (h0 t0 mi ed v cap n nv : Nat) (mc : Int32) (cO : ClassId) (g : Nat → Option Nat) (fs : List Value) (pl : va_W) (G : LSt → Prop) (hn : n < cap) (hc : cap ≤ 600) (hev : pl[nv]? = some (v, .inr (1, fs))) (hG : G (mc, n + 1, some (ed, cO, cap, va_up g n (some v)))) : la_v l y_T_add2 w_T_add2 { frames := 5, cells := 0, slots := 0, locals := 119 } (dC, dI) ([(h0, .inr (3, [.int mc, .ref ed, .int (nI n)])), (ed, .inl (cO, cap, .inr (.inr (.inr (.inr g)))))] ++ pl) [(cO, (.object "java/lang/Object"))] [.ref h0, .ref v, .ref ed, .int (nI n)] mi t0 0 0 G h0 pl := by
  intro sz
  refine Met.ofW (cc := b_T_add2) (maxL := 4) (ret := none) (by decide) rfl ?_
  intro p e s m args below meth c s₁ B hml hv
  obtain ⟨hargs, hsz, hP, hK, hD0, hxk, hxz⟩ := hv
  have hx := B.exec
  have hb := B.bytes
  have hr := B.returns
  have hts : ∀ w ∈ lw_w, w.before args s = true := fun w h => atoms_spec (ws := w_T_add2) B.pre w (List.mem_cons_of_mem _ h)
  have hown : s.vm.findClass R_T = some m.cls := findClass_of_methodNamed B.named
  have hlocks := B.notSynchronized
  subst hsz
  have hD := hD0.self (sz := s.heap.size)
  generalize hR : (headSpec w_T_add2 { frames := 5, cells := 0, slots := 0, locals := 119 }).room = R
  generalize hAe : va_A ([(h0, .inr (3, [.int mc, .ref ed, .int (nI n)])), (ed, .inl (cO, cap, .inr (.inr (.inr (.inr g)))))] ++ pl) s.heap.size = A at hD hxz ⊢
  have hA : ∀ q : Nat, s.heap.size ≤ q → A q := fun q h => by rw [← hAe]; exact Or.inr h
  have hS : va_S A s.heap s.heap [] := va_S.rf
  have hl := lv_entry [.ref h0, .ref v, .ref ed, .int (nI n)] (n := 4) (Nat.le_of_ble_eq_true rfl)
  have hent : entryFrame m args 4 = F0 m 0 (lg_sl [.ref h0, .ref v, .ref ed, .int (nI n)] ++ List.replicate (4 - (lg_sl [.ref h0, .ref v, .ref ed, .int (nI n)]).length) Slot.unset).toArray [] := by rw [hargs]; exact lg_entry_eq m [.ref h0, .ref v, .ref ed, .int (nI n)] 4
  rw [hent]
  clear hent
  generalize (lg_sl [.ref h0, .ref v, .ref ed, .int (nI n)] ++ List.replicate (4 - (lg_sl [.ref h0, .ref v, .ref ed, .int (nI n)]).length) Slot.unset).toArray = ls at hl ⊢
  have hl : lv_has ls 4 [(0, .ref h0), (1, .ref v), (2, .ref ed), (3, .int (nI n))] := hl
  have hP : va_P (dC, dI) cls9 ([(h0, .inr (3, [.int mc, .ref ed, .int (nI n)])), (ed, .inl (cO, cap, .inr (.inr (.inr (.inr g)))))] ++ pl) s.heap := hP
  have hD : va_D A ([(h0, .inr (3, [.int mc, .ref ed, .int (nI n)])), (ed, .inl (cO, cap, .inr (.inr (.inr (.inr g)))))] ++ pl) := hD
  generalize hQ : MQ below (va_Qv (fun L : LSt => G L) (fun L t => va_P (dC, dI) cls9 (lwd t0 h0 L ++ pl) t.heap ∧ va_K (dC, dI) cls9 (lty L) t ∧ va_D A (lwd t0 h0 L ++ pl)) A) args s 0 0 A = Q
  replace hQ := hQ.symm
  refine lv_iload_n hx hb d_T_add2_0 rfl (lv_at hl 3 rfl) ?_
  refine lv_aload_n hx hb d_T_add2_1 rfl (lv_at hl 2 rfl) ?_
  refine va_alen (v := Int32.ofNat cap) hx hb hK hP 1 0 rfl rfl rfl d_T_add2_2 ?_
  refine lv_icmp_ne (tgt := 11) hx hb d_T_add2_3 rfl (fun h3 => ?_) (fun h3 => ?_)
  · refine lv_aload_n hx hb d_T_add2_11 rfl (lv_at hl 2 rfl) ?_
    refine lv_iload_n hx hb d_T_add2_12 rfl (lv_at hl 3 rfl) ?_
    refine lv_aload_n hx hb d_T_add2_13 rfl (lv_at hl 1 rfl) ?_
    refine va_astqO (r := (R_A, F_A, 6)) hx hb hK hP hD hS 1 0 _ 1 rfl rfl hxk.2.2.2 (pl_at (X := [(h0, .inr (3, [.int mc, .ref ed, .int (nI n)])), (ed, .inl (cO, cap, .inr (.inr (.inr (.inr g)))))]) hev) rfl (by exact vp_in_nI hn (by omega)) d_T_add2_14 (fun H locs hP hD hS => ?_)
    rw [nI_clamp (show n < 2 ^ 31 by omega)] at hP hD
    have hP : va_P (dC, dI) cls9 ([(h0, .inr (3, [.int mc, .ref ed, .int (nI n)])), (ed, .inl (cO, cap, .inr (.inr (.inr (.inr (va_up g n (some v)))))))] ++ pl) H := hP
    have hD : va_D A ([(h0, .inr (3, [.int mc, .ref ed, .int (nI n)])), (ed, .inl (cO, cap, .inr (.inr (.inr (.inr (va_up g n (some v)))))))] ++ pl) := hD
    refine lv_aload_n hx hb d_T_add2_15 rfl (lv_at hl 0 rfl) ?_
    refine lv_iload_n hx hb d_T_add2_16 rfl (lv_at hl 3 rfl) ?_
    refine lv_iconst (v := 1) hx hb d_T_add2_17 (by decide) ?_
    refine lv_iadd hx hb d_T_add2_18 ?_
    rw [nI_1]
    refine va_put (D := (dC, dI)) (ci := 3) (v := .int (nI (n + 1))) (ty := .int) (C := R_T) (T := F_T) (N := 3) hx hb hts in_T tf_T tok_T n_T hown hK hP hD hS 0 rfl rfl 2 (by decide) (hts _ tw_44) (fun _ h9 => h9) rfl (by decide +kernel) (by rfl) (by rfl) (Nat.le_of_ble_eq_true rfl) d_T_add2_19 (fun H locs hP hD hS => ?_)
    have hP : va_P (dC, dI) cls9 ([(h0, .inr (3, [.int mc, .ref ed, .int (nI (n + 1))])), (ed, .inl (cO, cap, .inr (.inr (.inr (.inr (va_up g n (some v)))))))] ++ pl) H := hP
    have hD : va_D A ([(h0, .inr (3, [.int mc, .ref ed, .int (nI (n + 1))])), (ed, .inl (cO, cap, .inr (.inr (.inr (.inr (va_up g n (some v)))))))] ++ pl) := hD
    refine W.widen (k := 0) (n := 0) (by first | exact Nat.le_refl _ | omega) (by first | exact Nat.le_refl _ | omega) ?_
    rw [hQ]
    exact W.vret hx hb hr (fun t ht hW => ⟨⟨(mc, n + 1, some (ed, cO, cap, va_up g n (some v))), rfl, hG, by rw [ht]; exact hP.part [0, 1] rfl, va_K.moved hW.alike (hK.sub [0] rfl), hD.part [0, 1] (by decide) rfl⟩, hS.F ht⟩) hS.2.2 d_T_add2_22
  · exact absurd h3 (by exact fun z => absurd ((nI_eq (show n < 2 ^ 31 by omega) (show cap < 2 ^ 31 by omega)).mp z) (by omega))
set_option maxHeartbeats 4000000 in
set_option maxRecDepth 100000 in
theorem c_addG2 (l : Launch) (dC : Nat → ClassId) (dI : Nat → Nat → Nat) (h0 t0 mi ed v cap nv : Nat) (mc : Int32) (cO : ClassId) (g : Nat → Option Nat) (fs : List Value) (pl : va_W) (G : LSt → Prop) (h2 : 2 ≤ cap) (hc : cap ≤ 600) (hall : ∀ i : Nat, i < cap → ∀ y : Nat, g i = some y → ∃ (n : Nat) (fs : List Value), pl[n]? = some (y, .inr (1, fs))) (hev : pl[nv]? = some (v, .inr (1, fs))) (hG : ∀ (u : ClassId) (a : Nat), G (mc, cap + 1, some (a, u, (cap + cap / 2), va_up (va_cpy g (fun _ => none) 0 0 cap) cap (some v)))) : la_v l y_T_add2 w_T_add2 { frames := 5, cells := 1, slots := (cap + cap / 2), locals := 119 } (dC, dI) ([(h0, .inr (3, [.int mc, .ref ed, .int (nI cap)])), (ed, .inl (cO, cap, .inr (.inr (.inr (.inr g)))))] ++ pl) [(cO, (.object "java/lang/Object"))] [.ref h0, .ref v, .ref ed, .int (nI cap)] mi t0 1 (cap + cap / 2) G h0 pl := by
  intro sz
  refine Met.ofW (cc := b_T_add2) (maxL := 4) (ret := none) (by decide) rfl ?_
  intro p e s m args below meth c s₁ B hml hv
  obtain ⟨hargs, hsz, hP, hK, hD0, hxk, hxz⟩ := hv
  have hx := B.exec
  have hb := B.bytes
  have hr := B.returns
  have hts : ∀ w ∈ lw_w, w.before args s = true := fun w h => atoms_spec (ws := w_T_add2) B.pre w (List.mem_cons_of_mem _ h)
  have hown : s.vm.findClass R_T = some m.cls := findClass_of_methodNamed B.named
  have hlocks := B.notSynchronized
  subst hsz
  have hD := hD0.self (sz := s.heap.size)
  generalize hR : (headSpec w_T_add2 { frames := 5, cells := 1, slots := (cap + cap / 2), locals := 119 }).room = R
  generalize hAe : va_A ([(h0, .inr (3, [.int mc, .ref ed, .int (nI cap)])), (ed, .inl (cO, cap, .inr (.inr (.inr (.inr g)))))] ++ pl) s.heap.size = A at hD hxz ⊢
  have hA : ∀ q : Nat, s.heap.size ≤ q → A q := fun q h => by rw [← hAe]; exact Or.inr h
  have hS : va_S A s.heap s.heap [] := va_S.rf
  have hl := lv_entry [.ref h0, .ref v, .ref ed, .int (nI cap)] (n := 4) (Nat.le_of_ble_eq_true rfl)
  have hent : entryFrame m args 4 = F0 m 0 (lg_sl [.ref h0, .ref v, .ref ed, .int (nI cap)] ++ List.replicate (4 - (lg_sl [.ref h0, .ref v, .ref ed, .int (nI cap)]).length) Slot.unset).toArray [] := by rw [hargs]; exact lg_entry_eq m [.ref h0, .ref v, .ref ed, .int (nI cap)] 4
  rw [hent]
  clear hent
  generalize (lg_sl [.ref h0, .ref v, .ref ed, .int (nI cap)] ++ List.replicate (4 - (lg_sl [.ref h0, .ref v, .ref ed, .int (nI cap)]).length) Slot.unset).toArray = ls at hl ⊢
  have hl : lv_has ls 4 [(0, .ref h0), (1, .ref v), (2, .ref ed), (3, .int (nI cap))] := hl
  have hP : va_P (dC, dI) cls9 ([(h0, .inr (3, [.int mc, .ref ed, .int (nI cap)])), (ed, .inl (cO, cap, .inr (.inr (.inr (.inr g)))))] ++ pl) s.heap := hP
  have hD : va_D A ([(h0, .inr (3, [.int mc, .ref ed, .int (nI cap)])), (ed, .inl (cO, cap, .inr (.inr (.inr (.inr g)))))] ++ pl) := hD
  generalize hQ : MQ below (va_Qv (fun L : LSt => G L) (fun L t => va_P (dC, dI) cls9 (lwd t0 h0 L ++ pl) t.heap ∧ va_K (dC, dI) cls9 (lty L) t ∧ va_D A (lwd t0 h0 L ++ pl)) A) args s 1 (cap + cap / 2) A = Q
  replace hQ := hQ.symm
  refine lv_iload_n hx hb d_T_add2_0 rfl (lv_at hl 3 rfl) ?_
  refine lv_aload_n hx hb d_T_add2_1 rfl (lv_at hl 2 rfl) ?_
  refine va_alen (v := Int32.ofNat cap) hx hb hK hP 1 0 rfl rfl rfl d_T_add2_2 ?_
  refine lv_icmp_ne (tgt := 11) hx hb d_T_add2_3 rfl (fun h3 => ?_) (fun h3 => ?_)
  · exact absurd h3 (by exact fun z => z rfl)
  · refine lv_aload_n hx hb d_T_add2_6 rfl (lv_at hl 0 rfl) ?_
    refine cal_r (cx := [(h0, .inr (3, [.int mc, .ref ed, .int (nI cap)])), (ed, .inl (cO, cap, .inr (.inr (.inr (.inr g)))))]) (wr := []) (pl := pl) (rx := fun u a => [(h0, .inr (3, [.int mc, .ref a, .int (nI cap)])), (a, .inl (u, (cap + cap / 2), .inr (.inr (.inr (.inr (va_cpy g (fun _ => none) 0 0 cap))))))]) (va_runV (g := F0 m 7 ls [.ref h0]) (As := []) (rest := []) ⟨hx, hb, hml, hown, hts⟩ (c_growB0 l dC dI h0 ed mi cap mc cO g pl h2 hc hall _) (cwV 0 hts (gi_V tw_137 tw_139 ts_3 tw_5 tw_140) rfl rfl rfl (by decide +kernel) ⟨(by rw [← hR]; exact Nat.le_of_ble_eq_true rfl), (by rw [← hR]; exact Nat.le_of_ble_eq_true rfl)⟩) ⟨al_blind, va_recv (ci := 3) (q := (R_T, F_T, 3)) hK hP rfl (q0 := 0) rfl, al_pre (hP.part [0, 1] rfl) hK (hD.part [0, 1] (by decide) rfl) hxk⟩ rfl rfl hl.1 rfl (lv_room (Nat.le_of_ble_eq_true rfl)) d_T_add2_7 ⟨by rw [← hR]; show 0 + 1 ≤ 1; omega, by rw [← hR]; show 0 + (cap + cap / 2) ≤ (cap + cap / 2); omega⟩) hP hD hS hA [0, 1] [] rfl rfl (by decide) (by decide) (fun u7 a7 H locs hK hP hD hS => ?_)
    have hP : va_P (dC, dI) cls9 ([(h0, .inr (3, [.int mc, .ref a7, .int (nI cap)])), (a7, .inl (u7, (cap + cap / 2), .inr (.inr (.inr (.inr (va_cpy g (fun _ => none) 0 0 cap))))))] ++ pl) H := hP
    have hD : va_D A ([(h0, .inr (3, [.int mc, .ref a7, .int (nI cap)])), (a7, .inl (u7, (cap + cap / 2), .inr (.inr (.inr (.inr (va_cpy g (fun _ => none) 0 0 cap))))))] ++ pl) := hD
    have hK : va_K (dC, dI) cls9 [(cO, (.object "java/lang/Object")), (u7, (.object "java/lang/Object"))] s := hK
    refine lv_astore_n (lv' := [(2, .ref a7), (0, .ref h0), (1, .ref v), (3, .int (nI cap))]) hx hb d_T_add2_10 rfl hl (by decide) rfl (fun ls hl => ?_)
    refine lv_aload_n hx hb d_T_add2_11 rfl (lv_at hl 0 rfl) ?_
    refine lv_iload_n hx hb d_T_add2_12 rfl (lv_at hl 3 rfl) ?_
    refine lv_aload_n hx hb d_T_add2_13 rfl (lv_at hl 2 rfl) ?_
    refine va_astqO (r := (R_A, F_A, 6)) hx hb hK hP hD hS 1 1 _ 1 rfl rfl hxk.2.2.2 (pl_at (X := [(h0, .inr (3, [.int mc, .ref a7, .int (nI cap)])), (a7, .inl (u7, (cap + cap / 2), .inr (.inr (.inr (.inr (va_cpy g (fun _ => none) 0 0 cap))))))]) hev) rfl (by exact vp_in_nI (show cap < (cap + cap / 2) by omega) (by omega)) d_T_add2_14 (fun H locs hP hD hS => ?_)
    rw [nI_clamp (show cap < 2 ^ 31 by omega)] at hP hD
    have hP : va_P (dC, dI) cls9 ([(h0, .inr (3, [.int mc, .ref a7, .int (nI cap)])), (a7, .inl (u7, (cap + cap / 2), .inr (.inr (.inr (.inr (va_up (va_cpy g (fun _ => none) 0 0 cap) cap (some v)))))))] ++ pl) H := hP
    have hD : va_D A ([(h0, .inr (3, [.int mc, .ref a7, .int (nI cap)])), (a7, .inl (u7, (cap + cap / 2), .inr (.inr (.inr (.inr (va_up (va_cpy g (fun _ => none) 0 0 cap) cap (some v)))))))] ++ pl) := hD
    refine lv_aload_n hx hb d_T_add2_15 rfl (lv_at hl 1 rfl) ?_
    refine lv_iload_n hx hb d_T_add2_16 rfl (lv_at hl 3 rfl) ?_
    refine lv_iconst (v := 1) hx hb d_T_add2_17 (by decide) ?_
    refine lv_iadd hx hb d_T_add2_18 ?_
    rw [nI_1]
    refine va_put (D := (dC, dI)) (ci := 3) (v := .int (nI (cap + 1))) (ty := .int) (C := R_T) (T := F_T) (N := 3) hx hb hts in_T tf_T tok_T n_T hown hK hP hD hS 0 rfl rfl 2 (by decide) (hts _ tw_44) (fun _ h9 => h9) rfl (by decide +kernel) (by rfl) (by rfl) (Nat.le_of_ble_eq_true rfl) d_T_add2_19 (fun H locs hP hD hS => ?_)
    have hP : va_P (dC, dI) cls9 ([(h0, .inr (3, [.int mc, .ref a7, .int (nI (cap + 1))])), (a7, .inl (u7, (cap + cap / 2), .inr (.inr (.inr (.inr (va_up (va_cpy g (fun _ => none) 0 0 cap) cap (some v)))))))] ++ pl) H := hP
    have hD : va_D A ([(h0, .inr (3, [.int mc, .ref a7, .int (nI (cap + 1))])), (a7, .inl (u7, (cap + cap / 2), .inr (.inr (.inr (.inr (va_up (va_cpy g (fun _ => none) 0 0 cap) cap (some v)))))))] ++ pl) := hD
    refine W.widen (k := 1) (n := (cap + cap / 2)) (by first | exact Nat.le_refl _ | omega) (by first | exact Nat.le_refl _ | omega) ?_
    rw [hQ]
    exact W.vret hx hb hr (fun t ht hW => ⟨⟨(mc, cap + 1, some (a7, u7, (cap + cap / 2), va_up (va_cpy g (fun _ => none) 0 0 cap) cap (some v))), rfl, hG u7 a7, by rw [ht]; exact hP.part [0, 1] rfl, va_K.moved hW.alike (hK.sub [1] rfl), hD.part [0, 1] (by decide) rfl⟩, hS.F ht⟩) hS.2.2 d_T_add2_22
set_option maxHeartbeats 4000000 in
set_option maxRecDepth 100000 in
theorem c_addF2 (l : Launch) (dC : Nat → ClassId) (dI : Nat → Nat → Nat) (h0 t0 mi v nv : Nat) (mc : Int32) (fs : List Value) (pl : va_W) (G : LSt → Prop) (hev : pl[nv]? = some (v, .inr (1, fs))) (hG : ∀ (u : ClassId) (a : Nat), G (mc, 1, some (a, u, 10, va_up (fun _ => none) 0 (some v)))) : la_v l y_T_add2 w_T_add2 { frames := 5, cells := 1, slots := 10, locals := 119 } (dC, dI) ([(h0, .inr (3, [.int mc, .ref t0, .int 0]))] ++ pl) [] [.ref h0, .ref v, .ref t0, .int 0] mi t0 1 10 G h0 pl := by
  intro sz
  refine Met.ofW (cc := b_T_add2) (maxL := 4) (ret := none) (by decide) rfl ?_
  intro p e s m args below meth c s₁ B hml hv
  obtain ⟨hargs, hsz, hP, hK, hD0, hxk, hxz⟩ := hv
  have hx := B.exec
  have hb := B.bytes
  have hr := B.returns
  have hts : ∀ w ∈ lw_w, w.before args s = true := fun w h => atoms_spec (ws := w_T_add2) B.pre w (List.mem_cons_of_mem _ h)
  have hown : s.vm.findClass R_T = some m.cls := findClass_of_methodNamed B.named
  have hlocks := B.notSynchronized
  subst hsz
  have hD := hD0.self (sz := s.heap.size)
  generalize hR : (headSpec w_T_add2 { frames := 5, cells := 1, slots := 10, locals := 119 }).room = R
  generalize hAe : va_A ([(h0, .inr (3, [.int mc, .ref t0, .int 0]))] ++ pl) s.heap.size = A at hD hxz ⊢
  have hA : ∀ q : Nat, s.heap.size ≤ q → A q := fun q h => by rw [← hAe]; exact Or.inr h
  have hS : va_S A s.heap s.heap [] := va_S.rf
  have hl := lv_entry [.ref h0, .ref v, .ref t0, .int 0] (n := 4) (Nat.le_of_ble_eq_true rfl)
  have hent : entryFrame m args 4 = F0 m 0 (lg_sl [.ref h0, .ref v, .ref t0, .int 0] ++ List.replicate (4 - (lg_sl [.ref h0, .ref v, .ref t0, .int 0]).length) Slot.unset).toArray [] := by rw [hargs]; exact lg_entry_eq m [.ref h0, .ref v, .ref t0, .int 0] 4
  rw [hent]
  clear hent
  generalize (lg_sl [.ref h0, .ref v, .ref t0, .int 0] ++ List.replicate (4 - (lg_sl [.ref h0, .ref v, .ref t0, .int 0]).length) Slot.unset).toArray = ls at hl ⊢
  have hl : lv_has ls 4 [(0, .ref h0), (1, .ref v), (2, .ref t0), (3, .int 0)] := hl
  have hP : va_P (dC, dI) cls9 ([(h0, .inr (3, [.int mc, .ref t0, .int 0]))] ++ pl) s.heap := hP
  have hD : va_D A ([(h0, .inr (3, [.int mc, .ref t0, .int 0]))] ++ pl) := hD
  generalize hQ : MQ below (va_Qv (fun L : LSt => G L) (fun L t => va_P (dC, dI) cls9 (lwd t0 h0 L ++ pl) t.heap ∧ va_K (dC, dI) cls9 (lty L) t ∧ va_D A (lwd t0 h0 L ++ pl)) A) args s 1 10 A = Q
  replace hQ := hQ.symm
  refine lv_iload_n hx hb d_T_add2_0 rfl (lv_at hl 3 rfl) ?_
  refine lv_aload_n hx hb d_T_add2_1 rfl (lv_at hl 2 rfl) ?_
  refine va_tlen (v := 0) hx hb hxz.2 hS rfl d_T_add2_2 ?_
  refine lv_icmp_ne (tgt := 11) hx hb d_T_add2_3 rfl (fun h3 => ?_) (fun h3 => ?_)
  · exact absurd h3 (by exact fun z => z rfl)
  · refine lv_aload_n hx hb d_T_add2_6 rfl (lv_at hl 0 rfl) ?_
    refine cal_r (cx := [(h0, .inr (3, [.int mc, .ref t0, .int 0]))]) (wr := []) (pl := pl) (rx := fun u a => [(h0, .inr (3, [.int mc, .ref a, .int 0])), (a, .inl (u, 10, .inr (.inr (.inr (.inr (fun _ => none))))))]) (va_runV (g := F0 m 7 ls [.ref h0]) (As := []) (rest := []) ⟨hx, hb, hml, hown, hts⟩ (c_growA0 l dC dI h0 t0 mi mc pl _) (cwV 0 hts (gi_V tw_137 tw_139 ts_3 tw_5 tw_140) rfl rfl rfl (by decide +kernel) ⟨(by rw [← hR]; exact Nat.le_of_ble_eq_true rfl), (by rw [← hR]; exact Nat.le_of_ble_eq_true rfl)⟩) ⟨az_blind, va_recv (ci := 3) (q := (R_T, F_T, 3)) hK hP rfl (q0 := 0) rfl, az_pre (hP.part [0] rfl) hK (hD.part [0] (by decide) rfl) hxk hxz hS (va_freeP hD hS hA [0] rfl)⟩ rfl rfl hl.1 rfl (lv_room (Nat.le_of_ble_eq_true rfl)) d_T_add2_7 ⟨by rw [← hR]; show 0 + 1 ≤ 1; omega, by rw [← hR]; show 0 + 10 ≤ 10; omega⟩) hP hD hS hA [0] [] rfl rfl (by decide) (by decide) (fun u7 a7 H locs hK hP hD hS => ?_)
    have hP : va_P (dC, dI) cls9 ([(h0, .inr (3, [.int mc, .ref a7, .int 0])), (a7, .inl (u7, 10, .inr (.inr (.inr (.inr (fun _ => none))))))] ++ pl) H := hP
    have hD : va_D A ([(h0, .inr (3, [.int mc, .ref a7, .int 0])), (a7, .inl (u7, 10, .inr (.inr (.inr (.inr (fun _ => none))))))] ++ pl) := hD
    have hK : va_K (dC, dI) cls9 [(u7, (.object "java/lang/Object"))] s := hK
    refine lv_astore_n (lv' := [(2, .ref a7), (0, .ref h0), (1, .ref v), (3, .int 0)]) hx hb d_T_add2_10 rfl hl (by decide) rfl (fun ls hl => ?_)
    refine lv_aload_n hx hb d_T_add2_11 rfl (lv_at hl 0 rfl) ?_
    refine lv_iload_n hx hb d_T_add2_12 rfl (lv_at hl 3 rfl) ?_
    refine lv_aload_n hx hb d_T_add2_13 rfl (lv_at hl 2 rfl) ?_
    refine va_astqO (r := (R_A, F_A, 6)) hx hb hK hP hD hS 1 0 _ 1 rfl rfl hxk.2.2.2 (pl_at (X := [(h0, .inr (3, [.int mc, .ref a7, .int 0])), (a7, .inl (u7, 10, .inr (.inr (.inr (.inr (fun _ => none))))))]) hev) rfl (by exact vp_in_nI (show 0 < 10 by decide) (by decide)) d_T_add2_14 (fun H locs hP hD hS => ?_)
    rw [sb_cl0] at hP hD
    have hP : va_P (dC, dI) cls9 ([(h0, .inr (3, [.int mc, .ref a7, .int 0])), (a7, .inl (u7, 10, .inr (.inr (.inr (.inr (va_up (fun _ => none) 0 (some v)))))))] ++ pl) H := hP
    have hD : va_D A ([(h0, .inr (3, [.int mc, .ref a7, .int 0])), (a7, .inl (u7, 10, .inr (.inr (.inr (.inr (va_up (fun _ => none) 0 (some v)))))))] ++ pl) := hD
    refine lv_aload_n hx hb d_T_add2_15 rfl (lv_at hl 1 rfl) ?_
    refine lv_iload_n hx hb d_T_add2_16 rfl (lv_at hl 3 rfl) ?_
    refine lv_iconst (v := 1) hx hb d_T_add2_17 (by decide) ?_
    refine lv_iadd hx hb d_T_add2_18 ?_
    rw [show (0 : Int32) + 1 = nI 1 by decide]
    refine va_put (D := (dC, dI)) (ci := 3) (v := .int (nI 1)) (ty := .int) (C := R_T) (T := F_T) (N := 3) hx hb hts in_T tf_T tok_T n_T hown hK hP hD hS 0 rfl rfl 2 (by decide) (hts _ tw_44) (fun _ h9 => h9) rfl (by decide +kernel) (by rfl) (by rfl) (Nat.le_of_ble_eq_true rfl) d_T_add2_19 (fun H locs hP hD hS => ?_)
    have hP : va_P (dC, dI) cls9 ([(h0, .inr (3, [.int mc, .ref a7, .int (nI 1)])), (a7, .inl (u7, 10, .inr (.inr (.inr (.inr (va_up (fun _ => none) 0 (some v)))))))] ++ pl) H := hP
    have hD : va_D A ([(h0, .inr (3, [.int mc, .ref a7, .int (nI 1)])), (a7, .inl (u7, 10, .inr (.inr (.inr (.inr (va_up (fun _ => none) 0 (some v)))))))] ++ pl) := hD
    refine W.widen (k := 1) (n := 10) (by first | exact Nat.le_refl _ | omega) (by first | exact Nat.le_refl _ | omega) ?_
    rw [hQ]
    exact W.vret hx hb hr (fun t ht hW => ⟨⟨(mc, 1, some (a7, u7, 10, va_up (fun _ => none) 0 (some v))), rfl, hG u7 a7, by rw [ht]; exact hP.part [0, 1] rfl, va_K.moved hW.alike (hK.sub [0] rfl), hD.part [0, 1] (by decide) rfl⟩, hS.F ht⟩) hS.2.2 d_T_add2_22
